def pcn (Z : Nat) : Nat := Z % 2 + Z / 2 % 2 + Z / 4 % 2 + Z / 8 % 2 + Z / 16 % 2 + Z / 32 % 2 + Z / 64 % 2 + Z / 128 % 2
def bc1 (x : Int32) : Int32 := x - (hs_u x (nI 1) &&& nI 1431655765)
def bc2 (x : Int32) : Int32 := (x &&& nI 858993459) + (hs_u x (nI 2) &&& nI 858993459)
def bc3 (x : Int32) : Int32 := (x + hs_u x (nI 4)) &&& nI 252645135
def bc4 (x : Int32) : Int32 := x + hs_u x (nI 8)
def bc5 (x : Int32) : Int32 := x + hs_u x (nI 16)
def bcE (x : Int32) : Int32 := bc5 (bc4 (bc3 (bc2 (bc1 x)))) &&& nI 63
theorem bcE_ok : ∀ Z, Z < 256 → bcE (nI Z) = nI (pcn Z) := by decide +kernel
theorem pcn_or : ∀ Z, Z < 256 → ∀ v, v < 8 → pcn (Z ||| 2 ^ v) ≤ pcn Z + 1 := by decide +kernel
theorem pcn_nb : ∀ Z, Z < 256 → ∀ v, v < 8 → Z.testBit v = false → pcn (Z ||| 2 ^ v) = pcn Z + 1 := by decide +kernel
theorem pcn_lt : ∀ Z, Z < 255 → pcn Z < 8 := by decide +kernel
theorem or_lt : ∀ Z, Z < 256 → ∀ v, v < 8 → Z ||| 2 ^ v < 256 := by decide +kernel
theorem or_ltm {m Z v : Nat} (hZ : Z < 2 ^ m) (hv : v < m) : Z ||| 2 ^ v < 2 ^ m := Nat.or_lt_two_pow hZ (Nat.pow_lt_pow_right (by decide) hv)
theorem or_gt : ∀ Z, Z < 256 → ∀ v, v < 8 → Z.testBit v = false → Z < Z ||| 2 ^ v := by decide +kernel
/-- whether a number is free at the place that a set of used ones comes to -/
def fre (am : Nat → Nat) (Z v : Nat) : Bool := (am (pcn Z)).testBit v && !Z.testBit v
theorem tb_dm (Z v : Nat) : Z / 2 ^ v % 2 = if Z.testBit v = true then 1 else 0 := by
  rw [Nat.testBit_eq_decide_div_mod_eq]
  by_cases h : Z / 2 ^ v % 2 = 1
  · rw [if_pos (decide_eq_true h)]; exact h
  · rw [if_neg (by rw [decide_eq_false h]; decide)]; omega
theorem am_and {a Z : Nat} (ha : a < 256) : nI a &&& (nI Z ^^^ (-1)) = nI (a &&& (255 ^^^ Z)) := by
  rw [← nx_and, ← nx_xor]
  apply b_ext
  intro i hi
  rw [b_and, b_and, b_xor, b_xor, b_m1 i hi]
  have h255 : bt (nI 255) i = decide (i < 8) := b_255 i
  rw [h255]
  by_cases h8 : i < 8
  · rw [decide_eq_true h8, Bool.xor_comm]
  · have : bt (nI a) i = false := by
      unfold bt
      show (BitVec.ofNat 32 a).getLsbD i = false
      rw [BitVec.getLsbD_ofNat]
      have h9 : a.testBit i = false := Nat.testBit_lt_two_pow (Nat.lt_of_lt_of_le ha (by
        show 2 ^ 8 ≤ 2 ^ i
        exact Nat.pow_le_pow_right (by decide) (by omega)))
      rw [h9, Bool.and_false]
    rw [this, Bool.false_and, Bool.false_and]
theorem fre_bit {a Z v : Nat} (ha : a < 256) (hv : v < 8) : (a &&& (255 ^^^ Z)).testBit v = (a.testBit v && !Z.testBit v) := by
  rw [Nat.testBit_and, Nat.testBit_xor]
  have h : (255 : Nat).testBit v = true := by
    have : ∀ v, v < 8 → (255 : Nat).testBit v = true := by decide
    exact this v hv
  rw [h]
  cases Z.testBit v <;> rfl
def gA (am : Nat → Nat) (C : pw_C) : Prop := ∀ p, p < 8 → am p < 256 ∧ C.1 14 p = nI (am p)
theorem gA_B {am : Nat → Nat} {ks : Nat → Prop} {C C' : pw_C} (h : gA am C) (hB : pw_B ks C C') (hk : ¬ ks 14) : gA am C' := fun p hp => by
  rw [(hB.1 _ hk).1]; exact h p hp
def wbS (am : Nat → Nat) (wy : Nat → Int32) (Z : Nat) : Nat → Int32
  | 0 => 0
  | v + 1 => if fre am Z v = true then wbS am wy Z v + wy (Z ||| 2 ^ v) else wbS am wy Z v
def wyD (am : Nat → Nat) (m : Nat) : Nat → Nat → Int32
  | 0 => fun Z => if Z = 2 ^ m - 1 then 1 else 0
  | k + 1 => fun Z => if Z = 2 ^ m - 1 - (k + 1) then wbS am (wyD am m k) Z m else wyD am m k Z
def wyF (am : Nat → Nat) (m : Nat) : Nat → Int32 := wyD am m (2 ^ m - 1)
def nnF (wb : Nat → Int32) (left : Int32) : Nat → Nat → Nat
  | 0, v => v
  | f + 1, v => if wb (v + 1) ≤ left then nnF wb left f (v + 1) else v
theorem nnF_le (wb : Nat → Int32) (left : Int32) : ∀ f v, nnF wb left f v ≤ v + f := by
  intro f
  induction f with
  | zero => intro v; exact Nat.le_refl _
  | succ f ih =>
    intro v
    unfold nnF
    split
    · have := ih (v + 1); omega
    · omega
def aplF (am : Nat → Nat) (m : Nat) : Nat → Nat → Int32 → Nat
  | 0, _, _ => 0
  | 1, Z, left => nnF (wbS am (wyF am m) Z) left (m - 1) 0
  | f + 2, Z, left => aplF am m (f + 1) (Z ||| 2 ^ nnF (wbS am (wyF am m) Z) left (m - 1) 0) (left - wbS am (wyF am m) Z (nnF (wbS am (wyF am m) Z) left (m - 1) 0))
/-- place k of a permutation given by its bits -/
def dg (q : Int32) (k : Nat) : Nat := q.toBitVec.toNat / 2 ^ (3 * k) % 8
theorem dg_lt (q : Int32) (k : Nat) : dg q k < 8 := Nat.mod_lt _ (by decide)
theorem dg_c (q : Int32) {k : Nat} (hk : 3 * k < 32) : hs_u q (nI (3 * k)) &&& nI 7 = nI (dg q k) := by
  rw [pk_and (hs_u q (nI (3 * k))) (m := nI 7) 3 (by decide), hs_u_nat q (3 * k) hk]
  rfl
def pnF (am : Nat → Nat) (m : Nat) (q : Int32) : Nat → Nat → Nat → Int32 → Int32
  | 0, _, _, num => num
  | f + 1, k, Z, num => if dg q k < m ∧ fre am Z (dg q k) = true then pnF am m q f (k + 1) (Z ||| 2 ^ dg q k) (num + wbS am (wyF am m) Z (dg q k)) else (-2)
theorem pow8 {m : Nat} (h : m ≤ 8) : 2 ^ m ≤ 256 := Nat.le_trans (Nat.pow_le_pow_right (by decide) h) (by decide)
theorem wyD_ge {am : Nat → Nat} {m : Nat} : ∀ k j Z, k ≤ j → 2 ^ m - 1 - k ≤ Z → j ≤ 2 ^ m - 1 → Z < 2 ^ m → wyD am m j Z = wyD am m k Z := by
  intro k j Z hkj hZ hj hZ2
  induction j with
  | zero => obtain rfl : k = 0 := by omega
            rfl
  | succ j ih =>
    rcases Nat.lt_or_ge j k with q | q
    · obtain rfl : k = j + 1 := by omega
      rfl
    · show (if Z = 2 ^ m - 1 - (j + 1) then _ else wyD am m j Z) = _
      rw [if_neg (by omega)]
      exact ih q (by omega)

set_option maxHeartbeats 4000000 in
set_option maxRecDepth 100000 in
theorem c_J6_bitCount_0f7a4 (l : Launch) (x : Int32) : Met l yJ6_bitCount_0f7a4 wsJ6_bitCount_0f7a4 (k2_rm 0 0) (fun v _ => v = ([.int x]).toArray) (k2_QcV (.int (bcE x))) 0 0 (fun _ => False) := by
  refine Met.ofW (cc := cJ6_bitCount_0f7a4) (maxL := 1) (ret := (some .int)) (by decide) rfl ?_
  intro p e s m args below meth c s₁ B hml hv
  obtain rfl := hv
  have hx := B.exec
  have hb := B.bytes
  have hr := B.returns
  have hts := atoms_spec (ws := wsJ6_bitCount_0f7a4) B.pre
  have hown : s.vm.findClass RJ6 = some m.cls := findClass_of_methodNamed B.named
  have hlocks := B.notSynchronized
  have S : CallFix p m c cJ6_bitCount_0f7a4 1 s ([.int x]).toArray wsJ6_bitCount_0f7a4 RJ6 := ⟨hx, hb, hml, hown, hts⟩
  change W p l e (k2_rm 0 0) s m _ below meth c s.heap [] 0 0 _ _
  have hl := lv_entry ([.int x]) (n := 1) (Nat.le_of_ble_eq_true rfl)
  rw [lg_entry_eq]
  generalize (lg_sl ([.int x]) ++ List.replicate (1 - (lg_sl ([.int x])).length) Slot.unset).toArray = ls at hl ⊢
  have hl : lv_has ls 1 [(0, .int x)] := hl
  refine lv_iload_n hx hb dJ6_bitCount_0f7a4_0 rfl (lv_at hl 0 rfl) ?_
  refine lv_iload_n hx hb dJ6_bitCount_0f7a4_1 rfl (lv_at hl 0 rfl) ?_
  refine lv_iconst (v := nI 1) hx hb dJ6_bitCount_0f7a4_2 (by decide) ?_
  refine lv_iushr (v := hs_u x (nI 1)) hx hb dJ6_bitCount_0f7a4_3 rfl ?_
  refine lv_ldcw hx hb hown (hts (.constant RJ6 265 (1431655765)) (List.mem_of_getElem? (i := 1) rfl)) dJ6_bitCount_0f7a4_4 ?_
  refine pw_topi (y := nI 1431655765) (by decide) ?_
  refine lv_iand hx hb dJ6_bitCount_0f7a4_7 ?_
  refine lv_isub hx hb dJ6_bitCount_0f7a4_8 ?_
  refine lv_topi (fun x0_9 ex0_9 => ?_)
  refine lv_istore_n (lv' := [(0, .int x0_9)]) hx hb dJ6_bitCount_0f7a4_9 rfl hl (by decide) rfl (fun ls hl => ?_)
  refine lv_iload_n hx hb dJ6_bitCount_0f7a4_10 rfl (lv_at hl 0 rfl) ?_
  refine lv_ldcw hx hb hown (hts (.constant RJ6 266 (858993459)) (List.mem_of_getElem? (i := 2) rfl)) dJ6_bitCount_0f7a4_11 ?_
  refine pw_topi (y := nI 858993459) (by decide) ?_
  refine lv_iand hx hb dJ6_bitCount_0f7a4_14 ?_
  refine lv_iload_n hx hb dJ6_bitCount_0f7a4_15 rfl (lv_at hl 0 rfl) ?_
  refine lv_iconst (v := nI 2) hx hb dJ6_bitCount_0f7a4_16 (by decide) ?_
  refine lv_iushr (v := hs_u x0_9 (nI 2)) hx hb dJ6_bitCount_0f7a4_17 rfl ?_
  refine lv_ldcw hx hb hown (hts (.constant RJ6 266 (858993459)) (List.mem_of_getElem? (i := 2) rfl)) dJ6_bitCount_0f7a4_18 ?_
  refine pw_topi (y := nI 858993459) (by decide) ?_
  refine lv_iand hx hb dJ6_bitCount_0f7a4_21 ?_
  refine lv_iadd hx hb dJ6_bitCount_0f7a4_22 ?_
  refine lv_topi (fun x0_23 ex0_23 => ?_)
  refine lv_istore_n (lv' := [(0, .int x0_23)]) hx hb dJ6_bitCount_0f7a4_23 rfl hl (by decide) rfl (fun ls hl => ?_)
  refine lv_iload_n hx hb dJ6_bitCount_0f7a4_24 rfl (lv_at hl 0 rfl) ?_
  refine lv_iload_n hx hb dJ6_bitCount_0f7a4_25 rfl (lv_at hl 0 rfl) ?_
  refine lv_iconst (v := nI 4) hx hb dJ6_bitCount_0f7a4_26 (by decide) ?_
  refine lv_iushr (v := hs_u x0_23 (nI 4)) hx hb dJ6_bitCount_0f7a4_27 rfl ?_
  refine lv_iadd hx hb dJ6_bitCount_0f7a4_28 ?_
  refine lv_ldcw hx hb hown (hts (.constant RJ6 267 (252645135)) (List.mem_of_getElem? (i := 3) rfl)) dJ6_bitCount_0f7a4_29 ?_
  refine pw_topi (y := nI 252645135) (by decide) ?_
  refine lv_iand hx hb dJ6_bitCount_0f7a4_32 ?_
  refine lv_topi (fun x0_33 ex0_33 => ?_)
  refine lv_istore_n (lv' := [(0, .int x0_33)]) hx hb dJ6_bitCount_0f7a4_33 rfl hl (by decide) rfl (fun ls hl => ?_)
  refine lv_iload_n hx hb dJ6_bitCount_0f7a4_34 rfl (lv_at hl 0 rfl) ?_
  refine lv_iload_n hx hb dJ6_bitCount_0f7a4_35 rfl (lv_at hl 0 rfl) ?_
  refine lv_bipush (v := nI 8) hx hb dJ6_bitCount_0f7a4_36 (by decide) ?_
  refine lv_iushr (v := hs_u x0_33 (nI 8)) hx hb dJ6_bitCount_0f7a4_38 rfl ?_
  refine lv_iadd hx hb dJ6_bitCount_0f7a4_39 ?_
  refine lv_topi (fun x0_40 ex0_40 => ?_)
  refine lv_istore_n (lv' := [(0, .int x0_40)]) hx hb dJ6_bitCount_0f7a4_40 rfl hl (by decide) rfl (fun ls hl => ?_)
  refine lv_iload_n hx hb dJ6_bitCount_0f7a4_41 rfl (lv_at hl 0 rfl) ?_
  refine lv_iload_n hx hb dJ6_bitCount_0f7a4_42 rfl (lv_at hl 0 rfl) ?_
  refine lv_bipush (v := nI 16) hx hb dJ6_bitCount_0f7a4_43 (by decide) ?_
  refine lv_iushr (v := hs_u x0_40 (nI 16)) hx hb dJ6_bitCount_0f7a4_45 rfl ?_
  refine lv_iadd hx hb dJ6_bitCount_0f7a4_46 ?_
  refine lv_topi (fun x0_47 ex0_47 => ?_)
  refine lv_istore_n (lv' := [(0, .int x0_47)]) hx hb dJ6_bitCount_0f7a4_47 rfl hl (by decide) rfl (fun ls hl => ?_)
  refine lv_iload_n hx hb dJ6_bitCount_0f7a4_48 rfl (lv_at hl 0 rfl) ?_
  refine lv_bipush (v := nI 63) hx hb dJ6_bitCount_0f7a4_49 (by decide) ?_
  refine lv_iand hx hb dJ6_bitCount_0f7a4_51 ?_
  refine pw_topi (y := bcE x) (by subst ex0_47 ex0_40 ex0_33 ex0_23 ex0_9; rfl) ?_
  exact W.iret hx hb hr (fun t ht _ => ⟨rfl, ht⟩) (fun q h => by cases h) dJ6_bitCount_0f7a4_52

theorem pb_inj {a b : Bool} (h : pb a = pb b) : a = b := by
  cases a <;> cases b <;> first | rfl | exact absurd h (by decide)

set_option maxHeartbeats 4000000 in
set_option maxRecDepth 100000 in
theorem c_X2_setAllowed (l : Launch) (D : va_G) (cy : Nat → ClassId) (Ad : Nat → Nat) (n mm : Nat) (C : pw_C) (hI : pw_I Ad (shX n)) (hn : 1 ≤ n ∧ n ≤ 12) (hF : fX n mm Ad C) (am : Nat → Nat) (hA : gA am C) (q v : Nat) (b : Bool) (hq : q < 8) (hv : v < 8) : Met l yX2_setAllowed wsX2_setAllowed (k2_rm 0 0) (pw_Pre ([.ref (Ad 3), .int (nI q), .int (nI v), .int (pb b)]) D cy Ad (shX n) C) (pw_Post (fun r9 C' => r9 = some (.int (pb ((am q).testBit v))) ∧ (C' = if b = (am q).testBit v then C else pw_setI C 14 q (nI (am q ^^^ 2 ^ v)))) D cy Ad (shX n)) 0 0 (pw_fr Ad (shX n)) := by
  refine Met.ofW (cc := cX2_setAllowed) (maxL := 5) (ret := (some .boolean)) (by decide) rfl ?_
  intro p e s m args below meth c s₁ B hml hv
  obtain ⟨rfl, hP, hK⟩ := hv
  have hx := B.exec
  have hb := B.bytes
  have hr := B.returns
  have hts := atoms_spec (ws := wsX2_setAllowed) B.pre
  have hown : s.vm.findClass RX2 = some m.cls := findClass_of_methodNamed B.named
  have hlocks := B.notSynchronized
  have S : CallFix p m c cX2_setAllowed 5 s ([.ref (Ad 3), .int (nI q), .int (nI v), .int (pb b)]).toArray wsX2_setAllowed RX2 := ⟨hx, hb, hml, hown, hts⟩
  change W p l e (k2_rm 0 0) s m _ below meth c s.heap [] 0 0 _ _
  have hl := lv_entry ([.ref (Ad 3), .int (nI q), .int (nI v), .int (pb b)]) (n := 5) (Nat.le_of_ble_eq_true rfl)
  rw [lg_entry_eq]
  generalize (lg_sl ([.ref (Ad 3), .int (nI q), .int (nI v), .int (pb b)]) ++ List.replicate (5 - (lg_sl ([.ref (Ad 3), .int (nI q), .int (nI v), .int (pb b)])).length) Slot.unset).toArray = ls at hl ⊢
  have hl : lv_has ls 5 [(0, .ref (Ad 3)), (1, .int (nI q)), (2, .int (nI v)), (3, .int (pb b))] := hl
  have hS : va_S (pw_fr Ad (shX n)) s.heap s.heap [] := va_S.rf
  have hB : pw_B (fun k => k = 14) C C := pw_B.rf
  have hlt := (hA q hq).1
  refine lv_aload_n hx hb dX2_setAllowed_0 rfl (lv_at hl 0 rfl) ?_
  refine pw_get hx hb hts (fun _ h9 => List.mem_cons_of_mem _ (List.mem_append_right _ h9)) hown hK hP 3 rfl rfl 0 (by decide) hF.2.2.2.1 rfl (hts (.fieldLink RX2 9 "PastDraws$Orders" "allowed" "[I") (List.mem_of_getElem? (i := 1) rfl)) dX2_setAllowed_1 ?_
  refine lv_iload_n hx hb dX2_setAllowed_4 rfl (lv_at hl 1 rfl) ?_
  refine pw_iald hx hb hK hP 14 rfl (by first | exact sgn_lt _ _ | omega) (by first | decide | omega) (v := nI (am q)) (hA q hq).2 dX2_setAllowed_5 ?_
  refine lv_iload_n hx hb dX2_setAllowed_6 rfl (lv_at hl 2 rfl) ?_
  refine lv_ishr hx hb dX2_setAllowed_7 ?_
  refine lv_iconst (v := nI 1) hx hb dX2_setAllowed_8 (by decide) ?_
  refine lv_iand hx hb dX2_setAllowed_9 ?_
  refine pw_topi (y := nI (am q / 2 ^ v % 2)) (ps_bit (by omega) (by omega)) ?_
  refine pn_ifeq_n (tgt := 17) hx hb (by omega) dX2_setAllowed_10 (by decide) (fun c_10 => ?_) (fun c_10 => ?_)
  · have htb : (am q).testBit v = false := by
      cases h9 : (am q).testBit v
      · rfl
      · rw [tb_dm, h9, if_pos rfl] at c_10; exact absurd c_10 (by decide)
    rw [htb]
    refine lv_iconst (v := nI 0) hx hb dX2_setAllowed_17 (by decide) ?_
    refine pw_topi (y := pb false) rfl ?_
    refine lv_istore (lv' := [(4, .int (pb false)), (0, .ref (Ad 3)), (1, .int (nI q)), (2, .int (nI v)), (3, .int (pb b))]) hx hb dX2_setAllowed_18 hl (by decide) rfl (fun ls hl => ?_)
    refine lv_iload_n hx hb dX2_setAllowed_20 rfl (lv_at hl 4 rfl) ?_
    refine lv_iload hx hb dX2_setAllowed_21 (lv_at hl 0 rfl) ?_
    refine lv_icmp_eq (tgt := 38) hx hb dX2_setAllowed_23 (by decide) (fun c_23 => ?_) (fun c_23 => ?_)
    · have hbe : b = _ := pb_inj c_23
      rw [if_pos hbe]
      refine lv_iload hx hb dX2_setAllowed_38 (lv_at hl 0 rfl) ?_
      exact W.zret hx hb hr (pb_nar _) (fun t ht _ => ⟨⟨_, C, rfl, ⟨rfl, rfl⟩, by rw [ht]; exact hP⟩, hS.F ht⟩) hS.2.2 dX2_setAllowed_40
    · have hbe : ¬ b = _ := fun q9 => c_23 (congrArg pb q9)
      rw [if_neg hbe]
      refine lv_aload_n hx hb dX2_setAllowed_26 rfl (lv_at hl 1 rfl) ?_
      refine pw_get hx hb hts (fun _ h9 => List.mem_cons_of_mem _ (List.mem_append_right _ h9)) hown hK hP 3 rfl rfl 0 (by decide) hF.2.2.2.1 rfl (hts (.fieldLink RX2 9 "PastDraws$Orders" "allowed" "[I") (List.mem_of_getElem? (i := 1) rfl)) dX2_setAllowed_27 ?_
      refine lv_iload_n hx hb dX2_setAllowed_30 rfl (lv_at hl 2 rfl) ?_
      refine lv_dup2_11 hx hb dX2_setAllowed_31 rfl rfl ?_
      refine pw_iald hx hb hK hP 14 rfl (by first | exact sgn_lt _ _ | omega) (by first | decide | omega) (v := nI (am q)) (hA q hq).2 dX2_setAllowed_32 ?_
      refine lv_iconst (v := nI 1) hx hb dX2_setAllowed_33 (by decide) ?_
      refine lv_iload_n hx hb dX2_setAllowed_34 rfl (lv_at hl 3 rfl) ?_
      refine lv_ishl hx hb dX2_setAllowed_35 ?_
      refine pw_topi (y := nI (2 ^ v)) (ps_shl1 (by omega)) ?_
      refine lv_ixor hx hb dX2_setAllowed_36 ?_
      refine pw_topi (y := nI (am q ^^^ 2 ^ v)) (nx_xor _ _) ?_
      refine pw_iast hx hb hK hP hI hS 14 rfl (by first | exact sgn_lt _ _ | omega) (by first | decide | omega) dX2_setAllowed_37 (fun H locs hP hS => ?_)
      obtain ⟨C37, hC37⟩ : ∃ z9, z9 = pw_setI C 14 q (nI (am q ^^^ 2 ^ v)) := ⟨_, rfl⟩
      rw [← hC37] at hP
      have hB := by have hB9 := hB; exact (show pw_B (fun k => k = 14) C C37 by rw [hC37]; exact hB9.setI (by show 14 = 14; first | trivial | omega))
      refine lv_iload hx hb dX2_setAllowed_38 (lv_at hl 0 rfl) ?_
      exact W.zret hx hb hr (pb_nar _) (fun t ht _ => ⟨⟨_, C37, rfl, ⟨rfl, hC37⟩, by rw [ht]; exact hP⟩, hS.F ht⟩) hS.2.2 dX2_setAllowed_40
  · have htb : (am q).testBit v = true := by
      cases h9 : (am q).testBit v
      · rw [tb_dm, h9, if_neg (by decide)] at c_10; exact absurd rfl c_10
      · rfl
    rw [htb]
    refine lv_iconst (v := nI 1) hx hb dX2_setAllowed_13 (by decide) ?_
    refine pw_topi (y := pb true) rfl ?_
    refine lv_goto (tgt := 18) hx hb dX2_setAllowed_14 (by decide) ?_
    refine lv_istore (lv' := [(4, .int (pb true)), (0, .ref (Ad 3)), (1, .int (nI q)), (2, .int (nI v)), (3, .int (pb b))]) hx hb dX2_setAllowed_18 hl (by decide) rfl (fun ls hl => ?_)
    refine lv_iload_n hx hb dX2_setAllowed_20 rfl (lv_at hl 4 rfl) ?_
    refine lv_iload hx hb dX2_setAllowed_21 (lv_at hl 0 rfl) ?_
    refine lv_icmp_eq (tgt := 38) hx hb dX2_setAllowed_23 (by decide) (fun c_23 => ?_) (fun c_23 => ?_)
    · have hbe : b = _ := pb_inj c_23
      rw [if_pos hbe]
      refine lv_iload hx hb dX2_setAllowed_38 (lv_at hl 0 rfl) ?_
      exact W.zret hx hb hr (pb_nar _) (fun t ht _ => ⟨⟨_, C, rfl, ⟨rfl, rfl⟩, by rw [ht]; exact hP⟩, hS.F ht⟩) hS.2.2 dX2_setAllowed_40
    · have hbe : ¬ b = _ := fun q9 => c_23 (congrArg pb q9)
      rw [if_neg hbe]
      refine lv_aload_n hx hb dX2_setAllowed_26 rfl (lv_at hl 1 rfl) ?_
      refine pw_get hx hb hts (fun _ h9 => List.mem_cons_of_mem _ (List.mem_append_right _ h9)) hown hK hP 3 rfl rfl 0 (by decide) hF.2.2.2.1 rfl (hts (.fieldLink RX2 9 "PastDraws$Orders" "allowed" "[I") (List.mem_of_getElem? (i := 1) rfl)) dX2_setAllowed_27 ?_
      refine lv_iload_n hx hb dX2_setAllowed_30 rfl (lv_at hl 2 rfl) ?_
      refine lv_dup2_11 hx hb dX2_setAllowed_31 rfl rfl ?_
      refine pw_iald hx hb hK hP 14 rfl (by first | exact sgn_lt _ _ | omega) (by first | decide | omega) (v := nI (am q)) (hA q hq).2 dX2_setAllowed_32 ?_
      refine lv_iconst (v := nI 1) hx hb dX2_setAllowed_33 (by decide) ?_
      refine lv_iload_n hx hb dX2_setAllowed_34 rfl (lv_at hl 3 rfl) ?_
      refine lv_ishl hx hb dX2_setAllowed_35 ?_
      refine pw_topi (y := nI (2 ^ v)) (ps_shl1 (by omega)) ?_
      refine lv_ixor hx hb dX2_setAllowed_36 ?_
      refine pw_topi (y := nI (am q ^^^ 2 ^ v)) (nx_xor _ _) ?_
      refine pw_iast hx hb hK hP hI hS 14 rfl (by first | exact sgn_lt _ _ | omega) (by first | decide | omega) dX2_setAllowed_37 (fun H locs hP hS => ?_)
      obtain ⟨C37, hC37⟩ : ∃ z9, z9 = pw_setI C 14 q (nI (am q ^^^ 2 ^ v)) := ⟨_, rfl⟩
      rw [← hC37] at hP
      have hB := by have hB9 := hB; exact (show pw_B (fun k => k = 14) C C37 by rw [hC37]; exact hB9.setI (by show 14 = 14; first | trivial | omega))
      refine lv_iload hx hb dX2_setAllowed_38 (lv_at hl 0 rfl) ?_
      exact W.zret hx hb hr (pb_nar _) (fun t ht _ => ⟨⟨_, C37, rfl, ⟨rfl, hC37⟩, by rw [ht]; exact hP⟩, hS.F ht⟩) hS.2.2 dX2_setAllowed_40

set_option maxHeartbeats 4000000 in
set_option maxRecDepth 100000 in
theorem c_X2_isFree (l : Launch) (D : va_G) (cy : Nat → ClassId) (Ad : Nat → Nat) (n mm : Nat) (C : pw_C) (hn : 1 ≤ n ∧ n ≤ 12) (hF : fX n mm Ad C) (am : Nat → Nat) (hA : gA am C) (Z v : Nat) (hZ : Z < 256) (hp : pcn Z < 8) (hv : v < 8) : Met l yX2_isFree wsX2_isFree (k2_rm 1 20) (pw_Pre ([.ref (Ad 3), .int (nI Z), .int (nI v)]) D cy Ad (shX n) C) (k2_QcV (.int (pb (fre am Z v)))) 0 0 (fun _ => False) := by
  refine Met.ofW (cc := cX2_isFree) (maxL := 4) (ret := (some .boolean)) (by decide) rfl ?_
  intro p e s m args below meth c s₁ B hml hv
  obtain ⟨rfl, hP, hK⟩ := hv
  have hx := B.exec
  have hb := B.bytes
  have hr := B.returns
  have hts := atoms_spec (ws := wsX2_isFree) B.pre
  have hown : s.vm.findClass RX2 = some m.cls := findClass_of_methodNamed B.named
  have hlocks := B.notSynchronized
  have S : CallFix p m c cX2_isFree 4 s ([.ref (Ad 3), .int (nI Z), .int (nI v)]).toArray wsX2_isFree RX2 := ⟨hx, hb, hml, hown, hts⟩
  change W p l e (k2_rm 1 20) s m _ below meth c s.heap [] 0 0 _ _
  have hl := lv_entry ([.ref (Ad 3), .int (nI Z), .int (nI v)]) (n := 4) (Nat.le_of_ble_eq_true rfl)
  rw [lg_entry_eq]
  have hlt := (hA _ hp).1
  have hlt2 : am (pcn Z) &&& (255 ^^^ Z) < 256 := Nat.lt_of_le_of_lt Nat.and_le_left hlt
  generalize (lg_sl ([.ref (Ad 3), .int (nI Z), .int (nI v)]) ++ List.replicate (4 - (lg_sl ([.ref (Ad 3), .int (nI Z), .int (nI v)])).length) Slot.unset).toArray = ls at hl ⊢
  have hl : lv_has ls 4 [(0, .ref (Ad 3)), (1, .int (nI Z)), (2, .int (nI v))] := hl
  refine lv_aload_n hx hb dX2_isFree_0 rfl (lv_at hl 0 rfl) ?_
  refine pw_get hx hb hts (fun _ h9 => List.mem_cons_of_mem _ (List.mem_append_right _ h9)) hown hK hP 3 rfl rfl 0 (by decide) hF.2.2.2.1 rfl (hts (.fieldLink RX2 9 "PastDraws$Orders" "allowed" "[I") (List.mem_of_getElem? (i := 1) rfl)) dX2_isFree_1 ?_
  refine lv_iload_n hx hb dX2_isFree_4 rfl (lv_at hl 1 rfl) ?_
  refine pw_cs S 1 (c_J6_bitCount_0f7a4 l (nI Z)) gX2_isFree_J6_bitCount_0f7a4 rfl rfl rfl (by decide +kernel) ⟨Nat.le_of_ble_eq_true rfl, Nat.le_of_ble_eq_true rfl⟩ rfl hl.1 rfl (Nat.le_of_ble_eq_true rfl) dX2_isFree_5 ⟨Nat.le_refl _, Nat.le_refl _⟩ ?_
  refine pw_topi (y := nI (pcn Z)) (bcE_ok Z hZ) ?_
  refine pw_iald hx hb hK hP 14 rfl hp (by first | decide | omega) (v := nI (am (pcn Z))) (hA _ hp).2 dX2_isFree_8 ?_
  refine lv_iload_n hx hb dX2_isFree_9 rfl (lv_at hl 1 rfl) ?_
  refine lv_iconst (v := (-1)) hx hb dX2_isFree_10 (by decide) ?_
  refine lv_ixor hx hb dX2_isFree_11 ?_
  refine lv_iand hx hb dX2_isFree_12 ?_
  refine pw_topi (y := nI (am (pcn Z) &&& (255 ^^^ Z))) (am_and hlt) ?_
  refine lv_istore_n (lv' := [(3, .int (nI (am (pcn Z) &&& (255 ^^^ Z)))), (0, .ref (Ad 3)), (1, .int (nI Z)), (2, .int (nI v))]) hx hb dX2_isFree_13 rfl hl (by decide) rfl (fun ls hl => ?_)
  refine lv_iload_n hx hb dX2_isFree_14 rfl (lv_at hl 0 rfl) ?_
  refine lv_iload_n hx hb dX2_isFree_15 rfl (lv_at hl 3 rfl) ?_
  refine lv_ishr hx hb dX2_isFree_16 ?_
  refine lv_iconst (v := nI 1) hx hb dX2_isFree_17 (by decide) ?_
  refine lv_iand hx hb dX2_isFree_18 ?_
  refine pw_topi (y := nI ((am (pcn Z) &&& (255 ^^^ Z)) / 2 ^ v % 2)) (ps_bit (by omega) (by omega)) ?_
  refine pn_ifeq_n (tgt := 26) hx hb (by omega) dX2_isFree_19 (by decide) (fun c_19 => ?_) (fun c_19 => ?_)
  · have e9 : fre am Z v = false := by
      unfold fre
      rw [← fre_bit hlt hv]
      cases h9 : (am (pcn Z) &&& (255 ^^^ Z)).testBit v
      · rfl
      · rw [tb_dm, h9, if_pos rfl] at c_19; exact absurd c_19 (by decide)
    refine lv_iconst (v := nI 0) hx hb dX2_isFree_26 (by decide) ?_
    refine pw_topi (y := pb false) rfl ?_
    refine pw_topi (y := pb (fre am Z v)) (by rw [e9]) ?_
    exact W.zret hx hb hr (pb_nar _) (fun t ht _ => ⟨rfl, ht⟩) (fun q h => by cases h) dX2_isFree_27
  · have e9 : fre am Z v = true := by
      unfold fre
      rw [← fre_bit hlt hv]
      cases h9 : (am (pcn Z) &&& (255 ^^^ Z)).testBit v
      · rw [tb_dm, h9, if_neg (by decide)] at c_19; exact absurd rfl c_19
      · rfl
    refine lv_iconst (v := nI 1) hx hb dX2_isFree_22 (by decide) ?_
    refine pw_topi (y := pb true) rfl ?_
    refine lv_goto (tgt := 27) hx hb dX2_isFree_23 (by decide) ?_
    refine pw_topi (y := pb (fre am Z v)) (by rw [e9]) ?_
    exact W.zret hx hb hr (pb_nar _) (fun t ht _ => ⟨rfl, ht⟩) (fun q h => by cases h) dX2_isFree_27

set_option maxHeartbeats 4000000 in
set_option maxRecDepth 100000 in
theorem L_waysBefore {p : Program} {l : Launch} {e : Env} {s : State} {m : MethodId} {args : Array Value} {below : List Frame} {meth : Method} {c : Code} {H : Heap} {locs : List Loc} {Q : State → Prop} (S : CallFix p m c cX2_waysBefore 6 s args wsX2_waysBefore RX2) {D : va_G} {cy : Nat → ClassId} {Ad : Nat → Nat} {n mm : Nat} {C : pw_C} (hK : pw_K D cy s) (hP : pw_P D cy Ad (shX n) C H) (hF : fX n mm Ad C) (hn : 1 ≤ n ∧ n ≤ 12) {am : Nat → Nat} (hA : gA am C) (wy : Nat → Int32) (m9 Z v9 : Nat) (hm : m9 ≤ 8) (hZ : Z < 256) (hp : pcn Z < 8) (hv9 : v9 ≤ 8) (hw : ∀ v, v < m9 → fre am Z v = true → C.1 15 (Z ||| 2 ^ v) = wy (Z ||| 2 ^ v)) (hq : ∀ (pc9 : Nat) (ls : Array Slot), decode cX2_waysBefore pc9 = .ok (.ireturn, 1) → W p l e (k2_rm 2 43) s m args below meth c H locs 0 0 Q (F0 m pc9 ls [.int (wbS am wy Z (min v9 m9))])) : ∀ (f : Nat) (v : Nat) (ls : Array Slot), v9 - v < f → (v ≤ v9) → (v ≤ m9) → lv_has ls 6 [(5, .int (nI v)), (4, .int (wbS am wy Z v)), (0, .ref (Ad 3)), (1, .int (nI m9)), (2, .int (nI Z)), (3, .int (nI v9))] → W p l e (k2_rm 2 43) s m args below meth c H locs 0 0 Q (F0 m 6 ls []) := by
  have hx := S.1
  have hb := S.2.1
  have hml := S.2.2.1
  have hown := S.2.2.2.1
  have hts := S.2.2.2.2
  intro f
  induction f with
  | zero => intro v ls hf; exact absurd hf (Nat.not_lt_zero _)
  | succ f ih =>
    intro v ls hf hv hv2 hl
    refine lv_iload hx hb dX2_waysBefore_6 (lv_at hl 0 rfl) ?_
    refine lv_iload_n hx hb dX2_waysBefore_8 rfl (lv_at hl 5 rfl) ?_
    refine pn_icmp_ge (tgt := 50) hx hb (by omega) (by omega) dX2_waysBefore_9 (by decide) (fun c_9 => ?_) (fun c_9 => ?_)
    · have hve : min v9 m9 = v := by omega
      refine lv_iload hx hb dX2_waysBefore_50 (lv_at hl 1 rfl) ?_
      refine pw_topi (y := wbS am wy Z (min v9 m9)) (by rw [hve]) ?_
      exact hq _ ls dX2_waysBefore_52
    · refine lv_iload hx hb dX2_waysBefore_12 (lv_at hl 0 rfl) ?_
      refine lv_iload_n hx hb dX2_waysBefore_14 rfl (lv_at hl 3 rfl) ?_
      refine pn_icmp_ge (tgt := 50) hx hb (by omega) (by omega) dX2_waysBefore_15 (by decide) (fun c_15 => ?_) (fun c_15 => ?_)
      · have hve : min v9 m9 = v := by omega
        refine lv_iload hx hb dX2_waysBefore_50 (lv_at hl 1 rfl) ?_
        refine pw_topi (y := wbS am wy Z (min v9 m9)) (by rw [hve]) ?_
        exact hq _ ls dX2_waysBefore_52
      · refine lv_aload_n hx hb dX2_waysBefore_18 rfl (lv_at hl 2 rfl) ?_
        refine lv_iload_n hx hb dX2_waysBefore_19 rfl (lv_at hl 4 rfl) ?_
        refine lv_iload hx hb dX2_waysBefore_20 (lv_at hl 0 rfl) ?_
        refine pw_cv S hK hP 3 2 rfl rfl 2 (c_X2_isFree l D cy Ad n mm C hn hF am hA Z v hZ hp (by omega)) gX2_waysBefore_X2_isFree rfl rfl rfl (by decide +kernel) ⟨Nat.le_of_ble_eq_true rfl, Nat.le_of_ble_eq_true rfl⟩ rfl hl.1 rfl (Nat.le_of_ble_eq_true rfl) dX2_waysBefore_22 ⟨Nat.le_refl _, Nat.le_refl _⟩ ?_
        refine pn_ifeq_b (tgt := 44) hx hb dX2_waysBefore_25 (by decide) (fun c_25 => ?_) (fun c_25 => ?_)
        · have e9 : wbS am wy Z (v + 1) = wbS am wy Z v := by rw [wbS, if_neg (by rw [c_25]; decide)]
          refine lv_iinc (v := nI (v + 1)) (lv' := [(5, .int (nI (v + 1))), (4, .int (wbS am wy Z v)), (0, .ref (Ad 3)), (1, .int (nI m9)), (2, .int (nI Z)), (3, .int (nI v9))]) hx hb dX2_waysBefore_44 hl (k := 0) rfl (nI_add _ 1) (by decide) rfl (fun ls hl => ?_)
          refine lv_goto (tgt := 6) hx hb dX2_waysBefore_47 (by decide) ?_
          exact ih (v + 1) ls (by omega) (by omega) (by omega) (by rw [e9]; exact (lv_sub hl [0, 1, 2, 3, 4, 5] rfl))
        · have e9 : wbS am wy Z (v + 1) = wbS am wy Z v + wy (Z ||| 2 ^ v) := by rw [wbS, if_pos c_25]
          refine lv_iload hx hb dX2_waysBefore_28 (lv_at hl 1 rfl) ?_
          refine lv_aload_n hx hb dX2_waysBefore_30 rfl (lv_at hl 2 rfl) ?_
          refine pw_get hx hb hts (fun _ h9 => List.mem_cons_of_mem _ (List.mem_append_right _ h9)) hown hK hP 3 rfl rfl 1 (by decide) hF.2.2.2.1 rfl (hts (.fieldLink RX2 15 "PastDraws$Orders" "ways" "[I") (List.mem_of_getElem? (i := 1) rfl)) dX2_waysBefore_31 ?_
          refine lv_iload_n hx hb dX2_waysBefore_34 rfl (lv_at hl 4 rfl) ?_
          refine lv_iconst (v := nI 1) hx hb dX2_waysBefore_35 (by decide) ?_
          refine lv_iload hx hb dX2_waysBefore_36 (lv_at hl 0 rfl) ?_
          refine lv_ishl hx hb dX2_waysBefore_38 ?_
          refine pw_topi (y := nI (2 ^ v)) (ps_shl1 (by omega)) ?_
          refine lv_ior hx hb dX2_waysBefore_39 ?_
          refine pw_topi (y := nI (Z ||| 2 ^ v)) (nx_or _ _) ?_
          refine pw_iald hx hb hK hP 15 rfl (or_lt Z hZ v (by omega)) (by first | decide | omega) (v := wy (Z ||| 2 ^ v)) (hw v (by omega) c_25) dX2_waysBefore_40 ?_
          refine lv_iadd hx hb dX2_waysBefore_41 ?_
          refine lv_topi (fun x4_42 ex4_42 => ?_)
          refine lv_istore (lv' := [(4, .int x4_42), (5, .int (nI v)), (0, .ref (Ad 3)), (1, .int (nI m9)), (2, .int (nI Z)), (3, .int (nI v9))]) hx hb dX2_waysBefore_42 hl (by decide) rfl (fun ls hl => ?_)
          refine lv_iinc (v := nI (v + 1)) (lv' := [(5, .int (nI (v + 1))), (4, .int x4_42), (0, .ref (Ad 3)), (1, .int (nI m9)), (2, .int (nI Z)), (3, .int (nI v9))]) hx hb dX2_waysBefore_44 hl (k := 1) rfl (nI_add _ 1) (by decide) rfl (fun ls hl => ?_)
          refine lv_goto (tgt := 6) hx hb dX2_waysBefore_47 (by decide) ?_
          exact ih (v + 1) ls (by omega) (by omega) (by omega) (by rw [e9, ← ex4_42]; exact (lv_sub hl [0, 1, 2, 3, 4, 5] rfl))

set_option maxHeartbeats 4000000 in
set_option maxRecDepth 100000 in
theorem c_X2_waysBefore (l : Launch) (D : va_G) (cy : Nat → ClassId) (Ad : Nat → Nat) (n mm : Nat) (C : pw_C) (hn : 1 ≤ n ∧ n ≤ 12) (hF : fX n mm Ad C) (am : Nat → Nat) (hA : gA am C) (wy : Nat → Int32) (m9 Z v9 : Nat) (hm : m9 ≤ 8) (hZ : Z < 256) (hp : pcn Z < 8) (hv9 : v9 ≤ 8) (hw : ∀ v, v < m9 → fre am Z v = true → C.1 15 (Z ||| 2 ^ v) = wy (Z ||| 2 ^ v)) : Met l yX2_waysBefore wsX2_waysBefore (k2_rm 2 43) (pw_Pre ([.ref (Ad 3), .int (nI m9), .int (nI Z), .int (nI v9)]) D cy Ad (shX n) C) (k2_QcV (.int (wbS am wy Z (min v9 m9)))) 0 0 (fun _ => False) := by
  refine Met.ofW (cc := cX2_waysBefore) (maxL := 6) (ret := (some .int)) (by decide) rfl ?_
  intro p e s m args below meth c s₁ B hml hv
  obtain ⟨rfl, hP, hK⟩ := hv
  have hx := B.exec
  have hb := B.bytes
  have hr := B.returns
  have hts := atoms_spec (ws := wsX2_waysBefore) B.pre
  have hown : s.vm.findClass RX2 = some m.cls := findClass_of_methodNamed B.named
  have hlocks := B.notSynchronized
  have S : CallFix p m c cX2_waysBefore 6 s ([.ref (Ad 3), .int (nI m9), .int (nI Z), .int (nI v9)]).toArray wsX2_waysBefore RX2 := ⟨hx, hb, hml, hown, hts⟩
  change W p l e (k2_rm 2 43) s m _ below meth c s.heap [] 0 0 _ _
  have hl := lv_entry ([.ref (Ad 3), .int (nI m9), .int (nI Z), .int (nI v9)]) (n := 6) (Nat.le_of_ble_eq_true rfl)
  rw [lg_entry_eq]
  generalize (lg_sl ([.ref (Ad 3), .int (nI m9), .int (nI Z), .int (nI v9)]) ++ List.replicate (6 - (lg_sl ([.ref (Ad 3), .int (nI m9), .int (nI Z), .int (nI v9)])).length) Slot.unset).toArray = ls at hl ⊢
  have hl : lv_has ls 6 [(0, .ref (Ad 3)), (1, .int (nI m9)), (2, .int (nI Z)), (3, .int (nI v9))] := hl
  refine lv_iconst (v := nI 0) hx hb dX2_waysBefore_0 (by decide) ?_
  refine lv_istore (lv' := [(4, .int (nI 0)), (0, .ref (Ad 3)), (1, .int (nI m9)), (2, .int (nI Z)), (3, .int (nI v9))]) hx hb dX2_waysBefore_1 hl (by decide) rfl (fun ls hl => ?_)
  refine lv_iconst (v := nI 0) hx hb dX2_waysBefore_3 (by decide) ?_
  refine lv_istore (lv' := [(5, .int (nI 0)), (4, .int (nI 0)), (0, .ref (Ad 3)), (1, .int (nI m9)), (2, .int (nI Z)), (3, .int (nI v9))]) hx hb dX2_waysBefore_4 hl (by decide) rfl (fun ls hl => ?_)
  exact L_waysBefore S hK hP hF hn hA wy m9 Z v9 hm hZ hp hv9 hw (fun pc9 ls hd9 => W.iret hx hb hr (fun t ht _ => ⟨rfl, ht⟩) (fun q h => by cases h) hd9) (v9 + 1) 0 ls (by omega) (by omega) (by omega) (lv_sub hl [0, 1, 2, 3, 4, 5] rfl)
