theorem ps_shl1 {k : Nat} (hk : k < 31) : nI 1 <<< (nI k &&& 31) = nI (2 ^ k) := by
  have h : 2 ^ k < 2 ^ 32 := Nat.pow_lt_pow_right (by decide) (by omega)
  rw [pk_shlN (nI k &&& 31) k (s_l k (by omega)) (by omega), Nat.one_mul]
theorem ps_bit {S x : Nat} (hS : S < 2 ^ 31) (hx : x < 32) : nI S >>> (nI x &&& 31) &&& nI 1 = nI (S / 2 ^ x % 2) := by
  rw [pk_shrN hS (nI x &&& 31) x (s_l x hx)]
  have h : S / 2 ^ x < 2 ^ 32 := Nat.lt_of_le_of_lt (Nat.div_le_self _ _) (by omega)
  exact pk_andN h 1 (by decide)
theorem nx_or (a b : Nat) : nI a ||| nI b = nI (a ||| b) := by
  apply Int32.toBitVec_inj.mp
  rw [Int32.toBitVec_or]
  show BitVec.ofNat 32 a ||| BitVec.ofNat 32 b = BitVec.ofNat 32 (a ||| b)
  apply BitVec.eq_of_getLsbD_eq
  intro i hi
  simp [BitVec.getLsbD_or, BitVec.getLsbD_ofNat, hi]
theorem ps_sng (Z : Nat) : nI Z &&& (nI Z - nI 1) = nI (Z &&& (Z - 1)) := by
  rcases Nat.eq_zero_or_pos Z with h | h
  · subst h; decide
  · rw [pk_sub h, nx_and]
theorem pow12 {n : Nat} (h : n ≤ 12) : 2 ^ n ≤ 4096 := Nat.le_trans (Nat.pow_le_pow_right (by decide) h) (by decide)
/-- a row of the past takes a state -/
def thr (nx : Nat → Nat → Nat) (a : Int32) : Nat → Nat → Nat
  | 0, x => x
  | t + 1, x => thr nx a t (nx (sgn a (nI (t + 1))) x)
/-- a set of at most one state -/
def sng (S : Nat) : Bool := decide (S &&& (S - 1) = 0)
/-- where a sign takes a set -/
def imgF (nx : Nat → Nat → Nat) (S u : Nat) : Nat → Nat
  | 0 => 0
  | x + 1 => imgF nx S u x ||| (if S / 2 ^ x % 2 = 0 then 0 else 2 ^ nx u x)
theorem imgF_lt {n : Nat} {nx : Nat → Nat → Nat} {S u : Nat} (h : ∀ x, x < n → nx u x < n) : ∀ k, k ≤ n → imgF nx S u k < 2 ^ n := by
  intro k
  induction k with
  | zero => intro _; exact Nat.pow_pos (by decide)
  | succ k ih =>
    intro hk
    unfold imgF
    refine Nat.or_lt_two_pow (ih (by omega)) ?_
    split
    · exact Nat.pow_pos (by decide)
    · exact Nat.pow_lt_pow_right (by decide) (h k (by omega))

set_option maxHeartbeats 4000000 in
set_option maxRecDepth 100000 in
theorem L_throughPast {p : Program} {l : Launch} {e : Env} {s : State} {m : MethodId} {args : Array Value} {below : List Frame} {meth : Method} {c : Code} {H : Heap} {locs : List Loc} {Q : State → Prop} (S : CallFix p m c cX0_throughPast 6 s args wsX0_throughPast RX0) {D : va_G} {cy : Nat → ClassId} {Ad : Nat → Nat} {n mm : Nat} {C : pw_C} (hK : pw_K D cy s) (hP : pw_P D cy Ad (shX n) C H) (hF : fX n mm Ad C) (hn : 1 ≤ n ∧ n ≤ 12) {nx : Nat → Nat → Nat} (hN : gN n nx C) (a : Int32) (r : Nat) (hq : ∀ (pc9 : Nat) (ls : Array Slot), decode cX0_throughPast pc9 = .ok (.ireturn, 1) → W p l e (k2_rm 2 43) s m args below meth c H locs 0 0 Q (F0 m pc9 ls [.int (nI r)])) : ∀ (f : Nat) (t : Nat) (x : Nat) (ls : Array Slot), t < f → (t ≤ 4096) → (x < n) → (thr nx a t x = r) → lv_has ls 6 [(5, .int (nI t)), (4, .int (nI x)), (0, .ref (Ad 1)), (1, .int a)] → W p l e (k2_rm 2 43) s m args below meth c H locs 0 0 Q (F0 m 6 ls []) := by
  have hx := S.1
  have hb := S.2.1
  have hml := S.2.2.1
  have hown := S.2.2.2.1
  have hts := S.2.2.2.2
  intro f
  induction f with
  | zero => intro t x ls hf; exact absurd hf (Nat.not_lt_zero _)
  | succ f ih =>
    intro t x ls hf ht hx0 hr0 hl
    refine lv_iload hx hb dX0_throughPast_6 (lv_at hl 0 rfl) ?_
    refine lv_iconst (v := nI 1) hx hb dX0_throughPast_8 (by decide) ?_
    refine pn_icmp_lt (tgt := 34) hx hb (by omega) (by omega) dX0_throughPast_9 (by decide) (fun c_9 => ?_) (fun c_9 => ?_)
    · obtain rfl : t = 0 := by omega
      subst hr0
      refine lv_iload hx hb dX0_throughPast_34 (lv_at hl 1 rfl) ?_
      refine pw_topi (y := nI (thr nx a 0 x)) rfl ?_
      exact hq _ ls dX0_throughPast_36
    · obtain ⟨t, rfl⟩ : ∃ t9, t = t9 + 1 := ⟨t - 1, by omega⟩
      refine lv_aload_n hx hb dX0_throughPast_12 rfl (lv_at hl 2 rfl) ?_
      refine pw_get hx hb hts (fun _ h9 => List.mem_cons_of_mem _ (List.mem_append_right _ h9)) hown hK hP 1 rfl rfl 1 (by decide) hF.2.1 rfl (hts (.fieldLink RX0 17 "PastDraws$Chain" "next" "[[I") (List.mem_of_getElem? (i := 1) rfl)) dX0_throughPast_13 ?_
      refine lv_iload_n hx hb dX0_throughPast_16 rfl (lv_at hl 3 rfl) ?_
      refine lv_iload hx hb dX0_throughPast_17 (lv_at hl 0 rfl) ?_
      refine pw_cn S hK.2 (hts (.initialized RX4) (List.mem_of_getElem? (i := 3) rfl)) (hts (.static yX4_signAt) (List.mem_of_getElem? (i := 2) rfl)) 2 (c_X4_signAt l a (nI (t + 1))) gX0_throughPast_X4_signAt_n38 rfl rfl rfl (by decide +kernel) ⟨Nat.le_of_ble_eq_true rfl, Nat.le_of_ble_eq_true rfl⟩ rfl hl.1 rfl (Nat.le_of_ble_eq_true rfl) dX0_throughPast_19 ⟨Nat.le_refl _, Nat.le_refl _⟩ ?_
      refine pw_aald4 hx hb hK hP 5 rfl (by first | exact sgn_lt _ _ | omega) (by decide) dX0_throughPast_22 ?_
      refine lv_iload hx hb dX0_throughPast_23 (lv_at hl 1 rfl) ?_
      have hu_25 : (sgn a (nI (t + 1))) < 8 := (by first | exact sgn_lt _ _ | omega)
      have hx_25 : x < n := (by first | exact sgn_lt _ _ | omega)
      have q_25 : nx (sgn a (nI (t + 1))) x < n := (hN _ hu_25 _ hx_25).1
      refine pw_iald hx hb hK hP (21 + (sgn a (nI (t + 1)))) (shX_nx hu_25) hx_25 (by omega) (hN _ hu_25 _ hx_25).2 dX0_throughPast_25 ?_
      refine lv_istore (lv' := [(4, .int (nI (nx (sgn a (nI (t + 1))) x))), (5, .int (nI (t + 1))), (0, .ref (Ad 1)), (1, .int a)]) hx hb dX0_throughPast_26 hl (by decide) rfl (fun ls hl => ?_)
      refine lv_iinc (v := nI t) (lv' := [(5, .int (nI t)), (4, .int (nI (nx (sgn a (nI (t + 1))) x))), (0, .ref (Ad 1)), (1, .int a)]) hx hb dX0_throughPast_28 hl (k := 1) rfl (pk_m1 _) (by decide) rfl (fun ls hl => ?_)
      refine lv_goto (tgt := 6) hx hb dX0_throughPast_31 (by decide) ?_
      exact ih t (nx (sgn a (nI (t + 1))) x) ls (by omega) (by omega) q_25 hr0 (lv_sub hl [0, 1, 2, 3] rfl)

set_option maxHeartbeats 4000000 in
set_option maxRecDepth 100000 in
theorem c_X0_throughPast (l : Launch) (D : va_G) (cy : Nat → ClassId) (Ad : Nat → Nat) (n mm : Nat) (C : pw_C) (hn : 1 ≤ n ∧ n ≤ 12) (hF : fX n mm Ad C) (nx : Nat → Nat → Nat) (hN : gN n nx C) (a : Int32) (t x : Nat) (ht : t ≤ 4096) (hx0 : x < n) : Met l yX0_throughPast wsX0_throughPast (k2_rm 2 43) (pw_Pre ([.ref (Ad 1), .int a, .int (nI t), .int (nI x)]) D cy Ad (shX n) C) (k2_QcV (.int (nI (thr nx a t x)))) 0 0 (fun _ => False) := by
  refine Met.ofW (cc := cX0_throughPast) (maxL := 6) (ret := (some .int)) (by decide) rfl ?_
  intro p e s m args below meth c s₁ B hml hv
  obtain ⟨rfl, hP, hK⟩ := hv
  have hx := B.exec
  have hb := B.bytes
  have hr := B.returns
  have hts := atoms_spec (ws := wsX0_throughPast) B.pre
  have hown : s.vm.findClass RX0 = some m.cls := findClass_of_methodNamed B.named
  have hlocks := B.notSynchronized
  have S : CallFix p m c cX0_throughPast 6 s ([.ref (Ad 1), .int a, .int (nI t), .int (nI x)]).toArray wsX0_throughPast RX0 := ⟨hx, hb, hml, hown, hts⟩
  change W p l e (k2_rm 2 43) s m _ below meth c s.heap [] 0 0 _ _
  have hl := lv_entry ([.ref (Ad 1), .int a, .int (nI t), .int (nI x)]) (n := 6) (Nat.le_of_ble_eq_true rfl)
  rw [lg_entry_eq]
  generalize (lg_sl ([.ref (Ad 1), .int a, .int (nI t), .int (nI x)]) ++ List.replicate (6 - (lg_sl ([.ref (Ad 1), .int a, .int (nI t), .int (nI x)])).length) Slot.unset).toArray = ls at hl ⊢
  have hl : lv_has ls 6 [(0, .ref (Ad 1)), (1, .int a), (2, .int (nI t)), (3, .int (nI x))] := hl
  refine lv_iload_n hx hb dX0_throughPast_0 rfl (lv_at hl 3 rfl) ?_
  refine lv_istore (lv' := [(4, .int (nI x)), (0, .ref (Ad 1)), (1, .int a), (2, .int (nI t)), (3, .int (nI x))]) hx hb dX0_throughPast_1 hl (by decide) rfl (fun ls hl => ?_)
  refine lv_iload_n hx hb dX0_throughPast_3 rfl (lv_at hl 3 rfl) ?_
  refine lv_istore (lv' := [(5, .int (nI t)), (4, .int (nI x)), (0, .ref (Ad 1)), (1, .int a), (2, .int (nI t)), (3, .int (nI x))]) hx hb dX0_throughPast_4 hl (by decide) rfl (fun ls hl => ?_)
  exact L_throughPast S hK hP hF hn hN a _ (fun pc9 ls hd9 => W.iret hx hb hr (fun t ht _ => ⟨rfl, ht⟩) (fun q h => by cases h) hd9) (t + 1) t x ls (by omega) ht hx0 rfl (lv_sub hl [0, 1, 2, 3] rfl)

set_option maxHeartbeats 4000000 in
set_option maxRecDepth 100000 in
theorem c_X0_isSingle (l : Launch) (Z : Nat) (hZ : Z < 2 ^ 31) : Met l yX0_isSingle wsX0_isSingle (k2_rm 0 0) (fun v _ => v = ([.int (nI Z)]).toArray) (k2_QcV (.int (pb (sng Z)))) 0 0 (fun _ => False) := by
  refine Met.ofW (cc := cX0_isSingle) (maxL := 1) (ret := (some .boolean)) (by decide) rfl ?_
  intro p e s m args below meth c s₁ B hml hv
  obtain rfl := hv
  have hx := B.exec
  have hb := B.bytes
  have hr := B.returns
  have hts := atoms_spec (ws := wsX0_isSingle) B.pre
  have hown : s.vm.findClass RX0 = some m.cls := findClass_of_methodNamed B.named
  have hlocks := B.notSynchronized
  have S : CallFix p m c cX0_isSingle 1 s ([.int (nI Z)]).toArray wsX0_isSingle RX0 := ⟨hx, hb, hml, hown, hts⟩
  change W p l e (k2_rm 0 0) s m _ below meth c s.heap [] 0 0 _ _
  have hl := lv_entry ([.int (nI Z)]) (n := 1) (Nat.le_of_ble_eq_true rfl)
  rw [lg_entry_eq]
  generalize (lg_sl ([.int (nI Z)]) ++ List.replicate (1 - (lg_sl ([.int (nI Z)])).length) Slot.unset).toArray = ls at hl ⊢
  have hl : lv_has ls 1 [(0, .int (nI Z))] := hl
  refine lv_iload_n hx hb dX0_isSingle_0 rfl (lv_at hl 0 rfl) ?_
  refine lv_iload_n hx hb dX0_isSingle_1 rfl (lv_at hl 0 rfl) ?_
  refine lv_iconst (v := nI 1) hx hb dX0_isSingle_2 (by decide) ?_
  refine lv_isub hx hb dX0_isSingle_3 ?_
  refine lv_iand hx hb dX0_isSingle_4 ?_
  refine pw_topi (y := nI (Z &&& (Z - 1))) (ps_sng Z) ?_
  refine pn_ifne_n (tgt := 12) hx hb (Nat.lt_of_le_of_lt Nat.and_le_left (by omega)) dX0_isSingle_5 (by decide) (fun c_5 => ?_) (fun c_5 => ?_)
  · refine lv_iconst (v := nI 0) hx hb dX0_isSingle_12 (by decide) ?_
    refine pw_topi (y := pb (sng Z)) (by first | (rw [show sng Z = true from decide_eq_true c_5]; rfl) | (rw [show sng Z = false from decide_eq_false c_5]; rfl)) ?_
    exact W.zret hx hb hr (pb_nar _) (fun t ht _ => ⟨rfl, ht⟩) (fun q h => by cases h) dX0_isSingle_13
  · refine lv_iconst (v := nI 1) hx hb dX0_isSingle_8 (by decide) ?_
    refine lv_goto (tgt := 13) hx hb dX0_isSingle_9 (by decide) ?_
    refine pw_topi (y := pb (sng Z)) (by first | (rw [show sng Z = true from decide_eq_true c_5]; rfl) | (rw [show sng Z = false from decide_eq_false c_5]; rfl)) ?_
    exact W.zret hx hb hr (pb_nar _) (fun t ht _ => ⟨rfl, ht⟩) (fun q h => by cases h) dX0_isSingle_13

set_option maxHeartbeats 4000000 in
set_option maxRecDepth 100000 in
theorem c_X0_allStates (l : Launch) (D : va_G) (cy : Nat → ClassId) (Ad : Nat → Nat) (n mm : Nat) (C : pw_C) (hn : 1 ≤ n ∧ n ≤ 12) (hF : fX n mm Ad C)  : Met l yX0_allStates wsX0_allStates (k2_rm 0 0) (pw_Pre ([.ref (Ad 1)]) D cy Ad (shX n) C) (k2_QcV (.int (nI (2 ^ n - 1)))) 0 0 (fun _ => False) := by
  refine Met.ofW (cc := cX0_allStates) (maxL := 1) (ret := (some .int)) (by decide) rfl ?_
  intro p e s m args below meth c s₁ B hml hv
  obtain ⟨rfl, hP, hK⟩ := hv
  have hx := B.exec
  have hb := B.bytes
  have hr := B.returns
  have hts := atoms_spec (ws := wsX0_allStates) B.pre
  have hown : s.vm.findClass RX0 = some m.cls := findClass_of_methodNamed B.named
  have hlocks := B.notSynchronized
  have S : CallFix p m c cX0_allStates 1 s ([.ref (Ad 1)]).toArray wsX0_allStates RX0 := ⟨hx, hb, hml, hown, hts⟩
  change W p l e (k2_rm 0 0) s m _ below meth c s.heap [] 0 0 _ _
  have hl := lv_entry ([.ref (Ad 1)]) (n := 1) (Nat.le_of_ble_eq_true rfl)
  rw [lg_entry_eq]
  generalize (lg_sl ([.ref (Ad 1)]) ++ List.replicate (1 - (lg_sl ([.ref (Ad 1)])).length) Slot.unset).toArray = ls at hl ⊢
  have hl : lv_has ls 1 [(0, .ref (Ad 1))] := hl
  refine lv_iconst (v := nI 1) hx hb dX0_allStates_0 (by decide) ?_
  refine lv_aload_n hx hb dX0_allStates_1 rfl (lv_at hl 0 rfl) ?_
  refine pw_get hx hb hts (fun _ h9 => List.mem_cons_of_mem _ (List.mem_append_right _ h9)) hown hK hP 1 rfl rfl 0 (by decide) hF.2.1 rfl (hts (.fieldLink RX0 9 "PastDraws$Chain" "n" "I") (List.mem_of_getElem? (i := 1) rfl)) dX0_allStates_2 ?_
  refine lv_ishl hx hb dX0_allStates_5 ?_
  refine pw_topi (y := nI (2 ^ n)) (ps_shl1 (by omega)) ?_
  refine lv_iconst (v := nI 1) hx hb dX0_allStates_6 (by decide) ?_
  refine lv_isub hx hb dX0_allStates_7 ?_
  refine pw_topi (y := nI (2 ^ n - 1)) (pk_sub (Nat.pow_pos (by decide))) ?_
  exact W.iret hx hb hr (fun t ht _ => ⟨rfl, ht⟩) (fun q h => by cases h) dX0_allStates_8

set_option maxHeartbeats 4000000 in
set_option maxRecDepth 100000 in
theorem L_imageOf {p : Program} {l : Launch} {e : Env} {s : State} {m : MethodId} {args : Array Value} {below : List Frame} {meth : Method} {c : Code} {H : Heap} {locs : List Loc} {Q : State → Prop} (S : CallFix p m c cX0_imageOf 5 s args wsX0_imageOf RX0) {D : va_G} {cy : Nat → ClassId} {Ad : Nat → Nat} {n mm : Nat} {C : pw_C} (hK : pw_K D cy s) (hP : pw_P D cy Ad (shX n) C H) (hF : fX n mm Ad C) (hn : 1 ≤ n ∧ n ≤ 12) {nx : Nat → Nat → Nat} (hN : gN n nx C) (Z u : Nat) (hZ : Z < 2 ^ 12) (hu : u < 8) (hq : ∀ (pc9 : Nat) (ls : Array Slot), decode cX0_imageOf pc9 = .ok (.ireturn, 1) → W p l e (k2_rm 0 0) s m args below meth c H locs 0 0 Q (F0 m pc9 ls [.int (nI (imgF nx Z u n))])) : ∀ (f : Nat) (x : Nat) (ls : Array Slot), n - x < f → (x ≤ n) → lv_has ls 5 [(3, .int (nI (imgF nx Z u x))), (4, .int (nI x)), (0, .ref (Ad 1)), (1, .int (nI Z)), (2, .int (nI u))] → W p l e (k2_rm 0 0) s m args below meth c H locs 0 0 Q (F0 m 5 ls []) := by
  have hx := S.1
  have hb := S.2.1
  have hml := S.2.2.1
  have hown := S.2.2.2.1
  have hts := S.2.2.2.2
  intro f
  induction f with
  | zero => intro x ls hf; exact absurd hf (Nat.not_lt_zero _)
  | succ f ih =>
    intro x ls hf hx0 hl
    refine lv_iload hx hb dX0_imageOf_5 (lv_at hl 1 rfl) ?_
    refine lv_aload_n hx hb dX0_imageOf_7 rfl (lv_at hl 2 rfl) ?_
    refine pw_get hx hb hts (fun _ h9 => List.mem_cons_of_mem _ (List.mem_append_right _ h9)) hown hK hP 1 rfl rfl 0 (by decide) hF.2.1 rfl (hts (.fieldLink RX0 9 "PastDraws$Chain" "n" "I") (List.mem_of_getElem? (i := 1) rfl)) dX0_imageOf_8 ?_
    refine pn_icmp_ge (tgt := 43) hx hb (by omega) (by omega) dX0_imageOf_11 (by decide) (fun c_11 => ?_) (fun c_11 => ?_)
    · have hxe : x = n := by omega
      refine lv_iload_n hx hb dX0_imageOf_43 rfl (lv_at hl 0 rfl) ?_
      refine pw_topi (y := nI (imgF nx Z u n)) (by rw [hxe]) ?_
      exact hq _ ls dX0_imageOf_44
    · refine lv_iload_n hx hb dX0_imageOf_14 rfl (lv_at hl 3 rfl) ?_
      refine lv_iload hx hb dX0_imageOf_15 (lv_at hl 1 rfl) ?_
      refine lv_ishr hx hb dX0_imageOf_17 ?_
      refine lv_iconst (v := nI 1) hx hb dX0_imageOf_18 (by decide) ?_
      refine lv_iand hx hb dX0_imageOf_19 ?_
      refine pw_topi (y := nI (Z / 2 ^ x % 2)) (ps_bit (by omega) (by omega)) ?_
      refine pn_ifeq_n (tgt := 37) hx hb (by omega) dX0_imageOf_20 (by decide) (fun c_20 => ?_) (fun c_20 => ?_)
      · have e0 : imgF nx Z u (x + 1) = imgF nx Z u x := by rw [imgF, if_pos c_20, Nat.or_zero]
        refine lv_iinc (v := nI (x + 1)) (lv' := [(4, .int (nI (x + 1))), (3, .int (nI (imgF nx Z u x))), (0, .ref (Ad 1)), (1, .int (nI Z)), (2, .int (nI u))]) hx hb dX0_imageOf_37 hl (k := 1) rfl (nI_add _ 1) (by decide) rfl (fun ls hl => ?_)
        refine lv_goto (tgt := 5) hx hb dX0_imageOf_40 (by decide) ?_
        exact ih (x + 1) ls (by omega) (by omega) (by rw [e0]; exact (lv_sub hl [1, 0, 2, 3, 4] rfl))
      · refine lv_iload_n hx hb dX0_imageOf_23 rfl (lv_at hl 0 rfl) ?_
        refine lv_iconst (v := nI 1) hx hb dX0_imageOf_24 (by decide) ?_
        refine lv_aload_n hx hb dX0_imageOf_25 rfl (lv_at hl 2 rfl) ?_
        refine pw_get hx hb hts (fun _ h9 => List.mem_cons_of_mem _ (List.mem_append_right _ h9)) hown hK hP 1 rfl rfl 1 (by decide) hF.2.1 rfl (hts (.fieldLink RX0 17 "PastDraws$Chain" "next" "[[I") (List.mem_of_getElem? (i := 2) rfl)) dX0_imageOf_26 ?_
        refine lv_iload_n hx hb dX0_imageOf_29 rfl (lv_at hl 4 rfl) ?_
        refine pw_aald4 hx hb hK hP 5 rfl (by first | exact sgn_lt _ _ | omega) (by decide) dX0_imageOf_30 ?_
        refine lv_iload hx hb dX0_imageOf_31 (lv_at hl 1 rfl) ?_
        have hu_33 : u < 8 := (by first | exact sgn_lt _ _ | omega)
        have hx_33 : x < n := (by first | exact sgn_lt _ _ | omega)
        have q_33 : nx u x < n := (hN _ hu_33 _ hx_33).1
        refine pw_iald hx hb hK hP (21 + u) (shX_nx hu_33) hx_33 (by omega) (hN _ hu_33 _ hx_33).2 dX0_imageOf_33 ?_
        refine lv_ishl hx hb dX0_imageOf_34 ?_
        refine pw_topi (y := nI (2 ^ nx u x)) (ps_shl1 (by omega)) ?_
        refine lv_ior hx hb dX0_imageOf_35 ?_
        refine pw_topi (y := nI (imgF nx Z u x ||| 2 ^ nx u x)) (nx_or _ _) ?_
        refine lv_istore_n (lv' := [(3, .int (nI (imgF nx Z u x ||| 2 ^ nx u x))), (4, .int (nI x)), (0, .ref (Ad 1)), (1, .int (nI Z)), (2, .int (nI u))]) hx hb dX0_imageOf_36 rfl hl (by decide) rfl (fun ls hl => ?_)
        refine lv_iinc (v := nI (x + 1)) (lv' := [(4, .int (nI (x + 1))), (3, .int (nI (imgF nx Z u x ||| 2 ^ nx u x))), (0, .ref (Ad 1)), (1, .int (nI Z)), (2, .int (nI u))]) hx hb dX0_imageOf_37 hl (k := 1) rfl (nI_add _ 1) (by decide) rfl (fun ls hl => ?_)
        refine lv_goto (tgt := 5) hx hb dX0_imageOf_40 (by decide) ?_
        exact ih (x + 1) ls (by omega) (by omega) (by rw [imgF, if_neg c_20]; exact (lv_sub hl [1, 0, 2, 3, 4] rfl))

set_option maxHeartbeats 4000000 in
set_option maxRecDepth 100000 in
theorem c_X0_imageOf (l : Launch) (D : va_G) (cy : Nat → ClassId) (Ad : Nat → Nat) (n mm : Nat) (C : pw_C) (hn : 1 ≤ n ∧ n ≤ 12) (hF : fX n mm Ad C) (nx : Nat → Nat → Nat) (hN : gN n nx C) (Z u : Nat) (hZ : Z < 2 ^ 12) (hu : u < 8) : Met l yX0_imageOf wsX0_imageOf (k2_rm 0 0) (pw_Pre ([.ref (Ad 1), .int (nI Z), .int (nI u)]) D cy Ad (shX n) C) (k2_QcV (.int (nI (imgF nx Z u n)))) 0 0 (fun _ => False) := by
  refine Met.ofW (cc := cX0_imageOf) (maxL := 5) (ret := (some .int)) (by decide) rfl ?_
  intro p e s m args below meth c s₁ B hml hv
  obtain ⟨rfl, hP, hK⟩ := hv
  have hx := B.exec
  have hb := B.bytes
  have hr := B.returns
  have hts := atoms_spec (ws := wsX0_imageOf) B.pre
  have hown : s.vm.findClass RX0 = some m.cls := findClass_of_methodNamed B.named
  have hlocks := B.notSynchronized
  have S : CallFix p m c cX0_imageOf 5 s ([.ref (Ad 1), .int (nI Z), .int (nI u)]).toArray wsX0_imageOf RX0 := ⟨hx, hb, hml, hown, hts⟩
  change W p l e (k2_rm 0 0) s m _ below meth c s.heap [] 0 0 _ _
  have hl := lv_entry ([.ref (Ad 1), .int (nI Z), .int (nI u)]) (n := 5) (Nat.le_of_ble_eq_true rfl)
  rw [lg_entry_eq]
  generalize (lg_sl ([.ref (Ad 1), .int (nI Z), .int (nI u)]) ++ List.replicate (5 - (lg_sl ([.ref (Ad 1), .int (nI Z), .int (nI u)])).length) Slot.unset).toArray = ls at hl ⊢
  have hl : lv_has ls 5 [(0, .ref (Ad 1)), (1, .int (nI Z)), (2, .int (nI u))] := hl
  refine lv_iconst (v := nI 0) hx hb dX0_imageOf_0 (by decide) ?_
  refine lv_istore_n (lv' := [(3, .int (nI 0)), (0, .ref (Ad 1)), (1, .int (nI Z)), (2, .int (nI u))]) hx hb dX0_imageOf_1 rfl hl (by decide) rfl (fun ls hl => ?_)
  refine lv_iconst (v := nI 0) hx hb dX0_imageOf_2 (by decide) ?_
  refine lv_istore (lv' := [(4, .int (nI 0)), (3, .int (nI 0)), (0, .ref (Ad 1)), (1, .int (nI Z)), (2, .int (nI u))]) hx hb dX0_imageOf_3 hl (by decide) rfl (fun ls hl => ?_)
  exact L_imageOf S hK hP hF hn hN Z u hZ hu (fun pc9 ls hd9 => W.iret hx hb hr (fun t ht _ => ⟨rfl, ht⟩) (fun q h => by cases h) hd9) (n + 1) 0 ls (by omega) (by omega) (lv_sub hl [1, 0, 2, 3, 4] rfl)
