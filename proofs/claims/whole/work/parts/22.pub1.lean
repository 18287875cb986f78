def XI (n mm : Nat) (nx : Nat → Nat → Nat) (mx : Nat → Nat → Option Nat) (en : Nat → Bool) (am wt : Nat → Nat) (Ad : Nat → Nat) (C : pw_C) : Prop := fX n mm Ad C ∧ gN n nx C ∧ gM n mx C ∧ gE n en C ∧ gA am C ∧ gT wt C
/-- the cells that hold nothing between the calls -/
def scr (k : Nat) : Prop := (6 ≤ k ∧ k ≤ 9) ∨ k = 15 ∨ (17 ≤ k ∧ k ≤ 20) ∨ (29 ≤ k ∧ k < 41) ∨ 53 ≤ k
theorem XI_B {n mm : Nat} {nx : Nat → Nat → Nat} {mx : Nat → Nat → Option Nat} {en : Nat → Bool} {am wt Ad : Nat → Nat} {ks : Nat → Prop} {C C' : pw_C} (hn : n ≤ 12) (h : XI n mm nx mx en am wt Ad C) (hB : pw_B ks C C') (hk : ∀ k, ks k → scr k) : XI n mm nx mx en am wt Ad C' := by
  obtain ⟨h1, h2, h3, h4, h5, h6⟩ := h
  exact ⟨fX_B h1 hB, gN_B h2 hB (fun u hu q => by have := hk _ q; unfold scr at this; omega), gM_B h3 hB (fun u hu q => by have := hk _ q; unfold scr at this; omega), gE_B h4 hB (fun q => by have := hk _ q; unfold scr at this; omega), gA_B h5 hB (fun q => by have := hk _ q; unfold scr at this; omega), gT_B h6 hB (fun q => by have := hk _ q; unfold scr at this; omega)⟩
def ix (x : Int32) : Nat := x.toNatClampNeg
theorem wi_ex {x : Int32} {lo hi : Nat} (hh : hi < 2 ^ 31 ∧ lo < 2 ^ 31) (h : wi x (nI lo) (nI hi) = true) : ∃ j, lo ≤ j ∧ j ≤ hi ∧ x = nI j := by
  unfold wi at h
  rw [decide_eq_true_iff, Int32.le_iff_toInt_le, Int32.le_iff_toInt_le, nI_toInt hh.1, nI_toInt hh.2] at h
  refine ⟨x.toInt.toNat, by omega, by omega, ?_⟩
  apply Int32.toInt_inj.mp
  rw [nI_toInt (by omega)]
  omega
theorem fstT_spec {P : Nat → Bool} : ∀ f t x, fstT P f t = some x → t ≤ x ∧ x < t + f ∧ P x = true ∧ ∀ y, t ≤ y → y < x → P y = false := by
  intro f
  induction f with
  | zero => intro t x h; cases h
  | succ f ih =>
    intro t x h
    unfold fstT at h
    by_cases hp : P t = true
    · rw [if_pos hp] at h
      cases h
      exact ⟨Nat.le_refl _, by omega, hp, fun y h1 h2 => by omega⟩
    · rw [if_neg hp] at h
      obtain ⟨h1, h2, h3, h4⟩ := ih (t + 1) x h
      refine ⟨by omega, by omega, h3, fun y h5 h6 => ?_⟩
      rcases Nat.lt_or_ge t y with q | q
      · exact h4 y q h6
      · obtain rfl : y = t := by omega
        cases hq : P y
        · rfl
        · exact absurd hq hp
theorem fstT_none {P : Nat → Bool} : ∀ f t, fstT P f t = none → ∀ y, t ≤ y → y < t + f → P y = false := by
  intro f
  induction f with
  | zero => intro t _ y h1 h2; omega
  | succ f ih =>
    intro t h y h1 h2
    unfold fstT at h
    by_cases hp : P t = true
    · rw [if_pos hp] at h; cases h
    · rw [if_neg hp] at h
      rcases Nat.lt_or_ge t y with q | q
      · exact ih (t + 1) h y q (by omega)
      · obtain rfl : y = t := by omega
        cases hq : P y
        · rfl
        · exact absurd hq hp
def bOf (v : Int64) : Nat := (fstT (fun b => decide (v ≤ lN (2 ^ b))) 63 0).getD 0
def kOf (a : Int32) (v : Int64) : Nat := (fstT (fun k => decide (tb a k (bOf v) < v)) 1000000 0).getD 0
theorem bOf_ok {Z : Nat} (h : 1 ≤ Z ∧ Z ≤ 2 ^ 62) : bOf (lN Z) ≤ 62 ∧ Z ≤ 2 ^ bOf (lN Z) ∧ ∀ j, j < bOf (lN Z) → 2 ^ j < Z := by
  unfold bOf
  have hp : ∀ b, b ≤ 62 → (lN Z ≤ lN (2 ^ b) ↔ Z ≤ 2 ^ b) := fun b hb => pk_lLE (by omega) (pow62 hb)
  cases hf : fstT (fun b => decide (lN Z ≤ lN (2 ^ b))) 63 0 with
  | none =>
    have := fstT_none 63 0 hf 62 (by omega) (by omega)
    rw [decide_eq_false_iff_not, hp 62 (by omega)] at this
    omega
  | some x =>
    obtain ⟨h1, h2, h3, h4⟩ := fstT_spec 63 0 x hf
    have h3 := of_decide_eq_true h3
    rw [hp x (by omega)] at h3
    refine ⟨by show x ≤ 62; omega, h3, fun j hj => ?_⟩
    have hj : j < x := hj
    have := h4 j (by omega) hj
    rw [decide_eq_false_iff_not, hp j (by omega)] at this
    omega
theorem i64_of {v : Int64} (h : wl v 1 4611686018427387904 = true) : ∃ Z, 1 ≤ Z ∧ Z ≤ 2 ^ 62 ∧ v = lN Z := by
  unfold wl at h
  rw [decide_eq_true_iff, Int64.le_iff_toInt_le, Int64.le_iff_toInt_le] at h
  have e1 : (1 : Int64).toInt = 1 := by decide
  have e2 : (4611686018427387904 : Int64).toInt = 4611686018427387904 := by decide
  rw [e1, e2] at h
  refine ⟨v.toInt.toNat, by omega, by omega, ?_⟩
  apply Int64.toInt_inj.mp
  rw [pk_lT (by omega)]
  omega
theorem h64 (x : Int32) : ∃ z, z < 2 ^ 64 ∧ x.toInt64 = lN z ∧ z % 2 ^ 32 = x.toBitVec.toNat := by
  refine ⟨x.toInt64.toBitVec.toNat, x.toInt64.toBitVec.isLt, wb_inj (by rw [wb_tb]; apply BitVec.eq_of_toNat_eq; rw [BitVec.toNat_ofNat, Nat.mod_eq_of_lt x.toInt64.toBitVec.isLt]), ?_⟩
  have e : x.toInt64.toBitVec = x.toBitVec.signExtend 64 := by rfl
  have e2 : (x.toBitVec.signExtend 64).setWidth 32 = x.toBitVec := by
    apply BitVec.eq_of_getLsbD_eq
    intro i hi
    rw [BitVec.getLsbD_setWidth, BitVec.getLsbD_signExtend]
    simp [hi, show i < 64 by omega]
  rw [e]
  have e3 := congrArg BitVec.toNat e2
  rw [BitVec.toNat_setWidth] at e3
  exact e3
/-- the highest b bits of a low first HASH are below every bound that wants b bits -/
theorem tb_low {a : Int32} {k b : Nat} (hb : 1 ≤ b ∧ b ≤ 62) (h : (hsh a (nI (2 * k + 1))).toBitVec.toNat < 2147483648) : ∃ v, v < 2 ^ (b - 1) ∧ tb a k b = lN v := by
  obtain ⟨z1, hz1, e1, m1⟩ := h64 (hsh a (nI (2 * k + 1)))
  obtain ⟨z2, hz2, e2, m2⟩ := h64 (hsh a (nI (2 * k + 2)))
  unfold tb
  rw [if_neg (by omega), e1, e2]
  have hl : (hsh a (nI (2 * k + 2))).toBitVec.toNat < 2 ^ 32 := (hsh a (nI (2 * k + 2))).toBitVec.isLt
  have e3 : lN z1 <<< ((nI 32).toInt64 &&& 63) = lN (z1 % 2 ^ 32 * 2 ^ 32) := by
    rw [wb_shl z1 (by decide), wb_mod (z1 * 2 ^ 32)]
    congr 1
    omega
  have e4 : lN z2 &&& (4294967295 : Int64) = lN (z2 % 2 ^ 32) := wb_mask (k := 32) hz2 (by decide)
  rw [e3, e4, wb_or (by omega) (by omega)]
  have e5 : z1 % 2 ^ 32 * 2 ^ 32 ||| z2 % 2 ^ 32 = z1 % 2 ^ 32 * 2 ^ 32 + z2 % 2 ^ 32 := by
    rw [Nat.mul_comm, Nat.two_pow_add_eq_or_of_lt (by omega)]
  rw [e5, m1, m2, wb_shr (by omega) (by omega)]
  refine ⟨_, ?_, rfl⟩
  rw [Nat.div_lt_iff_lt_mul (Nat.pow_pos (by decide)), ← Nat.pow_add]
  have e6 : b - 1 + (64 - b) = 63 := by omega
  rw [e6]
  omega
theorem kOf_ok (a : Int32) {Z : Nat} (h : 1 ≤ Z ∧ Z ≤ 2 ^ 62) : kOf a (lN Z) < 1000000 ∧ tb a (kOf a (lN Z)) (bOf (lN Z)) < lN Z ∧ ∀ j, j < kOf a (lN Z) → ¬ tb a j (bOf (lN Z)) < lN Z := by
  obtain ⟨hb1, hb2, hb3⟩ := bOf_ok h
  have hex : ∃ k, k < 1000000 ∧ tb a k (bOf (lN Z)) < lN Z := by
    rcases Nat.eq_zero_or_pos (bOf (lN Z)) with q | q
    · refine ⟨0, by decide, ?_⟩
      rw [q]
      show (0 : Int64) < lN Z
      have e0 : (0 : Int64) = lN 0 := by decide
      rw [e0, pk_lLT (by decide) (by omega)]
      omega
    · obtain ⟨k, hk, hl⟩ := hs_low a
      obtain ⟨v, hv, ev⟩ := tb_low (b := bOf (lN Z)) ⟨q, hb1⟩ hl
      refine ⟨k, hk, ?_⟩
      have h9 := hb3 (bOf (lN Z) - 1) (by omega)
      rw [ev, pk_lLT (by omega) (by omega)]
      omega
  have e9 : kOf a (lN Z) = (fstT (fun k => decide (tb a k (bOf (lN Z)) < lN Z)) 1000000 0).getD 0 := rfl
  rw [e9]
  cases hf : fstT (fun k => decide (tb a k (bOf (lN Z)) < lN Z)) 1000000 0 with
  | none =>
    obtain ⟨k, hk, hl⟩ := hex
    have := fstT_none _ _ hf k (by omega) (by omega)
    exact absurd hl (of_decide_eq_false this)
  | some x =>
    obtain ⟨h1, h2, h3, h4⟩ := fstT_spec _ _ x hf
    exact ⟨by show x < 1000000; omega, of_decide_eq_true h3, fun j hj => of_decide_eq_false (h4 j (by omega) hj)⟩
def f_pick (a : Int32) (v : Int64) : Int64 := if wl v 1 4611686018427387904 = true then tb a (kOf a v) (bOf v) else (-1)
def f_tries (a : Int32) (v : Int64) : Int32 := if wl v 1 4611686018427387904 = true then nI (kOf a v + 1) else (-1)
def f_rule (n : Nat) (nx : Nat → Nat → Nat) (a b d : Int32) : Int32 := if (wi a (nI 0) (nI (n - 1)) && wi b (nI 0) (nI 7) && wi d (nI 0) (nI (n - 1))) = true then nI (nx (ix b) (ix a)) else (-1)
def u_rule (n : Nat) (nx : Nat → Nat → Nat) (a b d : Int32) : Nat → Nat → Nat := if (wi a (nI 0) (nI (n - 1)) && wi b (nI 0) (nI 7) && wi d (nI 0) (nI (n - 1))) = true then (fun u x => if u = ix b ∧ x = ix a then ix d else nx u x) else nx
def f_taken (n : Nat) (nx : Nat → Nat → Nat) (a b d : Int32) : Int32 := if (wi b (nI 1) (nI 4096) && wi d (nI 0) (nI (n - 1))) = true then nI (thr nx a (ix b) (ix d)) else (-1)
def pst (n : Nat) (nx : Nat → Nat → Nat) (a : Int32) (M : Nat) : Int32 := match fstT (fun t => mtF (thr nx a t) n) M 1 with
  | none => (-2)
  | some t => if M < pw2 t then (-2) else nI (thr nx a (pw2 t) 0)
def f_past (n : Nat) (nx : Nat → Nat → Nat) (a b : Int32) : Int32 := if wi b (nI 1) (nI 4096) = true then pst n nx a (ix b) else (-1)
def f_fold (n : Nat) (nx : Nat → Nat → Nat) (a b : Int32) : Int32 := if wi b (nI 1) (nI 4096) = true then oi (fstT (fun t => mtF (thr nx a t) n) (ix b) 1) else (-1)
def f_bounding (n : Nat) (nx : Nat → Nat → Nat) (a b : Int32) : Int32 := if wi b (nI 1) (nI 64) = true then oi (fstT (fun t => bmt nx n a t) (ix b) 1) else (-1)
def f_counted (n : Nat) (nx : Nat → Nat → Nat) (a b : Int32) : Int32 := if (wi a (nI 1) (nI 5) && wi b (-1) (nI (n - 1))) = true then (if b = (-1) then apF (rws nx n (ix a)) (2 ^ n - 1) else rws nx n (ix a) (2 ^ ix b)) else (-1)
def f_trees (n : Nat) (nx : Nat → Nat → Nat) (a : Int32) : Int64 := if wi a (-1) (nI (n - 1)) = true then (if a = (-1) then trS nx n n else trF nx n (ix a)) else (-1)
def f_once (n : Nat) (nx : Nat → Nat → Nat) (a b d : Int32) : Int32 := if (wi b (nI 1) (nI 64) && wi d (nI 0) (nI 99)) = true then oi (drF nx n a (ix b) (ix d) 500 0 false 0 0) else (-1)
theorem wi_m1 {x : Int32} {k : Nat} (hk : k < 2 ^ 31) (h : wi x (-1) (nI k) = true) : x = (-1) ∨ ∃ j, j ≤ k ∧ x = nI j := by
  unfold wi at h
  rw [decide_eq_true_iff, Int32.le_iff_toInt_le, Int32.le_iff_toInt_le, nI_toInt hk] at h
  have e1 : (-1 : Int32).toInt = -1 := by decide
  rw [e1] at h
  rcases (show x.toInt = -1 ∨ 0 ≤ x.toInt by omega) with q | q
  · left
    apply Int32.toInt_inj.mp
    rw [q, e1]
  · right
    refine ⟨x.toInt.toNat, by omega, ?_⟩
    apply Int32.toInt_inj.mp
    rw [nI_toInt (by omega)]
    omega
theorem ni_m1 {y : Nat} (h : y < 2 ^ 31) : ¬ nI y = (-1) := fun q => by
  have h1 := nI_toInt h
  rw [q] at h1
  have : (-1 : Int32).toInt = -1 := by decide
  omega
theorem pw2_le {x : Nat} (hx : x ≤ 4096) : x ≤ pw2 x ∧ pw2 x ≤ 4096 := by
  have h : ∀ f q, q * 2 ^ f = 8192 → q ≤ 4096 → x ≤ pwF f q x ∧ pwF f q x ≤ 4096 := by
    intro f
    induction f with
    | zero => intro q h1 h2; omega
    | succ f ih =>
      intro q h1 h2
      unfold pwF
      by_cases hc : q < x ∧ q < 4096
      · rw [if_pos hc]
        refine ih (q * 2) ?_ ?_
        · rw [Nat.pow_succ] at h1
          rw [← h1, Nat.mul_assoc, Nat.mul_comm 2]
        · have h3 : q * 2 * 2 ^ f = 8192 := by rw [Nat.pow_succ] at h1; rw [← h1, Nat.mul_assoc, Nat.mul_comm 2]
          rcases Nat.eq_zero_or_pos f with z | z
          · subst z; rw [Nat.pow_zero] at h3; omega
          · have h4 : 2 ≤ 2 ^ f := by
              have := Nat.pow_le_pow_right (show 0 < 2 by decide) z
              simpa using this
            have h5 : q * 2 * 2 ≤ q * 2 * 2 ^ f := Nat.mul_le_mul_left _ h4
            omega
      · rw [if_neg hc]
        omega
  exact h 13 1 (by decide) (by decide)

set_option maxHeartbeats 4000000 in
set_option maxRecDepth 100000 in
theorem c_X4_isState (l : Launch) (D : va_G) (cy : Nat → ClassId) (Ad : Nat → Nat) (n mm : Nat) (C : pw_C) (hn : 1 ≤ n ∧ n ≤ 12) (hF : fX n mm Ad C) (x : Int32) : Met l yX4_isState wsX4_isState (k2_rm 0 0) (pw_Pre ([.ref (Ad 0), .int x]) D cy Ad (shX n) C) (k2_QcV (.int (pb (wi x (nI 0) (nI (n - 1)))))) 0 0 (fun _ => False) := by
  refine Met.ofW (cc := cX4_isState) (maxL := 2) (ret := (some .boolean)) (by decide) rfl ?_
  intro p e s m args below meth c s₁ B hml hv
  obtain ⟨rfl, hP, hK⟩ := hv
  have hx := B.exec
  have hb := B.bytes
  have hr := B.returns
  have hts := atoms_spec (ws := wsX4_isState) B.pre
  have hown : s.vm.findClass RX4 = some m.cls := findClass_of_methodNamed B.named
  have hlocks := B.notSynchronized
  have S : CallFix p m c cX4_isState 2 s ([.ref (Ad 0), .int x]).toArray wsX4_isState RX4 := ⟨hx, hb, hml, hown, hts⟩
  change W p l e (k2_rm 0 0) s m _ below meth c s.heap [] 0 0 _ _
  have hl := lv_entry ([.ref (Ad 0), .int x]) (n := 2) (Nat.le_of_ble_eq_true rfl)
  rw [lg_entry_eq]
  generalize (lg_sl ([.ref (Ad 0), .int x]) ++ List.replicate (2 - (lg_sl ([.ref (Ad 0), .int x])).length) Slot.unset).toArray = ls at hl ⊢
  have hl : lv_has ls 2 [(0, .ref (Ad 0)), (1, .int x)] := hl
  refine lv_iload_n hx hb dX4_isState_0 rfl (lv_at hl 1 rfl) ?_
  refine lv_if_lt (tgt := 16) hx hb dX4_isState_1 (by decide) (fun c_1 => ?_) (fun c_1 => ?_)
  · have e9 : wi x (nI 0) (nI (n - 1)) = false := wt_f1 c_1
    refine lv_iconst (v := nI 0) hx hb dX4_isState_16 (by decide) ?_
    refine pw_topi (y := pb (wi x (nI 0) (nI (n - 1)))) (by rw [e9]; rfl) ?_
    exact W.zret hx hb hr (pb_nar _) (fun t ht _ => ⟨rfl, ht⟩) (fun q h => by cases h) dX4_isState_17
  · refine lv_iload_n hx hb dX4_isState_4 rfl (lv_at hl 1 rfl) ?_
    refine lv_aload_n hx hb dX4_isState_5 rfl (lv_at hl 0 rfl) ?_
    refine pw_get hx hb hts (fun _ h9 => List.mem_cons_of_mem _ (List.mem_append_right _ h9)) hown hK hP 0 rfl rfl 0 (by decide) hF.1 rfl (hts (.fieldLink RX4 18 "PastDraws" "stateCount" "I") (List.mem_of_getElem? (i := 1) rfl)) dX4_isState_6 ?_
    refine lv_icmp_ge (tgt := 16) hx hb dX4_isState_9 (by decide) (fun c_9 => ?_) (fun c_9 => ?_)
    · have e9 : wi x (nI 0) (nI (n - 1)) = false := wt_f2 (by omega) c_9
      refine lv_iconst (v := nI 0) hx hb dX4_isState_16 (by decide) ?_
      refine pw_topi (y := pb (wi x (nI 0) (nI (n - 1)))) (by rw [e9]; rfl) ?_
      exact W.zret hx hb hr (pb_nar _) (fun t ht _ => ⟨rfl, ht⟩) (fun q h => by cases h) dX4_isState_17
    · have e9 : wi x (nI 0) (nI (n - 1)) = true := wt_t (by omega) c_1 c_9
      refine lv_iconst (v := nI 1) hx hb dX4_isState_12 (by decide) ?_
      refine lv_goto (tgt := 17) hx hb dX4_isState_13 (by decide) ?_
      refine pw_topi (y := pb (wi x (nI 0) (nI (n - 1)))) (by rw [e9]; rfl) ?_
      exact W.zret hx hb hr (pb_nar _) (fun t ht _ => ⟨rfl, ht⟩) (fun q h => by cases h) dX4_isState_17

set_option maxHeartbeats 4000000 in
set_option maxRecDepth 100000 in
theorem c_X4_hash (l : Launch) (D : va_G) (cy : Nat → ClassId) (Ad : Nat → Nat) (n mm : Nat) (C : pw_C) (hI : pw_I Ad (shX n)) (hn : 1 ≤ n ∧ n ≤ 12) (hmm : 1 ≤ mm ∧ mm ≤ 16) (nx : Nat → Nat → Nat) (mx : Nat → Nat → Option Nat) (en : Nat → Bool) (am wt : Nat → Nat) (hX : XI n mm nx mx en am wt Ad C) (a b : Int32) : Met l yX4_hash wsX4_hash (k2_rm 1 22) (pw_Pre ([.ref (Ad 0), .int a, .int b]) D cy Ad (shX n) C) (k2_QcV (.int (hsh a b))) 0 0 (fun _ => False) := by
  refine Met.ofW (cc := cX4_hash) (maxL := 3) (ret := (some .int)) (by decide) rfl ?_
  intro p e s m args below meth c s₁ B hml hv
  obtain ⟨rfl, hP, hK⟩ := hv
  have hx := B.exec
  have hb := B.bytes
  have hr := B.returns
  have hts := atoms_spec (ws := wsX4_hash) B.pre
  have hown : s.vm.findClass RX4 = some m.cls := findClass_of_methodNamed B.named
  have hlocks := B.notSynchronized
  have S : CallFix p m c cX4_hash 3 s ([.ref (Ad 0), .int a, .int b]).toArray wsX4_hash RX4 := ⟨hx, hb, hml, hown, hts⟩
  change W p l e (k2_rm 1 22) s m _ below meth c s.heap [] 0 0 _ _
  have hl := lv_entry ([.ref (Ad 0), .int a, .int b]) (n := 3) (Nat.le_of_ble_eq_true rfl)
  rw [lg_entry_eq]
  obtain ⟨hF, hN, hM, hE, hA, hT⟩ := id hX
  generalize (lg_sl ([.ref (Ad 0), .int a, .int b]) ++ List.replicate (3 - (lg_sl ([.ref (Ad 0), .int a, .int b])).length) Slot.unset).toArray = ls at hl ⊢
  have hl : lv_has ls 3 [(0, .ref (Ad 0)), (1, .int a), (2, .int b)] := hl
  refine lv_iload_n hx hb dX4_hash_0 rfl (lv_at hl 1 rfl) ?_
  refine lv_iload_n hx hb dX4_hash_1 rfl (lv_at hl 2 rfl) ?_
  refine pw_cs S 2 (c_X4_mixed l a b) gX4_hash_X4_mixed rfl rfl rfl (by decide +kernel) ⟨Nat.le_of_ble_eq_true rfl, Nat.le_of_ble_eq_true rfl⟩ rfl hl.1 rfl (Nat.le_of_ble_eq_true rfl) dX4_hash_2 ⟨Nat.le_refl _, Nat.le_refl _⟩ ?_
  exact W.iret hx hb hr (fun t ht _ => ⟨rfl, ht⟩) (fun q h => by cases h) dX4_hash_5

set_option maxHeartbeats 4000000 in
set_option maxRecDepth 100000 in
theorem c_X4_pick (l : Launch) (D : va_G) (cy : Nat → ClassId) (Ad : Nat → Nat) (n mm : Nat) (C : pw_C) (hI : pw_I Ad (shX n)) (hn : 1 ≤ n ∧ n ≤ 12) (hmm : 1 ≤ mm ∧ mm ≤ 16) (nx : Nat → Nat → Nat) (mx : Nat → Nat → Option Nat) (en : Nat → Bool) (am wt : Nat → Nat) (hX : XI n mm nx mx en am wt Ad C) (a : Int32) (v : Int64) : Met l yX4_pick wsX4_pick (k2_rm 3 72) (pw_Pre ([.ref (Ad 0), .int a, .long v]) D cy Ad (shX n) C) (k2_QcV (.long (f_pick a v))) 0 0 (fun _ => False) := by
  refine Met.ofW (cc := cX4_pick) (maxL := 5) (ret := (some .long)) (by decide) rfl ?_
  intro p e s m args below meth c s₁ B hml hv
  obtain ⟨rfl, hP, hK⟩ := hv
  have hx := B.exec
  have hb := B.bytes
  have hr := B.returns
  have hts := atoms_spec (ws := wsX4_pick) B.pre
  have hown : s.vm.findClass RX4 = some m.cls := findClass_of_methodNamed B.named
  have hlocks := B.notSynchronized
  have S : CallFix p m c cX4_pick 5 s ([.ref (Ad 0), .int a, .long v]).toArray wsX4_pick RX4 := ⟨hx, hb, hml, hown, hts⟩
  change W p l e (k2_rm 3 72) s m _ below meth c s.heap [] 0 0 _ _
  have hl := lv_entry ([.ref (Ad 0), .int a, .long v]) (n := 5) (Nat.le_of_ble_eq_true rfl)
  rw [lg_entry_eq]
  obtain ⟨hF, hN, hM, hE, hA, hT⟩ := id hX
  generalize (lg_sl ([.ref (Ad 0), .int a, .long v]) ++ List.replicate (5 - (lg_sl ([.ref (Ad 0), .int a, .long v])).length) Slot.unset).toArray = ls at hl ⊢
  have hl : lv_has ls 5 [(0, .ref (Ad 0)), (1, .int a), (2, .long v)] := hl
  refine lv_lload_n hx hb dX4_pick_0 rfl (lv_at hl 2 rfl) ?_
  refine pw_cs S 1 (c_X4_isBound l v) gX4_pick_X4_isBound rfl rfl rfl (by decide +kernel) ⟨Nat.le_of_ble_eq_true rfl, Nat.le_of_ble_eq_true rfl⟩ rfl hl.1 rfl (Nat.le_of_ble_eq_true rfl) dX4_pick_1 ⟨Nat.le_refl _, Nat.le_refl _⟩ ?_
  refine pn_ifne_b (tgt := 11) hx hb dX4_pick_4 (by decide) (fun c_4 => ?_) (fun c_4 => ?_)
  · obtain ⟨Z, hZ1, hZ2, rfl⟩ := i64_of c_4
    have hZ : 1 ≤ Z ∧ Z ≤ 2 ^ 62 := ⟨hZ1, hZ2⟩
    obtain ⟨hb1, hb2, hb3⟩ := bOf_ok hZ
    obtain ⟨hk1, hk2, hk3⟩ := kOf_ok a hZ
    refine lv_lload_n hx hb dX4_pick_11 rfl (lv_at hl 2 rfl) ?_
    refine pw_cs S 1 (c_X4_bitsFor l Z (bOf (lN Z)) hZ.2 hb1 hb2 hb3) gX4_pick_X4_bitsFor rfl rfl rfl (by decide +kernel) ⟨Nat.le_of_ble_eq_true rfl, Nat.le_of_ble_eq_true rfl⟩ rfl hl.1 rfl (Nat.le_of_ble_eq_true rfl) dX4_pick_12 ⟨Nat.le_refl _, Nat.le_refl _⟩ ?_
    refine lv_istore (lv' := [(4, .int (nI (bOf (lN Z)))), (0, .ref (Ad 0)), (1, .int a), (2, .long (lN Z))]) hx hb dX4_pick_15 hl (by decide) rfl (fun ls hl => ?_)
    refine lv_iload_n hx hb dX4_pick_17 rfl (lv_at hl 2 rfl) ?_
    refine lv_iload_n hx hb dX4_pick_18 rfl (lv_at hl 2 rfl) ?_
    refine lv_lload_n hx hb dX4_pick_19 rfl (lv_at hl 3 rfl) ?_
    refine lv_iload hx hb dX4_pick_20 (lv_at hl 0 rfl) ?_
    refine pw_cs S 3 (c_X4_firstBelow l a (lN Z) (kOf a (lN Z)) (bOf (lN Z)) hb1 hk1 hk2 hk3) gX4_pick_X4_firstBelow rfl rfl rfl (by decide +kernel) ⟨Nat.le_of_ble_eq_true rfl, Nat.le_of_ble_eq_true rfl⟩ rfl hl.1 rfl (Nat.le_of_ble_eq_true rfl) dX4_pick_22 ⟨Nat.le_refl _, Nat.le_refl _⟩ ?_
    refine lv_iload hx hb dX4_pick_25 (lv_at hl 0 rfl) ?_
    refine pw_cs S 3 (c_X4_topBits l a (kOf a (lN Z)) (bOf (lN Z)) hb1) gX4_pick_X4_topBits rfl rfl rfl (by decide +kernel) ⟨Nat.le_of_ble_eq_true rfl, Nat.le_of_ble_eq_true rfl⟩ rfl hl.1 rfl (Nat.le_of_ble_eq_true rfl) dX4_pick_27 ⟨Nat.le_refl _, Nat.le_refl _⟩ ?_
    refine pw_topl (y := f_pick a (lN Z)) (by unfold f_pick; simp [c_4]) ?_
    exact W.lret hx hb hr (fun t ht _ => ⟨rfl, ht⟩) (fun q h => by cases h) dX4_pick_30
  · refine lv_ldc2 hx hb hown (hts (.constantLong RX4 59 (-1)) (List.mem_of_getElem? (i := 1) rfl)) dX4_pick_7 ?_
    refine pw_topl (y := f_pick a v) (by unfold f_pick; simp [c_4]) ?_
    exact W.lret hx hb hr (fun t ht _ => ⟨rfl, ht⟩) (fun q h => by cases h) dX4_pick_10

set_option maxHeartbeats 4000000 in
set_option maxRecDepth 100000 in
theorem c_X4_tries (l : Launch) (D : va_G) (cy : Nat → ClassId) (Ad : Nat → Nat) (n mm : Nat) (C : pw_C) (hI : pw_I Ad (shX n)) (hn : 1 ≤ n ∧ n ≤ 12) (hmm : 1 ≤ mm ∧ mm ≤ 16) (nx : Nat → Nat → Nat) (mx : Nat → Nat → Option Nat) (en : Nat → Bool) (am wt : Nat → Nat) (hX : XI n mm nx mx en am wt Ad C) (a : Int32) (v : Int64) : Met l yX4_tries wsX4_tries (k2_rm 3 72) (pw_Pre ([.ref (Ad 0), .int a, .long v]) D cy Ad (shX n) C) (k2_QcV (.int (f_tries a v))) 0 0 (fun _ => False) := by
  refine Met.ofW (cc := cX4_tries) (maxL := 4) (ret := (some .int)) (by decide) rfl ?_
  intro p e s m args below meth c s₁ B hml hv
  obtain ⟨rfl, hP, hK⟩ := hv
  have hx := B.exec
  have hb := B.bytes
  have hr := B.returns
  have hts := atoms_spec (ws := wsX4_tries) B.pre
  have hown : s.vm.findClass RX4 = some m.cls := findClass_of_methodNamed B.named
  have hlocks := B.notSynchronized
  have S : CallFix p m c cX4_tries 4 s ([.ref (Ad 0), .int a, .long v]).toArray wsX4_tries RX4 := ⟨hx, hb, hml, hown, hts⟩
  change W p l e (k2_rm 3 72) s m _ below meth c s.heap [] 0 0 _ _
  have hl := lv_entry ([.ref (Ad 0), .int a, .long v]) (n := 4) (Nat.le_of_ble_eq_true rfl)
  rw [lg_entry_eq]
  obtain ⟨hF, hN, hM, hE, hA, hT⟩ := id hX
  generalize (lg_sl ([.ref (Ad 0), .int a, .long v]) ++ List.replicate (4 - (lg_sl ([.ref (Ad 0), .int a, .long v])).length) Slot.unset).toArray = ls at hl ⊢
  have hl : lv_has ls 4 [(0, .ref (Ad 0)), (1, .int a), (2, .long v)] := hl
  refine lv_lload_n hx hb dX4_tries_0 rfl (lv_at hl 2 rfl) ?_
  refine pw_cs S 1 (c_X4_isBound l v) gX4_tries_X4_isBound rfl rfl rfl (by decide +kernel) ⟨Nat.le_of_ble_eq_true rfl, Nat.le_of_ble_eq_true rfl⟩ rfl hl.1 rfl (Nat.le_of_ble_eq_true rfl) dX4_tries_1 ⟨Nat.le_refl _, Nat.le_refl _⟩ ?_
  refine pn_ifne_b (tgt := 9) hx hb dX4_tries_4 (by decide) (fun c_4 => ?_) (fun c_4 => ?_)
  · obtain ⟨Z, hZ1, hZ2, rfl⟩ := i64_of c_4
    have hZ : 1 ≤ Z ∧ Z ≤ 2 ^ 62 := ⟨hZ1, hZ2⟩
    obtain ⟨hb1, hb2, hb3⟩ := bOf_ok hZ
    obtain ⟨hk1, hk2, hk3⟩ := kOf_ok a hZ
    refine lv_iload_n hx hb dX4_tries_9 rfl (lv_at hl 1 rfl) ?_
    refine lv_lload_n hx hb dX4_tries_10 rfl (lv_at hl 2 rfl) ?_
    refine lv_lload_n hx hb dX4_tries_11 rfl (lv_at hl 2 rfl) ?_
    refine pw_cs S 1 (c_X4_bitsFor l Z (bOf (lN Z)) hZ.2 hb1 hb2 hb3) gX4_tries_X4_bitsFor rfl rfl rfl (by decide +kernel) ⟨Nat.le_of_ble_eq_true rfl, Nat.le_of_ble_eq_true rfl⟩ rfl hl.1 rfl (Nat.le_of_ble_eq_true rfl) dX4_tries_12 ⟨Nat.le_refl _, Nat.le_refl _⟩ ?_
    refine pw_cs S 3 (c_X4_firstBelow l a (lN Z) (kOf a (lN Z)) (bOf (lN Z)) hb1 hk1 hk2 hk3) gX4_tries_X4_firstBelow rfl rfl rfl (by decide +kernel) ⟨Nat.le_of_ble_eq_true rfl, Nat.le_of_ble_eq_true rfl⟩ rfl hl.1 rfl (Nat.le_of_ble_eq_true rfl) dX4_tries_15 ⟨Nat.le_refl _, Nat.le_refl _⟩ ?_
    refine lv_iconst (v := nI 1) hx hb dX4_tries_18 (by decide) ?_
    refine lv_iadd hx hb dX4_tries_19 ?_
    refine pw_topi (nI_add _ _) ?_
    refine pw_topi (y := f_tries a (lN Z)) (by unfold f_tries; simp [c_4]) ?_
    exact W.iret hx hb hr (fun t ht _ => ⟨rfl, ht⟩) (fun q h => by cases h) dX4_tries_20
  · refine lv_iconst (v := (-1)) hx hb dX4_tries_7 (by decide) ?_
    refine pw_topi (y := f_tries a v) (by unfold f_tries; simp [c_4]) ?_
    exact W.iret hx hb hr (fun t ht _ => ⟨rfl, ht⟩) (fun q h => by cases h) dX4_tries_8
