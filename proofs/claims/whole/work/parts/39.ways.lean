theorem bm32 {x : Int} (h : -(2 ^ 31) ≤ x ∧ x < 2 ^ 31) : x.bmod (2 ^ 32) = x := by
  apply Int.bmod_eq_of_le <;> omega
theorem a32 {x y : Int32} (h : -(2 ^ 30) ≤ x.toInt ∧ x.toInt ≤ 2 ^ 30) (h2 : -(2 ^ 29) ≤ y.toInt ∧ y.toInt ≤ 2 ^ 29) : (x + y).toInt = x.toInt + y.toInt := by
  rw [Int32.toInt_add]; exact bm32 (by omega)
theorem s32 {x y : Int32} (h : -(2 ^ 30) ≤ x.toInt ∧ x.toInt ≤ 2 ^ 30) (h2 : -(2 ^ 29) ≤ y.toInt ∧ y.toInt ≤ 2 ^ 29) : (x - y).toInt = x.toInt - y.toInt := by
  rw [Int32.toInt_sub]; exact bm32 (by omega)
def woF (am : Nat → Nat) (wy : Nat → Int32) (Z v : Nat) : Int32 := if fre am Z v = true then wy (Z ||| 2 ^ v) else 0
theorem wbS_s (am : Nat → Nat) (wy : Nat → Int32) (Z v : Nat) : wbS am wy Z (v + 1) = wbS am wy Z v + woF am wy Z v := by
  show (if fre am Z v = true then wbS am wy Z v + wy (Z ||| 2 ^ v) else wbS am wy Z v) = _
  unfold woF
  by_cases h : fre am Z v = true
  · rw [if_pos h, if_pos h]
  · rw [if_neg h, if_neg h, Int32.add_zero]
theorem wbS_congr {am : Nat → Nat} {f g : Nat → Int32} {Z : Nat} : ∀ {k : Nat}, (∀ v, v < k → fre am Z v = true → f (Z ||| 2 ^ v) = g (Z ||| 2 ^ v)) → wbS am f Z k = wbS am g Z k := by
  intro k
  induction k with
  | zero => intro _; rfl
  | succ k ih =>
    intro h
    show (if fre am Z k = true then wbS am f Z k + f (Z ||| 2 ^ k) else wbS am f Z k) = (if fre am Z k = true then wbS am g Z k + g (Z ||| 2 ^ k) else wbS am g Z k)
    rw [ih (fun v hv => h v (by omega))]
    by_cases q : fre am Z k = true
    · rw [if_pos q, if_pos q, h k (by omega) q]
    · rw [if_neg q, if_neg q]
theorem fre_nb {am : Nat → Nat} {Z v : Nat} (h : fre am Z v = true) : Z.testBit v = false := by
  unfold fre at h
  rw [Bool.and_eq_true] at h
  simpa using h.2
theorem wyF_eq {am : Nat → Nat} {m9 Z : Nat} (hm : m9 ≤ 8) (hZ : Z + 1 < 2 ^ m9) : wyF am m9 Z = wbS am (wyF am m9) Z m9 := by
  have h8 := pow8 hm
  obtain ⟨k, hk⟩ : ∃ k, 2 ^ m9 - 1 - Z = k + 1 := ⟨2 ^ m9 - 1 - Z - 1, by omega⟩
  have e1 : wyF am m9 Z = wyD am m9 (k + 1) Z := wyD_ge (k + 1) (2 ^ m9 - 1) Z (by omega) (by omega) (Nat.le_refl _) (by omega)
  rw [e1]
  show (if Z = 2 ^ m9 - 1 - (k + 1) then wbS am (wyD am m9 k) Z m9 else wyD am m9 k Z) = _
  rw [if_pos (by omega)]
  refine wbS_congr (fun v hv hf => ?_)
  have h1 := or_gt Z (by omega) v (by omega) (fre_nb hf)
  exact (wyD_ge k (2 ^ m9 - 1) (Z ||| 2 ^ v) (by omega) (by omega) (Nat.le_refl _) (or_ltm (by omega) hv)).symm
theorem wyF_top {am : Nat → Nat} {m9 : Nat} : wyF am m9 (2 ^ m9 - 1) = 1 := by
  have h1 : 1 ≤ 2 ^ m9 := Nat.pow_pos (by decide)
  have e1 : wyF am m9 (2 ^ m9 - 1) = wyD am m9 0 (2 ^ m9 - 1) := wyD_ge 0 (2 ^ m9 - 1) (2 ^ m9 - 1) (by omega) (by omega) (Nat.le_refl _) (by omega)
  rw [e1]
  exact if_pos rfl
theorem wb_b {am : Nat → Nat} {wy : Nat → Int32} {Z m9 : Nat} {B : Int} (hm : m9 ≤ 8) (hB : 0 ≤ B ∧ B ≤ 2 ^ 24) (hw : ∀ v, v < m9 → fre am Z v = true → 0 ≤ (wy (Z ||| 2 ^ v)).toInt ∧ (wy (Z ||| 2 ^ v)).toInt ≤ B) : (∀ k, k ≤ m9 → 0 ≤ (wbS am wy Z k).toInt ∧ (wbS am wy Z k).toInt ≤ k * B) ∧ ∀ k, k < m9 → 0 ≤ (woF am wy Z k).toInt ∧ (woF am wy Z k).toInt ≤ B ∧ (wbS am wy Z (k + 1)).toInt = (wbS am wy Z k).toInt + (woF am wy Z k).toInt := by
  have ho : ∀ k, k < m9 → 0 ≤ (woF am wy Z k).toInt ∧ (woF am wy Z k).toInt ≤ B := fun k hk => by
    unfold woF
    by_cases q : fre am Z k = true
    · rw [if_pos q]; exact hw k hk q
    · rw [if_neg q]; have : (0 : Int32).toInt = 0 := by decide
      omega
  have h : ∀ k, k ≤ m9 → 0 ≤ (wbS am wy Z k).toInt ∧ (wbS am wy Z k).toInt ≤ k * B := by
    intro k
    induction k with
    | zero => intro _; have : (wbS am wy Z 0).toInt = 0 := (by decide : (0 : Int32).toInt = 0); rw [this]; omega
    | succ k ih =>
      intro hk
      have h1 := ih (by omega)
      have h2 := ho k (by omega)
      have h3 : (k : Int) * B ≤ 8 * B := Int.mul_le_mul_of_nonneg_right (by omega) hB.1
      rw [wbS_s, a32 (by omega) (by omega), Int.natCast_succ, Int.add_mul]
      omega
  refine ⟨h, fun k hk => ⟨(ho k hk).1, (ho k hk).2, ?_⟩⟩
  have h1 := h k (by omega)
  have h2 := ho k hk
  have h3 : (k : Int) * B ≤ 8 * B := Int.mul_le_mul_of_nonneg_right (by omega) hB.1
  rw [wbS_s, a32 (by omega) (by omega)]
theorem p8 {l : Nat} (h : l ≤ 8) : 0 ≤ (8 : Int) ^ l ∧ (8 : Int) ^ l ≤ 2 ^ 24 := by
  have h1 : (8 : Nat) ^ l ≤ 8 ^ 8 := Nat.pow_le_pow_right (by decide) h
  have h2 : (8 : Nat) ^ 8 = 2 ^ 24 := by decide
  have h3 : (8 : Int) ^ l = ((8 ^ l : Nat) : Int) := by push_cast; rfl
  rw [h3]
  exact ⟨Int.natCast_nonneg _, by omega⟩
theorem pcn_le : ∀ Z, Z < 256 → pcn Z ≤ 8 := by decide +kernel
theorem pc_all : ∀ m9, m9 < 9 → ∀ Z, Z < 256 → Z < 2 ^ m9 → (pcn Z ≤ m9 ∧ (pcn Z = m9 ↔ Z = 2 ^ m9 - 1)) := by decide +kernel
def pcF (Z : Nat) : Nat → Nat
  | 0 => 0
  | k + 1 => pcF Z k + Z / 2 ^ k % 2
theorem pcF_all : ∀ m9, m9 < 9 → ∀ Z, Z < 256 → Z < 2 ^ m9 → pcF Z m9 = pcn Z := by decide +kernel
theorem wy_b {am : Nat → Nat} {m9 : Nat} (hm : m9 ≤ 8) : ∀ k Z, Z < 2 ^ m9 → 2 ^ m9 - 1 - Z ≤ k → 0 ≤ (wyF am m9 Z).toInt ∧ (wyF am m9 Z).toInt ≤ 8 ^ (8 - pcn Z) := by
  have h8 := pow8 hm
  intro k
  induction k with
  | zero =>
    intro Z hZ hk
    obtain rfl : Z = 2 ^ m9 - 1 := by omega
    rw [wyF_top]
    have e1 : (1 : Int32).toInt = 1 := by decide
    rw [e1]
    have h3 : (8 : Int) ^ (8 - pcn (2 ^ m9 - 1)) = ((8 ^ (8 - pcn (2 ^ m9 - 1)) : Nat) : Int) := by push_cast; rfl
    have h4 : 1 ≤ 8 ^ (8 - pcn (2 ^ m9 - 1)) := Nat.pow_pos (by decide)
    rw [h3]
    exact ⟨by decide, by omega⟩
  | succ k ih =>
    intro Z hZ hk
    by_cases ht : Z = 2 ^ m9 - 1
    · subst ht; exact ih _ hZ (by omega)
    · have hpc := (pc_all m9 (by omega) Z (by omega) hZ)
      have hp8 : pcn Z < 8 := by have := mt hpc.2.mp ht; omega
      have hp := p8 (l := 8 - pcn Z - 1) (by omega)
      have hb := wb_b (am := am) (wy := wyF am m9) (Z := Z) (m9 := m9) (B := 8 ^ (8 - pcn Z - 1)) hm hp (fun v hv hf => by
        have h1 := or_gt Z (by omega) v (by omega) (fre_nb hf)
        have h2 := pcn_nb Z (by omega) v (by omega) (fre_nb hf)
        have h3 := ih (Z ||| 2 ^ v) (or_ltm hZ hv) (by omega)
        rw [h2, show 8 - (pcn Z + 1) = 8 - pcn Z - 1 by omega] at h3
        exact h3)
      rw [wyF_eq hm (by omega)]
      have h9 := hb.1 m9 (Nat.le_refl _)
      have e : (8 : Int) ^ (8 - pcn Z) = 8 ^ (8 - pcn Z - 1) * 8 := by rw [← Int.pow_succ]; congr 1; omega
      have h10 : (m9 : Int) * 8 ^ (8 - pcn Z - 1) ≤ 8 * 8 ^ (8 - pcn Z - 1) := Int.mul_le_mul_of_nonneg_right (by omega) hp.1
      rw [e]
      omega
/-- the sums of a set that is not full: exact, and their steps -/
theorem wy_s {am : Nat → Nat} {m9 Z : Nat} (hm : m9 ≤ 8) (hZ : Z < 2 ^ m9) (hp : pcn Z < 8) : (∀ k, k ≤ m9 → 0 ≤ (wbS am (wyF am m9) Z k).toInt ∧ (wbS am (wyF am m9) Z k).toInt ≤ 2 ^ 27) ∧ ∀ k, k < m9 → 0 ≤ (woF am (wyF am m9) Z k).toInt ∧ (woF am (wyF am m9) Z k).toInt ≤ 2 ^ 24 ∧ (wbS am (wyF am m9) Z (k + 1)).toInt = (wbS am (wyF am m9) Z k).toInt + (woF am (wyF am m9) Z k).toInt := by
  have h8 := pow8 hm
  have hb := wb_b (am := am) (wy := wyF am m9) (Z := Z) (m9 := m9) (B := 2 ^ 24) hm (by omega) (fun v hv hf => by
    have h3 := wy_b (am := am) hm (2 ^ m9) (Z ||| 2 ^ v) (or_ltm hZ hv) (by omega)
    have h4 := p8 (l := 8 - pcn (Z ||| 2 ^ v)) (by omega)
    omega)
  refine ⟨fun k hk => ?_, hb.2⟩
  have h1 := hb.1 k hk
  have h3 : (k : Int) * 2 ^ 24 ≤ 8 * 2 ^ 24 := Int.mul_le_mul_of_nonneg_right (by omega) (by omega)
  omega
theorem dg_s (q : Int32) {k : Nat} (hk : k ≤ 7) : q >>> (nI (3 * k) &&& 31) &&& nI 7 = nI (dg q k) := by
  rw [← dg_c q (k := k) (by omega)]
  apply b_ext
  intro i hi
  rw [b_and, b_and]
  have h7 : bt (nI 7) i = decide (i < 3) := by
    show (BitVec.ofNat 32 7).getLsbD i = _
    rw [BitVec.getLsbD_ofNat, show (7 : Nat) = 2 ^ 3 - 1 from rfl, Nat.testBit_two_pow_sub_one]
    simp [hi]
  rw [h7, b_sshr (3 * k) (by omega) q hi]
  have hu : bt (hs_u q (nI (3 * k))) i = bt q (3 * k + i) := b_ushr (3 * k) (by omega) q i
  rw [hu]
  by_cases h3 : i < 3
  · rw [if_pos (by omega)]
  · rw [decide_eq_false h3, Bool.and_false, Bool.and_false]
theorem wi_lt {v K : Int32} (h : 0 ≤ K.toInt ∧ K.toInt ≤ 2 ^ 28) : wi v (nI 0) (K - nI 1) = decide (0 ≤ v ∧ v < K) := by
  unfold wi
  apply decide_eq_decide.mpr
  have e1 : (nI 1).toInt = 1 := by decide
  rw [Int32.le_iff_toInt_le, Int32.le_iff_toInt_le, Int32.lt_iff_toInt_lt, s32 (by omega) (by omega), e1]
  have e0 : (0 : Int32).toInt = 0 := by decide
  have e2 : (nI 0 : Int32).toInt = 0 := by decide
  rw [Int32.le_iff_toInt_le, e0, e2]
  omega
theorem nn_stop {wb : Nat → Int32} {left : Int32} {f v : Nat} (h : ¬ wb (v + 1) ≤ left) : nnF wb left f v = v := by
  cases f with
  | zero => rfl
  | succ f => show (if wb (v + 1) ≤ left then nnF wb left f (v + 1) else v) = v; rw [if_neg h]
theorem nn_go {wb : Nat → Int32} {left : Int32} {f v : Nat} (h : wb (v + 1) ≤ left) : nnF wb left (f + 1) v = nnF wb left f (v + 1) := if_pos h
theorem mA_B {am : Nat → Nat} {ks : Nat → Prop} {C C' : pw_C} (h : mA am C) (hB : pw_B ks C C') (hk : ¬ ks 4) : mA am C' := fun q hq => by
  rw [(hB.1 _ hk).1]; exact h q hq
theorem MI_allow {n mm : Nat} {nx : Nat → Nat → Nat} {mx : Nat → Nat → Option Nat} {en : Nat → Bool} {am wt Ad : Nat → Nat} {C : pw_C} {q v : Nat} {b : Bool} (hq : q < 8) (hv : v < 8) (h : MI n mm nx mx en am wt Ad C) : MI n mm nx mx en (fun q9 => if q9 = q ∧ ¬ b = (am q).testBit v then am q ^^^ 2 ^ v else am q9) wt Ad (pw_setI C 4 (8 * q + v) (pb b)) := by
  obtain ⟨h1, h2, h3, h4, h5, h6⟩ := h
  refine ⟨h1, fun u9 hu9 x9 hx9 => ?_, fun x9 hx9 c9 hc9 => ?_, fun x9 hx9 => ?_, fun p9 hp9 => ?_, fun i9 hi9 => ?_⟩
  · rw [si_ne (by omega)]; exact h2 u9 hu9 x9 hx9
  · rw [si_ne (by omega)]; exact h3 x9 hx9 c9 hc9
  · rw [si_ne (by omega)]; exact h4 x9 hx9
  · show (if p9 = q ∧ ¬ b = (am q).testBit v then am q ^^^ 2 ^ v else am p9) < 256 ∧ ∀ v9, v9 < 8 → _ = pb ((if p9 = q ∧ ¬ b = (am q).testBit v then am q ^^^ 2 ^ v else am p9).testBit v9)
    by_cases z : p9 = q ∧ ¬ b = (am q).testBit v
    · rw [if_pos z]
      refine ⟨Nat.xor_lt_two_pow (n := 8) (h5 q hq).1 (Nat.pow_lt_pow_right (by decide) hv), fun v9 hv9 => ?_⟩
      rw [si_at, Nat.testBit_xor, Nat.testBit_two_pow]
      by_cases y : v9 = v
      · rw [if_pos (by omega), y]
        have := z.2
        revert this
        cases b <;> cases (am q).testBit v <;> simp
      · rw [if_neg (by omega), z.1, (h5 q hq).2 v9 hv9, decide_eq_false (fun g => y g.symm), Bool.xor_false]
    · rw [if_neg z]
      refine ⟨(h5 p9 hp9).1, fun v9 hv9 => ?_⟩
      rw [si_at]
      by_cases y : 8 * p9 + v9 = 8 * q + v
      · rw [if_pos y]
        obtain rfl : p9 = q := by omega
        obtain rfl : v9 = v := by omega
        have g : b = (am p9).testBit v9 := by
          cases hd : decide (b = (am p9).testBit v9) with
          | true => exact of_decide_eq_true hd
          | false => exact absurd ⟨rfl, of_decide_eq_false hd⟩ z
        rw [g]
      · rw [if_neg y]; exact (h5 p9 hp9).2 v9 hv9
  · rw [si_ne (by omega)]; exact h6 i9 hi9

set_option maxHeartbeats 4000000 in
set_option maxRecDepth 100000 in
theorem c_X5_allow (l : Launch) (D : va_G) (cy : Nat → ClassId) (Ad : Nat → Nat) (n mm : Nat) (C : pw_C) (hI : pw_I Ad shM) (hn : 1 ≤ n ∧ n ≤ 12) (hmm : 1 ≤ mm ∧ mm ≤ 16) (nx : Nat → Nat → Nat) (mx : Nat → Nat → Option Nat) (en : Nat → Bool) (am wt : Nat → Nat) (hX : MI n mm nx mx en am wt Ad C) (a b : Int32) (d : Bool) : Met l yX5_allow wsX5_allow (k2_rm 1 25) (pw_Pre ([.ref (Ad 0), .int a, .int b, .int (pb d)]) D cy Ad shM C) (pw_Post (fun r9 C' => r9 = some (.int (f_allow am a b)) ∧ (MI n mm nx mx en (u_allow am a b d) wt Ad C')) D cy Ad shM) 0 0 (pw_fr Ad shM) := by
  refine Met.ofW (cc := cX5_allow) (maxL := 5) (ret := (some .int)) (by decide) rfl ?_
  intro p e s m args below meth c s₁ B hml hv
  obtain ⟨rfl, hP, hK⟩ := hv
  have hx := B.exec
  have hb := B.bytes
  have hr := B.returns
  have hts := atoms_spec (ws := wsX5_allow) B.pre
  have hown : s.vm.findClass RX5 = some m.cls := findClass_of_methodNamed B.named
  have hlocks := B.notSynchronized
  have S : CallFix p m c cX5_allow 5 s ([.ref (Ad 0), .int a, .int b, .int (pb d)]).toArray wsX5_allow RX5 := ⟨hx, hb, hml, hown, hts⟩
  change W p l e (k2_rm 1 25) s m _ below meth c s.heap [] 0 0 _ _
  have hl := lv_entry ([.ref (Ad 0), .int a, .int b, .int (pb d)]) (n := 5) (Nat.le_of_ble_eq_true rfl)
  rw [lg_entry_eq]
  generalize (lg_sl ([.ref (Ad 0), .int a, .int b, .int (pb d)]) ++ List.replicate (5 - (lg_sl ([.ref (Ad 0), .int a, .int b, .int (pb d)])).length) Slot.unset).toArray = ls at hl ⊢
  have hl : lv_has ls 5 [(0, .ref (Ad 0)), (1, .int a), (2, .int b), (3, .int (pb d))] := hl
  have hS : va_S (pw_fr Ad shM) s.heap s.heap [] := va_S.rf
  obtain ⟨⟨pk, tr, hF⟩, hN, hM, hE, hA, hT⟩ := id hX
  refine lv_iload_n hx hb dX5_allow_0 rfl (lv_at hl 1 rfl) ?_
  refine lv_i2l hx hb dX5_allow_1 rfl ?_
  refine lv_lconst (v := 0) hx hb dX5_allow_2 (by decide) ?_
  refine lv_ldc2 hx hb hown (hts (.constantLong RX5 99 (7)) (List.mem_of_getElem? (i := 1) rfl)) dX5_allow_3 ?_
  refine pw_cs S 3 (c_X5_in l a.toInt64 0 (7)) gX5_allow_X5_in rfl rfl rfl (by decide +kernel) ⟨Nat.le_of_ble_eq_true rfl, Nat.le_of_ble_eq_true rfl⟩ rfl hl.1 rfl (Nat.le_of_ble_eq_true rfl) dX5_allow_6 ⟨Nat.le_refl _, Nat.le_refl _⟩ ?_
  refine pw_topi (y := pb (wi a (nI 0) (nI 7))) (congrArg pb (wl_wi _ (nI 0) (nI 7) (by first | rfl | decide) (by first | rfl | decide))) ?_
  refine pn_ifeq_b (tgt := 24) hx hb dX5_allow_9 (by decide) (fun c_9 => ?_) (fun c_9 => ?_)
  · refine lv_iconst (v := (-1)) hx hb dX5_allow_24 (by decide) ?_
    have e9 : (wi a (nI 0) (nI 7) && wi b (nI 0) (nI 7)) = false := by first | (rw [c_9]; rfl) | (rw [c_9, c_21]; rfl)
    have ef : f_allow am a b = (-1) := by unfold f_allow; rw [e9]; rfl
    have eu : u_allow am a b d = am := by unfold u_allow; rw [e9]; rfl
    rw [ef, eu]
    exact W.iret hx hb hr (fun t ht _ => ⟨⟨_, C, rfl, ⟨rfl, hX⟩, by rw [ht]; exact hP⟩, hS.F ht⟩) hS.2.2 dX5_allow_25
  · refine lv_iload_n hx hb dX5_allow_12 rfl (lv_at hl 2 rfl) ?_
    refine lv_i2l hx hb dX5_allow_13 rfl ?_
    refine lv_lconst (v := 0) hx hb dX5_allow_14 (by decide) ?_
    refine lv_ldc2 hx hb hown (hts (.constantLong RX5 99 (7)) (List.mem_of_getElem? (i := 1) rfl)) dX5_allow_15 ?_
    refine pw_cs S 3 (c_X5_in l b.toInt64 0 (7)) gX5_allow_X5_in rfl rfl rfl (by decide +kernel) ⟨Nat.le_of_ble_eq_true rfl, Nat.le_of_ble_eq_true rfl⟩ rfl hl.1 rfl (Nat.le_of_ble_eq_true rfl) dX5_allow_18 ⟨Nat.le_refl _, Nat.le_refl _⟩ ?_
    refine pw_topi (y := pb (wi b (nI 0) (nI 7))) (congrArg pb (wl_wi _ (nI 0) (nI 7) (by first | rfl | decide) (by first | rfl | decide))) ?_
    refine pn_ifne_b (tgt := 26) hx hb dX5_allow_21 (by decide) (fun c_21 => ?_) (fun c_21 => ?_)
    · obtain ⟨q, hl_q, hh_q, rfl⟩ := wi_ex (by omega) c_9
      obtain ⟨v, hl_v, hh_v, rfl⟩ := wi_ex (by omega) c_21
      have ix_q : ix (nI q) = q := nI_clamp (by omega)
      have ix_v : ix (nI v) = v := nI_clamp (by omega)
      have hB : pw_B (fun k => k = 4) C C := pw_B.rf
      refine lv_aload_n hx hb dX5_allow_26 rfl (lv_at hl 0 rfl) ?_
      refine pw_get hx hb hts (fun _ h9 => List.mem_cons_of_mem _ (List.mem_append_right _ h9)) hown hK hP 0 rfl rfl 4 (by decide) hF rfl (hts (.fieldLink RX5 20 "PastDrawsModel" "isAllowed" "[Z") (List.mem_of_getElem? (i := 2) rfl)) dX5_allow_27 ?_
      refine lv_bipush (v := nI 8) hx hb dX5_allow_30 (by decide) ?_
      refine lv_iload_n hx hb dX5_allow_32 rfl (lv_at hl 1 rfl) ?_
      refine lv_imul hx hb dX5_allow_33 ?_
      refine pw_topi (pk_mul _ _) ?_
      refine lv_iload_n hx hb dX5_allow_34 rfl (lv_at hl 2 rfl) ?_
      refine lv_iadd hx hb dX5_allow_35 ?_
      refine pw_topi (nI_add _ _) ?_
      refine pw_zald hx hb hK hP 4 rfl (by omega) (by decide) (v := pb ((am q).testBit v)) ((hA q (by omega)).2 v (by omega)) dX5_allow_36 ?_
      refine lv_istore (lv' := [(4, .int (pb ((am q).testBit v))), (0, .ref (Ad 0)), (1, .int (nI q)), (2, .int (nI v)), (3, .int (pb d))]) hx hb dX5_allow_37 hl (by decide) rfl (fun ls hl => ?_)
      refine lv_aload_n hx hb dX5_allow_39 rfl (lv_at hl 1 rfl) ?_
      refine pw_get hx hb hts (fun _ h9 => List.mem_cons_of_mem _ (List.mem_append_right _ h9)) hown hK hP 0 rfl rfl 4 (by decide) hF rfl (hts (.fieldLink RX5 20 "PastDrawsModel" "isAllowed" "[Z") (List.mem_of_getElem? (i := 2) rfl)) dX5_allow_40 ?_
      refine lv_bipush (v := nI 8) hx hb dX5_allow_43 (by decide) ?_
      refine lv_iload_n hx hb dX5_allow_45 rfl (lv_at hl 2 rfl) ?_
      refine lv_imul hx hb dX5_allow_46 ?_
      refine pw_topi (pk_mul _ _) ?_
      refine lv_iload_n hx hb dX5_allow_47 rfl (lv_at hl 3 rfl) ?_
      refine lv_iadd hx hb dX5_allow_48 ?_
      refine pw_topi (nI_add _ _) ?_
      refine lv_iload_n hx hb dX5_allow_49 rfl (lv_at hl 4 rfl) ?_
      refine pw_zast hx hb hK hP hI hS 4 rfl (by omega) (by decide) (pb_nar _) dX5_allow_50 (fun H locs hP hS => ?_)
      obtain ⟨C50, hC50⟩ : ∃ z9, z9 = pw_setI C 4 ((8 * q) + v) (pb d) := ⟨_, rfl⟩
      rw [← hC50] at hP
      have hB := by have hB9 := hB; exact (show pw_B (fun k => k = 4) C C50 by rw [hC50]; exact hB9.setI (by show 4 = 4; first | trivial | omega))
      refine lv_iload hx hb dX5_allow_51 (lv_at hl 0 rfl) ?_
      refine pn_ifeq_b (tgt := 60) hx hb dX5_allow_53 (by decide) (fun c_53 => ?_) (fun c_53 => ?_)
      · refine lv_iconst (v := nI 0) hx hb dX5_allow_60 (by decide) ?_
        have e9 : (wi (nI q) (nI 0) (nI 7) && wi (nI v) (nI 0) (nI 7)) = true := by rw [c_9, c_21]; rfl
        have ef : f_allow am (nI q) (nI v) = pb ((am q).testBit v) := by unfold f_allow; rw [if_pos e9, ix_q, ix_v]
        have eu : u_allow am (nI q) (nI v) d = fun q9 => if q9 = q ∧ ¬ d = (am q).testBit v then am q ^^^ 2 ^ v else am q9 := by unfold u_allow; rw [if_pos e9, ix_q, ix_v]
        refine pw_topi (y := pb ((am q).testBit v)) (by rw [c_53]; rfl) ?_
        rw [ef, eu]
        exact W.iret hx hb hr (fun t ht _ => ⟨⟨_, C50, rfl, ⟨rfl, by rw [hC50]; exact MI_allow (by omega) (by omega) hX⟩, by rw [ht]; exact hP⟩, hS.F ht⟩) hS.2.2 dX5_allow_61
      · refine lv_iconst (v := nI 1) hx hb dX5_allow_56 (by decide) ?_
        refine lv_goto (tgt := 61) hx hb dX5_allow_57 (by decide) ?_
        have e9 : (wi (nI q) (nI 0) (nI 7) && wi (nI v) (nI 0) (nI 7)) = true := by rw [c_9, c_21]; rfl
        have ef : f_allow am (nI q) (nI v) = pb ((am q).testBit v) := by unfold f_allow; rw [if_pos e9, ix_q, ix_v]
        have eu : u_allow am (nI q) (nI v) d = fun q9 => if q9 = q ∧ ¬ d = (am q).testBit v then am q ^^^ 2 ^ v else am q9 := by unfold u_allow; rw [if_pos e9, ix_q, ix_v]
        refine pw_topi (y := pb ((am q).testBit v)) (by rw [c_53]; rfl) ?_
        rw [ef, eu]
        exact W.iret hx hb hr (fun t ht _ => ⟨⟨_, C50, rfl, ⟨rfl, by rw [hC50]; exact MI_allow (by omega) (by omega) hX⟩, by rw [ht]; exact hP⟩, hS.F ht⟩) hS.2.2 dX5_allow_61
    · refine lv_iconst (v := (-1)) hx hb dX5_allow_24 (by decide) ?_
      have e9 : (wi a (nI 0) (nI 7) && wi b (nI 0) (nI 7)) = false := by first | (rw [c_9]; rfl) | (rw [c_9, c_21]; rfl)
      have ef : f_allow am a b = (-1) := by unfold f_allow; rw [e9]; rfl
      have eu : u_allow am a b d = am := by unfold u_allow; rw [e9]; rfl
      rw [ef, eu]
      exact W.iret hx hb hr (fun t ht _ => ⟨⟨_, C, rfl, ⟨rfl, hX⟩, by rw [ht]; exact hP⟩, hS.F ht⟩) hS.2.2 dX5_allow_25

set_option maxHeartbeats 4000000 in
set_option maxRecDepth 100000 in
theorem L5_cy_p {p : Program} {l : Launch} {e : Env} {s : State} {m : MethodId} {args : Array Value} {below : List Frame} {meth : Method} {c : Code} {H : Heap} {locs : List Loc} {Q : State → Prop} (S : CallFix p m c cX5_countWays 5 s args wsX5_countWays RX5) {D : va_G} {cy : Nat → ClassId} {Ad : Nat → Nat} {n mm : Nat} {pk : Int64} {tr : Int32} {C : pw_C} (hK : pw_K D cy s) (hP : pw_P D cy Ad shM C H) (hF : fM n mm pk tr Ad C) (hn : 1 ≤ n ∧ n ≤ 12) (m9 Z : Nat) (hm : m9 ≤ 8) (hZ : Z < 256) (hk : ∀ (ls : Array Slot), lv_has ls 5 [(3, .int (nI (pcF Z m9))), (2, .int (nI Z)), (1, .int (nI m9)), (0, .ref (Ad 0))] → W p l e (k2_rm 0 0) s m args below meth c H locs 0 0 Q (F0 m 36 ls [])) : ∀ (f : Nat) (i : Nat) (ls : Array Slot), m9 - i < f → (i ≤ m9) → lv_has ls 5 [(3, .int (nI (pcF Z i))), (4, .int (nI i)), (2, .int (nI Z)), (1, .int (nI m9)), (0, .ref (Ad 0))] → W p l e (k2_rm 0 0) s m args below meth c H locs 0 0 Q (F0 m 15 ls []) := by
  have hx := S.1
  have hb := S.2.1
  have hml := S.2.2.1
  have hown := S.2.2.2.1
  have hts := S.2.2.2.2
  intro f
  induction f with
  | zero => intro i ls hf; exact absurd hf (Nat.not_lt_zero _)
  | succ f ih =>
    intro i ls hf hi hl
    refine lv_iload hx hb dX5_countWays_15 (lv_at hl 1 rfl) ?_
    refine lv_iload_n hx hb dX5_countWays_17 rfl (lv_at hl 3 rfl) ?_
    refine pn_icmp_ge (tgt := 36) hx hb (by omega) (by omega) dX5_countWays_18 (by decide) (fun c_18 => ?_) (fun c_18 => ?_)
    · obtain rfl : i = m9 := by omega
      exact hk ls (lv_sub hl [0, 2, 3, 4] rfl)
    · refine lv_iload_n hx hb dX5_countWays_21 rfl (lv_at hl 0 rfl) ?_
      refine lv_iload_n hx hb dX5_countWays_22 rfl (lv_at hl 2 rfl) ?_
      refine lv_iload hx hb dX5_countWays_23 (lv_at hl 1 rfl) ?_
      refine lv_ishr hx hb dX5_countWays_25 ?_
      refine lv_iconst (v := nI 1) hx hb dX5_countWays_26 (by decide) ?_
      refine lv_iand hx hb dX5_countWays_27 ?_
      refine pw_topi (y := nI (Z / 2 ^ i % 2)) (ps_bit (by omega) (by omega)) ?_
      refine lv_iadd hx hb dX5_countWays_28 ?_
      refine pw_topi (nI_add _ _) ?_
      refine lv_istore_n (lv' := [(3, .int (nI ((pcF Z i) + (Z / 2 ^ i % 2)))), (4, .int (nI i)), (2, .int (nI Z)), (1, .int (nI m9)), (0, .ref (Ad 0))]) hx hb dX5_countWays_29 rfl hl (by decide) rfl (fun ls hl => ?_)
      refine lv_iinc (v := nI (i + 1)) (lv' := [(4, .int (nI (i + 1))), (3, .int (nI ((pcF Z i) + (Z / 2 ^ i % 2)))), (2, .int (nI Z)), (1, .int (nI m9)), (0, .ref (Ad 0))]) hx hb dX5_countWays_30 hl (k := 1) rfl (nI_add _ 1) (by decide) rfl (fun ls hl => ?_)
      refine lv_goto (tgt := 15) hx hb dX5_countWays_33 (by decide) ?_
      exact ih (i + 1) ls (by omega) (by omega) (lv_sub hl [1, 0, 2, 3, 4] rfl)

set_option maxHeartbeats 4000000 in
set_option maxRecDepth 100000 in
theorem L5_cy_v {p : Program} {l : Launch} {e : Env} {s : State} {m : MethodId} {args : Array Value} {below : List Frame} {meth : Method} {c : Code} {Q : State → Prop} (S : CallFix p m c cX5_countWays 5 s args wsX5_countWays RX5) {D : va_G} {cy : Nat → ClassId} {Ad : Nat → Nat} {n mm : Nat} {pk : Int64} {tr : Int32} {C0 : pw_C} (hK : pw_K D cy s) (hI : pw_I Ad shM) (hF0 : fM n mm pk tr Ad C0) (hn : 1 ≤ n ∧ n ≤ 12) {am : Nat → Nat} (hA0 : mA am C0) (m9 : Nat) (hm : 1 ≤ m9 ∧ m9 ≤ 8) (Z : Nat) (hZ : Z < 2 ^ m9) (hk : ∀ (C : pw_C) (H : Heap) (locs : List Loc) (ls : Array Slot), pw_P D cy Ad shM C H → va_S (pw_fr Ad shM) s.heap H locs → (pw_B (fun k => k = 12) C0 C ∧ (∀ Y, Z < Y → Y < 2 ^ m9 → C.1 12 Y = wyF am m9 Y) ∧ C.1 12 Z = (if pcn Z = m9 then 1 else wbS am (wyF am m9) Z m9)) → lv_has ls 5 [(2, .int (nI Z)), (1, .int (nI m9)), (0, .ref (Ad 0))] → W p l e (k2_rm 0 0) s m args below meth c H locs 0 0 Q (F0 m 120 ls [])) : ∀ (f : Nat) (C : pw_C) (H : Heap) (locs : List Loc) (v : Nat) (ls : Array Slot), m9 - v < f → (pw_P D cy Ad shM C H) → (va_S (pw_fr Ad shM) s.heap H locs) → (pw_B (fun k => k = 12) C0 C) → (v ≤ m9) → (∀ Y, Z < Y → Y < 2 ^ m9 → C.1 12 Y = wyF am m9 Y) → (C.1 12 Z = (if pcn Z = m9 then 1 else wbS am (wyF am m9) Z v)) → lv_has ls 5 [(4, .int (nI v)), (3, .int (nI (pcn Z))), (2, .int (nI Z)), (1, .int (nI m9)), (0, .ref (Ad 0))] → W p l e (k2_rm 0 0) s m args below meth c H locs 0 0 Q (F0 m 55 ls []) := by
  have hx := S.1
  have hb := S.2.1
  have hml := S.2.2.1
  have hown := S.2.2.2.1
  have hts := S.2.2.2.2
  intro f
  induction f with
  | zero => intro C H locs v ls hf; exact absurd hf (Nat.not_lt_zero _)
  | succ f ih =>
    intro C H locs v ls hf hP hS hB hv hv9 hcur hl
    have hF := fM_B hF0 hB
    have hA := mA_B hA0 hB (by omega)
    have hpw := pow8 hm.2
    have hpp : 1 ≤ 2 ^ m9 := Nat.pow_pos (by decide)
    have hpc := pc_all m9 (by omega) Z (by omega) hZ
    refine lv_iload hx hb dX5_countWays_55 (lv_at hl 0 rfl) ?_
    refine lv_iload_n hx hb dX5_countWays_57 rfl (lv_at hl 3 rfl) ?_
    refine pn_icmp_ge (tgt := 120) hx hb (by omega) (by omega) dX5_countWays_58 (by decide) (fun c_58 => ?_) (fun c_58 => ?_)
    · obtain rfl : v = m9 := by omega
      exact hk C H locs ls hP hS ⟨hB, hv9, hcur⟩ (lv_sub hl [2, 3, 4] rfl)
    · refine lv_aload_n hx hb dX5_countWays_61 rfl (lv_at hl 4 rfl) ?_
      refine pw_get hx hb hts (fun _ h9 => List.mem_cons_of_mem _ (List.mem_append_right _ h9)) hown hK hP 0 rfl rfl 15 (by decide) hF rfl (hts (.fieldLink RX5 49 "PastDrawsModel" "ways" "[I") (List.mem_of_getElem? (i := 1) rfl)) dX5_countWays_62 ?_
      refine lv_iload_n hx hb dX5_countWays_65 rfl (lv_at hl 2 rfl) ?_
      refine lv_dup2_11 hx hb dX5_countWays_66 rfl rfl ?_
      refine pw_iald hx hb hK hP 12 rfl (by omega) (by decide) (v := (if pcn Z = m9 then 1 else wbS am (wyF am m9) Z v)) hcur dX5_countWays_67 ?_
      refine lv_iload_n hx hb dX5_countWays_68 rfl (lv_at hl 1 rfl) ?_
      refine lv_iload_n hx hb dX5_countWays_69 rfl (lv_at hl 3 rfl) ?_
      refine pn_icmp_ge (tgt := 111) hx hb (by omega) (by omega) dX5_countWays_70 (by decide) (fun c_70 => ?_) (fun c_70 => ?_)
      · refine lv_iconst (v := nI 0) hx hb dX5_countWays_111 (by decide) ?_
        refine lv_iadd hx hb dX5_countWays_112 ?_
        refine pw_topi (y := (if pcn Z = m9 then 1 else wbS am (wyF am m9) Z (v + 1))) (by first | (rw [if_pos (by omega), if_pos (by omega)]; exact Int32.add_zero _) | (rw [if_neg (by omega), if_neg (by omega), wbS_s]; congr 1; unfold woF fre; first | rw [c_94, tb0, Bool.not_false, Bool.and_true, if_pos rfl] | (rw [c_94]; rfl) | (rw [tb1, Bool.not_true, Bool.and_false]; rfl))) ?_
        refine pw_iast hx hb hK hP hI hS 12 rfl (by omega) (by decide) dX5_countWays_113 (fun H locs hP hS => ?_)
        obtain ⟨C113, hC113⟩ : ∃ z9, z9 = pw_setI C 12 Z (if pcn Z = m9 then 1 else wbS am (wyF am m9) Z (v + 1)) := ⟨_, rfl⟩
        rw [← hC113] at hP
        have hB := by have hB9 := hB; exact (show pw_B (fun k => k = 12) C0 C113 by rw [hC113]; exact hB9.setI (by show 12 = 12; first | trivial | omega))
        have hF := fM_B hF0 hB
        have hA := mA_B hA0 hB (by omega)
        refine lv_iinc (v := nI (v + 1)) (lv' := [(4, .int (nI (v + 1))), (3, .int (nI (pcn Z))), (2, .int (nI Z)), (1, .int (nI m9)), (0, .ref (Ad 0))]) hx hb dX5_countWays_114 hl (k := 0) rfl (nI_add _ 1) (by decide) rfl (fun ls hl => ?_)
        refine lv_goto (tgt := 55) hx hb dX5_countWays_117 (by decide) ?_
        exact ih C113 H locs (v + 1) ls (by omega) hP hS hB (by omega) (fun Y hY hY2 => by rw [hC113, si_at, if_neg (by omega)]; exact hv9 Y hY hY2) (by rw [hC113, si_at, if_pos rfl]) (lv_sub hl [0, 1, 2, 3, 4] rfl)
      · refine lv_iload_n hx hb dX5_countWays_73 rfl (lv_at hl 2 rfl) ?_
        refine lv_iload hx hb dX5_countWays_74 (lv_at hl 0 rfl) ?_
        refine lv_ishr hx hb dX5_countWays_76 ?_
        refine lv_iconst (v := nI 1) hx hb dX5_countWays_77 (by decide) ?_
        refine lv_iand hx hb dX5_countWays_78 ?_
        refine pw_topi (y := nI (Z / 2 ^ v % 2)) (ps_bit (by omega) (by omega)) ?_
        refine pn_ifne_n (tgt := 111) hx hb (by omega) dX5_countWays_79 (by decide) (fun c_79 => ?_) (fun c_79 => ?_)
        · have tb1 : Z.testBit v = true := by
            have h9 := tb_dm Z v
            cases hb9 : Z.testBit v
            · rw [hb9, if_neg (by decide)] at h9; omega
            · rfl
          refine lv_iconst (v := nI 0) hx hb dX5_countWays_111 (by decide) ?_
          refine lv_iadd hx hb dX5_countWays_112 ?_
          refine pw_topi (y := (if pcn Z = m9 then 1 else wbS am (wyF am m9) Z (v + 1))) (by first | (rw [if_pos (by omega), if_pos (by omega)]; exact Int32.add_zero _) | (rw [if_neg (by omega), if_neg (by omega), wbS_s]; congr 1; unfold woF fre; first | rw [c_94, tb0, Bool.not_false, Bool.and_true, if_pos rfl] | (rw [c_94]; rfl) | (rw [tb1, Bool.not_true, Bool.and_false]; rfl))) ?_
          refine pw_iast hx hb hK hP hI hS 12 rfl (by omega) (by decide) dX5_countWays_113 (fun H locs hP hS => ?_)
          obtain ⟨C113, hC113⟩ : ∃ z9, z9 = pw_setI C 12 Z (if pcn Z = m9 then 1 else wbS am (wyF am m9) Z (v + 1)) := ⟨_, rfl⟩
          rw [← hC113] at hP
          have hB := by have hB9 := hB; exact (show pw_B (fun k => k = 12) C0 C113 by rw [hC113]; exact hB9.setI (by show 12 = 12; first | trivial | omega))
          have hF := fM_B hF0 hB
          have hA := mA_B hA0 hB (by omega)
          refine lv_iinc (v := nI (v + 1)) (lv' := [(4, .int (nI (v + 1))), (3, .int (nI (pcn Z))), (2, .int (nI Z)), (1, .int (nI m9)), (0, .ref (Ad 0))]) hx hb dX5_countWays_114 hl (k := 0) rfl (nI_add _ 1) (by decide) rfl (fun ls hl => ?_)
          refine lv_goto (tgt := 55) hx hb dX5_countWays_117 (by decide) ?_
          exact ih C113 H locs (v + 1) ls (by omega) hP hS hB (by omega) (fun Y hY hY2 => by rw [hC113, si_at, if_neg (by omega)]; exact hv9 Y hY hY2) (by rw [hC113, si_at, if_pos rfl]) (lv_sub hl [0, 1, 2, 3, 4] rfl)
        · have tb0 : Z.testBit v = false := by
            have h9 := tb_dm Z v
            cases hb9 : Z.testBit v
            · rfl
            · rw [hb9, if_pos rfl] at h9; omega
          refine lv_aload_n hx hb dX5_countWays_82 rfl (lv_at hl 4 rfl) ?_
          refine pw_get hx hb hts (fun _ h9 => List.mem_cons_of_mem _ (List.mem_append_right _ h9)) hown hK hP 0 rfl rfl 4 (by decide) hF rfl (hts (.fieldLink RX5 20 "PastDrawsModel" "isAllowed" "[Z") (List.mem_of_getElem? (i := 2) rfl)) dX5_countWays_83 ?_
          refine lv_bipush (v := nI 8) hx hb dX5_countWays_86 (by decide) ?_
          refine lv_iload_n hx hb dX5_countWays_88 rfl (lv_at hl 1 rfl) ?_
          refine lv_imul hx hb dX5_countWays_89 ?_
          refine pw_topi (pk_mul _ _) ?_
          refine lv_iload hx hb dX5_countWays_90 (lv_at hl 0 rfl) ?_
          refine lv_iadd hx hb dX5_countWays_92 ?_
          refine pw_topi (nI_add _ _) ?_
          refine pw_zald hx hb hK hP 4 rfl (by omega) (by decide) (v := pb ((am (pcn Z)).testBit v)) ((hA (pcn Z) (by omega)).2 v (by omega)) dX5_countWays_93 ?_
          refine pn_ifeq_b (tgt := 111) hx hb dX5_countWays_94 (by decide) (fun c_94 => ?_) (fun c_94 => ?_)
          · refine lv_iconst (v := nI 0) hx hb dX5_countWays_111 (by decide) ?_
            refine lv_iadd hx hb dX5_countWays_112 ?_
            refine pw_topi (y := (if pcn Z = m9 then 1 else wbS am (wyF am m9) Z (v + 1))) (by first | (rw [if_pos (by omega), if_pos (by omega)]; exact Int32.add_zero _) | (rw [if_neg (by omega), if_neg (by omega), wbS_s]; congr 1; unfold woF fre; first | rw [c_94, tb0, Bool.not_false, Bool.and_true, if_pos rfl] | (rw [c_94]; rfl) | (rw [tb1, Bool.not_true, Bool.and_false]; rfl))) ?_
            refine pw_iast hx hb hK hP hI hS 12 rfl (by omega) (by decide) dX5_countWays_113 (fun H locs hP hS => ?_)
            obtain ⟨C113, hC113⟩ : ∃ z9, z9 = pw_setI C 12 Z (if pcn Z = m9 then 1 else wbS am (wyF am m9) Z (v + 1)) := ⟨_, rfl⟩
            rw [← hC113] at hP
            have hB := by have hB9 := hB; exact (show pw_B (fun k => k = 12) C0 C113 by rw [hC113]; exact hB9.setI (by show 12 = 12; first | trivial | omega))
            have hF := fM_B hF0 hB
            have hA := mA_B hA0 hB (by omega)
            refine lv_iinc (v := nI (v + 1)) (lv' := [(4, .int (nI (v + 1))), (3, .int (nI (pcn Z))), (2, .int (nI Z)), (1, .int (nI m9)), (0, .ref (Ad 0))]) hx hb dX5_countWays_114 hl (k := 0) rfl (nI_add _ 1) (by decide) rfl (fun ls hl => ?_)
            refine lv_goto (tgt := 55) hx hb dX5_countWays_117 (by decide) ?_
            exact ih C113 H locs (v + 1) ls (by omega) hP hS hB (by omega) (fun Y hY hY2 => by rw [hC113, si_at, if_neg (by omega)]; exact hv9 Y hY hY2) (by rw [hC113, si_at, if_pos rfl]) (lv_sub hl [0, 1, 2, 3, 4] rfl)
          · refine lv_aload_n hx hb dX5_countWays_97 rfl (lv_at hl 4 rfl) ?_
            refine pw_get hx hb hts (fun _ h9 => List.mem_cons_of_mem _ (List.mem_append_right _ h9)) hown hK hP 0 rfl rfl 15 (by decide) hF rfl (hts (.fieldLink RX5 49 "PastDrawsModel" "ways" "[I") (List.mem_of_getElem? (i := 1) rfl)) dX5_countWays_98 ?_
            refine lv_iload_n hx hb dX5_countWays_101 rfl (lv_at hl 2 rfl) ?_
            refine lv_iconst (v := nI 1) hx hb dX5_countWays_102 (by decide) ?_
            refine lv_iload hx hb dX5_countWays_103 (lv_at hl 0 rfl) ?_
            refine lv_ishl hx hb dX5_countWays_105 ?_
            refine pw_topi (y := nI (2 ^ v)) (ps_shl1 (by omega)) ?_
            refine lv_ior hx hb dX5_countWays_106 ?_
            refine pw_topi (y := nI (Z ||| 2 ^ v)) (nx_or _ _) ?_
            refine pw_iald hx hb hK hP 12 rfl (Nat.lt_of_lt_of_le (or_ltm hZ (by omega)) hpw) (by decide) (v := wyF am m9 (Z ||| 2 ^ v)) (hv9 _ (or_gt Z (by omega) v (by omega) tb0) (or_ltm hZ (by omega))) dX5_countWays_107 ?_
            refine lv_goto (tgt := 112) hx hb dX5_countWays_108 (by decide) ?_
            refine lv_iadd hx hb dX5_countWays_112 ?_
            refine pw_topi (y := (if pcn Z = m9 then 1 else wbS am (wyF am m9) Z (v + 1))) (by first | (rw [if_pos (by omega), if_pos (by omega)]; exact Int32.add_zero _) | (rw [if_neg (by omega), if_neg (by omega), wbS_s]; congr 1; unfold woF fre; first | rw [c_94, tb0, Bool.not_false, Bool.and_true, if_pos rfl] | (rw [c_94]; rfl) | (rw [tb1, Bool.not_true, Bool.and_false]; rfl))) ?_
            refine pw_iast hx hb hK hP hI hS 12 rfl (by omega) (by decide) dX5_countWays_113 (fun H locs hP hS => ?_)
            obtain ⟨C113, hC113⟩ : ∃ z9, z9 = pw_setI C 12 Z (if pcn Z = m9 then 1 else wbS am (wyF am m9) Z (v + 1)) := ⟨_, rfl⟩
            rw [← hC113] at hP
            have hB := by have hB9 := hB; exact (show pw_B (fun k => k = 12) C0 C113 by rw [hC113]; exact hB9.setI (by show 12 = 12; first | trivial | omega))
            have hF := fM_B hF0 hB
            have hA := mA_B hA0 hB (by omega)
            refine lv_iinc (v := nI (v + 1)) (lv' := [(4, .int (nI (v + 1))), (3, .int (nI (pcn Z))), (2, .int (nI Z)), (1, .int (nI m9)), (0, .ref (Ad 0))]) hx hb dX5_countWays_114 hl (k := 0) rfl (nI_add _ 1) (by decide) rfl (fun ls hl => ?_)
            refine lv_goto (tgt := 55) hx hb dX5_countWays_117 (by decide) ?_
            exact ih C113 H locs (v + 1) ls (by omega) hP hS hB (by omega) (fun Y hY hY2 => by rw [hC113, si_at, if_neg (by omega)]; exact hv9 Y hY hY2) (by rw [hC113, si_at, if_pos rfl]) (lv_sub hl [0, 1, 2, 3, 4] rfl)

set_option maxHeartbeats 4000000 in
set_option maxRecDepth 100000 in
theorem L5_cy {p : Program} {l : Launch} {e : Env} {s : State} {m : MethodId} {args : Array Value} {below : List Frame} {meth : Method} {c : Code} {Q : State → Prop} (S : CallFix p m c cX5_countWays 5 s args wsX5_countWays RX5) {D : va_G} {cy : Nat → ClassId} {Ad : Nat → Nat} {n mm : Nat} {pk : Int64} {tr : Int32} {C0 : pw_C} (hK : pw_K D cy s) (hI : pw_I Ad shM) (hF0 : fM n mm pk tr Ad C0) (hn : 1 ≤ n ∧ n ≤ 12) {am : Nat → Nat} (hA0 : mA am C0) (m9 : Nat) (hm : 1 ≤ m9 ∧ m9 ≤ 8) (hq : ∀ (pc9 : Nat) (C : pw_C) (H : Heap) (locs : List Loc) (ls : Array Slot), decode cX5_countWays pc9 = .ok (.return_, 1) → pw_P D cy Ad shM C H → va_S (pw_fr Ad shM) s.heap H locs → (pw_B (fun k => k = 12) C0 C ∧ ∀ Y, Y < 2 ^ m9 → C.1 12 Y = wyF am m9 Y) → W p l e (k2_rm 0 0) s m args below meth c H locs 0 0 Q (F0 m pc9 ls [])) : ∀ (f : Nat) (C : pw_C) (H : Heap) (locs : List Loc) (z : Nat) (ls : Array Slot), z < f → (pw_P D cy Ad shM C H) → (va_S (pw_fr Ad shM) s.heap H locs) → (pw_B (fun k => k = 12) C0 C) → (z ≤ 2 ^ m9) → (∀ Y, z ≤ Y → Y < 2 ^ m9 → C.1 12 Y = wyF am m9 Y) → lv_has ls 5 [(2, .int (pm z)), (1, .int (nI m9)), (0, .ref (Ad 0))] → W p l e (k2_rm 0 0) s m args below meth c H locs 0 0 Q (F0 m 6 ls []) := by
  have hx := S.1
  have hb := S.2.1
  have hml := S.2.2.1
  have hown := S.2.2.2.1
  have hts := S.2.2.2.2
  intro f
  induction f with
  | zero => intro C H locs z ls hf; exact absurd hf (Nat.not_lt_zero _)
  | succ f ih =>
    intro C H locs z ls hf hP hS hB hz hv9 hl
    have hF := fM_B hF0 hB
    have hA := mA_B hA0 hB (by omega)
    have hpw := pow8 hm.2
    have hpp : 1 ≤ 2 ^ m9 := Nat.pow_pos (by decide)
    refine lv_iload_n hx hb dX5_countWays_6 rfl (lv_at hl 0 rfl) ?_
    refine lv_if_lt (tgt := 126) hx hb dX5_countWays_7 (by decide) (fun c_7 => ?_) (fun c_7 => ?_)
    · have hz0 : z = 0 := by
        rcases Nat.eq_zero_or_pos z with g | g
        · exact g
        · rw [pm_pos g] at c_7; exact absurd c_7 (nI_pos (by omega))
      subst hz0
      exact hq _ C H locs ls dX5_countWays_126 hP hS ⟨hB, fun Y hY => hv9 Y (by omega) hY⟩
    · have hz0 : 1 ≤ z := by
        rcases Nat.eq_zero_or_pos z with g | g
        · subst g; exact absurd (by decide) c_7
        · exact g
      rw [pm_pos hz0] at hl
      refine lv_iconst (v := nI 0) hx hb dX5_countWays_10 (by decide) ?_
      refine lv_istore_n (lv' := [(3, .int (nI 0)), (2, .int (nI (z - 1))), (1, .int (nI m9)), (0, .ref (Ad 0))]) hx hb dX5_countWays_11 rfl hl (by decide) rfl (fun ls hl => ?_)
      refine lv_iconst (v := nI 0) hx hb dX5_countWays_12 (by decide) ?_
      refine lv_istore (lv' := [(4, .int (nI 0)), (3, .int (nI 0)), (2, .int (nI (z - 1))), (1, .int (nI m9)), (0, .ref (Ad 0))]) hx hb dX5_countWays_13 hl (by decide) rfl (fun ls hl => ?_)
      refine L5_cy_p S hK hP hF hn m9 (z - 1) hm.2 (by omega) (fun ls hl => ?_) (m9 + 1) 0 ls (by omega) (by omega) (lv_sub hl [1, 0, 2, 3, 4] rfl)
      have hZ : z - 1 < 2 ^ m9 := by omega
      rw [pcF_all m9 (by omega) (z - 1) (by omega) hZ] at hl
      have hpc := pc_all m9 (by omega) (z - 1) (by omega) hZ
      refine lv_aload_n hx hb dX5_countWays_36 rfl (lv_at hl 3 rfl) ?_
      refine pw_get hx hb hts (fun _ h9 => List.mem_cons_of_mem _ (List.mem_append_right _ h9)) hown hK hP 0 rfl rfl 15 (by decide) hF rfl (hts (.fieldLink RX5 49 "PastDrawsModel" "ways" "[I") (List.mem_of_getElem? (i := 1) rfl)) dX5_countWays_37 ?_
      refine lv_iload_n hx hb dX5_countWays_40 rfl (lv_at hl 1 rfl) ?_
      refine lv_iload_n hx hb dX5_countWays_41 rfl (lv_at hl 0 rfl) ?_
      refine lv_iload_n hx hb dX5_countWays_42 rfl (lv_at hl 2 rfl) ?_
      refine pn_icmp_ne (tgt := 50) hx hb (by omega) (by omega) dX5_countWays_43 (by decide) (fun c_43 => ?_) (fun c_43 => ?_)
      · refine lv_iconst (v := nI 0) hx hb dX5_countWays_50 (by decide) ?_
        refine pw_iast hx hb hK hP hI hS 12 rfl (by omega) (by decide) dX5_countWays_51 (fun H locs hP hS => ?_)
        obtain ⟨C51, hC51⟩ : ∃ z9, z9 = pw_setI C 12 (z - 1) (nI 0) := ⟨_, rfl⟩
        rw [← hC51] at hP
        have hB := by have hB9 := hB; exact (show pw_B (fun k => k = 12) C0 C51 by rw [hC51]; exact hB9.setI (by show 12 = 12; first | trivial | omega))
        have hF := fM_B hF0 hB
        have hA := mA_B hA0 hB (by omega)
        refine lv_iconst (v := nI 0) hx hb dX5_countWays_52 (by decide) ?_
        refine lv_istore (lv' := [(4, .int (nI 0)), (3, .int (nI (pcn (z - 1)))), (2, .int (nI (z - 1))), (1, .int (nI m9)), (0, .ref (Ad 0))]) hx hb dX5_countWays_53 hl (by decide) rfl (fun ls hl => ?_)
        refine L5_cy_v S hK hI hF0 hn hA0 m9 hm (z - 1) hZ (fun C9 H locs ls hP hS hR hl => ?_) (m9 + 1) C51 H locs 0 ls (by omega) hP hS hB (by omega) (fun Y hY hY2 => by rw [hC51, si_at, if_neg (by omega)]; exact hv9 Y (by omega) hY2) (by rw [hC51, si_at, if_pos rfl]; first | (rw [if_pos c_43]; rfl) | (rw [if_neg c_43]; rfl)) (lv_sub hl [0, 1, 2, 3, 4] rfl)
        refine lv_iinc (v := pm (z - 1)) (lv' := [(2, .int (pm (z - 1))), (1, .int (nI m9)), (0, .ref (Ad 0))]) hx hb dX5_countWays_120 hl (k := 0) rfl (pm_dec hz0) (by decide) rfl (fun ls hl => ?_)
        refine lv_goto (tgt := 6) hx hb dX5_countWays_123 (by decide) ?_
        exact ih C9 H locs (z - 1) ls (by omega) hP hS hR.1 (by omega) (fun Y hY hY2 => by
          by_cases g : Y = z - 1
          · rw [g, hR.2.2]
            by_cases g2 : pcn (z - 1) = m9
            · have e := hpc.2.mp g2
              rw [if_pos g2, e, wyF_top]
            · rw [if_neg g2]
              exact (wyF_eq hm.2 (by have := mt hpc.2.mpr g2; omega)).symm
          · exact hR.2.1 Y (by omega) hY2) (lv_sub hl [0, 1, 2] rfl)
      · refine lv_iconst (v := nI 1) hx hb dX5_countWays_46 (by decide) ?_
        refine lv_goto (tgt := 51) hx hb dX5_countWays_47 (by decide) ?_
        refine pw_iast hx hb hK hP hI hS 12 rfl (by omega) (by decide) dX5_countWays_51 (fun H locs hP hS => ?_)
        obtain ⟨C51, hC51⟩ : ∃ z9, z9 = pw_setI C 12 (z - 1) (nI 1) := ⟨_, rfl⟩
        rw [← hC51] at hP
        have hB := by have hB9 := hB; exact (show pw_B (fun k => k = 12) C0 C51 by rw [hC51]; exact hB9.setI (by show 12 = 12; first | trivial | omega))
        have hF := fM_B hF0 hB
        have hA := mA_B hA0 hB (by omega)
        refine lv_iconst (v := nI 0) hx hb dX5_countWays_52 (by decide) ?_
        refine lv_istore (lv' := [(4, .int (nI 0)), (3, .int (nI (pcn (z - 1)))), (2, .int (nI (z - 1))), (1, .int (nI m9)), (0, .ref (Ad 0))]) hx hb dX5_countWays_53 hl (by decide) rfl (fun ls hl => ?_)
        refine L5_cy_v S hK hI hF0 hn hA0 m9 hm (z - 1) hZ (fun C9 H locs ls hP hS hR hl => ?_) (m9 + 1) C51 H locs 0 ls (by omega) hP hS hB (by omega) (fun Y hY hY2 => by rw [hC51, si_at, if_neg (by omega)]; exact hv9 Y (by omega) hY2) (by rw [hC51, si_at, if_pos rfl]; first | (rw [if_pos c_43]; rfl) | (rw [if_neg c_43]; rfl)) (lv_sub hl [0, 1, 2, 3, 4] rfl)
        refine lv_iinc (v := pm (z - 1)) (lv' := [(2, .int (pm (z - 1))), (1, .int (nI m9)), (0, .ref (Ad 0))]) hx hb dX5_countWays_120 hl (k := 0) rfl (pm_dec hz0) (by decide) rfl (fun ls hl => ?_)
        refine lv_goto (tgt := 6) hx hb dX5_countWays_123 (by decide) ?_
        exact ih C9 H locs (z - 1) ls (by omega) hP hS hR.1 (by omega) (fun Y hY hY2 => by
          by_cases g : Y = z - 1
          · rw [g, hR.2.2]
            by_cases g2 : pcn (z - 1) = m9
            · have e := hpc.2.mp g2
              rw [if_pos g2, e, wyF_top]
            · rw [if_neg g2]
              exact (wyF_eq hm.2 (by have := mt hpc.2.mpr g2; omega)).symm
          · exact hR.2.1 Y (by omega) hY2) (lv_sub hl [0, 1, 2] rfl)

set_option maxHeartbeats 4000000 in
set_option maxRecDepth 100000 in
theorem c_X5_countWays (l : Launch) (D : va_G) (cy : Nat → ClassId) (Ad : Nat → Nat) (n mm : Nat) (pk : Int64) (tr : Int32) (C : pw_C) (hI : pw_I Ad shM) (hn : 1 ≤ n ∧ n ≤ 12) (hF : fM n mm pk tr Ad C) (am : Nat → Nat) (hA : mA am C) (m9 : Nat) (hm : 1 ≤ m9 ∧ m9 ≤ 8) : Met l yX5_countWays wsX5_countWays (k2_rm 0 0) (pw_Pre ([.ref (Ad 0), .int (nI m9)]) D cy Ad shM C) (pw_Post (fun r9 C' => r9 = none ∧ (pw_B (fun k => k = 12) C C' ∧ ∀ Y, Y < 2 ^ m9 → C'.1 12 Y = wyF am m9 Y)) D cy Ad shM) 0 0 (pw_fr Ad shM) := by
  refine Met.ofW (cc := cX5_countWays) (maxL := 5) (ret := none) (by decide) rfl ?_
  intro p e s m args below meth c s₁ B hml hv
  obtain ⟨rfl, hP, hK⟩ := hv
  have hx := B.exec
  have hb := B.bytes
  have hr := B.returns
  have hts := atoms_spec (ws := wsX5_countWays) B.pre
  have hown : s.vm.findClass RX5 = some m.cls := findClass_of_methodNamed B.named
  have hlocks := B.notSynchronized
  have S : CallFix p m c cX5_countWays 5 s ([.ref (Ad 0), .int (nI m9)]).toArray wsX5_countWays RX5 := ⟨hx, hb, hml, hown, hts⟩
  change W p l e (k2_rm 0 0) s m _ below meth c s.heap [] 0 0 _ _
  have hl := lv_entry ([.ref (Ad 0), .int (nI m9)]) (n := 5) (Nat.le_of_ble_eq_true rfl)
  rw [lg_entry_eq]
  generalize (lg_sl ([.ref (Ad 0), .int (nI m9)]) ++ List.replicate (5 - (lg_sl ([.ref (Ad 0), .int (nI m9)])).length) Slot.unset).toArray = ls at hl ⊢
  have hl : lv_has ls 5 [(0, .ref (Ad 0)), (1, .int (nI m9))] := hl
  have hS : va_S (pw_fr Ad shM) s.heap s.heap [] := va_S.rf
  have hpw := pow8 hm.2
  have hpp : 1 ≤ 2 ^ m9 := Nat.pow_pos (by decide)
  refine lv_iconst (v := nI 1) hx hb dX5_countWays_0 (by decide) ?_
  refine lv_iload_n hx hb dX5_countWays_1 rfl (lv_at hl 1 rfl) ?_
  refine lv_ishl hx hb dX5_countWays_2 ?_
  refine pw_topi (y := nI (2 ^ m9)) (ps_shl1 (by omega)) ?_
  refine lv_iconst (v := nI 1) hx hb dX5_countWays_3 (by decide) ?_
  refine lv_isub hx hb dX5_countWays_4 ?_
  refine pw_topi (y := pm (2 ^ m9)) rfl ?_
  refine lv_istore_n (lv' := [(2, .int (pm (2 ^ m9))), (0, .ref (Ad 0)), (1, .int (nI m9))]) hx hb dX5_countWays_5 rfl hl (by decide) rfl (fun ls hl => ?_)
  exact L5_cy S hK hI hF hn hA m9 hm (fun pc9 C9 H9 locs9 ls9 hd9 hP9 hS9 hR9 => W.vret hx hb hr (fun t ht _ => ⟨⟨none, C9, rfl, ⟨rfl, hR9⟩, by rw [ht]; exact hP9⟩, hS9.F ht⟩) hS9.2.2 hd9) (2 ^ m9 + 1) C s.heap [] (2 ^ m9) ls (by omega) hP hS pw_B.rf (by omega) (fun Y hY hY2 => by omega) (lv_sub hl [0, 2, 1] rfl)
