def sJ (f : Nat → Int) (a : Nat) : Nat → Int
  | 0 => 0
  | c + 1 => sJ f a c + f (a + c)
theorem sJ_le {f g : Nat → Int} {a : Nat} : ∀ {c : Nat}, (∀ t, a ≤ t → t < a + c → f t ≤ g t) → sJ f a c ≤ sJ g a c := by
  intro c
  induction c with
  | zero => intro _; exact Int.le_refl _
  | succ c ih =>
    intro h
    have h1 := ih (fun t h1 h2 => h t h1 (by omega))
    have h2 := h (a + c) (by omega) (by omega)
    show sJ f a c + f (a + c) ≤ sJ g a c + g (a + c)
    omega
theorem sJ_congr {f g : Nat → Int} {a : Nat} : ∀ {c : Nat}, (∀ t, a ≤ t → t < a + c → f t = g t) → sJ f a c = sJ g a c := by
  intro c
  induction c with
  | zero => intro _; rfl
  | succ c ih =>
    intro h
    show sJ f a c + f (a + c) = sJ g a c + g (a + c)
    rw [ih (fun t h1 h2 => h t h1 (by omega)), h (a + c) (by omega) (by omega)]
theorem sJ_lin (f g : Nat → Int) (p q : Int) (a : Nat) : ∀ c, sJ (fun t => p * f t + q * g t) a c = p * sJ f a c + q * sJ g a c := by
  intro c
  induction c with
  | zero => simp [sJ]
  | succ c ih =>
    show sJ (fun t => p * f t + q * g t) a c + (p * f (a + c) + q * g (a + c)) = p * (sJ f a c + f (a + c)) + q * (sJ g a c + g (a + c))
    rw [ih, Int.mul_add, Int.mul_add]
    omega
theorem sJ_add (f g : Nat → Int) (a : Nat) : ∀ c, sJ (fun t => f t + g t) a c = sJ f a c + sJ g a c := by
  intro c
  induction c with
  | zero => rfl
  | succ c ih =>
    show sJ (fun t => f t + g t) a c + (f (a + c) + g (a + c)) = (sJ f a c + f (a + c)) + (sJ g a c + g (a + c))
    rw [ih]
    omega
theorem sJ_one (i : Nat) (v : Int) (a : Nat) : ∀ c, sJ (fun t => if t = i then v else 0) a c = if a ≤ i ∧ i < a + c then v else 0 := by
  intro c
  induction c with
  | zero => rw [if_neg (by omega)]; rfl
  | succ c ih =>
    show sJ (fun t => if t = i then v else 0) a c + (if a + c = i then v else 0) = _
    rw [ih]
    by_cases h : a + c = i
    · rw [if_pos h, if_neg (by omega), if_pos (by omega)]; omega
    · rw [if_neg h]
      by_cases h2 : a ≤ i ∧ i < a + c
      · rw [if_pos h2, if_pos (by omega)]; omega
      · rw [if_neg h2, if_neg (by omega)]; rfl
theorem sJ_front (f : Nat → Int) (a : Nat) : ∀ c, sJ f a (c + 1) = f a + sJ f (a + 1) c := by
  intro c
  induction c with
  | zero => show (0 : Int) + f (a + 0) = f a + 0; rw [Nat.add_zero]; omega
  | succ c ih =>
    show sJ f a (c + 1) + f (a + (c + 1)) = f a + (sJ f (a + 1) c + f (a + 1 + c))
    rw [ih, show a + 1 + c = a + (c + 1) by omega]
    omega
/-- of a row whose other cells are not above 0: its sum is not above one cell, nor above two -/
theorem sJ_dia {f : Nat → Int} {a c i : Nat} (hi : a ≤ i ∧ i < a + c) (h : ∀ t, a ≤ t → t < a + c → t ≠ i → f t ≤ 0) : sJ f a c ≤ f i := by
  have h1 := sJ_le (f := f) (g := fun t => if t = i then f i else 0) (a := a) (c := c) (fun t h1 h2 => by
    show f t ≤ if t = i then f i else 0
    by_cases q : t = i
    · rw [if_pos q, q]; omega
    · rw [if_neg q]; exact h t h1 h2 q)
  rw [sJ_one, if_pos hi] at h1
  exact h1
theorem sJ_two {f : Nat → Int} {a c i j : Nat} (hi : a ≤ i ∧ i < a + c) (hj : a ≤ j ∧ j < a + c) (hij : i ≠ j) (h : ∀ t, a ≤ t → t < a + c → t ≠ i → f t ≤ 0) : sJ f a c ≤ f i + f j := by
  have h1 := sJ_le (f := f) (g := fun t => (if t = i then f i else 0) + (if t = j then f j else 0)) (a := a) (c := c) (fun t h1 h2 => by
    show f t ≤ (if t = i then f i else 0) + (if t = j then f j else 0)
    by_cases q : t = i
    · rw [if_pos q, if_neg (by omega), q]; omega
    · rw [if_neg q]
      by_cases q2 : t = j
      · rw [if_pos q2, q2]; omega
      · rw [if_neg q2]; have := h t h1 h2 q; omega)
  rw [sJ_add, sJ_one, sJ_one, if_pos hi, if_pos hj] at h1
  exact h1
/-- what the elimination keeps: below the pivots a matrix whose other cells are not above 0 and whose rows do not add up to less than 0 -/
def ZI (z k : Nat) (M : Nat → Nat → Int64) (d : Int64) : Prop := 0 < d.toInt ∧ d.toInt ≤ 8 ^ k ∧ (∀ i j, k ≤ i → i < z → k ≤ j → j < z → j ≠ i → (M i j).toInt ≤ 0) ∧ ∀ i, k ≤ i → i < z → 0 ≤ sJ (fun j => (M i j).toInt) k (z - k) ∧ (M i i).toInt ≤ 8 * d.toInt
theorem ZI_cell {z k : Nat} {M : Nat → Nat → Int64} {d : Int64} (h : ZI z k M d) {i j : Nat} (hi : k ≤ i ∧ i < z) (hj : k ≤ j ∧ j < z) (hij : j ≠ i) : 0 ≤ (M i i).toInt ∧ (M i j).toInt ≤ 0 ∧ 0 ≤ (M i i).toInt + (M i j).toInt := by
  obtain ⟨h1, h2, h3, h4⟩ := h
  have hs := (h4 i hi.1 hi.2).1
  have ho : ∀ t, k ≤ t → t < k + (z - k) → t ≠ i → (M i t).toInt ≤ 0 := fun t q1 q2 q3 => h3 i t hi.1 hi.2 q1 (by omega) q3
  have e1 := sJ_dia (f := fun j => (M i j).toInt) (a := k) (c := z - k) (i := i) (by omega) ho
  have e2 := sJ_two (f := fun j => (M i j).toInt) (a := k) (c := z - k) (i := i) (j := j) (by omega) (by omega) (Ne.symm hij) ho
  have e1 : sJ (fun j => (M i j).toInt) k (z - k) ≤ (M i i).toInt := e1
  have e2 : sJ (fun j => (M i j).toInt) k (z - k) ≤ (M i i).toInt + (M i j).toInt := e2
  exact ⟨by omega, h3 i j hi.1 hi.2 hj.1 hj.2 hij, by omega⟩
theorem ZI_dia {z k : Nat} {M : Nat → Nat → Int64} {d : Int64} (h : ZI z k M d) {i : Nat} (hi : k ≤ i ∧ i < z) : 0 ≤ (M i i).toInt := by
  obtain ⟨h1, h2, h3, h4⟩ := h
  have hs := (h4 i hi.1 hi.2).1
  have e1 := sJ_dia (f := fun j => (M i j).toInt) (a := k) (c := z - k) (i := i) (by omega) (fun t q1 q2 q3 => h3 i t hi.1 hi.2 q1 (by omega) q3)
  have e1 : sJ (fun j => (M i j).toInt) k (z - k) ≤ (M i i).toInt := e1
  omega
theorem i64_0 {x : Int64} (h : x.toInt = 0) : x = 0 := Int64.toInt_inj.mp (h.trans (by decide))
/-- a row whose pivot is 0 is 0 -/
theorem ZI_zero {z k : Nat} {M : Nat → Nat → Int64} {d : Int64} (h : ZI z k M d) (hk : k < z) (h0 : M k k = 0) : ∀ b, k ≤ b → b < z → M k b = 0 := by
  intro b h1 h2
  by_cases q : b = k
  · rw [q]; exact h0
  · have := ZI_cell h (i := k) (j := b) (by omega) (by omega) q
    have e : (M k k).toInt = 0 := by rw [h0]; decide
    exact i64_0 (by omega)
theorem prod60 {a b : Int} (ha : -(2 ^ 30) ≤ a ∧ a ≤ 2 ^ 30) (hb : -(2 ^ 30) ≤ b ∧ b ≤ 2 ^ 30) : -(2 ^ 60) ≤ a * b ∧ a * b ≤ 2 ^ 60 := by
  have h1 : a.natAbs ≤ 2 ^ 30 := by omega
  have h2 : b.natAbs ≤ 2 ^ 30 := by omega
  have h3 : (a * b).natAbs ≤ 2 ^ 30 * 2 ^ 30 := by rw [Int.natAbs_mul]; exact Nat.mul_le_mul h1 h2
  have h4 : (2 : Nat) ^ 30 * 2 ^ 30 = 2 ^ 60 := by decide
  omega
theorem bm64 {x : Int} (h : -(2 ^ 63) ≤ x ∧ x < 2 ^ 63) : x.bmod (2 ^ 64) = x := by
  apply Int.bmod_eq_of_le <;> omega
theorem i64_el {x y u v d : Int64} (hx : -(2 ^ 30) ≤ x.toInt ∧ x.toInt ≤ 2 ^ 30) (hy : -(2 ^ 30) ≤ y.toInt ∧ y.toInt ≤ 2 ^ 30) (hu : -(2 ^ 30) ≤ u.toInt ∧ u.toInt ≤ 2 ^ 30) (hv : -(2 ^ 30) ≤ v.toInt ∧ v.toInt ≤ 2 ^ 30) (hd : 0 < d.toInt) : ((x * y - u * v) / d).toInt = (x.toInt * y.toInt - u.toInt * v.toInt).tdiv d.toInt := by
  have p1 := prod60 hx hy
  have p2 := prod60 hu hv
  have e1 : (x * y).toInt = x.toInt * y.toInt := by rw [Int64.toInt_mul]; exact bm64 (by omega)
  have e2 : (u * v).toInt = u.toInt * v.toInt := by rw [Int64.toInt_mul]; exact bm64 (by omega)
  have e3 : (x * y - u * v).toInt = x.toInt * y.toInt - u.toInt * v.toInt := by rw [Int64.toInt_sub, e1, e2]; exact bm64 (by omega)
  rw [Int64.toInt_div, e3]
  apply bm64
  obtain ⟨w, hw⟩ : ∃ w, w = x.toInt * y.toInt - u.toInt * v.toInt := ⟨_, rfl⟩
  have hw2 : -(2 ^ 61) ≤ w ∧ w ≤ 2 ^ 61 := by omega
  rw [← hw]
  have h1 : (w.tdiv d.toInt).natAbs ≤ w.natAbs := by rw [Int.natAbs_tdiv]; exact Nat.div_le_self _ _
  omega
theorem td_nonpos {x d : Int} (hd : 0 < d) (hx : x ≤ 0) : x.tdiv d ≤ 0 ∧ x ≤ d * x.tdiv d := by
  have h1 : x.tdiv d = -((-x) / d) := by
    rw [show x = -(-x) by omega, Int.neg_tdiv, Int.tdiv_eq_ediv_of_nonneg (by omega)]
    simp
  have h2 : 0 ≤ (-x) / d := Int.ediv_nonneg (by omega) (by omega)
  have h3 : d * ((-x) / d) ≤ -x := Int.mul_ediv_self_le (by omega)
  rw [h1, Int.mul_neg]
  omega
theorem td_nonneg {x d : Int} (hd : 0 < d) (hx : 0 ≤ x) : 0 ≤ x.tdiv d ∧ x - (d - 1) ≤ d * x.tdiv d ∧ d * x.tdiv d ≤ x := by
  rw [Int.tdiv_eq_ediv_of_nonneg hx]
  have h2 : 0 ≤ x / d := Int.ediv_nonneg hx (by omega)
  have h3 : d * (x / d) ≤ x := Int.mul_ediv_self_le (by omega)
  have h4 : x < d * (x / d) + d := Int.lt_mul_ediv_self_add hd
  omega
theorem pow8i {k : Nat} (h : k ≤ 9) : (8 : Int) ^ (k + 1) ≤ 2 ^ 30 := by
  have h1 : (8 : Nat) ^ (k + 1) ≤ 8 ^ 10 := Nat.pow_le_pow_right (by decide) (by omega)
  have h2 : (8 : Nat) ^ 10 = 2 ^ 30 := by decide
  have h3 : (8 : Int) ^ (k + 1) = ((8 ^ (k + 1) : Nat) : Int) := by push_cast; rfl
  rw [h3]
  omega
theorem ZI_step {z k : Nat} {M : Nat → Nat → Int64} {d : Int64} (hz : z ≤ 11) (hk : k < z) (h : ZI z k M d) (hne : ¬ M k k = 0) : ZI z (k + 1) (elim z k M d) (M k k) := by
  have hp0 := ZI_dia h (i := k) (by omega)
  have hp : 0 < (M k k).toInt := by
    rcases Int.lt_or_le 0 (M k k).toInt with q | q
    · exact q
    · exact absurd (i64_0 (by omega)) hne
  obtain ⟨h1, h2, h3, h4⟩ := id h
  have h8 : (8 : Int) ^ (k + 1) = 8 ^ k * 8 := Int.pow_succ _ _
  have hpd := (h4 k (by omega) hk).2
  refine ⟨hp, by rw [h8]; omega, ?_⟩
  by_cases hlast : k + 1 < z
  · have hb := pow8i (k := k) (by omega)
    have hD : 8 * d.toInt ≤ 2 ^ 30 := by rw [h8] at hb; omega
    have hcell : ∀ i j, k ≤ i → i < z → k ≤ j → j < z → -(2 ^ 30) ≤ (M i j).toInt ∧ (M i j).toInt ≤ 2 ^ 30 := fun i j q1 q2 q3 q4 => by
      have g1 := ZI_dia h (i := i) ⟨q1, q2⟩
      have g2 := (h4 i q1 q2).2
      by_cases q : j = i
      · subst q; omega
      · have g3 := ZI_cell h (i := i) (j := j) ⟨q1, q2⟩ ⟨q3, q4⟩ q
        omega
    have he : ∀ i j, k < i → i < z → k < j → j < z → (elim z k M d i j).toInt = ((M i j).toInt * (M k k).toInt - (M i k).toInt * (M k j).toInt).tdiv d.toInt := fun i j q1 q2 q3 q4 => by
      unfold elim
      rw [if_pos ⟨q1, q3, q2, q4⟩]
      exact i64_el (hcell _ _ (by omega) q2 (by omega) q4) (hcell _ _ (by omega) hk (by omega) hk) (hcell _ _ (by omega) q2 (by omega) hk) (hcell _ _ (by omega) hk (by omega) q4) h1
    have hoff : ∀ i j, k < i → i < z → k < j → j < z → j ≠ i → (M i j).toInt * (M k k).toInt - (M i k).toInt * (M k j).toInt ≤ 0 := fun i j q1 q2 q3 q4 q5 => by
      have g1 : (M i j).toInt * (M k k).toInt ≤ 0 := Int.mul_nonpos_of_nonpos_of_nonneg (h3 i j (by omega) q2 (by omega) q4 q5) hp0
      have g2 : 0 ≤ (M i k).toInt * (M k j).toInt := Int.mul_nonneg_of_nonpos_of_nonpos (h3 i k (by omega) q2 (by omega) hk (by omega)) (h3 k j (by omega) hk (by omega) q4 (by omega))
      omega
    refine ⟨fun i j q1 q2 q3 q4 q5 => ?_, fun i q1 q2 => ?_⟩
    · rw [he i j (by omega) q2 (by omega) q4]
      exact (td_nonpos h1 (hoff i j (by omega) q2 (by omega) q4 q5)).1
    · have hri := (h4 i (by omega) q2).1
      have hrk := (h4 k (by omega) hk).1
      rw [show z - k = z - (k + 1) + 1 by omega, sJ_front] at hri hrk
      have hik := h3 i k (by omega) q2 (by omega) hk (by omega)
      -- the sum of the new row ahead of the division
      have hsum : 0 ≤ sJ (fun j => (M i j).toInt * (M k k).toInt - (M i k).toInt * (M k j).toInt) (k + 1) (z - (k + 1)) := by
        have e1 : sJ (fun j => (M i j).toInt * (M k k).toInt - (M i k).toInt * (M k j).toInt) (k + 1) (z - (k + 1)) = (M k k).toInt * sJ (fun j => (M i j).toInt) (k + 1) (z - (k + 1)) + (-(M i k).toInt) * sJ (fun j => (M k j).toInt) (k + 1) (z - (k + 1)) := by
          rw [← sJ_lin]
          refine sJ_congr (fun t _ _ => ?_)
          show _ = (M k k).toInt * (M i t).toInt + (-(M i k).toInt) * (M k t).toInt
          rw [Int.mul_comm (M k k).toInt, Int.neg_mul]
          omega
        rw [e1]
        have g1 : (M k k).toInt * (-(M i k).toInt) ≤ (M k k).toInt * sJ (fun j => (M i j).toInt) (k + 1) (z - (k + 1)) := Int.mul_le_mul_of_nonneg_left (by omega) hp0
        have g2 : (-(M i k).toInt) * (-(M k k).toInt) ≤ (-(M i k).toInt) * sJ (fun j => (M k j).toInt) (k + 1) (z - (k + 1)) := Int.mul_le_mul_of_nonneg_left (by omega) (by omega)
        have g3 : (-(M i k).toInt) * (-(M k k).toInt) = -((M k k).toInt * (-(M i k).toInt)) := by rw [Int.mul_neg, Int.mul_comm]
        omega
      have hxi : 0 ≤ (M i i).toInt * (M k k).toInt - (M i k).toInt * (M k i).toInt := by
        have := sJ_dia (f := fun j => (M i j).toInt * (M k k).toInt - (M i k).toInt * (M k j).toInt) (a := k + 1) (c := z - (k + 1)) (i := i) (by omega) (fun t g1 g2 g3 => hoff i t (by omega) q2 (by omega) (by omega) g3)
        have this : sJ (fun j => (M i j).toInt * (M k k).toInt - (M i k).toInt * (M k j).toInt) (k + 1) (z - (k + 1)) ≤ (M i i).toInt * (M k k).toInt - (M i k).toInt * (M k i).toInt := this
        omega
      constructor
      · have e2 : d.toInt * sJ (fun j => (elim z k M d i j).toInt) (k + 1) (z - (k + 1)) = sJ (fun j => d.toInt * (elim z k M d i j).toInt + 0 * 0) (k + 1) (z - (k + 1)) := by
          rw [sJ_lin (fun j => (elim z k M d i j).toInt) (fun _ => 0) d.toInt 0]
          omega
        have e3 : sJ (fun j => ((M i j).toInt * (M k k).toInt - (M i k).toInt * (M k j).toInt) + (if j = i then -(d.toInt - 1) else 0)) (k + 1) (z - (k + 1)) ≤ sJ (fun j => d.toInt * (elim z k M d i j).toInt + 0 * 0) (k + 1) (z - (k + 1)) := sJ_le (fun t g1 g2 => by
          show _ + (if t = i then -(d.toInt - 1) else 0) ≤ d.toInt * (elim z k M d i t).toInt + 0 * 0
          rw [he i t (by omega) q2 (by omega) (by omega)]
          by_cases q : t = i
          · subst q
            rw [if_pos rfl]
            have := (td_nonneg h1 hxi).2.1
            omega
          · rw [if_neg q]
            have := (td_nonpos h1 (hoff i t (by omega) q2 (by omega) (by omega) q)).2
            omega)
        rw [sJ_add, sJ_one, if_pos (by omega), ← e2] at e3
        rcases Int.lt_or_le (sJ (fun j => (elim z k M d i j).toInt) (k + 1) (z - (k + 1))) 0 with q | q
        · have g9 : d.toInt * sJ (fun j => (elim z k M d i j).toInt) (k + 1) (z - (k + 1)) ≤ d.toInt * (-1) := Int.mul_le_mul_of_nonneg_left (by omega) (by omega)
          omega
        · exact q
      · rw [he i i (by omega) q2 (by omega) q2]
        have g1 := (td_nonneg h1 hxi).2.2
        have g2 : 0 ≤ (M i k).toInt * (M k i).toInt := Int.mul_nonneg_of_nonpos_of_nonpos hik (h3 k i (by omega) hk (by omega) q2 (by omega))
        have g3 : (M i i).toInt * (M k k).toInt ≤ 8 * d.toInt * (M k k).toInt := Int.mul_le_mul_of_nonneg_right (h4 i (by omega) q2).2 hp0
        have g4 : 8 * d.toInt * (M k k).toInt = d.toInt * (8 * (M k k).toInt) := by rw [Int.mul_comm 8, Int.mul_assoc]
        exact Int.le_of_mul_le_mul_left (show d.toInt * _ ≤ d.toInt * (8 * (M k k).toInt) by omega) h1
  · exact ⟨fun i j q1 q2 => by omega, fun i q1 q2 => by omega⟩
