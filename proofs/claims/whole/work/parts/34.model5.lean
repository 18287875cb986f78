def sI (f : Nat → Int32) : Nat → Int32
  | 0 => 0
  | k + 1 => sI f k + f k
theorem sI_congr {f g : Nat → Int32} : ∀ {k : Nat}, (∀ i, i < k → f i = g i) → sI f k = sI g k := by
  intro k
  induction k with
  | zero => intro _; rfl
  | succ k ih => intro h; show sI f k + f k = sI g k + g k; rw [ih (fun i hi => h i (by omega)), h k (by omega)]
theorem i4 (a b c d : Int32) : a + b + (c + d) = a + c + (b + d) := by
  rw [Int32.add_assoc, Int32.add_assoc, ← Int32.add_assoc b, ← Int32.add_assoc c, Int32.add_comm b c]
theorem sI_add (f g : Nat → Int32) : ∀ k, sI (fun i => f i + g i) k = sI f k + sI g k := by
  intro k
  induction k with
  | zero => rfl
  | succ k ih => show sI (fun i => f i + g i) k + (f k + g k) = (sI f k + f k) + (sI g k + g k); rw [ih, i4]
theorem sI_zero : ∀ k, sI (fun _ => 0) k = 0 := by
  intro k
  induction k with
  | zero => rfl
  | succ k ih => show sI (fun _ => 0) k + 0 = 0; rw [ih]; rfl
theorem sI_swap (f : Nat → Nat → Int32) (b : Nat) : ∀ k, sI (fun i => sI (fun j => f i j) b) k = sI (fun j => sI (fun i => f i j) k) b := by
  intro k
  induction k with
  | zero => exact (sI_zero b).symm
  | succ k ih =>
    show sI (fun i => sI (fun j => f i j) b) k + sI (fun j => f k j) b = _
    rw [ih, ← sI_add]; rfl
theorem sI_ite (P : Prop) [Decidable P] (f : Nat → Int32) (k : Nat) : (if P then sI f k else 0) = sI (fun i => if P then f i else 0) k := by
  by_cases h : P
  · rw [if_pos h]; exact sI_congr (fun i _ => (if_pos h).symm)
  · rw [if_neg h]; exact (sI_zero k).symm.trans (sI_congr (fun i _ => (if_neg h).symm))
theorem sI_single (a : Nat) (v : Int32) : ∀ k, sI (fun i => if i = a then v else 0) k = if a < k then v else 0 := by
  intro k
  induction k with
  | zero => rfl
  | succ k ih =>
    show sI (fun i => if i = a then v else 0) k + (if k = a then v else 0) = _
    rw [ih]
    by_cases h : k = a
    · rw [if_pos h, if_neg (by omega), if_pos (by omega), Int32.zero_add]
    · rw [if_neg h, Int32.add_zero]
      by_cases h2 : a < k
      · rw [if_pos h2, if_pos (by omega)]
      · rw [if_neg h2, if_neg (by omega)]
theorem sI_app (f : Nat → Int32) (a : Nat) : ∀ b, sI f (a + b) = sI f a + sI (fun i => f (a + i)) b := by
  intro b
  induction b with
  | zero => exact (Int32.add_zero _).symm
  | succ b ih => show sI f (a + b) + f (a + b) = sI f a + (sI (fun i => f (a + i)) b + f (a + b)); rw [ih, Int32.add_assoc]
theorem sI_block (f : Nat → Int32) (k : Nat) : ∀ b, sI f (k * b) = sI (fun v => sI (fun w => f (k * v + w)) k) b := by
  intro b
  induction b with
  | zero => rfl
  | succ b ih => rw [Nat.mul_succ, sI_app, ih]; rfl
/-- a row of signs takes a state -/
def mpS (nx : Nat → Nat → Nat) (us : Nat → Nat) : Nat → Nat → Nat
  | 0, x => x
  | t + 1, x => nx (us t) (mpS nx us t x)
def imS (nx : Nat → Nat → Nat) (n : Nat) (us : Nat → Nat) : Nat → Nat
  | 0 => 2 ^ n - 1
  | t + 1 => imgF nx (imS nx n us t) (us t) n
theorem img_bit (nx : Nat → Nat → Nat) (S u : Nat) (z : Nat) : ∀ k, (imgF nx S u k).testBit z = true ↔ ∃ x, x < k ∧ S.testBit x = true ∧ nx u x = z := by
  intro k
  induction k with
  | zero => exact ⟨fun h => (by rw [imgF, Nat.zero_testBit] at h; cases h), fun ⟨x, h, _⟩ => absurd h (Nat.not_lt_zero _)⟩
  | succ k ih =>
    have hb : S.testBit k = true ↔ ¬ S / 2 ^ k % 2 = 0 := by
      rw [Nat.testBit_eq_decide_div_mod_eq, decide_eq_true_iff]; omega
    unfold imgF
    rw [Nat.testBit_or, Bool.or_eq_true, ih]
    by_cases h : S / 2 ^ k % 2 = 0
    · rw [if_pos h]
      constructor
      · rintro (⟨x, h1, h2⟩ | h1)
        · exact ⟨x, by omega, h2⟩
        · rw [Nat.zero_testBit] at h1; cases h1
      · rintro ⟨x, h1, h2, h3⟩
        left
        refine ⟨x, ?_, h2, h3⟩
        rcases Nat.lt_or_ge x k with q | q
        · exact q
        · obtain rfl : x = k := by omega
          exact absurd h (hb.mp h2)
    · rw [if_neg h, Nat.testBit_two_pow, decide_eq_true_iff]
      constructor
      · rintro (⟨x, h1, h2⟩ | h1)
        · exact ⟨x, by omega, h2⟩
        · exact ⟨k, by omega, hb.mpr h, h1⟩
      · rintro ⟨x, h1, h2, h3⟩
        rcases Nat.lt_or_ge x k with q | q
        · exact Or.inl ⟨x, q, h2, h3⟩
        · obtain rfl : x = k := by omega
          exact Or.inr h3
def okN (n : Nat) (nx : Nat → Nat → Nat) : Prop := ∀ u, u < 8 → ∀ x, x < n → nx u x < n
theorem mpS_lt {n : Nat} {nx : Nat → Nat → Nat} {us : Nat → Nat} (h : okN n nx) (hu : ∀ i, us i < 8) : ∀ t x, x < n → mpS nx us t x < n := by
  intro t
  induction t with
  | zero => intro x hx; exact hx
  | succ t ih => intro x hx; exact h _ (hu t) _ (ih x hx)
theorem im_bit {n : Nat} {nx : Nat → Nat → Nat} {us : Nat → Nat} (h : okN n nx) (hu : ∀ i, us i < 8) : ∀ t z, (imS nx n us t).testBit z = true ↔ ∃ x, x < n ∧ mpS nx us t x = z := by
  intro t
  induction t with
  | zero =>
    intro z
    show (2 ^ n - 1).testBit z = true ↔ _
    rw [Nat.testBit_two_pow_sub_one, decide_eq_true_iff]
    exact ⟨fun q => ⟨z, q, rfl⟩, fun ⟨x, h1, h2⟩ => by have h2 : x = z := h2; omega⟩
  | succ t ih =>
    intro z
    show (imgF nx (imS nx n us t) (us t) n).testBit z = true ↔ _
    rw [img_bit]
    constructor
    · rintro ⟨x, h1, h2, h3⟩
      obtain ⟨y, h4, h5⟩ := (ih x).mp h2
      exact ⟨y, h4, by show nx (us t) (mpS nx us t y) = z; rw [h5]; exact h3⟩
    · rintro ⟨y, h4, h5⟩
      exact ⟨mpS nx us t y, mpS_lt h hu t y h4, (ih _).mpr ⟨y, h4, rfl⟩, h5⟩
theorem im_lt {n : Nat} {nx : Nat → Nat → Nat} {us : Nat → Nat} (h : okN n nx) (hu : ∀ i, us i < 8) (hn : 1 ≤ n) (t : Nat) : 1 ≤ imS nx n us t ∧ imS nx n us t < 2 ^ n := by
  constructor
  · rcases Nat.eq_zero_or_pos (imS nx n us t) with q | q
    · have := (im_bit h hu t (mpS nx us t 0)).mpr ⟨0, by omega, rfl⟩
      rw [q, Nat.zero_testBit] at this; cases this
    · exact q
  · cases t with
    | zero => show 2 ^ n - 1 < 2 ^ n; have : 0 < 2 ^ n := Nat.pow_pos (by decide); omega
    | succ t => exact imgF_lt (h _ (hu t)) n (Nat.le_refl _)
theorem sng_all : ((List.range 4096).all fun S => sng S == (S == 0 || (List.range 12).any fun k => S == 2 ^ k)) = true := by decide +kernel
theorem sng_iff {S : Nat} (hS : S < 4096) (h0 : 1 ≤ S) : sng S = true ↔ ∃ k, k < 12 ∧ S = 2 ^ k := by
  have h := List.all_eq_true.mp sng_all S (List.mem_range.mpr hS)
  rw [beq_iff_eq] at h
  rw [h, Bool.or_eq_true, List.any_eq_true]
  constructor
  · rintro (q | ⟨k, q1, q2⟩)
    · rw [beq_iff_eq] at q; omega
    · exact ⟨k, List.mem_range.mp q1, by rw [beq_iff_eq] at q2; exact q2⟩
  · rintro ⟨k, q1, q2⟩
    exact Or.inr ⟨k, List.mem_range.mpr q1, by rw [beq_iff_eq]; exact q2⟩
theorem im_one {n : Nat} {nx : Nat → Nat → Nat} {us : Nat → Nat} (h : okN n nx) (hu : ∀ i, us i < 8) (hn : 1 ≤ n) (t k : Nat) : imS nx n us t = 2 ^ k ↔ mtF (mpS nx us t) n = true ∧ mpS nx us t 0 = k := by
  constructor
  · intro e
    have hk : ∀ x, x < n → mpS nx us t x = k := fun x hx => by
      have := (im_bit h hu t _).mpr ⟨x, hx, rfl⟩
      rw [e, Nat.testBit_two_pow, decide_eq_true_iff] at this
      omega
    exact ⟨mt_iff.mpr (fun x hx => by rw [hk x hx, hk 0 (by omega)]), hk 0 (by omega)⟩
  · rintro ⟨h1, h2⟩
    apply Nat.eq_of_testBit_eq
    intro z
    rw [Nat.testBit_two_pow]
    cases hb : (imS nx n us t).testBit z with
    | true =>
      obtain ⟨x, h3, h4⟩ := (im_bit h hu t z).mp hb
      rw [mt_iff.mp h1 x h3, h2] at h4
      exact (decide_eq_true h4).symm
    | false =>
      refine (decide_eq_false (fun q => ?_)).symm
      have := (im_bit h hu t z).mpr ⟨0, by omega, by omega⟩
      rw [hb] at this; cases this
theorem im_sng {n : Nat} {nx : Nat → Nat → Nat} {us : Nat → Nat} (h : okN n nx) (hu : ∀ i, us i < 8) (hn : 1 ≤ n ∧ n ≤ 12) (t : Nat) : sng (imS nx n us t) = mtF (mpS nx us t) n := by
  have hl := im_lt h hu hn.1 t
  have h12 := pow12 hn.2
  have hs := sng_iff (S := imS nx n us t) (by omega) hl.1
  cases hb : mtF (mpS nx us t) n with
  | true => exact hs.mpr ⟨mpS nx us t 0, by have := mpS_lt h hu t 0 (by omega); omega, (im_one h hu hn.1 t _).mpr ⟨hb, rfl⟩⟩
  | false =>
    cases hc : sng (imS nx n us t) with
    | false => rfl
    | true =>
      obtain ⟨k, -, e⟩ := hs.mp hc
      rw [((im_one h hu hn.1 t k).mp e).1] at hb; cases hb
theorem mp_congr {nx : Nat → Nat → Nat} {us vs : Nat → Nat} : ∀ t, (∀ i, i < t → us i = vs i) → ∀ x, mpS nx us t x = mpS nx vs t x := by
  intro t
  induction t with
  | zero => intro _ x; rfl
  | succ t ih => intro h x; show nx (us t) (mpS nx us t x) = nx (vs t) (mpS nx vs t x); rw [ih (fun i hi => h i (by omega)), h t (by omega)]
theorem im_congr {n : Nat} {nx : Nat → Nat → Nat} {us vs : Nat → Nat} : ∀ t, (∀ i, i < t → us i = vs i) → imS nx n us t = imS nx n vs t := by
  intro t
  induction t with
  | zero => intro _; rfl
  | succ t ih => intro h; show imgF nx (imS nx n us t) (us t) n = imgF nx (imS nx n vs t) (vs t) n; rw [ih (fun i hi => h i (by omega)), h t (by omega)]
theorem acU_eq (nx : Nat → Nat → Nat) (n : Nat) (cnt : Nat → Int32) (Z : Nat) (g : Nat → Int32) (z : Nat) : ∀ u, acU nx n cnt Z u g z = g z + sI (fun v => if z = imgF nx Z v n then cnt Z else 0) u := by
  intro u
  induction u with
  | zero => exact (Int32.add_zero _).symm
  | succ u ih =>
    show (if z = imgF nx Z u n then acU nx n cnt Z u g z + cnt Z else acU nx n cnt Z u g z) = g z + (sI _ u + (if z = imgF nx Z u n then cnt Z else 0))
    rw [← Int32.add_assoc, ← ih]
    by_cases h : z = imgF nx Z u n
    · rw [if_pos h, if_pos h]
    · rw [if_neg h, if_neg h, Int32.add_zero]
theorem acZ_eq (nx : Nat → Nat → Nat) (n : Nat) (cnt : Nat → Int32) (z : Nat) : ∀ k, acZ nx n cnt k z = sI (fun j => sI (fun v => if z = imgF nx (j + 1) v n then cnt (j + 1) else 0) 8) k := by
  intro k
  induction k with
  | zero => rfl
  | succ k ih => show acU nx n cnt (k + 1) 8 (acZ nx n cnt k) z = _; rw [acU_eq, ih]; rfl
def dg8 (w i : Nat) : Nat := w / 8 ^ i % 8
theorem dg8_lt (w i : Nat) : dg8 w i < 8 := Nat.mod_lt _ (by decide)
theorem dg8_lo {t v w i : Nat} (hi : i < t) (hw : w < 8 ^ t) : dg8 (8 ^ t * v + w) i = dg8 w i := by
  unfold dg8
  have e : 8 ^ t * v = 8 ^ i * (8 * (8 ^ (t - i - 1) * v)) := by
    rw [← Nat.mul_assoc, ← Nat.mul_assoc, ← Nat.pow_succ, ← Nat.pow_add]
    congr 2
    omega
  rw [e, Nat.mul_add_div (Nat.pow_pos (by decide)), Nat.mul_add_mod]
theorem dg8_hi {t v w : Nat} (hv : v < 8) (hw : w < 8 ^ t) : dg8 (8 ^ t * v + w) t = v := by
  unfold dg8
  rw [Nat.mul_add_div (Nat.pow_pos (by decide)), Nat.div_eq_of_lt hw, Nat.add_zero, Nat.mod_eq_of_lt hv]
theorem rws_eq {n : Nat} {nx : Nat → Nat → Nat} (h : okN n nx) (hn : 1 ≤ n) : ∀ t Z, rws nx n t Z = sI (fun w => if imS nx n (dg8 w) t = Z then 1 else 0) (8 ^ t) := by
  intro t
  induction t with
  | zero =>
    intro Z
    show (if Z = 2 ^ n - 1 then (1 : Int32) else 0) = 0 + (if 2 ^ n - 1 = Z then 1 else 0)
    rw [Int32.zero_add]
    by_cases q : Z = 2 ^ n - 1
    · rw [if_pos q, if_pos q.symm]
    · rw [if_neg q, if_neg (fun z => q z.symm)]
  | succ t ih =>
    intro Z
    show acZ nx n (rws nx n t) (2 ^ n - 1) Z = _
    rw [acZ_eq, sI_swap, Nat.pow_succ, sI_block]
    refine sI_congr (fun v hv => ?_)
    have e1 : sI (fun i => if Z = imgF nx (i + 1) v n then rws nx n t (i + 1) else 0) (2 ^ n - 1) = sI (fun i => sI (fun w => if Z = imgF nx (i + 1) v n then (if imS nx n (dg8 w) t = i + 1 then 1 else 0) else 0) (8 ^ t)) (2 ^ n - 1) := sI_congr (fun i _ => by rw [ih, sI_ite])
    rw [e1, sI_swap]
    refine sI_congr (fun w hw => ?_)
    have hl := im_lt (us := dg8 w) h (dg8_lt w) hn t
    have e2 : imS nx n (dg8 (8 ^ t * v + w)) (t + 1) = imgF nx (imS nx n (dg8 w) t) v n := by
      show imgF nx (imS nx n (dg8 (8 ^ t * v + w)) t) (dg8 (8 ^ t * v + w) t) n = _
      rw [dg8_hi hv hw, im_congr t (fun i hi => dg8_lo hi hw)]
    rw [e2]
    have e3 : sI (fun i => if Z = imgF nx (i + 1) v n then (if imS nx n (dg8 w) t = i + 1 then (1 : Int32) else 0) else 0) (2 ^ n - 1) = sI (fun i => if i = imS nx n (dg8 w) t - 1 then (if imgF nx (imS nx n (dg8 w) t) v n = Z then (1 : Int32) else 0) else 0) (2 ^ n - 1) := sI_congr (fun i _ => by
      by_cases q : imS nx n (dg8 w) t = i + 1
      · rw [if_pos q, if_pos (show i = imS nx n (dg8 w) t - 1 by omega), q]
        by_cases q2 : Z = imgF nx (i + 1) v n
        · rw [if_pos q2, if_pos q2.symm]
        · rw [if_neg q2, if_neg (fun z => q2 z.symm)]
      · rw [if_neg q, if_neg (show ¬ i = imS nx n (dg8 w) t - 1 by omega)]
        split <;> rfl)
    rw [e3, sI_single, if_pos (by omega)]
theorem ap_eq (cnt : Nat → Int32) : ∀ k, apF cnt k = sI (fun j => if sng (j + 1) = true then 0 else cnt (j + 1)) k := by
  intro k
  induction k with
  | zero => rfl
  | succ k ih =>
    show (if sng (k + 1) = true then apF cnt k else apF cnt k + cnt (k + 1)) = sI _ k + (if sng (k + 1) = true then 0 else cnt (k + 1))
    rw [← ih]
    by_cases q : sng (k + 1) = true
    · rw [if_pos q, if_pos q, Int32.add_zero]
    · rw [if_neg q, if_neg q]
theorem apr_eq {n : Nat} {nx : Nat → Nat → Nat} (h : okN n nx) (hn : 1 ≤ n) (t : Nat) : apF (rws nx n t) (2 ^ n - 1) = sI (fun w => if sng (imS nx n (dg8 w) t) = true then 0 else 1) (8 ^ t) := by
  have e1 : sI (fun j => if sng (j + 1) = true then 0 else rws nx n t (j + 1)) (2 ^ n - 1) = sI (fun j => sI (fun w => if ¬ sng (j + 1) = true then (if imS nx n (dg8 w) t = j + 1 then 1 else 0) else 0) (8 ^ t)) (2 ^ n - 1) := sI_congr (fun j _ => by
    rw [← sI_ite, ← rws_eq h hn t]
    by_cases q : sng (j + 1) = true
    · rw [if_pos q, if_neg (fun z => z q)]
    · rw [if_neg q, if_pos q])
  rw [ap_eq, e1, sI_swap]
  refine sI_congr (fun w hw => ?_)
  have hl := im_lt (us := dg8 w) h (dg8_lt w) hn t
  have e3 : sI (fun j => if ¬ sng (j + 1) = true then (if imS nx n (dg8 w) t = j + 1 then (1 : Int32) else 0) else 0) (2 ^ n - 1) = sI (fun j => if j = imS nx n (dg8 w) t - 1 then (if sng (imS nx n (dg8 w) t) = true then (0 : Int32) else 1) else 0) (2 ^ n - 1) := sI_congr (fun j _ => by
    by_cases q : imS nx n (dg8 w) t = j + 1
    · rw [if_pos q, if_pos (show j = imS nx n (dg8 w) t - 1 by omega), q]
      by_cases q2 : sng (j + 1) = true
      · rw [if_pos q2, if_neg (fun z => z q2)]
      · rw [if_neg q2, if_pos q2]
    · rw [if_neg q, if_neg (show ¬ j = imS nx n (dg8 w) t - 1 by omega)]
      split <;> rfl)
  rw [e3, sI_single, if_pos (by omega)]
/-- what the reference counts -/
def ctF (nx : Nat → Nat → Nat) (n len : Nat) (b : Int32) (w : Nat) : Int32 := if (if mtF (mpS nx (dg8 w) len) n = true then nI (mpS nx (dg8 w) len 0) else (-1)) = b then 1 else 0
theorem ct_x {n : Nat} {nx : Nat → Nat → Nat} (h : okN n nx) (hn : 1 ≤ n ∧ n ≤ 12) (t : Nat) {x : Nat} (hx : x < n) : sI (ctF nx n t (nI x)) (8 ^ t) = rws nx n t (2 ^ x) := by
  rw [rws_eq h hn.1]
  refine sI_congr (fun w _ => ?_)
  unfold ctF
  have ho := im_one (us := dg8 w) h (dg8_lt w) hn.1 t x
  have hl := mpS_lt (us := dg8 w) h (dg8_lt w) t 0 (by omega)
  by_cases q : mtF (mpS nx (dg8 w) t) n = true
  · rw [if_pos q]
    by_cases q2 : mpS nx (dg8 w) t 0 = x
    · rw [if_pos (by rw [q2]), if_pos (ho.mpr ⟨q, q2⟩)]
    · rw [if_neg (fun z => q2 ((nI_eq (by omega) (by omega)).mp z)), if_neg (fun z => q2 (ho.mp z).2)]
  · rw [if_neg q, if_neg (fun z => ni_m1 (by omega) z.symm), if_neg (fun z => q (ho.mp z).1)]
theorem ct_m {n : Nat} {nx : Nat → Nat → Nat} (h : okN n nx) (hn : 1 ≤ n ∧ n ≤ 12) (t : Nat) : sI (ctF nx n t (-1)) (8 ^ t) = apF (rws nx n t) (2 ^ n - 1) := by
  rw [apr_eq h hn.1]
  refine sI_congr (fun w _ => ?_)
  unfold ctF
  have hl := mpS_lt (us := dg8 w) h (dg8_lt w) t 0 (by omega)
  rw [im_sng h (dg8_lt w) hn]
  by_cases q : mtF (mpS nx (dg8 w) t) n = true
  · rw [if_pos q, if_pos q, if_neg (ni_m1 (by omega))]
  · rw [if_neg q, if_neg q, if_pos rfl]
/-- the signs of a block -/
def bsg (a : Int32) (bf : Nat) (i : Nat) : Nat := sgn a (nI (bf + (i + 1)))
theorem tb_mp (nx : Nat → Nat → Nat) (a : Int32) (bf : Nat) : ∀ i x, tbF nx a bf i x = mpS nx (bsg a bf) i x := by
  intro i
  induction i with
  | zero => intro x; rfl
  | succ i ih => intro x; show nx (sgn a (nI (bf + (i + 1)))) (tbF nx a bf i x) = _; rw [ih]; rfl
theorem mpS_mono {n : Nat} {nx : Nat → Nat → Nat} {us : Nat → Nat} (t : Nat) : ∀ k, mtF (mpS nx us t) n = true → mtF (mpS nx us (t + k)) n = true := by
  intro k
  induction k with
  | zero => exact id
  | succ k ih =>
    intro h
    have h2 := mt_iff.mp (ih h)
    exact mt_iff.mpr (fun x hx => by show nx _ (mpS nx us (t + k) x) = nx _ (mpS nx us (t + k) 0); rw [h2 x hx])
theorem bm_eq {n : Nat} {nx : Nat → Nat → Nat} (h : okN n nx) (hn : 1 ≤ n ∧ n ≤ 12) (a : Int32) (bf : Nat) : ∀ f i, bmF nx n a bf f (i + 1) (imS nx n (bsg a bf) i) = mtF (mpS nx (bsg a bf) (i + f)) n := by
  have hu : ∀ i, bsg a bf i < 8 := fun i => sgn_lt _ _
  intro f
  induction f with
  | zero => intro i; exact im_sng h hu hn i
  | succ f ih =>
    intro i
    unfold bmF
    by_cases q : sng (imS nx n (bsg a bf) i) = true
    · rw [if_pos q]
      rw [im_sng h hu hn] at q
      exact (mpS_mono i (f + 1) q).symm
    · rw [if_neg q, show i + (f + 1) = i + 1 + f by omega]
      exact ih (i + 1)
theorem bm_mt {n : Nat} {nx : Nat → Nat → Nat} (h : okN n nx) (hn : 1 ≤ n ∧ n ≤ 12) (a : Int32) (bf len : Nat) : bmF nx n a bf len 1 (2 ^ n - 1) = mtF (mpS nx (bsg a bf) len) n := by
  have := bm_eq h hn a bf len 0
  rw [show 0 + len = len from Nat.zero_add _] at this
  exact this
theorem rN_ok {n : Nat} {nx : Nat → Nat → Nat} {C : pw_C} (h : rN n nx C) : okN n nx := fun u hu x hx => (h u hu x hx).1

theorem ctF_t {nx : Nat → Nat → Nat} {n len w : Nat} {b : Int32} (h : mtF (mpS nx (dg8 w) len) n = true) : ctF nx n len b w = if nI (mpS nx (dg8 w) len 0) = b then 1 else 0 := by unfold ctF; rw [if_pos h]
theorem ctF_f {nx : Nat → Nat → Nat} {n len w : Nat} {b : Int32} (h : mtF (mpS nx (dg8 w) len) n = false) : ctF nx n len b w = if (-1) = b then 1 else 0 := by unfold ctF; rw [if_neg (show ¬ mtF (mpS nx (dg8 w) len) n = true by rw [h]; decide)]
theorem pow85 {t : Nat} (h : t ≤ 5) : 8 ^ t ≤ 32768 := Nat.le_trans (Nat.pow_le_pow_right (by decide) h) (by decide)
theorem ps_8p {t : Nat} (h : t ≤ 5) : nI 1 <<< (nI (3 * t) &&& 31) = nI (8 ^ t) := by
  rw [ps_shl1 (by omega), Nat.pow_mul]
theorem ps_dg {w k : Nat} (hw : w < 2 ^ 31) (hk : k ≤ 5) : nI w >>> (nI (3 * k) &&& 31) &&& nI 7 = nI (dg8 w k) := by
  rw [pk_shrN hw (nI (3 * k) &&& 31) (3 * k) (s_l (3 * k) (by omega))]
  have h : w / 2 ^ (3 * k) < 2 ^ 32 := Nat.lt_of_le_of_lt (Nat.div_le_self _ _) (by omega)
  rw [pk_andN h 3 (by decide), Nat.pow_mul]
  rfl
theorem dr_succ {n : Nat} {nx : Nat → Nat → Nat} (h : okN n nx) (hn : 1 ≤ n ∧ n ≤ 12) (a : Int32) (len k f b : Nat) (hm : Bool) (dr st : Nat) : drF nx n a len k (f + 1) b hm dr st = if (mtF (mpS nx (bsg a (len * b)) len) n && hm && decide (dr = k)) = true then some st else drF nx n a len k f (b + 1) (hm || mtF (mpS nx (bsg a (len * b)) len) n) (if (mtF (mpS nx (bsg a (len * b)) len) n && hm) = true then dr + 1 else dr) (mpS nx (bsg a (len * b)) len st) := by
  show (if _ then _ else _) = _
  rw [bm_mt h hn, tb_mp]

set_option maxHeartbeats 4000000 in
set_option maxRecDepth 100000 in
theorem L5_cnt_in {p : Program} {l : Launch} {e : Env} {s : State} {m : MethodId} {args : Array Value} {below : List Frame} {meth : Method} {c : Code} {Q : State → Prop} (S : CallFix p m c cX5_counted 6 s args wsX5_counted RX5) {D : va_G} {cy : Nat → ClassId} {Ad : Nat → Nat} {n mm : Nat} {pk : Int64} {tr : Int32} {C0 : pw_C} (hK : pw_K D cy s) (hI : pw_I Ad shM) (hF0 : fM n mm pk tr Ad C0) (hn : 1 ≤ n ∧ n ≤ 12) {nx : Nat → Nat → Nat} (hN0 : rN n nx C0) (len : Nat) (hle : len ≤ 5) (b : Int32) (w : Nat) (hw : w < 32768) (hk : ∀ (C : pw_C) (H : Heap) (locs : List Loc) (ls : Array Slot), pw_P D cy Ad shM C H → va_S (pw_fr Ad shM) s.heap H locs → (pw_B (fun k => k = 6) C0 C ∧ ∀ y, y < n → C.1 6 y = nI (mpS nx (dg8 w) len y)) → lv_has ls 6 [(1, .int (nI len)), (2, .int b), (3, .int (sI (ctF nx n len b) w)), (4, .int (nI w)), (0, .ref (Ad 0))] → W p l e (k2_rm 2 46) s m args below meth c H locs 0 0 Q (F0 m 75 ls [])) : ∀ (f : Nat) (C : pw_C) (H : Heap) (locs : List Loc) (i : Nat) (ls : Array Slot), len - i < f → (pw_P D cy Ad shM C H) → (va_S (pw_fr Ad shM) s.heap H locs) → (pw_B (fun k => k = 6) C0 C) → (i ≤ len) → (∀ y, y < n → C.1 6 y = nI (mpS nx (dg8 w) i y)) → lv_has ls 6 [(5, .int (nI i)), (1, .int (nI len)), (2, .int b), (3, .int (sI (ctF nx n len b) w)), (4, .int (nI w)), (0, .ref (Ad 0))] → W p l e (k2_rm 2 46) s m args below meth c H locs 0 0 Q (F0 m 49 ls []) := by
  have hx := S.1
  have hb := S.2.1
  have hml := S.2.2.1
  have hown := S.2.2.2.1
  have hts := S.2.2.2.2
  intro f
  induction f with
  | zero => intro C H locs i ls hf; exact absurd hf (Nat.not_lt_zero _)
  | succ f ih =>
    intro C H locs i ls hf hP hS hB hi hv hl
    have hF := fM_B hF0 hB
    have hN := rN_B hN0 hB (by omega)
    refine lv_iload hx hb dX5_counted_49 (lv_at hl 0 rfl) ?_
    refine lv_iload_n hx hb dX5_counted_51 rfl (lv_at hl 1 rfl) ?_
    refine pn_icmp_ge (tgt := 75) hx hb (by omega) (by omega) dX5_counted_52 (by decide) (fun c_52 => ?_) (fun c_52 => ?_)
    · obtain rfl : i = len := by omega
      exact hk C H locs ls hP hS ⟨hB, hv⟩ (lv_sub hl [1, 2, 3, 4, 5] rfl)
    · refine lv_aload_n hx hb dX5_counted_55 rfl (lv_at hl 5 rfl) ?_
      refine lv_iload hx hb dX5_counted_56 (lv_at hl 4 rfl) ?_
      refine lv_iconst (v := nI 3) hx hb dX5_counted_58 (by decide) ?_
      refine lv_iload hx hb dX5_counted_59 (lv_at hl 0 rfl) ?_
      refine lv_imul hx hb dX5_counted_61 ?_
      refine pw_topi (pk_mul _ _) ?_
      refine lv_ishr hx hb dX5_counted_62 ?_
      refine lv_bipush (v := nI 7) hx hb dX5_counted_63 (by decide) ?_
      refine lv_iand hx hb dX5_counted_65 ?_
      refine pw_topi (y := nI (dg8 w i)) (ps_dg (by omega) (by omega)) ?_
      refine pw_cvW S hK hP 0 5 rfl rfl 1 (c_X5_behind l D cy Ad n mm pk tr C hI hn hF nx hN (dg8 w i) (dg8_lt _ _) (mpS nx (dg8 w) i) (mpS_lt (rN_ok hN) (dg8_lt w) i) hv) gX5_counted_X5_behind rfl rfl rfl (by decide +kernel) ⟨Nat.le_of_ble_eq_true rfl, Nat.le_of_ble_eq_true rfl⟩ rfl hl.1 rfl (Nat.le_of_ble_eq_true rfl) dX5_counted_66 ⟨Nat.le_refl _, Nat.le_refl _⟩ hS (fun _ h9 => h9) (fun r9 C66 H locs hR hP _ _ hS => ?_)
      obtain ⟨rfl, hR⟩ := hR
      change W p l e _ s m _ below meth c H locs 0 0 _ (F0 m 69 ls [])
      have hB := hB.tr hR.1
      have hF := fM_B hF0 hB
      have hN := rN_B hN0 hB (by omega)
      refine lv_iinc (v := nI (i + 1)) (lv' := [(5, .int (nI (i + 1))), (1, .int (nI len)), (2, .int b), (3, .int (sI (ctF nx n len b) w)), (4, .int (nI w)), (0, .ref (Ad 0))]) hx hb dX5_counted_69 hl (k := 0) rfl (nI_add _ 1) (by decide) rfl (fun ls hl => ?_)
      refine lv_goto (tgt := 49) hx hb dX5_counted_72 (by decide) ?_
      exact ih C66 H locs (i + 1) ls (by omega) hP hS hB (by omega) hR.2 (lv_sub hl [0, 1, 2, 3, 4, 5] rfl)

set_option maxHeartbeats 4000000 in
set_option maxRecDepth 100000 in
theorem L5_cnt {p : Program} {l : Launch} {e : Env} {s : State} {m : MethodId} {args : Array Value} {below : List Frame} {meth : Method} {c : Code} {Q : State → Prop} (S : CallFix p m c cX5_counted 6 s args wsX5_counted RX5) {D : va_G} {cy : Nat → ClassId} {Ad : Nat → Nat} {n mm : Nat} {pk : Int64} {tr : Int32} {C0 : pw_C} (hK : pw_K D cy s) (hI : pw_I Ad shM) (hF0 : fM n mm pk tr Ad C0) (hn : 1 ≤ n ∧ n ≤ 12) {nx : Nat → Nat → Nat} (hN0 : rN n nx C0) (len : Nat) (hle : len ≤ 5) (b : Int32) (hq : ∀ (pc9 : Nat) (C : pw_C) (H : Heap) (locs : List Loc) (ls : Array Slot), decode cX5_counted pc9 = .ok (.ireturn, 1) → pw_P D cy Ad shM C H → va_S (pw_fr Ad shM) s.heap H locs → (pw_B (fun k => k = 6) C0 C) → W p l e (k2_rm 2 46) s m args below meth c H locs 0 0 Q (F0 m pc9 ls [.int (sI (ctF nx n len b) (8 ^ len))])) : ∀ (f : Nat) (C : pw_C) (H : Heap) (locs : List Loc) (w : Nat) (ls : Array Slot), 8 ^ len - w < f → (pw_P D cy Ad shM C H) → (va_S (pw_fr Ad shM) s.heap H locs) → (pw_B (fun k => k = 6) C0 C) → (w ≤ 8 ^ len) → lv_has ls 6 [(1, .int (nI len)), (2, .int b), (3, .int (sI (ctF nx n len b) w)), (4, .int (nI w)), (0, .ref (Ad 0))] → W p l e (k2_rm 2 46) s m args below meth c H locs 0 0 Q (F0 m 32 ls []) := by
  have hx := S.1
  have hb := S.2.1
  have hml := S.2.2.1
  have hown := S.2.2.2.1
  have hts := S.2.2.2.2
  intro f
  induction f with
  | zero => intro C H locs w ls hf; exact absurd hf (Nat.not_lt_zero _)
  | succ f ih =>
    intro C H locs w ls hf hP hS hB hw hl
    have hF := fM_B hF0 hB
    have hN := rN_B hN0 hB (by omega)
    have h85 := pow85 hle
    refine lv_iload hx hb dX5_counted_32 (lv_at hl 3 rfl) ?_
    refine lv_iconst (v := nI 1) hx hb dX5_counted_34 (by decide) ?_
    refine lv_iconst (v := nI 3) hx hb dX5_counted_35 (by decide) ?_
    refine lv_iload_n hx hb dX5_counted_36 rfl (lv_at hl 0 rfl) ?_
    refine lv_imul hx hb dX5_counted_37 ?_
    refine pw_topi (pk_mul _ _) ?_
    refine lv_ishl hx hb dX5_counted_38 ?_
    refine pw_topi (y := nI (8 ^ len)) (ps_8p hle) ?_
    refine pn_icmp_ge (tgt := 110) hx hb (by omega) (by omega) dX5_counted_39 (by decide) (fun c_39 => ?_) (fun c_39 => ?_)
    · obtain rfl : w = 8 ^ len := by omega
      refine lv_iload_n hx hb dX5_counted_110 rfl (lv_at hl 2 rfl) ?_
      exact hq _ C H locs ls dX5_counted_111 hP hS hB
    · refine lv_aload_n hx hb dX5_counted_42 rfl (lv_at hl 4 rfl) ?_
      refine pw_cvW S hK hP 0 5 rfl rfl 0 (c_X5_begin l D cy Ad n mm pk tr C hI hn hF ) gX5_counted_X5_begin rfl rfl rfl (by decide +kernel) ⟨Nat.le_of_ble_eq_true rfl, Nat.le_of_ble_eq_true rfl⟩ rfl hl.1 rfl (Nat.le_of_ble_eq_true rfl) dX5_counted_43 ⟨Nat.le_refl _, Nat.le_refl _⟩ hS (fun _ h9 => h9) (fun r9 C43 H locs hR hP _ _ hS => ?_)
      obtain ⟨rfl, hR⟩ := hR
      change W p l e _ s m _ below meth c H locs 0 0 _ (F0 m 46 ls [])
      have hB := hB.tr hR.1
      have hF := fM_B hF0 hB
      have hN := rN_B hN0 hB (by omega)
      refine lv_iconst (v := nI 0) hx hb dX5_counted_46 (by decide) ?_
      refine lv_istore (lv' := [(5, .int (nI 0)), (1, .int (nI len)), (2, .int b), (3, .int (sI (ctF nx n len b) w)), (4, .int (nI w)), (0, .ref (Ad 0))]) hx hb dX5_counted_47 hl (by decide) rfl (fun ls hl => ?_)
      refine L5_cnt_in S hK hI hF0 hn hN0 len hle b w (by omega) (fun C2 H locs ls hP hS hR hl => ?_) (len + 1) C43 H locs 0 ls (by omega) hP hS hB (by omega) hR.2 (lv_sub hl [0, 1, 2, 3, 4, 5] rfl)
      have hB := hR.1
      have hF := fM_B hF0 hB
      have hN := rN_B hN0 hB (by omega)
      refine lv_iload_n hx hb dX5_counted_75 rfl (lv_at hl 2 rfl) ?_
      refine lv_aload_n hx hb dX5_counted_76 rfl (lv_at hl 4 rfl) ?_
      refine pw_cv S hK hP 0 5 rfl rfl 0 (c_X5_meets l D cy Ad n mm pk tr C2 hn hF (mpS nx (dg8 w) len) (fun y hy => ⟨mpS_lt (rN_ok hN) (dg8_lt w) len y hy, hR.2 y hy⟩)) gX5_counted_X5_meets rfl rfl rfl (by decide +kernel) ⟨Nat.le_of_ble_eq_true rfl, Nat.le_of_ble_eq_true rfl⟩ rfl hl.1 rfl (Nat.le_of_ble_eq_true rfl) dX5_counted_77 ⟨Nat.le_refl _, Nat.le_refl _⟩ ?_
      refine pn_ifeq_b (tgt := 92) hx hb dX5_counted_80 (by decide) (fun c_80 => ?_) (fun c_80 => ?_)
      · refine lv_iconst (v := (-1)) hx hb dX5_counted_92 (by decide) ?_
        refine lv_iload_n hx hb dX5_counted_93 rfl (lv_at hl 1 rfl) ?_
        refine lv_icmp_ne (tgt := 101) hx hb dX5_counted_94 (by decide) (fun c_94 => ?_) (fun c_94 => ?_)
        · refine lv_iconst (v := nI 0) hx hb dX5_counted_101 (by decide) ?_
          refine lv_iadd hx hb dX5_counted_102 ?_
          refine pw_topi (y := sI (ctF nx n len b) (w + 1)) (by show _ = sI (ctF nx n len b) w + ctF nx n len b w; (first | rw [ctF_t c_80] | rw [ctF_f c_80]); (first | (rw [if_pos c_94]; rfl) | (rw [if_neg c_94]; rfl))) ?_
          refine lv_istore_n (lv' := [(3, .int (sI (ctF nx n len b) (w + 1))), (1, .int (nI len)), (2, .int b), (4, .int (nI w)), (0, .ref (Ad 0))]) hx hb dX5_counted_103 rfl hl (by decide) rfl (fun ls hl => ?_)
          refine lv_iinc (v := nI (w + 1)) (lv' := [(4, .int (nI (w + 1))), (3, .int (sI (ctF nx n len b) (w + 1))), (1, .int (nI len)), (2, .int b), (0, .ref (Ad 0))]) hx hb dX5_counted_104 hl (k := 3) rfl (nI_add _ 1) (by decide) rfl (fun ls hl => ?_)
          refine lv_goto (tgt := 32) hx hb dX5_counted_107 (by decide) ?_
          exact ih C2 H locs (w + 1) ls (by omega) hP hS hB (by omega) (lv_sub hl [2, 3, 1, 0, 4] rfl)
        · refine lv_iconst (v := nI 1) hx hb dX5_counted_97 (by decide) ?_
          refine lv_goto (tgt := 102) hx hb dX5_counted_98 (by decide) ?_
          refine lv_iadd hx hb dX5_counted_102 ?_
          refine pw_topi (y := sI (ctF nx n len b) (w + 1)) (by show _ = sI (ctF nx n len b) w + ctF nx n len b w; (first | rw [ctF_t c_80] | rw [ctF_f c_80]); (first | (rw [if_pos c_94]; rfl) | (rw [if_neg c_94]; rfl))) ?_
          refine lv_istore_n (lv' := [(3, .int (sI (ctF nx n len b) (w + 1))), (1, .int (nI len)), (2, .int b), (4, .int (nI w)), (0, .ref (Ad 0))]) hx hb dX5_counted_103 rfl hl (by decide) rfl (fun ls hl => ?_)
          refine lv_iinc (v := nI (w + 1)) (lv' := [(4, .int (nI (w + 1))), (3, .int (sI (ctF nx n len b) (w + 1))), (1, .int (nI len)), (2, .int b), (0, .ref (Ad 0))]) hx hb dX5_counted_104 hl (k := 3) rfl (nI_add _ 1) (by decide) rfl (fun ls hl => ?_)
          refine lv_goto (tgt := 32) hx hb dX5_counted_107 (by decide) ?_
          exact ih C2 H locs (w + 1) ls (by omega) hP hS hB (by omega) (lv_sub hl [2, 3, 1, 0, 4] rfl)
      · refine lv_aload_n hx hb dX5_counted_83 rfl (lv_at hl 4 rfl) ?_
        refine pw_get hx hb hts (fun _ h9 => List.mem_cons_of_mem _ (List.mem_append_right _ h9)) hown hK hP 0 rfl rfl 9 (by decide) hF rfl (hts (.fieldLink RX5 30 "PastDrawsModel" "whole" "[I") (List.mem_of_getElem? (i := 2) rfl)) dX5_counted_84 ?_
        refine lv_iconst (v := nI 0) hx hb dX5_counted_87 (by decide) ?_
        refine pw_iald hx hb hK hP 6 rfl (by omega) (by decide) (v := nI (mpS nx (dg8 w) len 0)) (hR.2 0 (by omega)) dX5_counted_88 ?_
        refine lv_goto (tgt := 93) hx hb dX5_counted_89 (by decide) ?_
        refine lv_iload_n hx hb dX5_counted_93 rfl (lv_at hl 1 rfl) ?_
        refine lv_icmp_ne (tgt := 101) hx hb dX5_counted_94 (by decide) (fun c_94 => ?_) (fun c_94 => ?_)
        · refine lv_iconst (v := nI 0) hx hb dX5_counted_101 (by decide) ?_
          refine lv_iadd hx hb dX5_counted_102 ?_
          refine pw_topi (y := sI (ctF nx n len b) (w + 1)) (by show _ = sI (ctF nx n len b) w + ctF nx n len b w; (first | rw [ctF_t c_80] | rw [ctF_f c_80]); (first | (rw [if_pos c_94]; rfl) | (rw [if_neg c_94]; rfl))) ?_
          refine lv_istore_n (lv' := [(3, .int (sI (ctF nx n len b) (w + 1))), (1, .int (nI len)), (2, .int b), (4, .int (nI w)), (0, .ref (Ad 0))]) hx hb dX5_counted_103 rfl hl (by decide) rfl (fun ls hl => ?_)
          refine lv_iinc (v := nI (w + 1)) (lv' := [(4, .int (nI (w + 1))), (3, .int (sI (ctF nx n len b) (w + 1))), (1, .int (nI len)), (2, .int b), (0, .ref (Ad 0))]) hx hb dX5_counted_104 hl (k := 3) rfl (nI_add _ 1) (by decide) rfl (fun ls hl => ?_)
          refine lv_goto (tgt := 32) hx hb dX5_counted_107 (by decide) ?_
          exact ih C2 H locs (w + 1) ls (by omega) hP hS hB (by omega) (lv_sub hl [2, 3, 1, 0, 4] rfl)
        · refine lv_iconst (v := nI 1) hx hb dX5_counted_97 (by decide) ?_
          refine lv_goto (tgt := 102) hx hb dX5_counted_98 (by decide) ?_
          refine lv_iadd hx hb dX5_counted_102 ?_
          refine pw_topi (y := sI (ctF nx n len b) (w + 1)) (by show _ = sI (ctF nx n len b) w + ctF nx n len b w; (first | rw [ctF_t c_80] | rw [ctF_f c_80]); (first | (rw [if_pos c_94]; rfl) | (rw [if_neg c_94]; rfl))) ?_
          refine lv_istore_n (lv' := [(3, .int (sI (ctF nx n len b) (w + 1))), (1, .int (nI len)), (2, .int b), (4, .int (nI w)), (0, .ref (Ad 0))]) hx hb dX5_counted_103 rfl hl (by decide) rfl (fun ls hl => ?_)
          refine lv_iinc (v := nI (w + 1)) (lv' := [(4, .int (nI (w + 1))), (3, .int (sI (ctF nx n len b) (w + 1))), (1, .int (nI len)), (2, .int b), (0, .ref (Ad 0))]) hx hb dX5_counted_104 hl (k := 3) rfl (nI_add _ 1) (by decide) rfl (fun ls hl => ?_)
          refine lv_goto (tgt := 32) hx hb dX5_counted_107 (by decide) ?_
          exact ih C2 H locs (w + 1) ls (by omega) hP hS hB (by omega) (lv_sub hl [2, 3, 1, 0, 4] rfl)

theorem wi_sp {x : Int32} {k : Nat} (hk : 1 ≤ k ∧ k ≤ 12) : wi x (-1) (nI (k - 1)) = (decide (x = (-1)) || wi x (nI 0) (nI (k - 1))) := by
  have e1 : (-1 : Int32).toInt = -1 := by decide
  have e2 : (nI 0).toInt = 0 := by decide
  have e3 := nI_toInt (show k - 1 < 2 ^ 31 by omega)
  have e4 : x = (-1) ↔ x.toInt = -1 := by rw [← Int32.toInt_inj, e1]
  unfold wi
  rw [← Bool.decide_or]
  apply decide_eq_decide.mpr
  rw [Int32.le_iff_toInt_le, Int32.le_iff_toInt_le, Int32.le_iff_toInt_le, e1, e2, e3, e4]
  omega

set_option maxHeartbeats 4000000 in
set_option maxRecDepth 100000 in
theorem c_X5_counted (l : Launch) (D : va_G) (cy : Nat → ClassId) (Ad : Nat → Nat) (n mm : Nat) (C : pw_C) (hI : pw_I Ad shM) (hn : 1 ≤ n ∧ n ≤ 12) (hmm : 1 ≤ mm ∧ mm ≤ 16) (nx : Nat → Nat → Nat) (mx : Nat → Nat → Option Nat) (en : Nat → Bool) (am wt : Nat → Nat) (hX : MI n mm nx mx en am wt Ad C) (a b : Int32) : Met l yX5_counted wsX5_counted (k2_rm 2 46) (pw_Pre ([.ref (Ad 0), .int a, .int b]) D cy Ad shM C) (pw_Post (fun r9 C' => r9 = some (.int (f_counted n nx a b)) ∧ (MI n mm nx mx en am wt Ad C')) D cy Ad shM) 0 0 (pw_fr Ad shM) := by
  refine Met.ofW (cc := cX5_counted) (maxL := 6) (ret := (some .int)) (by decide) rfl ?_
  intro p e s m args below meth c s₁ B hml hv
  obtain ⟨rfl, hP, hK⟩ := hv
  have hx := B.exec
  have hb := B.bytes
  have hr := B.returns
  have hts := atoms_spec (ws := wsX5_counted) B.pre
  have hown : s.vm.findClass RX5 = some m.cls := findClass_of_methodNamed B.named
  have hlocks := B.notSynchronized
  have S : CallFix p m c cX5_counted 6 s ([.ref (Ad 0), .int a, .int b]).toArray wsX5_counted RX5 := ⟨hx, hb, hml, hown, hts⟩
  change W p l e (k2_rm 2 46) s m _ below meth c s.heap [] 0 0 _ _
  have hl := lv_entry ([.ref (Ad 0), .int a, .int b]) (n := 6) (Nat.le_of_ble_eq_true rfl)
  rw [lg_entry_eq]
  generalize (lg_sl ([.ref (Ad 0), .int a, .int b]) ++ List.replicate (6 - (lg_sl ([.ref (Ad 0), .int a, .int b])).length) Slot.unset).toArray = ls at hl ⊢
  have hl : lv_has ls 6 [(0, .ref (Ad 0)), (1, .int a), (2, .int b)] := hl
  have hS : va_S (pw_fr Ad shM) s.heap s.heap [] := va_S.rf
  obtain ⟨⟨pk, tr, hF⟩, hN, hM, hE, hA, hT⟩ := id hX
  refine lv_iload_n hx hb dX5_counted_0 rfl (lv_at hl 1 rfl) ?_
  refine lv_i2l hx hb dX5_counted_1 rfl ?_
  refine lv_lconst (v := 1) hx hb dX5_counted_2 (by decide) ?_
  refine lv_ldc2 hx hb hown (hts (.constantLong RX5 126 (5)) (List.mem_of_getElem? (i := 1) rfl)) dX5_counted_3 ?_
  refine pw_cs S 3 (c_X5_in l a.toInt64 1 (5)) gX5_counted_X5_in rfl rfl rfl (by decide +kernel) ⟨Nat.le_of_ble_eq_true rfl, Nat.le_of_ble_eq_true rfl⟩ rfl hl.1 rfl (Nat.le_of_ble_eq_true rfl) dX5_counted_6 ⟨Nat.le_refl _, Nat.le_refl _⟩ ?_
  refine pw_topi (y := pb (wi a (nI 1) (nI 5))) (congrArg pb (wl_wi _ (nI 1) (nI 5) (by first | rfl | decide) (by first | rfl | decide))) ?_
  refine pn_ifeq_b (tgt := 25) hx hb dX5_counted_9 (by decide) (fun c_9 => ?_) (fun c_9 => ?_)
  · refine lv_iconst (v := (-1)) hx hb dX5_counted_25 (by decide) ?_
    refine pw_topi (y := f_counted n nx a b) (by unfold f_counted; first | (rw [c_9]; rfl) | (rw [c_9, wi_sp hn, decide_eq_false c_14, c_22]; rfl)) ?_
    exact W.iret hx hb hr (fun t ht _ => ⟨⟨_, C, rfl, ⟨rfl, hX⟩, by rw [ht]; exact hP⟩, hS.F ht⟩) hS.2.2 dX5_counted_26
  · refine lv_iload_n hx hb dX5_counted_12 rfl (lv_at hl 2 rfl) ?_
    refine lv_iconst (v := (-1)) hx hb dX5_counted_13 (by decide) ?_
    refine lv_icmp_eq (tgt := 27) hx hb dX5_counted_14 (by decide) (fun c_14 => ?_) (fun c_14 => ?_)
    · obtain ⟨len, hl_len, hh_len, rfl⟩ := wi_ex (by omega) c_9
      have ix_len : ix (nI len) = len := nI_clamp (by omega)
      subst c_14
      have ef : f_counted n nx (nI len) (-1) = sI (ctF nx n len (-1)) (8 ^ len) := by
        rw [ct_m (rN_ok hN) hn]; unfold f_counted; rw [if_pos (by rw [c_9, wi_sp hn]; rfl), if_pos rfl, ix_len]
      rw [ef]
      refine lv_iconst (v := nI 0) hx hb dX5_counted_27 (by decide) ?_
      refine lv_istore_n (lv' := [(3, .int (nI 0)), (0, .ref (Ad 0)), (1, .int (nI len)), (2, .int (-1))]) hx hb dX5_counted_28 rfl hl (by decide) rfl (fun ls hl => ?_)
      refine lv_iconst (v := nI 0) hx hb dX5_counted_29 (by decide) ?_
      refine lv_istore (lv' := [(4, .int (nI 0)), (3, .int (nI 0)), (0, .ref (Ad 0)), (1, .int (nI len)), (2, .int (-1))]) hx hb dX5_counted_30 hl (by decide) rfl (fun ls hl => ?_)
      exact L5_cnt S hK hI hF hn hN len (by omega) (-1) (fun pc9 C9 H9 locs9 ls9 hd9 hP9 hS9 hR9 => W.iret hx hb hr (fun t ht _ => ⟨⟨_, C9, rfl, ⟨rfl, MI_B hX hR9 (fun k h => by have h8 : k = 6 := h; omega)⟩, by rw [ht]; exact hP9⟩, hS9.F ht⟩) hS9.2.2 hd9) (8 ^ len + 1) C s.heap [] 0 ls (Nat.lt_succ_of_le (Nat.sub_le _ _)) hP hS pw_B.rf (Nat.zero_le _) (lv_sub hl [3, 4, 1, 0, 2] rfl)
    · refine lv_aload_n hx hb dX5_counted_17 rfl (lv_at hl 0 rfl) ?_
      refine lv_iload_n hx hb dX5_counted_18 rfl (lv_at hl 2 rfl) ?_
      refine pw_cv S hK hP 0 5 rfl rfl 1 (c_X5_isState l D cy Ad n mm pk tr C hn hF b) gX5_counted_X5_isState rfl rfl rfl (by decide +kernel) ⟨Nat.le_of_ble_eq_true rfl, Nat.le_of_ble_eq_true rfl⟩ rfl hl.1 rfl (Nat.le_of_ble_eq_true rfl) dX5_counted_19 ⟨Nat.le_refl _, Nat.le_refl _⟩ ?_
      refine pn_ifne_b (tgt := 27) hx hb dX5_counted_22 (by decide) (fun c_22 => ?_) (fun c_22 => ?_)
      · obtain ⟨len, hl_len, hh_len, rfl⟩ := wi_ex (by omega) c_9
        obtain ⟨x, hl_x, hh_x, rfl⟩ := wi_ex (by omega) c_22
        have ix_len : ix (nI len) = len := nI_clamp (by omega)
        have ix_x : ix (nI x) = x := nI_clamp (by omega)
        have ef : f_counted n nx (nI len) (nI x) = sI (ctF nx n len (nI x)) (8 ^ len) := by
          rw [ct_x (rN_ok hN) hn _ (by omega)]; unfold f_counted; rw [if_pos (by rw [c_9, wi_sp hn, c_22, Bool.or_true]; rfl), if_neg c_14, ix_len, ix_x]
        rw [ef]
        refine lv_iconst (v := nI 0) hx hb dX5_counted_27 (by decide) ?_
        refine lv_istore_n (lv' := [(3, .int (nI 0)), (0, .ref (Ad 0)), (1, .int (nI len)), (2, .int (nI x))]) hx hb dX5_counted_28 rfl hl (by decide) rfl (fun ls hl => ?_)
        refine lv_iconst (v := nI 0) hx hb dX5_counted_29 (by decide) ?_
        refine lv_istore (lv' := [(4, .int (nI 0)), (3, .int (nI 0)), (0, .ref (Ad 0)), (1, .int (nI len)), (2, .int (nI x))]) hx hb dX5_counted_30 hl (by decide) rfl (fun ls hl => ?_)
        exact L5_cnt S hK hI hF hn hN len (by omega) (nI x) (fun pc9 C9 H9 locs9 ls9 hd9 hP9 hS9 hR9 => W.iret hx hb hr (fun t ht _ => ⟨⟨_, C9, rfl, ⟨rfl, MI_B hX hR9 (fun k h => by have h8 : k = 6 := h; omega)⟩, by rw [ht]; exact hP9⟩, hS9.F ht⟩) hS9.2.2 hd9) (8 ^ len + 1) C s.heap [] 0 ls (Nat.lt_succ_of_le (Nat.sub_le _ _)) hP hS pw_B.rf (Nat.zero_le _) (lv_sub hl [3, 4, 1, 0, 2] rfl)
      · refine lv_iconst (v := (-1)) hx hb dX5_counted_25 (by decide) ?_
        refine pw_topi (y := f_counted n nx a b) (by unfold f_counted; first | (rw [c_9]; rfl) | (rw [c_9, wi_sp hn, decide_eq_false c_14, c_22]; rfl)) ?_
        exact W.iret hx hb hr (fun t ht _ => ⟨⟨_, C, rfl, ⟨rfl, hX⟩, by rw [ht]; exact hP⟩, hS.F ht⟩) hS.2.2 dX5_counted_26

set_option maxHeartbeats 4000000 in
set_option maxRecDepth 100000 in
theorem L5_once_in {p : Program} {l : Launch} {e : Env} {s : State} {m : MethodId} {args : Array Value} {below : List Frame} {meth : Method} {c : Code} {Q : State → Prop} (S : CallFix p m c cX5_once 8 s args wsX5_once RX5) {D : va_G} {cy : Nat → ClassId} {Ad : Nat → Nat} {n mm : Nat} {pk : Int64} {tr : Int32} {C0 : pw_C} (hK : pw_K D cy s) (hI : pw_I Ad shM) (hF0 : fM n mm pk tr Ad C0) (hn : 1 ≤ n ∧ n ≤ 12) {nx : Nat → Nat → Nat} (hN0 : rN n nx C0) (a : Int32) (len : Nat) (hle : 1 ≤ len ∧ len ≤ 64) (k9 : Nat) (hk9 : k9 ≤ 99) (o4 : Int32) (dr b : Nat) (hk : ∀ (C : pw_C) (H : Heap) (locs : List Loc) (ls : Array Slot), pw_P D cy Ad shM C H → va_S (pw_fr Ad shM) s.heap H locs → (pw_B (fun k => k = 6) C0 C ∧ ∀ y, y < n → C.1 6 y = nI (mpS nx (bsg a (len * b)) len y)) → lv_has ls 8 [(1, .int a), (2, .int (nI len)), (3, .int (nI k9)), (4, .int o4), (5, .int (nI dr)), (6, .int (nI b)), (0, .ref (Ad 0))] → W p l e (k2_rm 2 45) s m args below meth c H locs 0 0 Q (F0 m 79 ls [])) : ∀ (f : Nat) (C : pw_C) (H : Heap) (locs : List Loc) (i : Nat) (ls : Array Slot), len - i < f → (pw_P D cy Ad shM C H) → (va_S (pw_fr Ad shM) s.heap H locs) → (pw_B (fun k => k = 6) C0 C) → (i ≤ len) → (∀ y, y < n → C.1 6 y = nI (mpS nx (bsg a (len * b)) i y)) → lv_has ls 8 [(7, .int (nI (i + 1))), (1, .int a), (2, .int (nI len)), (3, .int (nI k9)), (4, .int o4), (5, .int (nI dr)), (6, .int (nI b)), (0, .ref (Ad 0))] → W p l e (k2_rm 2 45) s m args below meth c H locs 0 0 Q (F0 m 51 ls []) := by
  have hx := S.1
  have hb := S.2.1
  have hml := S.2.2.1
  have hown := S.2.2.2.1
  have hts := S.2.2.2.2
  intro f
  induction f with
  | zero => intro C H locs i ls hf; exact absurd hf (Nat.not_lt_zero _)
  | succ f ih =>
    intro C H locs i ls hf hP hS hB hi hv hl
    have hF := fM_B hF0 hB
    have hN := rN_B hN0 hB (by omega)
    refine lv_iload hx hb dX5_once_51 (lv_at hl 0 rfl) ?_
    refine lv_iload_n hx hb dX5_once_53 rfl (lv_at hl 2 rfl) ?_
    refine pn_icmp_gt (tgt := 79) hx hb (by omega) (by omega) dX5_once_54 (by decide) (fun c_54 => ?_) (fun c_54 => ?_)
    · obtain rfl : i = len := by omega
      exact hk C H locs ls hP hS ⟨hB, hv⟩ (lv_sub hl [1, 2, 3, 4, 5, 6, 7] rfl)
    · refine lv_aload_n hx hb dX5_once_57 rfl (lv_at hl 7 rfl) ?_
      refine lv_aload_n hx hb dX5_once_58 rfl (lv_at hl 7 rfl) ?_
      refine lv_iload_n hx hb dX5_once_59 rfl (lv_at hl 1 rfl) ?_
      refine lv_iload_n hx hb dX5_once_60 rfl (lv_at hl 2 rfl) ?_
      refine lv_iload hx hb dX5_once_61 (lv_at hl 6 rfl) ?_
      refine lv_imul hx hb dX5_once_63 ?_
      refine pw_topi (pk_mul _ _) ?_
      refine lv_iload hx hb dX5_once_64 (lv_at hl 0 rfl) ?_
      refine lv_iadd hx hb dX5_once_66 ?_
      refine pw_topi (nI_add _ _) ?_
      refine pw_cv S hK hP 0 5 rfl rfl 2 (c_X5_sign l D cy Ad n mm pk tr C hn hF a (nI ((len * b) + (i + 1)))) gX5_once_X5_sign rfl rfl rfl (by decide +kernel) ⟨Nat.le_of_ble_eq_true rfl, Nat.le_of_ble_eq_true rfl⟩ rfl hl.1 rfl (Nat.le_of_ble_eq_true rfl) dX5_once_67 ⟨Nat.le_refl _, Nat.le_refl _⟩ ?_
      refine pw_cvW S hK hP 0 5 rfl rfl 1 (c_X5_behind l D cy Ad n mm pk tr C hI hn hF nx hN (sgn a (nI ((len * b) + (i + 1)))) (sgn_lt _ _) (mpS nx (bsg a (len * b)) i) (mpS_lt (rN_ok hN) (fun _ => sgn_lt _ _) i) hv) gX5_once_X5_behind rfl rfl rfl (by decide +kernel) ⟨Nat.le_of_ble_eq_true rfl, Nat.le_of_ble_eq_true rfl⟩ rfl hl.1 rfl (Nat.le_of_ble_eq_true rfl) dX5_once_70 ⟨Nat.le_refl _, Nat.le_refl _⟩ hS (fun _ h9 => h9) (fun r9 C70 H locs hR hP _ _ hS => ?_)
      obtain ⟨rfl, hR⟩ := hR
      change W p l e _ s m _ below meth c H locs 0 0 _ (F0 m 73 ls [])
      have hB := hB.tr hR.1
      have hF := fM_B hF0 hB
      have hN := rN_B hN0 hB (by omega)
      refine lv_iinc (v := nI ((i + 1) + 1)) (lv' := [(7, .int (nI ((i + 1) + 1))), (1, .int a), (2, .int (nI len)), (3, .int (nI k9)), (4, .int o4), (5, .int (nI dr)), (6, .int (nI b)), (0, .ref (Ad 0))]) hx hb dX5_once_73 hl (k := 0) rfl (nI_add _ 1) (by decide) rfl (fun ls hl => ?_)
      refine lv_goto (tgt := 51) hx hb dX5_once_76 (by decide) ?_
      exact ih C70 H locs (i + 1) ls (by omega) hP hS hB (by omega) hR.2 (lv_sub hl [0, 1, 2, 3, 4, 5, 6, 7] rfl)

set_option maxHeartbeats 4000000 in
set_option maxRecDepth 100000 in
theorem L5_once {p : Program} {l : Launch} {e : Env} {s : State} {m : MethodId} {args : Array Value} {below : List Frame} {meth : Method} {c : Code} {Q : State → Prop} (S : CallFix p m c cX5_once 8 s args wsX5_once RX5) {D : va_G} {cy : Nat → ClassId} {Ad : Nat → Nat} {n mm : Nat} {pk : Int64} {tr : Int32} {C0 : pw_C} (hK : pw_K D cy s) (hI : pw_I Ad shM) (hF0 : fM n mm pk tr Ad C0) (hn : 1 ≤ n ∧ n ≤ 12) {nx : Nat → Nat → Nat} (hN0 : rN n nx C0) (a : Int32) (len : Nat) (hle : 1 ≤ len ∧ len ≤ 64) (k9 : Nat) (hk9 : k9 ≤ 99) (r : Option Nat) (hq : ∀ (pc9 : Nat) (C : pw_C) (H : Heap) (locs : List Loc) (ls : Array Slot), decode cX5_once pc9 = .ok (.ireturn, 1) → pw_P D cy Ad shM C H → va_S (pw_fr Ad shM) s.heap H locs → (pw_B (fun k => k = 6) C0 C) → W p l e (k2_rm 2 45) s m args below meth c H locs 0 0 Q (F0 m pc9 ls [.int (oi r)])) : ∀ (f : Nat) (C : pw_C) (H : Heap) (locs : List Loc) (b : Nat) (hm : Bool) (dr : Nat) (st : Nat) (ls : Array Slot), 500 - b < f → (pw_P D cy Ad shM C H) → (va_S (pw_fr Ad shM) s.heap H locs) → (pw_B (fun k => k = 6) C0 C) → (b ≤ 500) → (dr ≤ b) → (st < n) → (drF nx n a len k9 (500 - b) b hm dr st = r) → lv_has ls 8 [(1, .int a), (2, .int (nI len)), (3, .int (nI k9)), (4, .int (oi (if hm = true then some st else none))), (5, .int (nI dr)), (6, .int (nI b)), (0, .ref (Ad 0))] → W p l e (k2_rm 2 45) s m args below meth c H locs 0 0 Q (F0 m 36 ls []) := by
  have hx := S.1
  have hb := S.2.1
  have hml := S.2.2.1
  have hown := S.2.2.2.1
  have hts := S.2.2.2.2
  intro f
  induction f with
  | zero => intro C H locs b hm dr st ls hf; exact absurd hf (Nat.not_lt_zero _)
  | succ f ih =>
    intro C H locs b hm dr st ls hf hP hS hB hb0 hdr hst hr0 hl
    have hF := fM_B hF0 hB
    have hN := rN_B hN0 hB (by omega)
    cases hm
    · have hl : lv_has ls 8 [(1, .int a), (2, .int (nI len)), (3, .int (nI k9)), (4, .int (-2)), (5, .int (nI dr)), (6, .int (nI b)), (0, .ref (Ad 0))] := hl
      refine lv_iload hx hb dX5_once_36 (lv_at hl 5 rfl) ?_
      refine lv_sipush (v := nI 500) hx hb dX5_once_38 (by decide) ?_
      refine pn_icmp_ge (tgt := 146) hx hb (by omega) (by omega) dX5_once_41 (by decide) (fun c_41 => ?_) (fun c_41 => ?_)
      · have hz : 500 - b = 0 := by omega
        rw [hz] at hr0
        refine lv_bipush (v := (-2)) hx hb dX5_once_146 (by decide) ?_
        refine pw_topi (y := oi r) (by rw [← hr0]; rfl) ?_
        exact hq _ C H locs ls dX5_once_148 hP hS hB
      · obtain ⟨z, hz⟩ : ∃ z, 500 - b = z + 1 := ⟨500 - b - 1, by omega⟩
        refine lv_aload_n hx hb dX5_once_44 rfl (lv_at hl 6 rfl) ?_
        refine pw_cvW S hK hP 0 5 rfl rfl 0 (c_X5_begin l D cy Ad n mm pk tr C hI hn hF ) gX5_once_X5_begin rfl rfl rfl (by decide +kernel) ⟨Nat.le_of_ble_eq_true rfl, Nat.le_of_ble_eq_true rfl⟩ rfl hl.1 rfl (Nat.le_of_ble_eq_true rfl) dX5_once_45 ⟨Nat.le_refl _, Nat.le_refl _⟩ hS (fun _ h9 => h9) (fun r9 C45 H locs hR hP _ _ hS => ?_)
        obtain ⟨rfl, hR⟩ := hR
        change W p l e _ s m _ below meth c H locs 0 0 _ (F0 m 48 ls [])
        have hB := hB.tr hR.1
        have hF := fM_B hF0 hB
        have hN := rN_B hN0 hB (by omega)
        refine lv_iconst (v := nI 1) hx hb dX5_once_48 (by decide) ?_
        refine lv_istore (lv' := [(7, .int (nI 1)), (1, .int a), (2, .int (nI len)), (3, .int (nI k9)), (4, .int (-2)), (5, .int (nI dr)), (6, .int (nI b)), (0, .ref (Ad 0))]) hx hb dX5_once_49 hl (by decide) rfl (fun ls hl => ?_)
        refine L5_once_in S hK hI hF0 hn hN0 a len hle k9 hk9 (-2) dr b (fun C2 H locs ls hP hS hR hl => ?_) (len + 1) C45 H locs 0 ls (by omega) hP hS hB (by omega) hR.2 (lv_sub hl [0, 1, 2, 3, 4, 5, 6, 7] rfl)
        have hB := hR.1
        have hF := fM_B hF0 hB
        have hN := rN_B hN0 hB (by omega)
        refine lv_aload_n hx hb dX5_once_79 rfl (lv_at hl 6 rfl) ?_
        refine pw_cv S hK hP 0 5 rfl rfl 0 (c_X5_meets l D cy Ad n mm pk tr C2 hn hF (mpS nx (bsg a (len * b)) len) (fun y hy => ⟨mpS_lt (rN_ok hN) (fun _ => sgn_lt _ _) len y hy, hR.2 y hy⟩)) gX5_once_X5_meets rfl rfl rfl (by decide +kernel) ⟨Nat.le_of_ble_eq_true rfl, Nat.le_of_ble_eq_true rfl⟩ rfl hl.1 rfl (Nat.le_of_ble_eq_true rfl) dX5_once_80 ⟨Nat.le_refl _, Nat.le_refl _⟩ ?_
        refine lv_istore (lv' := [(7, .int (pb (mtF (mpS nx (bsg a (len * b)) len) n))), (1, .int a), (2, .int (nI len)), (3, .int (nI k9)), (4, .int (-2)), (5, .int (nI dr)), (6, .int (nI b)), (0, .ref (Ad 0))]) hx hb dX5_once_83 hl (by decide) rfl (fun ls hl => ?_)
        refine lv_iload hx hb dX5_once_85 (lv_at hl 0 rfl) ?_
        refine pn_ifeq_b (tgt := 107) hx hb dX5_once_87 (by decide) (fun c_87 => ?_) (fun c_87 => ?_)
        · refine lv_iload hx hb dX5_once_107 (lv_at hl 4 rfl) ?_
          refine lv_if_lt (tgt := 122) hx hb dX5_once_109 (by decide) (fun c_109 => ?_) (fun c_109 => absurd (by decide) c_109)
          refine lv_iload hx hb dX5_once_122 (lv_at hl 0 rfl) ?_
          refine pn_ifeq_b (tgt := 136) hx hb dX5_once_124 (by decide) (fun c_124 => ?_) (fun c_124 => absurd c_124 (by rw [c_87]; decide))
          refine lv_bipush (v := (-2)) hx hb dX5_once_136 (by decide) ?_
          refine lv_istore (lv' := [(4, .int (-2)), (7, .int (pb (mtF (mpS nx (bsg a (len * b)) len) n))), (1, .int a), (2, .int (nI len)), (3, .int (nI k9)), (5, .int (nI dr)), (6, .int (nI b)), (0, .ref (Ad 0))]) hx hb dX5_once_138 hl (by decide) rfl (fun ls hl => ?_)
          refine lv_iinc (v := nI (b + 1)) (lv' := [(6, .int (nI (b + 1))), (4, .int (-2)), (7, .int (pb (mtF (mpS nx (bsg a (len * b)) len) n))), (1, .int a), (2, .int (nI len)), (3, .int (nI k9)), (5, .int (nI dr)), (0, .ref (Ad 0))]) hx hb dX5_once_140 hl (k := 6) rfl (nI_add _ 1) (by decide) rfl (fun ls hl => ?_)
          refine lv_goto (tgt := 36) hx hb dX5_once_143 (by decide) ?_
          have hr1 : drF nx n a len k9 z (b + 1) false dr (mpS nx (bsg a (len * b)) len st) = r := by
            rw [hz, dr_succ (rN_ok hN0) hn, c_87] at hr0
            simp at hr0
            exact hr0
          have hz2 : z = 500 - (b + 1) := by omega
          exact ih C2 H locs (b + 1) false dr (mpS nx (bsg a (len * b)) len st) ls (by omega) hP hS hB (by omega) (by omega) (mpS_lt (rN_ok hN0) (fun _ => sgn_lt _ _) len st hst) (by rw [← hz2]; exact hr1) (lv_sub hl [3, 4, 5, 1, 6, 0, 7] rfl)
        · refine lv_iload hx hb dX5_once_90 (lv_at hl 4 rfl) ?_
          refine lv_if_lt (tgt := 107) hx hb dX5_once_92 (by decide) (fun c_92 => ?_) (fun c_92 => absurd (by decide) c_92)
          refine lv_iload hx hb dX5_once_107 (lv_at hl 4 rfl) ?_
          refine lv_if_lt (tgt := 122) hx hb dX5_once_109 (by decide) (fun c_109 => ?_) (fun c_109 => absurd (by decide) c_109)
          refine lv_iload hx hb dX5_once_122 (lv_at hl 0 rfl) ?_
          refine pn_ifeq_b (tgt := 136) hx hb dX5_once_124 (by decide) (fun c_124 => absurd c_124 (by rw [c_87]; decide)) (fun c_124 => ?_)
          refine lv_aload_n hx hb dX5_once_127 rfl (lv_at hl 7 rfl) ?_
          refine pw_get hx hb hts (fun _ h9 => List.mem_cons_of_mem _ (List.mem_append_right _ h9)) hown hK hP 0 rfl rfl 9 (by decide) hF rfl (hts (.fieldLink RX5 30 "PastDrawsModel" "whole" "[I") (List.mem_of_getElem? (i := 3) rfl)) dX5_once_128 ?_
          refine lv_iconst (v := nI 0) hx hb dX5_once_131 (by decide) ?_
          refine pw_iald hx hb hK hP 6 rfl (by omega) (by decide) (v := nI (mpS nx (bsg a (len * b)) len 0)) (hR.2 0 (by omega)) dX5_once_132 ?_
          refine lv_goto (tgt := 138) hx hb dX5_once_133 (by decide) ?_
          refine lv_istore (lv' := [(4, .int (nI (mpS nx (bsg a (len * b)) len 0))), (7, .int (pb (mtF (mpS nx (bsg a (len * b)) len) n))), (1, .int a), (2, .int (nI len)), (3, .int (nI k9)), (5, .int (nI dr)), (6, .int (nI b)), (0, .ref (Ad 0))]) hx hb dX5_once_138 hl (by decide) rfl (fun ls hl => ?_)
          refine lv_iinc (v := nI (b + 1)) (lv' := [(6, .int (nI (b + 1))), (4, .int (nI (mpS nx (bsg a (len * b)) len 0))), (7, .int (pb (mtF (mpS nx (bsg a (len * b)) len) n))), (1, .int a), (2, .int (nI len)), (3, .int (nI k9)), (5, .int (nI dr)), (0, .ref (Ad 0))]) hx hb dX5_once_140 hl (k := 6) rfl (nI_add _ 1) (by decide) rfl (fun ls hl => ?_)
          refine lv_goto (tgt := 36) hx hb dX5_once_143 (by decide) ?_
          have hr1 : drF nx n a len k9 z (b + 1) true dr (mpS nx (bsg a (len * b)) len st) = r := by
            rw [hz, dr_succ (rN_ok hN0) hn, c_87] at hr0
            simp at hr0
            exact hr0
          have hz2 : z = 500 - (b + 1) := by omega
          have e0 : mpS nx (bsg a (len * b)) len st = mpS nx (bsg a (len * b)) len 0 := mt_iff.mp c_87 st hst
          exact ih C2 H locs (b + 1) true dr (mpS nx (bsg a (len * b)) len st) ls (by omega) hP hS hB (by omega) (by omega) (mpS_lt (rN_ok hN0) (fun _ => sgn_lt _ _) len st hst) (by rw [← hz2]; exact hr1) (by rw [e0]; exact (lv_sub hl [3, 4, 5, 1, 6, 0, 7] rfl))
    · have hl : lv_has ls 8 [(1, .int a), (2, .int (nI len)), (3, .int (nI k9)), (4, .int (nI st)), (5, .int (nI dr)), (6, .int (nI b)), (0, .ref (Ad 0))] := hl
      refine lv_iload hx hb dX5_once_36 (lv_at hl 5 rfl) ?_
      refine lv_sipush (v := nI 500) hx hb dX5_once_38 (by decide) ?_
      refine pn_icmp_ge (tgt := 146) hx hb (by omega) (by omega) dX5_once_41 (by decide) (fun c_41 => ?_) (fun c_41 => ?_)
      · have hz : 500 - b = 0 := by omega
        rw [hz] at hr0
        refine lv_bipush (v := (-2)) hx hb dX5_once_146 (by decide) ?_
        refine pw_topi (y := oi r) (by rw [← hr0]; rfl) ?_
        exact hq _ C H locs ls dX5_once_148 hP hS hB
      · obtain ⟨z, hz⟩ : ∃ z, 500 - b = z + 1 := ⟨500 - b - 1, by omega⟩
        refine lv_aload_n hx hb dX5_once_44 rfl (lv_at hl 6 rfl) ?_
        refine pw_cvW S hK hP 0 5 rfl rfl 0 (c_X5_begin l D cy Ad n mm pk tr C hI hn hF ) gX5_once_X5_begin rfl rfl rfl (by decide +kernel) ⟨Nat.le_of_ble_eq_true rfl, Nat.le_of_ble_eq_true rfl⟩ rfl hl.1 rfl (Nat.le_of_ble_eq_true rfl) dX5_once_45 ⟨Nat.le_refl _, Nat.le_refl _⟩ hS (fun _ h9 => h9) (fun r9 C45 H locs hR hP _ _ hS => ?_)
        obtain ⟨rfl, hR⟩ := hR
        change W p l e _ s m _ below meth c H locs 0 0 _ (F0 m 48 ls [])
        have hB := hB.tr hR.1
        have hF := fM_B hF0 hB
        have hN := rN_B hN0 hB (by omega)
        refine lv_iconst (v := nI 1) hx hb dX5_once_48 (by decide) ?_
        refine lv_istore (lv' := [(7, .int (nI 1)), (1, .int a), (2, .int (nI len)), (3, .int (nI k9)), (4, .int (nI st)), (5, .int (nI dr)), (6, .int (nI b)), (0, .ref (Ad 0))]) hx hb dX5_once_49 hl (by decide) rfl (fun ls hl => ?_)
        refine L5_once_in S hK hI hF0 hn hN0 a len hle k9 hk9 (nI st) dr b (fun C2 H locs ls hP hS hR hl => ?_) (len + 1) C45 H locs 0 ls (by omega) hP hS hB (by omega) hR.2 (lv_sub hl [0, 1, 2, 3, 4, 5, 6, 7] rfl)
        have hB := hR.1
        have hF := fM_B hF0 hB
        have hN := rN_B hN0 hB (by omega)
        refine lv_aload_n hx hb dX5_once_79 rfl (lv_at hl 6 rfl) ?_
        refine pw_cv S hK hP 0 5 rfl rfl 0 (c_X5_meets l D cy Ad n mm pk tr C2 hn hF (mpS nx (bsg a (len * b)) len) (fun y hy => ⟨mpS_lt (rN_ok hN) (fun _ => sgn_lt _ _) len y hy, hR.2 y hy⟩)) gX5_once_X5_meets rfl rfl rfl (by decide +kernel) ⟨Nat.le_of_ble_eq_true rfl, Nat.le_of_ble_eq_true rfl⟩ rfl hl.1 rfl (Nat.le_of_ble_eq_true rfl) dX5_once_80 ⟨Nat.le_refl _, Nat.le_refl _⟩ ?_
        refine lv_istore (lv' := [(7, .int (pb (mtF (mpS nx (bsg a (len * b)) len) n))), (1, .int a), (2, .int (nI len)), (3, .int (nI k9)), (4, .int (nI st)), (5, .int (nI dr)), (6, .int (nI b)), (0, .ref (Ad 0))]) hx hb dX5_once_83 hl (by decide) rfl (fun ls hl => ?_)
        refine lv_iload hx hb dX5_once_85 (lv_at hl 0 rfl) ?_
        refine pn_ifeq_b (tgt := 107) hx hb dX5_once_87 (by decide) (fun c_87 => ?_) (fun c_87 => ?_)
        · refine lv_iload hx hb dX5_once_107 (lv_at hl 4 rfl) ?_
          refine lv_if_lt (tgt := 122) hx hb dX5_once_109 (by decide) (fun h9 => absurd h9 (nI_pos (by omega))) (fun _ => ?_)
          refine lv_aload_n hx hb dX5_once_112 rfl (lv_at hl 7 rfl) ?_
          refine pw_get hx hb hts (fun _ h9 => List.mem_cons_of_mem _ (List.mem_append_right _ h9)) hown hK hP 0 rfl rfl 9 (by decide) hF rfl (hts (.fieldLink RX5 30 "PastDrawsModel" "whole" "[I") (List.mem_of_getElem? (i := 3) rfl)) dX5_once_113 ?_
          refine lv_iload hx hb dX5_once_116 (lv_at hl 4 rfl) ?_
          refine pw_iald hx hb hK hP 6 rfl (by omega) (by decide) (v := nI (mpS nx (bsg a (len * b)) len st)) (hR.2 st hst) dX5_once_118 ?_
          refine lv_goto (tgt := 138) hx hb dX5_once_119 (by decide) ?_
          refine lv_istore (lv' := [(4, .int (nI (mpS nx (bsg a (len * b)) len st))), (7, .int (pb (mtF (mpS nx (bsg a (len * b)) len) n))), (1, .int a), (2, .int (nI len)), (3, .int (nI k9)), (5, .int (nI dr)), (6, .int (nI b)), (0, .ref (Ad 0))]) hx hb dX5_once_138 hl (by decide) rfl (fun ls hl => ?_)
          refine lv_iinc (v := nI (b + 1)) (lv' := [(6, .int (nI (b + 1))), (4, .int (nI (mpS nx (bsg a (len * b)) len st))), (7, .int (pb (mtF (mpS nx (bsg a (len * b)) len) n))), (1, .int a), (2, .int (nI len)), (3, .int (nI k9)), (5, .int (nI dr)), (0, .ref (Ad 0))]) hx hb dX5_once_140 hl (k := 6) rfl (nI_add _ 1) (by decide) rfl (fun ls hl => ?_)
          refine lv_goto (tgt := 36) hx hb dX5_once_143 (by decide) ?_
          have hr1 : drF nx n a len k9 z (b + 1) true dr (mpS nx (bsg a (len * b)) len st) = r := by
            rw [hz, dr_succ (rN_ok hN0) hn, c_87] at hr0
            simp at hr0
            exact hr0
          have hz2 : z = 500 - (b + 1) := by omega
          exact ih C2 H locs (b + 1) true dr (mpS nx (bsg a (len * b)) len st) ls (by omega) hP hS hB (by omega) (by omega) (mpS_lt (rN_ok hN0) (fun _ => sgn_lt _ _) len st hst) (by rw [← hz2]; exact hr1) (lv_sub hl [3, 4, 5, 1, 6, 0, 7] rfl)
        · refine lv_iload hx hb dX5_once_90 (lv_at hl 4 rfl) ?_
          refine lv_if_lt (tgt := 107) hx hb dX5_once_92 (by decide) (fun h9 => absurd h9 (nI_pos (by omega))) (fun _ => ?_)
          refine lv_iload hx hb dX5_once_95 (lv_at hl 5 rfl) ?_
          refine lv_iload_n hx hb dX5_once_97 rfl (lv_at hl 3 rfl) ?_
          refine pn_icmp_ne (tgt := 104) hx hb (by omega) (by omega) dX5_once_98 (by decide) (fun c_98 => ?_) (fun c_98 => ?_)
          · refine lv_iinc (v := nI (dr + 1)) (lv' := [(5, .int (nI (dr + 1))), (7, .int (pb (mtF (mpS nx (bsg a (len * b)) len) n))), (1, .int a), (2, .int (nI len)), (3, .int (nI k9)), (4, .int (nI st)), (6, .int (nI b)), (0, .ref (Ad 0))]) hx hb dX5_once_104 hl (k := 5) rfl (nI_add _ 1) (by decide) rfl (fun ls hl => ?_)
            refine lv_iload hx hb dX5_once_107 (lv_at hl 5 rfl) ?_
            refine lv_if_lt (tgt := 122) hx hb dX5_once_109 (by decide) (fun h9 => absurd h9 (nI_pos (by omega))) (fun _ => ?_)
            refine lv_aload_n hx hb dX5_once_112 rfl (lv_at hl 7 rfl) ?_
            refine pw_get hx hb hts (fun _ h9 => List.mem_cons_of_mem _ (List.mem_append_right _ h9)) hown hK hP 0 rfl rfl 9 (by decide) hF rfl (hts (.fieldLink RX5 30 "PastDrawsModel" "whole" "[I") (List.mem_of_getElem? (i := 3) rfl)) dX5_once_113 ?_
            refine lv_iload hx hb dX5_once_116 (lv_at hl 5 rfl) ?_
            refine pw_iald hx hb hK hP 6 rfl (by omega) (by decide) (v := nI (mpS nx (bsg a (len * b)) len st)) (hR.2 st hst) dX5_once_118 ?_
            refine lv_goto (tgt := 138) hx hb dX5_once_119 (by decide) ?_
            refine lv_istore (lv' := [(4, .int (nI (mpS nx (bsg a (len * b)) len st))), (5, .int (nI (dr + 1))), (7, .int (pb (mtF (mpS nx (bsg a (len * b)) len) n))), (1, .int a), (2, .int (nI len)), (3, .int (nI k9)), (6, .int (nI b)), (0, .ref (Ad 0))]) hx hb dX5_once_138 hl (by decide) rfl (fun ls hl => ?_)
            refine lv_iinc (v := nI (b + 1)) (lv' := [(6, .int (nI (b + 1))), (4, .int (nI (mpS nx (bsg a (len * b)) len st))), (5, .int (nI (dr + 1))), (7, .int (pb (mtF (mpS nx (bsg a (len * b)) len) n))), (1, .int a), (2, .int (nI len)), (3, .int (nI k9)), (0, .ref (Ad 0))]) hx hb dX5_once_140 hl (k := 6) rfl (nI_add _ 1) (by decide) rfl (fun ls hl => ?_)
            refine lv_goto (tgt := 36) hx hb dX5_once_143 (by decide) ?_
            have hr1 : drF nx n a len k9 z (b + 1) true (dr + 1) (mpS nx (bsg a (len * b)) len st) = r := by
              rw [hz, dr_succ (rN_ok hN0) hn, c_87] at hr0
              simp [c_98] at hr0
              exact hr0
            have hz2 : z = 500 - (b + 1) := by omega
            exact ih C2 H locs (b + 1) true (dr + 1) (mpS nx (bsg a (len * b)) len st) ls (by omega) hP hS hB (by omega) (by omega) (mpS_lt (rN_ok hN0) (fun _ => sgn_lt _ _) len st hst) (by rw [← hz2]; exact hr1) (lv_sub hl [4, 5, 6, 1, 2, 0, 7] rfl)
          · refine lv_iload hx hb dX5_once_101 (lv_at hl 4 rfl) ?_
            have hr1 : some st = r := by
              rw [hz, dr_succ (rN_ok hN0) hn, c_87] at hr0
              simp [c_98] at hr0
              exact hr0
            refine pw_topi (y := oi r) (by rw [← hr1]; rfl) ?_
            exact hq _ C2 H locs ls dX5_once_103 hP hS hB

set_option maxHeartbeats 4000000 in
set_option maxRecDepth 100000 in
theorem c_X5_once (l : Launch) (D : va_G) (cy : Nat → ClassId) (Ad : Nat → Nat) (n mm : Nat) (C : pw_C) (hI : pw_I Ad shM) (hn : 1 ≤ n ∧ n ≤ 12) (hmm : 1 ≤ mm ∧ mm ≤ 16) (nx : Nat → Nat → Nat) (mx : Nat → Nat → Option Nat) (en : Nat → Bool) (am wt : Nat → Nat) (hX : MI n mm nx mx en am wt Ad C) (a b d : Int32) : Met l yX5_once wsX5_once (k2_rm 2 45) (pw_Pre ([.ref (Ad 0), .int a, .int b, .int d]) D cy Ad shM C) (pw_Post (fun r9 C' => r9 = some (.int (f_once n nx a b d)) ∧ (MI n mm nx mx en am wt Ad C')) D cy Ad shM) 0 0 (pw_fr Ad shM) := by
  refine Met.ofW (cc := cX5_once) (maxL := 8) (ret := (some .int)) (by decide) rfl ?_
  intro p e s m args below meth c s₁ B hml hv
  obtain ⟨rfl, hP, hK⟩ := hv
  have hx := B.exec
  have hb := B.bytes
  have hr := B.returns
  have hts := atoms_spec (ws := wsX5_once) B.pre
  have hown : s.vm.findClass RX5 = some m.cls := findClass_of_methodNamed B.named
  have hlocks := B.notSynchronized
  have S : CallFix p m c cX5_once 8 s ([.ref (Ad 0), .int a, .int b, .int d]).toArray wsX5_once RX5 := ⟨hx, hb, hml, hown, hts⟩
  change W p l e (k2_rm 2 45) s m _ below meth c s.heap [] 0 0 _ _
  have hl := lv_entry ([.ref (Ad 0), .int a, .int b, .int d]) (n := 8) (Nat.le_of_ble_eq_true rfl)
  rw [lg_entry_eq]
  generalize (lg_sl ([.ref (Ad 0), .int a, .int b, .int d]) ++ List.replicate (8 - (lg_sl ([.ref (Ad 0), .int a, .int b, .int d])).length) Slot.unset).toArray = ls at hl ⊢
  have hl : lv_has ls 8 [(0, .ref (Ad 0)), (1, .int a), (2, .int b), (3, .int d)] := hl
  have hS : va_S (pw_fr Ad shM) s.heap s.heap [] := va_S.rf
  obtain ⟨⟨pk, tr, hF⟩, hN, hM, hE, hA, hT⟩ := id hX
  refine lv_iload_n hx hb dX5_once_0 rfl (lv_at hl 2 rfl) ?_
  refine lv_i2l hx hb dX5_once_1 rfl ?_
  refine lv_lconst (v := 1) hx hb dX5_once_2 (by decide) ?_
  refine lv_ldc2 hx hb hown (hts (.constantLong RX5 120 (64)) (List.mem_of_getElem? (i := 1) rfl)) dX5_once_3 ?_
  refine pw_cs S 3 (c_X5_in l b.toInt64 1 (64)) gX5_once_X5_in rfl rfl rfl (by decide +kernel) ⟨Nat.le_of_ble_eq_true rfl, Nat.le_of_ble_eq_true rfl⟩ rfl hl.1 rfl (Nat.le_of_ble_eq_true rfl) dX5_once_6 ⟨Nat.le_refl _, Nat.le_refl _⟩ ?_
  refine pw_topi (y := pb (wi b (nI 1) (nI 64))) (congrArg pb (wl_wi _ (nI 1) (nI 64) (by first | rfl | decide) (by first | rfl | decide))) ?_
  refine pn_ifeq_b (tgt := 24) hx hb dX5_once_9 (by decide) (fun c_9 => ?_) (fun c_9 => ?_)
  · refine lv_iconst (v := (-1)) hx hb dX5_once_24 (by decide) ?_
    refine pw_topi (y := f_once n nx a b d) (by unfold f_once; first | simp [c_9, c_21] | simp [c_9]) ?_
    exact W.iret hx hb hr (fun t ht _ => ⟨⟨_, C, rfl, ⟨rfl, hX⟩, by rw [ht]; exact hP⟩, hS.F ht⟩) hS.2.2 dX5_once_25
  · refine lv_iload_n hx hb dX5_once_12 rfl (lv_at hl 3 rfl) ?_
    refine lv_i2l hx hb dX5_once_13 rfl ?_
    refine lv_lconst (v := 0) hx hb dX5_once_14 (by decide) ?_
    refine lv_ldc2 hx hb hown (hts (.constantLong RX5 142 (99)) (List.mem_of_getElem? (i := 2) rfl)) dX5_once_15 ?_
    refine pw_cs S 3 (c_X5_in l d.toInt64 0 (99)) gX5_once_X5_in rfl rfl rfl (by decide +kernel) ⟨Nat.le_of_ble_eq_true rfl, Nat.le_of_ble_eq_true rfl⟩ rfl hl.1 rfl (Nat.le_of_ble_eq_true rfl) dX5_once_18 ⟨Nat.le_refl _, Nat.le_refl _⟩ ?_
    refine pw_topi (y := pb (wi d (nI 0) (nI 99))) (congrArg pb (wl_wi _ (nI 0) (nI 99) (by first | rfl | decide) (by first | rfl | decide))) ?_
    refine pn_ifne_b (tgt := 26) hx hb dX5_once_21 (by decide) (fun c_21 => ?_) (fun c_21 => ?_)
    · obtain ⟨len, hl_len, hh_len, rfl⟩ := wi_ex (by omega) c_9
      obtain ⟨k9, hl_k9, hh_k9, rfl⟩ := wi_ex (by omega) c_21
      have ix_len : ix (nI len) = len := nI_clamp (by omega)
      have ix_k9 : ix (nI k9) = k9 := nI_clamp (by omega)
      refine lv_bipush (v := (-2)) hx hb dX5_once_26 (by decide) ?_
      refine lv_istore (lv' := [(4, .int (-2)), (0, .ref (Ad 0)), (1, .int a), (2, .int (nI len)), (3, .int (nI k9))]) hx hb dX5_once_28 hl (by decide) rfl (fun ls hl => ?_)
      refine lv_iconst (v := nI 0) hx hb dX5_once_30 (by decide) ?_
      refine lv_istore (lv' := [(5, .int (nI 0)), (4, .int (-2)), (0, .ref (Ad 0)), (1, .int a), (2, .int (nI len)), (3, .int (nI k9))]) hx hb dX5_once_31 hl (by decide) rfl (fun ls hl => ?_)
      refine lv_iconst (v := nI 0) hx hb dX5_once_33 (by decide) ?_
      refine lv_istore (lv' := [(6, .int (nI 0)), (5, .int (nI 0)), (4, .int (-2)), (0, .ref (Ad 0)), (1, .int a), (2, .int (nI len)), (3, .int (nI k9))]) hx hb dX5_once_34 hl (by decide) rfl (fun ls hl => ?_)
      have ef : f_once n nx a (nI len) (nI k9) = oi (drF nx n a len k9 500 0 false 0 0) := by unfold f_once; simp [c_9, c_21, ix_len, ix_k9]
      rw [ef]
      exact L5_once S hK hI hF hn hN a len (by omega) k9 (by omega) _ (fun pc9 C9 H9 locs9 ls9 hd9 hP9 hS9 hR9 => W.iret hx hb hr (fun t ht _ => ⟨⟨_, C9, rfl, ⟨rfl, MI_B hX hR9 (fun k h => by have h8 : k = 6 := h; omega)⟩, by rw [ht]; exact hP9⟩, hS9.F ht⟩) hS9.2.2 hd9) 501 C s.heap [] 0 false 0 0 ls (by omega) hP hS pw_B.rf (by omega) (by omega) (by omega) rfl (lv_sub hl [4, 5, 6, 2, 1, 0, 3] rfl)
    · refine lv_iconst (v := (-1)) hx hb dX5_once_24 (by decide) ?_
      refine pw_topi (y := f_once n nx a b d) (by unfold f_once; first | simp [c_9, c_21] | simp [c_9]) ?_
      exact W.iret hx hb hr (fun t ht _ => ⟨⟨_, C, rfl, ⟨rfl, hX⟩, by rw [ht]; exact hP⟩, hS.F ht⟩) hS.2.2 dX5_once_25
