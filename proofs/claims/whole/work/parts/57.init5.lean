/-- where the cells of the class lie, from its object on -/
def AdX (h n k : Nat) : Nat := if k < 21 then ([h, h + 1, h + 16 + n, h + 46 + 2 * n, h + 49 + 2 * n, h + 2, h + 11, h + 12, h + 13, h + 14, h + 15, h + 17 + n, h + 18 + 2 * n, h + 19 + 2 * n, h + 47 + 2 * n, h + 48 + 2 * n, h + 50 + 2 * n, h + 51 + 2 * n, h + 52 + 2 * n, h + 53 + 2 * n, h + 54 + 2 * n] : List Nat).getD k 0 else if k < 29 then h + 3 + (k - 21) else if k < 41 then h + 16 + (k - 29) else if k < 53 then h + 18 + n + (k - 41) else h + 20 + 2 * n + (k - 53)
theorem AdX_21 {h n k : Nat} (a : 21 ≤ k) (b : k < 29) : AdX h n k = h + 3 + (k - 21) := by
  unfold AdX; rw [if_neg (by omega), if_pos b]
theorem AdX_29 {h n k : Nat} (a : 29 ≤ k) (b : k < 41) : AdX h n k = h + 16 + (k - 29) := by
  unfold AdX; rw [if_neg (by omega), if_neg (by omega), if_pos b]
theorem AdX_41 {h n k : Nat} (a : 41 ≤ k) (b : k < 53) : AdX h n k = h + 18 + n + (k - 41) := by
  unfold AdX; rw [if_neg (by omega), if_neg (by omega), if_neg (by omega), if_pos b]
theorem AdX_53 {h n k : Nat} (a : 53 ≤ k) : AdX h n k = h + 20 + 2 * n + (k - 53) := by
  unfold AdX; rw [if_neg (by omega), if_neg (by omega), if_neg (by omega), if_neg (by omega)]
theorem shX_lv {n k : Nat} (hn : 1 ≤ n ∧ n ≤ 12) (hk : pw_L (shX n) k) : k < 21 ∨ (21 ≤ k ∧ k < 29) ∨ (29 ≤ k ∧ k < 29 + n) ∨ (41 ≤ k ∧ k < 41 + n) ∨ (53 ≤ k ∧ k < 79) := by
  unfold pw_L shX at hk
  repeat' split at hk
  all_goals first | omega | (obtain ⟨q, _⟩ := hk; exact absurd q (by decide))
theorem AdX_or {h n k : Nat} (hn : 1 ≤ n ∧ n ≤ 12) (hk : pw_L (shX n) k) : (k = 0 ∧ AdX h n k = h) ∨ (k = 1 ∧ AdX h n k = h + 1) ∨ (k = 2 ∧ AdX h n k = h + 16 + n) ∨ (k = 3 ∧ AdX h n k = h + 46 + 2 * n) ∨ (k = 4 ∧ AdX h n k = h + 49 + 2 * n) ∨ (k = 5 ∧ AdX h n k = h + 2) ∨ (k = 6 ∧ AdX h n k = h + 11) ∨ (k = 7 ∧ AdX h n k = h + 12) ∨ (k = 8 ∧ AdX h n k = h + 13) ∨ (k = 9 ∧ AdX h n k = h + 14) ∨ (k = 10 ∧ AdX h n k = h + 15) ∨ (k = 11 ∧ AdX h n k = h + 17 + n) ∨ (k = 12 ∧ AdX h n k = h + 18 + 2 * n) ∨ (k = 13 ∧ AdX h n k = h + 19 + 2 * n) ∨ (k = 14 ∧ AdX h n k = h + 47 + 2 * n) ∨ (k = 15 ∧ AdX h n k = h + 48 + 2 * n) ∨ (k = 16 ∧ AdX h n k = h + 50 + 2 * n) ∨ (k = 17 ∧ AdX h n k = h + 51 + 2 * n) ∨ (k = 18 ∧ AdX h n k = h + 52 + 2 * n) ∨ (k = 19 ∧ AdX h n k = h + 53 + 2 * n) ∨ (k = 20 ∧ AdX h n k = h + 54 + 2 * n) ∨ (21 ≤ k ∧ k < 29 ∧ AdX h n k = h + 3 + (k - 21)) ∨ (29 ≤ k ∧ k < 29 + n ∧ AdX h n k = h + 16 + (k - 29)) ∨ (41 ≤ k ∧ k < 41 + n ∧ AdX h n k = h + 18 + n + (k - 41)) ∨ (53 ≤ k ∧ k < 79 ∧ AdX h n k = h + 20 + 2 * n + (k - 53)) := by
  rcases shX_lv hn hk with q | q | q | q | q
  · have q9 : k = 0 ∨ k = 1 ∨ k = 2 ∨ k = 3 ∨ k = 4 ∨ k = 5 ∨ k = 6 ∨ k = 7 ∨ k = 8 ∨ k = 9 ∨ k = 10 ∨ k = 11 ∨ k = 12 ∨ k = 13 ∨ k = 14 ∨ k = 15 ∨ k = 16 ∨ k = 17 ∨ k = 18 ∨ k = 19 ∨ k = 20 := by omega
    rcases q9 with rfl | rfl | rfl | rfl | rfl | rfl | rfl | rfl | rfl | rfl | rfl | rfl | rfl | rfl | rfl | rfl | rfl | rfl | rfl | rfl | rfl
    · exact Or.inl ⟨rfl, rfl⟩
    · exact Or.inr (Or.inl ⟨rfl, rfl⟩)
    · exact Or.inr (Or.inr (Or.inl ⟨rfl, rfl⟩))
    · exact Or.inr (Or.inr (Or.inr (Or.inl ⟨rfl, rfl⟩)))
    · exact Or.inr (Or.inr (Or.inr (Or.inr (Or.inl ⟨rfl, rfl⟩))))
    · exact Or.inr (Or.inr (Or.inr (Or.inr (Or.inr (Or.inl ⟨rfl, rfl⟩)))))
    · exact Or.inr (Or.inr (Or.inr (Or.inr (Or.inr (Or.inr (Or.inl ⟨rfl, rfl⟩))))))
    · exact Or.inr (Or.inr (Or.inr (Or.inr (Or.inr (Or.inr (Or.inr (Or.inl ⟨rfl, rfl⟩)))))))
    · exact Or.inr (Or.inr (Or.inr (Or.inr (Or.inr (Or.inr (Or.inr (Or.inr (Or.inl ⟨rfl, rfl⟩))))))))
    · exact Or.inr (Or.inr (Or.inr (Or.inr (Or.inr (Or.inr (Or.inr (Or.inr (Or.inr (Or.inl ⟨rfl, rfl⟩)))))))))
    · exact Or.inr (Or.inr (Or.inr (Or.inr (Or.inr (Or.inr (Or.inr (Or.inr (Or.inr (Or.inr (Or.inl ⟨rfl, rfl⟩))))))))))
    · exact Or.inr (Or.inr (Or.inr (Or.inr (Or.inr (Or.inr (Or.inr (Or.inr (Or.inr (Or.inr (Or.inr (Or.inl ⟨rfl, rfl⟩)))))))))))
    · exact Or.inr (Or.inr (Or.inr (Or.inr (Or.inr (Or.inr (Or.inr (Or.inr (Or.inr (Or.inr (Or.inr (Or.inr (Or.inl ⟨rfl, rfl⟩))))))))))))
    · exact Or.inr (Or.inr (Or.inr (Or.inr (Or.inr (Or.inr (Or.inr (Or.inr (Or.inr (Or.inr (Or.inr (Or.inr (Or.inr (Or.inl ⟨rfl, rfl⟩)))))))))))))
    · exact Or.inr (Or.inr (Or.inr (Or.inr (Or.inr (Or.inr (Or.inr (Or.inr (Or.inr (Or.inr (Or.inr (Or.inr (Or.inr (Or.inr (Or.inl ⟨rfl, rfl⟩))))))))))))))
    · exact Or.inr (Or.inr (Or.inr (Or.inr (Or.inr (Or.inr (Or.inr (Or.inr (Or.inr (Or.inr (Or.inr (Or.inr (Or.inr (Or.inr (Or.inr (Or.inl ⟨rfl, rfl⟩)))))))))))))))
    · exact Or.inr (Or.inr (Or.inr (Or.inr (Or.inr (Or.inr (Or.inr (Or.inr (Or.inr (Or.inr (Or.inr (Or.inr (Or.inr (Or.inr (Or.inr (Or.inr (Or.inl ⟨rfl, rfl⟩))))))))))))))))
    · exact Or.inr (Or.inr (Or.inr (Or.inr (Or.inr (Or.inr (Or.inr (Or.inr (Or.inr (Or.inr (Or.inr (Or.inr (Or.inr (Or.inr (Or.inr (Or.inr (Or.inr (Or.inl ⟨rfl, rfl⟩)))))))))))))))))
    · exact Or.inr (Or.inr (Or.inr (Or.inr (Or.inr (Or.inr (Or.inr (Or.inr (Or.inr (Or.inr (Or.inr (Or.inr (Or.inr (Or.inr (Or.inr (Or.inr (Or.inr (Or.inr (Or.inl ⟨rfl, rfl⟩))))))))))))))))))
    · exact Or.inr (Or.inr (Or.inr (Or.inr (Or.inr (Or.inr (Or.inr (Or.inr (Or.inr (Or.inr (Or.inr (Or.inr (Or.inr (Or.inr (Or.inr (Or.inr (Or.inr (Or.inr (Or.inr (Or.inl ⟨rfl, rfl⟩)))))))))))))))))))
    · exact Or.inr (Or.inr (Or.inr (Or.inr (Or.inr (Or.inr (Or.inr (Or.inr (Or.inr (Or.inr (Or.inr (Or.inr (Or.inr (Or.inr (Or.inr (Or.inr (Or.inr (Or.inr (Or.inr (Or.inr (Or.inl ⟨rfl, rfl⟩))))))))))))))))))))
  · exact Or.inr (Or.inr (Or.inr (Or.inr (Or.inr (Or.inr (Or.inr (Or.inr (Or.inr (Or.inr (Or.inr (Or.inr (Or.inr (Or.inr (Or.inr (Or.inr (Or.inr (Or.inr (Or.inr (Or.inr (Or.inr (Or.inl ⟨q.1, q.2, AdX_21 q.1 q.2⟩)))))))))))))))))))))
  · exact Or.inr (Or.inr (Or.inr (Or.inr (Or.inr (Or.inr (Or.inr (Or.inr (Or.inr (Or.inr (Or.inr (Or.inr (Or.inr (Or.inr (Or.inr (Or.inr (Or.inr (Or.inr (Or.inr (Or.inr (Or.inr (Or.inr (Or.inl ⟨q.1, q.2, AdX_29 q.1 (by omega)⟩))))))))))))))))))))))
  · exact Or.inr (Or.inr (Or.inr (Or.inr (Or.inr (Or.inr (Or.inr (Or.inr (Or.inr (Or.inr (Or.inr (Or.inr (Or.inr (Or.inr (Or.inr (Or.inr (Or.inr (Or.inr (Or.inr (Or.inr (Or.inr (Or.inr (Or.inr (Or.inl ⟨q.1, q.2, AdX_41 q.1 (by omega)⟩)))))))))))))))))))))))
  · exact Or.inr (Or.inr (Or.inr (Or.inr (Or.inr (Or.inr (Or.inr (Or.inr (Or.inr (Or.inr (Or.inr (Or.inr (Or.inr (Or.inr (Or.inr (Or.inr (Or.inr (Or.inr (Or.inr (Or.inr (Or.inr (Or.inr (Or.inr (Or.inr (⟨q.1, q.2, AdX_53 q.1⟩))))))))))))))))))))))))
set_option maxHeartbeats 4000000 in
theorem AdX_I {h n : Nat} (hn : 1 ≤ n ∧ n ≤ 12) : pw_I (AdX h n) (shX n) := by
  intro j k hj hk e
  have h1 := AdX_or (h := h) hn hj
  have h2 := AdX_or (h := h) hn hk
  rw [e] at h1
  generalize AdX h n k = q at h1 h2
  clear e hj hk
  rcases h1 with h1 | h1 | h1 | h1 | h1 | h1 | h1 | h1 | h1 | h1 | h1 | h1 | h1 | h1 | h1 | h1 | h1 | h1 | h1 | h1 | h1 | h1 | h1 | h1 | h1 <;> rcases h2 with h2 | h2 | h2 | h2 | h2 | h2 | h2 | h2 | h2 | h2 | h2 | h2 | h2 | h2 | h2 | h2 | h2 | h2 | h2 | h2 | h2 | h2 | h2 | h2 | h2 <;> omega
theorem AdX_lt {h n k : Nat} (hn : 1 ≤ n ∧ n ≤ 12) (hk : pw_L (shX n) k) : h ≤ AdX h n k ∧ AdX h n k < h + (55 + 2 * n) := by
  have h1 := AdX_or (h := h) hn hk
  rcases h1 with h1 | h1 | h1 | h1 | h1 | h1 | h1 | h1 | h1 | h1 | h1 | h1 | h1 | h1 | h1 | h1 | h1 | h1 | h1 | h1 | h1 | h1 | h1 | h1 | h1 <;> omega
theorem fCh_i {n j : Nat} : fCh n j = true ↔ j = 1 ∨ (5 ≤ j ∧ j ≤ 10) ∨ (21 ≤ j ∧ j < 29) ∨ (29 ≤ j ∧ j < 29 + n) := by
  unfold fCh
  simp only [Bool.or_eq_true, Bool.and_eq_true, beq_iff_eq, Nat.ble_eq, Nat.blt_eq]
  omega
theorem fMa_i {n j : Nat} : fMa n j = true ↔ j = 2 ∨ (11 ≤ j ∧ j ≤ 13) ∨ (41 ≤ j ∧ j < 41 + n) ∨ (53 ≤ j ∧ j < 79) := by
  unfold fMa
  simp only [Bool.or_eq_true, Bool.and_eq_true, beq_iff_eq, Nat.ble_eq, Nat.blt_eq]
  omega
theorem fO_i {j : Nat} : fO j = true ↔ j = 3 ∨ j = 14 ∨ j = 15 := by
  unfold fO
  simp only [Bool.or_eq_true, beq_iff_eq]
  omega
theorem fT_i {j : Nat} : fT j = true ↔ j = 4 ∨ (16 ≤ j ∧ j ≤ 20) := by
  unfold fT
  simp only [Bool.or_eq_true, beq_iff_eq]
  omega
def gx0 (j : Nat) : Bool := j == 0
def gx1 (n j : Nat) : Bool := gx0 j || fCh n j
def gx2 (n j : Nat) : Bool := gx1 n j || fMa n j
def gx3 (n j : Nat) : Bool := gx2 n j || fO j
def gx4 (n j : Nat) : Bool := gx3 n j || fT j
theorem gx0_i {j : Nat} : gx0 j = true ↔ j = 0 := by unfold gx0; exact beq_iff_eq
theorem gx1_i {n j : Nat} : gx1 n j = true ↔ j = 0 ∨ fCh n j = true := by unfold gx1; rw [Bool.or_eq_true, gx0_i]
theorem gx2_i {n j : Nat} : gx2 n j = true ↔ j = 0 ∨ fCh n j = true ∨ fMa n j = true := by unfold gx2; rw [Bool.or_eq_true, gx1_i, or_assoc]
theorem gx3_i {n j : Nat} : gx3 n j = true ↔ j = 0 ∨ fCh n j = true ∨ fMa n j = true ∨ fO j = true := by unfold gx3; rw [Bool.or_eq_true, gx2_i, or_assoc, or_assoc]
theorem gx4_i {n j : Nat} : gx4 n j = true ↔ j = 0 ∨ fCh n j = true ∨ fMa n j = true ∨ fO j = true ∨ fT j = true := by unfold gx4; rw [Bool.or_eq_true, gx3_i, or_assoc, or_assoc, or_assoc]
theorem nb {b : Bool} (h : ¬ b = true) : b = false := by cases b <;> simp_all
theorem dj1 {n : Nat} (j : Nat) (h : gx0 j = true) : fCh n j = false := nb (fun q => by rw [gx0_i] at h; rw [fCh_i] at q; omega)
theorem dj2 {n : Nat} (hn : n ≤ 12) (j : Nat) (h : gx1 n j = true) : fMa n j = false := nb (fun q => by rw [gx1_i, fCh_i] at h; rw [fMa_i] at q; omega)
theorem dj3 {n : Nat} (j : Nat) (h : gx2 n j = true) : fO j = false := nb (fun q => by rw [gx2_i, fCh_i, fMa_i] at h; rw [fO_i] at q; omega)
theorem dj4 {n : Nat} (j : Nat) (h : gx3 n j = true) : fT j = false := nb (fun q => by rw [gx3_i, fCh_i, fMa_i, fO_i] at h; rw [fT_i] at q; omega)
theorem gx4_all {n k : Nat} (hn : 1 ≤ n ∧ n ≤ 12) (hk : pw_L (shX n) k) : gx4 n k = true := by
  rw [gx4_i, fCh_i, fMa_i, fO_i, fT_i]
  rcases shX_lv hn hk with q | q | q | q | q <;> omega
/-- cells that both have alike -/
def agr (f : Nat → Bool) (C C' : pw_C) : Prop := ∀ k, f k = true → C'.1 k = C.1 k ∧ C'.2.2 k = C.2.2 k
theorem agr.mixt {f : Nat → Bool} {C1 C C' : pw_C} (e : C' = mixC f C1 C) : agr f C1 C' := fun k hk => by
  rw [e]; exact ⟨if_pos hk, if_pos hk⟩
theorem agr.mix {f f1 : Nat → Bool} {A C1 C C' : pw_C} (h : agr f A C) (e : C' = mixC f1 C1 C) (hd : ∀ j, f j = true → f1 j = false) : agr f A C' := fun k hk => by
  have h9 : ¬ f1 k = true := by rw [hd k hk]; decide
  rw [e]; exact ⟨(if_neg h9).trans (h k hk).1, (if_neg h9).trans (h k hk).2⟩
theorem agr.setF {f : Nat → Bool} {A C C' : pw_C} {fs : List Value} (h : agr f A C) (e : C' = pw_setF C 0 fs) (hd : f 0 = false) : agr f A C' := fun k hk => by
  have h9 : ¬ k = 0 := fun q => by subst q; rw [hd] at hk; cases hk
  rw [e]; exact ⟨(h k hk).1, (if_neg h9).trans (h k hk).2⟩
theorem nOf_mm (a : Int32) : (if nI 1 < (if a < nI 12 then a else nI 12) then (if a < nI 12 then a else nI 12) else nI 1) = nI (nOf a) := by
  have e1 : (nI 1).toInt = 1 := by decide
  have e12 : (nI 12).toInt = 12 := by decide
  have hb := nOf_b a
  apply Int32.toInt_inj.mp
  rw [nI_toInt (by omega)]
  by_cases q : a < nI 12
  · rw [if_pos q]
    by_cases r : nI 1 < a
    · rw [if_pos r]; rw [Int32.lt_iff_toInt_lt] at q r; unfold nOf; omega
    · rw [if_neg r]; rw [Int32.lt_iff_toInt_lt] at q r; unfold nOf; omega
  · rw [if_neg q, if_pos (by decide : nI 1 < nI 12)]; rw [Int32.lt_iff_toInt_lt] at q; unfold nOf; omega
theorem df0 : ∀ j, j < 7 → defaultValue (tyX0 j) = vp_V [.int 0, .null, .null, .null, .null, .null, .null] j := fun j hj => by
  match j, hj with
  | 0, _ => rfl
  | 1, _ => rfl
  | 2, _ => rfl
  | 3, _ => rfl
  | 4, _ => rfl
  | 5, _ => rfl
  | 6, _ => rfl
theorem df1 : ∀ j, j < 4 → defaultValue (tyX1 j) = vp_V [.int 0, .null, .null, .null] j := fun j hj => by
  match j, hj with
  | 0, _ => rfl
  | 1, _ => rfl
  | 2, _ => rfl
  | 3, _ => rfl
theorem df2 : ∀ j, j < 2 → defaultValue (tyX2 j) = vp_V [.null, .null] j := fun j hj => by
  match j, hj with
  | 0, _ => rfl
  | 1, _ => rfl
theorem df3 : ∀ j, j < 6 → defaultValue (tyX3 j) = vp_V [.null, .null, .null, .null, .null, .int 0] j := fun j hj => by
  match j, hj with
  | 0, _ => rfl
  | 1, _ => rfl
  | 2, _ => rfl
  | 3, _ => rfl
  | 4, _ => rfl
  | 5, _ => rfl

theorem i_X0 (l : Launch) (D : va_G) (cy : Nat → ClassId) (Ad : Nat → Nat) (h n : Nat) (hn : 1 ≤ n ∧ n ≤ 12) (hA : Ad = AdX h n) : Met l yX0_init wsX0_init (pw_rm 1 12 30 9000) (pw_PreN ([.ref (Ad 1), .int (nI n)]) (h + 2) D cy Ad (shR (fun j => j == 1) (shX n)) (zC ([.int 0, .null, .null, .null, .null, .null, .null]))) (pw_PostN (fun C' => C'.2.2 1 = ([.int (nI n), .ref (Ad 5), .ref (Ad 6), .ref (Ad 7), .ref (Ad 8), .ref (Ad 9), .ref (Ad 10)] : List Value) ∧ (∀ u9, u9 < 8 → ∀ y, y < n → C'.1 (21 + u9) y = nI y)) (h + 2 + (14 + n)) D cy Ad (shR (fCh n) (shX n))) 30 9000 (pw_fr Ad (shR (fCh n) (shX n))) := by
  subst hA
  have hI := AdX_I (h := h) hn
  exact c_X0_init l D cy (AdX h n) (h + 2) n hn hI rfl (fun i hi => by rw [AdX_21 (by omega) (by omega)]; omega) rfl rfl rfl rfl rfl (fun i hi => by rw [AdX_29 (by omega) (by omega)]; omega)

theorem i_X1 (l : Launch) (D : va_G) (cy : Nat → ClassId) (Ad : Nat → Nat) (h n : Nat) (hn : 1 ≤ n ∧ n ≤ 12) (hA : Ad = AdX h n) : Met l yX1_init wsX1_init (pw_rm 1 23 45 500) (pw_PreN ([.ref (Ad 2), .int (nI n)]) (h + 17 + n) D cy Ad (shR (fun j => j == 2) (shX n)) (zC ([.int 0, .null, .null, .null]))) (pw_PostN (fun C' => C'.2.2 2 = ([.int (nI n), .ref (Ad 11), .ref (Ad 12), .ref (Ad 13)] : List Value) ∧ (∀ y, y < n → ∀ c9, c9 < 4 → C'.1 (41 + y) c9 = (-2)) ∧ ∀ x, C'.1 12 x = 0) (h + 17 + n + (29 + n)) D cy Ad (shR (fMa n) (shX n))) 45 500 (pw_fr Ad (shR (fMa n) (shX n))) := by
  subst hA
  have hI := AdX_I (h := h) hn
  exact c_X1_init l D cy (AdX h n) (h + 17 + n) n hn hI rfl (fun i hi => by rw [AdX_41 (by omega) (by omega)]; omega) (show h + 18 + 2 * n = _ by omega) (show h + 19 + 2 * n = _ by omega) (fun i hi => by rw [AdX_53 (by omega)]; omega)

theorem i_X2 (l : Launch) (D : va_G) (cy : Nat → ClassId) (Ad : Nat → Nat) (h n : Nat) (hn : 1 ≤ n ∧ n ≤ 12) (hA : Ad = AdX h n) : Met l yX2_init wsX2_init (pw_rm 1 23 2 264) (pw_PreN ([.ref (Ad 3)]) (h + 47 + 2 * n) D cy Ad (shR (fun j => j == 3) (shX n)) (zC ([.null, .null]))) (pw_PostN (fun C' => C'.2.2 3 = ([.ref (Ad 14), .ref (Ad 15)] : List Value) ∧ ∀ j, j < 8 → C'.1 14 j = nI 255) (h + 47 + 2 * n + 2) D cy Ad (shR fO (shX n))) 2 264 (pw_fr Ad (shR fO (shX n))) := by
  subst hA
  have hI := AdX_I (h := h) hn
  exact c_X2_init l D cy (AdX h n) (h + 47 + 2 * n) n hI rfl (show h + 48 + 2 * n = _ by omega)

theorem i_X3 (l : Launch) (D : va_G) (cy : Nat → ClassId) (Ad : Nat → Nat) (h n : Nat) (hn : 1 ≤ n ∧ n ≤ 12) (hA : Ad = AdX h n) : Met l yX3_init wsX3_init (pw_rm 1 23 5 80) (pw_PreN ([.ref (Ad 4)]) (h + 50 + 2 * n) D cy Ad (shR (fun j => j == 4) (shX n)) (zC ([.null, .null, .null, .null, .null, .int 0]))) (pw_PostN (fun C' => C'.2.2 4 = ([.ref (Ad 16), .ref (Ad 17), .ref (Ad 18), .ref (Ad 19), .ref (Ad 20), .int (nI 1)] : List Value) ∧ ∀ j, j < 16 → C'.1 16 j = nI 1) (h + 50 + 2 * n + 5) D cy Ad (shR fT (shX n))) 5 80 (pw_fr Ad (shR fT (shX n))) := by
  subst hA
  have hI := AdX_I (h := h) hn
  exact c_X3_init l D cy (AdX h n) (h + 50 + 2 * n) n hI rfl (show h + 51 + 2 * n = _ by omega) (show h + 52 + 2 * n = _ by omega) (show h + 53 + 2 * n = _ by omega) (show h + 54 + 2 * n = _ by omega)
