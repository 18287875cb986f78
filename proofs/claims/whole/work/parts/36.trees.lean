def coX (nx : Nat → Nat → Nat) (x y : Nat) : Nat → Int
  | 0 => 0
  | u + 1 => coX nx x y u + (if x = y then (if nx u x = x then 0 else 1) else (if nx u x = y then -1 else 0))
theorem coX_b (nx : Nat → Nat → Nat) (x y : Nat) : ∀ u : Nat, -(u : Int) ≤ coX nx x y u ∧ coX nx x y u ≤ u ∧ (x ≠ y → coX nx x y u ≤ 0) := by
  intro u
  induction u with
  | zero => exact ⟨by show -((0 : Nat) : Int) ≤ 0; omega, by show (0 : Int) ≤ ((0 : Nat) : Int); omega, fun _ => Int.le_refl _⟩
  | succ u ih =>
    show -((u + 1 : Nat) : Int) ≤ coX nx x y u + _ ∧ coX nx x y u + _ ≤ ((u + 1 : Nat) : Int) ∧ (x ≠ y → coX nx x y u + _ ≤ 0)
    by_cases h : x = y
    · rw [if_pos h]; split <;> exact ⟨by omega, by omega, fun q => absurd h q⟩
    · rw [if_neg h]; have := ih.2.2 h; split <;> exact ⟨by omega, by omega, fun _ => by omega⟩
theorem co_p1 (k : Int) : Int32.ofInt (k + 1) = Int32.ofInt k + nI 1 := by rw [Int32.ofInt_add]; rfl
theorem co_m1 (k : Int) : Int32.ofInt (k + -1) = Int32.ofInt k + (-1) := by rw [Int32.ofInt_add]; rfl
theorem co_z (k : Int) : Int32.ofInt (k + 0) = Int32.ofInt k + nI 0 := by rw [Int32.ofInt_add]; rfl
theorem cl_p1 (k : Int) : Int64.ofInt (k + 1) = Int64.ofInt k + 1 := by rw [Int64.ofInt_add]; rfl
theorem cl_m1 (k : Int) : Int64.ofInt (k + -1) = Int64.ofInt k - 1 := by
  rw [Int64.ofInt_add, Int64.sub_eq_add_neg]; rfl
theorem co_l {k : Int} (h : -8 ≤ k ∧ k ≤ 8) : (Int32.ofInt k).toInt64 = Int64.ofInt k := by
  have h2 : k = -8 ∨ k = -7 ∨ k = -6 ∨ k = -5 ∨ k = -4 ∨ k = -3 ∨ k = -2 ∨ k = -1 ∨ k = 0 ∨ k = 1 ∨ k = 2 ∨ k = 3 ∨ k = 4 ∨ k = 5 ∨ k = 6 ∨ k = 7 ∨ k = 8 := by omega
  rcases h2 with h | h | h | h | h | h | h | h | h | h | h | h | h | h | h | h | h <;> (subst h; decide)
theorem cl_t {k : Int} (h : -8 ≤ k ∧ k ≤ 8) : (Int64.ofInt k).toInt = k := by
  have h2 : k = -8 ∨ k = -7 ∨ k = -6 ∨ k = -5 ∨ k = -4 ∨ k = -3 ∨ k = -2 ∨ k = -1 ∨ k = 0 ∨ k = 1 ∨ k = 2 ∨ k = 3 ∨ k = 4 ∨ k = 5 ∨ k = 6 ∨ k = 7 ∨ k = 8 := by omega
  rcases h2 with h | h | h | h | h | h | h | h | h | h | h | h | h | h | h | h | h <;> (subst h; decide)
theorem fr_co (nx : Nat → Nat → Nat) {x y r : Nat} (hx : ¬ x = r) (hy : ¬ y = r) : ∀ u, frF nx x r u (iw y r) = Int64.ofInt (coX nx x y u) := by
  have hi : iw y r = iw x r ↔ x = y := ⟨fun q => (iw_inj hy hx q).symm, fun q => by rw [q]⟩
  intro u
  induction u with
  | zero => rfl
  | succ u ih =>
    show (if nx u x = x then frF nx x r u (iw y r) else if nx u x = r then (if iw y r = iw x r then frF nx x r u (iw y r) + 1 else frF nx x r u (iw y r)) else (if iw y r = iw (nx u x) r then (if iw y r = iw x r then frF nx x r u (iw y r) + 1 else frF nx x r u (iw y r)) - 1 else (if iw y r = iw x r then frF nx x r u (iw y r) + 1 else frF nx x r u (iw y r)))) = Int64.ofInt (coX nx x y u + (if x = y then (if nx u x = x then 0 else 1) else (if nx u x = y then -1 else 0)))
    rw [ih]
    by_cases h1 : nx u x = x
    · rw [if_pos h1, if_pos h1]
      by_cases h2 : x = y
      · rw [if_pos h2, Int.add_zero]
      · rw [if_neg h2, if_neg (fun q => h2 (h1.symm.trans q)), Int.add_zero]
    · rw [if_neg h1, if_neg h1]
      by_cases h2 : x = y
      · rw [if_pos h2, if_pos (hi.mpr h2), cl_p1]
        by_cases h3 : nx u x = r
        · rw [if_pos h3]
        · rw [if_neg h3, if_neg (fun q => h1 ((iw_inj hy h3 q).symm.trans h2.symm))]
      · rw [if_neg h2, if_neg (fun q => h2 (hi.mp q))]
        by_cases h3 : nx u x = r
        · rw [if_pos h3, if_neg (fun q => hy (q.symm.trans h3)), Int.add_zero]
        · rw [if_neg h3]
          by_cases h4 : nx u x = y
          · rw [if_pos h4, if_pos (by rw [h4]), cl_m1]
          · rw [if_neg h4, if_neg (fun q => h4 (iw_inj hy h3 q).symm), Int.add_zero]
def sk (r a : Nat) : Nat := if a < r then a else a + 1
theorem sk_ne (r a : Nat) : ¬ sk r a = r := by unfold sk; split <;> omega
theorem iw_sk (r a : Nat) : iw (sk r a) r = a := by
  unfold sk iw
  by_cases h : a < r
  · rw [if_pos h, if_pos h]
  · rw [if_neg h, if_neg (by omega)]; omega
theorem sk_inj {r a b : Nat} (h : sk r a = sk r b) : a = b := by unfold sk at h; split at h <;> split at h <;> omega
theorem tmx_co (nx : Nat → Nat → Nat) (r a b : Nat) : tmx nx r a b = Int64.ofInt (coX nx (sk r a) (sk r b) 8) := by
  have := fr_co nx (sk_ne r a) (sk_ne r b) 8
  rw [iw_sk] at this
  exact this
theorem tmx_t (nx : Nat → Nat → Nat) (r a b : Nat) : (tmx nx r a b).toInt = coX nx (sk r a) (sk r b) 8 := by
  have hb := coX_b nx (sk r a) (sk r b) 8
  rw [tmx_co, cl_t ⟨by omega, by omega⟩]
theorem sJ_nn {f : Nat → Int} {a c : Nat} (h : ∀ t, a ≤ t → t < a + c → 0 ≤ f t) : 0 ≤ sJ f a c := by
  have h1 := sJ_le (f := fun t => if t = a then 0 else 0) (g := f) (a := a) (c := c) (fun t h1 h2 => by
    show (if t = a then 0 else 0) ≤ f t
    have := h t h1 h2
    split <;> omega)
  rw [sJ_one] at h1
  split at h1 <;> exact h1
theorem co_row (nx : Nat → Nat → Nat) {r a z : Nat} (ha : a < z) : ∀ u, 0 ≤ sJ (fun b => coX nx (sk r a) (sk r b) u) 0 z := by
  intro u
  induction u with
  | zero => exact sJ_nn (fun _ _ _ => Int.le_refl _)
  | succ u ih =>
    have e := sJ_add (fun b => coX nx (sk r a) (sk r b) u) (fun b => if sk r a = sk r b then (if nx u (sk r a) = sk r a then 0 else 1) else (if nx u (sk r a) = sk r b then -1 else 0)) 0 z
    have e2 : sJ (fun b => coX nx (sk r a) (sk r b) (u + 1)) 0 z = sJ (fun t => coX nx (sk r a) (sk r t) u + (if sk r a = sk r t then (if nx u (sk r a) = sk r a then 0 else 1) else (if nx u (sk r a) = sk r t then -1 else 0))) 0 z := rfl
    rw [e2, e]
    have h9 : 0 ≤ sJ (fun b => if sk r a = sk r b then (if nx u (sk r a) = sk r a then 0 else 1) else (if nx u (sk r a) = sk r b then (-1 : Int) else 0)) 0 z := by
      by_cases h1 : nx u (sk r a) = sk r a
      · refine sJ_nn (fun t _ _ => ?_)
        show 0 ≤ if sk r a = sk r t then (if nx u (sk r a) = sk r a then (0 : Int) else 1) else (if nx u (sk r a) = sk r t then -1 else 0)
        rw [if_pos h1]
        by_cases h2 : sk r a = sk r t
        · rw [if_pos h2]; omega
        · rw [if_neg h2, if_neg (fun q => h2 (h1.symm.trans q))]; omega
      · have h2 := sJ_le (f := fun t => (if t = a then (1 : Int) else 0) + (if t = iw (nx u (sk r a)) r then (-1 : Int) else 0)) (g := fun b => if sk r a = sk r b then (if nx u (sk r a) = sk r a then 0 else 1) else (if nx u (sk r a) = sk r b then (-1 : Int) else 0)) (a := 0) (c := z) (fun t _ _ => by
          show (if t = a then (1 : Int) else 0) + (if t = iw (nx u (sk r a)) r then (-1 : Int) else 0) ≤ if sk r a = sk r t then (if nx u (sk r a) = sk r a then (0 : Int) else 1) else (if nx u (sk r a) = sk r t then -1 else 0)
          rw [if_neg h1]
          by_cases q : t = a
          · rw [if_pos q, if_pos (show sk r a = sk r t by rw [q])]; split <;> omega
          · rw [if_neg q, if_neg (fun z => q (sk_inj z).symm)]
            by_cases q2 : nx u (sk r a) = sk r t
            · rw [if_pos q2, if_pos (show t = iw (nx u (sk r a)) r by rw [q2, iw_sk])]; omega
            · rw [if_neg q2]; split <;> omega)
        rw [sJ_add, sJ_one, sJ_one, if_pos (by omega)] at h2
        have h3 : ∀ (P : Prop) [Decidable P], (-1 : Int) ≤ (if P then -1 else 0) := fun P _ => by split <;> omega
        have h4 := h3 (0 ≤ iw (nx u (sk r a)) r ∧ iw (nx u (sk r a)) r < 0 + z)
        omega
    omega
theorem ZI_tmx (nx : Nat → Nat → Nat) (r z : Nat) : ZI z 0 (tmx nx r) 1 := by
  have e1 : (1 : Int64).toInt = 1 := by decide
  refine ⟨by rw [e1]; decide, by rw [e1]; decide, fun i j _ h1 _ h2 h3 => ?_, fun i _ h1 => ⟨?_, ?_⟩⟩
  · rw [tmx_t]; exact (coX_b nx _ _ 8).2.2 (fun q => h3 (sk_inj q).symm)
  · have := co_row nx (r := r) (a := i) (z := z) h1 8
    rw [Nat.sub_zero]
    refine Int.le_trans this (Int.le_of_eq (sJ_congr (fun t _ _ => ?_)))
    exact (tmx_t nx r i t).symm
  · rw [tmx_t, e1]; have := (coX_b nx (sk r i) (sk r i) 8).2.1; omega
/-- how many states below i are not the root -/
def szF (r i : Nat) : Nat := if i ≤ r then i else i - 1
theorem sz_sp (r i : Nat) : (i ≤ r ∧ szF r i = i) ∨ (r < i ∧ szF r i + 1 = i) := by unfold szF; split <;> omega
theorem sk_sz {r i : Nat} (h : ¬ i = r) : sk r (szF r i) = i := by
  unfold sk szF
  by_cases h2 : i ≤ r
  · rw [if_pos h2, if_pos (by omega)]
  · rw [if_neg h2, if_neg (by omega)]; omega
theorem tmx_sz (nx : Nat → Nat → Nat) {r i j : Nat} (hi : ¬ i = r) (hj : ¬ j = r) : Int64.ofInt (coX nx i j 8) = tmx nx r (szF r i) (szF r j) := by rw [tmx_co, sk_sz hi, sk_sz hj]
def swp (k p : Nat) (M : Nat → Nat → Int64) (a b : Nat) : Int64 := if a = p then M k b else if a = k then M p b else M a b
def sw2 (k p : Nat) (M : Nat → Nat → Int64) (j a b : Nat) : Int64 := if b < j then swp k p M a b else M a b
def tsum (nx : Nat → Nat → Nat) (n : Nat) (b : Int32) : Nat → Int64
  | 0 => 0
  | z + 1 => tsum nx n b z + (if b = (-1) ∨ b = nI z then trF nx n z else 0)
theorem tsum_m (nx : Nat → Nat → Nat) (n : Nat) : ∀ z, tsum nx n (-1) z = trS nx n z := by
  intro z
  induction z with
  | zero => rfl
  | succ z ih => show tsum nx n (-1) z + _ = trS nx n z + trF nx n z; rw [if_pos (Or.inl rfl), ih]
theorem tsum_x (nx : Nat → Nat → Nat) (n x : Nat) (hx : x < 2 ^ 31) : ∀ z, z < 2 ^ 31 → tsum nx n (nI x) z = if x < z then trF nx n x else 0 := by
  intro z
  induction z with
  | zero => intro _; rfl
  | succ z ih =>
    intro hz
    show tsum nx n (nI x) z + _ = _
    rw [ih (by omega)]
    by_cases h : x = z
    · rw [if_pos (Or.inr (by rw [h])), if_neg (by omega), if_pos (by omega), Int64.zero_add, h]
    · rw [if_neg (show ¬ (nI x = (-1) ∨ nI x = nI z) from fun q => q.elim (ni_m1 hx) (fun q2 => h ((nI_eq hx (by omega)).mp q2))), Int64.add_zero]
      by_cases h2 : x < z
      · rw [if_pos h2, if_pos (by omega)]
      · rw [if_neg h2, if_neg (by omega)]

set_option maxHeartbeats 4000000 in
set_option maxRecDepth 100000 in
theorem L5_cellOf {p : Program} {l : Launch} {e : Env} {s : State} {m : MethodId} {args : Array Value} {below : List Frame} {meth : Method} {c : Code} {H : Heap} {locs : List Loc} {Q : State → Prop} (S : CallFix p m c cX5_cellOf 6 s args wsX5_cellOf RX5) {D : va_G} {cy : Nat → ClassId} {Ad : Nat → Nat} {n mm : Nat} {pk : Int64} {tr : Int32} {C : pw_C} (hK : pw_K D cy s) (hP : pw_P D cy Ad shM C H) (hF : fM n mm pk tr Ad C) (hn : 1 ≤ n ∧ n ≤ 12) {nx : Nat → Nat → Nat} (hN : rN n nx C) (x y : Nat) (hx0 : x < n) (hy0 : y < n) (hq : ∀ (pc9 : Nat) (ls : Array Slot), decode cX5_cellOf pc9 = .ok (.lreturn, 1) → W p l e (k2_rm 0 0) s m args below meth c H locs 0 0 Q (F0 m pc9 ls [.long (Int64.ofInt (coX nx x y 8))])) : ∀ (f : Nat) (u : Nat) (ls : Array Slot), 8 - u < f → (u ≤ 8) → lv_has ls 6 [(3, .int (Int32.ofInt (coX nx x y u))), (4, .int (nI u)), (0, .ref (Ad 0)), (1, .int (nI x)), (2, .int (nI y))] → W p l e (k2_rm 0 0) s m args below meth c H locs 0 0 Q (F0 m 5 ls []) := by
  have hx := S.1
  have hb := S.2.1
  have hml := S.2.2.1
  have hown := S.2.2.2.1
  have hts := S.2.2.2.2
  intro f
  induction f with
  | zero => intro u ls hf; exact absurd hf (Nat.not_lt_zero _)
  | succ f ih =>
    intro u ls hf hu hl
    refine lv_iload hx hb dX5_cellOf_5 (lv_at hl 1 rfl) ?_
    refine lv_bipush (v := nI 8) hx hb dX5_cellOf_7 (by decide) ?_
    refine pn_icmp_ge (tgt := 65) hx hb (by omega) (by omega) dX5_cellOf_9 (by decide) (fun c_9 => ?_) (fun c_9 => ?_)
    · obtain rfl : u = 8 := by omega
      refine lv_iload_n hx hb dX5_cellOf_65 rfl (lv_at hl 0 rfl) ?_
      refine lv_i2l hx hb dX5_cellOf_66 rfl ?_
      refine pw_topl (y := Int64.ofInt (coX nx x y 8)) (co_l (by have := coX_b nx x y 8; omega)) ?_
      exact hq _ ls dX5_cellOf_67
    · refine lv_aload_n hx hb dX5_cellOf_12 rfl (lv_at hl 2 rfl) ?_
      refine pw_get hx hb hts (fun _ h9 => List.mem_cons_of_mem _ (List.mem_append_right _ h9)) hown hK hP 0 rfl rfl 1 (by decide) hF rfl (hts (.fieldLink RX5 7 "PastDrawsModel" "rules" "[I") (List.mem_of_getElem? (i := 1) rfl)) dX5_cellOf_13 ?_
      refine lv_bipush (v := nI 8) hx hb dX5_cellOf_16 (by decide) ?_
      refine lv_iload_n hx hb dX5_cellOf_18 rfl (lv_at hl 3 rfl) ?_
      refine lv_imul hx hb dX5_cellOf_19 ?_
      refine pw_topi (pk_mul _ _) ?_
      refine lv_iload hx hb dX5_cellOf_20 (lv_at hl 1 rfl) ?_
      refine lv_iadd hx hb dX5_cellOf_22 ?_
      refine pw_topi (nI_add _ _) ?_
      have hu_23 : u < 8 := (by first | exact sgn_lt _ _ | omega)
      have hx_23 : x < n := (by first | exact sgn_lt _ _ | omega)
      have q_23 : nx u x < n := (hN _ hu_23 _ hx_23).1
      refine pw_iald hx hb hK hP 1 rfl (by omega) (by decide) (v := nI (nx u x)) (hN _ hu_23 _ hx_23).2 dX5_cellOf_23 ?_
      refine lv_istore (lv' := [(5, .int (nI (nx u x))), (3, .int (Int32.ofInt (coX nx x y u))), (4, .int (nI u)), (0, .ref (Ad 0)), (1, .int (nI x)), (2, .int (nI y))]) hx hb dX5_cellOf_24 hl (by decide) rfl (fun ls hl => ?_)
      refine lv_iload_n hx hb dX5_cellOf_26 rfl (lv_at hl 1 rfl) ?_
      refine lv_iload_n hx hb dX5_cellOf_27 rfl (lv_at hl 4 rfl) ?_
      refine lv_iload_n hx hb dX5_cellOf_28 rfl (lv_at hl 5 rfl) ?_
      refine pn_icmp_ne (tgt := 46) hx hb (by omega) (by omega) dX5_cellOf_29 (by decide) (fun c_29 => ?_) (fun c_29 => ?_)
      · refine lv_iload hx hb dX5_cellOf_46 (lv_at hl 0 rfl) ?_
        refine lv_iload_n hx hb dX5_cellOf_48 rfl (lv_at hl 5 rfl) ?_
        refine pn_icmp_ne (tgt := 56) hx hb (by omega) (by omega) dX5_cellOf_49 (by decide) (fun c_49 => ?_) (fun c_49 => ?_)
        · refine lv_iconst (v := nI 0) hx hb dX5_cellOf_56 (by decide) ?_
          refine lv_iadd hx hb dX5_cellOf_57 ?_
          refine pw_topi (y := Int32.ofInt (coX nx x y (u + 1))) (by show _ = Int32.ofInt (coX nx x y u + _); (first | rw [if_pos c_29] | rw [if_neg c_29]); (first | rw [if_pos c_35] | rw [if_neg c_35] | rw [if_pos c_49] | rw [if_neg c_49]); (first | rw [co_p1] | rw [co_m1] | rw [co_z])) ?_
          refine lv_istore_n (lv' := [(3, .int (Int32.ofInt (coX nx x y (u + 1)))), (5, .int (nI (nx u x))), (4, .int (nI u)), (0, .ref (Ad 0)), (1, .int (nI x)), (2, .int (nI y))]) hx hb dX5_cellOf_58 rfl hl (by decide) rfl (fun ls hl => ?_)
          refine lv_iinc (v := nI (u + 1)) (lv' := [(4, .int (nI (u + 1))), (3, .int (Int32.ofInt (coX nx x y (u + 1)))), (5, .int (nI (nx u x))), (0, .ref (Ad 0)), (1, .int (nI x)), (2, .int (nI y))]) hx hb dX5_cellOf_59 hl (k := 2) rfl (nI_add _ 1) (by decide) rfl (fun ls hl => ?_)
          refine lv_goto (tgt := 5) hx hb dX5_cellOf_62 (by decide) ?_
          exact ih (u + 1) ls (by omega) (by omega) (lv_sub hl [1, 0, 3, 4, 5] rfl)
        · refine lv_iconst (v := (-1)) hx hb dX5_cellOf_52 (by decide) ?_
          refine lv_goto (tgt := 57) hx hb dX5_cellOf_53 (by decide) ?_
          refine lv_iadd hx hb dX5_cellOf_57 ?_
          refine pw_topi (y := Int32.ofInt (coX nx x y (u + 1))) (by show _ = Int32.ofInt (coX nx x y u + _); (first | rw [if_pos c_29] | rw [if_neg c_29]); (first | rw [if_pos c_35] | rw [if_neg c_35] | rw [if_pos c_49] | rw [if_neg c_49]); (first | rw [co_p1] | rw [co_m1] | rw [co_z])) ?_
          refine lv_istore_n (lv' := [(3, .int (Int32.ofInt (coX nx x y (u + 1)))), (5, .int (nI (nx u x))), (4, .int (nI u)), (0, .ref (Ad 0)), (1, .int (nI x)), (2, .int (nI y))]) hx hb dX5_cellOf_58 rfl hl (by decide) rfl (fun ls hl => ?_)
          refine lv_iinc (v := nI (u + 1)) (lv' := [(4, .int (nI (u + 1))), (3, .int (Int32.ofInt (coX nx x y (u + 1)))), (5, .int (nI (nx u x))), (0, .ref (Ad 0)), (1, .int (nI x)), (2, .int (nI y))]) hx hb dX5_cellOf_59 hl (k := 2) rfl (nI_add _ 1) (by decide) rfl (fun ls hl => ?_)
          refine lv_goto (tgt := 5) hx hb dX5_cellOf_62 (by decide) ?_
          exact ih (u + 1) ls (by omega) (by omega) (lv_sub hl [1, 0, 3, 4, 5] rfl)
      · refine lv_iload hx hb dX5_cellOf_32 (lv_at hl 0 rfl) ?_
        refine lv_iload_n hx hb dX5_cellOf_34 rfl (lv_at hl 4 rfl) ?_
        refine pn_icmp_eq (tgt := 42) hx hb (by omega) (by omega) dX5_cellOf_35 (by decide) (fun c_35 => ?_) (fun c_35 => ?_)
        · refine lv_iconst (v := nI 0) hx hb dX5_cellOf_42 (by decide) ?_
          refine lv_goto (tgt := 57) hx hb dX5_cellOf_43 (by decide) ?_
          refine lv_iadd hx hb dX5_cellOf_57 ?_
          refine pw_topi (y := Int32.ofInt (coX nx x y (u + 1))) (by show _ = Int32.ofInt (coX nx x y u + _); (first | rw [if_pos c_29] | rw [if_neg c_29]); (first | rw [if_pos c_35] | rw [if_neg c_35] | rw [if_pos c_49] | rw [if_neg c_49]); (first | rw [co_p1] | rw [co_m1] | rw [co_z])) ?_
          refine lv_istore_n (lv' := [(3, .int (Int32.ofInt (coX nx x y (u + 1)))), (5, .int (nI (nx u x))), (4, .int (nI u)), (0, .ref (Ad 0)), (1, .int (nI x)), (2, .int (nI y))]) hx hb dX5_cellOf_58 rfl hl (by decide) rfl (fun ls hl => ?_)
          refine lv_iinc (v := nI (u + 1)) (lv' := [(4, .int (nI (u + 1))), (3, .int (Int32.ofInt (coX nx x y (u + 1)))), (5, .int (nI (nx u x))), (0, .ref (Ad 0)), (1, .int (nI x)), (2, .int (nI y))]) hx hb dX5_cellOf_59 hl (k := 2) rfl (nI_add _ 1) (by decide) rfl (fun ls hl => ?_)
          refine lv_goto (tgt := 5) hx hb dX5_cellOf_62 (by decide) ?_
          exact ih (u + 1) ls (by omega) (by omega) (lv_sub hl [1, 0, 3, 4, 5] rfl)
        · refine lv_iconst (v := nI 1) hx hb dX5_cellOf_38 (by decide) ?_
          refine lv_goto (tgt := 57) hx hb dX5_cellOf_39 (by decide) ?_
          refine lv_iadd hx hb dX5_cellOf_57 ?_
          refine pw_topi (y := Int32.ofInt (coX nx x y (u + 1))) (by show _ = Int32.ofInt (coX nx x y u + _); (first | rw [if_pos c_29] | rw [if_neg c_29]); (first | rw [if_pos c_35] | rw [if_neg c_35] | rw [if_pos c_49] | rw [if_neg c_49]); (first | rw [co_p1] | rw [co_m1] | rw [co_z])) ?_
          refine lv_istore_n (lv' := [(3, .int (Int32.ofInt (coX nx x y (u + 1)))), (5, .int (nI (nx u x))), (4, .int (nI u)), (0, .ref (Ad 0)), (1, .int (nI x)), (2, .int (nI y))]) hx hb dX5_cellOf_58 rfl hl (by decide) rfl (fun ls hl => ?_)
          refine lv_iinc (v := nI (u + 1)) (lv' := [(4, .int (nI (u + 1))), (3, .int (Int32.ofInt (coX nx x y (u + 1)))), (5, .int (nI (nx u x))), (0, .ref (Ad 0)), (1, .int (nI x)), (2, .int (nI y))]) hx hb dX5_cellOf_59 hl (k := 2) rfl (nI_add _ 1) (by decide) rfl (fun ls hl => ?_)
          refine lv_goto (tgt := 5) hx hb dX5_cellOf_62 (by decide) ?_
          exact ih (u + 1) ls (by omega) (by omega) (lv_sub hl [1, 0, 3, 4, 5] rfl)

set_option maxHeartbeats 4000000 in
set_option maxRecDepth 100000 in
theorem c_X5_cellOf (l : Launch) (D : va_G) (cy : Nat → ClassId) (Ad : Nat → Nat) (n mm : Nat) (pk : Int64) (tr : Int32) (C : pw_C) (hn : 1 ≤ n ∧ n ≤ 12) (hF : fM n mm pk tr Ad C) (nx : Nat → Nat → Nat) (hN : rN n nx C) (x y : Nat) (hx0 : x < n) (hy0 : y < n) : Met l yX5_cellOf wsX5_cellOf (k2_rm 0 0) (pw_Pre ([.ref (Ad 0), .int (nI x), .int (nI y)]) D cy Ad shM C) (k2_QcV (.long (Int64.ofInt (coX nx x y 8)))) 0 0 (fun _ => False) := by
  refine Met.ofW (cc := cX5_cellOf) (maxL := 6) (ret := (some .long)) (by decide) rfl ?_
  intro p e s m args below meth c s₁ B hml hv
  obtain ⟨rfl, hP, hK⟩ := hv
  have hx := B.exec
  have hb := B.bytes
  have hr := B.returns
  have hts := atoms_spec (ws := wsX5_cellOf) B.pre
  have hown : s.vm.findClass RX5 = some m.cls := findClass_of_methodNamed B.named
  have hlocks := B.notSynchronized
  have S : CallFix p m c cX5_cellOf 6 s ([.ref (Ad 0), .int (nI x), .int (nI y)]).toArray wsX5_cellOf RX5 := ⟨hx, hb, hml, hown, hts⟩
  change W p l e (k2_rm 0 0) s m _ below meth c s.heap [] 0 0 _ _
  have hl := lv_entry ([.ref (Ad 0), .int (nI x), .int (nI y)]) (n := 6) (Nat.le_of_ble_eq_true rfl)
  rw [lg_entry_eq]
  generalize (lg_sl ([.ref (Ad 0), .int (nI x), .int (nI y)]) ++ List.replicate (6 - (lg_sl ([.ref (Ad 0), .int (nI x), .int (nI y)])).length) Slot.unset).toArray = ls at hl ⊢
  have hl : lv_has ls 6 [(0, .ref (Ad 0)), (1, .int (nI x)), (2, .int (nI y))] := hl
  refine lv_iconst (v := nI 0) hx hb dX5_cellOf_0 (by decide) ?_
  refine lv_istore_n (lv' := [(3, .int (nI 0)), (0, .ref (Ad 0)), (1, .int (nI x)), (2, .int (nI y))]) hx hb dX5_cellOf_1 rfl hl (by decide) rfl (fun ls hl => ?_)
  refine lv_iconst (v := nI 0) hx hb dX5_cellOf_2 (by decide) ?_
  refine lv_istore (lv' := [(4, .int (nI 0)), (3, .int (nI 0)), (0, .ref (Ad 0)), (1, .int (nI x)), (2, .int (nI y))]) hx hb dX5_cellOf_3 hl (by decide) rfl (fun ls hl => ?_)
  exact L5_cellOf S hK hP hF hn hN x y hx0 hy0 (fun pc9 ls hd9 => W.lret hx hb hr (fun t ht _ => ⟨rfl, ht⟩) (fun q h => by cases h) hd9) 9 0 ls (by omega) (by omega) (lv_sub hl [1, 0, 2, 3, 4] rfl)

set_option maxHeartbeats 4000000 in
set_option maxRecDepth 100000 in
theorem L5_det_w {p : Program} {l : Launch} {e : Env} {s : State} {m : MethodId} {args : Array Value} {below : List Frame} {meth : Method} {c : Code} {H : Heap} {locs : List Loc} {Q : State → Prop} (S : CallFix p m c cX5_determinant 11 s args wsX5_determinant RX5) {D : va_G} {cy : Nat → ClassId} {Ad : Nat → Nat} {n mm : Nat} {pk : Int64} {tr : Int32} {C : pw_C} (hK : pw_K D cy s) (hP : pw_P D cy Ad shM C H) (hF : fM n mm pk tr Ad C) (hn : 1 ≤ n ∧ n ≤ 12) (z q : Nat) (hz : z ≤ 11) (hqz : q < z) (M : Nat → Nat → Int64) (d sg : Int64) (hM : ∀ a b, a < z → b < z → C.2.1 10 (12 * a + b) = M a b) (hk : ∀ (p9 : Nat) (ls : Array Slot), q ≤ p9 → p9 ≤ z → (∀ t, q ≤ t → t < p9 → M t q = 0) → (p9 < z → ¬ M p9 q = 0) → lv_has ls 11 [(7, .int (nI p9)), (1, .int (nI z)), (2, .long d), (4, .long sg), (6, .int (nI q)), (0, .ref (Ad 0))] → W p l e (k2_rm 0 0) s m args below meth c H locs 0 0 Q (F0 m 48 ls [])) : ∀ (f : Nat) (p9 : Nat) (ls : Array Slot), z - p9 < f → (q ≤ p9) → (p9 ≤ z) → (∀ t, q ≤ t → t < p9 → M t q = 0) → lv_has ls 11 [(7, .int (nI p9)), (1, .int (nI z)), (2, .long d), (4, .long sg), (6, .int (nI q)), (0, .ref (Ad 0))] → W p l e (k2_rm 0 0) s m args below meth c H locs 0 0 Q (F0 m 18 ls []) := by
  have hx := S.1
  have hb := S.2.1
  have hml := S.2.2.1
  have hown := S.2.2.2.1
  have hts := S.2.2.2.2
  intro f
  induction f with
  | zero => intro p9 ls hf; exact absurd hf (Nat.not_lt_zero _)
  | succ f ih =>
    intro p9 ls hf hp1 hp2 hv hl
    refine lv_iload hx hb dX5_determinant_18 (lv_at hl 0 rfl) ?_
    refine lv_iload_n hx hb dX5_determinant_20 rfl (lv_at hl 1 rfl) ?_
    refine pn_icmp_ge (tgt := 48) hx hb (by omega) (by omega) dX5_determinant_21 (by decide) (fun c_21 => ?_) (fun c_21 => ?_)
    · exact hk p9 ls hp1 hp2 hv (fun h9 => by omega) (lv_sub hl [0, 1, 2, 3, 4, 5] rfl)
    · refine lv_aload_n hx hb dX5_determinant_24 rfl (lv_at hl 5 rfl) ?_
      refine pw_get hx hb hts (fun _ h9 => List.mem_cons_of_mem _ (List.mem_append_right _ h9)) hown hK hP 0 rfl rfl 13 (by decide) hF rfl (hts (.fieldLink RX5 42 "PastDrawsModel" "cells" "[J") (List.mem_of_getElem? (i := 1) rfl)) dX5_determinant_25 ?_
      refine lv_bipush (v := nI 12) hx hb dX5_determinant_28 (by decide) ?_
      refine lv_iload hx hb dX5_determinant_30 (lv_at hl 0 rfl) ?_
      refine lv_imul hx hb dX5_determinant_32 ?_
      refine pw_topi (pk_mul _ _) ?_
      refine lv_iload hx hb dX5_determinant_33 (lv_at hl 4 rfl) ?_
      refine lv_iadd hx hb dX5_determinant_35 ?_
      refine pw_topi (nI_add _ _) ?_
      refine pw_lald hx hb hK hP 10 rfl (by omega) (by decide) (v := M p9 q) (hM p9 q (by omega) (by omega)) dX5_determinant_36 ?_
      refine lv_lconst (v := 0) hx hb dX5_determinant_37 (by decide) ?_
      refine W.lcmp hx hb dX5_determinant_38 ?_
      refine pn_lif_ne (tgt := 48) hx hb dX5_determinant_39 (by decide) (fun c_39 => ?_) (fun c_39 => ?_)
      · exact hk p9 ls hp1 hp2 hv (fun _ => c_39) (lv_sub hl [0, 1, 2, 3, 4, 5] rfl)
      · refine lv_iinc (v := nI (p9 + 1)) (lv' := [(7, .int (nI (p9 + 1))), (1, .int (nI z)), (2, .long d), (4, .long sg), (6, .int (nI q)), (0, .ref (Ad 0))]) hx hb dX5_determinant_42 hl (k := 0) rfl (nI_add _ 1) (by decide) rfl (fun ls hl => ?_)
        refine lv_goto (tgt := 18) hx hb dX5_determinant_45 (by decide) ?_
        exact ih (p9 + 1) ls (by omega) (by omega) (by omega) (fun t h1 h2 => by
          rcases Nat.lt_or_ge t p9 with g | g
          · exact hv t h1 g
          · obtain rfl : t = p9 := by omega
            exact c_39) (lv_sub hl [0, 1, 2, 3, 4, 5] rfl)

set_option maxHeartbeats 4000000 in
set_option maxRecDepth 100000 in
theorem L5_det_s {p : Program} {l : Launch} {e : Env} {s : State} {m : MethodId} {args : Array Value} {below : List Frame} {meth : Method} {c : Code} {Q : State → Prop} (S : CallFix p m c cX5_determinant 11 s args wsX5_determinant RX5) {D : va_G} {cy : Nat → ClassId} {Ad : Nat → Nat} {n mm : Nat} {pk : Int64} {tr : Int32} {C0 : pw_C} (hK : pw_K D cy s) (hI : pw_I Ad shM) (hF0 : fM n mm pk tr Ad C0) (hn : 1 ≤ n ∧ n ≤ 12) (z q : Nat) (hz : z ≤ 11) (hqz : q < z) (M : Nat → Nat → Int64) (d sg : Int64) (p9 : Nat) (hp9 : p9 < z) (hne : ¬ p9 = q) (hk : ∀ (C : pw_C) (H : Heap) (locs : List Loc) (ls : Array Slot), pw_P D cy Ad shM C H → va_S (pw_fr Ad shM) s.heap H locs → (pw_B (fun k => k = 10) C0 C ∧ ∀ a b, a < z → b < z → C.2.1 10 (12 * a + b) = swp q p9 M a b) → lv_has ls 11 [(7, .int (nI p9)), (1, .int (nI z)), (2, .long d), (4, .long sg), (6, .int (nI q)), (0, .ref (Ad 0))] → W p l e (k2_rm 0 0) s m args below meth c H locs 0 0 Q (F0 m 134 ls [])) : ∀ (f : Nat) (C : pw_C) (H : Heap) (locs : List Loc) (j : Nat) (ls : Array Slot), z - j < f → (pw_P D cy Ad shM C H) → (va_S (pw_fr Ad shM) s.heap H locs) → (pw_B (fun k => k = 10) C0 C) → (j ≤ z) → (∀ a b, a < z → b < z → C.2.1 10 (12 * a + b) = sw2 q p9 M j a b) → lv_has ls 11 [(8, .int (nI j)), (7, .int (nI p9)), (1, .int (nI z)), (2, .long d), (4, .long sg), (6, .int (nI q)), (0, .ref (Ad 0))] → W p l e (k2_rm 0 0) s m args below meth c H locs 0 0 Q (F0 m 59 ls []) := by
  have hx := S.1
  have hb := S.2.1
  have hml := S.2.2.1
  have hown := S.2.2.2.1
  have hts := S.2.2.2.2
  intro f
  induction f with
  | zero => intro C H locs j ls hf; exact absurd hf (Nat.not_lt_zero _)
  | succ f ih =>
    intro C H locs j ls hf hP hS hB hj hv hl
    have hF := fM_B hF0 hB
    refine lv_iload hx hb dX5_determinant_59 (lv_at hl 0 rfl) ?_
    refine lv_iload_n hx hb dX5_determinant_61 rfl (lv_at hl 2 rfl) ?_
    refine pn_icmp_ge (tgt := 134) hx hb (by omega) (by omega) dX5_determinant_62 (by decide) (fun c_62 => ?_) (fun c_62 => ?_)
    · obtain rfl : j = z := by omega
      exact hk C H locs ls hP hS ⟨hB, fun a b ha hb9 => by rw [hv a b ha hb9]; unfold sw2; rw [if_pos hb9]⟩ (lv_sub hl [1, 2, 3, 4, 5, 6] rfl)
    · refine lv_iload hx hb dX5_determinant_65 (lv_at hl 1 rfl) ?_
      refine lv_iload hx hb dX5_determinant_67 (lv_at hl 5 rfl) ?_
      refine pn_icmp_eq (tgt := 134) hx hb (by omega) (by omega) dX5_determinant_69 (by decide) (fun c_69 => absurd c_69 (by omega)) (fun c_69 => ?_)
      refine lv_aload_n hx hb dX5_determinant_72 rfl (lv_at hl 6 rfl) ?_
      refine pw_get hx hb hts (fun _ h9 => List.mem_cons_of_mem _ (List.mem_append_right _ h9)) hown hK hP 0 rfl rfl 13 (by decide) hF rfl (hts (.fieldLink RX5 42 "PastDrawsModel" "cells" "[J") (List.mem_of_getElem? (i := 1) rfl)) dX5_determinant_73 ?_
      refine lv_bipush (v := nI 12) hx hb dX5_determinant_76 (by decide) ?_
      refine lv_iload hx hb dX5_determinant_78 (lv_at hl 1 rfl) ?_
      refine lv_imul hx hb dX5_determinant_80 ?_
      refine pw_topi (pk_mul _ _) ?_
      refine lv_iload hx hb dX5_determinant_81 (lv_at hl 0 rfl) ?_
      refine lv_iadd hx hb dX5_determinant_83 ?_
      refine pw_topi (nI_add _ _) ?_
      refine pw_lald hx hb hK hP 10 rfl (by omega) (by decide) (v := M p9 j) (by rw [hv _ _ (by omega) (by omega)]; unfold sw2; rw [if_neg (by omega)]) dX5_determinant_84 ?_
      refine lv_lstore (lv' := [(9, .long (M p9 j)), (8, .int (nI j)), (7, .int (nI p9)), (1, .int (nI z)), (2, .long d), (4, .long sg), (6, .int (nI q)), (0, .ref (Ad 0))]) hx hb dX5_determinant_85 hl (by decide) rfl (fun ls hl => ?_)
      refine lv_aload_n hx hb dX5_determinant_87 rfl (lv_at hl 7 rfl) ?_
      refine pw_get hx hb hts (fun _ h9 => List.mem_cons_of_mem _ (List.mem_append_right _ h9)) hown hK hP 0 rfl rfl 13 (by decide) hF rfl (hts (.fieldLink RX5 42 "PastDrawsModel" "cells" "[J") (List.mem_of_getElem? (i := 1) rfl)) dX5_determinant_88 ?_
      refine lv_bipush (v := nI 12) hx hb dX5_determinant_91 (by decide) ?_
      refine lv_iload hx hb dX5_determinant_93 (lv_at hl 2 rfl) ?_
      refine lv_imul hx hb dX5_determinant_95 ?_
      refine pw_topi (pk_mul _ _) ?_
      refine lv_iload hx hb dX5_determinant_96 (lv_at hl 1 rfl) ?_
      refine lv_iadd hx hb dX5_determinant_98 ?_
      refine pw_topi (nI_add _ _) ?_
      refine lv_aload_n hx hb dX5_determinant_99 rfl (lv_at hl 7 rfl) ?_
      refine pw_get hx hb hts (fun _ h9 => List.mem_cons_of_mem _ (List.mem_append_right _ h9)) hown hK hP 0 rfl rfl 13 (by decide) hF rfl (hts (.fieldLink RX5 42 "PastDrawsModel" "cells" "[J") (List.mem_of_getElem? (i := 1) rfl)) dX5_determinant_100 ?_
      refine lv_bipush (v := nI 12) hx hb dX5_determinant_103 (by decide) ?_
      refine lv_iload hx hb dX5_determinant_105 (lv_at hl 6 rfl) ?_
      refine lv_imul hx hb dX5_determinant_107 ?_
      refine pw_topi (pk_mul _ _) ?_
      refine lv_iload hx hb dX5_determinant_108 (lv_at hl 1 rfl) ?_
      refine lv_iadd hx hb dX5_determinant_110 ?_
      refine pw_topi (nI_add _ _) ?_
      refine pw_lald hx hb hK hP 10 rfl (by omega) (by decide) (v := M q j) (by rw [hv _ _ (by omega) (by omega)]; unfold sw2; rw [if_neg (by omega)]) dX5_determinant_111 ?_
      refine pw_last hx hb hK hP hI hS 10 rfl (by omega) (by decide) dX5_determinant_112 (fun H locs hP hS => ?_)
      obtain ⟨C112, hC112⟩ : ∃ z9, z9 = pw_setL C 10 ((12 * p9) + j) (M q j) := ⟨_, rfl⟩
      rw [← hC112] at hP
      have hB := by have hB9 := hB; exact (show pw_B (fun k => k = 10) C0 C112 by rw [hC112]; exact hB9.setL (by show 10 = 10; first | trivial | omega))
      have hF := fM_B hF0 hB
      refine lv_aload_n hx hb dX5_determinant_113 rfl (lv_at hl 7 rfl) ?_
      refine pw_get hx hb hts (fun _ h9 => List.mem_cons_of_mem _ (List.mem_append_right _ h9)) hown hK hP 0 rfl rfl 13 (by decide) hF rfl (hts (.fieldLink RX5 42 "PastDrawsModel" "cells" "[J") (List.mem_of_getElem? (i := 1) rfl)) dX5_determinant_114 ?_
      refine lv_bipush (v := nI 12) hx hb dX5_determinant_117 (by decide) ?_
      refine lv_iload hx hb dX5_determinant_119 (lv_at hl 6 rfl) ?_
      refine lv_imul hx hb dX5_determinant_121 ?_
      refine pw_topi (pk_mul _ _) ?_
      refine lv_iload hx hb dX5_determinant_122 (lv_at hl 1 rfl) ?_
      refine lv_iadd hx hb dX5_determinant_124 ?_
      refine pw_topi (nI_add _ _) ?_
      refine lv_lload hx hb dX5_determinant_125 (lv_at hl 0 rfl) ?_
      refine pw_last hx hb hK hP hI hS 10 rfl (by omega) (by decide) dX5_determinant_127 (fun H locs hP hS => ?_)
      obtain ⟨C127, hC127⟩ : ∃ z9, z9 = pw_setL C112 10 ((12 * q) + j) (M p9 j) := ⟨_, rfl⟩
      rw [← hC127] at hP
      have hB := by have hB9 := hB; exact (show pw_B (fun k => k = 10) C0 C127 by rw [hC127]; exact hB9.setL (by show 10 = 10; first | trivial | omega))
      have hF := fM_B hF0 hB
      refine lv_iinc (v := nI (j + 1)) (lv' := [(8, .int (nI (j + 1))), (9, .long (M p9 j)), (7, .int (nI p9)), (1, .int (nI z)), (2, .long d), (4, .long sg), (6, .int (nI q)), (0, .ref (Ad 0))]) hx hb dX5_determinant_128 hl (k := 1) rfl (nI_add _ 1) (by decide) rfl (fun ls hl => ?_)
      refine lv_goto (tgt := 59) hx hb dX5_determinant_131 (by decide) ?_
      exact ih C127 H locs (j + 1) ls (by omega) hP hS hB (by omega) (fun a b ha hb9 => by
        rw [hC127, sl_at]
        unfold sw2
        by_cases g1 : b = j
        · subst g1
          rw [if_pos (show b < b + 1 by omega)]
          unfold swp
          by_cases g2 : a = q
          · rw [if_pos (show 12 * a + b = 12 * q + b by omega), if_neg (show ¬ a = p9 by omega), if_pos g2]
          · rw [if_neg (show ¬ 12 * a + b = 12 * q + b by omega), hC112, sl_at]
            by_cases g3 : a = p9
            · rw [if_pos (show 12 * a + b = 12 * p9 + b by omega), if_pos g3]
            · rw [if_neg (show ¬ 12 * a + b = 12 * p9 + b by omega), if_neg g3, if_neg g2, hv a b ha hb9]
              unfold sw2
              rw [if_neg (by omega)]
        · rw [if_neg (show ¬ 12 * a + b = 12 * q + j by omega), hC112, sl_at, if_neg (show ¬ 12 * a + b = 12 * p9 + j by omega), hv a b ha hb9]
          unfold sw2
          by_cases g2 : b < j
          · rw [if_pos g2, if_pos (show b < j + 1 by omega)]
          · rw [if_neg g2, if_neg (show ¬ b < j + 1 by omega)]) (lv_sub hl [0, 2, 3, 4, 5, 6, 7] rfl)

set_option maxHeartbeats 4000000 in
set_option maxRecDepth 100000 in
theorem L5_det_j {p : Program} {l : Launch} {e : Env} {s : State} {m : MethodId} {args : Array Value} {below : List Frame} {meth : Method} {c : Code} {Q : State → Prop} (S : CallFix p m c cX5_determinant 11 s args wsX5_determinant RX5) {D : va_G} {cy : Nat → ClassId} {Ad : Nat → Nat} {n mm : Nat} {pk : Int64} {tr : Int32} {C0 : pw_C} (hK : pw_K D cy s) (hI : pw_I Ad shM) (hF0 : fM n mm pk tr Ad C0) (hn : 1 ≤ n ∧ n ≤ 12) (z q : Nat) (hz : z ≤ 11) (hqz : q < z) (M : Nat → Nat → Int64) (d sg : Int64) (hd0 : ¬ d = 0) (i : Nat) (hik : q < i) (hiz : i < z) (hk : ∀ (C : pw_C) (H : Heap) (locs : List Loc) (ls : Array Slot), pw_P D cy Ad shM C H → va_S (pw_fr Ad shM) s.heap H locs → (pw_B (fun k => k = 10) C0 C ∧ ∀ a b, a < z → b < z → C.2.1 10 (12 * a + b) = el2 z q M d i z a b) → lv_has ls 11 [(8, .int (nI i)), (1, .int (nI z)), (2, .long d), (4, .long sg), (6, .int (nI q)), (0, .ref (Ad 0))] → W p l e (k2_rm 0 0) s m args below meth c H locs 0 0 Q (F0 m 251 ls [])) : ∀ (f : Nat) (C : pw_C) (H : Heap) (locs : List Loc) (j : Nat) (ls : Array Slot), z - j < f → (pw_P D cy Ad shM C H) → (va_S (pw_fr Ad shM) s.heap H locs) → (pw_B (fun k => k = 10) C0 C) → (q < j) → (j ≤ z) → (∀ a b, a < z → b < z → C.2.1 10 (12 * a + b) = el2 z q M d i j a b) → lv_has ls 11 [(9, .int (nI j)), (8, .int (nI i)), (1, .int (nI z)), (2, .long d), (4, .long sg), (6, .int (nI q)), (0, .ref (Ad 0))] → W p l e (k2_rm 0 0) s m args below meth c H locs 0 0 Q (F0 m 169 ls []) := by
  have hx := S.1
  have hb := S.2.1
  have hml := S.2.2.1
  have hown := S.2.2.2.1
  have hts := S.2.2.2.2
  intro f
  induction f with
  | zero => intro C H locs j ls hf; exact absurd hf (Nat.not_lt_zero _)
  | succ f ih =>
    intro C H locs j ls hf hP hS hB hjk hjz hv hl
    have hF := fM_B hF0 hB
    refine lv_iload hx hb dX5_determinant_169 (lv_at hl 0 rfl) ?_
    refine lv_iload_n hx hb dX5_determinant_171 rfl (lv_at hl 2 rfl) ?_
    refine pn_icmp_ge (tgt := 251) hx hb (by omega) (by omega) dX5_determinant_172 (by decide) (fun c_172 => ?_) (fun c_172 => ?_)
    · obtain rfl : j = z := by omega
      exact hk C H locs ls hP hS ⟨hB, hv⟩ (lv_sub hl [1, 2, 3, 4, 5, 6] rfl)
    · refine lv_aload_n hx hb dX5_determinant_175 rfl (lv_at hl 6 rfl) ?_
      refine pw_get hx hb hts (fun _ h9 => List.mem_cons_of_mem _ (List.mem_append_right _ h9)) hown hK hP 0 rfl rfl 13 (by decide) hF rfl (hts (.fieldLink RX5 42 "PastDrawsModel" "cells" "[J") (List.mem_of_getElem? (i := 1) rfl)) dX5_determinant_176 ?_
      refine lv_bipush (v := nI 12) hx hb dX5_determinant_179 (by decide) ?_
      refine lv_iload hx hb dX5_determinant_181 (lv_at hl 1 rfl) ?_
      refine lv_imul hx hb dX5_determinant_183 ?_
      refine pw_topi (pk_mul _ _) ?_
      refine lv_iload hx hb dX5_determinant_184 (lv_at hl 0 rfl) ?_
      refine lv_iadd hx hb dX5_determinant_186 ?_
      refine pw_topi (nI_add _ _) ?_
      refine lv_aload_n hx hb dX5_determinant_187 rfl (lv_at hl 6 rfl) ?_
      refine pw_get hx hb hts (fun _ h9 => List.mem_cons_of_mem _ (List.mem_append_right _ h9)) hown hK hP 0 rfl rfl 13 (by decide) hF rfl (hts (.fieldLink RX5 42 "PastDrawsModel" "cells" "[J") (List.mem_of_getElem? (i := 1) rfl)) dX5_determinant_188 ?_
      refine lv_bipush (v := nI 12) hx hb dX5_determinant_191 (by decide) ?_
      refine lv_iload hx hb dX5_determinant_193 (lv_at hl 1 rfl) ?_
      refine lv_imul hx hb dX5_determinant_195 ?_
      refine pw_topi (pk_mul _ _) ?_
      refine lv_iload hx hb dX5_determinant_196 (lv_at hl 0 rfl) ?_
      refine lv_iadd hx hb dX5_determinant_198 ?_
      refine pw_topi (nI_add _ _) ?_
      refine pw_lald hx hb hK hP 10 rfl (by omega) (by decide) (v := M i j) (by rw [hv _ _ (by omega) (by omega)]; unfold el2; rw [if_neg (by omega)]) dX5_determinant_199 ?_
      refine lv_aload_n hx hb dX5_determinant_200 rfl (lv_at hl 6 rfl) ?_
      refine pw_get hx hb hts (fun _ h9 => List.mem_cons_of_mem _ (List.mem_append_right _ h9)) hown hK hP 0 rfl rfl 13 (by decide) hF rfl (hts (.fieldLink RX5 42 "PastDrawsModel" "cells" "[J") (List.mem_of_getElem? (i := 1) rfl)) dX5_determinant_201 ?_
      refine lv_bipush (v := nI 12) hx hb dX5_determinant_204 (by decide) ?_
      refine lv_iload hx hb dX5_determinant_206 (lv_at hl 5 rfl) ?_
      refine lv_imul hx hb dX5_determinant_208 ?_
      refine pw_topi (pk_mul _ _) ?_
      refine lv_iload hx hb dX5_determinant_209 (lv_at hl 5 rfl) ?_
      refine lv_iadd hx hb dX5_determinant_211 ?_
      refine pw_topi (nI_add _ _) ?_
      refine pw_lald hx hb hK hP 10 rfl (by omega) (by decide) (v := M q q) (by rw [hv _ _ (by omega) (by omega)]; unfold el2; rw [if_neg (by omega)]) dX5_determinant_212 ?_
      refine lv_lmul hx hb dX5_determinant_213 ?_
      refine lv_aload_n hx hb dX5_determinant_214 rfl (lv_at hl 6 rfl) ?_
      refine pw_get hx hb hts (fun _ h9 => List.mem_cons_of_mem _ (List.mem_append_right _ h9)) hown hK hP 0 rfl rfl 13 (by decide) hF rfl (hts (.fieldLink RX5 42 "PastDrawsModel" "cells" "[J") (List.mem_of_getElem? (i := 1) rfl)) dX5_determinant_215 ?_
      refine lv_bipush (v := nI 12) hx hb dX5_determinant_218 (by decide) ?_
      refine lv_iload hx hb dX5_determinant_220 (lv_at hl 1 rfl) ?_
      refine lv_imul hx hb dX5_determinant_222 ?_
      refine pw_topi (pk_mul _ _) ?_
      refine lv_iload hx hb dX5_determinant_223 (lv_at hl 5 rfl) ?_
      refine lv_iadd hx hb dX5_determinant_225 ?_
      refine pw_topi (nI_add _ _) ?_
      refine pw_lald hx hb hK hP 10 rfl (by omega) (by decide) (v := M i q) (by rw [hv _ _ (by omega) (by omega)]; unfold el2; rw [if_neg (by omega)]) dX5_determinant_226 ?_
      refine lv_aload_n hx hb dX5_determinant_227 rfl (lv_at hl 6 rfl) ?_
      refine pw_get hx hb hts (fun _ h9 => List.mem_cons_of_mem _ (List.mem_append_right _ h9)) hown hK hP 0 rfl rfl 13 (by decide) hF rfl (hts (.fieldLink RX5 42 "PastDrawsModel" "cells" "[J") (List.mem_of_getElem? (i := 1) rfl)) dX5_determinant_228 ?_
      refine lv_bipush (v := nI 12) hx hb dX5_determinant_231 (by decide) ?_
      refine lv_iload hx hb dX5_determinant_233 (lv_at hl 5 rfl) ?_
      refine lv_imul hx hb dX5_determinant_235 ?_
      refine pw_topi (pk_mul _ _) ?_
      refine lv_iload hx hb dX5_determinant_236 (lv_at hl 0 rfl) ?_
      refine lv_iadd hx hb dX5_determinant_238 ?_
      refine pw_topi (nI_add _ _) ?_
      refine pw_lald hx hb hK hP 10 rfl (by omega) (by decide) (v := M q j) (by rw [hv _ _ (by omega) (by omega)]; unfold el2; rw [if_neg (by omega)]) dX5_determinant_239 ?_
      refine lv_lmul hx hb dX5_determinant_240 ?_
      refine lv_lsub hx hb dX5_determinant_241 ?_
      refine lv_lload_n hx hb dX5_determinant_242 rfl (lv_at hl 3 rfl) ?_
      refine lv_ldiv hx hb dX5_determinant_243 hd0 ?_
      refine pw_last hx hb hK hP hI hS 10 rfl (by omega) (by decide) dX5_determinant_244 (fun H locs hP hS => ?_)
      obtain ⟨C244, hC244⟩ : ∃ z9, z9 = pw_setL C 10 ((12 * i) + j) ((((M i j) * (M q q)) - ((M i q) * (M q j))) / d) := ⟨_, rfl⟩
      rw [← hC244] at hP
      have hB := by have hB9 := hB; exact (show pw_B (fun k => k = 10) C0 C244 by rw [hC244]; exact hB9.setL (by show 10 = 10; first | trivial | omega))
      have hF := fM_B hF0 hB
      refine lv_iinc (v := nI (j + 1)) (lv' := [(9, .int (nI (j + 1))), (8, .int (nI i)), (1, .int (nI z)), (2, .long d), (4, .long sg), (6, .int (nI q)), (0, .ref (Ad 0))]) hx hb dX5_determinant_245 hl (k := 0) rfl (nI_add _ 1) (by decide) rfl (fun ls hl => ?_)
      refine lv_goto (tgt := 169) hx hb dX5_determinant_248 (by decide) ?_
      exact ih C244 H locs (j + 1) ls (by omega) hP hS hB (by omega) (by omega) (fun a b ha hb9 => by
        rw [hC244, sl_at]
        by_cases g1 : a = i ∧ b = j
        · obtain ⟨rfl, rfl⟩ := g1
          rw [if_pos rfl]
          unfold el2
          rw [if_pos (by omega)]
        · rw [if_neg (by omega), hv _ _ ha hb9]
          unfold el2
          by_cases g : q < a ∧ q < b ∧ a < z ∧ b < z ∧ (a < i ∨ (a = i ∧ b < j))
          · rw [if_pos g, if_pos (by omega)]
          · rw [if_neg g, if_neg (by omega)]) (lv_sub hl [0, 1, 2, 3, 4, 5, 6] rfl)

set_option maxHeartbeats 4000000 in
set_option maxRecDepth 100000 in
theorem L5_det_i {p : Program} {l : Launch} {e : Env} {s : State} {m : MethodId} {args : Array Value} {below : List Frame} {meth : Method} {c : Code} {Q : State → Prop} (S : CallFix p m c cX5_determinant 11 s args wsX5_determinant RX5) {D : va_G} {cy : Nat → ClassId} {Ad : Nat → Nat} {n mm : Nat} {pk : Int64} {tr : Int32} {C0 : pw_C} (hK : pw_K D cy s) (hI : pw_I Ad shM) (hF0 : fM n mm pk tr Ad C0) (hn : 1 ≤ n ∧ n ≤ 12) (z q : Nat) (hz : z ≤ 11) (hqz : q < z) (M : Nat → Nat → Int64) (d sg : Int64) (hd0 : ¬ d = 0) (hk : ∀ (C : pw_C) (H : Heap) (locs : List Loc) (ls : Array Slot), pw_P D cy Ad shM C H → va_S (pw_fr Ad shM) s.heap H locs → (pw_B (fun k => k = 10) C0 C ∧ ∀ a b, a < z → b < z → C.2.1 10 (12 * a + b) = elim z q M d a b) → lv_has ls 11 [(1, .int (nI z)), (2, .long d), (4, .long sg), (6, .int (nI q)), (0, .ref (Ad 0))] → W p l e (k2_rm 0 0) s m args below meth c H locs 0 0 Q (F0 m 257 ls [])) : ∀ (f : Nat) (C : pw_C) (H : Heap) (locs : List Loc) (i : Nat) (ls : Array Slot), z - i < f → (pw_P D cy Ad shM C H) → (va_S (pw_fr Ad shM) s.heap H locs) → (pw_B (fun k => k = 10) C0 C) → (q < i) → (i ≤ z) → (∀ a b, a < z → b < z → C.2.1 10 (12 * a + b) = el2 z q M d i 0 a b) → lv_has ls 11 [(8, .int (nI i)), (1, .int (nI z)), (2, .long d), (4, .long sg), (6, .int (nI q)), (0, .ref (Ad 0))] → W p l e (k2_rm 0 0) s m args below meth c H locs 0 0 Q (F0 m 157 ls []) := by
  have hx := S.1
  have hb := S.2.1
  have hml := S.2.2.1
  have hown := S.2.2.2.1
  have hts := S.2.2.2.2
  intro f
  induction f with
  | zero => intro C H locs i ls hf; exact absurd hf (Nat.not_lt_zero _)
  | succ f ih =>
    intro C H locs i ls hf hP hS hB hik hiz hv hl
    refine lv_iload hx hb dX5_determinant_157 (lv_at hl 0 rfl) ?_
    refine lv_iload_n hx hb dX5_determinant_159 rfl (lv_at hl 1 rfl) ?_
    refine pn_icmp_ge (tgt := 257) hx hb (by omega) (by omega) dX5_determinant_160 (by decide) (fun c_160 => ?_) (fun c_160 => ?_)
    · obtain rfl : i = z := by omega
      exact hk C H locs ls hP hS ⟨hB, fun a b ha hb9 => by
        rw [hv _ _ ha hb9]
        unfold el2 elim
        by_cases g : q < a ∧ q < b ∧ a < i ∧ b < i
        · rw [if_pos (by omega), if_pos g]
        · rw [if_neg (by omega), if_neg g]⟩ (lv_sub hl [1, 2, 3, 4, 5] rfl)
    · refine lv_iload hx hb dX5_determinant_163 (lv_at hl 4 rfl) ?_
      refine lv_iconst (v := nI 1) hx hb dX5_determinant_165 (by decide) ?_
      refine lv_iadd hx hb dX5_determinant_166 ?_
      refine pw_topi (nI_add _ _) ?_
      refine lv_istore (lv' := [(9, .int (nI (q + 1))), (8, .int (nI i)), (1, .int (nI z)), (2, .long d), (4, .long sg), (6, .int (nI q)), (0, .ref (Ad 0))]) hx hb dX5_determinant_167 hl (by decide) rfl (fun ls hl => ?_)
      refine L5_det_j S hK hI hF0 hn z q hz hqz M d sg hd0 i (by omega) (by omega) (fun C H locs ls hP hS hR hl => ?_) (z + 1) C H locs (q + 1) ls (by omega) hP hS hB (by omega) (by omega) (fun a b ha hb9 => by
        rw [hv _ _ ha hb9]
        unfold el2
        by_cases g : q < a ∧ q < b ∧ a < z ∧ b < z ∧ a < i
        · rw [if_pos (by omega), if_pos (by omega)]
        · rw [if_neg (by omega), if_neg (by omega)]) (lv_sub hl [0, 1, 2, 3, 4, 5, 6] rfl)
      obtain ⟨hB, hv⟩ := hR
      refine lv_iinc (v := nI (i + 1)) (lv' := [(8, .int (nI (i + 1))), (1, .int (nI z)), (2, .long d), (4, .long sg), (6, .int (nI q)), (0, .ref (Ad 0))]) hx hb dX5_determinant_251 hl (k := 0) rfl (nI_add _ 1) (by decide) rfl (fun ls hl => ?_)
      refine lv_goto (tgt := 157) hx hb dX5_determinant_254 (by decide) ?_
      exact ih C H locs (i + 1) ls (by omega) hP hS hB (by omega) (by omega) (fun a b ha hb9 => by
        rw [hv _ _ ha hb9]
        unfold el2
        by_cases g : q < a ∧ q < b ∧ a < z ∧ b < z ∧ a < i + 1
        · rw [if_pos (by omega), if_pos (by omega)]
        · rw [if_neg (by omega), if_neg (by omega)]) (lv_sub hl [0, 1, 2, 3, 4, 5] rfl)

/-- a row of zeros from column q on -/
def zr (z q : Nat) (M : Nat → Nat → Int64) (y : Nat) : Prop := q ≤ y ∧ y < z ∧ ∀ b, q ≤ b → b < z → M y b = 0
theorem zr_elim {z q y : Nat} {M : Nat → Nat → Int64} {d : Int64} (h : zr z q M y) (hy : y ≠ q) : zr z (q + 1) (elim z q M d) y := by
  obtain ⟨h1, h2, h3⟩ := h
  refine ⟨by omega, h2, fun b g1 g2 => ?_⟩
  unfold elim
  by_cases g : q < y ∧ q < b ∧ y < z ∧ b < z
  · rw [if_pos g, h3 b (by omega) g2, h3 q (by omega) (by omega), Int64.zero_mul, Int64.zero_mul]
    show ((0 : Int64) - 0) / d = 0
    rw [Int64.sub_self, Int64.zero_div]
  · rw [if_neg g]; exact h3 b (by omega) g2
theorem zr_swp {z q y p9 : Nat} {M : Nat → Nat → Int64} (h : zr z q M y) (hp : q < p9 ∧ p9 < z) (hy : ¬ y = p9) : ∃ y2, y2 ≠ q ∧ zr z q (swp q p9 M) y2 := by
  obtain ⟨h1, h2, h3⟩ := h
  by_cases g : y = q
  · subst g
    refine ⟨p9, by omega, by omega, hp.2, fun b g1 g2 => ?_⟩
    unfold swp; rw [if_pos rfl]; exact h3 b g1 g2
  · refine ⟨y, g, h1, h2, fun b g1 g2 => ?_⟩
    unfold swp; rw [if_neg hy, if_neg g]; exact h3 b g1 g2

set_option maxHeartbeats 4000000 in
set_option maxRecDepth 100000 in
theorem L5_det_B {p : Program} {l : Launch} {e : Env} {s : State} {m : MethodId} {args : Array Value} {below : List Frame} {meth : Method} {c : Code} {Q : State → Prop} (S : CallFix p m c cX5_determinant 11 s args wsX5_determinant RX5) {D : va_G} {cy : Nat → ClassId} {Ad : Nat → Nat} {n mm : Nat} {pk : Int64} {tr : Int32} {C0 : pw_C} (hK : pw_K D cy s) (hI : pw_I Ad shM) (hF0 : fM n mm pk tr Ad C0) (hn : 1 ≤ n ∧ n ≤ 12) (z : Nat) (hz : z ≤ 11) (hq : ∀ (pc9 : Nat) (C : pw_C) (H : Heap) (locs : List Loc) (ls : Array Slot), decode cX5_determinant pc9 = .ok (.lreturn, 1) → pw_P D cy Ad shM C H → va_S (pw_fr Ad shM) s.heap H locs → (pw_B (fun k => k = 10) C0 C) → W p l e (k2_rm 0 0) s m args below meth c H locs 0 0 Q (F0 m pc9 ls [.long 0])) : ∀ (f : Nat) (C : pw_C) (H : Heap) (locs : List Loc) (q : Nat) (M : Nat → Nat → Int64) (d : Int64) (sg : Int64) (y0 : Nat) (ls : Array Slot), z - q < f → (pw_P D cy Ad shM C H) → (va_S (pw_fr Ad shM) s.heap H locs) → (pw_B (fun k => k = 10) C0 C) → (q ≤ z) → (¬ d = 0) → (∀ a b, a < z → b < z → C.2.1 10 (12 * a + b) = M a b) → (zr z q M y0) → lv_has ls 11 [(1, .int (nI z)), (2, .long d), (4, .long sg), (6, .int (nI q)), (0, .ref (Ad 0))] → W p l e (k2_rm 0 0) s m args below meth c H locs 0 0 Q (F0 m 8 ls []) := by
  have hx := S.1
  have hb := S.2.1
  have hml := S.2.2.1
  have hown := S.2.2.2.1
  have hts := S.2.2.2.2
  intro f
  induction f with
  | zero => intro C H locs q M d sg y0 ls hf; exact absurd hf (Nat.not_lt_zero _)
  | succ f ih =>
    intro C H locs q M d sg y0 ls hf hP hS hB hqz hd0 hv hzr hl
    have hF := fM_B hF0 hB
    refine lv_iload hx hb dX5_determinant_8 (lv_at hl 3 rfl) ?_
    refine lv_iload_n hx hb dX5_determinant_10 rfl (lv_at hl 0 rfl) ?_
    refine pn_icmp_ge (tgt := 277) hx hb (by omega) (by omega) dX5_determinant_11 (by decide) (fun c_11 => absurd c_11 (by have h9 := hzr.2.1; have h8 := hzr.1; omega)) (fun c_11 => ?_)
    refine lv_iload hx hb dX5_determinant_14 (lv_at hl 3 rfl) ?_
    refine lv_istore (lv' := [(7, .int (nI q)), (1, .int (nI z)), (2, .long d), (4, .long sg), (6, .int (nI q)), (0, .ref (Ad 0))]) hx hb dX5_determinant_16 hl (by decide) rfl (fun ls hl => ?_)
    refine L5_det_w S hK hP hF hn z q hz (by omega) M d sg hv (fun p9 ls hp1 hp2 hpz hpn hl => ?_) (z + 1) q ls (by omega) (by omega) (by omega) (fun t h1 h2 => by omega) (lv_sub hl [0, 1, 2, 3, 4, 5] rfl)
    refine lv_iload hx hb dX5_determinant_48 (lv_at hl 0 rfl) ?_
    refine lv_iload_n hx hb dX5_determinant_50 rfl (lv_at hl 1 rfl) ?_
    refine pn_icmp_ne (tgt := 56) hx hb (by omega) (by omega) dX5_determinant_51 (by decide) (fun c_51 => ?_) (fun c_51 => ?_)
    · refine lv_iconst (v := nI 0) hx hb dX5_determinant_56 (by decide) ?_
      refine lv_istore (lv' := [(8, .int (nI 0)), (7, .int (nI p9)), (1, .int (nI z)), (2, .long d), (4, .long sg), (6, .int (nI q)), (0, .ref (Ad 0))]) hx hb dX5_determinant_57 hl (by decide) rfl (fun ls hl => ?_)
      by_cases hpq : p9 = q
      · skip
        refine lv_iload hx hb dX5_determinant_59 (lv_at hl 0 rfl) ?_
        refine lv_iload_n hx hb dX5_determinant_61 rfl (lv_at hl 2 rfl) ?_
        refine pn_icmp_ge (tgt := 134) hx hb (by omega) (by omega) dX5_determinant_62 (by decide) (fun c_62 => absurd c_62 (by omega)) (fun c_62 => ?_)
        refine lv_iload hx hb dX5_determinant_65 (lv_at hl 1 rfl) ?_
        refine lv_iload hx hb dX5_determinant_67 (lv_at hl 5 rfl) ?_
        refine pn_icmp_eq (tgt := 134) hx hb (by omega) (by omega) dX5_determinant_69 (by decide) (fun c_69 => ?_) (fun c_69 => absurd hpq c_69)
        refine lv_iload hx hb dX5_determinant_134 (lv_at hl 1 rfl) ?_
        refine lv_iload hx hb dX5_determinant_136 (lv_at hl 5 rfl) ?_
        refine pn_icmp_ne (tgt := 146) hx hb (by omega) (by omega) dX5_determinant_138 (by decide) (fun c_138 => absurd c_138 (fun g => g hpq)) (fun c_138 => ?_)
        refine lv_lload hx hb dX5_determinant_141 (lv_at hl 4 rfl) ?_
        refine lv_goto (tgt := 149) hx hb dX5_determinant_143 (by decide) ?_
        refine lv_lstore (lv' := [(4, .long sg), (8, .int (nI 0)), (7, .int (nI p9)), (1, .int (nI z)), (2, .long d), (6, .int (nI q)), (0, .ref (Ad 0))]) hx hb dX5_determinant_149 hl (by decide) rfl (fun ls hl => ?_)
        refine lv_iload hx hb dX5_determinant_151 (lv_at hl 5 rfl) ?_
        refine lv_iconst (v := nI 1) hx hb dX5_determinant_153 (by decide) ?_
        refine lv_iadd hx hb dX5_determinant_154 ?_
        refine pw_topi (nI_add _ _) ?_
        refine lv_istore (lv' := [(8, .int (nI (q + 1))), (4, .long sg), (7, .int (nI p9)), (1, .int (nI z)), (2, .long d), (6, .int (nI q)), (0, .ref (Ad 0))]) hx hb dX5_determinant_155 hl (by decide) rfl (fun ls hl => ?_)
        obtain ⟨y2, hy2, hz2⟩ : ∃ y2, y2 ≠ q ∧ zr z q M y2 := ⟨y0, fun g => by
          have g9 := hzr.2.2 q (by omega) (by omega)
          rw [g, ← hpq] at g9
          have g8 := hpn (by omega)
          rw [hpq] at g9 g8
          exact g8 g9, hzr⟩
        refine L5_det_i S hK hI hF0 hn z q hz (by omega) (M) d sg hd0 (fun C8 H locs ls hP hS hR hl => ?_) (z + 1) C H locs (q + 1) ls (by omega) hP hS hB (by omega) (by omega) (fun a b ha hb9 => by
          rw [hv _ _ ha hb9]
          unfold el2
          rw [if_neg (by omega)]) (lv_sub hl [0, 3, 4, 1, 5, 6] rfl)
        obtain ⟨hB, hv⟩ := hR
        have hF := fM_B hF0 hB
        have hz3 := zr_elim (d := d) hz2 hy2
        have hpv : ¬ elim z q (M) d q q = 0 := by
          unfold elim
          rw [if_neg (by omega)]
          have g8 := hpn (by omega)
          rw [hpq] at g8
          exact g8
        refine lv_aload_n hx hb dX5_determinant_257 rfl (lv_at hl 4 rfl) ?_
        refine pw_get hx hb hts (fun _ h9 => List.mem_cons_of_mem _ (List.mem_append_right _ h9)) hown hK hP 0 rfl rfl 13 (by decide) hF rfl (hts (.fieldLink RX5 42 "PastDrawsModel" "cells" "[J") (List.mem_of_getElem? (i := 1) rfl)) dX5_determinant_258 ?_
        refine lv_bipush (v := nI 12) hx hb dX5_determinant_261 (by decide) ?_
        refine lv_iload hx hb dX5_determinant_263 (lv_at hl 3 rfl) ?_
        refine lv_imul hx hb dX5_determinant_265 ?_
        refine pw_topi (pk_mul _ _) ?_
        refine lv_iload hx hb dX5_determinant_266 (lv_at hl 3 rfl) ?_
        refine lv_iadd hx hb dX5_determinant_268 ?_
        refine pw_topi (nI_add _ _) ?_
        refine pw_lald hx hb hK hP 10 rfl (by omega) (by decide) (v := (elim z q (M) d) q q) (hv q q (by omega) (by omega)) dX5_determinant_269 ?_
        refine lv_lstore_n (lv' := [(2, .long ((elim z q (M) d) q q)), (1, .int (nI z)), (4, .long sg), (6, .int (nI q)), (0, .ref (Ad 0))]) hx hb dX5_determinant_270 rfl hl (by decide) rfl (fun ls hl => ?_)
        refine lv_iinc (v := nI (q + 1)) (lv' := [(6, .int (nI (q + 1))), (2, .long ((elim z q (M) d) q q)), (1, .int (nI z)), (4, .long sg), (0, .ref (Ad 0))]) hx hb dX5_determinant_271 hl (k := 3) rfl (nI_add _ 1) (by decide) rfl (fun ls hl => ?_)
        refine lv_goto (tgt := 8) hx hb dX5_determinant_274 (by decide) ?_
        exact ih C8 H locs (q + 1) (elim z q (M) d) _ sg y2 ls (by omega) hP hS hB (by omega) hpv hv hz3 (lv_sub hl [2, 1, 3, 0, 4] rfl)
      · refine L5_det_s S hK hI hF0 hn z q hz (by omega) M d sg p9 (by omega) hpq (fun C9 H locs ls hP hS hR hl => ?_) (z + 1) C H locs 0 ls (by omega) hP hS hB (by omega) (fun a b ha hb9 => by rw [hv a b ha hb9]; unfold sw2; rw [if_neg (by omega)]) (lv_sub hl [0, 1, 2, 3, 4, 5, 6] rfl)
        obtain ⟨hB, hv⟩ := hR
        have hF := fM_B hF0 hB
        refine lv_iload hx hb dX5_determinant_134 (lv_at hl 0 rfl) ?_
        refine lv_iload hx hb dX5_determinant_136 (lv_at hl 4 rfl) ?_
        refine pn_icmp_ne (tgt := 146) hx hb (by omega) (by omega) dX5_determinant_138 (by decide) (fun c_138 => ?_) (fun c_138 => absurd c_138 hpq)
        refine lv_lload hx hb dX5_determinant_146 (lv_at hl 3 rfl) ?_
        refine lv_lneg hx hb dX5_determinant_148 ?_
        refine lv_lstore (lv' := [(4, .long (0 - sg)), (7, .int (nI p9)), (1, .int (nI z)), (2, .long d), (6, .int (nI q)), (0, .ref (Ad 0))]) hx hb dX5_determinant_149 hl (by decide) rfl (fun ls hl => ?_)
        refine lv_iload hx hb dX5_determinant_151 (lv_at hl 4 rfl) ?_
        refine lv_iconst (v := nI 1) hx hb dX5_determinant_153 (by decide) ?_
        refine lv_iadd hx hb dX5_determinant_154 ?_
        refine pw_topi (nI_add _ _) ?_
        refine lv_istore (lv' := [(8, .int (nI (q + 1))), (4, .long (0 - sg)), (7, .int (nI p9)), (1, .int (nI z)), (2, .long d), (6, .int (nI q)), (0, .ref (Ad 0))]) hx hb dX5_determinant_155 hl (by decide) rfl (fun ls hl => ?_)
        obtain ⟨y2, hy2, hz2⟩ := zr_swp hzr (show q < p9 ∧ p9 < z by omega) (fun g => by
          have g9 := hzr.2.2 q (by omega) (by omega)
          rw [g] at g9
          exact hpn (by omega) g9)
        refine L5_det_i S hK hI hF0 hn z q hz (by omega) (swp q p9 M) d (0 - sg) hd0 (fun C8 H locs ls hP hS hR hl => ?_) (z + 1) C9 H locs (q + 1) ls (by omega) hP hS hB (by omega) (by omega) (fun a b ha hb9 => by
          rw [hv _ _ ha hb9]
          unfold el2
          rw [if_neg (by omega)]) (lv_sub hl [0, 3, 4, 1, 5, 6] rfl)
        obtain ⟨hB, hv⟩ := hR
        have hF := fM_B hF0 hB
        have hz3 := zr_elim (d := d) hz2 hy2
        have hpv : ¬ elim z q (swp q p9 M) d q q = 0 := by
          unfold elim
          rw [if_neg (by omega)]
          unfold swp
          rw [if_neg (fun g => hpq g.symm), if_pos rfl]
          exact hpn (by omega)
        refine lv_aload_n hx hb dX5_determinant_257 rfl (lv_at hl 4 rfl) ?_
        refine pw_get hx hb hts (fun _ h9 => List.mem_cons_of_mem _ (List.mem_append_right _ h9)) hown hK hP 0 rfl rfl 13 (by decide) hF rfl (hts (.fieldLink RX5 42 "PastDrawsModel" "cells" "[J") (List.mem_of_getElem? (i := 1) rfl)) dX5_determinant_258 ?_
        refine lv_bipush (v := nI 12) hx hb dX5_determinant_261 (by decide) ?_
        refine lv_iload hx hb dX5_determinant_263 (lv_at hl 3 rfl) ?_
        refine lv_imul hx hb dX5_determinant_265 ?_
        refine pw_topi (pk_mul _ _) ?_
        refine lv_iload hx hb dX5_determinant_266 (lv_at hl 3 rfl) ?_
        refine lv_iadd hx hb dX5_determinant_268 ?_
        refine pw_topi (nI_add _ _) ?_
        refine pw_lald hx hb hK hP 10 rfl (by omega) (by decide) (v := (elim z q (swp q p9 M) d) q q) (hv q q (by omega) (by omega)) dX5_determinant_269 ?_
        refine lv_lstore_n (lv' := [(2, .long ((elim z q (swp q p9 M) d) q q)), (1, .int (nI z)), (4, .long (0 - sg)), (6, .int (nI q)), (0, .ref (Ad 0))]) hx hb dX5_determinant_270 rfl hl (by decide) rfl (fun ls hl => ?_)
        refine lv_iinc (v := nI (q + 1)) (lv' := [(6, .int (nI (q + 1))), (2, .long ((elim z q (swp q p9 M) d) q q)), (1, .int (nI z)), (4, .long (0 - sg)), (0, .ref (Ad 0))]) hx hb dX5_determinant_271 hl (k := 3) rfl (nI_add _ 1) (by decide) rfl (fun ls hl => ?_)
        refine lv_goto (tgt := 8) hx hb dX5_determinant_274 (by decide) ?_
        exact ih C8 H locs (q + 1) (elim z q (swp q p9 M) d) _ (0 - sg) y2 ls (by omega) hP hS hB (by omega) hpv hv hz3 (lv_sub hl [2, 1, 3, 0, 4] rfl)
    · refine lv_lconst (v := 0) hx hb dX5_determinant_54 (by decide) ?_
      exact hq _ C H locs ls dX5_determinant_55 hP hS hB

set_option maxHeartbeats 4000000 in
set_option maxRecDepth 100000 in
theorem L5_det_A {p : Program} {l : Launch} {e : Env} {s : State} {m : MethodId} {args : Array Value} {below : List Frame} {meth : Method} {c : Code} {Q : State → Prop} (S : CallFix p m c cX5_determinant 11 s args wsX5_determinant RX5) {D : va_G} {cy : Nat → ClassId} {Ad : Nat → Nat} {n mm : Nat} {pk : Int64} {tr : Int32} {C0 : pw_C} (hK : pw_K D cy s) (hI : pw_I Ad shM) (hF0 : fM n mm pk tr Ad C0) (hn : 1 ≤ n ∧ n ≤ 12) (z : Nat) (hz : z ≤ 11) (r : Int64) (hq : ∀ (pc9 : Nat) (C : pw_C) (H : Heap) (locs : List Loc) (ls : Array Slot), decode cX5_determinant pc9 = .ok (.lreturn, 1) → pw_P D cy Ad shM C H → va_S (pw_fr Ad shM) s.heap H locs → (pw_B (fun k => k = 10) C0 C) → W p l e (k2_rm 0 0) s m args below meth c H locs 0 0 Q (F0 m pc9 ls [.long r])) : ∀ (f : Nat) (C : pw_C) (H : Heap) (locs : List Loc) (q : Nat) (M : Nat → Nat → Int64) (d : Int64) (ls : Array Slot), z - q < f → (pw_P D cy Ad shM C H) → (va_S (pw_fr Ad shM) s.heap H locs) → (pw_B (fun k => k = 10) C0 C) → (q ≤ z) → (ZI z q M d) → (∀ a b, a < z → b < z → C.2.1 10 (12 * a + b) = M a b) → (q = 0 → d = 1) → (detF z (z - q) q M d = r) → lv_has ls 11 [(1, .int (nI z)), (2, .long d), (4, .long 1), (6, .int (nI q)), (0, .ref (Ad 0))] → W p l e (k2_rm 0 0) s m args below meth c H locs 0 0 Q (F0 m 8 ls []) := by
  have hx := S.1
  have hb := S.2.1
  have hml := S.2.2.1
  have hown := S.2.2.2.1
  have hts := S.2.2.2.2
  intro f
  induction f with
  | zero => intro C H locs q M d ls hf; exact absurd hf (Nat.not_lt_zero _)
  | succ f ih =>
    intro C H locs q M d ls hf hP hS hB hqz hzi hv hd1 hr0 hl
    have hF := fM_B hF0 hB
    have hd0 : ¬ d = 0 := fun g => by
      have := hzi.1
      rw [g] at this
      exact absurd this (by decide)
    by_cases hqq : q < z ∧ M q q = 0
    · obtain ⟨g1, g2⟩ := hqq
      obtain ⟨y, hy⟩ : ∃ y, z - q = y + 1 := ⟨z - q - 1, by omega⟩
      rw [hy, detF, if_pos g2] at hr0
      subst hr0
      exact L5_det_B S hK hI hF0 hn z hz hq (z + 1) C H locs q M d 1 q ls (by omega) hP hS hB hqz hd0 hv ⟨Nat.le_refl _, g1, ZI_zero hzi g1 g2⟩ hl
    refine lv_iload hx hb dX5_determinant_8 (lv_at hl 3 rfl) ?_
    refine lv_iload_n hx hb dX5_determinant_10 rfl (lv_at hl 0 rfl) ?_
    refine pn_icmp_ge (tgt := 277) hx hb (by omega) (by omega) dX5_determinant_11 (by decide) (fun c_11 => ?_) (fun c_11 => ?_)
    · obtain rfl : q = z := by omega
      rw [Nat.sub_self] at hr0
      refine lv_iload_n hx hb dX5_determinant_277 rfl (lv_at hl 0 rfl) ?_
      refine pn_ifne_n (tgt := 285) hx hb (by omega) dX5_determinant_278 (by decide) (fun c_278 => ?_) (fun c_278 => ?_)
      · refine lv_lload hx hb dX5_determinant_285 (lv_at hl 2 rfl) ?_
        refine lv_lload_n hx hb dX5_determinant_287 rfl (lv_at hl 1 rfl) ?_
        refine lv_lmul hx hb dX5_determinant_288 ?_
        refine pw_topl (y := r) (by rw [← hr0]; first | rfl | exact Int64.one_mul _ | exact (hd1 rfl).symm) ?_
        exact hq _ C H locs ls dX5_determinant_289 hP hS hB
      · obtain rfl : q = 0 := by omega
        refine lv_lconst (v := 1) hx hb dX5_determinant_281 (by decide) ?_
        refine lv_goto (tgt := 289) hx hb dX5_determinant_282 (by decide) ?_
        refine pw_topl (y := r) (by rw [← hr0]; first | rfl | exact Int64.one_mul _ | exact (hd1 rfl).symm) ?_
        exact hq _ C H locs ls dX5_determinant_289 hP hS hB
    · obtain ⟨y, hy⟩ : ∃ y, z - q = y + 1 := ⟨z - q - 1, by omega⟩
      have hy2 : y = z - (q + 1) := by omega
      have hqq : ¬ M q q = 0 := fun g => hqq ⟨by omega, g⟩
      rw [hy, detF, if_neg hqq] at hr0
      skip
      refine lv_iload hx hb dX5_determinant_14 (lv_at hl 3 rfl) ?_
      refine lv_istore (lv' := [(7, .int (nI q)), (1, .int (nI z)), (2, .long d), (4, .long 1), (6, .int (nI q)), (0, .ref (Ad 0))]) hx hb dX5_determinant_16 hl (by decide) rfl (fun ls hl => ?_)
      refine lv_iload hx hb dX5_determinant_18 (lv_at hl 0 rfl) ?_
      refine lv_iload_n hx hb dX5_determinant_20 rfl (lv_at hl 1 rfl) ?_
      refine pn_icmp_ge (tgt := 48) hx hb (by omega) (by omega) dX5_determinant_21 (by decide) (fun c_21 => absurd c_21 (by omega)) (fun c_21 => ?_)
      refine lv_aload_n hx hb dX5_determinant_24 rfl (lv_at hl 5 rfl) ?_
      refine pw_get hx hb hts (fun _ h9 => List.mem_cons_of_mem _ (List.mem_append_right _ h9)) hown hK hP 0 rfl rfl 13 (by decide) hF rfl (hts (.fieldLink RX5 42 "PastDrawsModel" "cells" "[J") (List.mem_of_getElem? (i := 1) rfl)) dX5_determinant_25 ?_
      refine lv_bipush (v := nI 12) hx hb dX5_determinant_28 (by decide) ?_
      refine lv_iload hx hb dX5_determinant_30 (lv_at hl 0 rfl) ?_
      refine lv_imul hx hb dX5_determinant_32 ?_
      refine pw_topi (pk_mul _ _) ?_
      refine lv_iload hx hb dX5_determinant_33 (lv_at hl 4 rfl) ?_
      refine lv_iadd hx hb dX5_determinant_35 ?_
      refine pw_topi (nI_add _ _) ?_
      refine pw_lald hx hb hK hP 10 rfl (by omega) (by decide) (v := M q q) (hv q q (by omega) (by omega)) dX5_determinant_36 ?_
      refine lv_lconst (v := 0) hx hb dX5_determinant_37 (by decide) ?_
      refine W.lcmp hx hb dX5_determinant_38 ?_
      refine pn_lif_ne (tgt := 48) hx hb dX5_determinant_39 (by decide) (fun c_39 => ?_) (fun c_39 => absurd c_39 hqq)
      refine lv_iload hx hb dX5_determinant_48 (lv_at hl 0 rfl) ?_
      refine lv_iload_n hx hb dX5_determinant_50 rfl (lv_at hl 1 rfl) ?_
      refine pn_icmp_ne (tgt := 56) hx hb (by omega) (by omega) dX5_determinant_51 (by decide) (fun c_51 => ?_) (fun c_51 => absurd c_51 (by omega))
      refine lv_iconst (v := nI 0) hx hb dX5_determinant_56 (by decide) ?_
      refine lv_istore (lv' := [(8, .int (nI 0)), (7, .int (nI q)), (1, .int (nI z)), (2, .long d), (4, .long 1), (6, .int (nI q)), (0, .ref (Ad 0))]) hx hb dX5_determinant_57 hl (by decide) rfl (fun ls hl => ?_)
      refine lv_iload hx hb dX5_determinant_59 (lv_at hl 0 rfl) ?_
      refine lv_iload_n hx hb dX5_determinant_61 rfl (lv_at hl 2 rfl) ?_
      refine pn_icmp_ge (tgt := 134) hx hb (by omega) (by omega) dX5_determinant_62 (by decide) (fun c_62 => absurd c_62 (by omega)) (fun c_62 => ?_)
      refine lv_iload hx hb dX5_determinant_65 (lv_at hl 1 rfl) ?_
      refine lv_iload hx hb dX5_determinant_67 (lv_at hl 5 rfl) ?_
      refine pn_icmp_eq (tgt := 134) hx hb (by omega) (by omega) dX5_determinant_69 (by decide) (fun c_69 => ?_) (fun c_69 => absurd rfl c_69)
      refine lv_iload hx hb dX5_determinant_134 (lv_at hl 1 rfl) ?_
      refine lv_iload hx hb dX5_determinant_136 (lv_at hl 5 rfl) ?_
      refine pn_icmp_ne (tgt := 146) hx hb (by omega) (by omega) dX5_determinant_138 (by decide) (fun c_138 => absurd c_138 (fun g => g rfl)) (fun c_138 => ?_)
      refine lv_lload hx hb dX5_determinant_141 (lv_at hl 4 rfl) ?_
      refine lv_goto (tgt := 149) hx hb dX5_determinant_143 (by decide) ?_
      refine lv_lstore (lv' := [(4, .long 1), (8, .int (nI 0)), (7, .int (nI q)), (1, .int (nI z)), (2, .long d), (6, .int (nI q)), (0, .ref (Ad 0))]) hx hb dX5_determinant_149 hl (by decide) rfl (fun ls hl => ?_)
      refine lv_iload hx hb dX5_determinant_151 (lv_at hl 5 rfl) ?_
      refine lv_iconst (v := nI 1) hx hb dX5_determinant_153 (by decide) ?_
      refine lv_iadd hx hb dX5_determinant_154 ?_
      refine pw_topi (nI_add _ _) ?_
      refine lv_istore (lv' := [(8, .int (nI (q + 1))), (4, .long 1), (7, .int (nI q)), (1, .int (nI z)), (2, .long d), (6, .int (nI q)), (0, .ref (Ad 0))]) hx hb dX5_determinant_155 hl (by decide) rfl (fun ls hl => ?_)
      refine L5_det_i S hK hI hF0 hn z q hz (by omega) M d 1 hd0 (fun C8 H locs ls hP hS hR hl => ?_) (z + 1) C H locs (q + 1) ls (by omega) hP hS hB (by omega) (by omega) (fun a b ha hb9 => by
        rw [hv _ _ ha hb9]
        unfold el2
        rw [if_neg (by omega)]) (lv_sub hl [0, 3, 4, 1, 5, 6] rfl)
      obtain ⟨hB, hv⟩ := hR
      have hF := fM_B hF0 hB
      have epv : elim z q M d q q = M q q := by unfold elim; rw [if_neg (by omega)]
      refine lv_aload_n hx hb dX5_determinant_257 rfl (lv_at hl 4 rfl) ?_
      refine pw_get hx hb hts (fun _ h9 => List.mem_cons_of_mem _ (List.mem_append_right _ h9)) hown hK hP 0 rfl rfl 13 (by decide) hF rfl (hts (.fieldLink RX5 42 "PastDrawsModel" "cells" "[J") (List.mem_of_getElem? (i := 1) rfl)) dX5_determinant_258 ?_
      refine lv_bipush (v := nI 12) hx hb dX5_determinant_261 (by decide) ?_
      refine lv_iload hx hb dX5_determinant_263 (lv_at hl 3 rfl) ?_
      refine lv_imul hx hb dX5_determinant_265 ?_
      refine pw_topi (pk_mul _ _) ?_
      refine lv_iload hx hb dX5_determinant_266 (lv_at hl 3 rfl) ?_
      refine lv_iadd hx hb dX5_determinant_268 ?_
      refine pw_topi (nI_add _ _) ?_
      refine pw_lald hx hb hK hP 10 rfl (by omega) (by decide) (v := M q q) (by rw [hv q q (by omega) (by omega)]; exact epv) dX5_determinant_269 ?_
      refine lv_lstore_n (lv' := [(2, .long (M q q)), (1, .int (nI z)), (4, .long 1), (6, .int (nI q)), (0, .ref (Ad 0))]) hx hb dX5_determinant_270 rfl hl (by decide) rfl (fun ls hl => ?_)
      refine lv_iinc (v := nI (q + 1)) (lv' := [(6, .int (nI (q + 1))), (2, .long (M q q)), (1, .int (nI z)), (4, .long 1), (0, .ref (Ad 0))]) hx hb dX5_determinant_271 hl (k := 3) rfl (nI_add _ 1) (by decide) rfl (fun ls hl => ?_)
      refine lv_goto (tgt := 8) hx hb dX5_determinant_274 (by decide) ?_
      exact ih C8 H locs (q + 1) _ _ ls (by omega) hP hS hB (by omega) (ZI_step hz (by omega) hzi hqq) hv (fun h9 => by omega) (by rw [← hy2]; exact hr0) (lv_sub hl [2, 1, 3, 0, 4] rfl)

set_option maxHeartbeats 4000000 in
set_option maxRecDepth 100000 in
theorem c_X5_determinant (l : Launch) (D : va_G) (cy : Nat → ClassId) (Ad : Nat → Nat) (n mm : Nat) (pk : Int64) (tr : Int32) (C : pw_C) (hI : pw_I Ad shM) (hn : 1 ≤ n ∧ n ≤ 12) (hF : fM n mm pk tr Ad C) (z : Nat) (hz : z ≤ 11) (M : Nat → Nat → Int64) (hzi : ZI z 0 M 1) (hv : ∀ a b, a < z → b < z → C.2.1 10 (12 * a + b) = M a b) : Met l yX5_determinant wsX5_determinant (k2_rm 0 0) (pw_Pre ([.ref (Ad 0), .int (nI z)]) D cy Ad shM C) (pw_Post (fun r9 C' => r9 = some (.long (detF z z 0 M 1)) ∧ (pw_B (fun k => k = 10) C C')) D cy Ad shM) 0 0 (pw_fr Ad shM) := by
  refine Met.ofW (cc := cX5_determinant) (maxL := 11) (ret := (some .long)) (by decide) rfl ?_
  intro p e s m args below meth c s₁ B hml hv
  obtain ⟨rfl, hP, hK⟩ := hv
  have hx := B.exec
  have hb := B.bytes
  have hr := B.returns
  have hts := atoms_spec (ws := wsX5_determinant) B.pre
  have hown : s.vm.findClass RX5 = some m.cls := findClass_of_methodNamed B.named
  have hlocks := B.notSynchronized
  have S : CallFix p m c cX5_determinant 11 s ([.ref (Ad 0), .int (nI z)]).toArray wsX5_determinant RX5 := ⟨hx, hb, hml, hown, hts⟩
  change W p l e (k2_rm 0 0) s m _ below meth c s.heap [] 0 0 _ _
  have hl := lv_entry ([.ref (Ad 0), .int (nI z)]) (n := 11) (Nat.le_of_ble_eq_true rfl)
  rw [lg_entry_eq]
  generalize (lg_sl ([.ref (Ad 0), .int (nI z)]) ++ List.replicate (11 - (lg_sl ([.ref (Ad 0), .int (nI z)])).length) Slot.unset).toArray = ls at hl ⊢
  have hl : lv_has ls 11 [(0, .ref (Ad 0)), (1, .int (nI z))] := hl
  have hS : va_S (pw_fr Ad shM) s.heap s.heap [] := va_S.rf
  refine lv_lconst (v := 1) hx hb dX5_determinant_0 (by decide) ?_
  refine lv_lstore_n (lv' := [(2, .long 1), (0, .ref (Ad 0)), (1, .int (nI z))]) hx hb dX5_determinant_1 rfl hl (by decide) rfl (fun ls hl => ?_)
  refine lv_lconst (v := 1) hx hb dX5_determinant_2 (by decide) ?_
  refine lv_lstore (lv' := [(4, .long 1), (2, .long 1), (0, .ref (Ad 0)), (1, .int (nI z))]) hx hb dX5_determinant_3 hl (by decide) rfl (fun ls hl => ?_)
  refine lv_iconst (v := nI 0) hx hb dX5_determinant_5 (by decide) ?_
  refine lv_istore (lv' := [(6, .int (nI 0)), (4, .long 1), (2, .long 1), (0, .ref (Ad 0)), (1, .int (nI z))]) hx hb dX5_determinant_6 hl (by decide) rfl (fun ls hl => ?_)
  exact L5_det_A S hK hI hF hn z hz _ (fun pc9 C9 H9 locs9 ls9 hd9 hP9 hS9 hR9 => W.lret hx hb hr (fun t ht _ => ⟨⟨(some (.long (detF z z 0 M 1))), C9, rfl, ⟨rfl, hR9⟩, by rw [ht]; exact hP9⟩, hS9.F ht⟩) hS9.2.2 hd9) (z + 1) C s.heap [] 0 M 1 ls (by omega) hP hS pw_B.rf (by omega) hzi hv (fun _ => rfl) rfl (lv_sub hl [4, 2, 1, 0, 3] rfl)

set_option maxHeartbeats 4000000 in
set_option maxRecDepth 100000 in
theorem L5_to_j {p : Program} {l : Launch} {e : Env} {s : State} {m : MethodId} {args : Array Value} {below : List Frame} {meth : Method} {c : Code} {Q : State → Prop} (S : CallFix p m c cX5_treesOf 6 s args wsX5_treesOf RX5) {D : va_G} {cy : Nat → ClassId} {Ad : Nat → Nat} {n mm : Nat} {pk : Int64} {tr : Int32} {C0 : pw_C} (hK : pw_K D cy s) (hI : pw_I Ad shM) (hF0 : fM n mm pk tr Ad C0) (hn : 1 ≤ n ∧ n ≤ 12) {nx : Nat → Nat → Nat} (hN0 : rN n nx C0) (r : Nat) (hr9 : r < n) (i : Nat) (hi : i < n) (hir : ¬ i = r) (hk : ∀ (C : pw_C) (H : Heap) (locs : List Loc) (ls : Array Slot), pw_P D cy Ad shM C H → va_S (pw_fr Ad shM) s.heap H locs → (pw_B (fun k => k = 10) C0 C ∧ (∀ a b, a < szF r i → b < n - 1 → C.2.1 10 (12 * a + b) = tmx nx r a b) ∧ ∀ b, b < n - 1 → C.2.1 10 (12 * szF r i + b) = tmx nx r (szF r i) b) → lv_has ls 6 [(1, .int (nI r)), (2, .int (nI (szF r i))), (3, .int (nI i)), (0, .ref (Ad 0))] → W p l e (k2_rm 1 30) s m args below meth c H locs 0 0 Q (F0 m 69 ls [])) : ∀ (f : Nat) (C : pw_C) (H : Heap) (locs : List Loc) (j : Nat) (ls : Array Slot), n - j < f → (pw_P D cy Ad shM C H) → (va_S (pw_fr Ad shM) s.heap H locs) → (pw_B (fun k => k = 10) C0 C) → (j ≤ n) → (∀ a b, a < szF r i → b < n - 1 → C.2.1 10 (12 * a + b) = tmx nx r a b) → (∀ b, b < szF r j → C.2.1 10 (12 * szF r i + b) = tmx nx r (szF r i) b) → lv_has ls 6 [(4, .int (nI (szF r j))), (5, .int (nI j)), (1, .int (nI r)), (2, .int (nI (szF r i))), (3, .int (nI i)), (0, .ref (Ad 0))] → W p l e (k2_rm 1 30) s m args below meth c H locs 0 0 Q (F0 m 26 ls []) := by
  have hx := S.1
  have hb := S.2.1
  have hml := S.2.2.1
  have hown := S.2.2.2.1
  have hts := S.2.2.2.2
  intro f
  induction f with
  | zero => intro C H locs j ls hf; exact absurd hf (Nat.not_lt_zero _)
  | succ f ih =>
    intro C H locs j ls hf hP hS hB hj hrow hv hl
    have hF := fM_B hF0 hB
    have hN := rN_B hN0 hB (by omega)
    have si := sz_sp r i
    have sj := sz_sp r j
    refine lv_iload hx hb dX5_treesOf_26 (lv_at hl 1 rfl) ?_
    refine lv_aload_n hx hb dX5_treesOf_28 rfl (lv_at hl 5 rfl) ?_
    refine pw_get hx hb hts (fun _ h9 => List.mem_cons_of_mem _ (List.mem_append_right _ h9)) hown hK hP 0 rfl rfl 0 (by decide) hF rfl (hts (.fieldLink RX5 64 "PastDrawsModel" "n" "I") (List.mem_of_getElem? (i := 1) rfl)) dX5_treesOf_29 ?_
    refine pn_icmp_ge (tgt := 69) hx hb (by omega) (by omega) dX5_treesOf_32 (by decide) (fun c_32 => ?_) (fun c_32 => ?_)
    · obtain rfl : j = n := by omega
      exact hk C H locs ls hP hS ⟨hB, hrow, fun b hb9 => hv b (by omega)⟩ (lv_sub hl [2, 3, 4, 5] rfl)
    · refine lv_iload hx hb dX5_treesOf_35 (lv_at hl 1 rfl) ?_
      refine lv_iload_n hx hb dX5_treesOf_37 rfl (lv_at hl 2 rfl) ?_
      refine pn_icmp_eq (tgt := 63) hx hb (by omega) (by omega) dX5_treesOf_38 (by decide) (fun c_38 => ?_) (fun c_38 => ?_)
      · refine lv_iinc (v := nI (j + 1)) (lv' := [(5, .int (nI (j + 1))), (4, .int (nI (szF r j))), (1, .int (nI r)), (2, .int (nI (szF r i))), (3, .int (nI i)), (0, .ref (Ad 0))]) hx hb dX5_treesOf_63 hl (k := 1) rfl (nI_add _ 1) (by decide) rfl (fun ls hl => ?_)
        refine lv_goto (tgt := 26) hx hb dX5_treesOf_66 (by decide) ?_
        have sj2 := sz_sp r (j + 1)
        have ej : szF r (j + 1) = szF r j := by omega
        exact ih C H locs (j + 1) ls (by omega) hP hS hB (by omega) hrow (fun b hb9 => hv b (by omega)) (by rw [ej]; exact (lv_sub hl [1, 0, 2, 3, 4, 5] rfl))
      · refine lv_aload_n hx hb dX5_treesOf_41 rfl (lv_at hl 5 rfl) ?_
        refine pw_get hx hb hts (fun _ h9 => List.mem_cons_of_mem _ (List.mem_append_right _ h9)) hown hK hP 0 rfl rfl 13 (by decide) hF rfl (hts (.fieldLink RX5 42 "PastDrawsModel" "cells" "[J") (List.mem_of_getElem? (i := 2) rfl)) dX5_treesOf_42 ?_
        refine lv_bipush (v := nI 12) hx hb dX5_treesOf_45 (by decide) ?_
        refine lv_iload_n hx hb dX5_treesOf_47 rfl (lv_at hl 3 rfl) ?_
        refine lv_imul hx hb dX5_treesOf_48 ?_
        refine pw_topi (pk_mul _ _) ?_
        refine lv_iload hx hb dX5_treesOf_49 (lv_at hl 0 rfl) ?_
        refine lv_iadd hx hb dX5_treesOf_51 ?_
        refine pw_topi (nI_add _ _) ?_
        refine lv_aload_n hx hb dX5_treesOf_52 rfl (lv_at hl 5 rfl) ?_
        refine lv_iload_n hx hb dX5_treesOf_53 rfl (lv_at hl 4 rfl) ?_
        refine lv_iload hx hb dX5_treesOf_54 (lv_at hl 1 rfl) ?_
        refine pw_cv S hK hP 0 5 rfl rfl 2 (c_X5_cellOf l D cy Ad n mm pk tr C hn hF nx hN i j (by omega) (by omega)) gX5_treesOf_X5_cellOf rfl rfl rfl (by decide +kernel) ⟨Nat.le_of_ble_eq_true rfl, Nat.le_of_ble_eq_true rfl⟩ rfl hl.1 rfl (Nat.le_of_ble_eq_true rfl) dX5_treesOf_56 ⟨Nat.le_refl _, Nat.le_refl _⟩ ?_
        refine pw_last hx hb hK hP hI hS 10 rfl (by omega) (by decide) dX5_treesOf_59 (fun H locs hP hS => ?_)
        obtain ⟨C59, hC59⟩ : ∃ z9, z9 = pw_setL C 10 ((12 * (szF r i)) + (szF r j)) (Int64.ofInt (coX nx i j 8)) := ⟨_, rfl⟩
        rw [← hC59] at hP
        have hB := by have hB9 := hB; exact (show pw_B (fun k => k = 10) C0 C59 by rw [hC59]; exact hB9.setL (by show 10 = 10; first | trivial | omega))
        have hF := fM_B hF0 hB
        have hN := rN_B hN0 hB (by omega)
        refine lv_iinc (v := nI ((szF r j) + 1)) (lv' := [(4, .int (nI ((szF r j) + 1))), (5, .int (nI j)), (1, .int (nI r)), (2, .int (nI (szF r i))), (3, .int (nI i)), (0, .ref (Ad 0))]) hx hb dX5_treesOf_60 hl (k := 0) rfl (nI_add _ 1) (by decide) rfl (fun ls hl => ?_)
        refine lv_iinc (v := nI (j + 1)) (lv' := [(5, .int (nI (j + 1))), (4, .int (nI ((szF r j) + 1))), (1, .int (nI r)), (2, .int (nI (szF r i))), (3, .int (nI i)), (0, .ref (Ad 0))]) hx hb dX5_treesOf_63 hl (k := 1) rfl (nI_add _ 1) (by decide) rfl (fun ls hl => ?_)
        refine lv_goto (tgt := 26) hx hb dX5_treesOf_66 (by decide) ?_
        have sj2 := sz_sp r (j + 1)
        have ej : szF r (j + 1) = szF r j + 1 := by omega
        exact ih C59 H locs (j + 1) ls (by omega) hP hS hB (by omega) (fun a b ha hb9 => by
          rw [hC59, sl_at, if_neg (by omega)]
          exact hrow a b ha hb9) (fun b hb9 => by
          rw [hC59, sl_at]
          by_cases g : b = szF r j
          · rw [if_pos (by omega), g]; exact tmx_sz nx hir c_38
          · rw [if_neg (by omega)]; exact hv b (by omega)) (by rw [ej]; exact (lv_sub hl [1, 0, 2, 3, 4, 5] rfl))

set_option maxHeartbeats 4000000 in
set_option maxRecDepth 100000 in
theorem L5_to_i {p : Program} {l : Launch} {e : Env} {s : State} {m : MethodId} {args : Array Value} {below : List Frame} {meth : Method} {c : Code} {Q : State → Prop} (S : CallFix p m c cX5_treesOf 6 s args wsX5_treesOf RX5) {D : va_G} {cy : Nat → ClassId} {Ad : Nat → Nat} {n mm : Nat} {pk : Int64} {tr : Int32} {C0 : pw_C} (hK : pw_K D cy s) (hI : pw_I Ad shM) (hF0 : fM n mm pk tr Ad C0) (hn : 1 ≤ n ∧ n ≤ 12) {nx : Nat → Nat → Nat} (hN0 : rN n nx C0) (r : Nat) (hr9 : r < n) (hq : ∀ (pc9 : Nat) (C : pw_C) (H : Heap) (locs : List Loc) (ls : Array Slot), decode cX5_treesOf pc9 = .ok (.lreturn, 1) → pw_P D cy Ad shM C H → va_S (pw_fr Ad shM) s.heap H locs → (pw_B (fun k => k = 10) C0 C) → W p l e (k2_rm 1 30) s m args below meth c H locs 0 0 Q (F0 m pc9 ls [.long (trF nx n r)])) : ∀ (f : Nat) (C : pw_C) (H : Heap) (locs : List Loc) (i : Nat) (ls : Array Slot), n - i < f → (pw_P D cy Ad shM C H) → (va_S (pw_fr Ad shM) s.heap H locs) → (pw_B (fun k => k = 10) C0 C) → (i ≤ n) → (∀ a b, a < szF r i → b < n - 1 → C.2.1 10 (12 * a + b) = tmx nx r a b) → lv_has ls 6 [(1, .int (nI r)), (2, .int (nI (szF r i))), (3, .int (nI i)), (0, .ref (Ad 0))] → W p l e (k2_rm 1 30) s m args below meth c H locs 0 0 Q (F0 m 4 ls []) := by
  have hx := S.1
  have hb := S.2.1
  have hml := S.2.2.1
  have hown := S.2.2.2.1
  have hts := S.2.2.2.2
  intro f
  induction f with
  | zero => intro C H locs i ls hf; exact absurd hf (Nat.not_lt_zero _)
  | succ f ih =>
    intro C H locs i ls hf hP hS hB hi hrow hl
    have hF := fM_B hF0 hB
    have hN := rN_B hN0 hB (by omega)
    have si := sz_sp r i
    refine lv_iload_n hx hb dX5_treesOf_4 rfl (lv_at hl 2 rfl) ?_
    refine lv_aload_n hx hb dX5_treesOf_5 rfl (lv_at hl 3 rfl) ?_
    refine pw_get hx hb hts (fun _ h9 => List.mem_cons_of_mem _ (List.mem_append_right _ h9)) hown hK hP 0 rfl rfl 0 (by decide) hF rfl (hts (.fieldLink RX5 64 "PastDrawsModel" "n" "I") (List.mem_of_getElem? (i := 1) rfl)) dX5_treesOf_6 ?_
    refine pn_icmp_ge (tgt := 78) hx hb (by omega) (by omega) dX5_treesOf_9 (by decide) (fun c_9 => ?_) (fun c_9 => ?_)
    · refine lv_aload_n hx hb dX5_treesOf_78 rfl (lv_at hl 3 rfl) ?_
      refine lv_iload_n hx hb dX5_treesOf_79 rfl (lv_at hl 1 rfl) ?_
      refine pw_topi (y := nI (n - 1)) (by rw [show szF r i = n - 1 by omega]) ?_
      refine pw_cvW S hK hP 0 5 rfl rfl 1 (c_X5_determinant l D cy Ad n mm pk tr C hI hn hF (n - 1) (by omega) (tmx nx r) (ZI_tmx nx r (n - 1)) (fun a b ha hb9 => hrow a b (by omega) (by omega))) gX5_treesOf_X5_determinant rfl rfl rfl (by decide +kernel) ⟨Nat.le_of_ble_eq_true rfl, Nat.le_of_ble_eq_true rfl⟩ rfl hl.1 rfl (Nat.le_of_ble_eq_true rfl) dX5_treesOf_80 ⟨Nat.le_refl _, Nat.le_refl _⟩ hS (fun _ h9 => h9) (fun r9 C80 H locs hR hP _ _ hS => ?_)
      obtain ⟨rfl, hR⟩ := hR
      change W p l e _ s m _ below meth c H locs 0 0 _ (F0 m 83 ls [.long (trF nx n r)])
      have hB := hB.tr hR
      exact hq _ C80 H locs ls dX5_treesOf_83 hP hS hB
    · refine lv_iload_n hx hb dX5_treesOf_12 rfl (lv_at hl 2 rfl) ?_
      refine lv_iload_n hx hb dX5_treesOf_13 rfl (lv_at hl 0 rfl) ?_
      refine pn_icmp_ne (tgt := 20) hx hb (by omega) (by omega) dX5_treesOf_14 (by decide) (fun c_14 => ?_) (fun c_14 => ?_)
      · refine lv_iconst (v := nI 0) hx hb dX5_treesOf_20 (by decide) ?_
        refine lv_istore (lv' := [(4, .int (nI 0)), (1, .int (nI r)), (2, .int (nI (szF r i))), (3, .int (nI i)), (0, .ref (Ad 0))]) hx hb dX5_treesOf_21 hl (by decide) rfl (fun ls hl => ?_)
        refine lv_iconst (v := nI 0) hx hb dX5_treesOf_23 (by decide) ?_
        refine lv_istore (lv' := [(5, .int (nI 0)), (4, .int (nI 0)), (1, .int (nI r)), (2, .int (nI (szF r i))), (3, .int (nI i)), (0, .ref (Ad 0))]) hx hb dX5_treesOf_24 hl (by decide) rfl (fun ls hl => ?_)
        have s0 := sz_sp r 0
        have e0 : szF r 0 = 0 := by omega
        refine L5_to_j S hK hI hF0 hn hN0 r hr9 i (by omega) c_14 (fun C H locs ls hP hS hR hl => ?_) (n + 1) C H locs 0 ls (by omega) hP hS hB (by omega) hrow (fun b hb9 => by omega) (by rw [e0]; exact (lv_sub hl [1, 0, 2, 3, 4, 5] rfl))
        obtain ⟨hB, hrow, hv⟩ := hR
        refine lv_iinc (v := nI ((szF r i) + 1)) (lv' := [(2, .int (nI ((szF r i) + 1))), (1, .int (nI r)), (3, .int (nI i)), (0, .ref (Ad 0))]) hx hb dX5_treesOf_69 hl (k := 1) rfl (nI_add _ 1) (by decide) rfl (fun ls hl => ?_)
        refine lv_iinc (v := nI (i + 1)) (lv' := [(3, .int (nI (i + 1))), (2, .int (nI ((szF r i) + 1))), (1, .int (nI r)), (0, .ref (Ad 0))]) hx hb dX5_treesOf_72 hl (k := 2) rfl (nI_add _ 1) (by decide) rfl (fun ls hl => ?_)
        refine lv_goto (tgt := 4) hx hb dX5_treesOf_75 (by decide) ?_
        have si2 := sz_sp r (i + 1)
        have ei : szF r (i + 1) = szF r i + 1 := by omega
        exact ih C H locs (i + 1) ls (by omega) hP hS hB (by omega) (fun a b ha hb9 => by
          by_cases g : a = szF r i
          · rw [g]; exact hv b hb9
          · exact hrow a b (by omega) hb9) (by rw [ei]; exact (lv_sub hl [2, 1, 0, 3] rfl))
      · refine lv_goto (tgt := 72) hx hb dX5_treesOf_17 (by decide) ?_
        refine lv_iinc (v := nI (i + 1)) (lv' := [(3, .int (nI (i + 1))), (1, .int (nI r)), (2, .int (nI (szF r i))), (0, .ref (Ad 0))]) hx hb dX5_treesOf_72 hl (k := 2) rfl (nI_add _ 1) (by decide) rfl (fun ls hl => ?_)
        refine lv_goto (tgt := 4) hx hb dX5_treesOf_75 (by decide) ?_
        have si2 := sz_sp r (i + 1)
        have ei : szF r (i + 1) = szF r i := by omega
        exact ih C H locs (i + 1) ls (by omega) hP hS hB (by omega) (fun a b ha hb9 => hrow a b (by omega) hb9) (by rw [ei]; exact (lv_sub hl [1, 2, 0, 3] rfl))

set_option maxHeartbeats 4000000 in
set_option maxRecDepth 100000 in
theorem c_X5_treesOf (l : Launch) (D : va_G) (cy : Nat → ClassId) (Ad : Nat → Nat) (n mm : Nat) (pk : Int64) (tr : Int32) (C : pw_C) (hI : pw_I Ad shM) (hn : 1 ≤ n ∧ n ≤ 12) (hF : fM n mm pk tr Ad C) (nx : Nat → Nat → Nat) (hN : rN n nx C) (r : Nat) (hr9 : r < n) : Met l yX5_treesOf wsX5_treesOf (k2_rm 1 30) (pw_Pre ([.ref (Ad 0), .int (nI r)]) D cy Ad shM C) (pw_Post (fun r9 C' => r9 = some (.long (trF nx n r)) ∧ (pw_B (fun k => k = 10) C C')) D cy Ad shM) 0 0 (pw_fr Ad shM) := by
  refine Met.ofW (cc := cX5_treesOf) (maxL := 6) (ret := (some .long)) (by decide) rfl ?_
  intro p e s m args below meth c s₁ B hml hv
  obtain ⟨rfl, hP, hK⟩ := hv
  have hx := B.exec
  have hb := B.bytes
  have hr := B.returns
  have hts := atoms_spec (ws := wsX5_treesOf) B.pre
  have hown : s.vm.findClass RX5 = some m.cls := findClass_of_methodNamed B.named
  have hlocks := B.notSynchronized
  have S : CallFix p m c cX5_treesOf 6 s ([.ref (Ad 0), .int (nI r)]).toArray wsX5_treesOf RX5 := ⟨hx, hb, hml, hown, hts⟩
  change W p l e (k2_rm 1 30) s m _ below meth c s.heap [] 0 0 _ _
  have hl := lv_entry ([.ref (Ad 0), .int (nI r)]) (n := 6) (Nat.le_of_ble_eq_true rfl)
  rw [lg_entry_eq]
  generalize (lg_sl ([.ref (Ad 0), .int (nI r)]) ++ List.replicate (6 - (lg_sl ([.ref (Ad 0), .int (nI r)])).length) Slot.unset).toArray = ls at hl ⊢
  have hl : lv_has ls 6 [(0, .ref (Ad 0)), (1, .int (nI r))] := hl
  have hS : va_S (pw_fr Ad shM) s.heap s.heap [] := va_S.rf
  refine lv_iconst (v := nI 0) hx hb dX5_treesOf_0 (by decide) ?_
  refine lv_istore_n (lv' := [(2, .int (nI 0)), (0, .ref (Ad 0)), (1, .int (nI r))]) hx hb dX5_treesOf_1 rfl hl (by decide) rfl (fun ls hl => ?_)
  refine lv_iconst (v := nI 0) hx hb dX5_treesOf_2 (by decide) ?_
  refine lv_istore_n (lv' := [(3, .int (nI 0)), (2, .int (nI 0)), (0, .ref (Ad 0)), (1, .int (nI r))]) hx hb dX5_treesOf_3 rfl hl (by decide) rfl (fun ls hl => ?_)
  have s0 := sz_sp r 0
  have e0 : szF r 0 = 0 := by omega
  exact L5_to_i S hK hI hF hn hN r hr9 (fun pc9 C9 H9 locs9 ls9 hd9 hP9 hS9 hR9 => W.lret hx hb hr (fun t ht _ => ⟨⟨(some (.long (trF nx n r))), C9, rfl, ⟨rfl, hR9⟩, by rw [ht]; exact hP9⟩, hS9.F ht⟩) hS9.2.2 hd9) (n + 1) C s.heap [] 0 ls (by omega) hP hS pw_B.rf (by omega) (fun a b ha hb9 => by omega) (by rw [e0]; exact (lv_sub hl [3, 1, 0, 2] rfl))

set_option maxHeartbeats 4000000 in
set_option maxRecDepth 100000 in
theorem L5_trees {p : Program} {l : Launch} {e : Env} {s : State} {m : MethodId} {args : Array Value} {below : List Frame} {meth : Method} {c : Code} {Q : State → Prop} (S : CallFix p m c cX5_trees 5 s args wsX5_trees RX5) {D : va_G} {cy : Nat → ClassId} {Ad : Nat → Nat} {n mm : Nat} {pk : Int64} {tr : Int32} {C0 : pw_C} (hK : pw_K D cy s) (hI : pw_I Ad shM) (hF0 : fM n mm pk tr Ad C0) (hn : 1 ≤ n ∧ n ≤ 12) {nx : Nat → Nat → Nat} (hN0 : rN n nx C0) (b : Int32) (hq : ∀ (pc9 : Nat) (C : pw_C) (H : Heap) (locs : List Loc) (ls : Array Slot), decode cX5_trees pc9 = .ok (.lreturn, 1) → pw_P D cy Ad shM C H → va_S (pw_fr Ad shM) s.heap H locs → (pw_B (fun k => k = 10) C0 C) → W p l e (k2_rm 2 55) s m args below meth c H locs 0 0 Q (F0 m pc9 ls [.long (tsum nx n b n)])) : ∀ (f : Nat) (C : pw_C) (H : Heap) (locs : List Loc) (z : Nat) (ls : Array Slot), n - z < f → (pw_P D cy Ad shM C H) → (va_S (pw_fr Ad shM) s.heap H locs) → (pw_B (fun k => k = 10) C0 C) → (z ≤ n) → lv_has ls 5 [(2, .long (tsum nx n b z)), (4, .int (nI z)), (0, .ref (Ad 0)), (1, .int b)] → W p l e (k2_rm 2 55) s m args below meth c H locs 0 0 Q (F0 m 22 ls []) := by
  have hx := S.1
  have hb := S.2.1
  have hml := S.2.2.1
  have hown := S.2.2.2.1
  have hts := S.2.2.2.2
  intro f
  induction f with
  | zero => intro C H locs z ls hf; exact absurd hf (Nat.not_lt_zero _)
  | succ f ih =>
    intro C H locs z ls hf hP hS hB hz9 hl
    have hF := fM_B hF0 hB
    have hN := rN_B hN0 hB (by omega)
    refine lv_iload hx hb dX5_trees_22 (lv_at hl 1 rfl) ?_
    refine lv_aload_n hx hb dX5_trees_24 rfl (lv_at hl 2 rfl) ?_
    refine pw_get hx hb hts (fun _ h9 => List.mem_cons_of_mem _ (List.mem_append_right _ h9)) hown hK hP 0 rfl rfl 0 (by decide) hF rfl (hts (.fieldLink RX5 64 "PastDrawsModel" "n" "I") (List.mem_of_getElem? (i := 2) rfl)) dX5_trees_25 ?_
    refine pn_icmp_ge (tgt := 61) hx hb (by omega) (by omega) dX5_trees_28 (by decide) (fun c_28 => ?_) (fun c_28 => ?_)
    · have hze : z = n := by omega
      refine lv_lload_n hx hb dX5_trees_61 rfl (lv_at hl 0 rfl) ?_
      refine pw_topl (y := tsum nx n b n) (by rw [hze]) ?_
      exact hq _ C H locs ls dX5_trees_62 hP hS hB
    · refine lv_lload_n hx hb dX5_trees_31 rfl (lv_at hl 0 rfl) ?_
      refine lv_iload_n hx hb dX5_trees_32 rfl (lv_at hl 3 rfl) ?_
      refine lv_iconst (v := (-1)) hx hb dX5_trees_33 (by decide) ?_
      refine lv_icmp_eq (tgt := 43) hx hb dX5_trees_34 (by decide) (fun c_34 => ?_) (fun c_34 => ?_)
      · refine lv_aload_n hx hb dX5_trees_43 rfl (lv_at hl 2 rfl) ?_
        refine lv_iload hx hb dX5_trees_44 (lv_at hl 1 rfl) ?_
        refine pw_cvW S hK hP 0 5 rfl rfl 1 (c_X5_treesOf l D cy Ad n mm pk tr C hI hn hF nx hN z (by omega)) gX5_trees_X5_treesOf rfl rfl rfl (by decide +kernel) ⟨Nat.le_of_ble_eq_true rfl, Nat.le_of_ble_eq_true rfl⟩ rfl hl.1 rfl (Nat.le_of_ble_eq_true rfl) dX5_trees_46 ⟨Nat.le_refl _, Nat.le_refl _⟩ hS (fun _ h9 => h9) (fun r9 C46 H locs hR hP _ _ hS => ?_)
        obtain ⟨rfl, hR⟩ := hR
        change W p l e _ s m _ below meth c H locs 0 0 _ (F0 m 49 ls [.long (trF nx n z), .long (tsum nx n b z)])
        have hB := hB.tr hR
        have hF := fM_B hF0 hB
        have hN := rN_B hN0 hB (by omega)
        refine lv_goto (tgt := 53) hx hb dX5_trees_49 (by decide) ?_
        refine lv_ladd hx hb dX5_trees_53 ?_
        refine pw_topl (y := tsum nx n b (z + 1)) (by show _ = tsum nx n b z + _; first | rw [if_pos (show b = (-1) ∨ b = nI z from Or.inl c_34)] | rw [if_pos (show b = (-1) ∨ b = nI z from Or.inr c_40)] | rw [if_neg (show ¬ (b = (-1) ∨ b = nI z) from fun q => q.elim c_34 c_40)]) ?_
        refine lv_lstore_n (lv' := [(2, .long (tsum nx n b (z + 1))), (4, .int (nI z)), (0, .ref (Ad 0)), (1, .int b)]) hx hb dX5_trees_54 rfl hl (by decide) rfl (fun ls hl => ?_)
        refine lv_iinc (v := nI (z + 1)) (lv' := [(4, .int (nI (z + 1))), (2, .long (tsum nx n b (z + 1))), (0, .ref (Ad 0)), (1, .int b)]) hx hb dX5_trees_55 hl (k := 1) rfl (nI_add _ 1) (by decide) rfl (fun ls hl => ?_)
        refine lv_goto (tgt := 22) hx hb dX5_trees_58 (by decide) ?_
        exact ih C46 H locs (z + 1) ls (by omega) hP hS hB (by omega) (lv_sub hl [1, 0, 2, 3] rfl)
      · refine lv_iload_n hx hb dX5_trees_37 rfl (lv_at hl 3 rfl) ?_
        refine lv_iload hx hb dX5_trees_38 (lv_at hl 1 rfl) ?_
        refine lv_icmp_ne (tgt := 52) hx hb dX5_trees_40 (by decide) (fun c_40 => ?_) (fun c_40 => ?_)
        · refine lv_lconst (v := 0) hx hb dX5_trees_52 (by decide) ?_
          refine lv_ladd hx hb dX5_trees_53 ?_
          refine pw_topl (y := tsum nx n b (z + 1)) (by show _ = tsum nx n b z + _; first | rw [if_pos (show b = (-1) ∨ b = nI z from Or.inl c_34)] | rw [if_pos (show b = (-1) ∨ b = nI z from Or.inr c_40)] | rw [if_neg (show ¬ (b = (-1) ∨ b = nI z) from fun q => q.elim c_34 c_40)]) ?_
          refine lv_lstore_n (lv' := [(2, .long (tsum nx n b (z + 1))), (4, .int (nI z)), (0, .ref (Ad 0)), (1, .int b)]) hx hb dX5_trees_54 rfl hl (by decide) rfl (fun ls hl => ?_)
          refine lv_iinc (v := nI (z + 1)) (lv' := [(4, .int (nI (z + 1))), (2, .long (tsum nx n b (z + 1))), (0, .ref (Ad 0)), (1, .int b)]) hx hb dX5_trees_55 hl (k := 1) rfl (nI_add _ 1) (by decide) rfl (fun ls hl => ?_)
          refine lv_goto (tgt := 22) hx hb dX5_trees_58 (by decide) ?_
          exact ih C H locs (z + 1) ls (by omega) hP hS hB (by omega) (lv_sub hl [1, 0, 2, 3] rfl)
        · refine lv_aload_n hx hb dX5_trees_43 rfl (lv_at hl 2 rfl) ?_
          refine lv_iload hx hb dX5_trees_44 (lv_at hl 1 rfl) ?_
          refine pw_cvW S hK hP 0 5 rfl rfl 1 (c_X5_treesOf l D cy Ad n mm pk tr C hI hn hF nx hN z (by omega)) gX5_trees_X5_treesOf rfl rfl rfl (by decide +kernel) ⟨Nat.le_of_ble_eq_true rfl, Nat.le_of_ble_eq_true rfl⟩ rfl hl.1 rfl (Nat.le_of_ble_eq_true rfl) dX5_trees_46 ⟨Nat.le_refl _, Nat.le_refl _⟩ hS (fun _ h9 => h9) (fun r9 C46 H locs hR hP _ _ hS => ?_)
          obtain ⟨rfl, hR⟩ := hR
          change W p l e _ s m _ below meth c H locs 0 0 _ (F0 m 49 ls [.long (trF nx n z), .long (tsum nx n b z)])
          have hB := hB.tr hR
          have hF := fM_B hF0 hB
          have hN := rN_B hN0 hB (by omega)
          refine lv_goto (tgt := 53) hx hb dX5_trees_49 (by decide) ?_
          refine lv_ladd hx hb dX5_trees_53 ?_
          refine pw_topl (y := tsum nx n b (z + 1)) (by show _ = tsum nx n b z + _; first | rw [if_pos (show b = (-1) ∨ b = nI z from Or.inl c_34)] | rw [if_pos (show b = (-1) ∨ b = nI z from Or.inr c_40)] | rw [if_neg (show ¬ (b = (-1) ∨ b = nI z) from fun q => q.elim c_34 c_40)]) ?_
          refine lv_lstore_n (lv' := [(2, .long (tsum nx n b (z + 1))), (4, .int (nI z)), (0, .ref (Ad 0)), (1, .int b)]) hx hb dX5_trees_54 rfl hl (by decide) rfl (fun ls hl => ?_)
          refine lv_iinc (v := nI (z + 1)) (lv' := [(4, .int (nI (z + 1))), (2, .long (tsum nx n b (z + 1))), (0, .ref (Ad 0)), (1, .int b)]) hx hb dX5_trees_55 hl (k := 1) rfl (nI_add _ 1) (by decide) rfl (fun ls hl => ?_)
          refine lv_goto (tgt := 22) hx hb dX5_trees_58 (by decide) ?_
          exact ih C46 H locs (z + 1) ls (by omega) hP hS hB (by omega) (lv_sub hl [1, 0, 2, 3] rfl)

set_option maxHeartbeats 4000000 in
set_option maxRecDepth 100000 in
theorem c_X5_trees (l : Launch) (D : va_G) (cy : Nat → ClassId) (Ad : Nat → Nat) (n mm : Nat) (C : pw_C) (hI : pw_I Ad shM) (hn : 1 ≤ n ∧ n ≤ 12) (hmm : 1 ≤ mm ∧ mm ≤ 16) (nx : Nat → Nat → Nat) (mx : Nat → Nat → Option Nat) (en : Nat → Bool) (am wt : Nat → Nat) (hX : MI n mm nx mx en am wt Ad C) (b : Int32) : Met l yX5_trees wsX5_trees (k2_rm 2 55) (pw_Pre ([.ref (Ad 0), .int b]) D cy Ad shM C) (pw_Post (fun r9 C' => r9 = some (.long (f_trees n nx b)) ∧ (MI n mm nx mx en am wt Ad C')) D cy Ad shM) 0 0 (pw_fr Ad shM) := by
  refine Met.ofW (cc := cX5_trees) (maxL := 5) (ret := (some .long)) (by decide) rfl ?_
  intro p e s m args below meth c s₁ B hml hv
  obtain ⟨rfl, hP, hK⟩ := hv
  have hx := B.exec
  have hb := B.bytes
  have hr := B.returns
  have hts := atoms_spec (ws := wsX5_trees) B.pre
  have hown : s.vm.findClass RX5 = some m.cls := findClass_of_methodNamed B.named
  have hlocks := B.notSynchronized
  have S : CallFix p m c cX5_trees 5 s ([.ref (Ad 0), .int b]).toArray wsX5_trees RX5 := ⟨hx, hb, hml, hown, hts⟩
  change W p l e (k2_rm 2 55) s m _ below meth c s.heap [] 0 0 _ _
  have hl := lv_entry ([.ref (Ad 0), .int b]) (n := 5) (Nat.le_of_ble_eq_true rfl)
  rw [lg_entry_eq]
  generalize (lg_sl ([.ref (Ad 0), .int b]) ++ List.replicate (5 - (lg_sl ([.ref (Ad 0), .int b])).length) Slot.unset).toArray = ls at hl ⊢
  have hl : lv_has ls 5 [(0, .ref (Ad 0)), (1, .int b)] := hl
  have hS : va_S (pw_fr Ad shM) s.heap s.heap [] := va_S.rf
  obtain ⟨⟨pk, tr, hF⟩, hN, hM, hE, hA, hT⟩ := id hX
  refine lv_iload_n hx hb dX5_trees_0 rfl (lv_at hl 1 rfl) ?_
  refine lv_iconst (v := (-1)) hx hb dX5_trees_1 (by decide) ?_
  refine lv_icmp_eq (tgt := 17) hx hb dX5_trees_2 (by decide) (fun c_2 => ?_) (fun c_2 => ?_)
  · have ef : f_trees n nx b = tsum nx n b n := by
      subst c_2; rw [tsum_m]; unfold f_trees; rw [if_pos (by rw [wi_sp hn]; rfl), if_pos rfl]
    rw [ef]
    refine lv_lconst (v := 0) hx hb dX5_trees_17 (by decide) ?_
    refine lv_lstore_n (lv' := [(2, .long 0), (0, .ref (Ad 0)), (1, .int b)]) hx hb dX5_trees_18 rfl hl (by decide) rfl (fun ls hl => ?_)
    refine lv_iconst (v := nI 0) hx hb dX5_trees_19 (by decide) ?_
    refine lv_istore (lv' := [(4, .int (nI 0)), (2, .long 0), (0, .ref (Ad 0)), (1, .int b)]) hx hb dX5_trees_20 hl (by decide) rfl (fun ls hl => ?_)
    exact L5_trees S hK hI hF hn hN b (fun pc9 C9 H9 locs9 ls9 hd9 hP9 hS9 hR9 => W.lret hx hb hr (fun t ht _ => ⟨⟨_, C9, rfl, ⟨rfl, MI_B hX hR9 (fun k h => by have h8 : k = 10 := h; omega)⟩, by rw [ht]; exact hP9⟩, hS9.F ht⟩) hS9.2.2 hd9) (n + 1) C s.heap [] 0 ls (by omega) hP hS pw_B.rf (by omega) (lv_sub hl [1, 0, 2, 3] rfl)
  · refine lv_aload_n hx hb dX5_trees_5 rfl (lv_at hl 0 rfl) ?_
    refine lv_iload_n hx hb dX5_trees_6 rfl (lv_at hl 1 rfl) ?_
    refine pw_cv S hK hP 0 5 rfl rfl 1 (c_X5_isState l D cy Ad n mm pk tr C hn hF b) gX5_trees_X5_isState rfl rfl rfl (by decide +kernel) ⟨Nat.le_of_ble_eq_true rfl, Nat.le_of_ble_eq_true rfl⟩ rfl hl.1 rfl (Nat.le_of_ble_eq_true rfl) dX5_trees_7 ⟨Nat.le_refl _, Nat.le_refl _⟩ ?_
    refine pn_ifne_b (tgt := 17) hx hb dX5_trees_10 (by decide) (fun c_10 => ?_) (fun c_10 => ?_)
    · have ef : f_trees n nx b = tsum nx n b n := by
        obtain ⟨x, h1, h2, rfl⟩ := wi_ex (by omega) c_10
        rw [tsum_x nx n x (by omega) n (by omega), if_pos (by omega)]; unfold f_trees; rw [if_pos (by rw [wi_sp hn, c_10, Bool.or_true]), if_neg c_2]; exact congrArg (trF nx n) (nI_clamp (by omega))
      rw [ef]
      refine lv_lconst (v := 0) hx hb dX5_trees_17 (by decide) ?_
      refine lv_lstore_n (lv' := [(2, .long 0), (0, .ref (Ad 0)), (1, .int b)]) hx hb dX5_trees_18 rfl hl (by decide) rfl (fun ls hl => ?_)
      refine lv_iconst (v := nI 0) hx hb dX5_trees_19 (by decide) ?_
      refine lv_istore (lv' := [(4, .int (nI 0)), (2, .long 0), (0, .ref (Ad 0)), (1, .int b)]) hx hb dX5_trees_20 hl (by decide) rfl (fun ls hl => ?_)
      exact L5_trees S hK hI hF hn hN b (fun pc9 C9 H9 locs9 ls9 hd9 hP9 hS9 hR9 => W.lret hx hb hr (fun t ht _ => ⟨⟨_, C9, rfl, ⟨rfl, MI_B hX hR9 (fun k h => by have h8 : k = 10 := h; omega)⟩, by rw [ht]; exact hP9⟩, hS9.F ht⟩) hS9.2.2 hd9) (n + 1) C s.heap [] 0 ls (by omega) hP hS pw_B.rf (by omega) (lv_sub hl [1, 0, 2, 3] rfl)
    · refine lv_ldc2 hx hb hown (hts (.constantLong RX5 89 (-1)) (List.mem_of_getElem? (i := 1) rfl)) dX5_trees_13 ?_
      refine pw_topl (y := f_trees n nx b) (by unfold f_trees; rw [wi_sp hn, decide_eq_false c_2, c_10]; rfl) ?_
      exact W.lret hx hb hr (fun t ht _ => ⟨⟨_, C, rfl, ⟨rfl, hX⟩, by rw [ht]; exact hP⟩, hS.F ht⟩) hS.2.2 dX5_trees_16
