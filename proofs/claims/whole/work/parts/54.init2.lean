/-- the states of a chain, held to 1 .. 12 -/
def nOf (a : Int32) : Nat := (max 1 (min 12 a.toInt)).toNat
theorem nOf_b (a : Int32) : 1 ≤ nOf a ∧ nOf a ≤ 12 := by unfold nOf; omega
theorem nOf_1 {a : Int32} (h : ¬ nI 1 ≤ a) : nI 1 = nI (nOf a) := by
  rw [Int32.le_iff_toInt_le] at h
  have e : (nI 1).toInt = 1 := by decide
  congr 1; unfold nOf; omega
theorem nOf_12 {a : Int32} (h : ¬ a ≤ nI 12) : nI 12 = nI (nOf a) := by
  rw [Int32.le_iff_toInt_le] at h
  have e : (nI 12).toInt = 12 := by decide
  congr 1; unfold nOf; omega
theorem nOf_a {a : Int32} (h1 : nI 1 ≤ a) (h2 : a ≤ nI 12) : a = nI (nOf a) := by
  rw [Int32.le_iff_toInt_le] at h1 h2
  have e1 : (nI 1).toInt = 1 := by decide
  have e2 : (nI 12).toInt = 12 := by decide
  apply Int32.toInt_inj.mp
  have := nOf_b a
  rw [nI_toInt (by omega)]
  unfold nOf; omega
def fM5 (j : Nat) : Bool := ((((((((((((((((j == 0 || j == 1) || j == 2) || j == 3) || j == 4) || j == 5) || j == 6) || j == 7) || j == 8) || j == 9) || j == 10) || j == 11) || j == 12) || j == 13) || j == 14) || j == 15) || j == 16)
theorem fM5_all {k : Nat} (h : pw_L shM k) : fM5 k = true := by
  have hk : k < 17 := by
    rcases Nat.lt_or_ge k 17 with q | q
    · exact q
    · have e0 : shM k = (0, 0, 0) := by
        unfold shM
        rw [List.getD_eq_getElem?_getD, List.getElem?_eq_none (by exact q)]
        rfl
      unfold pw_L at h
      rw [e0] at h
      exact absurd h.1 (by decide)
  have : ∀ k, k < 17 → fM5 k = true := by decide
  exact this k hk
theorem shM_R : shR fM5 shM = shM := by
  funext k
  by_cases h : fM5 k = true
  · exact shR_t h
  · have e0 : shR fM5 shM k = (0, 0, 0) := if_neg h
    rw [e0]
    have hL : ¬ pw_L shM k := fun q => h (fM5_all q)
    unfold pw_L at hL
    have hk : 17 ≤ k := by
      rcases Nat.lt_or_ge k 17 with q | q
      · have : ∀ k, k < 17 → fM5 k = true := by decide
        exact absurd (this k q) h
      · exact q
    unfold shM
    rw [List.getD_eq_getElem?_getD, List.getElem?_eq_none (by exact hk)]
    rfl

set_option maxHeartbeats 4000000 in
set_option maxRecDepth 100000 in
theorem L5_ini_u {p : Program} {l : Launch} {e : Env} {s : State} {m : MethodId} {args : Array Value} {below : List Frame} {meth : Method} {c : Code} {Q : State → Prop} {ce se : Nat} (S : CallFix p m c cX5_init 4 s args wsX5_init RX5) {D : va_G} {cy : Nat → ClassId} {Ad : Nat → Nat} {n mm : Nat} {pk : Int64} {tr : Int32} {C0 : pw_C} (hK : pw_K D cy s) (hI : pw_I Ad (shR fM5 shM)) (hF0 : fM n mm pk tr Ad C0) (hn : 1 ≤ n ∧ n ≤ 12) (x : Nat) (hx0 : x < n) (hk : ∀ (C : pw_C) (H : Heap) (locs : List Loc) (ls : Array Slot), pw_P D cy Ad (shR fM5 shM) C H → va_S (pw_fr Ad (shR fM5 shM)) s.heap H locs → (pw_B (fun k => 1 ≤ k ∧ k ≤ 5) C0 C ∧ C.1 3 = C0.1 3 ∧ (∀ y, y < x → ∀ u, u < 4 → C.1 2 (4 * y + u) = (-2)) ∧ (∀ y, y < x + 1 → ∀ u, u < 8 → C.1 1 (8 * y + u) = nI y)) → lv_has ls 4 [(2, .int (nI x)), (0, .ref (Ad 0))] → W p l e (pw_rm 1 12 16 1324) s m args below meth c H locs ce se Q (F0 m 203 ls [])) : ∀ (f : Nat) (C : pw_C) (H : Heap) (locs : List Loc) (u : Nat) (ls : Array Slot), 8 - u < f → (pw_P D cy Ad (shR fM5 shM) C H) → (va_S (pw_fr Ad (shR fM5 shM)) s.heap H locs) → (pw_B (fun k => 1 ≤ k ∧ k ≤ 5) C0 C) → (u ≤ 8) → (C.1 3 = C0.1 3) → (∀ y, y < x → ∀ u, u < 4 → C.1 2 (4 * y + u) = (-2)) → (∀ y, y < x → ∀ u, u < 8 → C.1 1 (8 * y + u) = nI y) → (∀ u9, u9 < u → C.1 1 (8 * x + u9) = nI x) → lv_has ls 4 [(3, .int (nI u)), (2, .int (nI x)), (0, .ref (Ad 0))] → W p l e (pw_rm 1 12 16 1324) s m args below meth c H locs ce se Q (F0 m 179 ls []) := by
  have hx := S.1
  have hb := S.2.1
  have hml := S.2.2.1
  have hown := S.2.2.2.1
  have hts := S.2.2.2.2
  intro f
  induction f with
  | zero => intro C H locs u ls hf; exact absurd hf (Nat.not_lt_zero _)
  | succ f ih =>
    intro C H locs u ls hf hP hS hB hu h3 h2 h1 hv hl
    have hF := fM_B hF0 hB
    refine lv_iload_n hx hb dX5_init_179 rfl (lv_at hl 0 rfl) ?_
    refine lv_bipush (v := nI 8) hx hb dX5_init_180 (by decide) ?_
    refine pn_icmp_ge (tgt := 203) hx hb (by omega) (by omega) dX5_init_182 (by decide) (fun c_182 => ?_) (fun c_182 => ?_)
    · exact hk C H locs ls hP hS ⟨hB, h3, h2, fun y hy u9 hu9 => by
        rcases Nat.lt_or_ge y x with g | g
        · exact h1 y g u9 hu9
        · obtain rfl : y = x := by omega
          exact hv u9 (by omega)⟩ (lv_sub hl [1, 2] rfl)
    · refine lv_aload_n hx hb dX5_init_185 rfl (lv_at hl 2 rfl) ?_
      refine pw_get hx hb hts (fun _ h9 => List.mem_cons_of_mem _ (List.mem_append_right _ h9)) hown hK hP 0 rfl rfl 1 (by decide) hF rfl (hts (.fieldLink RX5 7 "PastDrawsModel" "rules" "[I") (List.mem_of_getElem? (i := 5) rfl)) dX5_init_186 ?_
      refine lv_bipush (v := nI 8) hx hb dX5_init_189 (by decide) ?_
      refine lv_iload_n hx hb dX5_init_191 rfl (lv_at hl 1 rfl) ?_
      refine lv_imul hx hb dX5_init_192 ?_
      refine pw_topi (pk_mul _ _) ?_
      refine lv_iload_n hx hb dX5_init_193 rfl (lv_at hl 0 rfl) ?_
      refine lv_iadd hx hb dX5_init_194 ?_
      refine pw_topi (nI_add _ _) ?_
      refine lv_iload_n hx hb dX5_init_195 rfl (lv_at hl 1 rfl) ?_
      refine pw_iast hx hb hK hP hI hS 1 rfl (by omega) (by decide) dX5_init_196 (fun H locs hP hS => ?_)
      obtain ⟨C196, hC196⟩ : ∃ z9, z9 = pw_setI C 1 ((8 * x) + u) (nI x) := ⟨_, rfl⟩
      rw [← hC196] at hP
      have hB := by have hB9 := hB; exact (show pw_B (fun k => 1 ≤ k ∧ k ≤ 5) C0 C196 by rw [hC196]; exact hB9.setI (by show 1 ≤ 1 ∧ 1 ≤ 5; first | trivial | omega))
      have hF := fM_B hF0 hB
      refine lv_iinc (v := nI (u + 1)) (lv' := [(3, .int (nI (u + 1))), (2, .int (nI x)), (0, .ref (Ad 0))]) hx hb dX5_init_197 hl (k := 0) rfl (nI_add _ 1) (by decide) rfl (fun ls hl => ?_)
      refine lv_goto (tgt := 179) hx hb dX5_init_200 (by decide) ?_
      have e2 : C196.1 2 = C.1 2 := by rw [hC196]; exact si_ne (by decide)
      have e3 : C196.1 3 = C.1 3 := by rw [hC196]; exact si_ne (by decide)
      exact ih C196 H locs (u + 1) ls (by omega) hP hS hB (by omega) (e3.trans h3) (fun y hy u9 hu9 => by rw [e2]; exact h2 y hy u9 hu9) (fun y hy u9 hu9 => by rw [hC196, si_at, if_neg (by omega)]; exact h1 y hy u9 hu9) (fun u9 hu9 => by
        rw [hC196, si_at]
        by_cases q : u9 = u
        · rw [if_pos (by omega)]
        · rw [if_neg (by omega)]; exact hv u9 (by omega)) (lv_sub hl [0, 1, 2] rfl)

set_option maxHeartbeats 4000000 in
set_option maxRecDepth 100000 in
theorem L5_ini_l {p : Program} {l : Launch} {e : Env} {s : State} {m : MethodId} {args : Array Value} {below : List Frame} {meth : Method} {c : Code} {Q : State → Prop} {ce se : Nat} (S : CallFix p m c cX5_init 4 s args wsX5_init RX5) {D : va_G} {cy : Nat → ClassId} {Ad : Nat → Nat} {n mm : Nat} {pk : Int64} {tr : Int32} {C0 : pw_C} (hK : pw_K D cy s) (hI : pw_I Ad (shR fM5 shM)) (hF0 : fM n mm pk tr Ad C0) (hn : 1 ≤ n ∧ n ≤ 12) (x : Nat) (hx0 : x < n) (hk : ∀ (C : pw_C) (H : Heap) (locs : List Loc) (ls : Array Slot), pw_P D cy Ad (shR fM5 shM) C H → va_S (pw_fr Ad (shR fM5 shM)) s.heap H locs → (pw_B (fun k => 1 ≤ k ∧ k ≤ 5) C0 C ∧ C.1 3 = C0.1 3 ∧ (∀ y, y < x + 1 → ∀ u, u < 8 → C.1 1 (8 * y + u) = nI y) ∧ (∀ y, y < x + 1 → ∀ u, u < 4 → C.1 2 (4 * y + u) = (-2))) → lv_has ls 4 [(2, .int (nI x)), (0, .ref (Ad 0))] → W p l e (pw_rm 1 12 16 1324) s m args below meth c H locs ce se Q (F0 m 228 ls [])) : ∀ (f : Nat) (C : pw_C) (H : Heap) (locs : List Loc) (u : Nat) (ls : Array Slot), 4 - u < f → (pw_P D cy Ad (shR fM5 shM) C H) → (va_S (pw_fr Ad (shR fM5 shM)) s.heap H locs) → (pw_B (fun k => 1 ≤ k ∧ k ≤ 5) C0 C) → (u ≤ 4) → (C.1 3 = C0.1 3) → (∀ y, y < x → ∀ u, u < 4 → C.1 2 (4 * y + u) = (-2)) → (∀ y, y < x + 1 → ∀ u, u < 8 → C.1 1 (8 * y + u) = nI y) → (∀ u9, u9 < u → C.1 2 (4 * x + u9) = (-2)) → lv_has ls 4 [(3, .int (nI u)), (2, .int (nI x)), (0, .ref (Ad 0))] → W p l e (pw_rm 1 12 16 1324) s m args below meth c H locs ce se Q (F0 m 205 ls []) := by
  have hx := S.1
  have hb := S.2.1
  have hml := S.2.2.1
  have hown := S.2.2.2.1
  have hts := S.2.2.2.2
  intro f
  induction f with
  | zero => intro C H locs u ls hf; exact absurd hf (Nat.not_lt_zero _)
  | succ f ih =>
    intro C H locs u ls hf hP hS hB hu h3 h2 h1 hv hl
    have hF := fM_B hF0 hB
    refine lv_iload_n hx hb dX5_init_205 rfl (lv_at hl 0 rfl) ?_
    refine lv_iconst (v := nI 4) hx hb dX5_init_206 (by decide) ?_
    refine pn_icmp_ge (tgt := 228) hx hb (by omega) (by omega) dX5_init_207 (by decide) (fun c_207 => ?_) (fun c_207 => ?_)
    · exact hk C H locs ls hP hS ⟨hB, h3, h1, fun y hy u9 hu9 => by
        rcases Nat.lt_or_ge y x with g | g
        · exact h2 y g u9 hu9
        · obtain rfl : y = x := by omega
          exact hv u9 (by omega)⟩ (lv_sub hl [1, 2] rfl)
    · refine lv_aload_n hx hb dX5_init_210 rfl (lv_at hl 2 rfl) ?_
      refine pw_get hx hb hts (fun _ h9 => List.mem_cons_of_mem _ (List.mem_append_right _ h9)) hown hK hP 0 rfl rfl 2 (by decide) hF rfl (hts (.fieldLink RX5 13 "PastDrawsModel" "leads" "[I") (List.mem_of_getElem? (i := 6) rfl)) dX5_init_211 ?_
      refine lv_iconst (v := nI 4) hx hb dX5_init_214 (by decide) ?_
      refine lv_iload_n hx hb dX5_init_215 rfl (lv_at hl 1 rfl) ?_
      refine lv_imul hx hb dX5_init_216 ?_
      refine pw_topi (pk_mul _ _) ?_
      refine lv_iload_n hx hb dX5_init_217 rfl (lv_at hl 0 rfl) ?_
      refine lv_iadd hx hb dX5_init_218 ?_
      refine pw_topi (nI_add _ _) ?_
      refine lv_bipush (v := (-2)) hx hb dX5_init_219 (by decide) ?_
      refine pw_iast hx hb hK hP hI hS 2 rfl (by omega) (by decide) dX5_init_221 (fun H locs hP hS => ?_)
      obtain ⟨C221, hC221⟩ : ∃ z9, z9 = pw_setI C 2 ((4 * x) + u) (-2) := ⟨_, rfl⟩
      rw [← hC221] at hP
      have hB := by have hB9 := hB; exact (show pw_B (fun k => 1 ≤ k ∧ k ≤ 5) C0 C221 by rw [hC221]; exact hB9.setI (by show 1 ≤ 2 ∧ 2 ≤ 5; first | trivial | omega))
      have hF := fM_B hF0 hB
      refine lv_iinc (v := nI (u + 1)) (lv' := [(3, .int (nI (u + 1))), (2, .int (nI x)), (0, .ref (Ad 0))]) hx hb dX5_init_222 hl (k := 0) rfl (nI_add _ 1) (by decide) rfl (fun ls hl => ?_)
      refine lv_goto (tgt := 205) hx hb dX5_init_225 (by decide) ?_
      have e1 : C221.1 1 = C.1 1 := by rw [hC221]; exact si_ne (by decide)
      have e3 : C221.1 3 = C.1 3 := by rw [hC221]; exact si_ne (by decide)
      exact ih C221 H locs (u + 1) ls (by omega) hP hS hB (by omega) (e3.trans h3) (fun y hy u9 hu9 => by rw [hC221, si_at, if_neg (by omega)]; exact h2 y hy u9 hu9) (fun y hy u9 hu9 => by rw [e1]; exact h1 y hy u9 hu9) (fun u9 hu9 => by
        rw [hC221, si_at]
        by_cases q : u9 = u
        · rw [if_pos (by omega)]
        · rw [if_neg (by omega)]; exact hv u9 (by omega)) (lv_sub hl [0, 1, 2] rfl)

set_option maxHeartbeats 4000000 in
set_option maxRecDepth 100000 in
theorem L5_ini_k {p : Program} {l : Launch} {e : Env} {s : State} {m : MethodId} {args : Array Value} {below : List Frame} {meth : Method} {c : Code} {Q : State → Prop} {ce se : Nat} (S : CallFix p m c cX5_init 4 s args wsX5_init RX5) {D : va_G} {cy : Nat → ClassId} {Ad : Nat → Nat} {n mm : Nat} {pk : Int64} {tr : Int32} {C0 : pw_C} (hK : pw_K D cy s) (hI : pw_I Ad (shR fM5 shM)) (hF0 : fM n mm pk tr Ad C0) (hn : 1 ≤ n ∧ n ≤ 12) (hk : ∀ (C : pw_C) (H : Heap) (locs : List Loc) (ls : Array Slot), pw_P D cy Ad (shR fM5 shM) C H → va_S (pw_fr Ad (shR fM5 shM)) s.heap H locs → (pw_B (fun k => 1 ≤ k ∧ k ≤ 5) C0 C ∧ C.1 3 = C0.1 3 ∧ (∀ y, y < n → ∀ u, u < 8 → C.1 1 (8 * y + u) = nI y) ∧ (∀ y, y < n → ∀ u, u < 4 → C.1 2 (4 * y + u) = (-2))) → lv_has ls 4 [(0, .ref (Ad 0))] → W p l e (pw_rm 1 12 16 1324) s m args below meth c H locs ce se Q (F0 m 234 ls [])) : ∀ (f : Nat) (C : pw_C) (H : Heap) (locs : List Loc) (x : Nat) (ls : Array Slot), n - x < f → (pw_P D cy Ad (shR fM5 shM) C H) → (va_S (pw_fr Ad (shR fM5 shM)) s.heap H locs) → (pw_B (fun k => 1 ≤ k ∧ k ≤ 5) C0 C) → (x ≤ n) → (C.1 3 = C0.1 3) → (∀ y, y < x → ∀ u, u < 4 → C.1 2 (4 * y + u) = (-2)) → (∀ y, y < x → ∀ u, u < 8 → C.1 1 (8 * y + u) = nI y) → lv_has ls 4 [(2, .int (nI x)), (0, .ref (Ad 0))] → W p l e (pw_rm 1 12 16 1324) s m args below meth c H locs ce se Q (F0 m 169 ls []) := by
  have hx := S.1
  have hb := S.2.1
  have hml := S.2.2.1
  have hown := S.2.2.2.1
  have hts := S.2.2.2.2
  intro f
  induction f with
  | zero => intro C H locs x ls hf; exact absurd hf (Nat.not_lt_zero _)
  | succ f ih =>
    intro C H locs x ls hf hP hS hB hx0 h3 h2 h1 hl
    have hF := fM_B hF0 hB
    refine lv_iload_n hx hb dX5_init_169 rfl (lv_at hl 0 rfl) ?_
    refine lv_aload_n hx hb dX5_init_170 rfl (lv_at hl 1 rfl) ?_
    refine pw_get hx hb hts (fun _ h9 => List.mem_cons_of_mem _ (List.mem_append_right _ h9)) hown hK hP 0 rfl rfl 0 (by decide) hF rfl (hts (.fieldLink RX5 64 "PastDrawsModel" "n" "I") (List.mem_of_getElem? (i := 24) rfl)) dX5_init_171 ?_
    refine pn_icmp_ge (tgt := 234) hx hb (by omega) (by omega) dX5_init_174 (by decide) (fun c_174 => ?_) (fun c_174 => ?_)
    · obtain rfl : x = n := by omega
      exact hk C H locs ls hP hS ⟨hB, h3, h1, h2⟩ (lv_sub hl [1] rfl)
    · refine lv_iconst (v := nI 0) hx hb dX5_init_177 (by decide) ?_
      refine lv_istore_n (lv' := [(3, .int (nI 0)), (2, .int (nI x)), (0, .ref (Ad 0))]) hx hb dX5_init_178 rfl hl (by decide) rfl (fun ls hl => ?_)
      refine L5_ini_u S hK hI hF0 hn x (by omega) (fun C9 H locs ls hP hS hR hl => ?_) 9 C H locs 0 ls (by omega) hP hS hB (by omega) h3 h2 h1 (fun u9 hu9 => by omega) (lv_sub hl [0, 1, 2] rfl)
      obtain ⟨hB, h3, h2, h1⟩ := hR
      refine lv_iconst (v := nI 0) hx hb dX5_init_203 (by decide) ?_
      refine lv_istore_n (lv' := [(3, .int (nI 0)), (2, .int (nI x)), (0, .ref (Ad 0))]) hx hb dX5_init_204 rfl hl (by decide) rfl (fun ls hl => ?_)
      refine L5_ini_l S hK hI hF0 hn x (by omega) (fun C8 H locs ls hP hS hR hl => ?_) 5 C9 H locs 0 ls (by omega) hP hS hB (by omega) h3 h2 h1 (fun u9 hu9 => by omega) (lv_sub hl [0, 1, 2] rfl)
      obtain ⟨hB, h3, h1, h2⟩ := hR
      refine lv_iinc (v := nI (x + 1)) (lv' := [(2, .int (nI (x + 1))), (0, .ref (Ad 0))]) hx hb dX5_init_228 hl (k := 0) rfl (nI_add _ 1) (by decide) rfl (fun ls hl => ?_)
      refine lv_goto (tgt := 169) hx hb dX5_init_231 (by decide) ?_
      exact ih C8 H locs (x + 1) ls (by omega) hP hS hB (by omega) h3 h2 h1 (lv_sub hl [0, 1] rfl)

set_option maxHeartbeats 4000000 in
set_option maxRecDepth 100000 in
theorem L5_ini_a {p : Program} {l : Launch} {e : Env} {s : State} {m : MethodId} {args : Array Value} {below : List Frame} {meth : Method} {c : Code} {Q : State → Prop} {ce se : Nat} (S : CallFix p m c cX5_init 4 s args wsX5_init RX5) {D : va_G} {cy : Nat → ClassId} {Ad : Nat → Nat} {n mm : Nat} {pk : Int64} {tr : Int32} {C0 : pw_C} (hK : pw_K D cy s) (hI : pw_I Ad (shR fM5 shM)) (hF0 : fM n mm pk tr Ad C0) (hn : 1 ≤ n ∧ n ≤ 12) (hk : ∀ (C : pw_C) (H : Heap) (locs : List Loc) (ls : Array Slot), pw_P D cy Ad (shR fM5 shM) C H → va_S (pw_fr Ad (shR fM5 shM)) s.heap H locs → (pw_B (fun k => 1 ≤ k ∧ k ≤ 5) C0 C ∧ C.1 3 = C0.1 3 ∧ (∀ y, y < n → ∀ u, u < 8 → C.1 1 (8 * y + u) = nI y) ∧ (∀ y, y < n → ∀ u, u < 4 → C.1 2 (4 * y + u) = (-2)) ∧ ∀ y, y < 64 → C.1 4 y = pb true) → lv_has ls 4 [(0, .ref (Ad 0))] → W p l e (pw_rm 1 12 16 1324) s m args below meth c H locs ce se Q (F0 m 255 ls [])) : ∀ (f : Nat) (C : pw_C) (H : Heap) (locs : List Loc) (x : Nat) (ls : Array Slot), 64 - x < f → (pw_P D cy Ad (shR fM5 shM) C H) → (va_S (pw_fr Ad (shR fM5 shM)) s.heap H locs) → (pw_B (fun k => 1 ≤ k ∧ k ≤ 5) C0 C) → (x ≤ 64) → (C.1 3 = C0.1 3) → (∀ y, y < n → ∀ u, u < 4 → C.1 2 (4 * y + u) = (-2)) → (∀ y, y < n → ∀ u, u < 8 → C.1 1 (8 * y + u) = nI y) → (∀ y, y < x → C.1 4 y = pb true) → lv_has ls 4 [(2, .int (nI x)), (0, .ref (Ad 0))] → W p l e (pw_rm 1 12 16 1324) s m args below meth c H locs ce se Q (F0 m 236 ls []) := by
  have hx := S.1
  have hb := S.2.1
  have hml := S.2.2.1
  have hown := S.2.2.2.1
  have hts := S.2.2.2.2
  intro f
  induction f with
  | zero => intro C H locs x ls hf; exact absurd hf (Nat.not_lt_zero _)
  | succ f ih =>
    intro C H locs x ls hf hP hS hB hx0 h3 h2 h1 hv hl
    have hF := fM_B hF0 hB
    refine lv_iload_n hx hb dX5_init_236 rfl (lv_at hl 0 rfl) ?_
    refine lv_bipush (v := nI 64) hx hb dX5_init_237 (by decide) ?_
    refine pn_icmp_ge (tgt := 255) hx hb (by omega) (by omega) dX5_init_239 (by decide) (fun c_239 => ?_) (fun c_239 => ?_)
    · exact hk C H locs ls hP hS ⟨hB, h3, h1, h2, fun y hy => hv y (by omega)⟩ (lv_sub hl [1] rfl)
    · refine lv_aload_n hx hb dX5_init_242 rfl (lv_at hl 1 rfl) ?_
      refine pw_get hx hb hts (fun _ h9 => List.mem_cons_of_mem _ (List.mem_append_right _ h9)) hown hK hP 0 rfl rfl 4 (by decide) hF rfl (hts (.fieldLink RX5 20 "PastDrawsModel" "isAllowed" "[Z") (List.mem_of_getElem? (i := 9) rfl)) dX5_init_243 ?_
      refine lv_iload_n hx hb dX5_init_246 rfl (lv_at hl 0 rfl) ?_
      refine lv_iconst (v := nI 1) hx hb dX5_init_247 (by decide) ?_
      refine pw_topi (y := pb true) rfl ?_
      refine pw_zast hx hb hK hP hI hS 4 rfl (by omega) (by decide) (pb_nar _) dX5_init_248 (fun H locs hP hS => ?_)
      obtain ⟨C248, hC248⟩ : ∃ z9, z9 = pw_setI C 4 x (pb true) := ⟨_, rfl⟩
      rw [← hC248] at hP
      have hB := by have hB9 := hB; exact (show pw_B (fun k => 1 ≤ k ∧ k ≤ 5) C0 C248 by rw [hC248]; exact hB9.setI (by show 1 ≤ 4 ∧ 4 ≤ 5; first | trivial | omega))
      have hF := fM_B hF0 hB
      refine lv_iinc (v := nI (x + 1)) (lv' := [(2, .int (nI (x + 1))), (0, .ref (Ad 0))]) hx hb dX5_init_249 hl (k := 0) rfl (nI_add _ 1) (by decide) rfl (fun ls hl => ?_)
      refine lv_goto (tgt := 236) hx hb dX5_init_252 (by decide) ?_
      have e1 : C248.1 1 = C.1 1 := by rw [hC248]; exact si_ne (by decide)
      have e2 : C248.1 2 = C.1 2 := by rw [hC248]; exact si_ne (by decide)
      have e3 : C248.1 3 = C.1 3 := by rw [hC248]; exact si_ne (by decide)
      exact ih C248 H locs (x + 1) ls (by omega) hP hS hB (by omega) (e3.trans h3) (fun y hy u9 hu9 => by rw [e2]; exact h2 y hy u9 hu9) (fun y hy u9 hu9 => by rw [e1]; exact h1 y hy u9 hu9) (fun y hy => by
        rw [hC248, si_at]
        by_cases q : y = x
        · rw [if_pos q]
        · rw [if_neg q]; exact hv y (by omega)) (lv_sub hl [0, 1] rfl)

set_option maxHeartbeats 4000000 in
set_option maxRecDepth 100000 in
theorem c_X5_init (l : Launch) (D : va_G) (cy : Nat → ClassId) (Ad : Nat → Nat) (z : Nat) (hI0 : pw_I Ad shM) (hA : ∀ k, 1 ≤ k → k ≤ 16 → Ad k = z + (k - 1)) (a : Int32) : Met l yX5_init wsX5_init (pw_rm 1 12 16 1324) (pw_PreN ([.ref (Ad 0), .int a]) z D cy Ad (shR (fun j => j == 0) shM) (zC ([.int 0, .null, .null, .null, .null, .int 0, .null, .long 0, .int 0, .null, .null, .null, .null, .null, .null, .null, .null, .null, .null, .null]))) (pw_PostN (fun C' => MI (nOf a) 1 (fun _ x => x) (fun _ _ => none) (fun _ => false) (fun _ => 255) (fun _ => 1) Ad C') (z + 16) D cy Ad (shR fM5 shM)) 16 1324 (pw_fr Ad (shR fM5 shM)) := by
  refine Met.ofW (cc := cX5_init) (maxL := 4) (ret := none) (by decide) rfl ?_
  intro p e s m args below meth c s₁ B hml hv
  obtain ⟨rfl, hz, hP, hK, hO⟩ := hv
  have hx := B.exec
  have hb := B.bytes
  have hr := B.returns
  have hts := atoms_spec (ws := wsX5_init) B.pre
  have hown : s.vm.findClass RX5 = some m.cls := findClass_of_methodNamed B.named
  have hlocks := B.notSynchronized
  have S : CallFix p m c cX5_init 4 s ([.ref (Ad 0), .int a]).toArray wsX5_init RX5 := ⟨hx, hb, hml, hown, hts⟩
  change W p l e (pw_rm 1 12 16 1324) s m _ below meth c s.heap [] 0 0 _ _
  have hl := lv_entry ([.ref (Ad 0), .int a]) (n := 4) (Nat.le_of_ble_eq_true rfl)
  rw [lg_entry_eq]
  generalize (lg_sl ([.ref (Ad 0), .int a]) ++ List.replicate (4 - (lg_sl ([.ref (Ad 0), .int a])).length) Slot.unset).toArray = ls at hl ⊢
  have hl : lv_has ls 4 [(0, .ref (Ad 0)), (1, .int a)] := hl
  have hin2 : meth.name = "<init>" := (name_of_methodNamed B.named B.method).1
  have hS : va_S (pw_fr Ad (shR (fun j => j == 0) shM)) s.heap s.heap [] := va_S.rf
  have hI : pw_I Ad (shR (fun j => j == 0) shM) := hI0.R
  obtain ⟨C, hC⟩ : ∃ z9, z9 = zC ([.int 0, .null, .null, .null, .null, .int 0, .null, .long 0, .int 0, .null, .null, .null, .null, .null, .null, .null, .null, .null, .null, .null]) := ⟨_, rfl⟩
  rw [← hC] at hP
  have hF : C.2.2 0 = ([.int 0, .null, .null, .null, .null, .int 0, .null, .long 0, .int 0, .null, .null, .null, .null, .null, .null, .null, .null, .null, .null, .null] : List Value) := by rw [hC]; rfl
  have hZ : C.1 = (zC []).1 ∧ C.2.1 = (zC []).2.1 := by rw [hC]; exact ⟨rfl, rfl⟩
  have hA1 : Ad 1 = z + 0 := hA 1 (by decide) (by decide)
  have hA2 : Ad 2 = z + 1 := hA 2 (by decide) (by decide)
  have hA3 : Ad 3 = z + 2 := hA 3 (by decide) (by decide)
  have hA4 : Ad 4 = z + 3 := hA 4 (by decide) (by decide)
  have hA5 : Ad 5 = z + 4 := hA 5 (by decide) (by decide)
  have hA6 : Ad 6 = z + 5 := hA 6 (by decide) (by decide)
  have hA7 : Ad 7 = z + 6 := hA 7 (by decide) (by decide)
  have hA8 : Ad 8 = z + 7 := hA 8 (by decide) (by decide)
  have hA9 : Ad 9 = z + 8 := hA 9 (by decide) (by decide)
  have hA10 : Ad 10 = z + 9 := hA 10 (by decide) (by decide)
  have hA11 : Ad 11 = z + 10 := hA 11 (by decide) (by decide)
  have hA12 : Ad 12 = z + 11 := hA 12 (by decide) (by decide)
  have hA13 : Ad 13 = z + 12 := hA 13 (by decide) (by decide)
  have hA14 : Ad 14 = z + 13 := hA 14 (by decide) (by decide)
  have hA15 : Ad 15 = z + 14 := hA 15 (by decide) (by decide)
  have hA16 : Ad 16 = z + 15 := hA 16 (by decide) (by decide)
  refine lv_aload_n hx hb dX5_init_0 rfl (lv_at hl 0 rfl) ?_
  refine W.objInit hx hb hown (hts (.methodLink RX5 1 objectInit) (List.mem_of_getElem? (i := 1) rfl)) (hts (.instanceMethod objectInit) (List.mem_of_getElem? (i := 2) rfl)) (hts (.code objectInit ⟨#[0xb1]⟩ 1 none) (List.mem_of_getElem? (i := 3) rfl)) rfl (by rw [hml]; exact hl.1) rfl dX5_init_1 (Nat.le_of_ble_eq_true rfl) (Nat.le_of_ble_eq_true rfl) ?_
  refine W.eq (g2 := F0 m 4 ls []) rfl ?_
  refine lv_aload_n hx hb dX5_init_4 rfl (lv_at hl 0 rfl) ?_
  refine lv_bipush (v := nI 96) hx hb dX5_init_5 (by decide) ?_
  refine pw_nai hx hb (hts (.arrayClass .int) (List.mem_of_getElem? (i := 4) rfl)) hK hP hI0 hS 1 rfl (fun i => by rw [hZ.1]; rfl) (by omega) (by omega) (by simp only [pw_rm]; omega) (by simp only [pw_rm]; omega) dX5_init_7 (fun H hP hI hS hz9 => ?_)
  have hz : H.size = z + (0 + 1) := by omega
  refine pw_putF hx hb hts (fun _ h9 => List.mem_cons_of_mem _ (List.mem_append_right _ h9)) tyX5 tyX5_ok nmX5 hown hK hP hI hS 0 rfl rfl 1 (by decide) hF (hts (.fieldLink RX5 7 "PastDrawsModel" "rules" "[I") (List.mem_of_getElem? (i := 5) rfl)) rfl hin2 rfl (ty := .array .int) (by decide +kernel) rfl rfl (Nat.le_of_ble_eq_true rfl) dX5_init_9 (fun H locs hP hS hz9 => ?_)
  have hz : H.size = z + (0 + 1) := by omega
  obtain ⟨C9, hC9⟩ : ∃ z9, z9 = pw_setF C 0 ([.int 0, .ref (Ad 1), .null, .null, .null, .int 0, .null, .long 0, .int 0, .null, .null, .null, .null, .null, .null, .null, .null, .null, .null, .null] : List Value) := ⟨_, rfl⟩
  have hP := hP.eqC (C' := C9) (by rw [hC9]; rfl)
  have hF : C9.2.2 0 = ([.int 0, .ref (Ad 1), .null, .null, .null, .int 0, .null, .long 0, .int 0, .null, .null, .null, .null, .null, .null, .null, .null, .null, .null, .null] : List Value) := by rw [hC9]; rfl
  have hZ : C9.1 = (zC []).1 ∧ C9.2.1 = (zC []).2.1 := by rw [hC9]; exact hZ
  refine lv_aload_n hx hb dX5_init_12 rfl (lv_at hl 0 rfl) ?_
  refine lv_bipush (v := nI 48) hx hb dX5_init_13 (by decide) ?_
  refine pw_nai hx hb (hts (.arrayClass .int) (List.mem_of_getElem? (i := 4) rfl)) hK hP hI0 hS 2 rfl (fun i => by rw [hZ.1]; rfl) (by omega) (by omega) (by simp only [pw_rm]; omega) (by simp only [pw_rm]; omega) dX5_init_15 (fun H hP hI hS hz9 => ?_)
  have hz : H.size = z + (0 + 1 + 1) := by omega
  refine pw_putF hx hb hts (fun _ h9 => List.mem_cons_of_mem _ (List.mem_append_right _ h9)) tyX5 tyX5_ok nmX5 hown hK hP hI hS 0 rfl rfl 2 (by decide) hF (hts (.fieldLink RX5 13 "PastDrawsModel" "leads" "[I") (List.mem_of_getElem? (i := 6) rfl)) rfl hin2 rfl (ty := .array .int) (by decide +kernel) rfl rfl (Nat.le_of_ble_eq_true rfl) dX5_init_17 (fun H locs hP hS hz9 => ?_)
  have hz : H.size = z + (0 + 1 + 1) := by omega
  obtain ⟨C17, hC17⟩ : ∃ z9, z9 = pw_setF C9 0 ([.int 0, .ref (Ad 1), .ref (Ad 2), .null, .null, .int 0, .null, .long 0, .int 0, .null, .null, .null, .null, .null, .null, .null, .null, .null, .null, .null] : List Value) := ⟨_, rfl⟩
  have hP := hP.eqC (C' := C17) (by rw [hC17]; rfl)
  have hF : C17.2.2 0 = ([.int 0, .ref (Ad 1), .ref (Ad 2), .null, .null, .int 0, .null, .long 0, .int 0, .null, .null, .null, .null, .null, .null, .null, .null, .null, .null, .null] : List Value) := by rw [hC17]; rfl
  have hZ : C17.1 = (zC []).1 ∧ C17.2.1 = (zC []).2.1 := by rw [hC17]; exact hZ
  refine lv_aload_n hx hb dX5_init_20 rfl (lv_at hl 0 rfl) ?_
  refine lv_bipush (v := nI 12) hx hb dX5_init_21 (by decide) ?_
  refine pw_naz hx hb (hts (.arrayClass .boolean) (List.mem_of_getElem? (i := 7) rfl)) hK hP hI0 hS 3 rfl (fun i => by rw [hZ.1]; rfl) (by omega) (by omega) (by simp only [pw_rm]; omega) (by simp only [pw_rm]; omega) dX5_init_23 (fun H hP hI hS hz9 => ?_)
  have hz : H.size = z + (0 + 1 + 1 + 1) := by omega
  refine pw_putF hx hb hts (fun _ h9 => List.mem_cons_of_mem _ (List.mem_append_right _ h9)) tyX5 tyX5_ok nmX5 hown hK hP hI hS 0 rfl rfl 3 (by decide) hF (hts (.fieldLink RX5 16 "PastDrawsModel" "isEnd" "[Z") (List.mem_of_getElem? (i := 8) rfl)) rfl hin2 rfl (ty := .array .boolean) (by decide +kernel) rfl rfl (Nat.le_of_ble_eq_true rfl) dX5_init_25 (fun H locs hP hS hz9 => ?_)
  have hz : H.size = z + (0 + 1 + 1 + 1) := by omega
  obtain ⟨C25, hC25⟩ : ∃ z9, z9 = pw_setF C17 0 ([.int 0, .ref (Ad 1), .ref (Ad 2), .ref (Ad 3), .null, .int 0, .null, .long 0, .int 0, .null, .null, .null, .null, .null, .null, .null, .null, .null, .null, .null] : List Value) := ⟨_, rfl⟩
  have hP := hP.eqC (C' := C25) (by rw [hC25]; rfl)
  have hF : C25.2.2 0 = ([.int 0, .ref (Ad 1), .ref (Ad 2), .ref (Ad 3), .null, .int 0, .null, .long 0, .int 0, .null, .null, .null, .null, .null, .null, .null, .null, .null, .null, .null] : List Value) := by rw [hC25]; rfl
  have hZ : C25.1 = (zC []).1 ∧ C25.2.1 = (zC []).2.1 := by rw [hC25]; exact hZ
  refine lv_aload_n hx hb dX5_init_28 rfl (lv_at hl 0 rfl) ?_
  refine lv_bipush (v := nI 64) hx hb dX5_init_29 (by decide) ?_
  refine pw_naz hx hb (hts (.arrayClass .boolean) (List.mem_of_getElem? (i := 7) rfl)) hK hP hI0 hS 4 rfl (fun i => by rw [hZ.1]; rfl) (by omega) (by omega) (by simp only [pw_rm]; omega) (by simp only [pw_rm]; omega) dX5_init_31 (fun H hP hI hS hz9 => ?_)
  have hz : H.size = z + (0 + 1 + 1 + 1 + 1) := by omega
  refine pw_putF hx hb hts (fun _ h9 => List.mem_cons_of_mem _ (List.mem_append_right _ h9)) tyX5 tyX5_ok nmX5 hown hK hP hI hS 0 rfl rfl 4 (by decide) hF (hts (.fieldLink RX5 20 "PastDrawsModel" "isAllowed" "[Z") (List.mem_of_getElem? (i := 9) rfl)) rfl hin2 rfl (ty := .array .boolean) (by decide +kernel) rfl rfl (Nat.le_of_ble_eq_true rfl) dX5_init_33 (fun H locs hP hS hz9 => ?_)
  have hz : H.size = z + (0 + 1 + 1 + 1 + 1) := by omega
  obtain ⟨C33, hC33⟩ : ∃ z9, z9 = pw_setF C25 0 ([.int 0, .ref (Ad 1), .ref (Ad 2), .ref (Ad 3), .ref (Ad 4), .int 0, .null, .long 0, .int 0, .null, .null, .null, .null, .null, .null, .null, .null, .null, .null, .null] : List Value) := ⟨_, rfl⟩
  have hP := hP.eqC (C' := C33) (by rw [hC33]; rfl)
  have hF : C33.2.2 0 = ([.int 0, .ref (Ad 1), .ref (Ad 2), .ref (Ad 3), .ref (Ad 4), .int 0, .null, .long 0, .int 0, .null, .null, .null, .null, .null, .null, .null, .null, .null, .null, .null] : List Value) := by rw [hC33]; rfl
  have hZ : C33.1 = (zC []).1 ∧ C33.2.1 = (zC []).2.1 := by rw [hC33]; exact hZ
  refine lv_aload_n hx hb dX5_init_36 rfl (lv_at hl 0 rfl) ?_
  refine lv_iconst (v := nI 1) hx hb dX5_init_37 (by decide) ?_
  refine pw_putZ hx hb hts (fun _ h9 => List.mem_cons_of_mem _ (List.mem_append_right _ h9)) tyX5 tyX5_ok nmX5 hown hK hP hI hS 0 rfl rfl 5 (by decide) hF (hts (.fieldLink RX5 23 "PastDrawsModel" "things" "I") (List.mem_of_getElem? (i := 10) rfl)) rfl (ty := .int) (by decide +kernel) rfl rfl (Nat.le_of_ble_eq_true rfl) dX5_init_38 (fun H locs hP hS hz9 => ?_)
  have hz : H.size = z + (0 + 1 + 1 + 1 + 1) := by omega
  obtain ⟨C38, hC38⟩ : ∃ z9, z9 = pw_setF C33 0 ([.int 0, .ref (Ad 1), .ref (Ad 2), .ref (Ad 3), .ref (Ad 4), .int (nI 1), .null, .long 0, .int 0, .null, .null, .null, .null, .null, .null, .null, .null, .null, .null, .null] : List Value) := ⟨_, rfl⟩
  have hP := hP.eqC (C' := C38) (by rw [hC38]; rfl)
  have hF : C38.2.2 0 = ([.int 0, .ref (Ad 1), .ref (Ad 2), .ref (Ad 3), .ref (Ad 4), .int (nI 1), .null, .long 0, .int 0, .null, .null, .null, .null, .null, .null, .null, .null, .null, .null, .null] : List Value) := by rw [hC38]; rfl
  have hZ : C38.1 = (zC []).1 ∧ C38.2.1 = (zC []).2.1 := by rw [hC38]; exact hZ
  refine lv_aload_n hx hb dX5_init_41 rfl (lv_at hl 0 rfl) ?_
  refine lv_bipush (v := nI 16) hx hb dX5_init_42 (by decide) ?_
  refine pw_nai hx hb (hts (.arrayClass .int) (List.mem_of_getElem? (i := 4) rfl)) hK hP hI0 hS 5 rfl (fun i => by rw [hZ.1]; rfl) (by omega) (by omega) (by simp only [pw_rm]; omega) (by simp only [pw_rm]; omega) dX5_init_44 (fun H hP hI hS hz9 => ?_)
  have hz : H.size = z + (0 + 1 + 1 + 1 + 1 + 1) := by omega
  refine pw_putF hx hb hts (fun _ h9 => List.mem_cons_of_mem _ (List.mem_append_right _ h9)) tyX5 tyX5_ok nmX5 hown hK hP hI hS 0 rfl rfl 6 (by decide) hF (hts (.fieldLink RX5 27 "PastDrawsModel" "weights" "[I") (List.mem_of_getElem? (i := 11) rfl)) rfl hin2 rfl (ty := .array .int) (by decide +kernel) rfl rfl (Nat.le_of_ble_eq_true rfl) dX5_init_46 (fun H locs hP hS hz9 => ?_)
  have hz : H.size = z + (0 + 1 + 1 + 1 + 1 + 1) := by omega
  obtain ⟨C46, hC46⟩ : ∃ z9, z9 = pw_setF C38 0 ([.int 0, .ref (Ad 1), .ref (Ad 2), .ref (Ad 3), .ref (Ad 4), .int (nI 1), .ref (Ad 5), .long 0, .int 0, .null, .null, .null, .null, .null, .null, .null, .null, .null, .null, .null] : List Value) := ⟨_, rfl⟩
  have hP := hP.eqC (C' := C46) (by rw [hC46]; rfl)
  have hF : C46.2.2 0 = ([.int 0, .ref (Ad 1), .ref (Ad 2), .ref (Ad 3), .ref (Ad 4), .int (nI 1), .ref (Ad 5), .long 0, .int 0, .null, .null, .null, .null, .null, .null, .null, .null, .null, .null, .null] : List Value) := by rw [hC46]; rfl
  have hZ : C46.1 = (zC []).1 ∧ C46.2.1 = (zC []).2.1 := by rw [hC46]; exact hZ
  refine lv_aload_n hx hb dX5_init_49 rfl (lv_at hl 0 rfl) ?_
  refine lv_bipush (v := nI 12) hx hb dX5_init_50 (by decide) ?_
  refine pw_nai hx hb (hts (.arrayClass .int) (List.mem_of_getElem? (i := 4) rfl)) hK hP hI0 hS 6 rfl (fun i => by rw [hZ.1]; rfl) (by omega) (by omega) (by simp only [pw_rm]; omega) (by simp only [pw_rm]; omega) dX5_init_52 (fun H hP hI hS hz9 => ?_)
  have hz : H.size = z + (0 + 1 + 1 + 1 + 1 + 1 + 1) := by omega
  refine pw_putF hx hb hts (fun _ h9 => List.mem_cons_of_mem _ (List.mem_append_right _ h9)) tyX5 tyX5_ok nmX5 hown hK hP hI hS 0 rfl rfl 9 (by decide) hF (hts (.fieldLink RX5 30 "PastDrawsModel" "whole" "[I") (List.mem_of_getElem? (i := 12) rfl)) rfl hin2 rfl (ty := .array .int) (by decide +kernel) rfl rfl (Nat.le_of_ble_eq_true rfl) dX5_init_54 (fun H locs hP hS hz9 => ?_)
  have hz : H.size = z + (0 + 1 + 1 + 1 + 1 + 1 + 1) := by omega
  obtain ⟨C54, hC54⟩ : ∃ z9, z9 = pw_setF C46 0 ([.int 0, .ref (Ad 1), .ref (Ad 2), .ref (Ad 3), .ref (Ad 4), .int (nI 1), .ref (Ad 5), .long 0, .int 0, .ref (Ad 6), .null, .null, .null, .null, .null, .null, .null, .null, .null, .null] : List Value) := ⟨_, rfl⟩
  have hP := hP.eqC (C' := C54) (by rw [hC54]; rfl)
  have hF : C54.2.2 0 = ([.int 0, .ref (Ad 1), .ref (Ad 2), .ref (Ad 3), .ref (Ad 4), .int (nI 1), .ref (Ad 5), .long 0, .int 0, .ref (Ad 6), .null, .null, .null, .null, .null, .null, .null, .null, .null, .null] : List Value) := by rw [hC54]; rfl
  have hZ : C54.1 = (zC []).1 ∧ C54.2.1 = (zC []).2.1 := by rw [hC54]; exact hZ
  refine lv_aload_n hx hb dX5_init_57 rfl (lv_at hl 0 rfl) ?_
  refine lv_bipush (v := nI 12) hx hb dX5_init_58 (by decide) ?_
  refine pw_nai hx hb (hts (.arrayClass .int) (List.mem_of_getElem? (i := 4) rfl)) hK hP hI0 hS 7 rfl (fun i => by rw [hZ.1]; rfl) (by omega) (by omega) (by simp only [pw_rm]; omega) (by simp only [pw_rm]; omega) dX5_init_60 (fun H hP hI hS hz9 => ?_)
  have hz : H.size = z + (0 + 1 + 1 + 1 + 1 + 1 + 1 + 1) := by omega
  refine pw_putF hx hb hts (fun _ h9 => List.mem_cons_of_mem _ (List.mem_append_right _ h9)) tyX5 tyX5_ok nmX5 hown hK hP hI hS 0 rfl rfl 10 (by decide) hF (hts (.fieldLink RX5 33 "PastDrawsModel" "next" "[I") (List.mem_of_getElem? (i := 13) rfl)) rfl hin2 rfl (ty := .array .int) (by decide +kernel) rfl rfl (Nat.le_of_ble_eq_true rfl) dX5_init_62 (fun H locs hP hS hz9 => ?_)
  have hz : H.size = z + (0 + 1 + 1 + 1 + 1 + 1 + 1 + 1) := by omega
  obtain ⟨C62, hC62⟩ : ∃ z9, z9 = pw_setF C54 0 ([.int 0, .ref (Ad 1), .ref (Ad 2), .ref (Ad 3), .ref (Ad 4), .int (nI 1), .ref (Ad 5), .long 0, .int 0, .ref (Ad 6), .ref (Ad 7), .null, .null, .null, .null, .null, .null, .null, .null, .null] : List Value) := ⟨_, rfl⟩
  have hP := hP.eqC (C' := C62) (by rw [hC62]; rfl)
  have hF : C62.2.2 0 = ([.int 0, .ref (Ad 1), .ref (Ad 2), .ref (Ad 3), .ref (Ad 4), .int (nI 1), .ref (Ad 5), .long 0, .int 0, .ref (Ad 6), .ref (Ad 7), .null, .null, .null, .null, .null, .null, .null, .null, .null] : List Value) := by rw [hC62]; rfl
  have hZ : C62.1 = (zC []).1 ∧ C62.2.1 = (zC []).2.1 := by rw [hC62]; exact hZ
  refine lv_aload_n hx hb dX5_init_65 rfl (lv_at hl 0 rfl) ?_
  refine lv_sipush (v := nI 144) hx hb dX5_init_66 (by decide) ?_
  refine pw_nai hx hb (hts (.arrayClass .int) (List.mem_of_getElem? (i := 4) rfl)) hK hP hI0 hS 8 rfl (fun i => by rw [hZ.1]; rfl) (by omega) (by omega) (by simp only [pw_rm]; omega) (by simp only [pw_rm]; omega) dX5_init_69 (fun H hP hI hS hz9 => ?_)
  have hz : H.size = z + (0 + 1 + 1 + 1 + 1 + 1 + 1 + 1 + 1) := by omega
  refine pw_putF hx hb hts (fun _ h9 => List.mem_cons_of_mem _ (List.mem_append_right _ h9)) tyX5 tyX5_ok nmX5 hown hK hP hI hS 0 rfl rfl 11 (by decide) hF (hts (.fieldLink RX5 36 "PastDrawsModel" "bounds" "[I") (List.mem_of_getElem? (i := 14) rfl)) rfl hin2 rfl (ty := .array .int) (by decide +kernel) rfl rfl (Nat.le_of_ble_eq_true rfl) dX5_init_71 (fun H locs hP hS hz9 => ?_)
  have hz : H.size = z + (0 + 1 + 1 + 1 + 1 + 1 + 1 + 1 + 1) := by omega
  obtain ⟨C71, hC71⟩ : ∃ z9, z9 = pw_setF C62 0 ([.int 0, .ref (Ad 1), .ref (Ad 2), .ref (Ad 3), .ref (Ad 4), .int (nI 1), .ref (Ad 5), .long 0, .int 0, .ref (Ad 6), .ref (Ad 7), .ref (Ad 8), .null, .null, .null, .null, .null, .null, .null, .null] : List Value) := ⟨_, rfl⟩
  have hP := hP.eqC (C' := C71) (by rw [hC71]; rfl)
  have hF : C71.2.2 0 = ([.int 0, .ref (Ad 1), .ref (Ad 2), .ref (Ad 3), .ref (Ad 4), .int (nI 1), .ref (Ad 5), .long 0, .int 0, .ref (Ad 6), .ref (Ad 7), .ref (Ad 8), .null, .null, .null, .null, .null, .null, .null, .null] : List Value) := by rw [hC71]; rfl
  have hZ : C71.1 = (zC []).1 ∧ C71.2.1 = (zC []).2.1 := by rw [hC71]; exact hZ
  refine lv_aload_n hx hb dX5_init_74 rfl (lv_at hl 0 rfl) ?_
  refine lv_sipush (v := nI 144) hx hb dX5_init_75 (by decide) ?_
  refine pw_nai hx hb (hts (.arrayClass .int) (List.mem_of_getElem? (i := 4) rfl)) hK hP hI0 hS 9 rfl (fun i => by rw [hZ.1]; rfl) (by omega) (by omega) (by simp only [pw_rm]; omega) (by simp only [pw_rm]; omega) dX5_init_78 (fun H hP hI hS hz9 => ?_)
  have hz : H.size = z + (0 + 1 + 1 + 1 + 1 + 1 + 1 + 1 + 1 + 1) := by omega
  refine pw_putF hx hb hts (fun _ h9 => List.mem_cons_of_mem _ (List.mem_append_right _ h9)) tyX5 tyX5_ok nmX5 hown hK hP hI hS 0 rfl rfl 12 (by decide) hF (hts (.fieldLink RX5 39 "PastDrawsModel" "nextBounds" "[I") (List.mem_of_getElem? (i := 15) rfl)) rfl hin2 rfl (ty := .array .int) (by decide +kernel) rfl rfl (Nat.le_of_ble_eq_true rfl) dX5_init_80 (fun H locs hP hS hz9 => ?_)
  have hz : H.size = z + (0 + 1 + 1 + 1 + 1 + 1 + 1 + 1 + 1 + 1) := by omega
  obtain ⟨C80, hC80⟩ : ∃ z9, z9 = pw_setF C71 0 ([.int 0, .ref (Ad 1), .ref (Ad 2), .ref (Ad 3), .ref (Ad 4), .int (nI 1), .ref (Ad 5), .long 0, .int 0, .ref (Ad 6), .ref (Ad 7), .ref (Ad 8), .ref (Ad 9), .null, .null, .null, .null, .null, .null, .null] : List Value) := ⟨_, rfl⟩
  have hP := hP.eqC (C' := C80) (by rw [hC80]; rfl)
  have hF : C80.2.2 0 = ([.int 0, .ref (Ad 1), .ref (Ad 2), .ref (Ad 3), .ref (Ad 4), .int (nI 1), .ref (Ad 5), .long 0, .int 0, .ref (Ad 6), .ref (Ad 7), .ref (Ad 8), .ref (Ad 9), .null, .null, .null, .null, .null, .null, .null] : List Value) := by rw [hC80]; rfl
  have hZ : C80.1 = (zC []).1 ∧ C80.2.1 = (zC []).2.1 := by rw [hC80]; exact hZ
  refine lv_aload_n hx hb dX5_init_83 rfl (lv_at hl 0 rfl) ?_
  refine lv_sipush (v := nI 144) hx hb dX5_init_84 (by decide) ?_
  refine pw_nal hx hb (hts (.arrayClass .long) (List.mem_of_getElem? (i := 16) rfl)) hK hP hI0 hS 10 rfl (fun i => by rw [hZ.2]; rfl) (by omega) (by omega) (by simp only [pw_rm]; omega) (by simp only [pw_rm]; omega) dX5_init_87 (fun H hP hI hS hz9 => ?_)
  have hz : H.size = z + (0 + 1 + 1 + 1 + 1 + 1 + 1 + 1 + 1 + 1 + 1) := by omega
  refine pw_putF hx hb hts (fun _ h9 => List.mem_cons_of_mem _ (List.mem_append_right _ h9)) tyX5 tyX5_ok nmX5 hown hK hP hI hS 0 rfl rfl 13 (by decide) hF (hts (.fieldLink RX5 42 "PastDrawsModel" "cells" "[J") (List.mem_of_getElem? (i := 17) rfl)) rfl hin2 rfl (ty := .array .long) (by decide +kernel) rfl rfl (Nat.le_of_ble_eq_true rfl) dX5_init_89 (fun H locs hP hS hz9 => ?_)
  have hz : H.size = z + (0 + 1 + 1 + 1 + 1 + 1 + 1 + 1 + 1 + 1 + 1) := by omega
  obtain ⟨C89, hC89⟩ : ∃ z9, z9 = pw_setF C80 0 ([.int 0, .ref (Ad 1), .ref (Ad 2), .ref (Ad 3), .ref (Ad 4), .int (nI 1), .ref (Ad 5), .long 0, .int 0, .ref (Ad 6), .ref (Ad 7), .ref (Ad 8), .ref (Ad 9), .ref (Ad 10), .null, .null, .null, .null, .null, .null] : List Value) := ⟨_, rfl⟩
  have hP := hP.eqC (C' := C89) (by rw [hC89]; rfl)
  have hF : C89.2.2 0 = ([.int 0, .ref (Ad 1), .ref (Ad 2), .ref (Ad 3), .ref (Ad 4), .int (nI 1), .ref (Ad 5), .long 0, .int 0, .ref (Ad 6), .ref (Ad 7), .ref (Ad 8), .ref (Ad 9), .ref (Ad 10), .null, .null, .null, .null, .null, .null] : List Value) := by rw [hC89]; rfl
  have hZ : C89.1 = (zC []).1 ∧ C89.2.1 = (zC []).2.1 := by rw [hC89]; exact hZ
  refine lv_aload_n hx hb dX5_init_92 rfl (lv_at hl 0 rfl) ?_
  refine lv_sipush (v := nI 312) hx hb dX5_init_93 (by decide) ?_
  refine pw_nal hx hb (hts (.arrayClass .long) (List.mem_of_getElem? (i := 16) rfl)) hK hP hI0 hS 11 rfl (fun i => by rw [hZ.2]; rfl) (by omega) (by omega) (by simp only [pw_rm]; omega) (by simp only [pw_rm]; omega) dX5_init_96 (fun H hP hI hS hz9 => ?_)
  have hz : H.size = z + (0 + 1 + 1 + 1 + 1 + 1 + 1 + 1 + 1 + 1 + 1 + 1) := by omega
  refine pw_putF hx hb hts (fun _ h9 => List.mem_cons_of_mem _ (List.mem_append_right _ h9)) tyX5 tyX5_ok nmX5 hown hK hP hI hS 0 rfl rfl 14 (by decide) hF (hts (.fieldLink RX5 46 "PastDrawsModel" "from" "[J") (List.mem_of_getElem? (i := 18) rfl)) rfl hin2 rfl (ty := .array .long) (by decide +kernel) rfl rfl (Nat.le_of_ble_eq_true rfl) dX5_init_98 (fun H locs hP hS hz9 => ?_)
  have hz : H.size = z + (0 + 1 + 1 + 1 + 1 + 1 + 1 + 1 + 1 + 1 + 1 + 1) := by omega
  obtain ⟨C98, hC98⟩ : ∃ z9, z9 = pw_setF C89 0 ([.int 0, .ref (Ad 1), .ref (Ad 2), .ref (Ad 3), .ref (Ad 4), .int (nI 1), .ref (Ad 5), .long 0, .int 0, .ref (Ad 6), .ref (Ad 7), .ref (Ad 8), .ref (Ad 9), .ref (Ad 10), .ref (Ad 11), .null, .null, .null, .null, .null] : List Value) := ⟨_, rfl⟩
  have hP := hP.eqC (C' := C98) (by rw [hC98]; rfl)
  have hF : C98.2.2 0 = ([.int 0, .ref (Ad 1), .ref (Ad 2), .ref (Ad 3), .ref (Ad 4), .int (nI 1), .ref (Ad 5), .long 0, .int 0, .ref (Ad 6), .ref (Ad 7), .ref (Ad 8), .ref (Ad 9), .ref (Ad 10), .ref (Ad 11), .null, .null, .null, .null, .null] : List Value) := by rw [hC98]; rfl
  have hZ : C98.1 = (zC []).1 ∧ C98.2.1 = (zC []).2.1 := by rw [hC98]; exact hZ
  refine lv_aload_n hx hb dX5_init_101 rfl (lv_at hl 0 rfl) ?_
  refine lv_sipush (v := nI 256) hx hb dX5_init_102 (by decide) ?_
  refine pw_nai hx hb (hts (.arrayClass .int) (List.mem_of_getElem? (i := 4) rfl)) hK hP hI0 hS 12 rfl (fun i => by rw [hZ.1]; rfl) (by omega) (by omega) (by simp only [pw_rm]; omega) (by simp only [pw_rm]; omega) dX5_init_105 (fun H hP hI hS hz9 => ?_)
  have hz : H.size = z + (0 + 1 + 1 + 1 + 1 + 1 + 1 + 1 + 1 + 1 + 1 + 1 + 1) := by omega
  refine pw_putF hx hb hts (fun _ h9 => List.mem_cons_of_mem _ (List.mem_append_right _ h9)) tyX5 tyX5_ok nmX5 hown hK hP hI hS 0 rfl rfl 15 (by decide) hF (hts (.fieldLink RX5 49 "PastDrawsModel" "ways" "[I") (List.mem_of_getElem? (i := 19) rfl)) rfl hin2 rfl (ty := .array .int) (by decide +kernel) rfl rfl (Nat.le_of_ble_eq_true rfl) dX5_init_107 (fun H locs hP hS hz9 => ?_)
  have hz : H.size = z + (0 + 1 + 1 + 1 + 1 + 1 + 1 + 1 + 1 + 1 + 1 + 1 + 1) := by omega
  obtain ⟨C107, hC107⟩ : ∃ z9, z9 = pw_setF C98 0 ([.int 0, .ref (Ad 1), .ref (Ad 2), .ref (Ad 3), .ref (Ad 4), .int (nI 1), .ref (Ad 5), .long 0, .int 0, .ref (Ad 6), .ref (Ad 7), .ref (Ad 8), .ref (Ad 9), .ref (Ad 10), .ref (Ad 11), .ref (Ad 12), .null, .null, .null, .null] : List Value) := ⟨_, rfl⟩
  have hP := hP.eqC (C' := C107) (by rw [hC107]; rfl)
  have hF : C107.2.2 0 = ([.int 0, .ref (Ad 1), .ref (Ad 2), .ref (Ad 3), .ref (Ad 4), .int (nI 1), .ref (Ad 5), .long 0, .int 0, .ref (Ad 6), .ref (Ad 7), .ref (Ad 8), .ref (Ad 9), .ref (Ad 10), .ref (Ad 11), .ref (Ad 12), .null, .null, .null, .null] : List Value) := by rw [hC107]; rfl
  have hZ : C107.1 = (zC []).1 ∧ C107.2.1 = (zC []).2.1 := by rw [hC107]; exact hZ
  refine lv_aload_n hx hb dX5_init_110 rfl (lv_at hl 0 rfl) ?_
  refine lv_bipush (v := nI 16) hx hb dX5_init_111 (by decide) ?_
  refine pw_nai hx hb (hts (.arrayClass .int) (List.mem_of_getElem? (i := 4) rfl)) hK hP hI0 hS 13 rfl (fun i => by rw [hZ.1]; rfl) (by omega) (by omega) (by simp only [pw_rm]; omega) (by simp only [pw_rm]; omega) dX5_init_113 (fun H hP hI hS hz9 => ?_)
  have hz : H.size = z + (0 + 1 + 1 + 1 + 1 + 1 + 1 + 1 + 1 + 1 + 1 + 1 + 1 + 1) := by omega
  refine pw_putF hx hb hts (fun _ h9 => List.mem_cons_of_mem _ (List.mem_append_right _ h9)) tyX5 tyX5_ok nmX5 hown hK hP hI hS 0 rfl rfl 16 (by decide) hF (hts (.fieldLink RX5 52 "PastDrawsModel" "limit" "[I") (List.mem_of_getElem? (i := 20) rfl)) rfl hin2 rfl (ty := .array .int) (by decide +kernel) rfl rfl (Nat.le_of_ble_eq_true rfl) dX5_init_115 (fun H locs hP hS hz9 => ?_)
  have hz : H.size = z + (0 + 1 + 1 + 1 + 1 + 1 + 1 + 1 + 1 + 1 + 1 + 1 + 1 + 1) := by omega
  obtain ⟨C115, hC115⟩ : ∃ z9, z9 = pw_setF C107 0 ([.int 0, .ref (Ad 1), .ref (Ad 2), .ref (Ad 3), .ref (Ad 4), .int (nI 1), .ref (Ad 5), .long 0, .int 0, .ref (Ad 6), .ref (Ad 7), .ref (Ad 8), .ref (Ad 9), .ref (Ad 10), .ref (Ad 11), .ref (Ad 12), .ref (Ad 13), .null, .null, .null] : List Value) := ⟨_, rfl⟩
  have hP := hP.eqC (C' := C115) (by rw [hC115]; rfl)
  have hF : C115.2.2 0 = ([.int 0, .ref (Ad 1), .ref (Ad 2), .ref (Ad 3), .ref (Ad 4), .int (nI 1), .ref (Ad 5), .long 0, .int 0, .ref (Ad 6), .ref (Ad 7), .ref (Ad 8), .ref (Ad 9), .ref (Ad 10), .ref (Ad 11), .ref (Ad 12), .ref (Ad 13), .null, .null, .null] : List Value) := by rw [hC115]; rfl
  have hZ : C115.1 = (zC []).1 ∧ C115.2.1 = (zC []).2.1 := by rw [hC115]; exact hZ
  refine lv_aload_n hx hb dX5_init_118 rfl (lv_at hl 0 rfl) ?_
  refine lv_bipush (v := nI 16) hx hb dX5_init_119 (by decide) ?_
  refine pw_nai hx hb (hts (.arrayClass .int) (List.mem_of_getElem? (i := 4) rfl)) hK hP hI0 hS 14 rfl (fun i => by rw [hZ.1]; rfl) (by omega) (by omega) (by simp only [pw_rm]; omega) (by simp only [pw_rm]; omega) dX5_init_121 (fun H hP hI hS hz9 => ?_)
  have hz : H.size = z + (0 + 1 + 1 + 1 + 1 + 1 + 1 + 1 + 1 + 1 + 1 + 1 + 1 + 1 + 1) := by omega
  refine pw_putF hx hb hts (fun _ h9 => List.mem_cons_of_mem _ (List.mem_append_right _ h9)) tyX5 tyX5_ok nmX5 hown hK hP hI hS 0 rfl rfl 17 (by decide) hF (hts (.fieldLink RX5 55 "PastDrawsModel" "other" "[I") (List.mem_of_getElem? (i := 21) rfl)) rfl hin2 rfl (ty := .array .int) (by decide +kernel) rfl rfl (Nat.le_of_ble_eq_true rfl) dX5_init_123 (fun H locs hP hS hz9 => ?_)
  have hz : H.size = z + (0 + 1 + 1 + 1 + 1 + 1 + 1 + 1 + 1 + 1 + 1 + 1 + 1 + 1 + 1) := by omega
  obtain ⟨C123, hC123⟩ : ∃ z9, z9 = pw_setF C115 0 ([.int 0, .ref (Ad 1), .ref (Ad 2), .ref (Ad 3), .ref (Ad 4), .int (nI 1), .ref (Ad 5), .long 0, .int 0, .ref (Ad 6), .ref (Ad 7), .ref (Ad 8), .ref (Ad 9), .ref (Ad 10), .ref (Ad 11), .ref (Ad 12), .ref (Ad 13), .ref (Ad 14), .null, .null] : List Value) := ⟨_, rfl⟩
  have hP := hP.eqC (C' := C123) (by rw [hC123]; rfl)
  have hF : C123.2.2 0 = ([.int 0, .ref (Ad 1), .ref (Ad 2), .ref (Ad 3), .ref (Ad 4), .int (nI 1), .ref (Ad 5), .long 0, .int 0, .ref (Ad 6), .ref (Ad 7), .ref (Ad 8), .ref (Ad 9), .ref (Ad 10), .ref (Ad 11), .ref (Ad 12), .ref (Ad 13), .ref (Ad 14), .null, .null] : List Value) := by rw [hC123]; rfl
  have hZ : C123.1 = (zC []).1 ∧ C123.2.1 = (zC []).2.1 := by rw [hC123]; exact hZ
  refine lv_aload_n hx hb dX5_init_126 rfl (lv_at hl 0 rfl) ?_
  refine lv_bipush (v := nI 16) hx hb dX5_init_127 (by decide) ?_
  refine pw_nai hx hb (hts (.arrayClass .int) (List.mem_of_getElem? (i := 4) rfl)) hK hP hI0 hS 15 rfl (fun i => by rw [hZ.1]; rfl) (by omega) (by omega) (by simp only [pw_rm]; omega) (by simp only [pw_rm]; omega) dX5_init_129 (fun H hP hI hS hz9 => ?_)
  have hz : H.size = z + (0 + 1 + 1 + 1 + 1 + 1 + 1 + 1 + 1 + 1 + 1 + 1 + 1 + 1 + 1 + 1) := by omega
  refine pw_putF hx hb hts (fun _ h9 => List.mem_cons_of_mem _ (List.mem_append_right _ h9)) tyX5 tyX5_ok nmX5 hown hK hP hI hS 0 rfl rfl 18 (by decide) hF (hts (.fieldLink RX5 58 "PastDrawsModel" "rest" "[I") (List.mem_of_getElem? (i := 22) rfl)) rfl hin2 rfl (ty := .array .int) (by decide +kernel) rfl rfl (Nat.le_of_ble_eq_true rfl) dX5_init_131 (fun H locs hP hS hz9 => ?_)
  have hz : H.size = z + (0 + 1 + 1 + 1 + 1 + 1 + 1 + 1 + 1 + 1 + 1 + 1 + 1 + 1 + 1 + 1) := by omega
  obtain ⟨C131, hC131⟩ : ∃ z9, z9 = pw_setF C123 0 ([.int 0, .ref (Ad 1), .ref (Ad 2), .ref (Ad 3), .ref (Ad 4), .int (nI 1), .ref (Ad 5), .long 0, .int 0, .ref (Ad 6), .ref (Ad 7), .ref (Ad 8), .ref (Ad 9), .ref (Ad 10), .ref (Ad 11), .ref (Ad 12), .ref (Ad 13), .ref (Ad 14), .ref (Ad 15), .null] : List Value) := ⟨_, rfl⟩
  have hP := hP.eqC (C' := C131) (by rw [hC131]; rfl)
  have hF : C131.2.2 0 = ([.int 0, .ref (Ad 1), .ref (Ad 2), .ref (Ad 3), .ref (Ad 4), .int (nI 1), .ref (Ad 5), .long 0, .int 0, .ref (Ad 6), .ref (Ad 7), .ref (Ad 8), .ref (Ad 9), .ref (Ad 10), .ref (Ad 11), .ref (Ad 12), .ref (Ad 13), .ref (Ad 14), .ref (Ad 15), .null] : List Value) := by rw [hC131]; rfl
  have hZ : C131.1 = (zC []).1 ∧ C131.2.1 = (zC []).2.1 := by rw [hC131]; exact hZ
  refine lv_aload_n hx hb dX5_init_134 rfl (lv_at hl 0 rfl) ?_
  refine lv_bipush (v := nI 16) hx hb dX5_init_135 (by decide) ?_
  refine pw_naz hx hb (hts (.arrayClass .boolean) (List.mem_of_getElem? (i := 7) rfl)) hK hP hI0 hS 16 rfl (fun i => by rw [hZ.1]; rfl) (by omega) (by omega) (by simp only [pw_rm]; omega) (by simp only [pw_rm]; omega) dX5_init_137 (fun H hP hI hS hz9 => ?_)
  have hz : H.size = z + (0 + 1 + 1 + 1 + 1 + 1 + 1 + 1 + 1 + 1 + 1 + 1 + 1 + 1 + 1 + 1 + 1) := by omega
  refine pw_putF hx hb hts (fun _ h9 => List.mem_cons_of_mem _ (List.mem_append_right _ h9)) tyX5 tyX5_ok nmX5 hown hK hP hI hS 0 rfl rfl 19 (by decide) hF (hts (.fieldLink RX5 61 "PastDrawsModel" "isMade" "[Z") (List.mem_of_getElem? (i := 23) rfl)) rfl hin2 rfl (ty := .array .boolean) (by decide +kernel) rfl rfl (Nat.le_of_ble_eq_true rfl) dX5_init_139 (fun H locs hP hS hz9 => ?_)
  have hz : H.size = z + (0 + 1 + 1 + 1 + 1 + 1 + 1 + 1 + 1 + 1 + 1 + 1 + 1 + 1 + 1 + 1 + 1) := by omega
  obtain ⟨C139, hC139⟩ : ∃ z9, z9 = pw_setF C131 0 ([.int 0, .ref (Ad 1), .ref (Ad 2), .ref (Ad 3), .ref (Ad 4), .int (nI 1), .ref (Ad 5), .long 0, .int 0, .ref (Ad 6), .ref (Ad 7), .ref (Ad 8), .ref (Ad 9), .ref (Ad 10), .ref (Ad 11), .ref (Ad 12), .ref (Ad 13), .ref (Ad 14), .ref (Ad 15), .ref (Ad 16)] : List Value) := ⟨_, rfl⟩
  have hP := hP.eqC (C' := C139) (by rw [hC139]; rfl)
  have hF : C139.2.2 0 = ([.int 0, .ref (Ad 1), .ref (Ad 2), .ref (Ad 3), .ref (Ad 4), .int (nI 1), .ref (Ad 5), .long 0, .int 0, .ref (Ad 6), .ref (Ad 7), .ref (Ad 8), .ref (Ad 9), .ref (Ad 10), .ref (Ad 11), .ref (Ad 12), .ref (Ad 13), .ref (Ad 14), .ref (Ad 15), .ref (Ad 16)] : List Value) := by rw [hC139]; rfl
  have hZ : C139.1 = (zC []).1 ∧ C139.2.1 = (zC []).2.1 := by rw [hC139]; exact hZ
  refine lv_aload_n hx hb dX5_init_142 rfl (lv_at hl 0 rfl) ?_
  refine lv_iload_n hx hb dX5_init_143 rfl (lv_at hl 1 rfl) ?_
  refine lv_iconst (v := nI 1) hx hb dX5_init_144 (by decide) ?_
  refine lv_icmp_ge (tgt := 152) hx hb dX5_init_145 (by decide) (fun c_145 => ?_) (fun c_145 => ?_)
  · refine lv_iload_n hx hb dX5_init_152 rfl (lv_at hl 1 rfl) ?_
    refine lv_bipush (v := nI 12) hx hb dX5_init_153 (by decide) ?_
    refine lv_icmp_le (tgt := 163) hx hb dX5_init_155 (by decide) (fun c_155 => ?_) (fun c_155 => ?_)
    · refine lv_iload_n hx hb dX5_init_163 rfl (lv_at hl 1 rfl) ?_
      refine pw_topi (y := nI (nOf a)) (nOf_a c_145 c_155) ?_
      refine pw_putF hx hb hts (fun _ h9 => List.mem_cons_of_mem _ (List.mem_append_right _ h9)) tyX5 tyX5_ok nmX5 hown hK hP hI hS 0 rfl rfl 0 (by decide) hF (hts (.fieldLink RX5 64 "PastDrawsModel" "n" "I") (List.mem_of_getElem? (i := 24) rfl)) rfl hin2 rfl (ty := .int) (by decide +kernel) rfl rfl (Nat.le_of_ble_eq_true rfl) dX5_init_164 (fun H locs hP hS hz9 => ?_)
      have hz : H.size = z + (0 + 1 + 1 + 1 + 1 + 1 + 1 + 1 + 1 + 1 + 1 + 1 + 1 + 1 + 1 + 1 + 1) := by omega
      obtain ⟨C164, hC164⟩ : ∃ z9, z9 = pw_setF C139 0 ([.int (nI (nOf a)), .ref (Ad 1), .ref (Ad 2), .ref (Ad 3), .ref (Ad 4), .int (nI 1), .ref (Ad 5), .long 0, .int 0, .ref (Ad 6), .ref (Ad 7), .ref (Ad 8), .ref (Ad 9), .ref (Ad 10), .ref (Ad 11), .ref (Ad 12), .ref (Ad 13), .ref (Ad 14), .ref (Ad 15), .ref (Ad 16)] : List Value) := ⟨_, rfl⟩
      have hP := hP.eqC (C' := C164) (by rw [hC164]; rfl)
      have hF : C164.2.2 0 = ([.int (nI (nOf a)), .ref (Ad 1), .ref (Ad 2), .ref (Ad 3), .ref (Ad 4), .int (nI 1), .ref (Ad 5), .long 0, .int 0, .ref (Ad 6), .ref (Ad 7), .ref (Ad 8), .ref (Ad 9), .ref (Ad 10), .ref (Ad 11), .ref (Ad 12), .ref (Ad 13), .ref (Ad 14), .ref (Ad 15), .ref (Ad 16)] : List Value) := by rw [hC164]; rfl
      have hZ : C164.1 = (zC []).1 ∧ C164.2.1 = (zC []).2.1 := by rw [hC164]; exact hZ
      refine lv_iconst (v := nI 0) hx hb dX5_init_167 (by decide) ?_
      refine lv_istore_n (lv' := [(2, .int (nI 0)), (0, .ref (Ad 0)), (1, .int a)]) hx hb dX5_init_168 rfl hl (by decide) rfl (fun ls hl => ?_)
      have hF : fM (nOf a) 1 0 0 Ad C164 := hF
      have hP : pw_P D cy Ad (shR fM5 shM) C164 H := hP
      have hI : pw_I Ad (shR fM5 shM) := hI
      have hS : va_S (pw_fr Ad (shR fM5 shM)) s.heap H locs := hS
      refine L5_ini_k S hK hI hF (nOf_b a) (fun C9 H locs ls hP hS hR hl => ?_) 13 C164 H locs 0 ls (by have := nOf_b a; omega) hP hS pw_B.rf (by omega) rfl (fun y hy => by omega) (fun y hy => by omega) (lv_sub hl [0, 1] rfl)
      obtain ⟨hB, h3, h1, h2⟩ := hR
      refine lv_iconst (v := nI 0) hx hb dX5_init_234 (by decide) ?_
      refine lv_istore_n (lv' := [(2, .int (nI 0)), (0, .ref (Ad 0))]) hx hb dX5_init_235 rfl hl (by decide) rfl (fun ls hl => ?_)
      refine L5_ini_a S hK hI hF (nOf_b a) (fun C8 H locs ls hP hS hR hl => ?_) 65 C9 H locs 0 ls (by omega) hP hS hB (by omega) h3 h2 h1 (fun y hy => by omega) (lv_sub hl [0, 1] rfl)
      obtain ⟨hB, h3, h1, h2, h4⟩ := hR
      have hF0 := hF
      have hF := fM_B hF0 hB
      refine lv_aload_n hx hb dX5_init_255 rfl (lv_at hl 0 rfl) ?_
      refine pw_get hx hb hts (fun _ h9 => List.mem_cons_of_mem _ (List.mem_append_right _ h9)) hown hK hP 0 rfl rfl 6 (by decide) hF rfl (hts (.fieldLink RX5 27 "PastDrawsModel" "weights" "[I") (List.mem_of_getElem? (i := 11) rfl)) dX5_init_256 ?_
      refine lv_iconst (v := nI 0) hx hb dX5_init_259 (by decide) ?_
      refine lv_iconst (v := nI 1) hx hb dX5_init_260 (by decide) ?_
      refine pw_iast hx hb hK hP hI hS 5 rfl (by decide) (by decide) dX5_init_261 (fun H locs hP hS => ?_)
      obtain ⟨C261, hC261⟩ : ∃ z9, z9 = pw_setI C8 5 0 (nI 1) := ⟨_, rfl⟩
      rw [← hC261] at hP
      have e9 : ∀ k9, ¬ k9 = 5 → C261.1 k9 = C8.1 k9 := fun k9 h9 => by rw [hC261]; exact si_ne h9
      have hM9 : MI (nOf a) 1 (fun _ x => x) (fun _ _ => none) (fun _ => false) (fun _ => 255) (fun _ => 1) Ad C261 := by
        have hnb := nOf_b a
        refine ⟨⟨0, 0, by rw [hC261]; exact hF⟩, fun u hu x hx => ⟨hx, ?_⟩, fun x hx c9 hc9 => ⟨fun y hy => by cases hy, ?_⟩, fun x hx => ?_, fun q hq => ⟨by decide, fun v hv => ?_⟩, fun i hi => ⟨by decide, ?_⟩⟩
        · rw [e9 1 (by decide)]; exact h1 x hx u hu
        · rw [e9 2 (by decide)]; exact h2 x hx c9 hc9
        · rw [e9 3 (by decide), h3, hZ.1]; rfl
        · rw [e9 4 (by decide), h4 _ (by omega)]
          have : ∀ v, v < 8 → (255 : Nat).testBit v = true := by decide
          rw [this v hv]
        · obtain rfl : i = 0 := by omega
          rw [hC261, si_at, if_pos rfl]
      refine pw_sz (fun hsz => ?_)
      have hlt := (hP 16 _ (show pw_E cy Ad _ _ 16 = some _ from rfl)).lt
      have hzz : H.size = z + 16 := by have h9 : Ad 16 < H.size := hlt; omega
      refine W.widen (k := 16) (n := 1324) (by omega) (by omega) ?_
      exact W.vret hx hb hr (fun t ht _ => ⟨⟨C261, rfl, hM9, by rw [ht]; exact hP, by rw [ht]; exact hzz⟩, hS.F ht⟩) hS.2.2 dX5_init_262
    · refine lv_bipush (v := nI 12) hx hb dX5_init_158 (by decide) ?_
      refine pw_topi (y := nI (nOf a)) (nOf_12 c_155) ?_
      refine lv_goto (tgt := 164) hx hb dX5_init_160 (by decide) ?_
      refine pw_putF hx hb hts (fun _ h9 => List.mem_cons_of_mem _ (List.mem_append_right _ h9)) tyX5 tyX5_ok nmX5 hown hK hP hI hS 0 rfl rfl 0 (by decide) hF (hts (.fieldLink RX5 64 "PastDrawsModel" "n" "I") (List.mem_of_getElem? (i := 24) rfl)) rfl hin2 rfl (ty := .int) (by decide +kernel) rfl rfl (Nat.le_of_ble_eq_true rfl) dX5_init_164 (fun H locs hP hS hz9 => ?_)
      have hz : H.size = z + (0 + 1 + 1 + 1 + 1 + 1 + 1 + 1 + 1 + 1 + 1 + 1 + 1 + 1 + 1 + 1 + 1) := by omega
      obtain ⟨C164, hC164⟩ : ∃ z9, z9 = pw_setF C139 0 ([.int (nI (nOf a)), .ref (Ad 1), .ref (Ad 2), .ref (Ad 3), .ref (Ad 4), .int (nI 1), .ref (Ad 5), .long 0, .int 0, .ref (Ad 6), .ref (Ad 7), .ref (Ad 8), .ref (Ad 9), .ref (Ad 10), .ref (Ad 11), .ref (Ad 12), .ref (Ad 13), .ref (Ad 14), .ref (Ad 15), .ref (Ad 16)] : List Value) := ⟨_, rfl⟩
      have hP := hP.eqC (C' := C164) (by rw [hC164]; rfl)
      have hF : C164.2.2 0 = ([.int (nI (nOf a)), .ref (Ad 1), .ref (Ad 2), .ref (Ad 3), .ref (Ad 4), .int (nI 1), .ref (Ad 5), .long 0, .int 0, .ref (Ad 6), .ref (Ad 7), .ref (Ad 8), .ref (Ad 9), .ref (Ad 10), .ref (Ad 11), .ref (Ad 12), .ref (Ad 13), .ref (Ad 14), .ref (Ad 15), .ref (Ad 16)] : List Value) := by rw [hC164]; rfl
      have hZ : C164.1 = (zC []).1 ∧ C164.2.1 = (zC []).2.1 := by rw [hC164]; exact hZ
      refine lv_iconst (v := nI 0) hx hb dX5_init_167 (by decide) ?_
      refine lv_istore_n (lv' := [(2, .int (nI 0)), (0, .ref (Ad 0)), (1, .int a)]) hx hb dX5_init_168 rfl hl (by decide) rfl (fun ls hl => ?_)
      have hF : fM (nOf a) 1 0 0 Ad C164 := hF
      have hP : pw_P D cy Ad (shR fM5 shM) C164 H := hP
      have hI : pw_I Ad (shR fM5 shM) := hI
      have hS : va_S (pw_fr Ad (shR fM5 shM)) s.heap H locs := hS
      refine L5_ini_k S hK hI hF (nOf_b a) (fun C9 H locs ls hP hS hR hl => ?_) 13 C164 H locs 0 ls (by have := nOf_b a; omega) hP hS pw_B.rf (by omega) rfl (fun y hy => by omega) (fun y hy => by omega) (lv_sub hl [0, 1] rfl)
      obtain ⟨hB, h3, h1, h2⟩ := hR
      refine lv_iconst (v := nI 0) hx hb dX5_init_234 (by decide) ?_
      refine lv_istore_n (lv' := [(2, .int (nI 0)), (0, .ref (Ad 0))]) hx hb dX5_init_235 rfl hl (by decide) rfl (fun ls hl => ?_)
      refine L5_ini_a S hK hI hF (nOf_b a) (fun C8 H locs ls hP hS hR hl => ?_) 65 C9 H locs 0 ls (by omega) hP hS hB (by omega) h3 h2 h1 (fun y hy => by omega) (lv_sub hl [0, 1] rfl)
      obtain ⟨hB, h3, h1, h2, h4⟩ := hR
      have hF0 := hF
      have hF := fM_B hF0 hB
      refine lv_aload_n hx hb dX5_init_255 rfl (lv_at hl 0 rfl) ?_
      refine pw_get hx hb hts (fun _ h9 => List.mem_cons_of_mem _ (List.mem_append_right _ h9)) hown hK hP 0 rfl rfl 6 (by decide) hF rfl (hts (.fieldLink RX5 27 "PastDrawsModel" "weights" "[I") (List.mem_of_getElem? (i := 11) rfl)) dX5_init_256 ?_
      refine lv_iconst (v := nI 0) hx hb dX5_init_259 (by decide) ?_
      refine lv_iconst (v := nI 1) hx hb dX5_init_260 (by decide) ?_
      refine pw_iast hx hb hK hP hI hS 5 rfl (by decide) (by decide) dX5_init_261 (fun H locs hP hS => ?_)
      obtain ⟨C261, hC261⟩ : ∃ z9, z9 = pw_setI C8 5 0 (nI 1) := ⟨_, rfl⟩
      rw [← hC261] at hP
      have e9 : ∀ k9, ¬ k9 = 5 → C261.1 k9 = C8.1 k9 := fun k9 h9 => by rw [hC261]; exact si_ne h9
      have hM9 : MI (nOf a) 1 (fun _ x => x) (fun _ _ => none) (fun _ => false) (fun _ => 255) (fun _ => 1) Ad C261 := by
        have hnb := nOf_b a
        refine ⟨⟨0, 0, by rw [hC261]; exact hF⟩, fun u hu x hx => ⟨hx, ?_⟩, fun x hx c9 hc9 => ⟨fun y hy => by cases hy, ?_⟩, fun x hx => ?_, fun q hq => ⟨by decide, fun v hv => ?_⟩, fun i hi => ⟨by decide, ?_⟩⟩
        · rw [e9 1 (by decide)]; exact h1 x hx u hu
        · rw [e9 2 (by decide)]; exact h2 x hx c9 hc9
        · rw [e9 3 (by decide), h3, hZ.1]; rfl
        · rw [e9 4 (by decide), h4 _ (by omega)]
          have : ∀ v, v < 8 → (255 : Nat).testBit v = true := by decide
          rw [this v hv]
        · obtain rfl : i = 0 := by omega
          rw [hC261, si_at, if_pos rfl]
      refine pw_sz (fun hsz => ?_)
      have hlt := (hP 16 _ (show pw_E cy Ad _ _ 16 = some _ from rfl)).lt
      have hzz : H.size = z + 16 := by have h9 : Ad 16 < H.size := hlt; omega
      refine W.widen (k := 16) (n := 1324) (by omega) (by omega) ?_
      exact W.vret hx hb hr (fun t ht _ => ⟨⟨C261, rfl, hM9, by rw [ht]; exact hP, by rw [ht]; exact hzz⟩, hS.F ht⟩) hS.2.2 dX5_init_262
  · refine lv_iconst (v := nI 1) hx hb dX5_init_148 (by decide) ?_
    refine pw_topi (y := nI (nOf a)) (nOf_1 c_145) ?_
    refine lv_goto (tgt := 164) hx hb dX5_init_149 (by decide) ?_
    refine pw_putF hx hb hts (fun _ h9 => List.mem_cons_of_mem _ (List.mem_append_right _ h9)) tyX5 tyX5_ok nmX5 hown hK hP hI hS 0 rfl rfl 0 (by decide) hF (hts (.fieldLink RX5 64 "PastDrawsModel" "n" "I") (List.mem_of_getElem? (i := 24) rfl)) rfl hin2 rfl (ty := .int) (by decide +kernel) rfl rfl (Nat.le_of_ble_eq_true rfl) dX5_init_164 (fun H locs hP hS hz9 => ?_)
    have hz : H.size = z + (0 + 1 + 1 + 1 + 1 + 1 + 1 + 1 + 1 + 1 + 1 + 1 + 1 + 1 + 1 + 1 + 1) := by omega
    obtain ⟨C164, hC164⟩ : ∃ z9, z9 = pw_setF C139 0 ([.int (nI (nOf a)), .ref (Ad 1), .ref (Ad 2), .ref (Ad 3), .ref (Ad 4), .int (nI 1), .ref (Ad 5), .long 0, .int 0, .ref (Ad 6), .ref (Ad 7), .ref (Ad 8), .ref (Ad 9), .ref (Ad 10), .ref (Ad 11), .ref (Ad 12), .ref (Ad 13), .ref (Ad 14), .ref (Ad 15), .ref (Ad 16)] : List Value) := ⟨_, rfl⟩
    have hP := hP.eqC (C' := C164) (by rw [hC164]; rfl)
    have hF : C164.2.2 0 = ([.int (nI (nOf a)), .ref (Ad 1), .ref (Ad 2), .ref (Ad 3), .ref (Ad 4), .int (nI 1), .ref (Ad 5), .long 0, .int 0, .ref (Ad 6), .ref (Ad 7), .ref (Ad 8), .ref (Ad 9), .ref (Ad 10), .ref (Ad 11), .ref (Ad 12), .ref (Ad 13), .ref (Ad 14), .ref (Ad 15), .ref (Ad 16)] : List Value) := by rw [hC164]; rfl
    have hZ : C164.1 = (zC []).1 ∧ C164.2.1 = (zC []).2.1 := by rw [hC164]; exact hZ
    refine lv_iconst (v := nI 0) hx hb dX5_init_167 (by decide) ?_
    refine lv_istore_n (lv' := [(2, .int (nI 0)), (0, .ref (Ad 0)), (1, .int a)]) hx hb dX5_init_168 rfl hl (by decide) rfl (fun ls hl => ?_)
    have hF : fM (nOf a) 1 0 0 Ad C164 := hF
    have hP : pw_P D cy Ad (shR fM5 shM) C164 H := hP
    have hI : pw_I Ad (shR fM5 shM) := hI
    have hS : va_S (pw_fr Ad (shR fM5 shM)) s.heap H locs := hS
    refine L5_ini_k S hK hI hF (nOf_b a) (fun C9 H locs ls hP hS hR hl => ?_) 13 C164 H locs 0 ls (by have := nOf_b a; omega) hP hS pw_B.rf (by omega) rfl (fun y hy => by omega) (fun y hy => by omega) (lv_sub hl [0, 1] rfl)
    obtain ⟨hB, h3, h1, h2⟩ := hR
    refine lv_iconst (v := nI 0) hx hb dX5_init_234 (by decide) ?_
    refine lv_istore_n (lv' := [(2, .int (nI 0)), (0, .ref (Ad 0))]) hx hb dX5_init_235 rfl hl (by decide) rfl (fun ls hl => ?_)
    refine L5_ini_a S hK hI hF (nOf_b a) (fun C8 H locs ls hP hS hR hl => ?_) 65 C9 H locs 0 ls (by omega) hP hS hB (by omega) h3 h2 h1 (fun y hy => by omega) (lv_sub hl [0, 1] rfl)
    obtain ⟨hB, h3, h1, h2, h4⟩ := hR
    have hF0 := hF
    have hF := fM_B hF0 hB
    refine lv_aload_n hx hb dX5_init_255 rfl (lv_at hl 0 rfl) ?_
    refine pw_get hx hb hts (fun _ h9 => List.mem_cons_of_mem _ (List.mem_append_right _ h9)) hown hK hP 0 rfl rfl 6 (by decide) hF rfl (hts (.fieldLink RX5 27 "PastDrawsModel" "weights" "[I") (List.mem_of_getElem? (i := 11) rfl)) dX5_init_256 ?_
    refine lv_iconst (v := nI 0) hx hb dX5_init_259 (by decide) ?_
    refine lv_iconst (v := nI 1) hx hb dX5_init_260 (by decide) ?_
    refine pw_iast hx hb hK hP hI hS 5 rfl (by decide) (by decide) dX5_init_261 (fun H locs hP hS => ?_)
    obtain ⟨C261, hC261⟩ : ∃ z9, z9 = pw_setI C8 5 0 (nI 1) := ⟨_, rfl⟩
    rw [← hC261] at hP
    have e9 : ∀ k9, ¬ k9 = 5 → C261.1 k9 = C8.1 k9 := fun k9 h9 => by rw [hC261]; exact si_ne h9
    have hM9 : MI (nOf a) 1 (fun _ x => x) (fun _ _ => none) (fun _ => false) (fun _ => 255) (fun _ => 1) Ad C261 := by
      have hnb := nOf_b a
      refine ⟨⟨0, 0, by rw [hC261]; exact hF⟩, fun u hu x hx => ⟨hx, ?_⟩, fun x hx c9 hc9 => ⟨fun y hy => by cases hy, ?_⟩, fun x hx => ?_, fun q hq => ⟨by decide, fun v hv => ?_⟩, fun i hi => ⟨by decide, ?_⟩⟩
      · rw [e9 1 (by decide)]; exact h1 x hx u hu
      · rw [e9 2 (by decide)]; exact h2 x hx c9 hc9
      · rw [e9 3 (by decide), h3, hZ.1]; rfl
      · rw [e9 4 (by decide), h4 _ (by omega)]
        have : ∀ v, v < 8 → (255 : Nat).testBit v = true := by decide
        rw [this v hv]
      · obtain rfl : i = 0 := by omega
        rw [hC261, si_at, if_pos rfl]
    refine pw_sz (fun hsz => ?_)
    have hlt := (hP 16 _ (show pw_E cy Ad _ _ 16 = some _ from rfl)).lt
    have hzz : H.size = z + 16 := by have h9 : Ad 16 < H.size := hlt; omega
    refine W.widen (k := 16) (n := 1324) (by omega) (by omega) ?_
    exact W.vret hx hb hr (fun t ht _ => ⟨⟨C261, rfl, hM9, by rw [ht]; exact hP, by rw [ht]; exact hzz⟩, hS.F ht⟩) hS.2.2 dX5_init_262
