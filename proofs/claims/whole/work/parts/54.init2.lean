/-- the states of a chain, held to 1 .. 12 -/
def nOf (a : Int32) : Nat := (max 1 (min 12 a.toInt)).toNat
theorem nOf_b (a : Int32) : 1 ≤ nOf a ∧ nOf a ≤ 12 := by unfold nOf; omega
theorem nOf_1 {a : Int32} (h : ¬ nI 1 ≤ a) : nI 1 = nI (nOf a) := by
  rw [Int32.le_iff_toInt_le] at h
  have e : (nI 1).toInt = 1 := by decide
  congr 1; unfold nOf; omega
theorem nOf_12 {a : Int32} (h : ¬ a ≤ nI 12) : nI 12 = nI (nOf a) := by
  rw [Int32.le_iff_toInt_le] at h
  have e : (nI 12).toInt = 12 := by decide
  congr 1; unfold nOf; omega
theorem nOf_a {a : Int32} (h1 : nI 1 ≤ a) (h2 : a ≤ nI 12) : a = nI (nOf a) := by
  rw [Int32.le_iff_toInt_le] at h1 h2
  have e1 : (nI 1).toInt = 1 := by decide
  have e2 : (nI 12).toInt = 12 := by decide
  apply Int32.toInt_inj.mp
  have := nOf_b a
  rw [nI_toInt (by omega)]
  unfold nOf; omega
def fM5 (j : Nat) : Bool := ((((((((((((((((j == 0 || j == 1) || j == 2) || j == 3) || j == 4) || j == 5) || j == 6) || j == 7) || j == 8) || j == 9) || j == 10) || j == 11) || j == 12) || j == 13) || j == 14) || j == 15) || j == 16)
theorem fM5_all {k : Nat} (h : pw_L shM k) : fM5 k = true := by
  have hk : k < 17 := by
    rcases Nat.lt_or_ge k 17 with q | q
    · exact q
    · have e0 : shM k = (0, 0, 0) := by
        unfold shM
        rw [List.getD_eq_getElem?_getD, List.getElem?_eq_none (by exact q)]
        rfl
      unfold pw_L at h
      rw [e0] at h
      exact absurd h.1 (by decide)
  have : ∀ k, k < 17 → fM5 k = true := by decide
  exact this k hk
theorem shM_R : shR fM5 shM = shM := by
  funext k
  by_cases h : fM5 k = true
  · exact shR_t h
  · have e0 : shR fM5 shM k = (0, 0, 0) := if_neg h
    rw [e0]
    have hL : ¬ pw_L shM k := fun q => h (fM5_all q)
    unfold pw_L at hL
    have hk : 17 ≤ k := by
      rcases Nat.lt_or_ge k 17 with q | q
      · have : ∀ k, k < 17 → fM5 k = true := by decide
        exact absurd (this k q) h
      · exact q
    unfold shM
    rw [List.getD_eq_getElem?_getD, List.getElem?_eq_none (by exact hk)]
    rfl

set_option maxHeartbeats 4000000 in
set_option maxRecDepth 100000 in
theorem L5_ini_u {p : Program} {l : Launch} {e : Env} {s : State} {m : MethodId} {args : Array Value} {below : List Frame} {meth : Method} {c : Code} {Q : State → Prop} {ce se : Nat} (S : CallFix p m c cX5_init 4 s args wsX5_init RX5) {D : va_G} {cy : Nat → ClassId} {Ad : Nat → Nat} {n mm : Nat} {pk : Int64} {tr : Int32} {C0 : pw_C} (hK : pw_K D cy s) (hI : pw_I Ad (shR fM5 shM)) (hF0 : fM n mm pk tr Ad C0) (hn : 1 ≤ n ∧ n ≤ 12) (x : Nat) (hx0 : x < n) (hk : ∀ (C : pw_C) (H : Heap) (locs : List Loc) (ls : Array Slot), pw_P D cy Ad (shR fM5 shM) C H → va_S (pw_fr Ad (shR fM5 shM)) s.heap H locs → (pw_B (fun k => 1 ≤ k ∧ k ≤ 5) C0 C ∧ C.1 3 = C0.1 3 ∧ (∀ y, y < x → ∀ u, u < 4 → C.1 2 (4 * y + u) = (-2)) ∧ (∀ y, y < x + 1 → ∀ u, u < 8 → C.1 1 (8 * y + u) = nI y)) → lv_has ls 4 [(2, .int (nI x)), (0, .ref (Ad 0))] → W p l e (pw_rm 1 12 16 1324) s m args below meth c H locs ce se Q (F0 m 203 ls [])) : ∀ (f : Nat) (C : pw_C) (H : Heap) (locs : List Loc) (u : Nat) (ls : Array Slot), 8 - u < f → (pw_P D cy Ad (shR fM5 shM) C H) → (va_S (pw_fr Ad (shR fM5 shM)) s.heap H locs) → (pw_B (fun k => 1 ≤ k ∧ k ≤ 5) C0 C) → (u ≤ 8) → (C.1 3 = C0.1 3) → (∀ y, y < x → ∀ u, u < 4 → C.1 2 (4 * y + u) = (-2)) → (∀ y, y < x → ∀ u, u < 8 → C.1 1 (8 * y + u) = nI y) → (∀ u9, u9 < u → C.1 1 (8 * x + u9) = nI x) → lv_has ls 4 [(3, .int (nI u)), (2, .int (nI x)), (0, .ref (Ad 0))] → W p l e (pw_rm 1 12 16 1324) s m args below meth c H locs ce se Q (F0 m 179 ls []) := by
  have hx := S.1
  have hb := S.2.1
  have hml := S.2.2.1
  have hown := S.2.2.2.1
  have hts := S.2.2.2.2
  intro f
  induction f with
  | zero => intro C H locs u ls hf; exact absurd hf (Nat.not_lt_zero _)
  | succ f ih =>
    intro C H locs u ls hf hP hS hB hu h3 h2 h1 hv hl
    have hF := fM_B hF0 hB
    refine lv_iload_n hx hb dX5_init_179 rfl (lv_at hl 0 rfl) ?_
    refine lv_bipush (v := nI 8) hx hb dX5_init_180 (by decide) ?_
    refine pn_icmp_ge (tgt := 203) hx hb (by omega) (by omega) dX5_init_182 (by decide) (fun c_182 => ?_) (fun c_182 => ?_)
    · exact hk C H locs ls hP hS ⟨hB, h3, h2, fun y hy u9 hu9 => by
        rcases Nat.lt_or_ge y x with g | g
        · exact h1 y g u9 hu9
        · obtain rfl : y = x := by omega
          exact hv u9 (by omega)⟩ (lv_sub hl [1, 2] rfl)
    · refine lv_aload_n hx hb dX5_init_185 rfl (lv_at hl 2 rfl) ?_
      refine pw_get hx hb hts (fun _ h9 => List.mem_cons_of_mem _ (List.mem_append_right _ h9)) hown hK hP 0 rfl rfl 1 (by decide) hF rfl (hts (.fieldLink RX5 7 "PastDrawsModel" "rules" "[I") (List.mem_of_getElem? (i := 5) rfl)) dX5_init_186 ?_
      refine lv_bipush (v := nI 8) hx hb dX5_init_189 (by decide) ?_
      refine lv_iload_n hx hb dX5_init_191 rfl (lv_at hl 1 rfl) ?_
      refine lv_imul hx hb dX5_init_192 ?_
      refine pw_topi (pk_mul _ _) ?_
      refine lv_iload_n hx hb dX5_init_193 rfl (lv_at hl 0 rfl) ?_
      refine lv_iadd hx hb dX5_init_194 ?_
      refine pw_topi (nI_add _ _) ?_
      refine lv_iload_n hx hb dX5_init_195 rfl (lv_at hl 1 rfl) ?_
      refine pw_iast hx hb hK hP hI hS 1 rfl (by omega) (by decide) dX5_init_196 (fun H locs hP hS => ?_)
      obtain ⟨C196, hC196⟩ : ∃ z9, z9 = pw_setI C 1 ((8 * x) + u) (nI x) := ⟨_, rfl⟩
      rw [← hC196] at hP
      have hB := by have hB9 := hB; exact (show pw_B (fun k => 1 ≤ k ∧ k ≤ 5) C0 C196 by rw [hC196]; exact hB9.setI (by show 1 ≤ 1 ∧ 1 ≤ 5; first | trivial | omega))
      have hF := fM_B hF0 hB
      refine lv_iinc (v := nI (u + 1)) (lv' := [(3, .int (nI (u + 1))), (2, .int (nI x)), (0, .ref (Ad 0))]) hx hb dX5_init_197 hl (k := 0) rfl (nI_add _ 1) (by decide) rfl (fun ls hl => ?_)
      refine lv_goto (tgt := 179) hx hb dX5_init_200 (by decide) ?_
      have e2 : C196.1 2 = C.1 2 := by rw [hC196]; exact si_ne (by decide)
      have e3 : C196.1 3 = C.1 3 := by rw [hC196]; exact si_ne (by decide)
      exact ih C196 H locs (u + 1) ls (by omega) hP hS hB (by omega) (e3.trans h3) (fun y hy u9 hu9 => by rw [e2]; exact h2 y hy u9 hu9) (fun y hy u9 hu9 => by rw [hC196, si_at, if_neg (by omega)]; exact h1 y hy u9 hu9) (fun u9 hu9 => by
        rw [hC196, si_at]
        by_cases q : u9 = u
        · rw [if_pos (by omega)]
        · rw [if_neg (by omega)]; exact hv u9 (by omega)) (lv_sub hl [0, 1, 2] rfl)

set_option maxHeartbeats 4000000 in
set_option maxRecDepth 100000 in
theorem L5_ini_l {p : Program} {l : Launch} {e : Env} {s : State} {m : MethodId} {args : Array Value} {below : List Frame} {meth : Method} {c : Code} {Q : State → Prop} {ce se : Nat} (S : CallFix p m c cX5_init 4 s args wsX5_init RX5) {D : va_G} {cy : Nat → ClassId} {Ad : Nat → Nat} {n mm : Nat} {pk : Int64} {tr : Int32} {C0 : pw_C} (hK : pw_K D cy s) (hI : pw_I Ad (shR fM5 shM)) (hF0 : fM n mm pk tr Ad C0) (hn : 1 ≤ n ∧ n ≤ 12) (x : Nat) (hx0 : x < n) (hk : ∀ (C : pw_C) (H : Heap) (locs : List Loc) (ls : Array Slot), pw_P D cy Ad (shR fM5 shM) C H → va_S (pw_fr Ad (shR fM5 shM)) s.heap H locs → (pw_B (fun k => 1 ≤ k ∧ k ≤ 5) C0 C ∧ C.1 3 = C0.1 3 ∧ (∀ y, y < x + 1 → ∀ u, u < 8 → C.1 1 (8 * y + u) = nI y) ∧ (∀ y, y < x + 1 → ∀ u, u < 4 → C.1 2 (4 * y + u) = (-2))) → lv_has ls 4 [(2, .int (nI x)), (0, .ref (Ad 0))] → W p l e (pw_rm 1 12 16 1324) s m args below meth c H locs ce se Q (F0 m 228 ls [])) : ∀ (f : Nat) (C : pw_C) (H : Heap) (locs : List Loc) (u : Nat) (ls : Array Slot), 4 - u < f → (pw_P D cy Ad (shR fM5 shM) C H) → (va_S (pw_fr Ad (shR fM5 shM)) s.heap H locs) → (pw_B (fun k => 1 ≤ k ∧ k ≤ 5) C0 C) → (u ≤ 4) → (C.1 3 = C0.1 3) → (∀ y, y < x → ∀ u, u < 4 → C.1 2 (4 * y + u) = (-2)) → (∀ y, y < x + 1 → ∀ u, u < 8 → C.1 1 (8 * y + u) = nI y) → (∀ u9, u9 < u → C.1 2 (4 * x + u9) = (-2)) → lv_has ls 4 [(3, .int (nI u)), (2, .int (nI x)), (0, .ref (Ad 0))] → W p l e (pw_rm 1 12 16 1324) s m args below meth c H locs ce se Q (F0 m 205 ls []) := by
  have hx := S.1
  have hb := S.2.1
  have hml := S.2.2.1
  have hown := S.2.2.2.1
  have hts := S.2.2.2.2
  intro f
  induction f with
  | zero => intro C H locs u ls hf; exact absurd hf (Nat.not_lt_zero _)
  | succ f ih =>
    intro C H locs u ls hf hP hS hB hu h3 h2 h1 hv hl
    have hF := fM_B hF0 hB
    refine lv_iload_n hx hb dX5_init_205 rfl (lv_at hl 0 rfl) ?_
    refine lv_iconst (v := nI 4) hx hb dX5_init_206 (by decide) ?_
    refine pn_icmp_ge (tgt := 228) hx hb (by omega) (by omega) dX5_init_207 (by decide) (fun c_207 => ?_) (fun c_207 => ?_)
    · exact hk C H locs ls hP hS ⟨hB, h3, h1, fun y hy u9 hu9 => by
        rcases Nat.lt_or_ge y x with g | g
        · exact h2 y g u9 hu9
        · obtain rfl : y = x := by omega
          exact hv u9 (by omega)⟩ (lv_sub hl [1, 2] rfl)
    · refine lv_aload_n hx hb dX5_init_210 rfl (lv_at hl 2 rfl) ?_
      refine pw_get hx hb hts (fun _ h9 => List.mem_cons_of_mem _ (List.mem_append_right _ h9)) hown hK hP 0 rfl rfl 2 (by decide) hF rfl (hts (.fieldLink RX5 13 "PastDrawsModel" "leads" "[I") (List.mem_of_getElem? (i := 6) rfl)) dX5_init_211 ?_
      refine lv_iconst (v := nI 4) hx hb dX5_init_214 (by decide) ?_
      refine lv_iload_n hx hb dX5_init_215 rfl (lv_at hl 1 rfl) ?_
      refine lv_imul hx hb dX5_init_216 ?_
      refine pw_topi (pk_mul _ _) ?_
      refine lv_iload_n hx hb dX5_init_217 rfl (lv_at hl 0 rfl) ?_
      refine lv_iadd hx hb dX5_init_218 ?_
      refine pw_topi (nI_add _ _) ?_
      refine lv_bipush (v := (-2)) hx hb dX5_init_219 (by decide) ?_
      refine pw_iast hx hb hK hP hI hS 2 rfl (by omega) (by decide) dX5_init_221 (fun H locs hP hS => ?_)
      obtain ⟨C221, hC221⟩ : ∃ z9, z9 = pw_setI C 2 ((4 * x) + u) (-2) := ⟨_, rfl⟩
      rw [← hC221] at hP
      have hB := by have hB9 := hB; exact (show pw_B (fun k => 1 ≤ k ∧ k ≤ 5) C0 C221 by rw [hC221]; exact hB9.setI (by show 1 ≤ 2 ∧ 2 ≤ 5; first | trivial | omega))
      have hF := fM_B hF0 hB
      refine lv_iinc (v := nI (u + 1)) (lv' := [(3, .int (nI (u + 1))), (2, .int (nI x)), (0, .ref (Ad 0))]) hx hb dX5_init_222 hl (k := 0) rfl (nI_add _ 1) (by decide) rfl (fun ls hl => ?_)
      refine lv_goto (tgt := 205) hx hb dX5_init_225 (by decide) ?_
      have e1 : C221.1 1 = C.1 1 := by rw [hC221]; exact si_ne (by decide)
      have e3 : C221.1 3 = C.1 3 := by rw [hC221]; exact si_ne (by decide)
      exact ih C221 H locs (u + 1) ls (by omega) hP hS hB (by omega) (e3.trans h3) (fun y hy u9 hu9 => by rw [hC221, si_at, if_neg (by omega)]; exact h2 y hy u9 hu9) (fun y hy u9 hu9 => by rw [e1]; exact h1 y hy u9 hu9) (fun u9 hu9 => by
        rw [hC221, si_at]
        by_cases q : u9 = u
        · rw [if_pos (by omega)]
        · rw [if_neg (by omega)]; exact hv u9 (by omega)) (lv_sub hl [0, 1, 2] rfl)

set_option maxHeartbeats 4000000 in
set_option maxRecDepth 100000 in
theorem L5_ini_k {p : Program} {l : Launch} {e : Env} {s : State} {m : MethodId} {args : Array Value} {below : List Frame} {meth : Method} {c : Code} {Q : State → Prop} {ce se : Nat} (S : CallFix p m c cX5_init 4 s args wsX5_init RX5) {D : va_G} {cy : Nat → ClassId} {Ad : Nat → Nat} {n mm : Nat} {pk : Int64} {tr : Int32} {C0 : pw_C} (hK : pw_K D cy s) (hI : pw_I Ad (shR fM5 shM)) (hF0 : fM n mm pk tr Ad C0) (hn : 1 ≤ n ∧ n ≤ 12) (hk : ∀ (C : pw_C) (H : Heap) (locs : List Loc) (ls : Array Slot), pw_P D cy Ad (shR fM5 shM) C H → va_S (pw_fr Ad (shR fM5 shM)) s.heap H locs → (pw_B (fun k => 1 ≤ k ∧ k ≤ 5) C0 C ∧ C.1 3 = C0.1 3 ∧ (∀ y, y < n → ∀ u, u < 8 → C.1 1 (8 * y + u) = nI y) ∧ (∀ y, y < n → ∀ u, u < 4 → C.1 2 (4 * y + u) = (-2))) → lv_has ls 4 [(0, .ref (Ad 0))] → W p l e (pw_rm 1 12 16 1324) s m args below meth c H locs ce se Q (F0 m 234 ls [])) : ∀ (f : Nat) (C : pw_C) (H : Heap) (locs : List Loc) (x : Nat) (ls : Array Slot), n - x < f → (pw_P D cy Ad (shR fM5 shM) C H) → (va_S (pw_fr Ad (shR fM5 shM)) s.heap H locs) → (pw_B (fun k => 1 ≤ k ∧ k ≤ 5) C0 C) → (x ≤ n) → (C.1 3 = C0.1 3) → (∀ y, y < x → ∀ u, u < 4 → C.1 2 (4 * y + u) = (-2)) → (∀ y, y < x → ∀ u, u < 8 → C.1 1 (8 * y + u) = nI y) → lv_has ls 4 [(2, .int (nI x)), (0, .ref (Ad 0))] → W p l e (pw_rm 1 12 16 1324) s m args below meth c H locs ce se Q (F0 m 169 ls []) := by
  have hx := S.1
  have hb := S.2.1
  have hml := S.2.2.1
  have hown := S.2.2.2.1
  have hts := S.2.2.2.2
  intro f
  induction f with
  | zero => intro C H locs x ls hf; exact absurd hf (Nat.not_lt_zero _)
  | succ f ih =>
    intro C H locs x ls hf hP hS hB hx0 h3 h2 h1 hl
    have hF := fM_B hF0 hB
    refine lv_iload_n hx hb dX5_init_169 rfl (lv_at hl 0 rfl) ?_
    refine lv_aload_n hx hb dX5_init_170 rfl (lv_at hl 1 rfl) ?_
    refine pw_get hx hb hts (fun _ h9 => List.mem_cons_of_mem _ (List.mem_append_right _ h9)) hown hK hP 0 rfl rfl 0 (by decide) hF rfl (hts (.fieldLink RX5 64 "PastDrawsModel" "n" "I") (List.mem_of_getElem? (i := 24) rfl)) dX5_init_171 ?_
    refine pn_icmp_ge (tgt := 234) hx hb (by omega) (by omega) dX5_init_174 (by decide) (fun c_174 => ?_) (fun c_174 => ?_)
    · obtain rfl : x = n := by omega
      exact hk C H locs ls hP hS ⟨hB, h3, h1, h2⟩ (lv_sub hl [1] rfl)
    · refine lv_iconst (v := nI 0) hx hb dX5_init_177 (by decide) ?_
      refine lv_istore_n (lv' := [(3, .int (nI 0)), (2, .int (nI x)), (0, .ref (Ad 0))]) hx hb dX5_init_178 rfl hl (by decide) rfl (fun ls hl => ?_)
      refine L5_ini_u S hK hI hF0 hn x (by omega) (fun C9 H locs ls hP hS hR hl => ?_) 9 C H locs 0 ls (by omega) hP hS hB (by omega) h3 h2 h1 (fun u9 hu9 => by omega) (lv_sub hl [0, 1, 2] rfl)
      obtain ⟨hB, h3, h2, h1⟩ := hR
      refine lv_iconst (v := nI 0) hx hb dX5_init_203 (by decide) ?_
      refine lv_istore_n (lv' := [(3, .int (nI 0)), (2, .int (nI x)), (0, .ref (Ad 0))]) hx hb dX5_init_204 rfl hl (by decide) rfl (fun ls hl => ?_)
      refine L5_ini_l S hK hI hF0 hn x (by omega) (fun C8 H locs ls hP hS hR hl => ?_) 5 C9 H locs 0 ls (by omega) hP hS hB (by omega) h3 h2 h1 (fun u9 hu9 => by omega) (lv_sub hl [0, 1, 2] rfl)
      obtain ⟨hB, h3, h1, h2⟩ := hR
      refine lv_iinc (v := nI (x + 1)) (lv' := [(2, .int (nI (x + 1))), (0, .ref (Ad 0))]) hx hb dX5_init_228 hl (k := 0) rfl (nI_add _ 1) (by decide) rfl (fun ls hl => ?_)
      refine lv_goto (tgt := 169) hx hb dX5_init_231 (by decide) ?_
      exact ih C8 H locs (x + 1) ls (by omega) hP hS hB (by omega) h3 h2 h1 (lv_sub hl [0, 1] rfl)

set_option maxHeartbeats 4000000 in
set_option maxRecDepth 100000 in
theorem L5_ini_a {p : Program} {l : Launch} {e : Env} {s : State} {m : MethodId} {args : Array Value} {below : List Frame} {meth : Method} {c : Code} {Q : State → Prop} {ce se : Nat} (S : CallFix p m c cX5_init 4 s args wsX5_init RX5) {D : va_G} {cy : Nat → ClassId} {Ad : Nat → Nat} {n mm : Nat} {pk : Int64} {tr : Int32} {C0 : pw_C} (hK : pw_K D cy s) (hI : pw_I Ad (shR fM5 shM)) (hF0 : fM n mm pk tr Ad C0) (hn : 1 ≤ n ∧ n ≤ 12) (hk : ∀ (C : pw_C) (H : Heap) (locs : List Loc) (ls : Array Slot), pw_P D cy Ad (shR fM5 shM) C H → va_S (pw_fr Ad (shR fM5 shM)) s.heap H locs → (pw_B (fun k => 1 ≤ k ∧ k ≤ 5) C0 C ∧ C.1 3 = C0.1 3 ∧ (∀ y, y < n → ∀ u, u < 8 → C.1 1 (8 * y + u) = nI y) ∧ (∀ y, y < n → ∀ u, u < 4 → C.1 2 (4 * y + u) = (-2)) ∧ ∀ y, y < 64 → C.1 4 y = pb true) → lv_has ls 4 [(0, .ref (Ad 0))] → W p l e (pw_rm 1 12 16 1324) s m args below meth c H locs ce se Q (F0 m 255 ls [])) : ∀ (f : Nat) (C : pw_C) (H : Heap) (locs : List Loc) (x : Nat) (ls : Array Slot), 64 - x < f → (pw_P D cy Ad (shR fM5 shM) C H) → (va_S (pw_fr Ad (shR fM5 shM)) s.heap H locs) → (pw_B (fun k => 1 ≤ k ∧ k ≤ 5) C0 C) → (x ≤ 64) → (C.1 3 = C0.1 3) → (∀ y, y < n → ∀ u, u < 4 → C.1 2 (4 * y + u) = (-2)) → (∀ y, y < n → ∀ u, u < 8 → C.1 1 (8 * y + u) = nI y) → (∀ y, y < x → C.1 4 y = pb true) → lv_has ls 4 [(2, .int (nI x)), (0, .ref (Ad 0))] → W p l e (pw_rm 1 12 16 1324) s m args below meth c H locs ce se Q (F0 m 236 ls []) := by
  have hx := S.1
  have hb := S.2.1
  have hml := S.2.2.1
  have hown := S.2.2.2.1
  have hts := S.2.2.2.2
  intro f
  induction f with
  | zero => intro C H locs x ls hf; exact absurd hf (Nat.not_lt_zero _)
  | succ f ih =>
    intro C H locs x ls hf hP hS hB hx0 h3 h2 h1 hv hl
    have hF := fM_B hF0 hB
    refine lv_iload_n hx hb dX5_init_236 rfl (lv_at hl 0 rfl) ?_
    refine lv_bipush (v := nI 64) hx hb dX5_init_237 (by decide) ?_
    refine pn_icmp_ge (tgt := 255) hx hb (by omega) (by omega) dX5_init_239 (by decide) (fun c_239 => ?_) (fun c_239 => ?_)
    · exact hk C H locs ls hP hS ⟨hB, h3, h1, h2, fun y hy => hv y (by omega)⟩ (lv_sub hl [1] rfl)
    · refine lv_aload_n hx hb dX5_init_242 rfl (lv_at hl 1 rfl) ?_
      refine pw_get hx hb hts (fun _ h9 => List.mem_cons_of_mem _ (List.mem_append_right _ h9)) hown hK hP 0 rfl rfl 4 (by decide) hF rfl (hts (.fieldLink RX5 20 "PastDrawsModel" "isAllowed" "[Z") (List.mem_of_getElem? (i := 9) rfl)) dX5_init_243 ?_
      refine lv_iload_n hx hb dX5_init_246 rfl (lv_at hl 0 rfl) ?_
      refine lv_iconst (v := nI 1) hx hb dX5_init_247 (by decide) ?_
      refine pw_topi (y := pb true) rfl ?_
      refine pw_zast hx hb hK hP hI hS 4 rfl (by omega) (by decide) (pb_nar _) dX5_init_248 (fun H locs hP hS => ?_)
      obtain ⟨C248, hC248⟩ : ∃ z9, z9 = pw_setI C 4 x (pb true) := ⟨_, rfl⟩
      rw [← hC248] at hP
      have hB := by have hB9 := hB; exact (show pw_B (fun k => 1 ≤ k ∧ k ≤ 5) C0 C248 by rw [hC248]; exact hB9.setI (by show 1 ≤ 4 ∧ 4 ≤ 5; first | trivial | omega))
      have hF := fM_B hF0 hB
      refine lv_iinc (v := nI (x + 1)) (lv' := [(2, .int (nI (x + 1))), (0, .ref (Ad 0))]) hx hb dX5_init_249 hl (k := 0) rfl (nI_add _ 1) (by decide) rfl (fun ls hl => ?_)
      refine lv_goto (tgt := 236) hx hb dX5_init_252 (by decide) ?_
      have e1 : C248.1 1 = C.1 1 := by rw [hC248]; exact si_ne (by decide)
      have e2 : C248.1 2 = C.1 2 := by rw [hC248]; exact si_ne (by decide)
      have e3 : C248.1 3 = C.1 3 := by rw [hC248]; exact si_ne (by decide)
      exact ih C248 H locs (x + 1) ls (by omega) hP hS hB (by omega) (e3.trans h3) (fun y hy u9 hu9 => by rw [e2]; exact h2 y hy u9 hu9) (fun y hy u9 hu9 => by rw [e1]; exact h1 y hy u9 hu9) (fun y hy => by
        rw [hC248, si_at]
        by_cases q : y = x
        · rw [if_pos q]
        · rw [if_neg q]; exact hv y (by omega)) (lv_sub hl [0, 1] rfl)
