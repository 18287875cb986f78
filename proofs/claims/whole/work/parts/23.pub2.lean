theorem XI_rule {n mm : Nat} {nx : Nat → Nat → Nat} {mx : Nat → Nat → Option Nat} {en : Nat → Bool} {am wt Ad : Nat → Nat} {C : pw_C} {x u y : Nat} (hx : x < n ∧ n ≤ 12) (hu : u < 8) (hy : y < n) (h : XI n mm nx mx en am wt Ad C) : XI n mm (fun u9 x9 => if u9 = u ∧ x9 = x then y else nx u9 x9) mx en am wt Ad (pw_setI C (21 + u) x (nI y)) := by
  obtain ⟨h1, h2, h3, h4, h5, h6⟩ := h
  refine ⟨h1, fun u9 hu9 x9 hx9 => ?_, fun x9 hx9 c9 hc9 => ?_, fun x9 hx9 => ?_, fun p9 hp9 => ?_, fun i9 hi9 => ?_⟩
  · have := h2 u9 hu9 x9 hx9
    show (if u9 = u ∧ x9 = x then y else nx u9 x9) < n ∧ _ = nI (if u9 = u ∧ x9 = x then y else nx u9 x9)
    by_cases q : u9 = u
    · subst q
      rw [si_at]
      by_cases q2 : x9 = x
      · rw [if_pos q2, if_pos ⟨rfl, q2⟩]; exact ⟨hy, rfl⟩
      · rw [if_neg q2, if_neg (fun z => q2 z.2)]; exact this
    · rw [si_ne (by omega), if_neg (fun z => q z.1)]; exact this
  · rw [si_ne (by omega)]; exact h3 x9 hx9 c9 hc9
  · rw [si_ne (by omega)]; exact h4 x9 hx9
  · rw [si_ne (by omega)]; exact h5 p9 hp9
  · rw [si_ne (by omega)]; exact h6 i9 hi9

set_option maxHeartbeats 4000000 in
set_option maxRecDepth 100000 in
theorem c_X4_rule (l : Launch) (D : va_G) (cy : Nat → ClassId) (Ad : Nat → Nat) (n mm : Nat) (C : pw_C) (hI : pw_I Ad (shX n)) (hn : 1 ≤ n ∧ n ≤ 12) (hmm : 1 ≤ mm ∧ mm ≤ 16) (nx : Nat → Nat → Nat) (mx : Nat → Nat → Option Nat) (en : Nat → Bool) (am wt : Nat → Nat) (hX : XI n mm nx mx en am wt Ad C) (a b d : Int32) : Met l yX4_rule wsX4_rule (k2_rm 1 24) (pw_Pre ([.ref (Ad 0), .int a, .int b, .int d]) D cy Ad (shX n) C) (pw_Post (fun r9 C' => r9 = some (.int (f_rule n nx a b d)) ∧ (XI n mm (u_rule n nx a b d) mx en am wt Ad C')) D cy Ad (shX n)) 0 0 (pw_fr Ad (shX n)) := by
  refine Met.ofW (cc := cX4_rule) (maxL := 4) (ret := (some .int)) (by decide) rfl ?_
  intro p e s m args below meth c s₁ B hml hv
  obtain ⟨rfl, hP, hK⟩ := hv
  have hx := B.exec
  have hb := B.bytes
  have hr := B.returns
  have hts := atoms_spec (ws := wsX4_rule) B.pre
  have hown : s.vm.findClass RX4 = some m.cls := findClass_of_methodNamed B.named
  have hlocks := B.notSynchronized
  have S : CallFix p m c cX4_rule 4 s ([.ref (Ad 0), .int a, .int b, .int d]).toArray wsX4_rule RX4 := ⟨hx, hb, hml, hown, hts⟩
  change W p l e (k2_rm 1 24) s m _ below meth c s.heap [] 0 0 _ _
  have hl := lv_entry ([.ref (Ad 0), .int a, .int b, .int d]) (n := 4) (Nat.le_of_ble_eq_true rfl)
  rw [lg_entry_eq]
  generalize (lg_sl ([.ref (Ad 0), .int a, .int b, .int d]) ++ List.replicate (4 - (lg_sl ([.ref (Ad 0), .int a, .int b, .int d])).length) Slot.unset).toArray = ls at hl ⊢
  have hl : lv_has ls 4 [(0, .ref (Ad 0)), (1, .int a), (2, .int b), (3, .int d)] := hl
  have hS : va_S (pw_fr Ad (shX n)) s.heap s.heap [] := va_S.rf
  obtain ⟨hF, hN, hM, hE, hA, hT⟩ := id hX
  refine lv_aload_n hx hb dX4_rule_0 rfl (lv_at hl 0 rfl) ?_
  refine lv_iload_n hx hb dX4_rule_1 rfl (lv_at hl 1 rfl) ?_
  refine pw_cv S hK hP 0 4 rfl rfl 1 (c_X4_isState l D cy Ad n mm C hn hF a) gX4_rule_X4_isState rfl rfl rfl (by decide +kernel) ⟨Nat.le_of_ble_eq_true rfl, Nat.le_of_ble_eq_true rfl⟩ rfl hl.1 rfl (Nat.le_of_ble_eq_true rfl) dX4_rule_2 ⟨Nat.le_refl _, Nat.le_refl _⟩ ?_
  refine pn_ifeq_b (tgt := 26) hx hb dX4_rule_5 (by decide) (fun c_5 => ?_) (fun c_5 => ?_)
  · refine lv_iconst (v := (-1)) hx hb dX4_rule_26 (by decide) ?_
    have e9 : (wi a (nI 0) (nI (n - 1)) && wi b (nI 0) (nI 7) && wi d (nI 0) (nI (n - 1))) = false := by first | (rw [c_5]; rfl) | (rw [c_5, c_15]; rfl) | (rw [c_5, c_15, c_23]; rfl)
    have ef : f_rule n nx a b d = (-1) := by unfold f_rule; rw [e9]; rfl
    have eu : u_rule n nx a b d = nx := by unfold u_rule; rw [e9]; rfl
    rw [ef, eu]
    exact W.iret hx hb hr (fun t ht _ => ⟨⟨_, C, rfl, ⟨rfl, hX⟩, by rw [ht]; exact hP⟩, hS.F ht⟩) hS.2.2 dX4_rule_27
  · refine lv_iload_n hx hb dX4_rule_8 rfl (lv_at hl 2 rfl) ?_
    refine lv_iconst (v := nI 0) hx hb dX4_rule_9 (by decide) ?_
    refine lv_bipush (v := nI 7) hx hb dX4_rule_10 (by decide) ?_
    refine pw_cs S 3 (c_X4_isWithin l b (nI 0) (nI 7)) gX4_rule_X4_isWithin rfl rfl rfl (by decide +kernel) ⟨Nat.le_of_ble_eq_true rfl, Nat.le_of_ble_eq_true rfl⟩ rfl hl.1 rfl (Nat.le_of_ble_eq_true rfl) dX4_rule_12 ⟨Nat.le_refl _, Nat.le_refl _⟩ ?_
    refine pn_ifeq_b (tgt := 26) hx hb dX4_rule_15 (by decide) (fun c_15 => ?_) (fun c_15 => ?_)
    · refine lv_iconst (v := (-1)) hx hb dX4_rule_26 (by decide) ?_
      have e9 : (wi a (nI 0) (nI (n - 1)) && wi b (nI 0) (nI 7) && wi d (nI 0) (nI (n - 1))) = false := by first | (rw [c_5]; rfl) | (rw [c_5, c_15]; rfl) | (rw [c_5, c_15, c_23]; rfl)
      have ef : f_rule n nx a b d = (-1) := by unfold f_rule; rw [e9]; rfl
      have eu : u_rule n nx a b d = nx := by unfold u_rule; rw [e9]; rfl
      rw [ef, eu]
      exact W.iret hx hb hr (fun t ht _ => ⟨⟨_, C, rfl, ⟨rfl, hX⟩, by rw [ht]; exact hP⟩, hS.F ht⟩) hS.2.2 dX4_rule_27
    · refine lv_aload_n hx hb dX4_rule_18 rfl (lv_at hl 0 rfl) ?_
      refine lv_iload_n hx hb dX4_rule_19 rfl (lv_at hl 3 rfl) ?_
      refine pw_cv S hK hP 0 4 rfl rfl 1 (c_X4_isState l D cy Ad n mm C hn hF d) gX4_rule_X4_isState rfl rfl rfl (by decide +kernel) ⟨Nat.le_of_ble_eq_true rfl, Nat.le_of_ble_eq_true rfl⟩ rfl hl.1 rfl (Nat.le_of_ble_eq_true rfl) dX4_rule_20 ⟨Nat.le_refl _, Nat.le_refl _⟩ ?_
      refine pn_ifne_b (tgt := 28) hx hb dX4_rule_23 (by decide) (fun c_23 => ?_) (fun c_23 => ?_)
      · obtain ⟨x, hl_x, hh_x, rfl⟩ := wi_ex (by omega) c_5
        obtain ⟨u, hl_u, hh_u, rfl⟩ := wi_ex (by omega) c_15
        obtain ⟨y, hl_y, hh_y, rfl⟩ := wi_ex (by omega) c_23
        have ix_x : ix (nI x) = x := nI_clamp (by omega)
        have ix_u : ix (nI u) = u := nI_clamp (by omega)
        have ix_y : ix (nI y) = y := nI_clamp (by omega)
        refine lv_aload_n hx hb dX4_rule_28 rfl (lv_at hl 0 rfl) ?_
        refine pw_get hx hb hts (fun _ h9 => List.mem_cons_of_mem _ (List.mem_append_left _ (List.mem_append_right _ h9))) hown hK hP 0 rfl rfl 1 (by decide) hF.1 rfl (hts (.fieldLink RX4 27 "PastDraws" "chain" "LPastDraws$Chain;") (List.mem_of_getElem? (i := 1) rfl)) dX4_rule_29 ?_
        refine lv_iload_n hx hb dX4_rule_32 rfl (lv_at hl 1 rfl) ?_
        refine lv_iload_n hx hb dX4_rule_33 rfl (lv_at hl 2 rfl) ?_
        refine lv_iload_n hx hb dX4_rule_34 rfl (lv_at hl 3 rfl) ?_
        refine pw_cvW S hK hP 1 0 rfl rfl 3 (c_X0_setStep l D cy Ad n mm C hI hn hF nx hN x u y (by omega) (by omega)) gX4_rule_X0_setStep rfl rfl rfl (by decide +kernel) ⟨Nat.le_of_ble_eq_true rfl, Nat.le_of_ble_eq_true rfl⟩ rfl hl.1 rfl (Nat.le_of_ble_eq_true rfl) dX4_rule_35 ⟨Nat.le_refl _, Nat.le_refl _⟩ hS (fun _ h9 => h9) (fun r9 C35 H locs hR hP _ _ hS => ?_)
        obtain ⟨rfl, hR⟩ := hR
        change W p l e _ s m _ below meth c H locs 0 0 _ (F0 m 38 ls [.int (nI (nx u x))])
        have e9 : (wi (nI x) (nI 0) (nI (n - 1)) && wi (nI u) (nI 0) (nI 7) && wi (nI y) (nI 0) (nI (n - 1))) = true := by rw [c_5, c_15, c_23]; rfl
        have ef : f_rule n nx (nI x) (nI u) (nI y) = nI (nx u x) := by unfold f_rule; rw [if_pos e9, ix_x, ix_u]
        have eu : u_rule n nx (nI x) (nI u) (nI y) = fun u9 x9 => if u9 = u ∧ x9 = x then y else nx u9 x9 := by unfold u_rule; rw [if_pos e9, ix_x, ix_u, ix_y]
        rw [ef, eu]
        exact W.iret hx hb hr (fun t ht _ => ⟨⟨_, C35, rfl, ⟨rfl, by rw [hR]; exact XI_rule (by omega) (by omega) (by omega) hX⟩, by rw [ht]; exact hP⟩, hS.F ht⟩) hS.2.2 dX4_rule_38
      · refine lv_iconst (v := (-1)) hx hb dX4_rule_26 (by decide) ?_
        have e9 : (wi a (nI 0) (nI (n - 1)) && wi b (nI 0) (nI 7) && wi d (nI 0) (nI (n - 1))) = false := by first | (rw [c_5]; rfl) | (rw [c_5, c_15]; rfl) | (rw [c_5, c_15, c_23]; rfl)
        have ef : f_rule n nx a b d = (-1) := by unfold f_rule; rw [e9]; rfl
        have eu : u_rule n nx a b d = nx := by unfold u_rule; rw [e9]; rfl
        rw [ef, eu]
        exact W.iret hx hb hr (fun t ht _ => ⟨⟨_, C, rfl, ⟨rfl, hX⟩, by rw [ht]; exact hP⟩, hS.F ht⟩) hS.2.2 dX4_rule_27

set_option maxHeartbeats 4000000 in
set_option maxRecDepth 100000 in
theorem c_X4_taken (l : Launch) (D : va_G) (cy : Nat → ClassId) (Ad : Nat → Nat) (n mm : Nat) (C : pw_C) (hI : pw_I Ad (shX n)) (hn : 1 ≤ n ∧ n ≤ 12) (hmm : 1 ≤ mm ∧ mm ≤ 16) (nx : Nat → Nat → Nat) (mx : Nat → Nat → Option Nat) (en : Nat → Bool) (am wt : Nat → Nat) (hX : XI n mm nx mx en am wt Ad C) (a b d : Int32) : Met l yX4_taken wsX4_taken (k2_rm 3 68) (pw_Pre ([.ref (Ad 0), .int a, .int b, .int d]) D cy Ad (shX n) C) (k2_QcV (.int (f_taken n nx a b d))) 0 0 (fun _ => False) := by
  refine Met.ofW (cc := cX4_taken) (maxL := 4) (ret := (some .int)) (by decide) rfl ?_
  intro p e s m args below meth c s₁ B hml hv
  obtain ⟨rfl, hP, hK⟩ := hv
  have hx := B.exec
  have hb := B.bytes
  have hr := B.returns
  have hts := atoms_spec (ws := wsX4_taken) B.pre
  have hown : s.vm.findClass RX4 = some m.cls := findClass_of_methodNamed B.named
  have hlocks := B.notSynchronized
  have S : CallFix p m c cX4_taken 4 s ([.ref (Ad 0), .int a, .int b, .int d]).toArray wsX4_taken RX4 := ⟨hx, hb, hml, hown, hts⟩
  change W p l e (k2_rm 3 68) s m _ below meth c s.heap [] 0 0 _ _
  have hl := lv_entry ([.ref (Ad 0), .int a, .int b, .int d]) (n := 4) (Nat.le_of_ble_eq_true rfl)
  rw [lg_entry_eq]
  obtain ⟨hF, hN, hM, hE, hA, hT⟩ := id hX
  generalize (lg_sl ([.ref (Ad 0), .int a, .int b, .int d]) ++ List.replicate (4 - (lg_sl ([.ref (Ad 0), .int a, .int b, .int d])).length) Slot.unset).toArray = ls at hl ⊢
  have hl : lv_has ls 4 [(0, .ref (Ad 0)), (1, .int a), (2, .int b), (3, .int d)] := hl
  refine lv_iload_n hx hb dX4_taken_0 rfl (lv_at hl 2 rfl) ?_
  refine lv_iconst (v := nI 1) hx hb dX4_taken_1 (by decide) ?_
  refine lv_sipush (v := nI 4096) hx hb dX4_taken_2 (by decide) ?_
  refine pw_cs S 3 (c_X4_isWithin l b (nI 1) (nI 4096)) gX4_taken_X4_isWithin rfl rfl rfl (by decide +kernel) ⟨Nat.le_of_ble_eq_true rfl, Nat.le_of_ble_eq_true rfl⟩ rfl hl.1 rfl (Nat.le_of_ble_eq_true rfl) dX4_taken_5 ⟨Nat.le_refl _, Nat.le_refl _⟩ ?_
  refine pn_ifeq_b (tgt := 19) hx hb dX4_taken_8 (by decide) (fun c_8 => ?_) (fun c_8 => ?_)
  · refine lv_iconst (v := (-1)) hx hb dX4_taken_19 (by decide) ?_
    refine pw_topi (y := f_taken n nx a b d) (by unfold f_taken; first | simp [c_8, c_16, ix_t, ix_x] | simp [c_8, c_16] | simp [c_8]) ?_
    exact W.iret hx hb hr (fun t ht _ => ⟨rfl, ht⟩) (fun q h => by cases h) dX4_taken_20
  · refine lv_aload_n hx hb dX4_taken_11 rfl (lv_at hl 0 rfl) ?_
    refine lv_iload_n hx hb dX4_taken_12 rfl (lv_at hl 3 rfl) ?_
    refine pw_cv S hK hP 0 4 rfl rfl 1 (c_X4_isState l D cy Ad n mm C hn hF d) gX4_taken_X4_isState rfl rfl rfl (by decide +kernel) ⟨Nat.le_of_ble_eq_true rfl, Nat.le_of_ble_eq_true rfl⟩ rfl hl.1 rfl (Nat.le_of_ble_eq_true rfl) dX4_taken_13 ⟨Nat.le_refl _, Nat.le_refl _⟩ ?_
    refine pn_ifne_b (tgt := 21) hx hb dX4_taken_16 (by decide) (fun c_16 => ?_) (fun c_16 => ?_)
    · obtain ⟨t, hl_t, hh_t, rfl⟩ := wi_ex (by omega) c_8
      obtain ⟨x, hl_x, hh_x, rfl⟩ := wi_ex (by omega) c_16
      have ix_t : ix (nI t) = t := nI_clamp (by omega)
      have ix_x : ix (nI x) = x := nI_clamp (by omega)
      refine lv_aload_n hx hb dX4_taken_21 rfl (lv_at hl 0 rfl) ?_
      refine pw_get hx hb hts (fun _ h9 => List.mem_cons_of_mem _ (List.mem_append_left _ (List.mem_append_right _ h9))) hown hK hP 0 rfl rfl 1 (by decide) hF.1 rfl (hts (.fieldLink RX4 27 "PastDraws" "chain" "LPastDraws$Chain;") (List.mem_of_getElem? (i := 1) rfl)) dX4_taken_22 ?_
      refine lv_iload_n hx hb dX4_taken_25 rfl (lv_at hl 1 rfl) ?_
      refine lv_iload_n hx hb dX4_taken_26 rfl (lv_at hl 2 rfl) ?_
      refine lv_iload_n hx hb dX4_taken_27 rfl (lv_at hl 3 rfl) ?_
      refine pw_cv S hK hP 1 0 rfl rfl 3 (c_X0_throughPast l D cy Ad n mm C hn hF nx hN a t x (by omega) (by omega)) gX4_taken_X0_throughPast rfl rfl rfl (by decide +kernel) ⟨Nat.le_of_ble_eq_true rfl, Nat.le_of_ble_eq_true rfl⟩ rfl hl.1 rfl (Nat.le_of_ble_eq_true rfl) dX4_taken_28 ⟨Nat.le_refl _, Nat.le_refl _⟩ ?_
      refine pw_topi (y := f_taken n nx a (nI t) (nI x)) (by unfold f_taken; first | simp [c_8, c_16, ix_t, ix_x] | simp [c_8, c_16] | simp [c_8]) ?_
      exact W.iret hx hb hr (fun t ht _ => ⟨rfl, ht⟩) (fun q h => by cases h) dX4_taken_31
    · refine lv_iconst (v := (-1)) hx hb dX4_taken_19 (by decide) ?_
      refine pw_topi (y := f_taken n nx a b d) (by unfold f_taken; first | simp [c_8, c_16, ix_t, ix_x] | simp [c_8, c_16] | simp [c_8]) ?_
      exact W.iret hx hb hr (fun t ht _ => ⟨rfl, ht⟩) (fun q h => by cases h) dX4_taken_20

set_option maxHeartbeats 4000000 in
set_option maxRecDepth 100000 in
theorem c_X4_fold (l : Launch) (D : va_G) (cy : Nat → ClassId) (Ad : Nat → Nat) (n mm : Nat) (C : pw_C) (hI : pw_I Ad (shX n)) (hn : 1 ≤ n ∧ n ≤ 12) (hmm : 1 ≤ mm ∧ mm ≤ 16) (nx : Nat → Nat → Nat) (mx : Nat → Nat → Option Nat) (en : Nat → Bool) (am wt : Nat → Nat) (hX : XI n mm nx mx en am wt Ad C) (a b : Int32) : Met l yX4_fold wsX4_fold (k2_rm 3 105) (pw_Pre ([.ref (Ad 0), .int a, .int b]) D cy Ad (shX n) C) (pw_Post (fun r9 C' => r9 = some (.int (f_fold n nx a b)) ∧ (XI n mm nx mx en am wt Ad C')) D cy Ad (shX n)) 0 0 (pw_fr Ad (shX n)) := by
  refine Met.ofW (cc := cX4_fold) (maxL := 3) (ret := (some .int)) (by decide) rfl ?_
  intro p e s m args below meth c s₁ B hml hv
  obtain ⟨rfl, hP, hK⟩ := hv
  have hx := B.exec
  have hb := B.bytes
  have hr := B.returns
  have hts := atoms_spec (ws := wsX4_fold) B.pre
  have hown : s.vm.findClass RX4 = some m.cls := findClass_of_methodNamed B.named
  have hlocks := B.notSynchronized
  have S : CallFix p m c cX4_fold 3 s ([.ref (Ad 0), .int a, .int b]).toArray wsX4_fold RX4 := ⟨hx, hb, hml, hown, hts⟩
  change W p l e (k2_rm 3 105) s m _ below meth c s.heap [] 0 0 _ _
  have hl := lv_entry ([.ref (Ad 0), .int a, .int b]) (n := 3) (Nat.le_of_ble_eq_true rfl)
  rw [lg_entry_eq]
  generalize (lg_sl ([.ref (Ad 0), .int a, .int b]) ++ List.replicate (3 - (lg_sl ([.ref (Ad 0), .int a, .int b])).length) Slot.unset).toArray = ls at hl ⊢
  have hl : lv_has ls 3 [(0, .ref (Ad 0)), (1, .int a), (2, .int b)] := hl
  have hS : va_S (pw_fr Ad (shX n)) s.heap s.heap [] := va_S.rf
  obtain ⟨hF, hN, hM, hE, hA, hT⟩ := id hX
  refine lv_iload_n hx hb dX4_fold_0 rfl (lv_at hl 2 rfl) ?_
  refine lv_iconst (v := nI 1) hx hb dX4_fold_1 (by decide) ?_
  refine lv_sipush (v := nI 4096) hx hb dX4_fold_2 (by decide) ?_
  refine pw_cs S 3 (c_X4_isWithin l b (nI 1) (nI 4096)) gX4_fold_X4_isWithin rfl rfl rfl (by decide +kernel) ⟨Nat.le_of_ble_eq_true rfl, Nat.le_of_ble_eq_true rfl⟩ rfl hl.1 rfl (Nat.le_of_ble_eq_true rfl) dX4_fold_5 ⟨Nat.le_refl _, Nat.le_refl _⟩ ?_
  refine pn_ifne_b (tgt := 13) hx hb dX4_fold_8 (by decide) (fun c_8 => ?_) (fun c_8 => ?_)
  · obtain ⟨k, hl_k, hh_k, rfl⟩ := wi_ex (by omega) c_8
    have ix_k : ix (nI k) = k := nI_clamp (by omega)
    refine lv_aload_n hx hb dX4_fold_13 rfl (lv_at hl 0 rfl) ?_
    refine pw_get hx hb hts (fun _ h9 => List.mem_cons_of_mem _ (List.mem_append_left _ (List.mem_append_right _ h9))) hown hK hP 0 rfl rfl 1 (by decide) hF.1 rfl (hts (.fieldLink RX4 27 "PastDraws" "chain" "LPastDraws$Chain;") (List.mem_of_getElem? (i := 1) rfl)) dX4_fold_14 ?_
    refine lv_iload_n hx hb dX4_fold_17 rfl (lv_at hl 1 rfl) ?_
    refine lv_iload_n hx hb dX4_fold_18 rfl (lv_at hl 2 rfl) ?_
    refine pw_cvW S hK hP 1 0 rfl rfl 2 (c_X0_leastMeeting l D cy Ad n mm C hI hn hF nx hN a k (by omega)) gX4_fold_X0_leastMeeting rfl rfl rfl (by decide +kernel) ⟨Nat.le_of_ble_eq_true rfl, Nat.le_of_ble_eq_true rfl⟩ rfl hl.1 rfl (Nat.le_of_ble_eq_true rfl) dX4_fold_19 ⟨Nat.le_refl _, Nat.le_refl _⟩ hS (fun _ h9 => h9) (fun r9 C19 H locs hR hP _ _ hS => ?_)
    obtain ⟨rfl, hR⟩ := hR
    change W p l e _ s m _ below meth c H locs 0 0 _ (F0 m 22 ls [.int (oi (fstT (fun t => mtF (thr nx a t) n) k 1))])
    have hX := XI_B hn.2 hX hR (fun k h => by have h8 : k = 6 ∨ k = 7 := h; unfold scr; omega)
    obtain ⟨hF, hN, hM, hE, hA, hT⟩ := id hX
    refine pw_topi (y := f_fold n nx a (nI k)) (by unfold f_fold; simp [c_8, ix_k]) ?_
    exact W.iret hx hb hr (fun t ht _ => ⟨⟨_, C19, rfl, ⟨rfl, hX⟩, by rw [ht]; exact hP⟩, hS.F ht⟩) hS.2.2 dX4_fold_22
  · refine lv_iconst (v := (-1)) hx hb dX4_fold_11 (by decide) ?_
    refine pw_topi (y := f_fold n nx a b) (by unfold f_fold; simp [c_8]) ?_
    exact W.iret hx hb hr (fun t ht _ => ⟨⟨_, C, rfl, ⟨rfl, hX⟩, by rw [ht]; exact hP⟩, hS.F ht⟩) hS.2.2 dX4_fold_12

set_option maxHeartbeats 4000000 in
set_option maxRecDepth 100000 in
theorem c_X4_past (l : Launch) (D : va_G) (cy : Nat → ClassId) (Ad : Nat → Nat) (n mm : Nat) (C : pw_C) (hI : pw_I Ad (shX n)) (hn : 1 ≤ n ∧ n ≤ 12) (hmm : 1 ≤ mm ∧ mm ≤ 16) (nx : Nat → Nat → Nat) (mx : Nat → Nat → Option Nat) (en : Nat → Bool) (am wt : Nat → Nat) (hX : XI n mm nx mx en am wt Ad C) (a b : Int32) : Met l yX4_past wsX4_past (k2_rm 3 105) (pw_Pre ([.ref (Ad 0), .int a, .int b]) D cy Ad (shX n) C) (pw_Post (fun r9 C' => r9 = some (.int (f_past n nx a b)) ∧ (XI n mm nx mx en am wt Ad C')) D cy Ad (shX n)) 0 0 (pw_fr Ad (shX n)) := by
  refine Met.ofW (cc := cX4_past) (maxL := 5) (ret := (some .int)) (by decide) rfl ?_
  intro p e s m args below meth c s₁ B hml hv
  obtain ⟨rfl, hP, hK⟩ := hv
  have hx := B.exec
  have hb := B.bytes
  have hr := B.returns
  have hts := atoms_spec (ws := wsX4_past) B.pre
  have hown : s.vm.findClass RX4 = some m.cls := findClass_of_methodNamed B.named
  have hlocks := B.notSynchronized
  have S : CallFix p m c cX4_past 5 s ([.ref (Ad 0), .int a, .int b]).toArray wsX4_past RX4 := ⟨hx, hb, hml, hown, hts⟩
  change W p l e (k2_rm 3 105) s m _ below meth c s.heap [] 0 0 _ _
  have hl := lv_entry ([.ref (Ad 0), .int a, .int b]) (n := 5) (Nat.le_of_ble_eq_true rfl)
  rw [lg_entry_eq]
  generalize (lg_sl ([.ref (Ad 0), .int a, .int b]) ++ List.replicate (5 - (lg_sl ([.ref (Ad 0), .int a, .int b])).length) Slot.unset).toArray = ls at hl ⊢
  have hl : lv_has ls 5 [(0, .ref (Ad 0)), (1, .int a), (2, .int b)] := hl
  have hS : va_S (pw_fr Ad (shX n)) s.heap s.heap [] := va_S.rf
  obtain ⟨hF, hN, hM, hE, hA, hT⟩ := id hX
  refine lv_iload_n hx hb dX4_past_0 rfl (lv_at hl 2 rfl) ?_
  refine lv_iconst (v := nI 1) hx hb dX4_past_1 (by decide) ?_
  refine lv_sipush (v := nI 4096) hx hb dX4_past_2 (by decide) ?_
  refine pw_cs S 3 (c_X4_isWithin l b (nI 1) (nI 4096)) gX4_past_X4_isWithin rfl rfl rfl (by decide +kernel) ⟨Nat.le_of_ble_eq_true rfl, Nat.le_of_ble_eq_true rfl⟩ rfl hl.1 rfl (Nat.le_of_ble_eq_true rfl) dX4_past_5 ⟨Nat.le_refl _, Nat.le_refl _⟩ ?_
  refine pn_ifne_b (tgt := 13) hx hb dX4_past_8 (by decide) (fun c_8 => ?_) (fun c_8 => ?_)
  · obtain ⟨k, hl_k, hh_k, rfl⟩ := wi_ex (by omega) c_8
    have ix_k : ix (nI k) = k := nI_clamp (by omega)
    refine lv_aload_n hx hb dX4_past_13 rfl (lv_at hl 0 rfl) ?_
    refine pw_get hx hb hts (fun _ h9 => List.mem_cons_of_mem _ (List.mem_append_left _ (List.mem_append_right _ h9))) hown hK hP 0 rfl rfl 1 (by decide) hF.1 rfl (hts (.fieldLink RX4 27 "PastDraws" "chain" "LPastDraws$Chain;") (List.mem_of_getElem? (i := 1) rfl)) dX4_past_14 ?_
    refine lv_iload_n hx hb dX4_past_17 rfl (lv_at hl 1 rfl) ?_
    refine lv_iload_n hx hb dX4_past_18 rfl (lv_at hl 2 rfl) ?_
    refine pw_cvW S hK hP 1 0 rfl rfl 2 (c_X0_leastMeeting l D cy Ad n mm C hI hn hF nx hN a k (by omega)) gX4_past_X0_leastMeeting rfl rfl rfl (by decide +kernel) ⟨Nat.le_of_ble_eq_true rfl, Nat.le_of_ble_eq_true rfl⟩ rfl hl.1 rfl (Nat.le_of_ble_eq_true rfl) dX4_past_19 ⟨Nat.le_refl _, Nat.le_refl _⟩ hS (fun _ h9 => h9) (fun r9 C19 H locs hR hP _ _ hS => ?_)
    obtain ⟨rfl, hR⟩ := hR
    change W p l e _ s m _ below meth c H locs 0 0 _ (F0 m 22 ls [.int (oi (fstT (fun t => mtF (thr nx a t) n) k 1))])
    have hX := XI_B hn.2 hX hR (fun k h => by have h8 : k = 6 ∨ k = 7 := h; unfold scr; omega)
    obtain ⟨hF, hN, hM, hE, hA, hT⟩ := id hX
    rcases ho_22 : fstT (fun t => mtF (thr nx a t) n) k 1 with _ | y_22
    · refine pw_topi (y := (-2)) rfl ?_
      refine lv_istore_n (lv' := [(3, .int (-2)), (0, .ref (Ad 0)), (1, .int a), (2, .int (nI k))]) hx hb dX4_past_22 rfl hl (by decide) rfl (fun ls hl => ?_)
      refine lv_iload_n hx hb dX4_past_23 rfl (lv_at hl 0 rfl) ?_
      refine lv_bipush (v := (-2)) hx hb dX4_past_24 (by decide) ?_
      refine lv_icmp_ne (tgt := 32) hx hb dX4_past_26 (by decide) (fun c_26 => absurd rfl c_26) (fun c_26 => ?_)
      refine lv_bipush (v := (-2)) hx hb dX4_past_29 (by decide) ?_
      refine pw_topi (y := f_past n nx a (nI k)) (by unfold f_past; rw [if_pos c_8, ix_k]; unfold pst; rw [ho_22]; try (first | rfl | (simp only []; rw [if_neg (by omega)]) | (simp only []; rw [if_pos (by omega)]))) ?_
      exact W.iret hx hb hr (fun t ht _ => ⟨⟨_, C19, rfl, ⟨rfl, hX⟩, by rw [ht]; exact hP⟩, hS.F ht⟩) hS.2.2 dX4_past_31
    · have hy_22 : y_22 < 4097 := by have := fstT_lt _ _ _ ho_22; omega
      refine pw_topi (y := nI y_22) rfl ?_
      refine lv_istore_n (lv' := [(3, .int (nI y_22)), (0, .ref (Ad 0)), (1, .int a), (2, .int (nI k))]) hx hb dX4_past_22 rfl hl (by decide) rfl (fun ls hl => ?_)
      refine lv_iload_n hx hb dX4_past_23 rfl (lv_at hl 0 rfl) ?_
      refine lv_bipush (v := (-2)) hx hb dX4_past_24 (by decide) ?_
      refine lv_icmp_ne (tgt := 32) hx hb dX4_past_26 (by decide) (fun c_26 => ?_) (fun c_26 => absurd c_26 (ni_m2 (by omega)))
      refine lv_iload_n hx hb dX4_past_32 rfl (lv_at hl 0 rfl) ?_
      refine pw_cs S 1 (c_X4_powerFrom l y_22 (by omega)) gX4_past_X4_powerFrom rfl rfl rfl (by decide +kernel) ⟨Nat.le_of_ble_eq_true rfl, Nat.le_of_ble_eq_true rfl⟩ rfl hl.1 rfl (Nat.le_of_ble_eq_true rfl) dX4_past_33 ⟨Nat.le_refl _, Nat.le_refl _⟩ ?_
      refine lv_istore (lv' := [(4, .int (nI (pw2 y_22))), (3, .int (nI y_22)), (0, .ref (Ad 0)), (1, .int a), (2, .int (nI k))]) hx hb dX4_past_36 hl (by decide) rfl (fun ls hl => ?_)
      have hp2 := pw2_le (x := y_22) (by omega)
      refine lv_iload hx hb dX4_past_38 (lv_at hl 0 rfl) ?_
      refine lv_iload_n hx hb dX4_past_40 rfl (lv_at hl 4 rfl) ?_
      refine pn_icmp_le (tgt := 49) hx hb (by omega) (by omega) dX4_past_41 (by decide) (fun c_41 => ?_) (fun c_41 => ?_)
      · refine lv_aload_n hx hb dX4_past_49 rfl (lv_at hl 2 rfl) ?_
        refine pw_get hx hb hts (fun _ h9 => List.mem_cons_of_mem _ (List.mem_append_left _ (List.mem_append_right _ h9))) hown hK hP 0 rfl rfl 1 (by decide) hF.1 rfl (hts (.fieldLink RX4 27 "PastDraws" "chain" "LPastDraws$Chain;") (List.mem_of_getElem? (i := 1) rfl)) dX4_past_50 ?_
        refine lv_iload_n hx hb dX4_past_53 rfl (lv_at hl 3 rfl) ?_
        refine lv_iload hx hb dX4_past_54 (lv_at hl 0 rfl) ?_
        refine lv_iconst (v := nI 0) hx hb dX4_past_56 (by decide) ?_
        refine pw_cv S hK hP 1 0 rfl rfl 3 (c_X0_throughPast l D cy Ad n mm C19 hn hF nx hN a (pw2 y_22) 0 (by omega) (by omega)) gX4_past_X0_throughPast rfl rfl rfl (by decide +kernel) ⟨Nat.le_of_ble_eq_true rfl, Nat.le_of_ble_eq_true rfl⟩ rfl hl.1 rfl (Nat.le_of_ble_eq_true rfl) dX4_past_57 ⟨Nat.le_refl _, Nat.le_refl _⟩ ?_
        refine pw_topi (y := f_past n nx a (nI k)) (by unfold f_past; rw [if_pos c_8, ix_k]; unfold pst; rw [ho_22]; try (first | rfl | (simp only []; rw [if_neg (by omega)]) | (simp only []; rw [if_pos (by omega)]))) ?_
        exact W.iret hx hb hr (fun t ht _ => ⟨⟨_, C19, rfl, ⟨rfl, hX⟩, by rw [ht]; exact hP⟩, hS.F ht⟩) hS.2.2 dX4_past_60
      · refine lv_bipush (v := (-2)) hx hb dX4_past_44 (by decide) ?_
        refine lv_goto (tgt := 60) hx hb dX4_past_46 (by decide) ?_
        refine pw_topi (y := f_past n nx a (nI k)) (by unfold f_past; rw [if_pos c_8, ix_k]; unfold pst; rw [ho_22]; try (first | rfl | (simp only []; rw [if_neg (by omega)]) | (simp only []; rw [if_pos (by omega)]))) ?_
        exact W.iret hx hb hr (fun t ht _ => ⟨⟨_, C19, rfl, ⟨rfl, hX⟩, by rw [ht]; exact hP⟩, hS.F ht⟩) hS.2.2 dX4_past_60
  · refine lv_iconst (v := (-1)) hx hb dX4_past_11 (by decide) ?_
    refine pw_topi (y := f_past n nx a b) (by unfold f_past; simp [c_8]) ?_
    exact W.iret hx hb hr (fun t ht _ => ⟨⟨_, C, rfl, ⟨rfl, hX⟩, by rw [ht]; exact hP⟩, hS.F ht⟩) hS.2.2 dX4_past_12

set_option maxHeartbeats 4000000 in
set_option maxRecDepth 100000 in
theorem c_X4_bounding (l : Launch) (D : va_G) (cy : Nat → ClassId) (Ad : Nat → Nat) (n mm : Nat) (C : pw_C) (hI : pw_I Ad (shX n)) (hn : 1 ≤ n ∧ n ≤ 12) (hmm : 1 ≤ mm ∧ mm ≤ 16) (nx : Nat → Nat → Nat) (mx : Nat → Nat → Option Nat) (en : Nat → Bool) (am wt : Nat → Nat) (hX : XI n mm nx mx en am wt Ad C) (a b : Int32) : Met l yX4_bounding wsX4_bounding (k2_rm 4 95) (pw_Pre ([.ref (Ad 0), .int a, .int b]) D cy Ad (shX n) C) (k2_QcV (.int (f_bounding n nx a b))) 0 0 (fun _ => False) := by
  refine Met.ofW (cc := cX4_bounding) (maxL := 3) (ret := (some .int)) (by decide) rfl ?_
  intro p e s m args below meth c s₁ B hml hv
  obtain ⟨rfl, hP, hK⟩ := hv
  have hx := B.exec
  have hb := B.bytes
  have hr := B.returns
  have hts := atoms_spec (ws := wsX4_bounding) B.pre
  have hown : s.vm.findClass RX4 = some m.cls := findClass_of_methodNamed B.named
  have hlocks := B.notSynchronized
  have S : CallFix p m c cX4_bounding 3 s ([.ref (Ad 0), .int a, .int b]).toArray wsX4_bounding RX4 := ⟨hx, hb, hml, hown, hts⟩
  change W p l e (k2_rm 4 95) s m _ below meth c s.heap [] 0 0 _ _
  have hl := lv_entry ([.ref (Ad 0), .int a, .int b]) (n := 3) (Nat.le_of_ble_eq_true rfl)
  rw [lg_entry_eq]
  obtain ⟨hF, hN, hM, hE, hA, hT⟩ := id hX
  generalize (lg_sl ([.ref (Ad 0), .int a, .int b]) ++ List.replicate (3 - (lg_sl ([.ref (Ad 0), .int a, .int b])).length) Slot.unset).toArray = ls at hl ⊢
  have hl : lv_has ls 3 [(0, .ref (Ad 0)), (1, .int a), (2, .int b)] := hl
  refine lv_iload_n hx hb dX4_bounding_0 rfl (lv_at hl 2 rfl) ?_
  refine lv_iconst (v := nI 1) hx hb dX4_bounding_1 (by decide) ?_
  refine lv_bipush (v := nI 64) hx hb dX4_bounding_2 (by decide) ?_
  refine pw_cs S 3 (c_X4_isWithin l b (nI 1) (nI 64)) gX4_bounding_X4_isWithin rfl rfl rfl (by decide +kernel) ⟨Nat.le_of_ble_eq_true rfl, Nat.le_of_ble_eq_true rfl⟩ rfl hl.1 rfl (Nat.le_of_ble_eq_true rfl) dX4_bounding_4 ⟨Nat.le_refl _, Nat.le_refl _⟩ ?_
  refine pn_ifne_b (tgt := 12) hx hb dX4_bounding_7 (by decide) (fun c_7 => ?_) (fun c_7 => ?_)
  · obtain ⟨k, hl_k, hh_k, rfl⟩ := wi_ex (by omega) c_7
    have ix_k : ix (nI k) = k := nI_clamp (by omega)
    refine lv_aload_n hx hb dX4_bounding_12 rfl (lv_at hl 0 rfl) ?_
    refine pw_get hx hb hts (fun _ h9 => List.mem_cons_of_mem _ (List.mem_append_left _ (List.mem_append_right _ h9))) hown hK hP 0 rfl rfl 1 (by decide) hF.1 rfl (hts (.fieldLink RX4 27 "PastDraws" "chain" "LPastDraws$Chain;") (List.mem_of_getElem? (i := 1) rfl)) dX4_bounding_13 ?_
    refine lv_iload_n hx hb dX4_bounding_16 rfl (lv_at hl 1 rfl) ?_
    refine lv_iload_n hx hb dX4_bounding_17 rfl (lv_at hl 2 rfl) ?_
    refine pw_cv S hK hP 1 0 rfl rfl 2 (c_X0_leastBounded l D cy Ad n mm C hn hF nx hN a k (by omega)) gX4_bounding_X0_leastBounded rfl rfl rfl (by decide +kernel) ⟨Nat.le_of_ble_eq_true rfl, Nat.le_of_ble_eq_true rfl⟩ rfl hl.1 rfl (Nat.le_of_ble_eq_true rfl) dX4_bounding_18 ⟨Nat.le_refl _, Nat.le_refl _⟩ ?_
    refine pw_topi (y := f_bounding n nx a (nI k)) (by unfold f_bounding; first | simp [c_7, ix_k] | simp [c_7]) ?_
    exact W.iret hx hb hr (fun t ht _ => ⟨rfl, ht⟩) (fun q h => by cases h) dX4_bounding_21
  · refine lv_iconst (v := (-1)) hx hb dX4_bounding_10 (by decide) ?_
    refine pw_topi (y := f_bounding n nx a b) (by unfold f_bounding; first | simp [c_7, ix_k] | simp [c_7]) ?_
    exact W.iret hx hb hr (fun t ht _ => ⟨rfl, ht⟩) (fun q h => by cases h) dX4_bounding_11

set_option maxHeartbeats 4000000 in
set_option maxRecDepth 100000 in
theorem c_X4_monotone (l : Launch) (D : va_G) (cy : Nat → ClassId) (Ad : Nat → Nat) (n mm : Nat) (C : pw_C) (hI : pw_I Ad (shX n)) (hn : 1 ≤ n ∧ n ≤ 12) (hmm : 1 ≤ mm ∧ mm ≤ 16) (nx : Nat → Nat → Nat) (mx : Nat → Nat → Option Nat) (en : Nat → Bool) (am wt : Nat → Nat) (hX : XI n mm nx mx en am wt Ad C)  : Met l yX4_monotone wsX4_monotone (k2_rm 1 22) (pw_Pre ([.ref (Ad 0)]) D cy Ad (shX n) C) (k2_QcV (.int (pb (ko n nx)))) 0 0 (fun _ => False) := by
  refine Met.ofW (cc := cX4_monotone) (maxL := 1) (ret := (some .int)) (by decide) rfl ?_
  intro p e s m args below meth c s₁ B hml hv
  obtain ⟨rfl, hP, hK⟩ := hv
  have hx := B.exec
  have hb := B.bytes
  have hr := B.returns
  have hts := atoms_spec (ws := wsX4_monotone) B.pre
  have hown : s.vm.findClass RX4 = some m.cls := findClass_of_methodNamed B.named
  have hlocks := B.notSynchronized
  have S : CallFix p m c cX4_monotone 1 s ([.ref (Ad 0)]).toArray wsX4_monotone RX4 := ⟨hx, hb, hml, hown, hts⟩
  change W p l e (k2_rm 1 22) s m _ below meth c s.heap [] 0 0 _ _
  have hl := lv_entry ([.ref (Ad 0)]) (n := 1) (Nat.le_of_ble_eq_true rfl)
  rw [lg_entry_eq]
  obtain ⟨hF, hN, hM, hE, hA, hT⟩ := id hX
  generalize (lg_sl ([.ref (Ad 0)]) ++ List.replicate (1 - (lg_sl ([.ref (Ad 0)])).length) Slot.unset).toArray = ls at hl ⊢
  have hl : lv_has ls 1 [(0, .ref (Ad 0))] := hl
  refine lv_aload_n hx hb dX4_monotone_0 rfl (lv_at hl 0 rfl) ?_
  refine pw_get hx hb hts (fun _ h9 => List.mem_cons_of_mem _ (List.mem_append_left _ (List.mem_append_right _ h9))) hown hK hP 0 rfl rfl 1 (by decide) hF.1 rfl (hts (.fieldLink RX4 27 "PastDraws" "chain" "LPastDraws$Chain;") (List.mem_of_getElem? (i := 1) rfl)) dX4_monotone_1 ?_
  refine pw_cv S hK hP 1 0 rfl rfl 0 (c_X0_keepsOrder l D cy Ad n mm C hn hF nx hN) gX4_monotone_X0_keepsOrder rfl rfl rfl (by decide +kernel) ⟨Nat.le_of_ble_eq_true rfl, Nat.le_of_ble_eq_true rfl⟩ rfl hl.1 rfl (Nat.le_of_ble_eq_true rfl) dX4_monotone_4 ⟨Nat.le_refl _, Nat.le_refl _⟩ ?_
  refine pn_ifeq_b (tgt := 14) hx hb dX4_monotone_7 (by decide) (fun c_7 => ?_) (fun c_7 => ?_)
  · refine lv_iconst (v := nI 0) hx hb dX4_monotone_14 (by decide) ?_
    refine pw_topi (y := pb (ko n nx)) (by rw [c_7]; rfl) ?_
    exact W.iret hx hb hr (fun t ht _ => ⟨rfl, ht⟩) (fun q h => by cases h) dX4_monotone_15
  · refine lv_iconst (v := nI 1) hx hb dX4_monotone_10 (by decide) ?_
    refine lv_goto (tgt := 15) hx hb dX4_monotone_11 (by decide) ?_
    refine pw_topi (y := pb (ko n nx)) (by rw [c_7]; rfl) ?_
    exact W.iret hx hb hr (fun t ht _ => ⟨rfl, ht⟩) (fun q h => by cases h) dX4_monotone_15

set_option maxHeartbeats 4000000 in
set_option maxRecDepth 100000 in
theorem c_X4_counted (l : Launch) (D : va_G) (cy : Nat → ClassId) (Ad : Nat → Nat) (n mm : Nat) (C : pw_C) (hI : pw_I Ad (shX n)) (hn : 1 ≤ n ∧ n ≤ 12) (hmm : 1 ≤ mm ∧ mm ≤ 16) (nx : Nat → Nat → Nat) (mx : Nat → Nat → Option Nat) (en : Nat → Bool) (am wt : Nat → Nat) (hX : XI n mm nx mx en am wt Ad C) (a b : Int32) : Met l yX4_counted wsX4_counted (k2_rm 3 106) (pw_Pre ([.ref (Ad 0), .int a, .int b]) D cy Ad (shX n) C) (pw_Post (fun r9 C' => r9 = some (.int (f_counted n nx a b)) ∧ (XI n mm nx mx en am wt Ad C')) D cy Ad (shX n)) 0 0 (pw_fr Ad (shX n)) := by
  refine Met.ofW (cc := cX4_counted) (maxL := 3) (ret := (some .int)) (by decide) rfl ?_
  intro p e s m args below meth c s₁ B hml hv
  obtain ⟨rfl, hP, hK⟩ := hv
  have hx := B.exec
  have hb := B.bytes
  have hr := B.returns
  have hts := atoms_spec (ws := wsX4_counted) B.pre
  have hown : s.vm.findClass RX4 = some m.cls := findClass_of_methodNamed B.named
  have hlocks := B.notSynchronized
  have S : CallFix p m c cX4_counted 3 s ([.ref (Ad 0), .int a, .int b]).toArray wsX4_counted RX4 := ⟨hx, hb, hml, hown, hts⟩
  change W p l e (k2_rm 3 106) s m _ below meth c s.heap [] 0 0 _ _
  have hl := lv_entry ([.ref (Ad 0), .int a, .int b]) (n := 3) (Nat.le_of_ble_eq_true rfl)
  rw [lg_entry_eq]
  generalize (lg_sl ([.ref (Ad 0), .int a, .int b]) ++ List.replicate (3 - (lg_sl ([.ref (Ad 0), .int a, .int b])).length) Slot.unset).toArray = ls at hl ⊢
  have hl : lv_has ls 3 [(0, .ref (Ad 0)), (1, .int a), (2, .int b)] := hl
  have hS : va_S (pw_fr Ad (shX n)) s.heap s.heap [] := va_S.rf
  obtain ⟨hF, hN, hM, hE, hA, hT⟩ := id hX
  refine lv_iload_n hx hb dX4_counted_0 rfl (lv_at hl 1 rfl) ?_
  refine lv_iconst (v := nI 1) hx hb dX4_counted_1 (by decide) ?_
  refine lv_iconst (v := nI 5) hx hb dX4_counted_2 (by decide) ?_
  refine pw_cs S 3 (c_X4_isWithin l a (nI 1) (nI 5)) gX4_counted_X4_isWithin rfl rfl rfl (by decide +kernel) ⟨Nat.le_of_ble_eq_true rfl, Nat.le_of_ble_eq_true rfl⟩ rfl hl.1 rfl (Nat.le_of_ble_eq_true rfl) dX4_counted_3 ⟨Nat.le_refl _, Nat.le_refl _⟩ ?_
  refine pn_ifeq_b (tgt := 23) hx hb dX4_counted_6 (by decide) (fun c_6 => ?_) (fun c_6 => ?_)
  · refine lv_iconst (v := (-1)) hx hb dX4_counted_23 (by decide) ?_
    refine pw_topi (y := f_counted n nx a b) (by unfold f_counted; first | simp [c_6, c_20] | simp [c_6]) ?_
    exact W.iret hx hb hr (fun t ht _ => ⟨⟨_, C, rfl, ⟨rfl, hX⟩, by rw [ht]; exact hP⟩, hS.F ht⟩) hS.2.2 dX4_counted_24
  · refine lv_iload_n hx hb dX4_counted_9 rfl (lv_at hl 2 rfl) ?_
    refine lv_iconst (v := (-1)) hx hb dX4_counted_10 (by decide) ?_
    refine lv_aload_n hx hb dX4_counted_11 rfl (lv_at hl 0 rfl) ?_
    refine pw_get hx hb hts (fun _ h9 => List.mem_cons_of_mem _ (List.mem_append_left _ (List.mem_append_right _ h9))) hown hK hP 0 rfl rfl 0 (by decide) hF.1 rfl (hts (.fieldLink RX4 18 "PastDraws" "stateCount" "I") (List.mem_of_getElem? (i := 1) rfl)) dX4_counted_12 ?_
    refine lv_iconst (v := nI 1) hx hb dX4_counted_15 (by decide) ?_
    refine lv_isub hx hb dX4_counted_16 ?_
    refine pw_topi (pk_sub (by omega)) ?_
    refine pw_cs S 3 (c_X4_isWithin l b (-1) (nI (n - 1))) gX4_counted_X4_isWithin rfl rfl rfl (by decide +kernel) ⟨Nat.le_of_ble_eq_true rfl, Nat.le_of_ble_eq_true rfl⟩ rfl hl.1 rfl (Nat.le_of_ble_eq_true rfl) dX4_counted_17 ⟨Nat.le_refl _, Nat.le_refl _⟩ ?_
    refine pn_ifne_b (tgt := 25) hx hb dX4_counted_20 (by decide) (fun c_20 => ?_) (fun c_20 => ?_)
    · obtain ⟨t, hl_t, hh_t, rfl⟩ := wi_ex (by omega) c_6
      have ix_t : ix (nI t) = t := nI_clamp (by omega)
      rcases wi_m1 (by omega) c_20 with rfl | ⟨x, hx9, rfl⟩
      · skip
        refine lv_aload_n hx hb dX4_counted_25 rfl (lv_at hl 0 rfl) ?_
        refine pw_get hx hb hts (fun _ h9 => List.mem_cons_of_mem _ (List.mem_append_left _ (List.mem_append_right _ h9))) hown hK hP 0 rfl rfl 1 (by decide) hF.1 rfl (hts (.fieldLink RX4 27 "PastDraws" "chain" "LPastDraws$Chain;") (List.mem_of_getElem? (i := 2) rfl)) dX4_counted_26 ?_
        refine lv_iload_n hx hb dX4_counted_29 rfl (lv_at hl 1 rfl) ?_
        refine lv_iload_n hx hb dX4_counted_30 rfl (lv_at hl 2 rfl) ?_
        refine pw_cvW S hK hP 1 0 rfl rfl 2 (c_X0_rowsMeeting_m l D cy Ad n mm C hI hn hF nx hN t (by omega)) gX4_counted_X0_rowsMeeting rfl rfl rfl (by decide +kernel) ⟨Nat.le_of_ble_eq_true rfl, Nat.le_of_ble_eq_true rfl⟩ rfl hl.1 rfl (Nat.le_of_ble_eq_true rfl) dX4_counted_31 ⟨Nat.le_refl _, Nat.le_refl _⟩ hS (fun _ h9 => h9) (fun r9 C31 H locs hR hP _ _ hS => ?_)
        obtain ⟨rfl, hR⟩ := hR
        change W p l e _ s m _ below meth c H locs 0 0 _ (F0 m 34 ls [.int (apF (rws nx n t) (2 ^ n - 1))])
        have hX := XI_B hn.2 hX hR (fun k h => by have h8 : k = 8 ∨ k = 9 := h; unfold scr; omega)
        refine pw_topi (y := f_counted n nx (nI t) (-1)) (by unfold f_counted; rw [if_pos (by rw [c_6, c_20]; rfl), if_pos rfl, ix_t]) ?_
        exact W.iret hx hb hr (fun t ht _ => ⟨⟨_, C31, rfl, ⟨rfl, hX⟩, by rw [ht]; exact hP⟩, hS.F ht⟩) hS.2.2 dX4_counted_34
      · have ix_x : ix (nI x) = x := nI_clamp (by omega)
        refine lv_aload_n hx hb dX4_counted_25 rfl (lv_at hl 0 rfl) ?_
        refine pw_get hx hb hts (fun _ h9 => List.mem_cons_of_mem _ (List.mem_append_left _ (List.mem_append_right _ h9))) hown hK hP 0 rfl rfl 1 (by decide) hF.1 rfl (hts (.fieldLink RX4 27 "PastDraws" "chain" "LPastDraws$Chain;") (List.mem_of_getElem? (i := 2) rfl)) dX4_counted_26 ?_
        refine lv_iload_n hx hb dX4_counted_29 rfl (lv_at hl 1 rfl) ?_
        refine lv_iload_n hx hb dX4_counted_30 rfl (lv_at hl 2 rfl) ?_
        refine pw_cvW S hK hP 1 0 rfl rfl 2 (c_X0_rowsMeeting l D cy Ad n mm C hI hn hF nx hN t (by omega) x (by omega)) gX4_counted_X0_rowsMeeting rfl rfl rfl (by decide +kernel) ⟨Nat.le_of_ble_eq_true rfl, Nat.le_of_ble_eq_true rfl⟩ rfl hl.1 rfl (Nat.le_of_ble_eq_true rfl) dX4_counted_31 ⟨Nat.le_refl _, Nat.le_refl _⟩ hS (fun _ h9 => h9) (fun r9 C31 H locs hR hP _ _ hS => ?_)
        obtain ⟨rfl, hR⟩ := hR
        change W p l e _ s m _ below meth c H locs 0 0 _ (F0 m 34 ls [.int (rws nx n t (2 ^ x))])
        have hX := XI_B hn.2 hX hR (fun k h => by have h8 : k = 8 ∨ k = 9 := h; unfold scr; omega)
        refine pw_topi (y := f_counted n nx (nI t) (nI x)) (by unfold f_counted; rw [if_pos (by rw [c_6, c_20]; rfl), if_neg (ni_m1 (by omega)), ix_t, ix_x]) ?_
        exact W.iret hx hb hr (fun t ht _ => ⟨⟨_, C31, rfl, ⟨rfl, hX⟩, by rw [ht]; exact hP⟩, hS.F ht⟩) hS.2.2 dX4_counted_34
    · refine lv_iconst (v := (-1)) hx hb dX4_counted_23 (by decide) ?_
      refine pw_topi (y := f_counted n nx a b) (by unfold f_counted; first | simp [c_6, c_20] | simp [c_6]) ?_
      exact W.iret hx hb hr (fun t ht _ => ⟨⟨_, C, rfl, ⟨rfl, hX⟩, by rw [ht]; exact hP⟩, hS.F ht⟩) hS.2.2 dX4_counted_24

set_option maxHeartbeats 4000000 in
set_option maxRecDepth 100000 in
theorem c_X4_trees (l : Launch) (D : va_G) (cy : Nat → ClassId) (Ad : Nat → Nat) (n mm : Nat) (C : pw_C) (hI : pw_I Ad (shX n)) (hn : 1 ≤ n ∧ n ≤ 12) (hmm : 1 ≤ mm ∧ mm ≤ 16) (nx : Nat → Nat → Nat) (mx : Nat → Nat → Option Nat) (en : Nat → Bool) (am wt : Nat → Nat) (hX : XI n mm nx mx en am wt Ad C) (a : Int32) : Met l yX4_trees wsX4_trees (k2_rm 4 95) (pw_Pre ([.ref (Ad 0), .int a]) D cy Ad (shX n) C) (pw_Post (fun r9 C' => r9 = some (.long (f_trees n nx a)) ∧ (XI n mm nx mx en am wt Ad C')) D cy Ad (shX n)) 0 0 (pw_fr Ad (shX n)) := by
  refine Met.ofW (cc := cX4_trees) (maxL := 2) (ret := (some .long)) (by decide) rfl ?_
  intro p e s m args below meth c s₁ B hml hv
  obtain ⟨rfl, hP, hK⟩ := hv
  have hx := B.exec
  have hb := B.bytes
  have hr := B.returns
  have hts := atoms_spec (ws := wsX4_trees) B.pre
  have hown : s.vm.findClass RX4 = some m.cls := findClass_of_methodNamed B.named
  have hlocks := B.notSynchronized
  have S : CallFix p m c cX4_trees 2 s ([.ref (Ad 0), .int a]).toArray wsX4_trees RX4 := ⟨hx, hb, hml, hown, hts⟩
  change W p l e (k2_rm 4 95) s m _ below meth c s.heap [] 0 0 _ _
  have hl := lv_entry ([.ref (Ad 0), .int a]) (n := 2) (Nat.le_of_ble_eq_true rfl)
  rw [lg_entry_eq]
  generalize (lg_sl ([.ref (Ad 0), .int a]) ++ List.replicate (2 - (lg_sl ([.ref (Ad 0), .int a])).length) Slot.unset).toArray = ls at hl ⊢
  have hl : lv_has ls 2 [(0, .ref (Ad 0)), (1, .int a)] := hl
  have hS : va_S (pw_fr Ad (shX n)) s.heap s.heap [] := va_S.rf
  obtain ⟨hF, hN, hM, hE, hA, hT⟩ := id hX
  refine lv_iload_n hx hb dX4_trees_0 rfl (lv_at hl 1 rfl) ?_
  refine lv_iconst (v := (-1)) hx hb dX4_trees_1 (by decide) ?_
  refine lv_aload_n hx hb dX4_trees_2 rfl (lv_at hl 0 rfl) ?_
  refine pw_get hx hb hts (fun _ h9 => List.mem_cons_of_mem _ (List.mem_append_left _ (List.mem_append_right _ h9))) hown hK hP 0 rfl rfl 0 (by decide) hF.1 rfl (hts (.fieldLink RX4 18 "PastDraws" "stateCount" "I") (List.mem_of_getElem? (i := 1) rfl)) dX4_trees_3 ?_
  refine lv_iconst (v := nI 1) hx hb dX4_trees_6 (by decide) ?_
  refine lv_isub hx hb dX4_trees_7 ?_
  refine pw_topi (pk_sub (by omega)) ?_
  refine pw_cs S 3 (c_X4_isWithin l a (-1) (nI (n - 1))) gX4_trees_X4_isWithin rfl rfl rfl (by decide +kernel) ⟨Nat.le_of_ble_eq_true rfl, Nat.le_of_ble_eq_true rfl⟩ rfl hl.1 rfl (Nat.le_of_ble_eq_true rfl) dX4_trees_8 ⟨Nat.le_refl _, Nat.le_refl _⟩ ?_
  refine pn_ifne_b (tgt := 18) hx hb dX4_trees_11 (by decide) (fun c_11 => ?_) (fun c_11 => ?_)
  · rcases wi_m1 (by omega) c_11 with rfl | ⟨x, hx9, rfl⟩
    · skip
      refine lv_iload_n hx hb dX4_trees_18 rfl (lv_at hl 1 rfl) ?_
      refine lv_iconst (v := (-1)) hx hb dX4_trees_19 (by decide) ?_
      refine lv_icmp_ne (tgt := 33) hx hb dX4_trees_20 (by decide) (fun c_20 => absurd rfl c_20) (fun c_20 => ?_)
      refine lv_aload_n hx hb dX4_trees_23 rfl (lv_at hl 0 rfl) ?_
      refine pw_get hx hb hts (fun _ h9 => List.mem_cons_of_mem _ (List.mem_append_left _ (List.mem_append_right _ h9))) hown hK hP 0 rfl rfl 1 (by decide) hF.1 rfl (hts (.fieldLink RX4 27 "PastDraws" "chain" "LPastDraws$Chain;") (List.mem_of_getElem? (i := 3) rfl)) dX4_trees_24 ?_
      refine pw_cvW S hK hP 1 0 rfl rfl 0 (c_X0_allTrees l D cy Ad n mm C hI hn hF nx hN) gX4_trees_X0_allTrees rfl rfl rfl (by decide +kernel) ⟨Nat.le_of_ble_eq_true rfl, Nat.le_of_ble_eq_true rfl⟩ rfl hl.1 rfl (Nat.le_of_ble_eq_true rfl) dX4_trees_27 ⟨Nat.le_refl _, Nat.le_refl _⟩ hS (fun _ h9 => h9) (fun r9 C27 H locs hR hP _ _ hS => ?_)
      obtain ⟨rfl, hR⟩ := hR
      change W p l e _ s m _ below meth c H locs 0 0 _ (F0 m 30 ls [.long (trS nx n n)])
      have hX := XI_B hn.2 hX hR (fun k h => by have h8 : 29 ≤ k ∧ k < 41 := h; unfold scr; omega)
      refine lv_goto (tgt := 41) hx hb dX4_trees_30 (by decide) ?_
      refine pw_topl (y := f_trees n nx (-1)) (by unfold f_trees; rw [if_pos c_11, if_pos rfl]) ?_
      exact W.lret hx hb hr (fun t ht _ => ⟨⟨_, C27, rfl, ⟨rfl, hX⟩, by rw [ht]; exact hP⟩, hS.F ht⟩) hS.2.2 dX4_trees_41
    · have ix_x : ix (nI x) = x := nI_clamp (by omega)
      refine lv_iload_n hx hb dX4_trees_18 rfl (lv_at hl 1 rfl) ?_
      refine lv_iconst (v := (-1)) hx hb dX4_trees_19 (by decide) ?_
      refine lv_icmp_ne (tgt := 33) hx hb dX4_trees_20 (by decide) (fun c_20 => ?_) (fun c_20 => absurd c_20 (ni_m1 (by omega)))
      refine lv_aload_n hx hb dX4_trees_33 rfl (lv_at hl 0 rfl) ?_
      refine pw_get hx hb hts (fun _ h9 => List.mem_cons_of_mem _ (List.mem_append_left _ (List.mem_append_right _ h9))) hown hK hP 0 rfl rfl 1 (by decide) hF.1 rfl (hts (.fieldLink RX4 27 "PastDraws" "chain" "LPastDraws$Chain;") (List.mem_of_getElem? (i := 3) rfl)) dX4_trees_34 ?_
      refine lv_iload_n hx hb dX4_trees_37 rfl (lv_at hl 1 rfl) ?_
      refine pw_cvW S hK hP 1 0 rfl rfl 1 (c_X0_treesTo l D cy Ad n mm C hI hn hF nx hN x (by omega)) gX4_trees_X0_treesTo rfl rfl rfl (by decide +kernel) ⟨Nat.le_of_ble_eq_true rfl, Nat.le_of_ble_eq_true rfl⟩ rfl hl.1 rfl (Nat.le_of_ble_eq_true rfl) dX4_trees_38 ⟨Nat.le_refl _, Nat.le_refl _⟩ hS (fun _ h9 => h9) (fun r9 C38 H locs hR hP _ _ hS => ?_)
      obtain ⟨rfl, hR⟩ := hR
      change W p l e _ s m _ below meth c H locs 0 0 _ (F0 m 41 ls [.long (trF nx n x)])
      have hX := XI_B hn.2 hX hR (fun k h => by have h8 : 29 ≤ k ∧ k < 41 := h; unfold scr; omega)
      refine pw_topl (y := f_trees n nx (nI x)) (by unfold f_trees; rw [if_pos c_11, if_neg (ni_m1 (by omega)), ix_x]) ?_
      exact W.lret hx hb hr (fun t ht _ => ⟨⟨_, C38, rfl, ⟨rfl, hX⟩, by rw [ht]; exact hP⟩, hS.F ht⟩) hS.2.2 dX4_trees_41
  · refine lv_ldc2 hx hb hown (hts (.constantLong RX4 59 (-1)) (List.mem_of_getElem? (i := 2) rfl)) dX4_trees_14 ?_
    refine pw_topl (y := f_trees n nx a) (by unfold f_trees; simp [c_11]) ?_
    exact W.lret hx hb hr (fun t ht _ => ⟨⟨_, C, rfl, ⟨rfl, hX⟩, by rw [ht]; exact hP⟩, hS.F ht⟩) hS.2.2 dX4_trees_17

set_option maxHeartbeats 4000000 in
set_option maxRecDepth 100000 in
theorem c_X4_once (l : Launch) (D : va_G) (cy : Nat → ClassId) (Ad : Nat → Nat) (n mm : Nat) (C : pw_C) (hI : pw_I Ad (shX n)) (hn : 1 ≤ n ∧ n ≤ 12) (hmm : 1 ≤ mm ∧ mm ≤ 16) (nx : Nat → Nat → Nat) (mx : Nat → Nat → Option Nat) (en : Nat → Bool) (am wt : Nat → Nat) (hX : XI n mm nx mx en am wt Ad C) (a b d : Int32) : Met l yX4_once wsX4_once (k2_rm 4 98) (pw_Pre ([.ref (Ad 0), .int a, .int b, .int d]) D cy Ad (shX n) C) (k2_QcV (.int (f_once n nx a b d))) 0 0 (fun _ => False) := by
  refine Met.ofW (cc := cX4_once) (maxL := 4) (ret := (some .int)) (by decide) rfl ?_
  intro p e s m args below meth c s₁ B hml hv
  obtain ⟨rfl, hP, hK⟩ := hv
  have hx := B.exec
  have hb := B.bytes
  have hr := B.returns
  have hts := atoms_spec (ws := wsX4_once) B.pre
  have hown : s.vm.findClass RX4 = some m.cls := findClass_of_methodNamed B.named
  have hlocks := B.notSynchronized
  have S : CallFix p m c cX4_once 4 s ([.ref (Ad 0), .int a, .int b, .int d]).toArray wsX4_once RX4 := ⟨hx, hb, hml, hown, hts⟩
  change W p l e (k2_rm 4 98) s m _ below meth c s.heap [] 0 0 _ _
  have hl := lv_entry ([.ref (Ad 0), .int a, .int b, .int d]) (n := 4) (Nat.le_of_ble_eq_true rfl)
  rw [lg_entry_eq]
  obtain ⟨hF, hN, hM, hE, hA, hT⟩ := id hX
  generalize (lg_sl ([.ref (Ad 0), .int a, .int b, .int d]) ++ List.replicate (4 - (lg_sl ([.ref (Ad 0), .int a, .int b, .int d])).length) Slot.unset).toArray = ls at hl ⊢
  have hl : lv_has ls 4 [(0, .ref (Ad 0)), (1, .int a), (2, .int b), (3, .int d)] := hl
  refine lv_iload_n hx hb dX4_once_0 rfl (lv_at hl 2 rfl) ?_
  refine lv_iconst (v := nI 1) hx hb dX4_once_1 (by decide) ?_
  refine lv_bipush (v := nI 64) hx hb dX4_once_2 (by decide) ?_
  refine pw_cs S 3 (c_X4_isWithin l b (nI 1) (nI 64)) gX4_once_X4_isWithin rfl rfl rfl (by decide +kernel) ⟨Nat.le_of_ble_eq_true rfl, Nat.le_of_ble_eq_true rfl⟩ rfl hl.1 rfl (Nat.le_of_ble_eq_true rfl) dX4_once_4 ⟨Nat.le_refl _, Nat.le_refl _⟩ ?_
  refine pn_ifeq_b (tgt := 20) hx hb dX4_once_7 (by decide) (fun c_7 => ?_) (fun c_7 => ?_)
  · refine lv_iconst (v := (-1)) hx hb dX4_once_20 (by decide) ?_
    refine pw_topi (y := f_once n nx a b d) (by unfold f_once; first | simp [c_7, c_17, ix_t, ix_k] | simp [c_7, c_17] | simp [c_7]) ?_
    exact W.iret hx hb hr (fun t ht _ => ⟨rfl, ht⟩) (fun q h => by cases h) dX4_once_21
  · refine lv_iload_n hx hb dX4_once_10 rfl (lv_at hl 3 rfl) ?_
    refine lv_iconst (v := nI 0) hx hb dX4_once_11 (by decide) ?_
    refine lv_bipush (v := nI 99) hx hb dX4_once_12 (by decide) ?_
    refine pw_cs S 3 (c_X4_isWithin l d (nI 0) (nI 99)) gX4_once_X4_isWithin rfl rfl rfl (by decide +kernel) ⟨Nat.le_of_ble_eq_true rfl, Nat.le_of_ble_eq_true rfl⟩ rfl hl.1 rfl (Nat.le_of_ble_eq_true rfl) dX4_once_14 ⟨Nat.le_refl _, Nat.le_refl _⟩ ?_
    refine pn_ifne_b (tgt := 22) hx hb dX4_once_17 (by decide) (fun c_17 => ?_) (fun c_17 => ?_)
    · obtain ⟨t, hl_t, hh_t, rfl⟩ := wi_ex (by omega) c_7
      obtain ⟨k, hl_k, hh_k, rfl⟩ := wi_ex (by omega) c_17
      have ix_t : ix (nI t) = t := nI_clamp (by omega)
      have ix_k : ix (nI k) = k := nI_clamp (by omega)
      refine lv_aload_n hx hb dX4_once_22 rfl (lv_at hl 0 rfl) ?_
      refine pw_get hx hb hts (fun _ h9 => List.mem_cons_of_mem _ (List.mem_append_left _ (List.mem_append_right _ h9))) hown hK hP 0 rfl rfl 1 (by decide) hF.1 rfl (hts (.fieldLink RX4 27 "PastDraws" "chain" "LPastDraws$Chain;") (List.mem_of_getElem? (i := 1) rfl)) dX4_once_23 ?_
      refine lv_iload_n hx hb dX4_once_26 rfl (lv_at hl 1 rfl) ?_
      refine lv_iload_n hx hb dX4_once_27 rfl (lv_at hl 2 rfl) ?_
      refine lv_iload_n hx hb dX4_once_28 rfl (lv_at hl 3 rfl) ?_
      refine pw_cv S hK hP 1 0 rfl rfl 3 (c_X0_drawOf l D cy Ad n mm C hn hF nx hN a t k (by omega) (by omega)) gX4_once_X0_drawOf rfl rfl rfl (by decide +kernel) ⟨Nat.le_of_ble_eq_true rfl, Nat.le_of_ble_eq_true rfl⟩ rfl hl.1 rfl (Nat.le_of_ble_eq_true rfl) dX4_once_29 ⟨Nat.le_refl _, Nat.le_refl _⟩ ?_
      refine pw_topi (y := f_once n nx a (nI t) (nI k)) (by unfold f_once; first | simp [c_7, c_17, ix_t, ix_k] | simp [c_7, c_17] | simp [c_7]) ?_
      exact W.iret hx hb hr (fun t ht _ => ⟨rfl, ht⟩) (fun q h => by cases h) dX4_once_32
    · refine lv_iconst (v := (-1)) hx hb dX4_once_20 (by decide) ?_
      refine pw_topi (y := f_once n nx a b d) (by unfold f_once; first | simp [c_7, c_17, ix_t, ix_k] | simp [c_7, c_17] | simp [c_7]) ?_
      exact W.iret hx hb hr (fun t ht _ => ⟨rfl, ht⟩) (fun q h => by cases h) dX4_once_21
