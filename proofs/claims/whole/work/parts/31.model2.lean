def mM (n : Nat) (mx : Nat → Nat → Option Nat) (C : pw_C) : Prop := ∀ x, x < n → ∀ c, c < 4 → (∀ y, mx x c = some y → y < n) ∧ C.1 2 (4 * x + c) = oi (mx x c)
def mE (n : Nat) (en : Nat → Bool) (C : pw_C) : Prop := ∀ x, x < n → C.1 3 x = pb (en x)
def mA (am : Nat → Nat) (C : pw_C) : Prop := ∀ q, q < 8 → am q < 256 ∧ ∀ v, v < 8 → C.1 4 (8 * q + v) = pb ((am q).testBit v)
def mT (mm : Nat) (wt : Nat → Nat) (C : pw_C) : Prop := ∀ i, i < mm → wt i ≤ 1000 ∧ C.1 5 i = nI (wt i)
def MI (n mm : Nat) (nx : Nat → Nat → Nat) (mx : Nat → Nat → Option Nat) (en : Nat → Bool) (am wt : Nat → Nat) (Ad : Nat → Nat) (C : pw_C) : Prop := (∃ pk tr, fM n mm pk tr Ad C) ∧ rN n nx C ∧ mM n mx C ∧ mE n en C ∧ mA am C ∧ mT mm wt C
theorem MI_B {n mm : Nat} {nx : Nat → Nat → Nat} {mx : Nat → Nat → Option Nat} {en : Nat → Bool} {am wt Ad : Nat → Nat} {ks : Nat → Prop} {C C' : pw_C} (h : MI n mm nx mx en am wt Ad C) (hB : pw_B ks C C') (hk : ∀ k, ks k → 6 ≤ k) : MI n mm nx mx en am wt Ad C' := by
  obtain ⟨⟨pk, tr, h1⟩, h2, h3, h4, h5, h6⟩ := h
  refine ⟨⟨pk, tr, fM_B h1 hB⟩, rN_B h2 hB (fun q => by have := hk _ q; omega), fun x hx c hc => ?_, fun x hx => ?_, fun q hq => ?_, fun i hi => ?_⟩
  · rw [(hB.1 2 (fun q => by have := hk _ q; omega)).1]; exact h3 x hx c hc
  · rw [(hB.1 3 (fun q => by have := hk _ q; omega)).1]; exact h4 x hx
  · rw [(hB.1 4 (fun q => by have := hk _ q; omega)).1]; exact h5 q hq
  · rw [(hB.1 5 (fun q => by have := hk _ q; omega)).1]; exact h6 i hi
theorem MI_F {n mm : Nat} {nx : Nat → Nat → Nat} {mx : Nat → Nat → Option Nat} {en : Nat → Bool} {am wt Ad : Nat → Nat} {C C' : pw_C} {pk : Int64} {tr : Int32} (h : MI n mm nx mx en am wt Ad C) (hF : fM n mm pk tr Ad C') (hC : C'.1 = C.1) : MI n mm nx mx en am wt Ad C' := by
  obtain ⟨_, h2, h3, h4, h5, h6⟩ := h
  refine ⟨⟨pk, tr, hF⟩, fun u hu x hx => ?_, fun x hx c hc => ?_, fun x hx => ?_, fun q hq => ?_, fun i hi => ?_⟩
  · rw [hC]; exact h2 u hu x hx
  · rw [hC]; exact h3 x hx c hc
  · rw [hC]; exact h4 x hx
  · rw [hC]; exact h5 q hq
  · rw [hC]; exact h6 i hi
theorem MI_rule {n mm : Nat} {nx : Nat → Nat → Nat} {mx : Nat → Nat → Option Nat} {en : Nat → Bool} {am wt Ad : Nat → Nat} {C : pw_C} {x u y : Nat} (hx : x < n) (hu : u < 8) (hy : y < n) (h : MI n mm nx mx en am wt Ad C) : MI n mm (fun u9 x9 => if u9 = u ∧ x9 = x then y else nx u9 x9) mx en am wt Ad (pw_setI C 1 (8 * x + u) (nI y)) := by
  obtain ⟨h1, h2, h3, h4, h5, h6⟩ := h
  refine ⟨h1, fun u9 hu9 x9 hx9 => ?_, fun x9 hx9 c9 hc9 => ?_, fun x9 hx9 => ?_, fun p9 hp9 => ?_, fun i9 hi9 => ?_⟩
  · have := h2 u9 hu9 x9 hx9
    show (if u9 = u ∧ x9 = x then y else nx u9 x9) < n ∧ _ = nI (if u9 = u ∧ x9 = x then y else nx u9 x9)
    rw [si_at]
    by_cases q : u9 = u ∧ x9 = x
    · rw [if_pos q, if_pos (by omega)]; exact ⟨hy, rfl⟩
    · rw [if_neg q, if_neg (by omega)]; exact this
  · rw [si_ne (by omega)]; exact h3 x9 hx9 c9 hc9
  · rw [si_ne (by omega)]; exact h4 x9 hx9
  · rw [si_ne (by omega)]; exact h5 p9 hp9
  · rw [si_ne (by omega)]; exact h6 i9 hi9

set_option maxHeartbeats 4000000 in
set_option maxRecDepth 100000 in
theorem c_X5_pick (l : Launch) (D : va_G) (cy : Nat → ClassId) (Ad : Nat → Nat) (n mm : Nat) (C : pw_C) (hI : pw_I Ad shM) (hn : 1 ≤ n ∧ n ≤ 12) (hmm : 1 ≤ mm ∧ mm ≤ 16) (nx : Nat → Nat → Nat) (mx : Nat → Nat → Option Nat) (en : Nat → Bool) (am wt : Nat → Nat) (hX : MI n mm nx mx en am wt Ad C) (a : Int32) (v : Int64) : Met l yX5_pick wsX5_pick (k2_rm 2 49) (pw_Pre ([.ref (Ad 0), .int a, .long v]) D cy Ad shM C) (pw_Post (fun r9 C' => r9 = some (.long (f_pick a v)) ∧ (MI n mm nx mx en am wt Ad C')) D cy Ad shM) 0 0 (pw_fr Ad shM) := by
  refine Met.ofW (cc := cX5_pick) (maxL := 4) (ret := (some .long)) (by decide) rfl ?_
  intro p e s m args below meth c s₁ B hml hv
  obtain ⟨rfl, hP, hK⟩ := hv
  have hx := B.exec
  have hb := B.bytes
  have hr := B.returns
  have hts := atoms_spec (ws := wsX5_pick) B.pre
  have hown : s.vm.findClass RX5 = some m.cls := findClass_of_methodNamed B.named
  have hlocks := B.notSynchronized
  have S : CallFix p m c cX5_pick 4 s ([.ref (Ad 0), .int a, .long v]).toArray wsX5_pick RX5 := ⟨hx, hb, hml, hown, hts⟩
  change W p l e (k2_rm 2 49) s m _ below meth c s.heap [] 0 0 _ _
  have hl := lv_entry ([.ref (Ad 0), .int a, .long v]) (n := 4) (Nat.le_of_ble_eq_true rfl)
  rw [lg_entry_eq]
  generalize (lg_sl ([.ref (Ad 0), .int a, .long v]) ++ List.replicate (4 - (lg_sl ([.ref (Ad 0), .int a, .long v])).length) Slot.unset).toArray = ls at hl ⊢
  have hl : lv_has ls 4 [(0, .ref (Ad 0)), (1, .int a), (2, .long v)] := hl
  have hS : va_S (pw_fr Ad shM) s.heap s.heap [] := va_S.rf
  obtain ⟨⟨pk, tr, hF⟩, hN, hM, hE, hA, hT⟩ := id hX
  refine lv_lload_n hx hb dX5_pick_0 rfl (lv_at hl 2 rfl) ?_
  refine lv_lconst (v := 1) hx hb dX5_pick_1 (by decide) ?_
  refine lv_ldc2 hx hb hown (hts (.constantLong RX5 87 (4611686018427387904)) (List.mem_of_getElem? (i := 1) rfl)) dX5_pick_2 ?_
  refine pw_cs S 3 (c_X5_in l v 1 (4611686018427387904)) gX5_pick_X5_in rfl rfl rfl (by decide +kernel) ⟨Nat.le_of_ble_eq_true rfl, Nat.le_of_ble_eq_true rfl⟩ rfl hl.1 rfl (Nat.le_of_ble_eq_true rfl) dX5_pick_5 ⟨Nat.le_refl _, Nat.le_refl _⟩ ?_
  refine pn_ifne_b (tgt := 15) hx hb dX5_pick_8 (by decide) (fun c_8 => ?_) (fun c_8 => ?_)
  · obtain ⟨Z, hZ1, hZ2, rfl⟩ := i64_of c_8
    have hZ : 1 ≤ Z ∧ Z ≤ 2 ^ 62 := ⟨hZ1, hZ2⟩
    obtain ⟨hb1, hb2, hb3⟩ := bOf_ok hZ
    obtain ⟨hk1, hk2, hk3⟩ := kOf_ok a hZ
    refine lv_aload_n hx hb dX5_pick_15 rfl (lv_at hl 0 rfl) ?_
    refine lv_iload_n hx hb dX5_pick_16 rfl (lv_at hl 1 rfl) ?_
    refine lv_lload_n hx hb dX5_pick_17 rfl (lv_at hl 2 rfl) ?_
    refine pw_cvW S hK hP 0 5 rfl rfl 2 (c_X5_find l D cy Ad n mm pk tr C hI hn hF a Z (bOf (lN Z)) (kOf a (lN Z)) hZ2 hb1 hb2 hb3 hk1 hk2 hk3) gX5_pick_X5_find rfl rfl rfl (by decide +kernel) ⟨Nat.le_of_ble_eq_true rfl, Nat.le_of_ble_eq_true rfl⟩ rfl hl.1 rfl (Nat.le_of_ble_eq_true rfl) dX5_pick_18 ⟨Nat.le_refl _, Nat.le_refl _⟩ hS (fun _ h9 => h9) (fun r9 C18 H locs hR hP _ _ hS => ?_)
    obtain ⟨rfl, hR⟩ := hR
    change W p l e _ s m _ below meth c H locs 0 0 _ (F0 m 21 ls [])
    have hF := hR.1
    have hX := MI_F hX hR.1 hR.2.1
    refine lv_aload_n hx hb dX5_pick_21 rfl (lv_at hl 0 rfl) ?_
    refine pw_get hx hb hts (fun _ h9 => List.mem_cons_of_mem _ (List.mem_append_right _ h9)) hown hK hP 0 rfl rfl 7 (by decide) hF rfl (hts (.fieldLink RX5 81 "PastDrawsModel" "picked" "J") (List.mem_of_getElem? (i := 3) rfl)) dX5_pick_22 ?_
    refine pw_topl (y := f_pick a (lN Z)) (by unfold f_pick; simp [c_8]) ?_
    exact W.lret hx hb hr (fun t ht _ => ⟨⟨_, C18, rfl, ⟨rfl, hX⟩, by rw [ht]; exact hP⟩, hS.F ht⟩) hS.2.2 dX5_pick_25
  · refine lv_ldc2 hx hb hown (hts (.constantLong RX5 89 (-1)) (List.mem_of_getElem? (i := 2) rfl)) dX5_pick_11 ?_
    refine pw_topl (y := f_pick a v) (by unfold f_pick; simp [c_8]) ?_
    exact W.lret hx hb hr (fun t ht _ => ⟨⟨_, C, rfl, ⟨rfl, hX⟩, by rw [ht]; exact hP⟩, hS.F ht⟩) hS.2.2 dX5_pick_14

set_option maxHeartbeats 4000000 in
set_option maxRecDepth 100000 in
theorem c_X5_tries (l : Launch) (D : va_G) (cy : Nat → ClassId) (Ad : Nat → Nat) (n mm : Nat) (C : pw_C) (hI : pw_I Ad shM) (hn : 1 ≤ n ∧ n ≤ 12) (hmm : 1 ≤ mm ∧ mm ≤ 16) (nx : Nat → Nat → Nat) (mx : Nat → Nat → Option Nat) (en : Nat → Bool) (am wt : Nat → Nat) (hX : MI n mm nx mx en am wt Ad C) (a : Int32) (v : Int64) : Met l yX5_tries wsX5_tries (k2_rm 2 49) (pw_Pre ([.ref (Ad 0), .int a, .long v]) D cy Ad shM C) (pw_Post (fun r9 C' => r9 = some (.int (f_tries a v)) ∧ (MI n mm nx mx en am wt Ad C')) D cy Ad shM) 0 0 (pw_fr Ad shM) := by
  refine Met.ofW (cc := cX5_tries) (maxL := 4) (ret := (some .int)) (by decide) rfl ?_
  intro p e s m args below meth c s₁ B hml hv
  obtain ⟨rfl, hP, hK⟩ := hv
  have hx := B.exec
  have hb := B.bytes
  have hr := B.returns
  have hts := atoms_spec (ws := wsX5_tries) B.pre
  have hown : s.vm.findClass RX5 = some m.cls := findClass_of_methodNamed B.named
  have hlocks := B.notSynchronized
  have S : CallFix p m c cX5_tries 4 s ([.ref (Ad 0), .int a, .long v]).toArray wsX5_tries RX5 := ⟨hx, hb, hml, hown, hts⟩
  change W p l e (k2_rm 2 49) s m _ below meth c s.heap [] 0 0 _ _
  have hl := lv_entry ([.ref (Ad 0), .int a, .long v]) (n := 4) (Nat.le_of_ble_eq_true rfl)
  rw [lg_entry_eq]
  generalize (lg_sl ([.ref (Ad 0), .int a, .long v]) ++ List.replicate (4 - (lg_sl ([.ref (Ad 0), .int a, .long v])).length) Slot.unset).toArray = ls at hl ⊢
  have hl : lv_has ls 4 [(0, .ref (Ad 0)), (1, .int a), (2, .long v)] := hl
  have hS : va_S (pw_fr Ad shM) s.heap s.heap [] := va_S.rf
  obtain ⟨⟨pk, tr, hF⟩, hN, hM, hE, hA, hT⟩ := id hX
  refine lv_lload_n hx hb dX5_tries_0 rfl (lv_at hl 2 rfl) ?_
  refine lv_lconst (v := 1) hx hb dX5_tries_1 (by decide) ?_
  refine lv_ldc2 hx hb hown (hts (.constantLong RX5 87 (4611686018427387904)) (List.mem_of_getElem? (i := 1) rfl)) dX5_tries_2 ?_
  refine pw_cs S 3 (c_X5_in l v 1 (4611686018427387904)) gX5_tries_X5_in rfl rfl rfl (by decide +kernel) ⟨Nat.le_of_ble_eq_true rfl, Nat.le_of_ble_eq_true rfl⟩ rfl hl.1 rfl (Nat.le_of_ble_eq_true rfl) dX5_tries_5 ⟨Nat.le_refl _, Nat.le_refl _⟩ ?_
  refine pn_ifne_b (tgt := 13) hx hb dX5_tries_8 (by decide) (fun c_8 => ?_) (fun c_8 => ?_)
  · obtain ⟨Z, hZ1, hZ2, rfl⟩ := i64_of c_8
    have hZ : 1 ≤ Z ∧ Z ≤ 2 ^ 62 := ⟨hZ1, hZ2⟩
    obtain ⟨hb1, hb2, hb3⟩ := bOf_ok hZ
    obtain ⟨hk1, hk2, hk3⟩ := kOf_ok a hZ
    refine lv_aload_n hx hb dX5_tries_13 rfl (lv_at hl 0 rfl) ?_
    refine lv_iload_n hx hb dX5_tries_14 rfl (lv_at hl 1 rfl) ?_
    refine lv_lload_n hx hb dX5_tries_15 rfl (lv_at hl 2 rfl) ?_
    refine pw_cvW S hK hP 0 5 rfl rfl 2 (c_X5_find l D cy Ad n mm pk tr C hI hn hF a Z (bOf (lN Z)) (kOf a (lN Z)) hZ2 hb1 hb2 hb3 hk1 hk2 hk3) gX5_tries_X5_find rfl rfl rfl (by decide +kernel) ⟨Nat.le_of_ble_eq_true rfl, Nat.le_of_ble_eq_true rfl⟩ rfl hl.1 rfl (Nat.le_of_ble_eq_true rfl) dX5_tries_16 ⟨Nat.le_refl _, Nat.le_refl _⟩ hS (fun _ h9 => h9) (fun r9 C16 H locs hR hP _ _ hS => ?_)
    obtain ⟨rfl, hR⟩ := hR
    change W p l e _ s m _ below meth c H locs 0 0 _ (F0 m 19 ls [])
    have hF := hR.1
    have hX := MI_F hX hR.1 hR.2.1
    refine lv_aload_n hx hb dX5_tries_19 rfl (lv_at hl 0 rfl) ?_
    refine pw_get hx hb hts (fun _ h9 => List.mem_cons_of_mem _ (List.mem_append_right _ h9)) hown hK hP 0 rfl rfl 8 (by decide) hF rfl (hts (.fieldLink RX5 78 "PastDrawsModel" "tried" "I") (List.mem_of_getElem? (i := 2) rfl)) dX5_tries_20 ?_
    refine pw_topi (y := f_tries a (lN Z)) (by unfold f_tries; simp [c_8]) ?_
    exact W.iret hx hb hr (fun t ht _ => ⟨⟨_, C16, rfl, ⟨rfl, hX⟩, by rw [ht]; exact hP⟩, hS.F ht⟩) hS.2.2 dX5_tries_23
  · refine lv_iconst (v := (-1)) hx hb dX5_tries_11 (by decide) ?_
    refine pw_topi (y := f_tries a v) (by unfold f_tries; simp [c_8]) ?_
    exact W.iret hx hb hr (fun t ht _ => ⟨⟨_, C, rfl, ⟨rfl, hX⟩, by rw [ht]; exact hP⟩, hS.F ht⟩) hS.2.2 dX5_tries_12

set_option maxHeartbeats 4000000 in
set_option maxRecDepth 100000 in
theorem c_X5_rule (l : Launch) (D : va_G) (cy : Nat → ClassId) (Ad : Nat → Nat) (n mm : Nat) (C : pw_C) (hI : pw_I Ad shM) (hn : 1 ≤ n ∧ n ≤ 12) (hmm : 1 ≤ mm ∧ mm ≤ 16) (nx : Nat → Nat → Nat) (mx : Nat → Nat → Option Nat) (en : Nat → Bool) (am wt : Nat → Nat) (hX : MI n mm nx mx en am wt Ad C) (a b d : Int32) : Met l yX5_rule wsX5_rule (k2_rm 2 46) (pw_Pre ([.ref (Ad 0), .int a, .int b, .int d]) D cy Ad shM C) (pw_Post (fun r9 C' => r9 = some (.int (f_rule n nx a b d)) ∧ (MI n mm (u_rule n nx a b d) mx en am wt Ad C')) D cy Ad shM) 0 0 (pw_fr Ad shM) := by
  refine Met.ofW (cc := cX5_rule) (maxL := 5) (ret := (some .int)) (by decide) rfl ?_
  intro p e s m args below meth c s₁ B hml hv
  obtain ⟨rfl, hP, hK⟩ := hv
  have hx := B.exec
  have hb := B.bytes
  have hr := B.returns
  have hts := atoms_spec (ws := wsX5_rule) B.pre
  have hown : s.vm.findClass RX5 = some m.cls := findClass_of_methodNamed B.named
  have hlocks := B.notSynchronized
  have S : CallFix p m c cX5_rule 5 s ([.ref (Ad 0), .int a, .int b, .int d]).toArray wsX5_rule RX5 := ⟨hx, hb, hml, hown, hts⟩
  change W p l e (k2_rm 2 46) s m _ below meth c s.heap [] 0 0 _ _
  have hl := lv_entry ([.ref (Ad 0), .int a, .int b, .int d]) (n := 5) (Nat.le_of_ble_eq_true rfl)
  rw [lg_entry_eq]
  generalize (lg_sl ([.ref (Ad 0), .int a, .int b, .int d]) ++ List.replicate (5 - (lg_sl ([.ref (Ad 0), .int a, .int b, .int d])).length) Slot.unset).toArray = ls at hl ⊢
  have hl : lv_has ls 5 [(0, .ref (Ad 0)), (1, .int a), (2, .int b), (3, .int d)] := hl
  have hS : va_S (pw_fr Ad shM) s.heap s.heap [] := va_S.rf
  obtain ⟨⟨pk, tr, hF⟩, hN, hM, hE, hA, hT⟩ := id hX
  refine lv_aload_n hx hb dX5_rule_0 rfl (lv_at hl 0 rfl) ?_
  refine lv_iload_n hx hb dX5_rule_1 rfl (lv_at hl 1 rfl) ?_
  refine pw_cv S hK hP 0 5 rfl rfl 1 (c_X5_isState l D cy Ad n mm pk tr C hn hF a) gX5_rule_X5_isState rfl rfl rfl (by decide +kernel) ⟨Nat.le_of_ble_eq_true rfl, Nat.le_of_ble_eq_true rfl⟩ rfl hl.1 rfl (Nat.le_of_ble_eq_true rfl) dX5_rule_2 ⟨Nat.le_refl _, Nat.le_refl _⟩ ?_
  refine pn_ifeq_b (tgt := 28) hx hb dX5_rule_5 (by decide) (fun c_5 => ?_) (fun c_5 => ?_)
  · refine lv_iconst (v := (-1)) hx hb dX5_rule_28 (by decide) ?_
    have e9 : (wi a (nI 0) (nI (n - 1)) && wi b (nI 0) (nI 7) && wi d (nI 0) (nI (n - 1))) = false := by first | (rw [c_5]; rfl) | (rw [c_5, c_17]; rfl) | (rw [c_5, c_17, c_25]; rfl)
    have ef : f_rule n nx a b d = (-1) := by unfold f_rule; rw [e9]; rfl
    have eu : u_rule n nx a b d = nx := by unfold u_rule; rw [e9]; rfl
    rw [ef, eu]
    exact W.iret hx hb hr (fun t ht _ => ⟨⟨_, C, rfl, ⟨rfl, hX⟩, by rw [ht]; exact hP⟩, hS.F ht⟩) hS.2.2 dX5_rule_29
  · refine lv_iload_n hx hb dX5_rule_8 rfl (lv_at hl 2 rfl) ?_
    refine lv_i2l hx hb dX5_rule_9 rfl ?_
    refine lv_lconst (v := 0) hx hb dX5_rule_10 (by decide) ?_
    refine lv_ldc2 hx hb hown (hts (.constantLong RX5 99 (7)) (List.mem_of_getElem? (i := 1) rfl)) dX5_rule_11 ?_
    refine pw_cs S 3 (c_X5_in l b.toInt64 0 (7)) gX5_rule_X5_in rfl rfl rfl (by decide +kernel) ⟨Nat.le_of_ble_eq_true rfl, Nat.le_of_ble_eq_true rfl⟩ rfl hl.1 rfl (Nat.le_of_ble_eq_true rfl) dX5_rule_14 ⟨Nat.le_refl _, Nat.le_refl _⟩ ?_
    refine pw_topi (y := pb (wi b (nI 0) (nI 7))) (congrArg pb (wl_wi _ (nI 0) (nI 7) (by first | rfl | decide) (by first | rfl | decide))) ?_
    refine pn_ifeq_b (tgt := 28) hx hb dX5_rule_17 (by decide) (fun c_17 => ?_) (fun c_17 => ?_)
    · refine lv_iconst (v := (-1)) hx hb dX5_rule_28 (by decide) ?_
      have e9 : (wi a (nI 0) (nI (n - 1)) && wi b (nI 0) (nI 7) && wi d (nI 0) (nI (n - 1))) = false := by first | (rw [c_5]; rfl) | (rw [c_5, c_17]; rfl) | (rw [c_5, c_17, c_25]; rfl)
      have ef : f_rule n nx a b d = (-1) := by unfold f_rule; rw [e9]; rfl
      have eu : u_rule n nx a b d = nx := by unfold u_rule; rw [e9]; rfl
      rw [ef, eu]
      exact W.iret hx hb hr (fun t ht _ => ⟨⟨_, C, rfl, ⟨rfl, hX⟩, by rw [ht]; exact hP⟩, hS.F ht⟩) hS.2.2 dX5_rule_29
    · refine lv_aload_n hx hb dX5_rule_20 rfl (lv_at hl 0 rfl) ?_
      refine lv_iload_n hx hb dX5_rule_21 rfl (lv_at hl 3 rfl) ?_
      refine pw_cv S hK hP 0 5 rfl rfl 1 (c_X5_isState l D cy Ad n mm pk tr C hn hF d) gX5_rule_X5_isState rfl rfl rfl (by decide +kernel) ⟨Nat.le_of_ble_eq_true rfl, Nat.le_of_ble_eq_true rfl⟩ rfl hl.1 rfl (Nat.le_of_ble_eq_true rfl) dX5_rule_22 ⟨Nat.le_refl _, Nat.le_refl _⟩ ?_
      refine pn_ifne_b (tgt := 30) hx hb dX5_rule_25 (by decide) (fun c_25 => ?_) (fun c_25 => ?_)
      · obtain ⟨x, hl_x, hh_x, rfl⟩ := wi_ex (by omega) c_5
        obtain ⟨u, hl_u, hh_u, rfl⟩ := wi_ex (by omega) c_17
        obtain ⟨y, hl_y, hh_y, rfl⟩ := wi_ex (by omega) c_25
        have ix_x : ix (nI x) = x := nI_clamp (by omega)
        have ix_u : ix (nI u) = u := nI_clamp (by omega)
        have ix_y : ix (nI y) = y := nI_clamp (by omega)
        have hB : pw_B (fun k => k = 1) C C := pw_B.rf
        refine lv_aload_n hx hb dX5_rule_30 rfl (lv_at hl 0 rfl) ?_
        refine pw_get hx hb hts (fun _ h9 => List.mem_cons_of_mem _ (List.mem_append_right _ h9)) hown hK hP 0 rfl rfl 1 (by decide) hF rfl (hts (.fieldLink RX5 7 "PastDrawsModel" "rules" "[I") (List.mem_of_getElem? (i := 2) rfl)) dX5_rule_31 ?_
        refine lv_bipush (v := nI 8) hx hb dX5_rule_34 (by decide) ?_
        refine lv_iload_n hx hb dX5_rule_36 rfl (lv_at hl 1 rfl) ?_
        refine lv_imul hx hb dX5_rule_37 ?_
        refine pw_topi (pk_mul _ _) ?_
        refine lv_iload_n hx hb dX5_rule_38 rfl (lv_at hl 2 rfl) ?_
        refine lv_iadd hx hb dX5_rule_39 ?_
        refine pw_topi (nI_add _ _) ?_
        have hu_40 : u < 8 := (by first | exact sgn_lt _ _ | omega)
        have hx_40 : x < n := (by first | exact sgn_lt _ _ | omega)
        have q_40 : nx u x < n := (hN _ hu_40 _ hx_40).1
        refine pw_iald hx hb hK hP 1 rfl (by omega) (by decide) (v := nI (nx u x)) (hN _ hu_40 _ hx_40).2 dX5_rule_40 ?_
        refine lv_istore (lv' := [(4, .int (nI (nx u x))), (0, .ref (Ad 0)), (1, .int (nI x)), (2, .int (nI u)), (3, .int (nI y))]) hx hb dX5_rule_41 hl (by decide) rfl (fun ls hl => ?_)
        refine lv_aload_n hx hb dX5_rule_43 rfl (lv_at hl 1 rfl) ?_
        refine pw_get hx hb hts (fun _ h9 => List.mem_cons_of_mem _ (List.mem_append_right _ h9)) hown hK hP 0 rfl rfl 1 (by decide) hF rfl (hts (.fieldLink RX5 7 "PastDrawsModel" "rules" "[I") (List.mem_of_getElem? (i := 2) rfl)) dX5_rule_44 ?_
        refine lv_bipush (v := nI 8) hx hb dX5_rule_47 (by decide) ?_
        refine lv_iload_n hx hb dX5_rule_49 rfl (lv_at hl 2 rfl) ?_
        refine lv_imul hx hb dX5_rule_50 ?_
        refine pw_topi (pk_mul _ _) ?_
        refine lv_iload_n hx hb dX5_rule_51 rfl (lv_at hl 3 rfl) ?_
        refine lv_iadd hx hb dX5_rule_52 ?_
        refine pw_topi (nI_add _ _) ?_
        refine lv_iload_n hx hb dX5_rule_53 rfl (lv_at hl 4 rfl) ?_
        refine pw_iast hx hb hK hP hI hS 1 rfl (by omega) (by decide) dX5_rule_54 (fun H locs hP hS => ?_)
        obtain ⟨C54, hC54⟩ : ∃ z9, z9 = pw_setI C 1 ((8 * x) + u) (nI y) := ⟨_, rfl⟩
        rw [← hC54] at hP
        have hB := by have hB9 := hB; exact (show pw_B (fun k => k = 1) C C54 by rw [hC54]; exact hB9.setI (by show 1 = 1; first | trivial | omega))
        refine lv_iload hx hb dX5_rule_55 (lv_at hl 0 rfl) ?_
        have e9 : (wi (nI x) (nI 0) (nI (n - 1)) && wi (nI u) (nI 0) (nI 7) && wi (nI y) (nI 0) (nI (n - 1))) = true := by rw [c_5, c_17, c_25]; rfl
        have ef : f_rule n nx (nI x) (nI u) (nI y) = nI (nx u x) := by unfold f_rule; rw [if_pos e9, ix_x, ix_u]
        have eu : u_rule n nx (nI x) (nI u) (nI y) = fun u9 x9 => if u9 = u ∧ x9 = x then y else nx u9 x9 := by unfold u_rule; rw [if_pos e9, ix_x, ix_u, ix_y]
        rw [ef, eu]
        exact W.iret hx hb hr (fun t ht _ => ⟨⟨_, C54, rfl, ⟨rfl, by rw [hC54]; exact MI_rule (by omega) (by omega) (by omega) hX⟩, by rw [ht]; exact hP⟩, hS.F ht⟩) hS.2.2 dX5_rule_57
      · refine lv_iconst (v := (-1)) hx hb dX5_rule_28 (by decide) ?_
        have e9 : (wi a (nI 0) (nI (n - 1)) && wi b (nI 0) (nI 7) && wi d (nI 0) (nI (n - 1))) = false := by first | (rw [c_5]; rfl) | (rw [c_5, c_17]; rfl) | (rw [c_5, c_17, c_25]; rfl)
        have ef : f_rule n nx a b d = (-1) := by unfold f_rule; rw [e9]; rfl
        have eu : u_rule n nx a b d = nx := by unfold u_rule; rw [e9]; rfl
        rw [ef, eu]
        exact W.iret hx hb hr (fun t ht _ => ⟨⟨_, C, rfl, ⟨rfl, hX⟩, by rw [ht]; exact hP⟩, hS.F ht⟩) hS.2.2 dX5_rule_29

set_option maxHeartbeats 4000000 in
set_option maxRecDepth 100000 in
theorem L5_taken {p : Program} {l : Launch} {e : Env} {s : State} {m : MethodId} {args : Array Value} {below : List Frame} {meth : Method} {c : Code} {H : Heap} {locs : List Loc} {Q : State → Prop} (S : CallFix p m c cX5_taken 6 s args wsX5_taken RX5) {D : va_G} {cy : Nat → ClassId} {Ad : Nat → Nat} {n mm : Nat} {pk : Int64} {tr : Int32} {C : pw_C} (hK : pw_K D cy s) (hP : pw_P D cy Ad shM C H) (hF : fM n mm pk tr Ad C) (hn : 1 ≤ n ∧ n ≤ 12) {nx : Nat → Nat → Nat} (hN : rN n nx C) (a : Int32) (r : Nat) (hq : ∀ (pc9 : Nat) (ls : Array Slot), decode cX5_taken pc9 = .ok (.ireturn, 1) → W p l e (k2_rm 2 46) s m args below meth c H locs 0 0 Q (F0 m pc9 ls [.int (nI r)])) : ∀ (f : Nat) (t : Nat) (x : Nat) (ls : Array Slot), t < f → (t ≤ 4096) → (x < n) → (thr nx a t x = r) → lv_has ls 6 [(5, .int (nI t)), (4, .int (nI x)), (0, .ref (Ad 0)), (1, .int a)] → W p l e (k2_rm 2 46) s m args below meth c H locs 0 0 Q (F0 m 23 ls []) := by
  have hx := S.1
  have hb := S.2.1
  have hml := S.2.2.1
  have hown := S.2.2.2.1
  have hts := S.2.2.2.2
  intro f
  induction f with
  | zero => intro t x ls hf; exact absurd hf (Nat.not_lt_zero _)
  | succ f ih =>
    intro t x ls hf ht hx0 hr0 hl
    refine lv_iload hx hb dX5_taken_23 (lv_at hl 0 rfl) ?_
    refine pn_ifle_n (tgt := 54) hx hb (by omega) dX5_taken_25 (by decide) (fun c_25 => ?_) (fun c_25 => ?_)
    · obtain rfl : t = 0 := by omega
      subst hr0
      refine lv_iload hx hb dX5_taken_54 (lv_at hl 1 rfl) ?_
      refine pw_topi (y := nI (thr nx a 0 x)) rfl ?_
      exact hq _ ls dX5_taken_56
    · obtain ⟨t, rfl⟩ : ∃ t9, t = t9 + 1 := ⟨t - 1, by omega⟩
      refine lv_aload_n hx hb dX5_taken_28 rfl (lv_at hl 2 rfl) ?_
      refine pw_get hx hb hts (fun _ h9 => List.mem_cons_of_mem _ (List.mem_append_right _ h9)) hown hK hP 0 rfl rfl 1 (by decide) hF rfl (hts (.fieldLink RX5 7 "PastDrawsModel" "rules" "[I") (List.mem_of_getElem? (i := 1) rfl)) dX5_taken_29 ?_
      refine lv_bipush (v := nI 8) hx hb dX5_taken_32 (by decide) ?_
      refine lv_iload hx hb dX5_taken_34 (lv_at hl 1 rfl) ?_
      refine lv_imul hx hb dX5_taken_36 ?_
      refine pw_topi (pk_mul _ _) ?_
      refine lv_aload_n hx hb dX5_taken_37 rfl (lv_at hl 2 rfl) ?_
      refine lv_iload_n hx hb dX5_taken_38 rfl (lv_at hl 3 rfl) ?_
      refine lv_iload hx hb dX5_taken_39 (lv_at hl 0 rfl) ?_
      refine pw_cv S hK hP 0 5 rfl rfl 2 (c_X5_sign l D cy Ad n mm pk tr C hn hF a (nI (t + 1))) gX5_taken_X5_sign rfl rfl rfl (by decide +kernel) ⟨Nat.le_of_ble_eq_true rfl, Nat.le_of_ble_eq_true rfl⟩ rfl hl.1 rfl (Nat.le_of_ble_eq_true rfl) dX5_taken_41 ⟨Nat.le_refl _, Nat.le_refl _⟩ ?_
      refine lv_iadd hx hb dX5_taken_44 ?_
      refine pw_topi (nI_add _ _) ?_
      have hu_45 : (sgn a (nI (t + 1))) < 8 := (by first | exact sgn_lt _ _ | omega)
      have hx_45 : x < n := (by first | exact sgn_lt _ _ | omega)
      have q_45 : nx (sgn a (nI (t + 1))) x < n := (hN _ hu_45 _ hx_45).1
      refine pw_iald hx hb hK hP 1 rfl (by omega) (by decide) (v := nI (nx (sgn a (nI (t + 1))) x)) (hN _ hu_45 _ hx_45).2 dX5_taken_45 ?_
      refine lv_istore (lv' := [(4, .int (nI (nx (sgn a (nI (t + 1))) x))), (5, .int (nI (t + 1))), (0, .ref (Ad 0)), (1, .int a)]) hx hb dX5_taken_46 hl (by decide) rfl (fun ls hl => ?_)
      refine lv_iinc (v := nI t) (lv' := [(5, .int (nI t)), (4, .int (nI (nx (sgn a (nI (t + 1))) x))), (0, .ref (Ad 0)), (1, .int a)]) hx hb dX5_taken_48 hl (k := 1) rfl (pk_m1 _) (by decide) rfl (fun ls hl => ?_)
      refine lv_goto (tgt := 23) hx hb dX5_taken_51 (by decide) ?_
      exact ih t (nx (sgn a (nI (t + 1))) x) ls (by omega) (by omega) q_45 hr0 (lv_sub hl [0, 1, 2, 3] rfl)

set_option maxHeartbeats 4000000 in
set_option maxRecDepth 100000 in
theorem c_X5_taken (l : Launch) (D : va_G) (cy : Nat → ClassId) (Ad : Nat → Nat) (n mm : Nat) (C : pw_C) (hI : pw_I Ad shM) (hn : 1 ≤ n ∧ n ≤ 12) (hmm : 1 ≤ mm ∧ mm ≤ 16) (nx : Nat → Nat → Nat) (mx : Nat → Nat → Option Nat) (en : Nat → Bool) (am wt : Nat → Nat) (hX : MI n mm nx mx en am wt Ad C) (a b d : Int32) : Met l yX5_taken wsX5_taken (k2_rm 2 46) (pw_Pre ([.ref (Ad 0), .int a, .int b, .int d]) D cy Ad shM C) (k2_QcV (.int (f_taken n nx a b d))) 0 0 (fun _ => False) := by
  refine Met.ofW (cc := cX5_taken) (maxL := 6) (ret := (some .int)) (by decide) rfl ?_
  intro p e s m args below meth c s₁ B hml hv
  obtain ⟨rfl, hP, hK⟩ := hv
  have hx := B.exec
  have hb := B.bytes
  have hr := B.returns
  have hts := atoms_spec (ws := wsX5_taken) B.pre
  have hown : s.vm.findClass RX5 = some m.cls := findClass_of_methodNamed B.named
  have hlocks := B.notSynchronized
  have S : CallFix p m c cX5_taken 6 s ([.ref (Ad 0), .int a, .int b, .int d]).toArray wsX5_taken RX5 := ⟨hx, hb, hml, hown, hts⟩
  change W p l e (k2_rm 2 46) s m _ below meth c s.heap [] 0 0 _ _
  have hl := lv_entry ([.ref (Ad 0), .int a, .int b, .int d]) (n := 6) (Nat.le_of_ble_eq_true rfl)
  rw [lg_entry_eq]
  obtain ⟨⟨pk, tr, hF⟩, hN, hM, hE, hA, hT⟩ := id hX
  generalize (lg_sl ([.ref (Ad 0), .int a, .int b, .int d]) ++ List.replicate (6 - (lg_sl ([.ref (Ad 0), .int a, .int b, .int d])).length) Slot.unset).toArray = ls at hl ⊢
  have hl : lv_has ls 6 [(0, .ref (Ad 0)), (1, .int a), (2, .int b), (3, .int d)] := hl
  refine lv_iload_n hx hb dX5_taken_0 rfl (lv_at hl 2 rfl) ?_
  refine pw_cs S 1 (c_X5_isLong l b) gX5_taken_X5_isLong rfl rfl rfl (by decide +kernel) ⟨Nat.le_of_ble_eq_true rfl, Nat.le_of_ble_eq_true rfl⟩ rfl hl.1 rfl (Nat.le_of_ble_eq_true rfl) dX5_taken_1 ⟨Nat.le_refl _, Nat.le_refl _⟩ ?_
  refine pn_ifeq_b (tgt := 15) hx hb dX5_taken_4 (by decide) (fun c_4 => ?_) (fun c_4 => ?_)
  · refine lv_iconst (v := (-1)) hx hb dX5_taken_15 (by decide) ?_
    refine pw_topi (y := f_taken n nx a b d) (by unfold f_taken; first | simp [c_4, c_12] | simp [c_4]) ?_
    exact W.iret hx hb hr (fun t ht _ => ⟨rfl, ht⟩) (fun q h => by cases h) dX5_taken_16
  · refine lv_aload_n hx hb dX5_taken_7 rfl (lv_at hl 0 rfl) ?_
    refine lv_iload_n hx hb dX5_taken_8 rfl (lv_at hl 3 rfl) ?_
    refine pw_cv S hK hP 0 5 rfl rfl 1 (c_X5_isState l D cy Ad n mm pk tr C hn hF d) gX5_taken_X5_isState rfl rfl rfl (by decide +kernel) ⟨Nat.le_of_ble_eq_true rfl, Nat.le_of_ble_eq_true rfl⟩ rfl hl.1 rfl (Nat.le_of_ble_eq_true rfl) dX5_taken_9 ⟨Nat.le_refl _, Nat.le_refl _⟩ ?_
    refine pn_ifne_b (tgt := 17) hx hb dX5_taken_12 (by decide) (fun c_12 => ?_) (fun c_12 => ?_)
    · obtain ⟨t, hl_t, hh_t, rfl⟩ := wi_ex (by omega) c_4
      obtain ⟨x, hl_x, hh_x, rfl⟩ := wi_ex (by omega) c_12
      have ix_t : ix (nI t) = t := nI_clamp (by omega)
      have ix_x : ix (nI x) = x := nI_clamp (by omega)
      refine lv_iload_n hx hb dX5_taken_17 rfl (lv_at hl 3 rfl) ?_
      refine lv_istore (lv' := [(4, .int (nI x)), (0, .ref (Ad 0)), (1, .int a), (2, .int (nI t)), (3, .int (nI x))]) hx hb dX5_taken_18 hl (by decide) rfl (fun ls hl => ?_)
      refine lv_iload_n hx hb dX5_taken_20 rfl (lv_at hl 3 rfl) ?_
      refine lv_istore (lv' := [(5, .int (nI t)), (4, .int (nI x)), (0, .ref (Ad 0)), (1, .int a), (2, .int (nI t)), (3, .int (nI x))]) hx hb dX5_taken_21 hl (by decide) rfl (fun ls hl => ?_)
      have ef : f_taken n nx a (nI t) (nI x) = nI (thr nx a t x) := by unfold f_taken; simp [c_4, c_12, ix_t, ix_x]
      rw [ef]
      exact L5_taken S hK hP hF hn hN a _ (fun pc9 ls hd9 => W.iret hx hb hr (fun t ht _ => ⟨rfl, ht⟩) (fun q h => by cases h) hd9) (t + 1) t x ls (by omega) (by omega) (by omega) rfl (lv_sub hl [0, 1, 2, 3] rfl)
    · refine lv_iconst (v := (-1)) hx hb dX5_taken_15 (by decide) ?_
      refine pw_topi (y := f_taken n nx a b d) (by unfold f_taken; first | simp [c_4, c_12] | simp [c_4]) ?_
      exact W.iret hx hb hr (fun t ht _ => ⟨rfl, ht⟩) (fun q h => by cases h) dX5_taken_16

set_option maxHeartbeats 4000000 in
set_option maxRecDepth 100000 in
theorem L5_begin {p : Program} {l : Launch} {e : Env} {s : State} {m : MethodId} {args : Array Value} {below : List Frame} {meth : Method} {c : Code} {Q : State → Prop} (S : CallFix p m c cX5_begin 2 s args wsX5_begin RX5) {D : va_G} {cy : Nat → ClassId} {Ad : Nat → Nat} {n mm : Nat} {pk : Int64} {tr : Int32} {C0 : pw_C} (hK : pw_K D cy s) (hI : pw_I Ad shM) (hF0 : fM n mm pk tr Ad C0) (hn : 1 ≤ n ∧ n ≤ 12) (hq : ∀ (pc9 : Nat) (C : pw_C) (H : Heap) (locs : List Loc) (ls : Array Slot), decode cX5_begin pc9 = .ok (.return_, 1) → pw_P D cy Ad shM C H → va_S (pw_fr Ad shM) s.heap H locs → (pw_B (fun k => k = 6) C0 C ∧ ∀ y, y < n → C.1 6 y = nI y) → W p l e (k2_rm 0 0) s m args below meth c H locs 0 0 Q (F0 m pc9 ls [])) : ∀ (f : Nat) (C : pw_C) (H : Heap) (locs : List Loc) (x : Nat) (ls : Array Slot), n - x < f → (pw_P D cy Ad shM C H) → (va_S (pw_fr Ad shM) s.heap H locs) → (pw_B (fun k => k = 6) C0 C) → (x ≤ n) → (∀ y, y < x → C.1 6 y = nI y) → lv_has ls 2 [(1, .int (nI x)), (0, .ref (Ad 0))] → W p l e (k2_rm 0 0) s m args below meth c H locs 0 0 Q (F0 m 2 ls []) := by
  have hx := S.1
  have hb := S.2.1
  have hml := S.2.2.1
  have hown := S.2.2.2.1
  have hts := S.2.2.2.2
  intro f
  induction f with
  | zero => intro C H locs x ls hf; exact absurd hf (Nat.not_lt_zero _)
  | succ f ih =>
    intro C H locs x ls hf hP hS hB hx0 hv hl
    have hF := fM_B hF0 hB
    refine lv_iload_n hx hb dX5_begin_2 rfl (lv_at hl 0 rfl) ?_
    refine lv_aload_n hx hb dX5_begin_3 rfl (lv_at hl 1 rfl) ?_
    refine pw_get hx hb hts (fun _ h9 => List.mem_cons_of_mem _ (List.mem_append_right _ h9)) hown hK hP 0 rfl rfl 0 (by decide) hF rfl (hts (.fieldLink RX5 64 "PastDrawsModel" "n" "I") (List.mem_of_getElem? (i := 1) rfl)) dX5_begin_4 ?_
    refine pn_icmp_ge (tgt := 23) hx hb (by omega) (by omega) dX5_begin_7 (by decide) (fun c_7 => ?_) (fun c_7 => ?_)
    · exact hq _ C H locs ls dX5_begin_23 hP hS ⟨hB, fun y hy => hv y (by omega)⟩
    · refine lv_aload_n hx hb dX5_begin_10 rfl (lv_at hl 1 rfl) ?_
      refine pw_get hx hb hts (fun _ h9 => List.mem_cons_of_mem _ (List.mem_append_right _ h9)) hown hK hP 0 rfl rfl 9 (by decide) hF rfl (hts (.fieldLink RX5 30 "PastDrawsModel" "whole" "[I") (List.mem_of_getElem? (i := 2) rfl)) dX5_begin_11 ?_
      refine lv_iload_n hx hb dX5_begin_14 rfl (lv_at hl 0 rfl) ?_
      refine lv_iload_n hx hb dX5_begin_15 rfl (lv_at hl 0 rfl) ?_
      refine pw_iast hx hb hK hP hI hS 6 rfl (by omega) (by decide) dX5_begin_16 (fun H locs hP hS => ?_)
      obtain ⟨C16, hC16⟩ : ∃ z9, z9 = pw_setI C 6 x (nI x) := ⟨_, rfl⟩
      rw [← hC16] at hP
      have hB := by have hB9 := hB; exact (show pw_B (fun k => k = 6) C0 C16 by rw [hC16]; exact hB9.setI (by show 6 = 6; first | trivial | omega))
      have hF := fM_B hF0 hB
      refine lv_iinc (v := nI (x + 1)) (lv' := [(1, .int (nI (x + 1))), (0, .ref (Ad 0))]) hx hb dX5_begin_17 hl (k := 0) rfl (nI_add _ 1) (by decide) rfl (fun ls hl => ?_)
      refine lv_goto (tgt := 2) hx hb dX5_begin_20 (by decide) ?_
      exact ih C16 H locs (x + 1) ls (by omega) hP hS hB (by omega) (fun y hy => by
        rw [hC16, si_at]
        by_cases q : y = x
        · rw [if_pos q, q]
        · rw [if_neg q]; exact hv y (by omega)) (lv_sub hl [0, 1] rfl)

set_option maxHeartbeats 4000000 in
set_option maxRecDepth 100000 in
theorem c_X5_begin (l : Launch) (D : va_G) (cy : Nat → ClassId) (Ad : Nat → Nat) (n mm : Nat) (pk : Int64) (tr : Int32) (C : pw_C) (hI : pw_I Ad shM) (hn : 1 ≤ n ∧ n ≤ 12) (hF : fM n mm pk tr Ad C)  : Met l yX5_begin wsX5_begin (k2_rm 0 0) (pw_Pre ([.ref (Ad 0)]) D cy Ad shM C) (pw_Post (fun r9 C' => r9 = none ∧ (pw_B (fun k => k = 6) C C' ∧ ∀ y, y < n → C'.1 6 y = nI y)) D cy Ad shM) 0 0 (pw_fr Ad shM) := by
  refine Met.ofW (cc := cX5_begin) (maxL := 2) (ret := none) (by decide) rfl ?_
  intro p e s m args below meth c s₁ B hml hv
  obtain ⟨rfl, hP, hK⟩ := hv
  have hx := B.exec
  have hb := B.bytes
  have hr := B.returns
  have hts := atoms_spec (ws := wsX5_begin) B.pre
  have hown : s.vm.findClass RX5 = some m.cls := findClass_of_methodNamed B.named
  have hlocks := B.notSynchronized
  have S : CallFix p m c cX5_begin 2 s ([.ref (Ad 0)]).toArray wsX5_begin RX5 := ⟨hx, hb, hml, hown, hts⟩
  change W p l e (k2_rm 0 0) s m _ below meth c s.heap [] 0 0 _ _
  have hl := lv_entry ([.ref (Ad 0)]) (n := 2) (Nat.le_of_ble_eq_true rfl)
  rw [lg_entry_eq]
  generalize (lg_sl ([.ref (Ad 0)]) ++ List.replicate (2 - (lg_sl ([.ref (Ad 0)])).length) Slot.unset).toArray = ls at hl ⊢
  have hl : lv_has ls 2 [(0, .ref (Ad 0))] := hl
  have hS : va_S (pw_fr Ad shM) s.heap s.heap [] := va_S.rf
  refine lv_iconst (v := nI 0) hx hb dX5_begin_0 (by decide) ?_
  refine lv_istore_n (lv' := [(1, .int (nI 0)), (0, .ref (Ad 0))]) hx hb dX5_begin_1 rfl hl (by decide) rfl (fun ls hl => ?_)
  exact L5_begin S hK hI hF hn (fun pc9 C9 H9 locs9 ls9 hd9 hP9 hS9 hR9 => W.vret hx hb hr (fun t ht _ => ⟨⟨none, C9, rfl, ⟨rfl, hR9⟩, by rw [ht]; exact hP9⟩, hS9.F ht⟩) hS9.2.2 hd9) (n + 1) C s.heap [] 0 ls (by omega) hP hS pw_B.rf (by omega) (fun y hy => by omega) (lv_sub hl [0, 1] rfl)

set_option maxHeartbeats 4000000 in
set_option maxRecDepth 100000 in
theorem L5_ahead_a {p : Program} {l : Launch} {e : Env} {s : State} {m : MethodId} {args : Array Value} {below : List Frame} {meth : Method} {c : Code} {Q : State → Prop} (S : CallFix p m c cX5_ahead 3 s args wsX5_ahead RX5) {D : va_G} {cy : Nat → ClassId} {Ad : Nat → Nat} {n mm : Nat} {pk : Int64} {tr : Int32} {C0 : pw_C} (hK : pw_K D cy s) (hI : pw_I Ad shM) (hF0 : fM n mm pk tr Ad C0) (hn : 1 ≤ n ∧ n ≤ 12) {nx : Nat → Nat → Nat} (hN0 : rN n nx C0) (u : Nat) (hu : u < 8) (mp : Nat → Nat) (hmp0 : ∀ x, x < n → C0.1 6 x = nI (mp x)) (hk : ∀ (C : pw_C) (H : Heap) (locs : List Loc) (ls : Array Slot), pw_P D cy Ad shM C H → va_S (pw_fr Ad shM) s.heap H locs → (pw_B (fun k => k = 6 ∨ k = 7) C0 C ∧ C.1 6 = C0.1 6 ∧ ∀ y, y < n → C.1 7 y = nI (mp (nx u y))) → lv_has ls 3 [(0, .ref (Ad 0))] → W p l e (k2_rm 0 0) s m args below meth c H locs 0 0 Q (F0 m 38 ls [])) : ∀ (f : Nat) (C : pw_C) (H : Heap) (locs : List Loc) (x : Nat) (ls : Array Slot), n - x < f → (pw_P D cy Ad shM C H) → (va_S (pw_fr Ad shM) s.heap H locs) → (pw_B (fun k => k = 6 ∨ k = 7) C0 C) → (x ≤ n) → (C.1 6 = C0.1 6) → (∀ y, y < x → C.1 7 y = nI (mp (nx u y))) → lv_has ls 3 [(2, .int (nI x)), (1, .int (nI u)), (0, .ref (Ad 0))] → W p l e (k2_rm 0 0) s m args below meth c H locs 0 0 Q (F0 m 2 ls []) := by
  have hx := S.1
  have hb := S.2.1
  have hml := S.2.2.1
  have hown := S.2.2.2.1
  have hts := S.2.2.2.2
  intro f
  induction f with
  | zero => intro C H locs x ls hf; exact absurd hf (Nat.not_lt_zero _)
  | succ f ih =>
    intro C H locs x ls hf hP hS hB hx0 h6 hv hl
    have hF := fM_B hF0 hB
    have hN := rN_B hN0 hB (by omega)
    have hmp : ∀ x, x < n → C.1 6 x = nI (mp x) := fun x hx => by rw [h6]; exact hmp0 x hx
    refine lv_iload_n hx hb dX5_ahead_2 rfl (lv_at hl 0 rfl) ?_
    refine lv_aload_n hx hb dX5_ahead_3 rfl (lv_at hl 2 rfl) ?_
    refine pw_get hx hb hts (fun _ h9 => List.mem_cons_of_mem _ (List.mem_append_right _ h9)) hown hK hP 0 rfl rfl 0 (by decide) hF rfl (hts (.fieldLink RX5 64 "PastDrawsModel" "n" "I") (List.mem_of_getElem? (i := 1) rfl)) dX5_ahead_4 ?_
    refine pn_icmp_ge (tgt := 38) hx hb (by omega) (by omega) dX5_ahead_7 (by decide) (fun c_7 => ?_) (fun c_7 => ?_)
    · obtain rfl : x = n := by omega
      exact hk C H locs ls hP hS ⟨hB, h6, hv⟩ (lv_sub hl [2] rfl)
    · refine lv_aload_n hx hb dX5_ahead_10 rfl (lv_at hl 2 rfl) ?_
      refine pw_get hx hb hts (fun _ h9 => List.mem_cons_of_mem _ (List.mem_append_right _ h9)) hown hK hP 0 rfl rfl 10 (by decide) hF rfl (hts (.fieldLink RX5 33 "PastDrawsModel" "next" "[I") (List.mem_of_getElem? (i := 2) rfl)) dX5_ahead_11 ?_
      refine lv_iload_n hx hb dX5_ahead_14 rfl (lv_at hl 0 rfl) ?_
      refine lv_aload_n hx hb dX5_ahead_15 rfl (lv_at hl 2 rfl) ?_
      refine pw_get hx hb hts (fun _ h9 => List.mem_cons_of_mem _ (List.mem_append_right _ h9)) hown hK hP 0 rfl rfl 9 (by decide) hF rfl (hts (.fieldLink RX5 30 "PastDrawsModel" "whole" "[I") (List.mem_of_getElem? (i := 3) rfl)) dX5_ahead_16 ?_
      refine lv_aload_n hx hb dX5_ahead_19 rfl (lv_at hl 2 rfl) ?_
      refine pw_get hx hb hts (fun _ h9 => List.mem_cons_of_mem _ (List.mem_append_right _ h9)) hown hK hP 0 rfl rfl 1 (by decide) hF rfl (hts (.fieldLink RX5 7 "PastDrawsModel" "rules" "[I") (List.mem_of_getElem? (i := 4) rfl)) dX5_ahead_20 ?_
      refine lv_bipush (v := nI 8) hx hb dX5_ahead_23 (by decide) ?_
      refine lv_iload_n hx hb dX5_ahead_25 rfl (lv_at hl 0 rfl) ?_
      refine lv_imul hx hb dX5_ahead_26 ?_
      refine pw_topi (pk_mul _ _) ?_
      refine lv_iload_n hx hb dX5_ahead_27 rfl (lv_at hl 1 rfl) ?_
      refine lv_iadd hx hb dX5_ahead_28 ?_
      refine pw_topi (nI_add _ _) ?_
      have hu_29 : u < 8 := (by first | exact sgn_lt _ _ | omega)
      have hx_29 : x < n := (by first | exact sgn_lt _ _ | omega)
      have q_29 : nx u x < n := (hN _ hu_29 _ hx_29).1
      refine pw_iald hx hb hK hP 1 rfl (by omega) (by decide) (v := nI (nx u x)) (hN _ hu_29 _ hx_29).2 dX5_ahead_29 ?_
      refine pw_iald hx hb hK hP 6 rfl (by omega) (by decide) (v := nI (mp (nx u x))) (hmp _ q_29) dX5_ahead_30 ?_
      refine pw_iast hx hb hK hP hI hS 7 rfl (by omega) (by decide) dX5_ahead_31 (fun H locs hP hS => ?_)
      obtain ⟨C31, hC31⟩ : ∃ z9, z9 = pw_setI C 7 x (nI (mp (nx u x))) := ⟨_, rfl⟩
      rw [← hC31] at hP
      have hB := by have hB9 := hB; exact (show pw_B (fun k => k = 6 ∨ k = 7) C0 C31 by rw [hC31]; exact hB9.setI (by show 7 = 6 ∨ 7 = 7; first | trivial | omega))
      have hF := fM_B hF0 hB
      have hN := rN_B hN0 hB (by omega)
      refine lv_iinc (v := nI (x + 1)) (lv' := [(2, .int (nI (x + 1))), (1, .int (nI u)), (0, .ref (Ad 0))]) hx hb dX5_ahead_32 hl (k := 0) rfl (nI_add _ 1) (by decide) rfl (fun ls hl => ?_)
      refine lv_goto (tgt := 2) hx hb dX5_ahead_35 (by decide) ?_
      have e7 : C31.1 6 = C.1 6 := by rw [hC31]; exact si_ne (by decide)
      exact ih C31 H locs (x + 1) ls (by omega) hP hS hB (by omega) (e7.trans h6) (fun y hy => by
        rw [hC31, si_at]
        by_cases q : y = x
        · rw [if_pos q, q]
        · rw [if_neg q]; exact hv y (by omega)) (lv_sub hl [0, 1, 2] rfl)

set_option maxHeartbeats 4000000 in
set_option maxRecDepth 100000 in
theorem L5_ahead_b {p : Program} {l : Launch} {e : Env} {s : State} {m : MethodId} {args : Array Value} {below : List Frame} {meth : Method} {c : Code} {Q : State → Prop} (S : CallFix p m c cX5_ahead 3 s args wsX5_ahead RX5) {D : va_G} {cy : Nat → ClassId} {Ad : Nat → Nat} {n mm : Nat} {pk : Int64} {tr : Int32} {C0 : pw_C} (hK : pw_K D cy s) (hI : pw_I Ad shM) (hF0 : fM n mm pk tr Ad C0) (hn : 1 ≤ n ∧ n ≤ 12) (fz : Nat → Int32) (hq : ∀ (pc9 : Nat) (C : pw_C) (H : Heap) (locs : List Loc) (ls : Array Slot), decode cX5_ahead pc9 = .ok (.return_, 1) → pw_P D cy Ad shM C H → va_S (pw_fr Ad shM) s.heap H locs → (pw_B (fun k => k = 6 ∨ k = 7) C0 C ∧ ∀ y, y < n → C.1 6 y = fz y) → W p l e (k2_rm 0 0) s m args below meth c H locs 0 0 Q (F0 m pc9 ls [])) : ∀ (f : Nat) (C : pw_C) (H : Heap) (locs : List Loc) (x : Nat) (ls : Array Slot), n - x < f → (pw_P D cy Ad shM C H) → (va_S (pw_fr Ad shM) s.heap H locs) → (pw_B (fun k => k = 6 ∨ k = 7) C0 C) → (x ≤ n) → (∀ y, y < n → C.1 7 y = fz y) → (∀ y, y < x → C.1 6 y = fz y) → lv_has ls 3 [(2, .int (nI x)), (0, .ref (Ad 0))] → W p l e (k2_rm 0 0) s m args below meth c H locs 0 0 Q (F0 m 40 ls []) := by
  have hx := S.1
  have hb := S.2.1
  have hml := S.2.2.1
  have hown := S.2.2.2.1
  have hts := S.2.2.2.2
  intro f
  induction f with
  | zero => intro C H locs x ls hf; exact absurd hf (Nat.not_lt_zero _)
  | succ f ih =>
    intro C H locs x ls hf hP hS hB hx0 h7 hv hl
    have hF := fM_B hF0 hB
    refine lv_iload_n hx hb dX5_ahead_40 rfl (lv_at hl 0 rfl) ?_
    refine lv_aload_n hx hb dX5_ahead_41 rfl (lv_at hl 1 rfl) ?_
    refine pw_get hx hb hts (fun _ h9 => List.mem_cons_of_mem _ (List.mem_append_right _ h9)) hown hK hP 0 rfl rfl 0 (by decide) hF rfl (hts (.fieldLink RX5 64 "PastDrawsModel" "n" "I") (List.mem_of_getElem? (i := 1) rfl)) dX5_ahead_42 ?_
    refine pn_icmp_ge (tgt := 66) hx hb (by omega) (by omega) dX5_ahead_45 (by decide) (fun c_45 => ?_) (fun c_45 => ?_)
    · obtain rfl : x = n := by omega
      exact hq _ C H locs ls dX5_ahead_66 hP hS ⟨hB, hv⟩
    · refine lv_aload_n hx hb dX5_ahead_48 rfl (lv_at hl 1 rfl) ?_
      refine pw_get hx hb hts (fun _ h9 => List.mem_cons_of_mem _ (List.mem_append_right _ h9)) hown hK hP 0 rfl rfl 9 (by decide) hF rfl (hts (.fieldLink RX5 30 "PastDrawsModel" "whole" "[I") (List.mem_of_getElem? (i := 3) rfl)) dX5_ahead_49 ?_
      refine lv_iload_n hx hb dX5_ahead_52 rfl (lv_at hl 0 rfl) ?_
      refine lv_aload_n hx hb dX5_ahead_53 rfl (lv_at hl 1 rfl) ?_
      refine pw_get hx hb hts (fun _ h9 => List.mem_cons_of_mem _ (List.mem_append_right _ h9)) hown hK hP 0 rfl rfl 10 (by decide) hF rfl (hts (.fieldLink RX5 33 "PastDrawsModel" "next" "[I") (List.mem_of_getElem? (i := 2) rfl)) dX5_ahead_54 ?_
      refine lv_iload_n hx hb dX5_ahead_57 rfl (lv_at hl 0 rfl) ?_
      refine pw_iald hx hb hK hP 7 rfl (by omega) (by decide) (v := fz x) (h7 x (by omega)) dX5_ahead_58 ?_
      refine pw_iast hx hb hK hP hI hS 6 rfl (by omega) (by decide) dX5_ahead_59 (fun H locs hP hS => ?_)
      obtain ⟨C59, hC59⟩ : ∃ z9, z9 = pw_setI C 6 x (fz x) := ⟨_, rfl⟩
      rw [← hC59] at hP
      have hB := by have hB9 := hB; exact (show pw_B (fun k => k = 6 ∨ k = 7) C0 C59 by rw [hC59]; exact hB9.setI (by show 6 = 6 ∨ 6 = 7; first | trivial | omega))
      have hF := fM_B hF0 hB
      refine lv_iinc (v := nI (x + 1)) (lv' := [(2, .int (nI (x + 1))), (0, .ref (Ad 0))]) hx hb dX5_ahead_60 hl (k := 0) rfl (nI_add _ 1) (by decide) rfl (fun ls hl => ?_)
      refine lv_goto (tgt := 40) hx hb dX5_ahead_63 (by decide) ?_
      have e7 : C59.1 7 = C.1 7 := by rw [hC59]; exact si_ne (by decide)
      exact ih C59 H locs (x + 1) ls (by omega) hP hS hB (by omega) (fun y hy => by rw [e7]; exact h7 y hy) (fun y hy => by
        rw [hC59, si_at]
        by_cases q : y = x
        · rw [if_pos q, q]
        · rw [if_neg q]; exact hv y (by omega)) (lv_sub hl [0, 1] rfl)

set_option maxHeartbeats 4000000 in
set_option maxRecDepth 100000 in
theorem c_X5_ahead (l : Launch) (D : va_G) (cy : Nat → ClassId) (Ad : Nat → Nat) (n mm : Nat) (pk : Int64) (tr : Int32) (C : pw_C) (hI : pw_I Ad shM) (hn : 1 ≤ n ∧ n ≤ 12) (hF : fM n mm pk tr Ad C) (nx : Nat → Nat → Nat) (hN : rN n nx C) (u : Nat) (hu : u < 8) (mp : Nat → Nat) (hmp : ∀ x, x < n → C.1 6 x = nI (mp x)) : Met l yX5_ahead wsX5_ahead (k2_rm 0 0) (pw_Pre ([.ref (Ad 0), .int (nI u)]) D cy Ad shM C) (pw_Post (fun r9 C' => r9 = none ∧ (pw_B (fun k => k = 6 ∨ k = 7) C C' ∧ ∀ x, x < n → C'.1 6 x = nI (mp (nx u x)))) D cy Ad shM) 0 0 (pw_fr Ad shM) := by
  refine Met.ofW (cc := cX5_ahead) (maxL := 3) (ret := none) (by decide) rfl ?_
  intro p e s m args below meth c s₁ B hml hv
  obtain ⟨rfl, hP, hK⟩ := hv
  have hx := B.exec
  have hb := B.bytes
  have hr := B.returns
  have hts := atoms_spec (ws := wsX5_ahead) B.pre
  have hown : s.vm.findClass RX5 = some m.cls := findClass_of_methodNamed B.named
  have hlocks := B.notSynchronized
  have S : CallFix p m c cX5_ahead 3 s ([.ref (Ad 0), .int (nI u)]).toArray wsX5_ahead RX5 := ⟨hx, hb, hml, hown, hts⟩
  change W p l e (k2_rm 0 0) s m _ below meth c s.heap [] 0 0 _ _
  have hl := lv_entry ([.ref (Ad 0), .int (nI u)]) (n := 3) (Nat.le_of_ble_eq_true rfl)
  rw [lg_entry_eq]
  generalize (lg_sl ([.ref (Ad 0), .int (nI u)]) ++ List.replicate (3 - (lg_sl ([.ref (Ad 0), .int (nI u)])).length) Slot.unset).toArray = ls at hl ⊢
  have hl : lv_has ls 3 [(0, .ref (Ad 0)), (1, .int (nI u))] := hl
  have hS : va_S (pw_fr Ad shM) s.heap s.heap [] := va_S.rf
  refine lv_iconst (v := nI 0) hx hb dX5_ahead_0 (by decide) ?_
  refine lv_istore_n (lv' := [(2, .int (nI 0)), (0, .ref (Ad 0)), (1, .int (nI u))]) hx hb dX5_ahead_1 rfl hl (by decide) rfl (fun ls hl => ?_)
  refine L5_ahead_a S hK hI hF hn hN u hu mp hmp (fun C1 H locs ls hP hS hR hl => ?_) (n + 1) C s.heap [] 0 ls (by omega) hP hS pw_B.rf (by omega) rfl (fun y hy => by omega) (lv_sub hl [0, 2, 1] rfl)
  refine lv_iconst (v := nI 0) hx hb dX5_ahead_38 (by decide) ?_
  refine lv_istore_n (lv' := [(2, .int (nI 0)), (0, .ref (Ad 0))]) hx hb dX5_ahead_39 rfl hl (by decide) rfl (fun ls hl => ?_)
  exact L5_ahead_b S hK hI hF hn (fun y => nI (mp (nx u y))) (fun pc9 C9 H9 locs9 ls9 hd9 hP9 hS9 hR9 => W.vret hx hb hr (fun t ht _ => ⟨⟨none, C9, rfl, ⟨rfl, hR9⟩, by rw [ht]; exact hP9⟩, hS9.F ht⟩) hS9.2.2 hd9) (n + 1) C1 H locs 0 ls (by omega) hP hS hR.1 (by omega) hR.2.2 (fun y hy => by omega) (lv_sub hl [0, 1] rfl)

set_option maxHeartbeats 4000000 in
set_option maxRecDepth 100000 in
theorem L5_behind {p : Program} {l : Launch} {e : Env} {s : State} {m : MethodId} {args : Array Value} {below : List Frame} {meth : Method} {c : Code} {Q : State → Prop} (S : CallFix p m c cX5_behind 3 s args wsX5_behind RX5) {D : va_G} {cy : Nat → ClassId} {Ad : Nat → Nat} {n mm : Nat} {pk : Int64} {tr : Int32} {C0 : pw_C} (hK : pw_K D cy s) (hI : pw_I Ad shM) (hF0 : fM n mm pk tr Ad C0) (hn : 1 ≤ n ∧ n ≤ 12) {nx : Nat → Nat → Nat} (hN0 : rN n nx C0) (u : Nat) (hu : u < 8) (mp : Nat → Nat) (hmp : ∀ x, x < n → mp x < n) (hq : ∀ (pc9 : Nat) (C : pw_C) (H : Heap) (locs : List Loc) (ls : Array Slot), decode cX5_behind pc9 = .ok (.return_, 1) → pw_P D cy Ad shM C H → va_S (pw_fr Ad shM) s.heap H locs → (pw_B (fun k => k = 6) C0 C ∧ ∀ y, y < n → C.1 6 y = nI (nx u (mp y))) → W p l e (k2_rm 0 0) s m args below meth c H locs 0 0 Q (F0 m pc9 ls [])) : ∀ (f : Nat) (C : pw_C) (H : Heap) (locs : List Loc) (x : Nat) (ls : Array Slot), n - x < f → (pw_P D cy Ad shM C H) → (va_S (pw_fr Ad shM) s.heap H locs) → (pw_B (fun k => k = 6) C0 C) → (x ≤ n) → (∀ y, y < n → C.1 6 y = if y < x then nI (nx u (mp y)) else nI (mp y)) → lv_has ls 3 [(2, .int (nI x)), (1, .int (nI u)), (0, .ref (Ad 0))] → W p l e (k2_rm 0 0) s m args below meth c H locs 0 0 Q (F0 m 2 ls []) := by
  have hx := S.1
  have hb := S.2.1
  have hml := S.2.2.1
  have hown := S.2.2.2.1
  have hts := S.2.2.2.2
  intro f
  induction f with
  | zero => intro C H locs x ls hf; exact absurd hf (Nat.not_lt_zero _)
  | succ f ih =>
    intro C H locs x ls hf hP hS hB hx0 hv hl
    have hF := fM_B hF0 hB
    have hN := rN_B hN0 hB (by omega)
    have h6 : ∀ y, x ≤ y ∧ y < n → C.1 6 y = nI (mp y) := fun y hy => by rw [hv y hy.2, if_neg (by omega)]
    refine lv_iload_n hx hb dX5_behind_2 rfl (lv_at hl 0 rfl) ?_
    refine lv_aload_n hx hb dX5_behind_3 rfl (lv_at hl 2 rfl) ?_
    refine pw_get hx hb hts (fun _ h9 => List.mem_cons_of_mem _ (List.mem_append_right _ h9)) hown hK hP 0 rfl rfl 0 (by decide) hF rfl (hts (.fieldLink RX5 64 "PastDrawsModel" "n" "I") (List.mem_of_getElem? (i := 1) rfl)) dX5_behind_4 ?_
    refine pn_icmp_ge (tgt := 38) hx hb (by omega) (by omega) dX5_behind_7 (by decide) (fun c_7 => ?_) (fun c_7 => ?_)
    · obtain rfl : x = n := by omega
      exact hq _ C H locs ls dX5_behind_38 hP hS ⟨hB, fun y hy => by have := hv y hy; rw [if_pos hy] at this; exact this⟩
    · refine lv_aload_n hx hb dX5_behind_10 rfl (lv_at hl 2 rfl) ?_
      refine pw_get hx hb hts (fun _ h9 => List.mem_cons_of_mem _ (List.mem_append_right _ h9)) hown hK hP 0 rfl rfl 9 (by decide) hF rfl (hts (.fieldLink RX5 30 "PastDrawsModel" "whole" "[I") (List.mem_of_getElem? (i := 2) rfl)) dX5_behind_11 ?_
      refine lv_iload_n hx hb dX5_behind_14 rfl (lv_at hl 0 rfl) ?_
      refine lv_aload_n hx hb dX5_behind_15 rfl (lv_at hl 2 rfl) ?_
      refine pw_get hx hb hts (fun _ h9 => List.mem_cons_of_mem _ (List.mem_append_right _ h9)) hown hK hP 0 rfl rfl 1 (by decide) hF rfl (hts (.fieldLink RX5 7 "PastDrawsModel" "rules" "[I") (List.mem_of_getElem? (i := 3) rfl)) dX5_behind_16 ?_
      refine lv_bipush (v := nI 8) hx hb dX5_behind_19 (by decide) ?_
      refine lv_aload_n hx hb dX5_behind_21 rfl (lv_at hl 2 rfl) ?_
      refine pw_get hx hb hts (fun _ h9 => List.mem_cons_of_mem _ (List.mem_append_right _ h9)) hown hK hP 0 rfl rfl 9 (by decide) hF rfl (hts (.fieldLink RX5 30 "PastDrawsModel" "whole" "[I") (List.mem_of_getElem? (i := 2) rfl)) dX5_behind_22 ?_
      refine lv_iload_n hx hb dX5_behind_25 rfl (lv_at hl 0 rfl) ?_
      have hm9 := hmp x (by omega)
      refine pw_iald hx hb hK hP 6 rfl (by omega) (by decide) (v := nI (mp x)) (h6 x (by omega)) dX5_behind_26 ?_
      refine lv_imul hx hb dX5_behind_27 ?_
      refine pw_topi (pk_mul _ _) ?_
      refine lv_iload_n hx hb dX5_behind_28 rfl (lv_at hl 1 rfl) ?_
      refine lv_iadd hx hb dX5_behind_29 ?_
      refine pw_topi (nI_add _ _) ?_
      have hu_30 : u < 8 := (by first | exact sgn_lt _ _ | omega)
      have hx_30 : (mp x) < n := (hmp x (by omega))
      have q_30 : nx u (mp x) < n := (hN _ hu_30 _ hx_30).1
      refine pw_iald hx hb hK hP 1 rfl (by omega) (by decide) (v := nI (nx u (mp x))) (hN _ hu_30 _ hx_30).2 dX5_behind_30 ?_
      refine pw_iast hx hb hK hP hI hS 6 rfl (by omega) (by decide) dX5_behind_31 (fun H locs hP hS => ?_)
      obtain ⟨C31, hC31⟩ : ∃ z9, z9 = pw_setI C 6 x (nI (nx u (mp x))) := ⟨_, rfl⟩
      rw [← hC31] at hP
      have hB := by have hB9 := hB; exact (show pw_B (fun k => k = 6) C0 C31 by rw [hC31]; exact hB9.setI (by show 6 = 6; first | trivial | omega))
      have hF := fM_B hF0 hB
      have hN := rN_B hN0 hB (by omega)
      refine lv_iinc (v := nI (x + 1)) (lv' := [(2, .int (nI (x + 1))), (1, .int (nI u)), (0, .ref (Ad 0))]) hx hb dX5_behind_32 hl (k := 0) rfl (nI_add _ 1) (by decide) rfl (fun ls hl => ?_)
      refine lv_goto (tgt := 2) hx hb dX5_behind_35 (by decide) ?_
      exact ih C31 H locs (x + 1) ls (by omega) hP hS hB (by omega) (fun y hy => by
        rw [hC31, si_at]
        by_cases q : y = x
        · rw [if_pos q, if_pos (by omega), q]
        · rw [if_neg q, hv y hy]
          by_cases q2 : y < x
          · rw [if_pos q2, if_pos (by omega)]
          · rw [if_neg q2, if_neg (by omega)]) (lv_sub hl [0, 1, 2] rfl)

set_option maxHeartbeats 4000000 in
set_option maxRecDepth 100000 in
theorem c_X5_behind (l : Launch) (D : va_G) (cy : Nat → ClassId) (Ad : Nat → Nat) (n mm : Nat) (pk : Int64) (tr : Int32) (C : pw_C) (hI : pw_I Ad shM) (hn : 1 ≤ n ∧ n ≤ 12) (hF : fM n mm pk tr Ad C) (nx : Nat → Nat → Nat) (hN : rN n nx C) (u : Nat) (hu : u < 8) (mp : Nat → Nat) (hmp : ∀ x, x < n → mp x < n) (h6 : ∀ x, x < n → C.1 6 x = nI (mp x)) : Met l yX5_behind wsX5_behind (k2_rm 0 0) (pw_Pre ([.ref (Ad 0), .int (nI u)]) D cy Ad shM C) (pw_Post (fun r9 C' => r9 = none ∧ (pw_B (fun k => k = 6) C C' ∧ ∀ x, x < n → C'.1 6 x = nI (nx u (mp x)))) D cy Ad shM) 0 0 (pw_fr Ad shM) := by
  refine Met.ofW (cc := cX5_behind) (maxL := 3) (ret := none) (by decide) rfl ?_
  intro p e s m args below meth c s₁ B hml hv
  obtain ⟨rfl, hP, hK⟩ := hv
  have hx := B.exec
  have hb := B.bytes
  have hr := B.returns
  have hts := atoms_spec (ws := wsX5_behind) B.pre
  have hown : s.vm.findClass RX5 = some m.cls := findClass_of_methodNamed B.named
  have hlocks := B.notSynchronized
  have S : CallFix p m c cX5_behind 3 s ([.ref (Ad 0), .int (nI u)]).toArray wsX5_behind RX5 := ⟨hx, hb, hml, hown, hts⟩
  change W p l e (k2_rm 0 0) s m _ below meth c s.heap [] 0 0 _ _
  have hl := lv_entry ([.ref (Ad 0), .int (nI u)]) (n := 3) (Nat.le_of_ble_eq_true rfl)
  rw [lg_entry_eq]
  generalize (lg_sl ([.ref (Ad 0), .int (nI u)]) ++ List.replicate (3 - (lg_sl ([.ref (Ad 0), .int (nI u)])).length) Slot.unset).toArray = ls at hl ⊢
  have hl : lv_has ls 3 [(0, .ref (Ad 0)), (1, .int (nI u))] := hl
  have hS : va_S (pw_fr Ad shM) s.heap s.heap [] := va_S.rf
  refine lv_iconst (v := nI 0) hx hb dX5_behind_0 (by decide) ?_
  refine lv_istore_n (lv' := [(2, .int (nI 0)), (0, .ref (Ad 0)), (1, .int (nI u))]) hx hb dX5_behind_1 rfl hl (by decide) rfl (fun ls hl => ?_)
  exact L5_behind S hK hI hF hn hN u hu mp hmp (fun pc9 C9 H9 locs9 ls9 hd9 hP9 hS9 hR9 => W.vret hx hb hr (fun t ht _ => ⟨⟨none, C9, rfl, ⟨rfl, hR9⟩, by rw [ht]; exact hP9⟩, hS9.F ht⟩) hS9.2.2 hd9) (n + 1) C s.heap [] 0 ls (by omega) hP hS pw_B.rf (by omega) (fun y hy => by rw [if_neg (by omega)]; exact h6 y hy) (lv_sub hl [0, 2, 1] rfl)

theorem mt_succ (mp : Nat → Nat) (x : Nat) : mtF mp (x + 1) = (mtF mp x && decide (mp x = mp 0)) := by
  unfold mtF
  rw [List.range_succ, List.all_append]
  simp
theorem mt_one (mp : Nat → Nat) : mtF mp 1 = true := mt_iff.mpr (fun x hx => by obtain rfl : x = 0 := (by omega); rfl)

set_option maxHeartbeats 4000000 in
set_option maxRecDepth 100000 in
theorem L5_meets {p : Program} {l : Launch} {e : Env} {s : State} {m : MethodId} {args : Array Value} {below : List Frame} {meth : Method} {c : Code} {H : Heap} {locs : List Loc} {Q : State → Prop} (S : CallFix p m c cX5_meets 3 s args wsX5_meets RX5) {D : va_G} {cy : Nat → ClassId} {Ad : Nat → Nat} {n mm : Nat} {pk : Int64} {tr : Int32} {C : pw_C} (hK : pw_K D cy s) (hP : pw_P D cy Ad shM C H) (hF : fM n mm pk tr Ad C) (hn : 1 ≤ n ∧ n ≤ 12) (mp : Nat → Nat) (hmp : ∀ x, x < n → mp x < n ∧ C.1 6 x = nI (mp x)) (hq : ∀ (pc9 : Nat) (ls : Array Slot), decode cX5_meets pc9 = .ok (.ireturn, 1) → W p l e (k2_rm 0 0) s m args below meth c H locs 0 0 Q (F0 m pc9 ls [.int (pb (mtF mp n))])) : ∀ (f : Nat) (x : Nat) (ls : Array Slot), n - x < f → (x ≤ n ∧ 1 ≤ x) → lv_has ls 3 [(1, .int (pb (mtF mp x))), (2, .int (nI x)), (0, .ref (Ad 0))] → W p l e (k2_rm 0 0) s m args below meth c H locs 0 0 Q (F0 m 4 ls []) := by
  have hx := S.1
  have hb := S.2.1
  have hml := S.2.2.1
  have hown := S.2.2.2.1
  have hts := S.2.2.2.2
  intro f
  induction f with
  | zero => intro x ls hf; exact absurd hf (Nat.not_lt_zero _)
  | succ f ih =>
    intro x ls hf hx0 hl
    refine lv_iload_n hx hb dX5_meets_4 rfl (lv_at hl 1 rfl) ?_
    refine lv_aload_n hx hb dX5_meets_5 rfl (lv_at hl 2 rfl) ?_
    refine pw_get hx hb hts (fun _ h9 => List.mem_cons_of_mem _ (List.mem_append_right _ h9)) hown hK hP 0 rfl rfl 0 (by decide) hF rfl (hts (.fieldLink RX5 64 "PastDrawsModel" "n" "I") (List.mem_of_getElem? (i := 1) rfl)) dX5_meets_6 ?_
    refine pn_icmp_ge (tgt := 43) hx hb (by first | omega | (have q9 := (hmp x (by omega)).1; have q8 := (hmp 0 (by omega)).1; omega)) (by first | omega | (have q9 := (hmp x (by omega)).1; have q8 := (hmp 0 (by omega)).1; omega)) dX5_meets_9 (by decide) (fun c_9 => ?_) (fun c_9 => ?_)
    · have hxe : x = n := by omega
      refine lv_iload_n hx hb dX5_meets_43 rfl (lv_at hl 0 rfl) ?_
      refine pw_topi (y := pb (mtF mp n)) (by rw [hxe]) ?_
      exact hq _ ls dX5_meets_44
    · refine lv_iload_n hx hb dX5_meets_12 rfl (lv_at hl 0 rfl) ?_
      refine pn_ifeq_b (tgt := 35) hx hb dX5_meets_13 (by decide) (fun c_13 => ?_) (fun c_13 => ?_)
      · refine lv_iconst (v := nI 0) hx hb dX5_meets_35 (by decide) ?_
        refine lv_istore_n (lv' := [(1, .int (nI 0)), (2, .int (nI x)), (0, .ref (Ad 0))]) hx hb dX5_meets_36 rfl hl (by decide) rfl (fun ls hl => ?_)
        refine lv_iinc (v := nI (x + 1)) (lv' := [(2, .int (nI (x + 1))), (1, .int (nI 0)), (0, .ref (Ad 0))]) hx hb dX5_meets_37 hl (k := 1) rfl (nI_add _ 1) (by decide) rfl (fun ls hl => ?_)
        refine lv_goto (tgt := 4) hx hb dX5_meets_40 (by decide) ?_
        have e9 : nI 0 = pb (mtF mp (x + 1)) := by rw [mt_succ]; first | (rw [c_13]; rfl) | (rw [c_13, decide_eq_false c_28]; rfl) | (rw [c_13, decide_eq_true c_28]; rfl)
        exact ih (x + 1) ls (by omega) (by omega) (by rw [← e9]; exact (lv_sub hl [1, 0, 2] rfl))
      · refine lv_aload_n hx hb dX5_meets_16 rfl (lv_at hl 2 rfl) ?_
        refine pw_get hx hb hts (fun _ h9 => List.mem_cons_of_mem _ (List.mem_append_right _ h9)) hown hK hP 0 rfl rfl 9 (by decide) hF rfl (hts (.fieldLink RX5 30 "PastDrawsModel" "whole" "[I") (List.mem_of_getElem? (i := 2) rfl)) dX5_meets_17 ?_
        refine lv_iload_n hx hb dX5_meets_20 rfl (lv_at hl 1 rfl) ?_
        refine pw_iald hx hb hK hP 6 rfl (by omega) (by decide) (v := nI (mp x)) (hmp x (by omega)).2 dX5_meets_21 ?_
        refine lv_aload_n hx hb dX5_meets_22 rfl (lv_at hl 2 rfl) ?_
        refine pw_get hx hb hts (fun _ h9 => List.mem_cons_of_mem _ (List.mem_append_right _ h9)) hown hK hP 0 rfl rfl 9 (by decide) hF rfl (hts (.fieldLink RX5 30 "PastDrawsModel" "whole" "[I") (List.mem_of_getElem? (i := 2) rfl)) dX5_meets_23 ?_
        refine lv_iconst (v := nI 0) hx hb dX5_meets_26 (by decide) ?_
        refine pw_iald hx hb hK hP 6 rfl (by omega) (by decide) (v := nI (mp 0)) (hmp 0 (by omega)).2 dX5_meets_27 ?_
        refine pn_icmp_ne (tgt := 35) hx hb (by first | omega | (have q9 := (hmp x (by omega)).1; have q8 := (hmp 0 (by omega)).1; omega)) (by first | omega | (have q9 := (hmp x (by omega)).1; have q8 := (hmp 0 (by omega)).1; omega)) dX5_meets_28 (by decide) (fun c_28 => ?_) (fun c_28 => ?_)
        · refine lv_iconst (v := nI 0) hx hb dX5_meets_35 (by decide) ?_
          refine lv_istore_n (lv' := [(1, .int (nI 0)), (2, .int (nI x)), (0, .ref (Ad 0))]) hx hb dX5_meets_36 rfl hl (by decide) rfl (fun ls hl => ?_)
          refine lv_iinc (v := nI (x + 1)) (lv' := [(2, .int (nI (x + 1))), (1, .int (nI 0)), (0, .ref (Ad 0))]) hx hb dX5_meets_37 hl (k := 1) rfl (nI_add _ 1) (by decide) rfl (fun ls hl => ?_)
          refine lv_goto (tgt := 4) hx hb dX5_meets_40 (by decide) ?_
          have e9 : nI 0 = pb (mtF mp (x + 1)) := by rw [mt_succ]; first | (rw [c_13]; rfl) | (rw [c_13, decide_eq_false c_28]; rfl) | (rw [c_13, decide_eq_true c_28]; rfl)
          exact ih (x + 1) ls (by omega) (by omega) (by rw [← e9]; exact (lv_sub hl [1, 0, 2] rfl))
        · refine lv_iconst (v := nI 1) hx hb dX5_meets_31 (by decide) ?_
          refine lv_goto (tgt := 36) hx hb dX5_meets_32 (by decide) ?_
          refine lv_istore_n (lv' := [(1, .int (nI 1)), (2, .int (nI x)), (0, .ref (Ad 0))]) hx hb dX5_meets_36 rfl hl (by decide) rfl (fun ls hl => ?_)
          refine lv_iinc (v := nI (x + 1)) (lv' := [(2, .int (nI (x + 1))), (1, .int (nI 1)), (0, .ref (Ad 0))]) hx hb dX5_meets_37 hl (k := 1) rfl (nI_add _ 1) (by decide) rfl (fun ls hl => ?_)
          refine lv_goto (tgt := 4) hx hb dX5_meets_40 (by decide) ?_
          have e9 : nI 1 = pb (mtF mp (x + 1)) := by rw [mt_succ]; first | (rw [c_13]; rfl) | (rw [c_13, decide_eq_false c_28]; rfl) | (rw [c_13, decide_eq_true c_28]; rfl)
          exact ih (x + 1) ls (by omega) (by omega) (by rw [← e9]; exact (lv_sub hl [1, 0, 2] rfl))

set_option maxHeartbeats 4000000 in
set_option maxRecDepth 100000 in
theorem c_X5_meets (l : Launch) (D : va_G) (cy : Nat → ClassId) (Ad : Nat → Nat) (n mm : Nat) (pk : Int64) (tr : Int32) (C : pw_C) (hn : 1 ≤ n ∧ n ≤ 12) (hF : fM n mm pk tr Ad C) (mp : Nat → Nat) (hmp : ∀ x, x < n → mp x < n ∧ C.1 6 x = nI (mp x)) : Met l yX5_meets wsX5_meets (k2_rm 0 0) (pw_Pre ([.ref (Ad 0)]) D cy Ad shM C) (k2_QcV (.int (pb (mtF mp n)))) 0 0 (fun _ => False) := by
  refine Met.ofW (cc := cX5_meets) (maxL := 3) (ret := (some .boolean)) (by decide) rfl ?_
  intro p e s m args below meth c s₁ B hml hv
  obtain ⟨rfl, hP, hK⟩ := hv
  have hx := B.exec
  have hb := B.bytes
  have hr := B.returns
  have hts := atoms_spec (ws := wsX5_meets) B.pre
  have hown : s.vm.findClass RX5 = some m.cls := findClass_of_methodNamed B.named
  have hlocks := B.notSynchronized
  have S : CallFix p m c cX5_meets 3 s ([.ref (Ad 0)]).toArray wsX5_meets RX5 := ⟨hx, hb, hml, hown, hts⟩
  change W p l e (k2_rm 0 0) s m _ below meth c s.heap [] 0 0 _ _
  have hl := lv_entry ([.ref (Ad 0)]) (n := 3) (Nat.le_of_ble_eq_true rfl)
  rw [lg_entry_eq]
  generalize (lg_sl ([.ref (Ad 0)]) ++ List.replicate (3 - (lg_sl ([.ref (Ad 0)])).length) Slot.unset).toArray = ls at hl ⊢
  have hl : lv_has ls 3 [(0, .ref (Ad 0))] := hl
  refine lv_iconst (v := nI 1) hx hb dX5_meets_0 (by decide) ?_
  refine lv_istore_n (lv' := [(1, .int (nI 1)), (0, .ref (Ad 0))]) hx hb dX5_meets_1 rfl hl (by decide) rfl (fun ls hl => ?_)
  refine lv_iconst (v := nI 1) hx hb dX5_meets_2 (by decide) ?_
  refine lv_istore_n (lv' := [(2, .int (nI 1)), (1, .int (nI 1)), (0, .ref (Ad 0))]) hx hb dX5_meets_3 rfl hl (by decide) rfl (fun ls hl => ?_)
  exact L5_meets S hK hP hF hn mp hmp (fun pc9 ls hd9 => W.zret hx hb hr (pb_nar _) (fun t ht _ => ⟨rfl, ht⟩) (fun q h => by cases h) hd9) n 1 ls (by omega) (by omega) (by rw [mt_one]; exact (lv_sub hl [1, 0, 2] rfl))
