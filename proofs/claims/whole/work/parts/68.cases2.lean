set_option maxHeartbeats 4000000 in
set_option maxRecDepth 100000 in
theorem K_monotone {p : Program} {l : Launch} {e : Env} {s : State} {m : MethodId} {below : List Frame} {meth : Method} {c : Code} {b L : Nat} {xs : Nat → Int32} {D : va_G} {cy : Nat → ClassId} {Ad Ad2 : Nat → Nat} {n : Nat} (E : lw_E p s m c b L xs D cy Ad Ad2 n) (hL : L ≤ 2561) {i : Nat} (hi : i + 4 < L) {mm : Nat} {nx : Nat → Nat → Nat} {mx : Nat → Nat → Option Nat} {en : Nat → Bool} {am wt : Nat → Nat} {C C2 : pw_C} {H : Heap} {locs : List Loc} {ls : Array Slot} (Iv : lw_I s D cy Ad Ad2 n mm nx mx en am wt C C2 H locs) (hl : lv_has ls 4 [(3, .int (nI i)), (2, .ref (Ad2 0)), (1, .ref (Ad 0)), (0, .ref b)]) (hq : ∀ (mm : Nat) (nx : Nat → Nat → Nat) (mx : Nat → Nat → Option Nat) (en : Nat → Bool) (am wt : Nat → Nat) (C C2 : pw_C) (H : Heap) (locs : List Loc) (ls : Array Slot), lw_I s D cy Ad Ad2 n mm nx mx en am wt C C2 H locs → lv_has ls 4 [(3, .int (nI i)), (2, .ref (Ad2 0)), (1, .ref (Ad 0)), (0, .ref b)] → W p l e room_1 s m #[Value.ref b] below meth c H locs 600000 7302250 (lw_Z below #[Value.ref b] s) (F0 m 1137 ls [])) : W p l e room_1 s m #[Value.ref b] below meth c H locs 600000 7302250 (lw_Z below #[Value.ref b] s) (F0 m 501 ls []) := by
  obtain ⟨S, hX0, hbl, hK, hI, hI2, hn, hd12, hd21, hge, hge2⟩ := E
  obtain ⟨hmm, hP, hP2, hX, hM, hS⟩ := Iv
  have hbA : ¬ (fun q : Nat => s.heap.size ≤ q) b := Nat.not_le.mpr hbl
  have hx := S.1
  have hb := S.2.1
  have hown := S.2.2.2.1
  have hts := S.2.2.2.2
  refine lv_aload_n hx hb dL_law_501 rfl (lv_at hl 2 rfl) ?_
  refine pw_cv S hK hP 0 4 rfl rfl 0 (c_X4_monotone l D cy Ad n mm C hI hn hmm nx mx en am wt hX ) gL_law_X4_monotone rfl rfl rfl (by decide +kernel) ⟨Nat.le_of_ble_eq_true rfl, Nat.le_of_ble_eq_true rfl⟩ rfl hl.1 rfl (Nat.le_of_ble_eq_true rfl) dL_law_502 ⟨Nat.le_refl _, Nat.le_refl _⟩ ?_
  refine lv_aload_n hx hb dL_law_505 rfl (lv_at hl 1 rfl) ?_
  refine pw_cv S hK hP2 0 5 rfl rfl 0 (c_X5_monotone l D cy Ad2 n mm C2 hI2 hn hmm nx mx en am wt hM ) gL_law_X5_monotone rfl rfl rfl (by decide +kernel) ⟨Nat.le_of_ble_eq_true rfl, Nat.le_of_ble_eq_true rfl⟩ rfl hl.1 rfl (Nat.le_of_ble_eq_true rfl) dL_law_506 ⟨Nat.le_refl _, Nat.le_refl _⟩ ?_
  refine lv_icmp_eq (tgt := 1137) hx hb dL_law_509 (by decide) (fun c_509 => ?_) (fun c_509 => absurd c_509 (fun h9 => h9 rfl))
  exact hq _ _ _ _ _ _ _ _ _ _ ls ⟨hmm, hP, hP2, hX, hM, hS⟩ hl

set_option maxHeartbeats 4000000 in
set_option maxRecDepth 100000 in
theorem K_counted {p : Program} {l : Launch} {e : Env} {s : State} {m : MethodId} {below : List Frame} {meth : Method} {c : Code} {b L : Nat} {xs : Nat → Int32} {D : va_G} {cy : Nat → ClassId} {Ad Ad2 : Nat → Nat} {n : Nat} (E : lw_E p s m c b L xs D cy Ad Ad2 n) (hL : L ≤ 2561) {i : Nat} (hi : i + 4 < L) {mm : Nat} {nx : Nat → Nat → Nat} {mx : Nat → Nat → Option Nat} {en : Nat → Bool} {am wt : Nat → Nat} {C C2 : pw_C} {H : Heap} {locs : List Loc} {ls : Array Slot} (Iv : lw_I s D cy Ad Ad2 n mm nx mx en am wt C C2 H locs) (hl : lv_has ls 4 [(3, .int (nI i)), (2, .ref (Ad2 0)), (1, .ref (Ad 0)), (0, .ref b)]) (hq : ∀ (mm : Nat) (nx : Nat → Nat → Nat) (mx : Nat → Nat → Option Nat) (en : Nat → Bool) (am wt : Nat → Nat) (C C2 : pw_C) (H : Heap) (locs : List Loc) (ls : Array Slot), lw_I s D cy Ad Ad2 n mm nx mx en am wt C C2 H locs → lv_has ls 4 [(3, .int (nI i)), (2, .ref (Ad2 0)), (1, .ref (Ad 0)), (0, .ref b)] → W p l e room_1 s m #[Value.ref b] below meth c H locs 600000 7302250 (lw_Z below #[Value.ref b] s) (F0 m 1137 ls [])) : W p l e room_1 s m #[Value.ref b] below meth c H locs 600000 7302250 (lw_Z below #[Value.ref b] s) (F0 m 514 ls []) := by
  obtain ⟨S, hX0, hbl, hK, hI, hI2, hn, hd12, hd21, hge, hge2⟩ := E
  obtain ⟨hmm, hP, hP2, hX, hM, hS⟩ := Iv
  have hbA : ¬ (fun q : Nat => s.heap.size ≤ q) b := Nat.not_le.mpr hbl
  have hx := S.1
  have hb := S.2.1
  have hown := S.2.2.2.1
  have hts := S.2.2.2.2
  refine lv_aload_n hx hb dL_law_514 rfl (lv_at hl 2 rfl) ?_
  refine lv_aload_n hx hb dL_law_515 rfl (lv_at hl 3 rfl) ?_
  refine lv_iload_n hx hb dL_law_516 rfl (lv_at hl 0 rfl) ?_
  refine lv_iconst (v := nI 1) hx hb dL_law_517 (by decide) ?_
  refine lv_iadd hx hb dL_law_518 ?_
  refine pw_topi (nI_add _ _) ?_
  refine va_sld hx hb hX0 hbl hbA hS (vp_in_nI (by omega) (by omega)) dL_law_519 ?_
  refine pw_topi (y := xs (i + 1)) (congrArg xs (nI_clamp (by omega))) ?_
  refine lv_aload_n hx hb dL_law_520 rfl (lv_at hl 3 rfl) ?_
  refine lv_iload_n hx hb dL_law_521 rfl (lv_at hl 0 rfl) ?_
  refine lv_iconst (v := nI 2) hx hb dL_law_522 (by decide) ?_
  refine lv_iadd hx hb dL_law_523 ?_
  refine pw_topi (nI_add _ _) ?_
  refine va_sld hx hb hX0 hbl hbA hS (vp_in_nI (by omega) (by omega)) dL_law_524 ?_
  refine pw_topi (y := xs (i + 2)) (congrArg xs (nI_clamp (by omega))) ?_
  refine pw_cvW S hK hP 0 4 rfl rfl 2 (c_X4_counted l D cy Ad n mm C hI hn hmm nx mx en am wt hX (xs (i + 1)) (xs (i + 2))) gL_law_X4_counted rfl rfl rfl (by decide +kernel) ⟨Nat.le_of_ble_eq_true rfl, Nat.le_of_ble_eq_true rfl⟩ rfl hl.1 rfl (Nat.le_of_ble_eq_true rfl) dL_law_525 ⟨Nat.le_refl _, Nat.le_refl _⟩ hS hge (fun r9 C1 H1 locs1 hR hP hz9 hk9 hS => ?_)
  obtain ⟨rfl, hX1⟩ := hR
  have hP2 := hP2.kp hk9 hd12
  change W p l e room_1 s m _ below meth c _ _ _ _ _ (F0 m 528 ls [.int (f_counted n nx (xs (i + 1)) (xs (i + 2)))])
  refine lv_aload_n hx hb dL_law_528 rfl (lv_at hl 1 rfl) ?_
  refine lv_aload_n hx hb dL_law_529 rfl (lv_at hl 3 rfl) ?_
  refine lv_iload_n hx hb dL_law_530 rfl (lv_at hl 0 rfl) ?_
  refine lv_iconst (v := nI 1) hx hb dL_law_531 (by decide) ?_
  refine lv_iadd hx hb dL_law_532 ?_
  refine pw_topi (nI_add _ _) ?_
  refine va_sld hx hb hX0 hbl hbA hS (vp_in_nI (by omega) (by omega)) dL_law_533 ?_
  refine pw_topi (y := xs (i + 1)) (congrArg xs (nI_clamp (by omega))) ?_
  refine lv_aload_n hx hb dL_law_534 rfl (lv_at hl 3 rfl) ?_
  refine lv_iload_n hx hb dL_law_535 rfl (lv_at hl 0 rfl) ?_
  refine lv_iconst (v := nI 2) hx hb dL_law_536 (by decide) ?_
  refine lv_iadd hx hb dL_law_537 ?_
  refine pw_topi (nI_add _ _) ?_
  refine va_sld hx hb hX0 hbl hbA hS (vp_in_nI (by omega) (by omega)) dL_law_538 ?_
  refine pw_topi (y := xs (i + 2)) (congrArg xs (nI_clamp (by omega))) ?_
  refine pw_cvW S hK hP2 0 5 rfl rfl 2 (c_X5_counted l D cy Ad2 n mm C2 hI2 hn hmm nx mx en am wt hM (xs (i + 1)) (xs (i + 2))) gL_law_X5_counted rfl rfl rfl (by decide +kernel) ⟨Nat.le_of_ble_eq_true rfl, Nat.le_of_ble_eq_true rfl⟩ rfl hl.1 rfl (Nat.le_of_ble_eq_true rfl) dL_law_539 ⟨Nat.le_refl _, Nat.le_refl _⟩ hS hge2 (fun r9 C3 H3 locs3 hR hP2 hz9 hk9 hS => ?_)
  obtain ⟨rfl, hM1⟩ := hR
  have hP := hP.kp hk9 hd21
  change W p l e room_1 s m _ below meth c _ _ _ _ _ (F0 m 542 ls [.int (f_counted n nx (xs (i + 1)) (xs (i + 2))), .int (f_counted n nx (xs (i + 1)) (xs (i + 2)))])
  refine lv_icmp_eq (tgt := 1137) hx hb dL_law_542 (by decide) (fun c_542 => ?_) (fun c_542 => absurd c_542 (fun h9 => h9 rfl))
  exact hq _ _ _ _ _ _ _ _ _ _ ls ⟨hmm, hP, hP2, hX1, hM1, hS⟩ hl

set_option maxHeartbeats 4000000 in
set_option maxRecDepth 100000 in
theorem K_trees {p : Program} {l : Launch} {e : Env} {s : State} {m : MethodId} {below : List Frame} {meth : Method} {c : Code} {b L : Nat} {xs : Nat → Int32} {D : va_G} {cy : Nat → ClassId} {Ad Ad2 : Nat → Nat} {n : Nat} (E : lw_E p s m c b L xs D cy Ad Ad2 n) (hL : L ≤ 2561) {i : Nat} (hi : i + 4 < L) {mm : Nat} {nx : Nat → Nat → Nat} {mx : Nat → Nat → Option Nat} {en : Nat → Bool} {am wt : Nat → Nat} {C C2 : pw_C} {H : Heap} {locs : List Loc} {ls : Array Slot} (Iv : lw_I s D cy Ad Ad2 n mm nx mx en am wt C C2 H locs) (hl : lv_has ls 4 [(3, .int (nI i)), (2, .ref (Ad2 0)), (1, .ref (Ad 0)), (0, .ref b)]) (hq : ∀ (mm : Nat) (nx : Nat → Nat → Nat) (mx : Nat → Nat → Option Nat) (en : Nat → Bool) (am wt : Nat → Nat) (C C2 : pw_C) (H : Heap) (locs : List Loc) (ls : Array Slot), lw_I s D cy Ad Ad2 n mm nx mx en am wt C C2 H locs → lv_has ls 4 [(3, .int (nI i)), (2, .ref (Ad2 0)), (1, .ref (Ad 0)), (0, .ref b)] → W p l e room_1 s m #[Value.ref b] below meth c H locs 600000 7302250 (lw_Z below #[Value.ref b] s) (F0 m 1137 ls [])) : W p l e room_1 s m #[Value.ref b] below meth c H locs 600000 7302250 (lw_Z below #[Value.ref b] s) (F0 m 547 ls []) := by
  obtain ⟨S, hX0, hbl, hK, hI, hI2, hn, hd12, hd21, hge, hge2⟩ := E
  obtain ⟨hmm, hP, hP2, hX, hM, hS⟩ := Iv
  have hbA : ¬ (fun q : Nat => s.heap.size ≤ q) b := Nat.not_le.mpr hbl
  have hx := S.1
  have hb := S.2.1
  have hown := S.2.2.2.1
  have hts := S.2.2.2.2
  refine lv_aload_n hx hb dL_law_547 rfl (lv_at hl 2 rfl) ?_
  refine lv_aload_n hx hb dL_law_548 rfl (lv_at hl 3 rfl) ?_
  refine lv_iload_n hx hb dL_law_549 rfl (lv_at hl 0 rfl) ?_
  refine lv_iconst (v := nI 1) hx hb dL_law_550 (by decide) ?_
  refine lv_iadd hx hb dL_law_551 ?_
  refine pw_topi (nI_add _ _) ?_
  refine va_sld hx hb hX0 hbl hbA hS (vp_in_nI (by omega) (by omega)) dL_law_552 ?_
  refine pw_topi (y := xs (i + 1)) (congrArg xs (nI_clamp (by omega))) ?_
  refine pw_cvW S hK hP 0 4 rfl rfl 1 (c_X4_trees l D cy Ad n mm C hI hn hmm nx mx en am wt hX (xs (i + 1))) gL_law_X4_trees rfl rfl rfl (by decide +kernel) ⟨Nat.le_of_ble_eq_true rfl, Nat.le_of_ble_eq_true rfl⟩ rfl hl.1 rfl (Nat.le_of_ble_eq_true rfl) dL_law_553 ⟨Nat.le_refl _, Nat.le_refl _⟩ hS hge (fun r9 C1 H1 locs1 hR hP hz9 hk9 hS => ?_)
  obtain ⟨rfl, hX1⟩ := hR
  have hP2 := hP2.kp hk9 hd12
  change W p l e room_1 s m _ below meth c _ _ _ _ _ (F0 m 556 ls [.long (f_trees n nx (xs (i + 1)))])
  refine lv_aload_n hx hb dL_law_556 rfl (lv_at hl 1 rfl) ?_
  refine lv_aload_n hx hb dL_law_557 rfl (lv_at hl 3 rfl) ?_
  refine lv_iload_n hx hb dL_law_558 rfl (lv_at hl 0 rfl) ?_
  refine lv_iconst (v := nI 1) hx hb dL_law_559 (by decide) ?_
  refine lv_iadd hx hb dL_law_560 ?_
  refine pw_topi (nI_add _ _) ?_
  refine va_sld hx hb hX0 hbl hbA hS (vp_in_nI (by omega) (by omega)) dL_law_561 ?_
  refine pw_topi (y := xs (i + 1)) (congrArg xs (nI_clamp (by omega))) ?_
  refine pw_cvW S hK hP2 0 5 rfl rfl 1 (c_X5_trees l D cy Ad2 n mm C2 hI2 hn hmm nx mx en am wt hM (xs (i + 1))) gL_law_X5_trees rfl rfl rfl (by decide +kernel) ⟨Nat.le_of_ble_eq_true rfl, Nat.le_of_ble_eq_true rfl⟩ rfl hl.1 rfl (Nat.le_of_ble_eq_true rfl) dL_law_562 ⟨Nat.le_refl _, Nat.le_refl _⟩ hS hge2 (fun r9 C3 H3 locs3 hR hP2 hz9 hk9 hS => ?_)
  obtain ⟨rfl, hM1⟩ := hR
  have hP := hP.kp hk9 hd21
  change W p l e room_1 s m _ below meth c _ _ _ _ _ (F0 m 565 ls [.long (f_trees n nx (xs (i + 1))), .long (f_trees n nx (xs (i + 1)))])
  refine W.lcmp hx hb dL_law_565 ?_
  refine pn_lif_eq (tgt := 1137) hx hb dL_law_566 (by decide) (fun c_566 => ?_) (fun c_566 => absurd c_566 (fun h9 => h9 rfl))
  exact hq _ _ _ _ _ _ _ _ _ _ ls ⟨hmm, hP, hP2, hX1, hM1, hS⟩ hl

set_option maxHeartbeats 4000000 in
set_option maxRecDepth 100000 in
theorem K_once {p : Program} {l : Launch} {e : Env} {s : State} {m : MethodId} {below : List Frame} {meth : Method} {c : Code} {b L : Nat} {xs : Nat → Int32} {D : va_G} {cy : Nat → ClassId} {Ad Ad2 : Nat → Nat} {n : Nat} (E : lw_E p s m c b L xs D cy Ad Ad2 n) (hL : L ≤ 2561) {i : Nat} (hi : i + 4 < L) {mm : Nat} {nx : Nat → Nat → Nat} {mx : Nat → Nat → Option Nat} {en : Nat → Bool} {am wt : Nat → Nat} {C C2 : pw_C} {H : Heap} {locs : List Loc} {ls : Array Slot} (Iv : lw_I s D cy Ad Ad2 n mm nx mx en am wt C C2 H locs) (hl : lv_has ls 4 [(3, .int (nI i)), (2, .ref (Ad2 0)), (1, .ref (Ad 0)), (0, .ref b)]) (hq : ∀ (mm : Nat) (nx : Nat → Nat → Nat) (mx : Nat → Nat → Option Nat) (en : Nat → Bool) (am wt : Nat → Nat) (C C2 : pw_C) (H : Heap) (locs : List Loc) (ls : Array Slot), lw_I s D cy Ad Ad2 n mm nx mx en am wt C C2 H locs → lv_has ls 4 [(3, .int (nI i)), (2, .ref (Ad2 0)), (1, .ref (Ad 0)), (0, .ref b)] → W p l e room_1 s m #[Value.ref b] below meth c H locs 600000 7302250 (lw_Z below #[Value.ref b] s) (F0 m 1137 ls [])) : W p l e room_1 s m #[Value.ref b] below meth c H locs 600000 7302250 (lw_Z below #[Value.ref b] s) (F0 m 571 ls []) := by
  obtain ⟨S, hX0, hbl, hK, hI, hI2, hn, hd12, hd21, hge, hge2⟩ := E
  obtain ⟨hmm, hP, hP2, hX, hM, hS⟩ := Iv
  have hbA : ¬ (fun q : Nat => s.heap.size ≤ q) b := Nat.not_le.mpr hbl
  have hx := S.1
  have hb := S.2.1
  have hown := S.2.2.2.1
  have hts := S.2.2.2.2
  refine lv_aload_n hx hb dL_law_571 rfl (lv_at hl 2 rfl) ?_
  refine lv_aload_n hx hb dL_law_572 rfl (lv_at hl 3 rfl) ?_
  refine lv_iload_n hx hb dL_law_573 rfl (lv_at hl 0 rfl) ?_
  refine lv_iconst (v := nI 1) hx hb dL_law_574 (by decide) ?_
  refine lv_iadd hx hb dL_law_575 ?_
  refine pw_topi (nI_add _ _) ?_
  refine va_sld hx hb hX0 hbl hbA hS (vp_in_nI (by omega) (by omega)) dL_law_576 ?_
  refine pw_topi (y := xs (i + 1)) (congrArg xs (nI_clamp (by omega))) ?_
  refine lv_aload_n hx hb dL_law_577 rfl (lv_at hl 3 rfl) ?_
  refine lv_iload_n hx hb dL_law_578 rfl (lv_at hl 0 rfl) ?_
  refine lv_iconst (v := nI 2) hx hb dL_law_579 (by decide) ?_
  refine lv_iadd hx hb dL_law_580 ?_
  refine pw_topi (nI_add _ _) ?_
  refine va_sld hx hb hX0 hbl hbA hS (vp_in_nI (by omega) (by omega)) dL_law_581 ?_
  refine pw_topi (y := xs (i + 2)) (congrArg xs (nI_clamp (by omega))) ?_
  refine lv_aload_n hx hb dL_law_582 rfl (lv_at hl 3 rfl) ?_
  refine lv_iload_n hx hb dL_law_583 rfl (lv_at hl 0 rfl) ?_
  refine lv_iconst (v := nI 3) hx hb dL_law_584 (by decide) ?_
  refine lv_iadd hx hb dL_law_585 ?_
  refine pw_topi (nI_add _ _) ?_
  refine va_sld hx hb hX0 hbl hbA hS (vp_in_nI (by omega) (by omega)) dL_law_586 ?_
  refine pw_topi (y := xs (i + 3)) (congrArg xs (nI_clamp (by omega))) ?_
  refine pw_cv S hK hP 0 4 rfl rfl 3 (c_X4_once l D cy Ad n mm C hI hn hmm nx mx en am wt hX (xs (i + 1)) (xs (i + 2)) (xs (i + 3))) gL_law_X4_once rfl rfl rfl (by decide +kernel) ⟨Nat.le_of_ble_eq_true rfl, Nat.le_of_ble_eq_true rfl⟩ rfl hl.1 rfl (Nat.le_of_ble_eq_true rfl) dL_law_587 ⟨Nat.le_refl _, Nat.le_refl _⟩ ?_
  refine lv_aload_n hx hb dL_law_590 rfl (lv_at hl 1 rfl) ?_
  refine lv_aload_n hx hb dL_law_591 rfl (lv_at hl 3 rfl) ?_
  refine lv_iload_n hx hb dL_law_592 rfl (lv_at hl 0 rfl) ?_
  refine lv_iconst (v := nI 1) hx hb dL_law_593 (by decide) ?_
  refine lv_iadd hx hb dL_law_594 ?_
  refine pw_topi (nI_add _ _) ?_
  refine va_sld hx hb hX0 hbl hbA hS (vp_in_nI (by omega) (by omega)) dL_law_595 ?_
  refine pw_topi (y := xs (i + 1)) (congrArg xs (nI_clamp (by omega))) ?_
  refine lv_aload_n hx hb dL_law_596 rfl (lv_at hl 3 rfl) ?_
  refine lv_iload_n hx hb dL_law_597 rfl (lv_at hl 0 rfl) ?_
  refine lv_iconst (v := nI 2) hx hb dL_law_598 (by decide) ?_
  refine lv_iadd hx hb dL_law_599 ?_
  refine pw_topi (nI_add _ _) ?_
  refine va_sld hx hb hX0 hbl hbA hS (vp_in_nI (by omega) (by omega)) dL_law_600 ?_
  refine pw_topi (y := xs (i + 2)) (congrArg xs (nI_clamp (by omega))) ?_
  refine lv_aload_n hx hb dL_law_601 rfl (lv_at hl 3 rfl) ?_
  refine lv_iload_n hx hb dL_law_602 rfl (lv_at hl 0 rfl) ?_
  refine lv_iconst (v := nI 3) hx hb dL_law_603 (by decide) ?_
  refine lv_iadd hx hb dL_law_604 ?_
  refine pw_topi (nI_add _ _) ?_
  refine va_sld hx hb hX0 hbl hbA hS (vp_in_nI (by omega) (by omega)) dL_law_605 ?_
  refine pw_topi (y := xs (i + 3)) (congrArg xs (nI_clamp (by omega))) ?_
  refine pw_cvW S hK hP2 0 5 rfl rfl 3 (c_X5_once l D cy Ad2 n mm C2 hI2 hn hmm nx mx en am wt hM (xs (i + 1)) (xs (i + 2)) (xs (i + 3))) gL_law_X5_once rfl rfl rfl (by decide +kernel) ⟨Nat.le_of_ble_eq_true rfl, Nat.le_of_ble_eq_true rfl⟩ rfl hl.1 rfl (Nat.le_of_ble_eq_true rfl) dL_law_606 ⟨Nat.le_refl _, Nat.le_refl _⟩ hS hge2 (fun r9 C3 H3 locs3 hR hP2 hz9 hk9 hS => ?_)
  obtain ⟨rfl, hM1⟩ := hR
  have hP := hP.kp hk9 hd21
  change W p l e room_1 s m _ below meth c _ _ _ _ _ (F0 m 609 ls [.int (f_once n nx (xs (i + 1)) (xs (i + 2)) (xs (i + 3))), .int (f_once n nx (xs (i + 1)) (xs (i + 2)) (xs (i + 3)))])
  refine lv_icmp_eq (tgt := 1137) hx hb dL_law_609 (by decide) (fun c_609 => ?_) (fun c_609 => absurd c_609 (fun h9 => h9 rfl))
  exact hq _ _ _ _ _ _ _ _ _ _ ls ⟨hmm, hP, hP2, hX, hM1, hS⟩ hl

set_option maxHeartbeats 4000000 in
set_option maxRecDepth 100000 in
theorem K_lead {p : Program} {l : Launch} {e : Env} {s : State} {m : MethodId} {below : List Frame} {meth : Method} {c : Code} {b L : Nat} {xs : Nat → Int32} {D : va_G} {cy : Nat → ClassId} {Ad Ad2 : Nat → Nat} {n : Nat} (E : lw_E p s m c b L xs D cy Ad Ad2 n) (hL : L ≤ 2561) {i : Nat} (hi : i + 4 < L) {mm : Nat} {nx : Nat → Nat → Nat} {mx : Nat → Nat → Option Nat} {en : Nat → Bool} {am wt : Nat → Nat} {C C2 : pw_C} {H : Heap} {locs : List Loc} {ls : Array Slot} (Iv : lw_I s D cy Ad Ad2 n mm nx mx en am wt C C2 H locs) (hl : lv_has ls 4 [(3, .int (nI i)), (2, .ref (Ad2 0)), (1, .ref (Ad 0)), (0, .ref b)]) (hq : ∀ (mm : Nat) (nx : Nat → Nat → Nat) (mx : Nat → Nat → Option Nat) (en : Nat → Bool) (am wt : Nat → Nat) (C C2 : pw_C) (H : Heap) (locs : List Loc) (ls : Array Slot), lw_I s D cy Ad Ad2 n mm nx mx en am wt C C2 H locs → lv_has ls 4 [(3, .int (nI i)), (2, .ref (Ad2 0)), (1, .ref (Ad 0)), (0, .ref b)] → W p l e room_1 s m #[Value.ref b] below meth c H locs 600000 7302250 (lw_Z below #[Value.ref b] s) (F0 m 1137 ls [])) : W p l e room_1 s m #[Value.ref b] below meth c H locs 600000 7302250 (lw_Z below #[Value.ref b] s) (F0 m 614 ls []) := by
  obtain ⟨S, hX0, hbl, hK, hI, hI2, hn, hd12, hd21, hge, hge2⟩ := E
  obtain ⟨hmm, hP, hP2, hX, hM, hS⟩ := Iv
  have hbA : ¬ (fun q : Nat => s.heap.size ≤ q) b := Nat.not_le.mpr hbl
  have hx := S.1
  have hb := S.2.1
  have hown := S.2.2.2.1
  have hts := S.2.2.2.2
  refine lv_aload_n hx hb dL_law_614 rfl (lv_at hl 2 rfl) ?_
  refine lv_aload_n hx hb dL_law_615 rfl (lv_at hl 3 rfl) ?_
  refine lv_iload_n hx hb dL_law_616 rfl (lv_at hl 0 rfl) ?_
  refine lv_iconst (v := nI 1) hx hb dL_law_617 (by decide) ?_
  refine lv_iadd hx hb dL_law_618 ?_
  refine pw_topi (nI_add _ _) ?_
  refine va_sld hx hb hX0 hbl hbA hS (vp_in_nI (by omega) (by omega)) dL_law_619 ?_
  refine pw_topi (y := xs (i + 1)) (congrArg xs (nI_clamp (by omega))) ?_
  refine lv_aload_n hx hb dL_law_620 rfl (lv_at hl 3 rfl) ?_
  refine lv_iload_n hx hb dL_law_621 rfl (lv_at hl 0 rfl) ?_
  refine lv_iconst (v := nI 2) hx hb dL_law_622 (by decide) ?_
  refine lv_iadd hx hb dL_law_623 ?_
  refine pw_topi (nI_add _ _) ?_
  refine va_sld hx hb hX0 hbl hbA hS (vp_in_nI (by omega) (by omega)) dL_law_624 ?_
  refine pw_topi (y := xs (i + 2)) (congrArg xs (nI_clamp (by omega))) ?_
  refine lv_aload_n hx hb dL_law_625 rfl (lv_at hl 3 rfl) ?_
  refine lv_iload_n hx hb dL_law_626 rfl (lv_at hl 0 rfl) ?_
  refine lv_iconst (v := nI 3) hx hb dL_law_627 (by decide) ?_
  refine lv_iadd hx hb dL_law_628 ?_
  refine pw_topi (nI_add _ _) ?_
  refine va_sld hx hb hX0 hbl hbA hS (vp_in_nI (by omega) (by omega)) dL_law_629 ?_
  refine pw_topi (y := xs (i + 3)) (congrArg xs (nI_clamp (by omega))) ?_
  refine pw_cvW S hK hP 0 4 rfl rfl 3 (c_X4_lead l D cy Ad n mm C hI hn hmm nx mx en am wt hX (xs (i + 1)) (xs (i + 2)) (xs (i + 3))) gL_law_X4_lead rfl rfl rfl (by decide +kernel) ⟨Nat.le_of_ble_eq_true rfl, Nat.le_of_ble_eq_true rfl⟩ rfl hl.1 rfl (Nat.le_of_ble_eq_true rfl) dL_law_630 ⟨Nat.le_refl _, Nat.le_refl _⟩ hS hge (fun r9 C1 H1 locs1 hR hP hz9 hk9 hS => ?_)
  obtain ⟨rfl, hX1⟩ := hR
  have hP2 := hP2.kp hk9 hd12
  change W p l e room_1 s m _ below meth c _ _ _ _ _ (F0 m 633 ls [.int (f_lead n mx (xs (i + 1)) (xs (i + 2)) (xs (i + 3)))])
  refine lv_aload_n hx hb dL_law_633 rfl (lv_at hl 1 rfl) ?_
  refine lv_aload_n hx hb dL_law_634 rfl (lv_at hl 3 rfl) ?_
  refine lv_iload_n hx hb dL_law_635 rfl (lv_at hl 0 rfl) ?_
  refine lv_iconst (v := nI 1) hx hb dL_law_636 (by decide) ?_
  refine lv_iadd hx hb dL_law_637 ?_
  refine pw_topi (nI_add _ _) ?_
  refine va_sld hx hb hX0 hbl hbA hS (vp_in_nI (by omega) (by omega)) dL_law_638 ?_
  refine pw_topi (y := xs (i + 1)) (congrArg xs (nI_clamp (by omega))) ?_
  refine lv_aload_n hx hb dL_law_639 rfl (lv_at hl 3 rfl) ?_
  refine lv_iload_n hx hb dL_law_640 rfl (lv_at hl 0 rfl) ?_
  refine lv_iconst (v := nI 2) hx hb dL_law_641 (by decide) ?_
  refine lv_iadd hx hb dL_law_642 ?_
  refine pw_topi (nI_add _ _) ?_
  refine va_sld hx hb hX0 hbl hbA hS (vp_in_nI (by omega) (by omega)) dL_law_643 ?_
  refine pw_topi (y := xs (i + 2)) (congrArg xs (nI_clamp (by omega))) ?_
  refine lv_aload_n hx hb dL_law_644 rfl (lv_at hl 3 rfl) ?_
  refine lv_iload_n hx hb dL_law_645 rfl (lv_at hl 0 rfl) ?_
  refine lv_iconst (v := nI 3) hx hb dL_law_646 (by decide) ?_
  refine lv_iadd hx hb dL_law_647 ?_
  refine pw_topi (nI_add _ _) ?_
  refine va_sld hx hb hX0 hbl hbA hS (vp_in_nI (by omega) (by omega)) dL_law_648 ?_
  refine pw_topi (y := xs (i + 3)) (congrArg xs (nI_clamp (by omega))) ?_
  refine pw_cvW S hK hP2 0 5 rfl rfl 3 (c_X5_lead l D cy Ad2 n mm C2 hI2 hn hmm nx mx en am wt hM (xs (i + 1)) (xs (i + 2)) (xs (i + 3))) gL_law_X5_lead rfl rfl rfl (by decide +kernel) ⟨Nat.le_of_ble_eq_true rfl, Nat.le_of_ble_eq_true rfl⟩ rfl hl.1 rfl (Nat.le_of_ble_eq_true rfl) dL_law_649 ⟨Nat.le_refl _, Nat.le_refl _⟩ hS hge2 (fun r9 C3 H3 locs3 hR hP2 hz9 hk9 hS => ?_)
  obtain ⟨rfl, hM1⟩ := hR
  have hP := hP.kp hk9 hd21
  change W p l e room_1 s m _ below meth c _ _ _ _ _ (F0 m 652 ls [.int (f_lead n mx (xs (i + 1)) (xs (i + 2)) (xs (i + 3))), .int (f_lead n mx (xs (i + 1)) (xs (i + 2)) (xs (i + 3)))])
  refine lv_icmp_eq (tgt := 1137) hx hb dL_law_652 (by decide) (fun c_652 => ?_) (fun c_652 => absurd c_652 (fun h9 => h9 rfl))
  exact hq _ _ _ _ _ _ _ _ _ _ ls ⟨hmm, hP, hP2, hX1, hM1, hS⟩ hl

set_option maxHeartbeats 4000000 in
set_option maxRecDepth 100000 in
theorem K_end {p : Program} {l : Launch} {e : Env} {s : State} {m : MethodId} {below : List Frame} {meth : Method} {c : Code} {b L : Nat} {xs : Nat → Int32} {D : va_G} {cy : Nat → ClassId} {Ad Ad2 : Nat → Nat} {n : Nat} (E : lw_E p s m c b L xs D cy Ad Ad2 n) (hL : L ≤ 2561) {i : Nat} (hi : i + 4 < L) {mm : Nat} {nx : Nat → Nat → Nat} {mx : Nat → Nat → Option Nat} {en : Nat → Bool} {am wt : Nat → Nat} {C C2 : pw_C} {H : Heap} {locs : List Loc} {ls : Array Slot} (Iv : lw_I s D cy Ad Ad2 n mm nx mx en am wt C C2 H locs) (hl : lv_has ls 4 [(3, .int (nI i)), (2, .ref (Ad2 0)), (1, .ref (Ad 0)), (0, .ref b)]) (hq : ∀ (mm : Nat) (nx : Nat → Nat → Nat) (mx : Nat → Nat → Option Nat) (en : Nat → Bool) (am wt : Nat → Nat) (C C2 : pw_C) (H : Heap) (locs : List Loc) (ls : Array Slot), lw_I s D cy Ad Ad2 n mm nx mx en am wt C C2 H locs → lv_has ls 4 [(3, .int (nI i)), (2, .ref (Ad2 0)), (1, .ref (Ad 0)), (0, .ref b)] → W p l e room_1 s m #[Value.ref b] below meth c H locs 600000 7302250 (lw_Z below #[Value.ref b] s) (F0 m 1137 ls [])) : W p l e room_1 s m #[Value.ref b] below meth c H locs 600000 7302250 (lw_Z below #[Value.ref b] s) (F0 m 657 ls []) := by
  obtain ⟨S, hX0, hbl, hK, hI, hI2, hn, hd12, hd21, hge, hge2⟩ := E
  obtain ⟨hmm, hP, hP2, hX, hM, hS⟩ := Iv
  have hbA : ¬ (fun q : Nat => s.heap.size ≤ q) b := Nat.not_le.mpr hbl
  have hx := S.1
  have hb := S.2.1
  have hown := S.2.2.2.1
  have hts := S.2.2.2.2
  by_cases hz0 : xs (i + 2) = 0
  · refine lv_aload_n hx hb dL_law_657 rfl (lv_at hl 2 rfl) ?_
    refine lv_aload_n hx hb dL_law_658 rfl (lv_at hl 3 rfl) ?_
    refine lv_iload_n hx hb dL_law_659 rfl (lv_at hl 0 rfl) ?_
    refine lv_iconst (v := nI 1) hx hb dL_law_660 (by decide) ?_
    refine lv_iadd hx hb dL_law_661 ?_
    refine pw_topi (nI_add _ _) ?_
    refine va_sld hx hb hX0 hbl hbA hS (vp_in_nI (by omega) (by omega)) dL_law_662 ?_
    refine pw_topi (y := xs (i + 1)) (congrArg xs (nI_clamp (by omega))) ?_
    refine lv_aload_n hx hb dL_law_663 rfl (lv_at hl 3 rfl) ?_
    refine lv_iload_n hx hb dL_law_664 rfl (lv_at hl 0 rfl) ?_
    refine lv_iconst (v := nI 2) hx hb dL_law_665 (by decide) ?_
    refine lv_iadd hx hb dL_law_666 ?_
    refine pw_topi (nI_add _ _) ?_
    refine va_sld hx hb hX0 hbl hbA hS (vp_in_nI (by omega) (by omega)) dL_law_667 ?_
    refine pw_topi (y := xs (i + 2)) (congrArg xs (nI_clamp (by omega))) ?_
    refine lv_if_eq (tgt := 675) hx hb dL_law_668 (by decide) (fun c_668 => ?_) (fun c_668 => absurd c_668 (fun h9 => h9 hz0))
    refine lv_iconst (v := nI 0) hx hb dL_law_675 (by decide) ?_
    refine pw_topi (y := pb false) rfl ?_
    refine pw_cvW S hK hP 0 4 rfl rfl 2 (c_X4_end l D cy Ad n mm C hI hn hmm nx mx en am wt hX (xs (i + 1)) false) gL_law_X4_end rfl rfl rfl (by decide +kernel) ⟨Nat.le_of_ble_eq_true rfl, Nat.le_of_ble_eq_true rfl⟩ rfl hl.1 rfl (Nat.le_of_ble_eq_true rfl) dL_law_676 ⟨Nat.le_refl _, Nat.le_refl _⟩ hS hge (fun r9 C1 H1 locs1 hR hP hz9 hk9 hS => ?_)
    obtain ⟨rfl, hX1⟩ := hR
    have hP2 := hP2.kp hk9 hd12
    change W p l e room_1 s m _ below meth c _ _ _ _ _ (F0 m 679 ls [.int (f_end n en (xs (i + 1)))])
    refine lv_aload_n hx hb dL_law_679 rfl (lv_at hl 1 rfl) ?_
    refine lv_aload_n hx hb dL_law_680 rfl (lv_at hl 3 rfl) ?_
    refine lv_iload_n hx hb dL_law_681 rfl (lv_at hl 0 rfl) ?_
    refine lv_iconst (v := nI 1) hx hb dL_law_682 (by decide) ?_
    refine lv_iadd hx hb dL_law_683 ?_
    refine pw_topi (nI_add _ _) ?_
    refine va_sld hx hb hX0 hbl hbA hS (vp_in_nI (by omega) (by omega)) dL_law_684 ?_
    refine pw_topi (y := xs (i + 1)) (congrArg xs (nI_clamp (by omega))) ?_
    refine lv_aload_n hx hb dL_law_685 rfl (lv_at hl 3 rfl) ?_
    refine lv_iload_n hx hb dL_law_686 rfl (lv_at hl 0 rfl) ?_
    refine lv_iconst (v := nI 2) hx hb dL_law_687 (by decide) ?_
    refine lv_iadd hx hb dL_law_688 ?_
    refine pw_topi (nI_add _ _) ?_
    refine va_sld hx hb hX0 hbl hbA hS (vp_in_nI (by omega) (by omega)) dL_law_689 ?_
    refine pw_topi (y := xs (i + 2)) (congrArg xs (nI_clamp (by omega))) ?_
    refine lv_if_eq (tgt := 697) hx hb dL_law_690 (by decide) (fun c_690 => ?_) (fun c_690 => absurd c_690 (fun h9 => h9 hz0))
    refine lv_iconst (v := nI 0) hx hb dL_law_697 (by decide) ?_
    refine pw_topi (y := pb false) rfl ?_
    refine pw_cvW S hK hP2 0 5 rfl rfl 2 (c_X5_end l D cy Ad2 n mm C2 hI2 hn hmm nx mx en am wt hM (xs (i + 1)) false) gL_law_X5_end rfl rfl rfl (by decide +kernel) ⟨Nat.le_of_ble_eq_true rfl, Nat.le_of_ble_eq_true rfl⟩ rfl hl.1 rfl (Nat.le_of_ble_eq_true rfl) dL_law_698 ⟨Nat.le_refl _, Nat.le_refl _⟩ hS hge2 (fun r9 C3 H3 locs3 hR hP2 hz9 hk9 hS => ?_)
    obtain ⟨rfl, hM1⟩ := hR
    have hP := hP.kp hk9 hd21
    change W p l e room_1 s m _ below meth c _ _ _ _ _ (F0 m 701 ls [.int (f_end n en (xs (i + 1))), .int (f_end n en (xs (i + 1)))])
    refine lv_icmp_eq (tgt := 1137) hx hb dL_law_701 (by decide) (fun c_701 => ?_) (fun c_701 => absurd c_701 (fun h9 => h9 rfl))
    exact hq _ _ _ _ _ _ _ _ _ _ ls ⟨hmm, hP, hP2, hX1, hM1, hS⟩ hl
  · refine lv_aload_n hx hb dL_law_657 rfl (lv_at hl 2 rfl) ?_
    refine lv_aload_n hx hb dL_law_658 rfl (lv_at hl 3 rfl) ?_
    refine lv_iload_n hx hb dL_law_659 rfl (lv_at hl 0 rfl) ?_
    refine lv_iconst (v := nI 1) hx hb dL_law_660 (by decide) ?_
    refine lv_iadd hx hb dL_law_661 ?_
    refine pw_topi (nI_add _ _) ?_
    refine va_sld hx hb hX0 hbl hbA hS (vp_in_nI (by omega) (by omega)) dL_law_662 ?_
    refine pw_topi (y := xs (i + 1)) (congrArg xs (nI_clamp (by omega))) ?_
    refine lv_aload_n hx hb dL_law_663 rfl (lv_at hl 3 rfl) ?_
    refine lv_iload_n hx hb dL_law_664 rfl (lv_at hl 0 rfl) ?_
    refine lv_iconst (v := nI 2) hx hb dL_law_665 (by decide) ?_
    refine lv_iadd hx hb dL_law_666 ?_
    refine pw_topi (nI_add _ _) ?_
    refine va_sld hx hb hX0 hbl hbA hS (vp_in_nI (by omega) (by omega)) dL_law_667 ?_
    refine pw_topi (y := xs (i + 2)) (congrArg xs (nI_clamp (by omega))) ?_
    refine lv_if_eq (tgt := 675) hx hb dL_law_668 (by decide) (fun c_668 => absurd c_668 hz0) (fun c_668 => ?_)
    refine lv_iconst (v := nI 1) hx hb dL_law_671 (by decide) ?_
    refine pw_topi (y := pb true) rfl ?_
    refine lv_goto (tgt := 676) hx hb dL_law_672 (by decide) ?_
    refine pw_cvW S hK hP 0 4 rfl rfl 2 (c_X4_end l D cy Ad n mm C hI hn hmm nx mx en am wt hX (xs (i + 1)) true) gL_law_X4_end rfl rfl rfl (by decide +kernel) ⟨Nat.le_of_ble_eq_true rfl, Nat.le_of_ble_eq_true rfl⟩ rfl hl.1 rfl (Nat.le_of_ble_eq_true rfl) dL_law_676 ⟨Nat.le_refl _, Nat.le_refl _⟩ hS hge (fun r9 C1 H1 locs1 hR hP hz9 hk9 hS => ?_)
    obtain ⟨rfl, hX1⟩ := hR
    have hP2 := hP2.kp hk9 hd12
    change W p l e room_1 s m _ below meth c _ _ _ _ _ (F0 m 679 ls [.int (f_end n en (xs (i + 1)))])
    refine lv_aload_n hx hb dL_law_679 rfl (lv_at hl 1 rfl) ?_
    refine lv_aload_n hx hb dL_law_680 rfl (lv_at hl 3 rfl) ?_
    refine lv_iload_n hx hb dL_law_681 rfl (lv_at hl 0 rfl) ?_
    refine lv_iconst (v := nI 1) hx hb dL_law_682 (by decide) ?_
    refine lv_iadd hx hb dL_law_683 ?_
    refine pw_topi (nI_add _ _) ?_
    refine va_sld hx hb hX0 hbl hbA hS (vp_in_nI (by omega) (by omega)) dL_law_684 ?_
    refine pw_topi (y := xs (i + 1)) (congrArg xs (nI_clamp (by omega))) ?_
    refine lv_aload_n hx hb dL_law_685 rfl (lv_at hl 3 rfl) ?_
    refine lv_iload_n hx hb dL_law_686 rfl (lv_at hl 0 rfl) ?_
    refine lv_iconst (v := nI 2) hx hb dL_law_687 (by decide) ?_
    refine lv_iadd hx hb dL_law_688 ?_
    refine pw_topi (nI_add _ _) ?_
    refine va_sld hx hb hX0 hbl hbA hS (vp_in_nI (by omega) (by omega)) dL_law_689 ?_
    refine pw_topi (y := xs (i + 2)) (congrArg xs (nI_clamp (by omega))) ?_
    refine lv_if_eq (tgt := 697) hx hb dL_law_690 (by decide) (fun c_690 => absurd c_690 hz0) (fun c_690 => ?_)
    refine lv_iconst (v := nI 1) hx hb dL_law_693 (by decide) ?_
    refine pw_topi (y := pb true) rfl ?_
    refine lv_goto (tgt := 698) hx hb dL_law_694 (by decide) ?_
    refine pw_cvW S hK hP2 0 5 rfl rfl 2 (c_X5_end l D cy Ad2 n mm C2 hI2 hn hmm nx mx en am wt hM (xs (i + 1)) true) gL_law_X5_end rfl rfl rfl (by decide +kernel) ⟨Nat.le_of_ble_eq_true rfl, Nat.le_of_ble_eq_true rfl⟩ rfl hl.1 rfl (Nat.le_of_ble_eq_true rfl) dL_law_698 ⟨Nat.le_refl _, Nat.le_refl _⟩ hS hge2 (fun r9 C3 H3 locs3 hR hP2 hz9 hk9 hS => ?_)
    obtain ⟨rfl, hM1⟩ := hR
    have hP := hP.kp hk9 hd21
    change W p l e room_1 s m _ below meth c _ _ _ _ _ (F0 m 701 ls [.int (f_end n en (xs (i + 1))), .int (f_end n en (xs (i + 1)))])
    refine lv_icmp_eq (tgt := 1137) hx hb dL_law_701 (by decide) (fun c_701 => ?_) (fun c_701 => absurd c_701 (fun h9 => h9 rfl))
    exact hq _ _ _ _ _ _ _ _ _ _ ls ⟨hmm, hP, hP2, hX1, hM1, hS⟩ hl


set_option maxHeartbeats 4000000 in
set_option maxRecDepth 100000 in
theorem K_words {p : Program} {l : Launch} {e : Env} {s : State} {m : MethodId} {below : List Frame} {meth : Method} {c : Code} {b L : Nat} {xs : Nat → Int32} {D : va_G} {cy : Nat → ClassId} {Ad Ad2 : Nat → Nat} {n : Nat} (E : lw_E p s m c b L xs D cy Ad Ad2 n) (hL : L ≤ 2561) {i : Nat} (hi : i + 4 < L) {mm : Nat} {nx : Nat → Nat → Nat} {mx : Nat → Nat → Option Nat} {en : Nat → Bool} {am wt : Nat → Nat} {C C2 : pw_C} {H : Heap} {locs : List Loc} {ls : Array Slot} (Iv : lw_I s D cy Ad Ad2 n mm nx mx en am wt C C2 H locs) (hl : lv_has ls 4 [(3, .int (nI i)), (2, .ref (Ad2 0)), (1, .ref (Ad 0)), (0, .ref b)]) (hq : ∀ (mm : Nat) (nx : Nat → Nat → Nat) (mx : Nat → Nat → Option Nat) (en : Nat → Bool) (am wt : Nat → Nat) (C C2 : pw_C) (H : Heap) (locs : List Loc) (ls : Array Slot), lw_I s D cy Ad Ad2 n mm nx mx en am wt C C2 H locs → lv_has ls 4 [(3, .int (nI i)), (2, .ref (Ad2 0)), (1, .ref (Ad 0)), (0, .ref b)] → W p l e room_1 s m #[Value.ref b] below meth c H locs 600000 7302250 (lw_Z below #[Value.ref b] s) (F0 m 1137 ls [])) : W p l e room_1 s m #[Value.ref b] below meth c H locs 600000 7302250 (lw_Z below #[Value.ref b] s) (F0 m 706 ls []) := by
  obtain ⟨S, hX0, hbl, hK, hI, hI2, hn, hd12, hd21, hge, hge2⟩ := E
  obtain ⟨hmm, hP, hP2, hX, hM, hS⟩ := Iv
  have hbA : ¬ (fun q : Nat => s.heap.size ≤ q) b := Nat.not_le.mpr hbl
  have hx := S.1
  have hb := S.2.1
  have hown := S.2.2.2.1
  have hts := S.2.2.2.2
  refine lv_aload_n hx hb dL_law_706 rfl (lv_at hl 2 rfl) ?_
  refine lv_aload_n hx hb dL_law_707 rfl (lv_at hl 3 rfl) ?_
  refine lv_iload_n hx hb dL_law_708 rfl (lv_at hl 0 rfl) ?_
  refine lv_iconst (v := nI 1) hx hb dL_law_709 (by decide) ?_
  refine lv_iadd hx hb dL_law_710 ?_
  refine pw_topi (nI_add _ _) ?_
  refine va_sld hx hb hX0 hbl hbA hS (vp_in_nI (by omega) (by omega)) dL_law_711 ?_
  refine pw_topi (y := xs (i + 1)) (congrArg xs (nI_clamp (by omega))) ?_
  refine pw_cvW S hK hP 0 4 rfl rfl 1 (c_X4_words l D cy Ad n mm C hI hn hmm nx mx en am wt hX (xs (i + 1))) gL_law_X4_words rfl rfl rfl (by decide +kernel) ⟨Nat.le_of_ble_eq_true rfl, Nat.le_of_ble_eq_true rfl⟩ rfl hl.1 rfl (Nat.le_of_ble_eq_true rfl) dL_law_712 ⟨Nat.le_refl _, Nat.le_refl _⟩ hS hge (fun r9 C1 H1 locs1 hR hP hz9 hk9 hS => ?_)
  obtain ⟨rfl, hX1⟩ := hR
  have hP2 := hP2.kp hk9 hd12
  change W p l e room_1 s m _ below meth c _ _ _ _ _ (F0 m 715 ls [.long (f_words mx en (xs (i + 1)))])
  refine lv_aload_n hx hb dL_law_715 rfl (lv_at hl 1 rfl) ?_
  refine lv_aload_n hx hb dL_law_716 rfl (lv_at hl 3 rfl) ?_
  refine lv_iload_n hx hb dL_law_717 rfl (lv_at hl 0 rfl) ?_
  refine lv_iconst (v := nI 1) hx hb dL_law_718 (by decide) ?_
  refine lv_iadd hx hb dL_law_719 ?_
  refine pw_topi (nI_add _ _) ?_
  refine va_sld hx hb hX0 hbl hbA hS (vp_in_nI (by omega) (by omega)) dL_law_720 ?_
  refine pw_topi (y := xs (i + 1)) (congrArg xs (nI_clamp (by omega))) ?_
  refine pw_cvW S hK hP2 0 5 rfl rfl 1 (c_X5_words l D cy Ad2 n mm C2 hI2 hn hmm nx mx en am wt hM (xs (i + 1))) gL_law_X5_words rfl rfl rfl (by decide +kernel) ⟨Nat.le_of_ble_eq_true rfl, Nat.le_of_ble_eq_true rfl⟩ rfl hl.1 rfl (Nat.le_of_ble_eq_true rfl) dL_law_721 ⟨Nat.le_refl _, Nat.le_refl _⟩ hS hge2 (fun r9 C3 H3 locs3 hR hP2 hz9 hk9 hS => ?_)
  obtain ⟨rfl, hM1⟩ := hR
  have hP := hP.kp hk9 hd21
  change W p l e room_1 s m _ below meth c _ _ _ _ _ (F0 m 724 ls [.long (f_words mx en (xs (i + 1))), .long (f_words mx en (xs (i + 1)))])
  refine W.lcmp hx hb dL_law_724 ?_
  refine pn_lif_eq (tgt := 1137) hx hb dL_law_725 (by decide) (fun c_725 => ?_) (fun c_725 => absurd c_725 (fun h9 => h9 rfl))
  exact hq _ _ _ _ _ _ _ _ _ _ ls ⟨hmm, hP, hP2, hX1, hM1, hS⟩ hl

set_option maxHeartbeats 4000000 in
set_option maxRecDepth 100000 in
theorem K_word {p : Program} {l : Launch} {e : Env} {s : State} {m : MethodId} {below : List Frame} {meth : Method} {c : Code} {b L : Nat} {xs : Nat → Int32} {D : va_G} {cy : Nat → ClassId} {Ad Ad2 : Nat → Nat} {n : Nat} (E : lw_E p s m c b L xs D cy Ad Ad2 n) (hL : L ≤ 2561) {i : Nat} (hi : i + 4 < L) {mm : Nat} {nx : Nat → Nat → Nat} {mx : Nat → Nat → Option Nat} {en : Nat → Bool} {am wt : Nat → Nat} {C C2 : pw_C} {H : Heap} {locs : List Loc} {ls : Array Slot} (Iv : lw_I s D cy Ad Ad2 n mm nx mx en am wt C C2 H locs) (hl : lv_has ls 4 [(3, .int (nI i)), (2, .ref (Ad2 0)), (1, .ref (Ad 0)), (0, .ref b)]) (hq : ∀ (mm : Nat) (nx : Nat → Nat → Nat) (mx : Nat → Nat → Option Nat) (en : Nat → Bool) (am wt : Nat → Nat) (C C2 : pw_C) (H : Heap) (locs : List Loc) (ls : Array Slot), lw_I s D cy Ad Ad2 n mm nx mx en am wt C C2 H locs → lv_has ls 4 [(3, .int (nI i)), (2, .ref (Ad2 0)), (1, .ref (Ad 0)), (0, .ref b)] → W p l e room_1 s m #[Value.ref b] below meth c H locs 600000 7302250 (lw_Z below #[Value.ref b] s) (F0 m 1137 ls [])) : W p l e room_1 s m #[Value.ref b] below meth c H locs 600000 7302250 (lw_Z below #[Value.ref b] s) (F0 m 730 ls []) := by
  obtain ⟨S, hX0, hbl, hK, hI, hI2, hn, hd12, hd21, hge, hge2⟩ := E
  obtain ⟨hmm, hP, hP2, hX, hM, hS⟩ := Iv
  have hbA : ¬ (fun q : Nat => s.heap.size ≤ q) b := Nat.not_le.mpr hbl
  have hx := S.1
  have hb := S.2.1
  have hown := S.2.2.2.1
  have hts := S.2.2.2.2
  refine lv_aload_n hx hb dL_law_730 rfl (lv_at hl 2 rfl) ?_
  refine lv_aload_n hx hb dL_law_731 rfl (lv_at hl 3 rfl) ?_
  refine lv_iload_n hx hb dL_law_732 rfl (lv_at hl 0 rfl) ?_
  refine lv_iconst (v := nI 1) hx hb dL_law_733 (by decide) ?_
  refine lv_iadd hx hb dL_law_734 ?_
  refine pw_topi (nI_add _ _) ?_
  refine va_sld hx hb hX0 hbl hbA hS (vp_in_nI (by omega) (by omega)) dL_law_735 ?_
  refine pw_topi (y := xs (i + 1)) (congrArg xs (nI_clamp (by omega))) ?_
  refine lv_aload_n hx hb dL_law_736 rfl (lv_at hl 3 rfl) ?_
  refine lv_iload_n hx hb dL_law_737 rfl (lv_at hl 0 rfl) ?_
  refine lv_iconst (v := nI 2) hx hb dL_law_738 (by decide) ?_
  refine lv_iadd hx hb dL_law_739 ?_
  refine pw_topi (nI_add _ _) ?_
  refine va_sld hx hb hX0 hbl hbA hS (vp_in_nI (by omega) (by omega)) dL_law_740 ?_
  refine pw_topi (y := xs (i + 2)) (congrArg xs (nI_clamp (by omega))) ?_
  refine lv_i2l hx hb dL_law_741 rfl ?_
  refine lv_bipush (v := nI 32) hx hb dL_law_742 (by decide) ?_
  refine lv_lshl hx hb dL_law_744 rfl ?_
  refine lv_aload_n hx hb dL_law_745 rfl (lv_at hl 3 rfl) ?_
  refine lv_iload_n hx hb dL_law_746 rfl (lv_at hl 0 rfl) ?_
  refine lv_iconst (v := nI 3) hx hb dL_law_747 (by decide) ?_
  refine lv_iadd hx hb dL_law_748 ?_
  refine pw_topi (nI_add _ _) ?_
  refine va_sld hx hb hX0 hbl hbA hS (vp_in_nI (by omega) (by omega)) dL_law_749 ?_
  refine pw_topi (y := xs (i + 3)) (congrArg xs (nI_clamp (by omega))) ?_
  refine lv_i2l hx hb dL_law_750 rfl ?_
  refine lv_ldc2 hx hb hown (hts _ lw_c26) dL_law_751 ?_
  refine lv_land hx hb dL_law_754 ?_
  refine lv_lor hx hb dL_law_755 ?_
  refine lv_aload_n hx hb dL_law_756 rfl (lv_at hl 3 rfl) ?_
  refine lv_iload_n hx hb dL_law_757 rfl (lv_at hl 0 rfl) ?_
  refine lv_iconst (v := nI 4) hx hb dL_law_758 (by decide) ?_
  refine lv_iadd hx hb dL_law_759 ?_
  refine pw_topi (nI_add _ _) ?_
  refine va_sld hx hb hX0 hbl hbA hS (vp_in_nI (by omega) (by omega)) dL_law_760 ?_
  refine pw_topi (y := xs (i + 4)) (congrArg xs (nI_clamp (by omega))) ?_
  refine pw_cvW S hK hP 0 4 rfl rfl 3 (c_X4_word l D cy Ad n mm C hI hn hmm nx mx en am wt hX (xs (i + 1)) ((((xs (i + 2)).toInt64) <<< ((nI 32).toInt64 &&& 63)) ||| (((xs (i + 3)).toInt64) &&& (4294967295))) (xs (i + 4))) gL_law_X4_word rfl rfl rfl (by decide +kernel) ⟨Nat.le_of_ble_eq_true rfl, Nat.le_of_ble_eq_true rfl⟩ rfl hl.1 rfl (Nat.le_of_ble_eq_true rfl) dL_law_761 ⟨Nat.le_refl _, Nat.le_refl _⟩ hS hge (fun r9 C1 H1 locs1 hR hP hz9 hk9 hS => ?_)
  obtain ⟨rfl, hX1⟩ := hR
  have hP2 := hP2.kp hk9 hd12
  change W p l e room_1 s m _ below meth c _ _ _ _ _ (F0 m 764 ls [.int (f_word mx en (xs (i + 1)) ((((xs (i + 2)).toInt64) <<< ((nI 32).toInt64 &&& 63)) ||| (((xs (i + 3)).toInt64) &&& (4294967295))) (xs (i + 4)))])
  refine lv_aload_n hx hb dL_law_764 rfl (lv_at hl 1 rfl) ?_
  refine lv_aload_n hx hb dL_law_765 rfl (lv_at hl 3 rfl) ?_
  refine lv_iload_n hx hb dL_law_766 rfl (lv_at hl 0 rfl) ?_
  refine lv_iconst (v := nI 1) hx hb dL_law_767 (by decide) ?_
  refine lv_iadd hx hb dL_law_768 ?_
  refine pw_topi (nI_add _ _) ?_
  refine va_sld hx hb hX0 hbl hbA hS (vp_in_nI (by omega) (by omega)) dL_law_769 ?_
  refine pw_topi (y := xs (i + 1)) (congrArg xs (nI_clamp (by omega))) ?_
  refine lv_aload_n hx hb dL_law_770 rfl (lv_at hl 3 rfl) ?_
  refine lv_iload_n hx hb dL_law_771 rfl (lv_at hl 0 rfl) ?_
  refine lv_iconst (v := nI 2) hx hb dL_law_772 (by decide) ?_
  refine lv_iadd hx hb dL_law_773 ?_
  refine pw_topi (nI_add _ _) ?_
  refine va_sld hx hb hX0 hbl hbA hS (vp_in_nI (by omega) (by omega)) dL_law_774 ?_
  refine pw_topi (y := xs (i + 2)) (congrArg xs (nI_clamp (by omega))) ?_
  refine lv_i2l hx hb dL_law_775 rfl ?_
  refine lv_bipush (v := nI 32) hx hb dL_law_776 (by decide) ?_
  refine lv_lshl hx hb dL_law_778 rfl ?_
  refine lv_aload_n hx hb dL_law_779 rfl (lv_at hl 3 rfl) ?_
  refine lv_iload_n hx hb dL_law_780 rfl (lv_at hl 0 rfl) ?_
  refine lv_iconst (v := nI 3) hx hb dL_law_781 (by decide) ?_
  refine lv_iadd hx hb dL_law_782 ?_
  refine pw_topi (nI_add _ _) ?_
  refine va_sld hx hb hX0 hbl hbA hS (vp_in_nI (by omega) (by omega)) dL_law_783 ?_
  refine pw_topi (y := xs (i + 3)) (congrArg xs (nI_clamp (by omega))) ?_
  refine lv_i2l hx hb dL_law_784 rfl ?_
  refine lv_ldc2 hx hb hown (hts _ lw_c26) dL_law_785 ?_
  refine lv_land hx hb dL_law_788 ?_
  refine lv_lor hx hb dL_law_789 ?_
  refine lv_aload_n hx hb dL_law_790 rfl (lv_at hl 3 rfl) ?_
  refine lv_iload_n hx hb dL_law_791 rfl (lv_at hl 0 rfl) ?_
  refine lv_iconst (v := nI 4) hx hb dL_law_792 (by decide) ?_
  refine lv_iadd hx hb dL_law_793 ?_
  refine pw_topi (nI_add _ _) ?_
  refine va_sld hx hb hX0 hbl hbA hS (vp_in_nI (by omega) (by omega)) dL_law_794 ?_
  refine pw_topi (y := xs (i + 4)) (congrArg xs (nI_clamp (by omega))) ?_
  refine pw_cvW S hK hP2 0 5 rfl rfl 3 (c_X5_word l D cy Ad2 n mm C2 hI2 hn hmm nx mx en am wt hM (xs (i + 1)) ((((xs (i + 2)).toInt64) <<< ((nI 32).toInt64 &&& 63)) ||| (((xs (i + 3)).toInt64) &&& (4294967295))) (xs (i + 4))) gL_law_X5_word rfl rfl rfl (by decide +kernel) ⟨Nat.le_of_ble_eq_true rfl, Nat.le_of_ble_eq_true rfl⟩ rfl hl.1 rfl (Nat.le_of_ble_eq_true rfl) dL_law_795 ⟨Nat.le_refl _, Nat.le_refl _⟩ hS hge2 (fun r9 C3 H3 locs3 hR hP2 hz9 hk9 hS => ?_)
  obtain ⟨rfl, hM1⟩ := hR
  have hP := hP.kp hk9 hd21
  change W p l e room_1 s m _ below meth c _ _ _ _ _ (F0 m 798 ls [.int (f_word mx en (xs (i + 1)) ((((xs (i + 2)).toInt64) <<< ((nI 32).toInt64 &&& 63)) ||| (((xs (i + 3)).toInt64) &&& (4294967295))) (xs (i + 4))), .int (f_word mx en (xs (i + 1)) ((((xs (i + 2)).toInt64) <<< ((nI 32).toInt64 &&& 63)) ||| (((xs (i + 3)).toInt64) &&& (4294967295))) (xs (i + 4)))])
  refine lv_icmp_eq (tgt := 1137) hx hb dL_law_798 (by decide) (fun c_798 => ?_) (fun c_798 => absurd c_798 (fun h9 => h9 rfl))
  exact hq _ _ _ _ _ _ _ _ _ _ ls ⟨hmm, hP, hP2, hX1, hM1, hS⟩ hl

set_option maxHeartbeats 4000000 in
set_option maxRecDepth 100000 in
theorem K_rank {p : Program} {l : Launch} {e : Env} {s : State} {m : MethodId} {below : List Frame} {meth : Method} {c : Code} {b L : Nat} {xs : Nat → Int32} {D : va_G} {cy : Nat → ClassId} {Ad Ad2 : Nat → Nat} {n : Nat} (E : lw_E p s m c b L xs D cy Ad Ad2 n) (hL : L ≤ 2561) {i : Nat} (hi : i + 4 < L) {mm : Nat} {nx : Nat → Nat → Nat} {mx : Nat → Nat → Option Nat} {en : Nat → Bool} {am wt : Nat → Nat} {C C2 : pw_C} {H : Heap} {locs : List Loc} {ls : Array Slot} (Iv : lw_I s D cy Ad Ad2 n mm nx mx en am wt C C2 H locs) (hl : lv_has ls 4 [(3, .int (nI i)), (2, .ref (Ad2 0)), (1, .ref (Ad 0)), (0, .ref b)]) (hq : ∀ (mm : Nat) (nx : Nat → Nat → Nat) (mx : Nat → Nat → Option Nat) (en : Nat → Bool) (am wt : Nat → Nat) (C C2 : pw_C) (H : Heap) (locs : List Loc) (ls : Array Slot), lw_I s D cy Ad Ad2 n mm nx mx en am wt C C2 H locs → lv_has ls 4 [(3, .int (nI i)), (2, .ref (Ad2 0)), (1, .ref (Ad 0)), (0, .ref b)] → W p l e room_1 s m #[Value.ref b] below meth c H locs 600000 7302250 (lw_Z below #[Value.ref b] s) (F0 m 1137 ls [])) : W p l e room_1 s m #[Value.ref b] below meth c H locs 600000 7302250 (lw_Z below #[Value.ref b] s) (F0 m 803 ls []) := by
  obtain ⟨S, hX0, hbl, hK, hI, hI2, hn, hd12, hd21, hge, hge2⟩ := E
  obtain ⟨hmm, hP, hP2, hX, hM, hS⟩ := Iv
  have hbA : ¬ (fun q : Nat => s.heap.size ≤ q) b := Nat.not_le.mpr hbl
  have hx := S.1
  have hb := S.2.1
  have hown := S.2.2.2.1
  have hts := S.2.2.2.2
  refine lv_aload_n hx hb dL_law_803 rfl (lv_at hl 2 rfl) ?_
  refine lv_aload_n hx hb dL_law_804 rfl (lv_at hl 3 rfl) ?_
  refine lv_iload_n hx hb dL_law_805 rfl (lv_at hl 0 rfl) ?_
  refine lv_iconst (v := nI 1) hx hb dL_law_806 (by decide) ?_
  refine lv_iadd hx hb dL_law_807 ?_
  refine pw_topi (nI_add _ _) ?_
  refine va_sld hx hb hX0 hbl hbA hS (vp_in_nI (by omega) (by omega)) dL_law_808 ?_
  refine pw_topi (y := xs (i + 1)) (congrArg xs (nI_clamp (by omega))) ?_
  refine lv_aload_n hx hb dL_law_809 rfl (lv_at hl 3 rfl) ?_
  refine lv_iload_n hx hb dL_law_810 rfl (lv_at hl 0 rfl) ?_
  refine lv_iconst (v := nI 2) hx hb dL_law_811 (by decide) ?_
  refine lv_iadd hx hb dL_law_812 ?_
  refine pw_topi (nI_add _ _) ?_
  refine va_sld hx hb hX0 hbl hbA hS (vp_in_nI (by omega) (by omega)) dL_law_813 ?_
  refine pw_topi (y := xs (i + 2)) (congrArg xs (nI_clamp (by omega))) ?_
  refine lv_i2l hx hb dL_law_814 rfl ?_
  refine lv_bipush (v := nI 32) hx hb dL_law_815 (by decide) ?_
  refine lv_lshl hx hb dL_law_817 rfl ?_
  refine lv_aload_n hx hb dL_law_818 rfl (lv_at hl 3 rfl) ?_
  refine lv_iload_n hx hb dL_law_819 rfl (lv_at hl 0 rfl) ?_
  refine lv_iconst (v := nI 3) hx hb dL_law_820 (by decide) ?_
  refine lv_iadd hx hb dL_law_821 ?_
  refine pw_topi (nI_add _ _) ?_
  refine va_sld hx hb hX0 hbl hbA hS (vp_in_nI (by omega) (by omega)) dL_law_822 ?_
  refine pw_topi (y := xs (i + 3)) (congrArg xs (nI_clamp (by omega))) ?_
  refine lv_i2l hx hb dL_law_823 rfl ?_
  refine lv_ldc2 hx hb hown (hts _ lw_c26) dL_law_824 ?_
  refine lv_land hx hb dL_law_827 ?_
  refine lv_lor hx hb dL_law_828 ?_
  refine pw_cvW S hK hP 0 4 rfl rfl 2 (c_X4_rank l D cy Ad n mm C hI hn hmm nx mx en am wt hX (xs (i + 1)) ((((xs (i + 2)).toInt64) <<< ((nI 32).toInt64 &&& 63)) ||| (((xs (i + 3)).toInt64) &&& (4294967295)))) gL_law_X4_rank rfl rfl rfl (by decide +kernel) ⟨Nat.le_of_ble_eq_true rfl, Nat.le_of_ble_eq_true rfl⟩ rfl hl.1 rfl (Nat.le_of_ble_eq_true rfl) dL_law_829 ⟨Nat.le_refl _, Nat.le_refl _⟩ hS hge (fun r9 C1 H1 locs1 hR hP hz9 hk9 hS => ?_)
  obtain ⟨rfl, hX1⟩ := hR
  have hP2 := hP2.kp hk9 hd12
  change W p l e room_1 s m _ below meth c _ _ _ _ _ (F0 m 832 ls [.long (f_rank mx en (xs (i + 1)) ((((xs (i + 2)).toInt64) <<< ((nI 32).toInt64 &&& 63)) ||| (((xs (i + 3)).toInt64) &&& (4294967295))))])
  refine lv_aload_n hx hb dL_law_832 rfl (lv_at hl 1 rfl) ?_
  refine lv_aload_n hx hb dL_law_833 rfl (lv_at hl 3 rfl) ?_
  refine lv_iload_n hx hb dL_law_834 rfl (lv_at hl 0 rfl) ?_
  refine lv_iconst (v := nI 1) hx hb dL_law_835 (by decide) ?_
  refine lv_iadd hx hb dL_law_836 ?_
  refine pw_topi (nI_add _ _) ?_
  refine va_sld hx hb hX0 hbl hbA hS (vp_in_nI (by omega) (by omega)) dL_law_837 ?_
  refine pw_topi (y := xs (i + 1)) (congrArg xs (nI_clamp (by omega))) ?_
  refine lv_aload_n hx hb dL_law_838 rfl (lv_at hl 3 rfl) ?_
  refine lv_iload_n hx hb dL_law_839 rfl (lv_at hl 0 rfl) ?_
  refine lv_iconst (v := nI 2) hx hb dL_law_840 (by decide) ?_
  refine lv_iadd hx hb dL_law_841 ?_
  refine pw_topi (nI_add _ _) ?_
  refine va_sld hx hb hX0 hbl hbA hS (vp_in_nI (by omega) (by omega)) dL_law_842 ?_
  refine pw_topi (y := xs (i + 2)) (congrArg xs (nI_clamp (by omega))) ?_
  refine lv_i2l hx hb dL_law_843 rfl ?_
  refine lv_bipush (v := nI 32) hx hb dL_law_844 (by decide) ?_
  refine lv_lshl hx hb dL_law_846 rfl ?_
  refine lv_aload_n hx hb dL_law_847 rfl (lv_at hl 3 rfl) ?_
  refine lv_iload_n hx hb dL_law_848 rfl (lv_at hl 0 rfl) ?_
  refine lv_iconst (v := nI 3) hx hb dL_law_849 (by decide) ?_
  refine lv_iadd hx hb dL_law_850 ?_
  refine pw_topi (nI_add _ _) ?_
  refine va_sld hx hb hX0 hbl hbA hS (vp_in_nI (by omega) (by omega)) dL_law_851 ?_
  refine pw_topi (y := xs (i + 3)) (congrArg xs (nI_clamp (by omega))) ?_
  refine lv_i2l hx hb dL_law_852 rfl ?_
  refine lv_ldc2 hx hb hown (hts _ lw_c26) dL_law_853 ?_
  refine lv_land hx hb dL_law_856 ?_
  refine lv_lor hx hb dL_law_857 ?_
  refine pw_cvW S hK hP2 0 5 rfl rfl 2 (c_X5_rank l D cy Ad2 n mm C2 hI2 hn hmm nx mx en am wt hM (xs (i + 1)) ((((xs (i + 2)).toInt64) <<< ((nI 32).toInt64 &&& 63)) ||| (((xs (i + 3)).toInt64) &&& (4294967295)))) gL_law_X5_rank rfl rfl rfl (by decide +kernel) ⟨Nat.le_of_ble_eq_true rfl, Nat.le_of_ble_eq_true rfl⟩ rfl hl.1 rfl (Nat.le_of_ble_eq_true rfl) dL_law_858 ⟨Nat.le_refl _, Nat.le_refl _⟩ hS hge2 (fun r9 C3 H3 locs3 hR hP2 hz9 hk9 hS => ?_)
  obtain ⟨rfl, hM1⟩ := hR
  have hP := hP.kp hk9 hd21
  change W p l e room_1 s m _ below meth c _ _ _ _ _ (F0 m 861 ls [.long (f_rank mx en (xs (i + 1)) ((((xs (i + 2)).toInt64) <<< ((nI 32).toInt64 &&& 63)) ||| (((xs (i + 3)).toInt64) &&& (4294967295)))), .long (f_rank mx en (xs (i + 1)) ((((xs (i + 2)).toInt64) <<< ((nI 32).toInt64 &&& 63)) ||| (((xs (i + 3)).toInt64) &&& (4294967295))))])
  refine W.lcmp hx hb dL_law_861 ?_
  refine pn_lif_eq (tgt := 1137) hx hb dL_law_862 (by decide) (fun c_862 => ?_) (fun c_862 => absurd c_862 (fun h9 => h9 rfl))
  exact hq _ _ _ _ _ _ _ _ _ _ ls ⟨hmm, hP, hP2, hX1, hM1, hS⟩ hl
