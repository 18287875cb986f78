set_option maxHeartbeats 4000000 in
set_option maxRecDepth 100000 in
theorem K_allow {p : Program} {l : Launch} {e : Env} {s : State} {m : MethodId} {below : List Frame} {meth : Method} {c : Code} {b L : Nat} {xs : Nat → Int32} {D : va_G} {cy : Nat → ClassId} {Ad Ad2 : Nat → Nat} {n : Nat} (E : lw_E p s m c b L xs D cy Ad Ad2 n) (hL : L ≤ 2561) {i : Nat} (hi : i + 4 < L) {mm : Nat} {nx : Nat → Nat → Nat} {mx : Nat → Nat → Option Nat} {en : Nat → Bool} {am wt : Nat → Nat} {C C2 : pw_C} {H : Heap} {locs : List Loc} {ls : Array Slot} (Iv : lw_I s D cy Ad Ad2 n mm nx mx en am wt C C2 H locs) (hl : lv_has ls 4 [(3, .int (nI i)), (2, .ref (Ad2 0)), (1, .ref (Ad 0)), (0, .ref b)]) (hq : ∀ (mm : Nat) (nx : Nat → Nat → Nat) (mx : Nat → Nat → Option Nat) (en : Nat → Bool) (am wt : Nat → Nat) (C C2 : pw_C) (H : Heap) (locs : List Loc) (ls : Array Slot), lw_I s D cy Ad Ad2 n mm nx mx en am wt C C2 H locs → lv_has ls 4 [(3, .int (nI i)), (2, .ref (Ad2 0)), (1, .ref (Ad 0)), (0, .ref b)] → W p l e room_1 s m #[Value.ref b] below meth c H locs 600000 7302250 (lw_Z below #[Value.ref b] s) (F0 m 1137 ls [])) : W p l e room_1 s m #[Value.ref b] below meth c H locs 600000 7302250 (lw_Z below #[Value.ref b] s) (F0 m 867 ls []) := by
  obtain ⟨S, hX0, hbl, hK, hI, hI2, hn, hd12, hd21, hge, hge2⟩ := E
  obtain ⟨hmm, hP, hP2, hX, hM, hS⟩ := Iv
  have hbA : ¬ (fun q : Nat => s.heap.size ≤ q) b := Nat.not_le.mpr hbl
  have hx := S.1
  have hb := S.2.1
  have hown := S.2.2.2.1
  have hts := S.2.2.2.2
  by_cases hz0 : xs (i + 3) = 0
  · refine lv_aload_n hx hb dL_law_867 rfl (lv_at hl 2 rfl) ?_
    refine lv_aload_n hx hb dL_law_868 rfl (lv_at hl 3 rfl) ?_
    refine lv_iload_n hx hb dL_law_869 rfl (lv_at hl 0 rfl) ?_
    refine lv_iconst (v := nI 1) hx hb dL_law_870 (by decide) ?_
    refine lv_iadd hx hb dL_law_871 ?_
    refine pw_topi (nI_add _ _) ?_
    refine va_sld hx hb hX0 hbl hbA hS (vp_in_nI (by omega) (by omega)) dL_law_872 ?_
    refine pw_topi (y := xs (i + 1)) (congrArg xs (nI_clamp (by omega))) ?_
    refine lv_aload_n hx hb dL_law_873 rfl (lv_at hl 3 rfl) ?_
    refine lv_iload_n hx hb dL_law_874 rfl (lv_at hl 0 rfl) ?_
    refine lv_iconst (v := nI 2) hx hb dL_law_875 (by decide) ?_
    refine lv_iadd hx hb dL_law_876 ?_
    refine pw_topi (nI_add _ _) ?_
    refine va_sld hx hb hX0 hbl hbA hS (vp_in_nI (by omega) (by omega)) dL_law_877 ?_
    refine pw_topi (y := xs (i + 2)) (congrArg xs (nI_clamp (by omega))) ?_
    refine lv_aload_n hx hb dL_law_878 rfl (lv_at hl 3 rfl) ?_
    refine lv_iload_n hx hb dL_law_879 rfl (lv_at hl 0 rfl) ?_
    refine lv_iconst (v := nI 3) hx hb dL_law_880 (by decide) ?_
    refine lv_iadd hx hb dL_law_881 ?_
    refine pw_topi (nI_add _ _) ?_
    refine va_sld hx hb hX0 hbl hbA hS (vp_in_nI (by omega) (by omega)) dL_law_882 ?_
    refine pw_topi (y := xs (i + 3)) (congrArg xs (nI_clamp (by omega))) ?_
    refine lv_if_eq (tgt := 890) hx hb dL_law_883 (by decide) (fun c_883 => ?_) (fun c_883 => absurd c_883 (fun h9 => h9 hz0))
    refine lv_iconst (v := nI 0) hx hb dL_law_890 (by decide) ?_
    refine pw_topi (y := pb false) rfl ?_
    refine pw_cvW S hK hP 0 4 rfl rfl 3 (c_X4_allow l D cy Ad n mm C hI hn hmm nx mx en am wt hX (xs (i + 1)) (xs (i + 2)) false) gL_law_X4_allow rfl rfl rfl (by decide +kernel) ⟨Nat.le_of_ble_eq_true rfl, Nat.le_of_ble_eq_true rfl⟩ rfl hl.1 rfl (Nat.le_of_ble_eq_true rfl) dL_law_891 ⟨Nat.le_refl _, Nat.le_refl _⟩ hS hge (fun r9 C1 H1 locs1 hR hP hz9 hk9 hS => ?_)
    obtain ⟨rfl, hX1⟩ := hR
    have hP2 := hP2.kp hk9 hd12
    change W p l e room_1 s m _ below meth c _ _ _ _ _ (F0 m 894 ls [.int (f_allow am (xs (i + 1)) (xs (i + 2)))])
    refine lv_aload_n hx hb dL_law_894 rfl (lv_at hl 1 rfl) ?_
    refine lv_aload_n hx hb dL_law_895 rfl (lv_at hl 3 rfl) ?_
    refine lv_iload_n hx hb dL_law_896 rfl (lv_at hl 0 rfl) ?_
    refine lv_iconst (v := nI 1) hx hb dL_law_897 (by decide) ?_
    refine lv_iadd hx hb dL_law_898 ?_
    refine pw_topi (nI_add _ _) ?_
    refine va_sld hx hb hX0 hbl hbA hS (vp_in_nI (by omega) (by omega)) dL_law_899 ?_
    refine pw_topi (y := xs (i + 1)) (congrArg xs (nI_clamp (by omega))) ?_
    refine lv_aload_n hx hb dL_law_900 rfl (lv_at hl 3 rfl) ?_
    refine lv_iload_n hx hb dL_law_901 rfl (lv_at hl 0 rfl) ?_
    refine lv_iconst (v := nI 2) hx hb dL_law_902 (by decide) ?_
    refine lv_iadd hx hb dL_law_903 ?_
    refine pw_topi (nI_add _ _) ?_
    refine va_sld hx hb hX0 hbl hbA hS (vp_in_nI (by omega) (by omega)) dL_law_904 ?_
    refine pw_topi (y := xs (i + 2)) (congrArg xs (nI_clamp (by omega))) ?_
    refine lv_aload_n hx hb dL_law_905 rfl (lv_at hl 3 rfl) ?_
    refine lv_iload_n hx hb dL_law_906 rfl (lv_at hl 0 rfl) ?_
    refine lv_iconst (v := nI 3) hx hb dL_law_907 (by decide) ?_
    refine lv_iadd hx hb dL_law_908 ?_
    refine pw_topi (nI_add _ _) ?_
    refine va_sld hx hb hX0 hbl hbA hS (vp_in_nI (by omega) (by omega)) dL_law_909 ?_
    refine pw_topi (y := xs (i + 3)) (congrArg xs (nI_clamp (by omega))) ?_
    refine lv_if_eq (tgt := 917) hx hb dL_law_910 (by decide) (fun c_910 => ?_) (fun c_910 => absurd c_910 (fun h9 => h9 hz0))
    refine lv_iconst (v := nI 0) hx hb dL_law_917 (by decide) ?_
    refine pw_topi (y := pb false) rfl ?_
    refine pw_cvW S hK hP2 0 5 rfl rfl 3 (c_X5_allow l D cy Ad2 n mm C2 hI2 hn hmm nx mx en am wt hM (xs (i + 1)) (xs (i + 2)) false) gL_law_X5_allow rfl rfl rfl (by decide +kernel) ⟨Nat.le_of_ble_eq_true rfl, Nat.le_of_ble_eq_true rfl⟩ rfl hl.1 rfl (Nat.le_of_ble_eq_true rfl) dL_law_918 ⟨Nat.le_refl _, Nat.le_refl _⟩ hS hge2 (fun r9 C3 H3 locs3 hR hP2 hz9 hk9 hS => ?_)
    obtain ⟨rfl, hM1⟩ := hR
    have hP := hP.kp hk9 hd21
    change W p l e room_1 s m _ below meth c _ _ _ _ _ (F0 m 921 ls [.int (f_allow am (xs (i + 1)) (xs (i + 2))), .int (f_allow am (xs (i + 1)) (xs (i + 2)))])
    refine lv_icmp_eq (tgt := 1137) hx hb dL_law_921 (by decide) (fun c_921 => ?_) (fun c_921 => absurd c_921 (fun h9 => h9 rfl))
    exact hq _ _ _ _ _ _ _ _ _ _ ls ⟨hmm, hP, hP2, hX1, hM1, hS⟩ hl
  · refine lv_aload_n hx hb dL_law_867 rfl (lv_at hl 2 rfl) ?_
    refine lv_aload_n hx hb dL_law_868 rfl (lv_at hl 3 rfl) ?_
    refine lv_iload_n hx hb dL_law_869 rfl (lv_at hl 0 rfl) ?_
    refine lv_iconst (v := nI 1) hx hb dL_law_870 (by decide) ?_
    refine lv_iadd hx hb dL_law_871 ?_
    refine pw_topi (nI_add _ _) ?_
    refine va_sld hx hb hX0 hbl hbA hS (vp_in_nI (by omega) (by omega)) dL_law_872 ?_
    refine pw_topi (y := xs (i + 1)) (congrArg xs (nI_clamp (by omega))) ?_
    refine lv_aload_n hx hb dL_law_873 rfl (lv_at hl 3 rfl) ?_
    refine lv_iload_n hx hb dL_law_874 rfl (lv_at hl 0 rfl) ?_
    refine lv_iconst (v := nI 2) hx hb dL_law_875 (by decide) ?_
    refine lv_iadd hx hb dL_law_876 ?_
    refine pw_topi (nI_add _ _) ?_
    refine va_sld hx hb hX0 hbl hbA hS (vp_in_nI (by omega) (by omega)) dL_law_877 ?_
    refine pw_topi (y := xs (i + 2)) (congrArg xs (nI_clamp (by omega))) ?_
    refine lv_aload_n hx hb dL_law_878 rfl (lv_at hl 3 rfl) ?_
    refine lv_iload_n hx hb dL_law_879 rfl (lv_at hl 0 rfl) ?_
    refine lv_iconst (v := nI 3) hx hb dL_law_880 (by decide) ?_
    refine lv_iadd hx hb dL_law_881 ?_
    refine pw_topi (nI_add _ _) ?_
    refine va_sld hx hb hX0 hbl hbA hS (vp_in_nI (by omega) (by omega)) dL_law_882 ?_
    refine pw_topi (y := xs (i + 3)) (congrArg xs (nI_clamp (by omega))) ?_
    refine lv_if_eq (tgt := 890) hx hb dL_law_883 (by decide) (fun c_883 => absurd c_883 hz0) (fun c_883 => ?_)
    refine lv_iconst (v := nI 1) hx hb dL_law_886 (by decide) ?_
    refine pw_topi (y := pb true) rfl ?_
    refine lv_goto (tgt := 891) hx hb dL_law_887 (by decide) ?_
    refine pw_cvW S hK hP 0 4 rfl rfl 3 (c_X4_allow l D cy Ad n mm C hI hn hmm nx mx en am wt hX (xs (i + 1)) (xs (i + 2)) true) gL_law_X4_allow rfl rfl rfl (by decide +kernel) ⟨Nat.le_of_ble_eq_true rfl, Nat.le_of_ble_eq_true rfl⟩ rfl hl.1 rfl (Nat.le_of_ble_eq_true rfl) dL_law_891 ⟨Nat.le_refl _, Nat.le_refl _⟩ hS hge (fun r9 C1 H1 locs1 hR hP hz9 hk9 hS => ?_)
    obtain ⟨rfl, hX1⟩ := hR
    have hP2 := hP2.kp hk9 hd12
    change W p l e room_1 s m _ below meth c _ _ _ _ _ (F0 m 894 ls [.int (f_allow am (xs (i + 1)) (xs (i + 2)))])
    refine lv_aload_n hx hb dL_law_894 rfl (lv_at hl 1 rfl) ?_
    refine lv_aload_n hx hb dL_law_895 rfl (lv_at hl 3 rfl) ?_
    refine lv_iload_n hx hb dL_law_896 rfl (lv_at hl 0 rfl) ?_
    refine lv_iconst (v := nI 1) hx hb dL_law_897 (by decide) ?_
    refine lv_iadd hx hb dL_law_898 ?_
    refine pw_topi (nI_add _ _) ?_
    refine va_sld hx hb hX0 hbl hbA hS (vp_in_nI (by omega) (by omega)) dL_law_899 ?_
    refine pw_topi (y := xs (i + 1)) (congrArg xs (nI_clamp (by omega))) ?_
    refine lv_aload_n hx hb dL_law_900 rfl (lv_at hl 3 rfl) ?_
    refine lv_iload_n hx hb dL_law_901 rfl (lv_at hl 0 rfl) ?_
    refine lv_iconst (v := nI 2) hx hb dL_law_902 (by decide) ?_
    refine lv_iadd hx hb dL_law_903 ?_
    refine pw_topi (nI_add _ _) ?_
    refine va_sld hx hb hX0 hbl hbA hS (vp_in_nI (by omega) (by omega)) dL_law_904 ?_
    refine pw_topi (y := xs (i + 2)) (congrArg xs (nI_clamp (by omega))) ?_
    refine lv_aload_n hx hb dL_law_905 rfl (lv_at hl 3 rfl) ?_
    refine lv_iload_n hx hb dL_law_906 rfl (lv_at hl 0 rfl) ?_
    refine lv_iconst (v := nI 3) hx hb dL_law_907 (by decide) ?_
    refine lv_iadd hx hb dL_law_908 ?_
    refine pw_topi (nI_add _ _) ?_
    refine va_sld hx hb hX0 hbl hbA hS (vp_in_nI (by omega) (by omega)) dL_law_909 ?_
    refine pw_topi (y := xs (i + 3)) (congrArg xs (nI_clamp (by omega))) ?_
    refine lv_if_eq (tgt := 917) hx hb dL_law_910 (by decide) (fun c_910 => absurd c_910 hz0) (fun c_910 => ?_)
    refine lv_iconst (v := nI 1) hx hb dL_law_913 (by decide) ?_
    refine pw_topi (y := pb true) rfl ?_
    refine lv_goto (tgt := 918) hx hb dL_law_914 (by decide) ?_
    refine pw_cvW S hK hP2 0 5 rfl rfl 3 (c_X5_allow l D cy Ad2 n mm C2 hI2 hn hmm nx mx en am wt hM (xs (i + 1)) (xs (i + 2)) true) gL_law_X5_allow rfl rfl rfl (by decide +kernel) ⟨Nat.le_of_ble_eq_true rfl, Nat.le_of_ble_eq_true rfl⟩ rfl hl.1 rfl (Nat.le_of_ble_eq_true rfl) dL_law_918 ⟨Nat.le_refl _, Nat.le_refl _⟩ hS hge2 (fun r9 C3 H3 locs3 hR hP2 hz9 hk9 hS => ?_)
    obtain ⟨rfl, hM1⟩ := hR
    have hP := hP.kp hk9 hd21
    change W p l e room_1 s m _ below meth c _ _ _ _ _ (F0 m 921 ls [.int (f_allow am (xs (i + 1)) (xs (i + 2))), .int (f_allow am (xs (i + 1)) (xs (i + 2)))])
    refine lv_icmp_eq (tgt := 1137) hx hb dL_law_921 (by decide) (fun c_921 => ?_) (fun c_921 => absurd c_921 (fun h9 => h9 rfl))
    exact hq _ _ _ _ _ _ _ _ _ _ ls ⟨hmm, hP, hP2, hX1, hM1, hS⟩ hl


set_option maxHeartbeats 4000000 in
set_option maxRecDepth 100000 in
theorem K_permutations {p : Program} {l : Launch} {e : Env} {s : State} {m : MethodId} {below : List Frame} {meth : Method} {c : Code} {b L : Nat} {xs : Nat → Int32} {D : va_G} {cy : Nat → ClassId} {Ad Ad2 : Nat → Nat} {n : Nat} (E : lw_E p s m c b L xs D cy Ad Ad2 n) (hL : L ≤ 2561) {i : Nat} (hi : i + 4 < L) {mm : Nat} {nx : Nat → Nat → Nat} {mx : Nat → Nat → Option Nat} {en : Nat → Bool} {am wt : Nat → Nat} {C C2 : pw_C} {H : Heap} {locs : List Loc} {ls : Array Slot} (Iv : lw_I s D cy Ad Ad2 n mm nx mx en am wt C C2 H locs) (hl : lv_has ls 4 [(3, .int (nI i)), (2, .ref (Ad2 0)), (1, .ref (Ad 0)), (0, .ref b)]) (hq : ∀ (mm : Nat) (nx : Nat → Nat → Nat) (mx : Nat → Nat → Option Nat) (en : Nat → Bool) (am wt : Nat → Nat) (C C2 : pw_C) (H : Heap) (locs : List Loc) (ls : Array Slot), lw_I s D cy Ad Ad2 n mm nx mx en am wt C C2 H locs → lv_has ls 4 [(3, .int (nI i)), (2, .ref (Ad2 0)), (1, .ref (Ad 0)), (0, .ref b)] → W p l e room_1 s m #[Value.ref b] below meth c H locs 600000 7302250 (lw_Z below #[Value.ref b] s) (F0 m 1137 ls [])) : W p l e room_1 s m #[Value.ref b] below meth c H locs 600000 7302250 (lw_Z below #[Value.ref b] s) (F0 m 926 ls []) := by
  obtain ⟨S, hX0, hbl, hK, hI, hI2, hn, hd12, hd21, hge, hge2⟩ := E
  obtain ⟨hmm, hP, hP2, hX, hM, hS⟩ := Iv
  have hbA : ¬ (fun q : Nat => s.heap.size ≤ q) b := Nat.not_le.mpr hbl
  have hx := S.1
  have hb := S.2.1
  have hown := S.2.2.2.1
  have hts := S.2.2.2.2
  refine lv_aload_n hx hb dL_law_926 rfl (lv_at hl 2 rfl) ?_
  refine lv_aload_n hx hb dL_law_927 rfl (lv_at hl 3 rfl) ?_
  refine lv_iload_n hx hb dL_law_928 rfl (lv_at hl 0 rfl) ?_
  refine lv_iconst (v := nI 1) hx hb dL_law_929 (by decide) ?_
  refine lv_iadd hx hb dL_law_930 ?_
  refine pw_topi (nI_add _ _) ?_
  refine va_sld hx hb hX0 hbl hbA hS (vp_in_nI (by omega) (by omega)) dL_law_931 ?_
  refine pw_topi (y := xs (i + 1)) (congrArg xs (nI_clamp (by omega))) ?_
  refine pw_cvW S hK hP 0 4 rfl rfl 1 (c_X4_permutations l D cy Ad n mm C hI hn hmm nx mx en am wt hX (xs (i + 1))) gL_law_X4_permutations rfl rfl rfl (by decide +kernel) ⟨Nat.le_of_ble_eq_true rfl, Nat.le_of_ble_eq_true rfl⟩ rfl hl.1 rfl (Nat.le_of_ble_eq_true rfl) dL_law_932 ⟨Nat.le_refl _, Nat.le_refl _⟩ hS hge (fun r9 C1 H1 locs1 hR hP hz9 hk9 hS => ?_)
  obtain ⟨rfl, hX1⟩ := hR
  have hP2 := hP2.kp hk9 hd12
  change W p l e room_1 s m _ below meth c _ _ _ _ _ (F0 m 935 ls [.int (f_perms am (xs (i + 1)))])
  refine lv_aload_n hx hb dL_law_935 rfl (lv_at hl 1 rfl) ?_
  refine lv_aload_n hx hb dL_law_936 rfl (lv_at hl 3 rfl) ?_
  refine lv_iload_n hx hb dL_law_937 rfl (lv_at hl 0 rfl) ?_
  refine lv_iconst (v := nI 1) hx hb dL_law_938 (by decide) ?_
  refine lv_iadd hx hb dL_law_939 ?_
  refine pw_topi (nI_add _ _) ?_
  refine va_sld hx hb hX0 hbl hbA hS (vp_in_nI (by omega) (by omega)) dL_law_940 ?_
  refine pw_topi (y := xs (i + 1)) (congrArg xs (nI_clamp (by omega))) ?_
  refine pw_cvW S hK hP2 0 5 rfl rfl 1 (c_X5_permutations l D cy Ad2 n mm C2 hI2 hn hmm nx mx en am wt hM (xs (i + 1))) gL_law_X5_permutations rfl rfl rfl (by decide +kernel) ⟨Nat.le_of_ble_eq_true rfl, Nat.le_of_ble_eq_true rfl⟩ rfl hl.1 rfl (Nat.le_of_ble_eq_true rfl) dL_law_941 ⟨Nat.le_refl _, Nat.le_refl _⟩ hS hge2 (fun r9 C3 H3 locs3 hR hP2 hz9 hk9 hS => ?_)
  obtain ⟨rfl, hM1⟩ := hR
  have hP := hP.kp hk9 hd21
  change W p l e room_1 s m _ below meth c _ _ _ _ _ (F0 m 944 ls [.int (f_perms am (xs (i + 1))), .int (f_perms am (xs (i + 1)))])
  refine lv_icmp_eq (tgt := 1137) hx hb dL_law_944 (by decide) (fun c_944 => ?_) (fun c_944 => absurd c_944 (fun h9 => h9 rfl))
  exact hq _ _ _ _ _ _ _ _ _ _ ls ⟨hmm, hP, hP2, hX1, hM1, hS⟩ hl

set_option maxHeartbeats 4000000 in
set_option maxRecDepth 100000 in
theorem K_permutation {p : Program} {l : Launch} {e : Env} {s : State} {m : MethodId} {below : List Frame} {meth : Method} {c : Code} {b L : Nat} {xs : Nat → Int32} {D : va_G} {cy : Nat → ClassId} {Ad Ad2 : Nat → Nat} {n : Nat} (E : lw_E p s m c b L xs D cy Ad Ad2 n) (hL : L ≤ 2561) {i : Nat} (hi : i + 4 < L) {mm : Nat} {nx : Nat → Nat → Nat} {mx : Nat → Nat → Option Nat} {en : Nat → Bool} {am wt : Nat → Nat} {C C2 : pw_C} {H : Heap} {locs : List Loc} {ls : Array Slot} (Iv : lw_I s D cy Ad Ad2 n mm nx mx en am wt C C2 H locs) (hl : lv_has ls 4 [(3, .int (nI i)), (2, .ref (Ad2 0)), (1, .ref (Ad 0)), (0, .ref b)]) (hq : ∀ (mm : Nat) (nx : Nat → Nat → Nat) (mx : Nat → Nat → Option Nat) (en : Nat → Bool) (am wt : Nat → Nat) (C C2 : pw_C) (H : Heap) (locs : List Loc) (ls : Array Slot), lw_I s D cy Ad Ad2 n mm nx mx en am wt C C2 H locs → lv_has ls 4 [(3, .int (nI i)), (2, .ref (Ad2 0)), (1, .ref (Ad 0)), (0, .ref b)] → W p l e room_1 s m #[Value.ref b] below meth c H locs 600000 7302250 (lw_Z below #[Value.ref b] s) (F0 m 1137 ls [])) : W p l e room_1 s m #[Value.ref b] below meth c H locs 600000 7302250 (lw_Z below #[Value.ref b] s) (F0 m 949 ls []) := by
  obtain ⟨S, hX0, hbl, hK, hI, hI2, hn, hd12, hd21, hge, hge2⟩ := E
  obtain ⟨hmm, hP, hP2, hX, hM, hS⟩ := Iv
  have hbA : ¬ (fun q : Nat => s.heap.size ≤ q) b := Nat.not_le.mpr hbl
  have hx := S.1
  have hb := S.2.1
  have hown := S.2.2.2.1
  have hts := S.2.2.2.2
  refine lv_aload_n hx hb dL_law_949 rfl (lv_at hl 2 rfl) ?_
  refine lv_aload_n hx hb dL_law_950 rfl (lv_at hl 3 rfl) ?_
  refine lv_iload_n hx hb dL_law_951 rfl (lv_at hl 0 rfl) ?_
  refine lv_iconst (v := nI 1) hx hb dL_law_952 (by decide) ?_
  refine lv_iadd hx hb dL_law_953 ?_
  refine pw_topi (nI_add _ _) ?_
  refine va_sld hx hb hX0 hbl hbA hS (vp_in_nI (by omega) (by omega)) dL_law_954 ?_
  refine pw_topi (y := xs (i + 1)) (congrArg xs (nI_clamp (by omega))) ?_
  refine lv_aload_n hx hb dL_law_955 rfl (lv_at hl 3 rfl) ?_
  refine lv_iload_n hx hb dL_law_956 rfl (lv_at hl 0 rfl) ?_
  refine lv_iconst (v := nI 2) hx hb dL_law_957 (by decide) ?_
  refine lv_iadd hx hb dL_law_958 ?_
  refine pw_topi (nI_add _ _) ?_
  refine va_sld hx hb hX0 hbl hbA hS (vp_in_nI (by omega) (by omega)) dL_law_959 ?_
  refine pw_topi (y := xs (i + 2)) (congrArg xs (nI_clamp (by omega))) ?_
  refine lv_aload_n hx hb dL_law_960 rfl (lv_at hl 3 rfl) ?_
  refine lv_iload_n hx hb dL_law_961 rfl (lv_at hl 0 rfl) ?_
  refine lv_iconst (v := nI 3) hx hb dL_law_962 (by decide) ?_
  refine lv_iadd hx hb dL_law_963 ?_
  refine pw_topi (nI_add _ _) ?_
  refine va_sld hx hb hX0 hbl hbA hS (vp_in_nI (by omega) (by omega)) dL_law_964 ?_
  refine pw_topi (y := xs (i + 3)) (congrArg xs (nI_clamp (by omega))) ?_
  refine pw_cvW S hK hP 0 4 rfl rfl 3 (c_X4_permutation l D cy Ad n mm C hI hn hmm nx mx en am wt hX (xs (i + 1)) (xs (i + 2)) (xs (i + 3))) gL_law_X4_permutation rfl rfl rfl (by decide +kernel) ⟨Nat.le_of_ble_eq_true rfl, Nat.le_of_ble_eq_true rfl⟩ rfl hl.1 rfl (Nat.le_of_ble_eq_true rfl) dL_law_965 ⟨Nat.le_refl _, Nat.le_refl _⟩ hS hge (fun r9 C1 H1 locs1 hR hP hz9 hk9 hS => ?_)
  obtain ⟨rfl, hX1⟩ := hR
  have hP2 := hP2.kp hk9 hd12
  change W p l e room_1 s m _ below meth c _ _ _ _ _ (F0 m 968 ls [.int (f_perm am (xs (i + 1)) (xs (i + 2)) (xs (i + 3)))])
  refine lv_aload_n hx hb dL_law_968 rfl (lv_at hl 1 rfl) ?_
  refine lv_aload_n hx hb dL_law_969 rfl (lv_at hl 3 rfl) ?_
  refine lv_iload_n hx hb dL_law_970 rfl (lv_at hl 0 rfl) ?_
  refine lv_iconst (v := nI 1) hx hb dL_law_971 (by decide) ?_
  refine lv_iadd hx hb dL_law_972 ?_
  refine pw_topi (nI_add _ _) ?_
  refine va_sld hx hb hX0 hbl hbA hS (vp_in_nI (by omega) (by omega)) dL_law_973 ?_
  refine pw_topi (y := xs (i + 1)) (congrArg xs (nI_clamp (by omega))) ?_
  refine lv_aload_n hx hb dL_law_974 rfl (lv_at hl 3 rfl) ?_
  refine lv_iload_n hx hb dL_law_975 rfl (lv_at hl 0 rfl) ?_
  refine lv_iconst (v := nI 2) hx hb dL_law_976 (by decide) ?_
  refine lv_iadd hx hb dL_law_977 ?_
  refine pw_topi (nI_add _ _) ?_
  refine va_sld hx hb hX0 hbl hbA hS (vp_in_nI (by omega) (by omega)) dL_law_978 ?_
  refine pw_topi (y := xs (i + 2)) (congrArg xs (nI_clamp (by omega))) ?_
  refine lv_aload_n hx hb dL_law_979 rfl (lv_at hl 3 rfl) ?_
  refine lv_iload_n hx hb dL_law_980 rfl (lv_at hl 0 rfl) ?_
  refine lv_iconst (v := nI 3) hx hb dL_law_981 (by decide) ?_
  refine lv_iadd hx hb dL_law_982 ?_
  refine pw_topi (nI_add _ _) ?_
  refine va_sld hx hb hX0 hbl hbA hS (vp_in_nI (by omega) (by omega)) dL_law_983 ?_
  refine pw_topi (y := xs (i + 3)) (congrArg xs (nI_clamp (by omega))) ?_
  refine pw_cvW S hK hP2 0 5 rfl rfl 3 (c_X5_permutation l D cy Ad2 n mm C2 hI2 hn hmm nx mx en am wt hM (xs (i + 1)) (xs (i + 2)) (xs (i + 3))) gL_law_X5_permutation rfl rfl rfl (by decide +kernel) ⟨Nat.le_of_ble_eq_true rfl, Nat.le_of_ble_eq_true rfl⟩ rfl hl.1 rfl (Nat.le_of_ble_eq_true rfl) dL_law_984 ⟨Nat.le_refl _, Nat.le_refl _⟩ hS hge2 (fun r9 C3 H3 locs3 hR hP2 hz9 hk9 hS => ?_)
  obtain ⟨rfl, hM1⟩ := hR
  have hP := hP.kp hk9 hd21
  change W p l e room_1 s m _ below meth c _ _ _ _ _ (F0 m 987 ls [.int (f_perm am (xs (i + 1)) (xs (i + 2)) (xs (i + 3))), .int (f_perm am (xs (i + 1)) (xs (i + 2)) (xs (i + 3)))])
  refine lv_icmp_eq (tgt := 1137) hx hb dL_law_987 (by decide) (fun c_987 => ?_) (fun c_987 => absurd c_987 (fun h9 => h9 rfl))
  exact hq _ _ _ _ _ _ _ _ _ _ ls ⟨hmm, hP, hP2, hX1, hM1, hS⟩ hl

set_option maxHeartbeats 4000000 in
set_option maxRecDepth 100000 in
theorem K_place {p : Program} {l : Launch} {e : Env} {s : State} {m : MethodId} {below : List Frame} {meth : Method} {c : Code} {b L : Nat} {xs : Nat → Int32} {D : va_G} {cy : Nat → ClassId} {Ad Ad2 : Nat → Nat} {n : Nat} (E : lw_E p s m c b L xs D cy Ad Ad2 n) (hL : L ≤ 2561) {i : Nat} (hi : i + 4 < L) {mm : Nat} {nx : Nat → Nat → Nat} {mx : Nat → Nat → Option Nat} {en : Nat → Bool} {am wt : Nat → Nat} {C C2 : pw_C} {H : Heap} {locs : List Loc} {ls : Array Slot} (Iv : lw_I s D cy Ad Ad2 n mm nx mx en am wt C C2 H locs) (hl : lv_has ls 4 [(3, .int (nI i)), (2, .ref (Ad2 0)), (1, .ref (Ad 0)), (0, .ref b)]) (hq : ∀ (mm : Nat) (nx : Nat → Nat → Nat) (mx : Nat → Nat → Option Nat) (en : Nat → Bool) (am wt : Nat → Nat) (C C2 : pw_C) (H : Heap) (locs : List Loc) (ls : Array Slot), lw_I s D cy Ad Ad2 n mm nx mx en am wt C C2 H locs → lv_has ls 4 [(3, .int (nI i)), (2, .ref (Ad2 0)), (1, .ref (Ad 0)), (0, .ref b)] → W p l e room_1 s m #[Value.ref b] below meth c H locs 600000 7302250 (lw_Z below #[Value.ref b] s) (F0 m 1137 ls [])) : W p l e room_1 s m #[Value.ref b] below meth c H locs 600000 7302250 (lw_Z below #[Value.ref b] s) (F0 m 992 ls []) := by
  obtain ⟨S, hX0, hbl, hK, hI, hI2, hn, hd12, hd21, hge, hge2⟩ := E
  obtain ⟨hmm, hP, hP2, hX, hM, hS⟩ := Iv
  have hbA : ¬ (fun q : Nat => s.heap.size ≤ q) b := Nat.not_le.mpr hbl
  have hx := S.1
  have hb := S.2.1
  have hown := S.2.2.2.1
  have hts := S.2.2.2.2
  refine lv_aload_n hx hb dL_law_992 rfl (lv_at hl 2 rfl) ?_
  refine lv_aload_n hx hb dL_law_993 rfl (lv_at hl 3 rfl) ?_
  refine lv_iload_n hx hb dL_law_994 rfl (lv_at hl 0 rfl) ?_
  refine lv_iconst (v := nI 1) hx hb dL_law_995 (by decide) ?_
  refine lv_iadd hx hb dL_law_996 ?_
  refine pw_topi (nI_add _ _) ?_
  refine va_sld hx hb hX0 hbl hbA hS (vp_in_nI (by omega) (by omega)) dL_law_997 ?_
  refine pw_topi (y := xs (i + 1)) (congrArg xs (nI_clamp (by omega))) ?_
  refine lv_aload_n hx hb dL_law_998 rfl (lv_at hl 3 rfl) ?_
  refine lv_iload_n hx hb dL_law_999 rfl (lv_at hl 0 rfl) ?_
  refine lv_iconst (v := nI 2) hx hb dL_law_1000 (by decide) ?_
  refine lv_iadd hx hb dL_law_1001 ?_
  refine pw_topi (nI_add _ _) ?_
  refine va_sld hx hb hX0 hbl hbA hS (vp_in_nI (by omega) (by omega)) dL_law_1002 ?_
  refine pw_topi (y := xs (i + 2)) (congrArg xs (nI_clamp (by omega))) ?_
  refine pw_cvW S hK hP 0 4 rfl rfl 2 (c_X4_place l D cy Ad n mm C hI hn hmm nx mx en am wt hX (xs (i + 1)) (xs (i + 2))) gL_law_X4_place rfl rfl rfl (by decide +kernel) ⟨Nat.le_of_ble_eq_true rfl, Nat.le_of_ble_eq_true rfl⟩ rfl hl.1 rfl (Nat.le_of_ble_eq_true rfl) dL_law_1003 ⟨Nat.le_refl _, Nat.le_refl _⟩ hS hge (fun r9 C1 H1 locs1 hR hP hz9 hk9 hS => ?_)
  obtain ⟨rfl, hX1⟩ := hR
  have hP2 := hP2.kp hk9 hd12
  change W p l e room_1 s m _ below meth c _ _ _ _ _ (F0 m 1006 ls [.int (f_place am (xs (i + 1)) (xs (i + 2)))])
  refine lv_aload_n hx hb dL_law_1006 rfl (lv_at hl 1 rfl) ?_
  refine lv_aload_n hx hb dL_law_1007 rfl (lv_at hl 3 rfl) ?_
  refine lv_iload_n hx hb dL_law_1008 rfl (lv_at hl 0 rfl) ?_
  refine lv_iconst (v := nI 1) hx hb dL_law_1009 (by decide) ?_
  refine lv_iadd hx hb dL_law_1010 ?_
  refine pw_topi (nI_add _ _) ?_
  refine va_sld hx hb hX0 hbl hbA hS (vp_in_nI (by omega) (by omega)) dL_law_1011 ?_
  refine pw_topi (y := xs (i + 1)) (congrArg xs (nI_clamp (by omega))) ?_
  refine lv_aload_n hx hb dL_law_1012 rfl (lv_at hl 3 rfl) ?_
  refine lv_iload_n hx hb dL_law_1013 rfl (lv_at hl 0 rfl) ?_
  refine lv_iconst (v := nI 2) hx hb dL_law_1014 (by decide) ?_
  refine lv_iadd hx hb dL_law_1015 ?_
  refine pw_topi (nI_add _ _) ?_
  refine va_sld hx hb hX0 hbl hbA hS (vp_in_nI (by omega) (by omega)) dL_law_1016 ?_
  refine pw_topi (y := xs (i + 2)) (congrArg xs (nI_clamp (by omega))) ?_
  refine pw_cvW S hK hP2 0 5 rfl rfl 2 (c_X5_place l D cy Ad2 n mm C2 hI2 hn hmm nx mx en am wt hM (xs (i + 1)) (xs (i + 2))) gL_law_X5_place rfl rfl rfl (by decide +kernel) ⟨Nat.le_of_ble_eq_true rfl, Nat.le_of_ble_eq_true rfl⟩ rfl hl.1 rfl (Nat.le_of_ble_eq_true rfl) dL_law_1017 ⟨Nat.le_refl _, Nat.le_refl _⟩ hS hge2 (fun r9 C3 H3 locs3 hR hP2 hz9 hk9 hS => ?_)
  obtain ⟨rfl, hM1⟩ := hR
  have hP := hP.kp hk9 hd21
  change W p l e room_1 s m _ below meth c _ _ _ _ _ (F0 m 1020 ls [.int (f_place am (xs (i + 1)) (xs (i + 2))), .int (f_place am (xs (i + 1)) (xs (i + 2)))])
  refine lv_icmp_eq (tgt := 1137) hx hb dL_law_1020 (by decide) (fun c_1020 => ?_) (fun c_1020 => absurd c_1020 (fun h9 => h9 rfl))
  exact hq _ _ _ _ _ _ _ _ _ _ ls ⟨hmm, hP, hP2, hX1, hM1, hS⟩ hl

set_option maxHeartbeats 4000000 in
set_option maxRecDepth 100000 in
theorem K_things {p : Program} {l : Launch} {e : Env} {s : State} {m : MethodId} {below : List Frame} {meth : Method} {c : Code} {b L : Nat} {xs : Nat → Int32} {D : va_G} {cy : Nat → ClassId} {Ad Ad2 : Nat → Nat} {n : Nat} (E : lw_E p s m c b L xs D cy Ad Ad2 n) (hL : L ≤ 2561) {i : Nat} (hi : i + 4 < L) {mm : Nat} {nx : Nat → Nat → Nat} {mx : Nat → Nat → Option Nat} {en : Nat → Bool} {am wt : Nat → Nat} {C C2 : pw_C} {H : Heap} {locs : List Loc} {ls : Array Slot} (Iv : lw_I s D cy Ad Ad2 n mm nx mx en am wt C C2 H locs) (hl : lv_has ls 4 [(3, .int (nI i)), (2, .ref (Ad2 0)), (1, .ref (Ad 0)), (0, .ref b)]) (hq : ∀ (mm : Nat) (nx : Nat → Nat → Nat) (mx : Nat → Nat → Option Nat) (en : Nat → Bool) (am wt : Nat → Nat) (C C2 : pw_C) (H : Heap) (locs : List Loc) (ls : Array Slot), lw_I s D cy Ad Ad2 n mm nx mx en am wt C C2 H locs → lv_has ls 4 [(3, .int (nI i)), (2, .ref (Ad2 0)), (1, .ref (Ad 0)), (0, .ref b)] → W p l e room_1 s m #[Value.ref b] below meth c H locs 600000 7302250 (lw_Z below #[Value.ref b] s) (F0 m 1137 ls [])) : W p l e room_1 s m #[Value.ref b] below meth c H locs 600000 7302250 (lw_Z below #[Value.ref b] s) (F0 m 1025 ls []) := by
  obtain ⟨S, hX0, hbl, hK, hI, hI2, hn, hd12, hd21, hge, hge2⟩ := E
  obtain ⟨hmm, hP, hP2, hX, hM, hS⟩ := Iv
  have hbA : ¬ (fun q : Nat => s.heap.size ≤ q) b := Nat.not_le.mpr hbl
  have hx := S.1
  have hb := S.2.1
  have hown := S.2.2.2.1
  have hts := S.2.2.2.2
  refine lv_aload_n hx hb dL_law_1025 rfl (lv_at hl 2 rfl) ?_
  refine lv_aload_n hx hb dL_law_1026 rfl (lv_at hl 3 rfl) ?_
  refine lv_iload_n hx hb dL_law_1027 rfl (lv_at hl 0 rfl) ?_
  refine lv_iconst (v := nI 1) hx hb dL_law_1028 (by decide) ?_
  refine lv_iadd hx hb dL_law_1029 ?_
  refine pw_topi (nI_add _ _) ?_
  refine va_sld hx hb hX0 hbl hbA hS (vp_in_nI (by omega) (by omega)) dL_law_1030 ?_
  refine pw_topi (y := xs (i + 1)) (congrArg xs (nI_clamp (by omega))) ?_
  refine pw_cvW S hK hP 0 4 rfl rfl 1 (c_X4_things l D cy Ad n mm C hI hn hmm nx mx en am wt hX (xs (i + 1))) gL_law_X4_things rfl rfl rfl (by decide +kernel) ⟨Nat.le_of_ble_eq_true rfl, Nat.le_of_ble_eq_true rfl⟩ rfl hl.1 rfl (Nat.le_of_ble_eq_true rfl) dL_law_1031 ⟨Nat.le_refl _, Nat.le_refl _⟩ hS hge (fun r9 C1 H1 locs1 hR hP hz9 hk9 hS => ?_)
  obtain ⟨rfl, hX1⟩ := hR
  have hP2 := hP2.kp hk9 hd12
  change W p l e room_1 s m _ below meth c _ _ _ _ _ (F0 m 1034 ls [.int (f_things mm (xs (i + 1)))])
  refine lv_aload_n hx hb dL_law_1034 rfl (lv_at hl 1 rfl) ?_
  refine lv_aload_n hx hb dL_law_1035 rfl (lv_at hl 3 rfl) ?_
  refine lv_iload_n hx hb dL_law_1036 rfl (lv_at hl 0 rfl) ?_
  refine lv_iconst (v := nI 1) hx hb dL_law_1037 (by decide) ?_
  refine lv_iadd hx hb dL_law_1038 ?_
  refine pw_topi (nI_add _ _) ?_
  refine va_sld hx hb hX0 hbl hbA hS (vp_in_nI (by omega) (by omega)) dL_law_1039 ?_
  refine pw_topi (y := xs (i + 1)) (congrArg xs (nI_clamp (by omega))) ?_
  refine pw_cvW S hK hP2 0 5 rfl rfl 1 (c_X5_things l D cy Ad2 n mm C2 hI2 hn hmm nx mx en am wt hM (xs (i + 1))) gL_law_X5_things rfl rfl rfl (by decide +kernel) ⟨Nat.le_of_ble_eq_true rfl, Nat.le_of_ble_eq_true rfl⟩ rfl hl.1 rfl (Nat.le_of_ble_eq_true rfl) dL_law_1040 ⟨Nat.le_refl _, Nat.le_refl _⟩ hS hge2 (fun r9 C3 H3 locs3 hR hP2 hz9 hk9 hS => ?_)
  obtain ⟨rfl, hM1⟩ := hR
  have hP := hP.kp hk9 hd21
  change W p l e room_1 s m _ below meth c _ _ _ _ _ (F0 m 1043 ls [.int (f_things mm (xs (i + 1))), .int (f_things mm (xs (i + 1)))])
  refine lv_icmp_eq (tgt := 1137) hx hb dL_law_1043 (by decide) (fun c_1043 => ?_) (fun c_1043 => absurd c_1043 (fun h9 => h9 rfl))
  exact hq _ _ _ _ _ _ _ _ _ _ ls ⟨u_things_b hmm, hP, hP2, hX1, hM1, hS⟩ hl

set_option maxHeartbeats 4000000 in
set_option maxRecDepth 100000 in
theorem K_weight {p : Program} {l : Launch} {e : Env} {s : State} {m : MethodId} {below : List Frame} {meth : Method} {c : Code} {b L : Nat} {xs : Nat → Int32} {D : va_G} {cy : Nat → ClassId} {Ad Ad2 : Nat → Nat} {n : Nat} (E : lw_E p s m c b L xs D cy Ad Ad2 n) (hL : L ≤ 2561) {i : Nat} (hi : i + 4 < L) {mm : Nat} {nx : Nat → Nat → Nat} {mx : Nat → Nat → Option Nat} {en : Nat → Bool} {am wt : Nat → Nat} {C C2 : pw_C} {H : Heap} {locs : List Loc} {ls : Array Slot} (Iv : lw_I s D cy Ad Ad2 n mm nx mx en am wt C C2 H locs) (hl : lv_has ls 4 [(3, .int (nI i)), (2, .ref (Ad2 0)), (1, .ref (Ad 0)), (0, .ref b)]) (hq : ∀ (mm : Nat) (nx : Nat → Nat → Nat) (mx : Nat → Nat → Option Nat) (en : Nat → Bool) (am wt : Nat → Nat) (C C2 : pw_C) (H : Heap) (locs : List Loc) (ls : Array Slot), lw_I s D cy Ad Ad2 n mm nx mx en am wt C C2 H locs → lv_has ls 4 [(3, .int (nI i)), (2, .ref (Ad2 0)), (1, .ref (Ad 0)), (0, .ref b)] → W p l e room_1 s m #[Value.ref b] below meth c H locs 600000 7302250 (lw_Z below #[Value.ref b] s) (F0 m 1137 ls [])) : W p l e room_1 s m #[Value.ref b] below meth c H locs 600000 7302250 (lw_Z below #[Value.ref b] s) (F0 m 1048 ls []) := by
  obtain ⟨S, hX0, hbl, hK, hI, hI2, hn, hd12, hd21, hge, hge2⟩ := E
  obtain ⟨hmm, hP, hP2, hX, hM, hS⟩ := Iv
  have hbA : ¬ (fun q : Nat => s.heap.size ≤ q) b := Nat.not_le.mpr hbl
  have hx := S.1
  have hb := S.2.1
  have hown := S.2.2.2.1
  have hts := S.2.2.2.2
  refine lv_aload_n hx hb dL_law_1048 rfl (lv_at hl 2 rfl) ?_
  refine lv_aload_n hx hb dL_law_1049 rfl (lv_at hl 3 rfl) ?_
  refine lv_iload_n hx hb dL_law_1050 rfl (lv_at hl 0 rfl) ?_
  refine lv_iconst (v := nI 1) hx hb dL_law_1051 (by decide) ?_
  refine lv_iadd hx hb dL_law_1052 ?_
  refine pw_topi (nI_add _ _) ?_
  refine va_sld hx hb hX0 hbl hbA hS (vp_in_nI (by omega) (by omega)) dL_law_1053 ?_
  refine pw_topi (y := xs (i + 1)) (congrArg xs (nI_clamp (by omega))) ?_
  refine lv_aload_n hx hb dL_law_1054 rfl (lv_at hl 3 rfl) ?_
  refine lv_iload_n hx hb dL_law_1055 rfl (lv_at hl 0 rfl) ?_
  refine lv_iconst (v := nI 2) hx hb dL_law_1056 (by decide) ?_
  refine lv_iadd hx hb dL_law_1057 ?_
  refine pw_topi (nI_add _ _) ?_
  refine va_sld hx hb hX0 hbl hbA hS (vp_in_nI (by omega) (by omega)) dL_law_1058 ?_
  refine pw_topi (y := xs (i + 2)) (congrArg xs (nI_clamp (by omega))) ?_
  refine pw_cvW S hK hP 0 4 rfl rfl 2 (c_X4_weight l D cy Ad n mm C hI hn hmm nx mx en am wt hX (xs (i + 1)) (xs (i + 2))) gL_law_X4_weight rfl rfl rfl (by decide +kernel) ⟨Nat.le_of_ble_eq_true rfl, Nat.le_of_ble_eq_true rfl⟩ rfl hl.1 rfl (Nat.le_of_ble_eq_true rfl) dL_law_1059 ⟨Nat.le_refl _, Nat.le_refl _⟩ hS hge (fun r9 C1 H1 locs1 hR hP hz9 hk9 hS => ?_)
  obtain ⟨rfl, hX1⟩ := hR
  have hP2 := hP2.kp hk9 hd12
  change W p l e room_1 s m _ below meth c _ _ _ _ _ (F0 m 1062 ls [.int (f_weight mm wt (xs (i + 1)) (xs (i + 2)))])
  refine lv_aload_n hx hb dL_law_1062 rfl (lv_at hl 1 rfl) ?_
  refine lv_aload_n hx hb dL_law_1063 rfl (lv_at hl 3 rfl) ?_
  refine lv_iload_n hx hb dL_law_1064 rfl (lv_at hl 0 rfl) ?_
  refine lv_iconst (v := nI 1) hx hb dL_law_1065 (by decide) ?_
  refine lv_iadd hx hb dL_law_1066 ?_
  refine pw_topi (nI_add _ _) ?_
  refine va_sld hx hb hX0 hbl hbA hS (vp_in_nI (by omega) (by omega)) dL_law_1067 ?_
  refine pw_topi (y := xs (i + 1)) (congrArg xs (nI_clamp (by omega))) ?_
  refine lv_aload_n hx hb dL_law_1068 rfl (lv_at hl 3 rfl) ?_
  refine lv_iload_n hx hb dL_law_1069 rfl (lv_at hl 0 rfl) ?_
  refine lv_iconst (v := nI 2) hx hb dL_law_1070 (by decide) ?_
  refine lv_iadd hx hb dL_law_1071 ?_
  refine pw_topi (nI_add _ _) ?_
  refine va_sld hx hb hX0 hbl hbA hS (vp_in_nI (by omega) (by omega)) dL_law_1072 ?_
  refine pw_topi (y := xs (i + 2)) (congrArg xs (nI_clamp (by omega))) ?_
  refine pw_cvW S hK hP2 0 5 rfl rfl 2 (c_X5_weight l D cy Ad2 n mm C2 hI2 hn hmm nx mx en am wt hM (xs (i + 1)) (xs (i + 2))) gL_law_X5_weight rfl rfl rfl (by decide +kernel) ⟨Nat.le_of_ble_eq_true rfl, Nat.le_of_ble_eq_true rfl⟩ rfl hl.1 rfl (Nat.le_of_ble_eq_true rfl) dL_law_1073 ⟨Nat.le_refl _, Nat.le_refl _⟩ hS hge2 (fun r9 C3 H3 locs3 hR hP2 hz9 hk9 hS => ?_)
  obtain ⟨rfl, hM1⟩ := hR
  have hP := hP.kp hk9 hd21
  change W p l e room_1 s m _ below meth c _ _ _ _ _ (F0 m 1076 ls [.int (f_weight mm wt (xs (i + 1)) (xs (i + 2))), .int (f_weight mm wt (xs (i + 1)) (xs (i + 2)))])
  refine lv_icmp_eq (tgt := 1137) hx hb dL_law_1076 (by decide) (fun c_1076 => ?_) (fun c_1076 => absurd c_1076 (fun h9 => h9 rfl))
  exact hq _ _ _ _ _ _ _ _ _ _ ls ⟨hmm, hP, hP2, hX1, hM1, hS⟩ hl

set_option maxHeartbeats 4000000 in
set_option maxRecDepth 100000 in
theorem K_cell {p : Program} {l : Launch} {e : Env} {s : State} {m : MethodId} {below : List Frame} {meth : Method} {c : Code} {b L : Nat} {xs : Nat → Int32} {D : va_G} {cy : Nat → ClassId} {Ad Ad2 : Nat → Nat} {n : Nat} (E : lw_E p s m c b L xs D cy Ad Ad2 n) (hL : L ≤ 2561) {i : Nat} (hi : i + 4 < L) {mm : Nat} {nx : Nat → Nat → Nat} {mx : Nat → Nat → Option Nat} {en : Nat → Bool} {am wt : Nat → Nat} {C C2 : pw_C} {H : Heap} {locs : List Loc} {ls : Array Slot} (Iv : lw_I s D cy Ad Ad2 n mm nx mx en am wt C C2 H locs) (hl : lv_has ls 4 [(3, .int (nI i)), (2, .ref (Ad2 0)), (1, .ref (Ad 0)), (0, .ref b)]) (hq : ∀ (mm : Nat) (nx : Nat → Nat → Nat) (mx : Nat → Nat → Option Nat) (en : Nat → Bool) (am wt : Nat → Nat) (C C2 : pw_C) (H : Heap) (locs : List Loc) (ls : Array Slot), lw_I s D cy Ad Ad2 n mm nx mx en am wt C C2 H locs → lv_has ls 4 [(3, .int (nI i)), (2, .ref (Ad2 0)), (1, .ref (Ad 0)), (0, .ref b)] → W p l e room_1 s m #[Value.ref b] below meth c H locs 600000 7302250 (lw_Z below #[Value.ref b] s) (F0 m 1137 ls [])) : W p l e room_1 s m #[Value.ref b] below meth c H locs 600000 7302250 (lw_Z below #[Value.ref b] s) (F0 m 1081 ls []) := by
  obtain ⟨S, hX0, hbl, hK, hI, hI2, hn, hd12, hd21, hge, hge2⟩ := E
  obtain ⟨hmm, hP, hP2, hX, hM, hS⟩ := Iv
  have hbA : ¬ (fun q : Nat => s.heap.size ≤ q) b := Nat.not_le.mpr hbl
  have hx := S.1
  have hb := S.2.1
  have hown := S.2.2.2.1
  have hts := S.2.2.2.2
  refine lv_aload_n hx hb dL_law_1081 rfl (lv_at hl 2 rfl) ?_
  refine lv_aload_n hx hb dL_law_1082 rfl (lv_at hl 3 rfl) ?_
  refine lv_iload_n hx hb dL_law_1083 rfl (lv_at hl 0 rfl) ?_
  refine lv_iconst (v := nI 1) hx hb dL_law_1084 (by decide) ?_
  refine lv_iadd hx hb dL_law_1085 ?_
  refine pw_topi (nI_add _ _) ?_
  refine va_sld hx hb hX0 hbl hbA hS (vp_in_nI (by omega) (by omega)) dL_law_1086 ?_
  refine pw_topi (y := xs (i + 1)) (congrArg xs (nI_clamp (by omega))) ?_
  refine lv_aload_n hx hb dL_law_1087 rfl (lv_at hl 3 rfl) ?_
  refine lv_iload_n hx hb dL_law_1088 rfl (lv_at hl 0 rfl) ?_
  refine lv_iconst (v := nI 2) hx hb dL_law_1089 (by decide) ?_
  refine lv_iadd hx hb dL_law_1090 ?_
  refine pw_topi (nI_add _ _) ?_
  refine va_sld hx hb hX0 hbl hbA hS (vp_in_nI (by omega) (by omega)) dL_law_1091 ?_
  refine pw_topi (y := xs (i + 2)) (congrArg xs (nI_clamp (by omega))) ?_
  refine pw_cvW S hK hP 0 4 rfl rfl 2 (c_X4_cell l D cy Ad n mm C hI hn hmm nx mx en am wt hX (xs (i + 1)) (xs (i + 2))) gL_law_X4_cell rfl rfl rfl (by decide +kernel) ⟨Nat.le_of_ble_eq_true rfl, Nat.le_of_ble_eq_true rfl⟩ rfl hl.1 rfl (Nat.le_of_ble_eq_true rfl) dL_law_1092 ⟨Nat.le_refl _, Nat.le_refl _⟩ hS hge (fun r9 C1 H1 locs1 hR hP hz9 hk9 hS => ?_)
  obtain ⟨rfl, hX1⟩ := hR
  have hP2 := hP2.kp hk9 hd12
  change W p l e room_1 s m _ below meth c _ _ _ _ _ (F0 m 1095 ls [.int (f_cell mm wt (xs (i + 1)) (xs (i + 2)))])
  refine lv_aload_n hx hb dL_law_1095 rfl (lv_at hl 1 rfl) ?_
  refine lv_aload_n hx hb dL_law_1096 rfl (lv_at hl 3 rfl) ?_
  refine lv_iload_n hx hb dL_law_1097 rfl (lv_at hl 0 rfl) ?_
  refine lv_iconst (v := nI 1) hx hb dL_law_1098 (by decide) ?_
  refine lv_iadd hx hb dL_law_1099 ?_
  refine pw_topi (nI_add _ _) ?_
  refine va_sld hx hb hX0 hbl hbA hS (vp_in_nI (by omega) (by omega)) dL_law_1100 ?_
  refine pw_topi (y := xs (i + 1)) (congrArg xs (nI_clamp (by omega))) ?_
  refine lv_aload_n hx hb dL_law_1101 rfl (lv_at hl 3 rfl) ?_
  refine lv_iload_n hx hb dL_law_1102 rfl (lv_at hl 0 rfl) ?_
  refine lv_iconst (v := nI 2) hx hb dL_law_1103 (by decide) ?_
  refine lv_iadd hx hb dL_law_1104 ?_
  refine pw_topi (nI_add _ _) ?_
  refine va_sld hx hb hX0 hbl hbA hS (vp_in_nI (by omega) (by omega)) dL_law_1105 ?_
  refine pw_topi (y := xs (i + 2)) (congrArg xs (nI_clamp (by omega))) ?_
  refine pw_cvW S hK hP2 0 5 rfl rfl 2 (c_X5_cell l D cy Ad2 n mm C2 hI2 hn hmm nx mx en am wt hM (xs (i + 1)) (xs (i + 2))) gL_law_X5_cell rfl rfl rfl (by decide +kernel) ⟨Nat.le_of_ble_eq_true rfl, Nat.le_of_ble_eq_true rfl⟩ rfl hl.1 rfl (Nat.le_of_ble_eq_true rfl) dL_law_1106 ⟨Nat.le_refl _, Nat.le_refl _⟩ hS hge2 (fun r9 C3 H3 locs3 hR hP2 hz9 hk9 hS => ?_)
  obtain ⟨rfl, hM1⟩ := hR
  have hP := hP.kp hk9 hd21
  change W p l e room_1 s m _ below meth c _ _ _ _ _ (F0 m 1109 ls [.int (f_cell mm wt (xs (i + 1)) (xs (i + 2))), .int (f_cell mm wt (xs (i + 1)) (xs (i + 2)))])
  refine lv_icmp_eq (tgt := 1137) hx hb dL_law_1109 (by decide) (fun c_1109 => ?_) (fun c_1109 => absurd c_1109 (fun h9 => h9 rfl))
  exact hq _ _ _ _ _ _ _ _ _ _ ls ⟨hmm, hP, hP2, hX1, hM1, hS⟩ hl

set_option maxHeartbeats 4000000 in
set_option maxRecDepth 100000 in
theorem K_tell {p : Program} {l : Launch} {e : Env} {s : State} {m : MethodId} {below : List Frame} {meth : Method} {c : Code} {b L : Nat} {xs : Nat → Int32} {D : va_G} {cy : Nat → ClassId} {Ad Ad2 : Nat → Nat} {n : Nat} (E : lw_E p s m c b L xs D cy Ad Ad2 n) (hL : L ≤ 2561) {i : Nat} (hi : i + 4 < L) {mm : Nat} {nx : Nat → Nat → Nat} {mx : Nat → Nat → Option Nat} {en : Nat → Bool} {am wt : Nat → Nat} {C C2 : pw_C} {H : Heap} {locs : List Loc} {ls : Array Slot} (Iv : lw_I s D cy Ad Ad2 n mm nx mx en am wt C C2 H locs) (hl : lv_has ls 4 [(3, .int (nI i)), (2, .ref (Ad2 0)), (1, .ref (Ad 0)), (0, .ref b)]) (hq : ∀ (mm : Nat) (nx : Nat → Nat → Nat) (mx : Nat → Nat → Option Nat) (en : Nat → Bool) (am wt : Nat → Nat) (C C2 : pw_C) (H : Heap) (locs : List Loc) (ls : Array Slot), lw_I s D cy Ad Ad2 n mm nx mx en am wt C C2 H locs → lv_has ls 4 [(3, .int (nI i)), (2, .ref (Ad2 0)), (1, .ref (Ad 0)), (0, .ref b)] → W p l e room_1 s m #[Value.ref b] below meth c H locs 600000 7302250 (lw_Z below #[Value.ref b] s) (F0 m 1137 ls [])) : W p l e room_1 s m #[Value.ref b] below meth c H locs 600000 7302250 (lw_Z below #[Value.ref b] s) (F0 m 1114 ls []) := by
  obtain ⟨S, hX0, hbl, hK, hI, hI2, hn, hd12, hd21, hge, hge2⟩ := E
  obtain ⟨hmm, hP, hP2, hX, hM, hS⟩ := Iv
  have hbA : ¬ (fun q : Nat => s.heap.size ≤ q) b := Nat.not_le.mpr hbl
  have hx := S.1
  have hb := S.2.1
  have hown := S.2.2.2.1
  have hts := S.2.2.2.2
  refine lv_aload_n hx hb dL_law_1114 rfl (lv_at hl 2 rfl) ?_
  refine lv_aload_n hx hb dL_law_1115 rfl (lv_at hl 3 rfl) ?_
  refine lv_iload_n hx hb dL_law_1116 rfl (lv_at hl 0 rfl) ?_
  refine lv_iconst (v := nI 1) hx hb dL_law_1117 (by decide) ?_
  refine lv_iadd hx hb dL_law_1118 ?_
  refine pw_topi (nI_add _ _) ?_
  refine va_sld hx hb hX0 hbl hbA hS (vp_in_nI (by omega) (by omega)) dL_law_1119 ?_
  refine pw_topi (y := xs (i + 1)) (congrArg xs (nI_clamp (by omega))) ?_
  refine pw_cvW S hK hP 0 4 rfl rfl 1 (c_X4_tell l D cy Ad n mm C hI hn hmm nx mx en am wt hX (xs (i + 1))) gL_law_X4_tell rfl rfl rfl (by decide +kernel) ⟨Nat.le_of_ble_eq_true rfl, Nat.le_of_ble_eq_true rfl⟩ rfl hl.1 rfl (Nat.le_of_ble_eq_true rfl) dL_law_1120 ⟨Nat.le_refl _, Nat.le_refl _⟩ hS hge (fun r9 C1 H1 locs1 hR hP hz9 hk9 hS => ?_)
  obtain ⟨rfl, hX1⟩ := hR
  have hP2 := hP2.kp hk9 hd12
  change W p l e room_1 s m _ below meth c _ _ _ _ _ (F0 m 1123 ls [.int (f_tell mm wt (xs (i + 1)))])
  refine lv_aload_n hx hb dL_law_1123 rfl (lv_at hl 1 rfl) ?_
  refine lv_aload_n hx hb dL_law_1124 rfl (lv_at hl 3 rfl) ?_
  refine lv_iload_n hx hb dL_law_1125 rfl (lv_at hl 0 rfl) ?_
  refine lv_iconst (v := nI 1) hx hb dL_law_1126 (by decide) ?_
  refine lv_iadd hx hb dL_law_1127 ?_
  refine pw_topi (nI_add _ _) ?_
  refine va_sld hx hb hX0 hbl hbA hS (vp_in_nI (by omega) (by omega)) dL_law_1128 ?_
  refine pw_topi (y := xs (i + 1)) (congrArg xs (nI_clamp (by omega))) ?_
  refine pw_cvW S hK hP2 0 5 rfl rfl 1 (c_X5_tell l D cy Ad2 n mm C2 hI2 hn hmm nx mx en am wt hM (xs (i + 1))) gL_law_X5_tell rfl rfl rfl (by decide +kernel) ⟨Nat.le_of_ble_eq_true rfl, Nat.le_of_ble_eq_true rfl⟩ rfl hl.1 rfl (Nat.le_of_ble_eq_true rfl) dL_law_1129 ⟨Nat.le_refl _, Nat.le_refl _⟩ hS hge2 (fun r9 C3 H3 locs3 hR hP2 hz9 hk9 hS => ?_)
  obtain ⟨rfl, hM1⟩ := hR
  have hP := hP.kp hk9 hd21
  change W p l e room_1 s m _ below meth c _ _ _ _ _ (F0 m 1132 ls [.int (f_tell mm wt (xs (i + 1))), .int (f_tell mm wt (xs (i + 1)))])
  refine lv_icmp_eq (tgt := 1137) hx hb dL_law_1132 (by decide) (fun c_1132 => ?_) (fun c_1132 => absurd c_1132 (fun h9 => h9 rfl))
  exact hq _ _ _ _ _ _ _ _ _ _ ls ⟨hmm, hP, hP2, hX1, hM1, hS⟩ hl
