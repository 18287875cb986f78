theorem mix0 {f1 : Nat → Bool} {C1 C : pw_C} (h : f1 0 = false) : (mixC f1 C1 C).2.2 0 = C.2.2 0 := if_neg (by rw [h]; decide)

theorem shX_dead {n k : Nat} (h : ¬ pw_L (shX n) k) (h2 : ¬ gx4 n k = true) : shR (gx4 n) (shX n) k = shX n k := by
  have e0 : shR (gx4 n) (shX n) k = (0, 0, 0) := if_neg h2
  rw [e0]
  unfold pw_L at h
  rw [gx4_i, fCh_i, fMa_i, fO_i, fT_i] at h2
  have hk : ¬ k < 21 := by omega
  unfold shX
  rw [if_neg hk]
  repeat' split
  all_goals first | rfl | omega

set_option maxHeartbeats 4000000 in
set_option maxRecDepth 100000 in
theorem c_X4_init (l : Launch) (D : va_G) (cy : Nat → ClassId) (Ad : Nat → Nat) (z : Nat) (h n : Nat) (a : Int32) (hna : nOf a = n) (hzh : z = h + 1) (hA : Ad = AdX h n) : Met l yX4_init wsX4_init (pw_rm 2 45 90 10000) (pw_PreN ([.ref (Ad 0), .int a]) z D cy Ad (shR (fun j => j == 0) (shX n)) (zC ([.int 0, .null, .null, .null, .null]))) (pw_PostN (fun C' => XI n 1 (fun _ x => x) (fun _ _ => none) (fun _ => false) (fun _ => 255) (fun _ => 1) Ad C') (h + (55 + 2 * n)) D cy Ad (shX n)) 90 10000 (pw_fr Ad (shX n)) := by
  refine Met.ofW (cc := cX4_init) (maxL := 2) (ret := none) (by decide) rfl ?_
  intro p e s m args below meth c s₁ B hml hv
  obtain ⟨rfl, hz, hP, hK, hO⟩ := hv
  have hx := B.exec
  have hb := B.bytes
  have hr := B.returns
  have hts := atoms_spec (ws := wsX4_init) B.pre
  have hown : s.vm.findClass RX4 = some m.cls := findClass_of_methodNamed B.named
  have hlocks := B.notSynchronized
  have S : CallFix p m c cX4_init 2 s ([.ref (Ad 0), .int a]).toArray wsX4_init RX4 := ⟨hx, hb, hml, hown, hts⟩
  change W p l e (pw_rm 2 45 90 10000) s m _ below meth c s.heap [] 0 0 _ _
  have hl := lv_entry ([.ref (Ad 0), .int a]) (n := 2) (Nat.le_of_ble_eq_true rfl)
  rw [lg_entry_eq]
  generalize (lg_sl ([.ref (Ad 0), .int a]) ++ List.replicate (2 - (lg_sl ([.ref (Ad 0), .int a])).length) Slot.unset).toArray = ls at hl ⊢
  have hl : lv_has ls 2 [(0, .ref (Ad 0)), (1, .int a)] := hl
  have hin2 : meth.name = "<init>" := (name_of_methodNamed B.named B.method).1
  have hn : 1 ≤ n ∧ n ≤ 12 := hna ▸ nOf_b a
  have hI0 : pw_I Ad (shX n) := hA ▸ AdX_I hn
  have hS : va_S (pw_fr Ad (shR gx0 (shX n))) s.heap s.heap [] := va_S.rf
  have hP : pw_P D cy Ad (shR gx0 (shX n)) _ s.heap := hP
  have hI : pw_I Ad (shR gx0 (shX n)) := hI0.R
  obtain ⟨C, hC⟩ : ∃ z9, z9 = zC ([.int 0, .null, .null, .null, .null]) := ⟨_, rfl⟩
  rw [← hC] at hP
  have hF : C.2.2 0 = ([.int 0, .null, .null, .null, .null] : List Value) := by rw [hC]; rfl
  refine lv_aload_n hx hb dX4_init_0 rfl (lv_at hl 0 rfl) ?_
  refine W.objInit hx hb hown (hts (.methodLink RX4 1 objectInit) (List.mem_of_getElem? (i := 1) rfl)) (hts (.instanceMethod objectInit) (List.mem_of_getElem? (i := 2) rfl)) (hts (.code objectInit ⟨#[0xb1]⟩ 1 none) (List.mem_of_getElem? (i := 3) rfl)) rfl (by rw [hml]; exact hl.1) rfl dX4_init_1 (Nat.le_of_ble_eq_true rfl) (Nat.le_of_ble_eq_true rfl) ?_
  refine W.eq (g2 := F0 m 4 ls []) rfl ?_
  refine lv_aload_n hx hb dX4_init_4 rfl (lv_at hl 0 rfl) ?_
  refine lv_iconst (v := nI 1) hx hb dX4_init_5 (by decide) ?_
  refine lv_bipush (v := nI 12) hx hb dX4_init_6 (by decide) ?_
  refine lv_iload_n hx hb dX4_init_8 rfl (lv_at hl 1 rfl) ?_
  refine va_mmin hx hb (hml.trans hl.1.symm) hown (hts (.methodLink RX4 9 Lib.Math.min.name) (List.mem_of_getElem? (i := 4) rfl)) (hts (.static Lib.Math.min.name) (List.mem_of_getElem? (i := 5) rfl)) (hts (.initialized "java/lang/Math") (List.mem_of_getElem? (i := 6) rfl)) (hts (.code Lib.Math.min.name Lib.Math.min.code 2 (some .int)) (List.mem_of_getElem? (i := 7) rfl)) (Nat.le_of_ble_eq_true rfl) (Nat.le_of_ble_eq_true rfl) (Nat.zero_le _) (Nat.zero_le _) dX4_init_9 ?_
  refine va_mmax hx hb (hml.trans hl.1.symm) hown (hts (.methodLink RX4 15 Lib.Math.max.name) (List.mem_of_getElem? (i := 8) rfl)) (hts (.static Lib.Math.max.name) (List.mem_of_getElem? (i := 9) rfl)) (hts (.initialized "java/lang/Math") (List.mem_of_getElem? (i := 6) rfl)) (hts (.code Lib.Math.max.name Lib.Math.max.code 2 (some .int)) (List.mem_of_getElem? (i := 10) rfl)) (Nat.le_of_ble_eq_true rfl) (Nat.le_of_ble_eq_true rfl) (Nat.zero_le _) (Nat.zero_le _) dX4_init_12 ?_
  refine pw_topi (y := nI n) ((nOf_mm a).trans (congrArg nI hna)) ?_
  refine pw_putF hx hb hts (fun _ h9 => List.mem_cons_of_mem _ (List.mem_append_left _ (List.mem_append_left _ (List.mem_append_left _ (List.mem_append_left _ (List.mem_append_right _ h9)))))) tyX4 tyX4_ok nmX4 hown hK hP hI hS 0 rfl rfl 0 (by decide) hF (hts (.fieldLink RX4 18 "PastDraws" "stateCount" "I") (List.mem_of_getElem? (i := 11) rfl)) rfl hin2 rfl (ty := .int) (by decide +kernel) rfl rfl (Nat.le_of_ble_eq_true rfl) dX4_init_15 (fun H locs hP hS hz9 => ?_)
  have hz := hz9.trans hz
  obtain ⟨C15, hC15⟩ : ∃ z9, z9 = pw_setF C 0 ([.int (nI n), .null, .null, .null, .null] : List Value) := ⟨_, rfl⟩
  have hP := hP.eqC (C' := C15) (by rw [hC15]; rfl)
  have hF : C15.2.2 0 = ([.int (nI n), .null, .null, .null, .null] : List Value) := by rw [hC15]; rfl
  refine lv_aload_n hx hb dX4_init_18 rfl (lv_at hl 0 rfl) ?_
  have e9 : H.size = Ad 1 := by rw [hz, hA]; show _ = h + 1; omega
  refine pw_newo (b := 0) hx hb hts (fun _ h9 => List.mem_cons_of_mem _ (List.mem_append_left _ (List.mem_append_left _ (List.mem_append_left _ (List.mem_append_right _ h9))))) tyX0 tyX0_ok hown (hts (.classLink RX4 22 RX0) (List.mem_of_getElem? (i := 12) rfl)) (hts (.instantiable RX0 7) (List.mem_of_getElem? (i := 13) rfl)) (hts (.initialized RX0) (List.mem_of_getElem? (i := 14) rfl)) hK (ci := 0) rfl (fs := [.int 0, .null, .null, .null, .null, .null, .null]) df0 (by simp only [pw_rm]; omega) (by simp only [pw_rm]; omega) dX4_init_19 (fun H1 hN hz9 o9 => ?_)
  have hP := pw_live hP o9 (fun _ h9 => Or.inl h9)
  have hS := va_S.mem_grow hS hz9 o9
  have hz : H1.size = h + 2 := by rw [hz9, e9, hA]; show h + 1 + 1 = _; omega
  rw [e9] at hN ⊢
  clear o9 hz9 e9
  refine lv_dup hx hb dX4_init_22 rfl ?_
  refine lv_aload_n hx hb dX4_init_23 rfl (lv_at hl 0 rfl) ?_
  refine pw_get hx hb hts (fun _ h9 => List.mem_cons_of_mem _ (List.mem_append_left _ (List.mem_append_left _ (List.mem_append_left _ (List.mem_append_left _ (List.mem_append_right _ h9)))))) hown hK hP 0 rfl rfl 0 (by decide) hF rfl (hts (.fieldLink RX4 18 "PastDraws" "stateCount" "I") (List.mem_of_getElem? (i := 11) rfl)) dX4_init_24 ?_
  refine pw_ci (As := [.int (nI n)]) S hK hO (f := gx0) hP hI0 hS 1 rfl hN hz (dj1 (n := n)) 1 (i_X0 l D cy Ad h n hn hA) gX4_init_X0_init rfl rfl rfl (hts (.initialized RX0) (List.mem_of_getElem? (i := 14) rfl)) (hts (.methodLink RX4 24 yX0_init) (List.mem_of_getElem? (i := 28) rfl)) (hts (.instanceMethod yX0_init) (List.mem_of_getElem? (i := 29) rfl)) rfl (by decide +kernel) ⟨Nat.le_of_ble_eq_true rfl, Nat.le_of_ble_eq_true rfl⟩ rfl hl.1 rfl (Nat.le_of_ble_eq_true rfl) dX4_init_27 ⟨(by simp only [pw_rm]; omega), (by simp only [pw_rm]; omega)⟩ (fun A1 H locs hR1 hP hI hS hz => ?_)
  obtain ⟨C27, hC27⟩ : ∃ z9, z9 = mixC (fCh n) A1 C15 := ⟨_, rfl⟩
  rw [← hC27] at hP
  have hP : pw_P D cy Ad (shR (gx1 n) (shX n)) C27 H := hP
  have hI : pw_I Ad (shR (gx1 n) (shX n)) := hI
  have hS : va_S (pw_fr Ad (shR (gx1 n) (shX n))) s.heap H locs := hS
  have hF : C27.2.2 0 = ([.int (nI n), .null, .null, .null, .null] : List Value) := by rw [hC27, mix0 ((dj1 (n := n)) 0 rfl)]; exact hF
  have g1 : agr (fCh n) A1 C27 := agr.mixt hC27
  refine pw_putF hx hb hts (fun _ h9 => List.mem_cons_of_mem _ (List.mem_append_left _ (List.mem_append_left _ (List.mem_append_left _ (List.mem_append_left _ (List.mem_append_right _ h9)))))) tyX4 tyX4_ok nmX4 hown hK hP hI hS 0 rfl rfl 1 (by decide) hF (hts (.fieldLink RX4 27 "PastDraws" "chain" "LPastDraws$Chain;") (List.mem_of_getElem? (i := 15) rfl)) rfl hin2 rfl (ty := .object "PastDraws$Chain") (by decide +kernel) rfl rfl (Nat.le_of_ble_eq_true rfl) dX4_init_30 (fun H locs hP hS hz9 => ?_)
  have hz := hz9.trans hz
  obtain ⟨C30, hC30⟩ : ∃ z9, z9 = pw_setF C27 0 ([.int (nI n), .ref (Ad 1), .null, .null, .null] : List Value) := ⟨_, rfl⟩
  have hP := hP.eqC (C' := C30) (by rw [hC30]; rfl)
  have hF : C30.2.2 0 = ([.int (nI n), .ref (Ad 1), .null, .null, .null] : List Value) := by rw [hC30]; rfl
  have g1 := g1.setF hC30 (by rfl)
  refine lv_aload_n hx hb dX4_init_33 rfl (lv_at hl 0 rfl) ?_
  have e9 : H.size = Ad 2 := by rw [hz, hA]; show _ = h + 16 + n; omega
  refine pw_newo (b := 0) hx hb hts (fun _ h9 => List.mem_cons_of_mem _ (List.mem_append_left _ (List.mem_append_left _ (List.mem_append_right _ h9)))) tyX1 tyX1_ok hown (hts (.classLink RX4 31 RX1) (List.mem_of_getElem? (i := 16) rfl)) (hts (.instantiable RX1 4) (List.mem_of_getElem? (i := 17) rfl)) (hts (.initialized RX1) (List.mem_of_getElem? (i := 18) rfl)) hK (ci := 1) rfl (fs := [.int 0, .null, .null, .null]) df1 (by simp only [pw_rm]; omega) (by simp only [pw_rm]; omega) dX4_init_34 (fun H1 hN hz9 o9 => ?_)
  have hP := pw_live hP o9 (fun _ h9 => Or.inl h9)
  have hS := va_S.mem_grow hS hz9 o9
  have hz : H1.size = h + 17 + n := by rw [hz9, e9, hA]; show h + 16 + n + 1 = _; omega
  rw [e9] at hN ⊢
  clear o9 hz9 e9
  refine lv_dup hx hb dX4_init_37 rfl ?_
  refine lv_aload_n hx hb dX4_init_38 rfl (lv_at hl 0 rfl) ?_
  refine pw_get hx hb hts (fun _ h9 => List.mem_cons_of_mem _ (List.mem_append_left _ (List.mem_append_left _ (List.mem_append_left _ (List.mem_append_left _ (List.mem_append_right _ h9)))))) hown hK hP 0 rfl rfl 0 (by decide) hF rfl (hts (.fieldLink RX4 18 "PastDraws" "stateCount" "I") (List.mem_of_getElem? (i := 11) rfl)) dX4_init_39 ?_
  refine pw_ci (As := [.int (nI n)]) S hK hO (f := (gx1 n)) hP hI0 hS 2 rfl hN hz (dj2 hn.2) 1 (i_X1 l D cy Ad h n hn hA) gX4_init_X1_init rfl rfl rfl (hts (.initialized RX1) (List.mem_of_getElem? (i := 18) rfl)) (hts (.methodLink RX4 33 yX1_init) (List.mem_of_getElem? (i := 43) rfl)) (hts (.instanceMethod yX1_init) (List.mem_of_getElem? (i := 44) rfl)) rfl (by decide +kernel) ⟨Nat.le_of_ble_eq_true rfl, Nat.le_of_ble_eq_true rfl⟩ rfl hl.1 rfl (Nat.le_of_ble_eq_true rfl) dX4_init_42 ⟨(by simp only [pw_rm]; omega), (by simp only [pw_rm]; omega)⟩ (fun A2 H locs hR2 hP hI hS hz => ?_)
  obtain ⟨C42, hC42⟩ : ∃ z9, z9 = mixC (fMa n) A2 C30 := ⟨_, rfl⟩
  rw [← hC42] at hP
  have hP : pw_P D cy Ad (shR (gx2 n) (shX n)) C42 H := hP
  have hI : pw_I Ad (shR (gx2 n) (shX n)) := hI
  have hS : va_S (pw_fr Ad (shR (gx2 n) (shX n))) s.heap H locs := hS
  have hF : C42.2.2 0 = ([.int (nI n), .ref (Ad 1), .null, .null, .null] : List Value) := by rw [hC42, mix0 ((dj2 hn.2) 0 rfl)]; exact hF
  have g1 := g1.mix hC42 (fun j9 hj9 => (dj2 hn.2) j9 (by simp only [gx1_i, gx1_i, gx2_i, gx3_i]; simp only [hj9, true_or, or_true]))
  have g2 : agr (fMa n) A2 C42 := agr.mixt hC42
  refine pw_putF hx hb hts (fun _ h9 => List.mem_cons_of_mem _ (List.mem_append_left _ (List.mem_append_left _ (List.mem_append_left _ (List.mem_append_left _ (List.mem_append_right _ h9)))))) tyX4 tyX4_ok nmX4 hown hK hP hI hS 0 rfl rfl 2 (by decide) hF (hts (.fieldLink RX4 34 "PastDraws" "machine" "LPastDraws$Machine;") (List.mem_of_getElem? (i := 19) rfl)) rfl hin2 rfl (ty := .object "PastDraws$Machine") (by decide +kernel) rfl rfl (Nat.le_of_ble_eq_true rfl) dX4_init_45 (fun H locs hP hS hz9 => ?_)
  have hz := hz9.trans hz
  obtain ⟨C45, hC45⟩ : ∃ z9, z9 = pw_setF C42 0 ([.int (nI n), .ref (Ad 1), .ref (Ad 2), .null, .null] : List Value) := ⟨_, rfl⟩
  have hP := hP.eqC (C' := C45) (by rw [hC45]; rfl)
  have hF : C45.2.2 0 = ([.int (nI n), .ref (Ad 1), .ref (Ad 2), .null, .null] : List Value) := by rw [hC45]; rfl
  have g1 := g1.setF hC45 (by rfl)
  have g2 := g2.setF hC45 (by rfl)
  refine lv_aload_n hx hb dX4_init_48 rfl (lv_at hl 0 rfl) ?_
  have e9 : H.size = Ad 3 := by rw [hz, hA]; show _ = h + 46 + 2 * n; omega
  refine pw_newo (b := 0) hx hb hts (fun _ h9 => List.mem_cons_of_mem _ (List.mem_append_left _ (List.mem_append_right _ h9))) tyX2 tyX2_ok hown (hts (.classLink RX4 38 RX2) (List.mem_of_getElem? (i := 20) rfl)) (hts (.instantiable RX2 2) (List.mem_of_getElem? (i := 21) rfl)) (hts (.initialized RX2) (List.mem_of_getElem? (i := 22) rfl)) hK (ci := 2) rfl (fs := [.null, .null]) df2 (by simp only [pw_rm]; omega) (by simp only [pw_rm]; omega) dX4_init_49 (fun H1 hN hz9 o9 => ?_)
  have hP := pw_live hP o9 (fun _ h9 => Or.inl h9)
  have hS := va_S.mem_grow hS hz9 o9
  have hz : H1.size = h + 47 + 2 * n := by rw [hz9, e9, hA]; show h + 46 + 2 * n + 1 = _; omega
  rw [e9] at hN ⊢
  clear o9 hz9 e9
  refine lv_dup hx hb dX4_init_52 rfl ?_
  refine pw_ci (As := []) S hK hO (f := (gx2 n)) hP hI0 hS 3 rfl hN hz (dj3 (n := n)) 0 (i_X2 l D cy Ad h n hn hA) gX4_init_X2_init rfl rfl rfl (hts (.initialized RX2) (List.mem_of_getElem? (i := 22) rfl)) (hts (.methodLink RX4 40 yX2_init) (List.mem_of_getElem? (i := 58) rfl)) (hts (.instanceMethod yX2_init) (List.mem_of_getElem? (i := 59) rfl)) rfl (by decide +kernel) ⟨Nat.le_of_ble_eq_true rfl, Nat.le_of_ble_eq_true rfl⟩ rfl hl.1 rfl (Nat.le_of_ble_eq_true rfl) dX4_init_53 ⟨(by simp only [pw_rm]; omega), (by simp only [pw_rm]; omega)⟩ (fun A3 H locs hR3 hP hI hS hz => ?_)
  obtain ⟨C53, hC53⟩ : ∃ z9, z9 = mixC (fO) A3 C45 := ⟨_, rfl⟩
  rw [← hC53] at hP
  have hP : pw_P D cy Ad (shR (gx3 n) (shX n)) C53 H := hP
  have hI : pw_I Ad (shR (gx3 n) (shX n)) := hI
  have hS : va_S (pw_fr Ad (shR (gx3 n) (shX n))) s.heap H locs := hS
  have hF : C53.2.2 0 = ([.int (nI n), .ref (Ad 1), .ref (Ad 2), .null, .null] : List Value) := by rw [hC53, mix0 ((dj3 (n := n)) 0 rfl)]; exact hF
  have g1 := g1.mix hC53 (fun j9 hj9 => (dj3 (n := n)) j9 (by simp only [gx1_i, gx1_i, gx2_i, gx3_i]; simp only [hj9, true_or, or_true]))
  have g2 := g2.mix hC53 (fun j9 hj9 => (dj3 (n := n)) j9 (by simp only [gx1_i, gx1_i, gx2_i, gx3_i]; simp only [hj9, true_or, or_true]))
  have g3 : agr (fO) A3 C53 := agr.mixt hC53
  refine pw_putF hx hb hts (fun _ h9 => List.mem_cons_of_mem _ (List.mem_append_left _ (List.mem_append_left _ (List.mem_append_left _ (List.mem_append_left _ (List.mem_append_right _ h9)))))) tyX4 tyX4_ok nmX4 hown hK hP hI hS 0 rfl rfl 3 (by decide) hF (hts (.fieldLink RX4 41 "PastDraws" "orders" "LPastDraws$Orders;") (List.mem_of_getElem? (i := 23) rfl)) rfl hin2 rfl (ty := .object "PastDraws$Orders") (by decide +kernel) rfl rfl (Nat.le_of_ble_eq_true rfl) dX4_init_56 (fun H locs hP hS hz9 => ?_)
  have hz := hz9.trans hz
  obtain ⟨C56, hC56⟩ : ∃ z9, z9 = pw_setF C53 0 ([.int (nI n), .ref (Ad 1), .ref (Ad 2), .ref (Ad 3), .null] : List Value) := ⟨_, rfl⟩
  have hP := hP.eqC (C' := C56) (by rw [hC56]; rfl)
  have hF : C56.2.2 0 = ([.int (nI n), .ref (Ad 1), .ref (Ad 2), .ref (Ad 3), .null] : List Value) := by rw [hC56]; rfl
  have g1 := g1.setF hC56 (by rfl)
  have g2 := g2.setF hC56 (by rfl)
  have g3 := g3.setF hC56 (by rfl)
  refine lv_aload_n hx hb dX4_init_59 rfl (lv_at hl 0 rfl) ?_
  have e9 : H.size = Ad 4 := by rw [hz, hA]; show _ = h + 49 + 2 * n; omega
  refine pw_newo (b := 0) hx hb hts (fun _ h9 => List.mem_cons_of_mem _ (List.mem_append_right _ h9)) tyX3 tyX3_ok hown (hts (.classLink RX4 45 RX3) (List.mem_of_getElem? (i := 24) rfl)) (hts (.instantiable RX3 6) (List.mem_of_getElem? (i := 25) rfl)) (hts (.initialized RX3) (List.mem_of_getElem? (i := 26) rfl)) hK (ci := 3) rfl (fs := [.null, .null, .null, .null, .null, .int 0]) df3 (by simp only [pw_rm]; omega) (by simp only [pw_rm]; omega) dX4_init_60 (fun H1 hN hz9 o9 => ?_)
  have hP := pw_live hP o9 (fun _ h9 => Or.inl h9)
  have hS := va_S.mem_grow hS hz9 o9
  have hz : H1.size = h + 50 + 2 * n := by rw [hz9, e9, hA]; show h + 49 + 2 * n + 1 = _; omega
  rw [e9] at hN ⊢
  clear o9 hz9 e9
  refine lv_dup hx hb dX4_init_63 rfl ?_
  refine pw_ci (As := []) S hK hO (f := (gx3 n)) hP hI0 hS 4 rfl hN hz (dj4 (n := n)) 0 (i_X3 l D cy Ad h n hn hA) gX4_init_X3_init rfl rfl rfl (hts (.initialized RX3) (List.mem_of_getElem? (i := 26) rfl)) (hts (.methodLink RX4 47 yX3_init) (List.mem_of_getElem? (i := 65) rfl)) (hts (.instanceMethod yX3_init) (List.mem_of_getElem? (i := 66) rfl)) rfl (by decide +kernel) ⟨Nat.le_of_ble_eq_true rfl, Nat.le_of_ble_eq_true rfl⟩ rfl hl.1 rfl (Nat.le_of_ble_eq_true rfl) dX4_init_64 ⟨(by simp only [pw_rm]; omega), (by simp only [pw_rm]; omega)⟩ (fun A4 H locs hR4 hP hI hS hz => ?_)
  obtain ⟨C64, hC64⟩ : ∃ z9, z9 = mixC (fT) A4 C56 := ⟨_, rfl⟩
  rw [← hC64] at hP
  have hP : pw_P D cy Ad (shR (gx4 n) (shX n)) C64 H := hP
  have hI : pw_I Ad (shR (gx4 n) (shX n)) := hI
  have hS : va_S (pw_fr Ad (shR (gx4 n) (shX n))) s.heap H locs := hS
  have hF : C64.2.2 0 = ([.int (nI n), .ref (Ad 1), .ref (Ad 2), .ref (Ad 3), .null] : List Value) := by rw [hC64, mix0 ((dj4 (n := n)) 0 rfl)]; exact hF
  have g1 := g1.mix hC64 (fun j9 hj9 => (dj4 (n := n)) j9 (by simp only [gx1_i, gx1_i, gx2_i, gx3_i]; simp only [hj9, true_or, or_true]))
  have g2 := g2.mix hC64 (fun j9 hj9 => (dj4 (n := n)) j9 (by simp only [gx1_i, gx1_i, gx2_i, gx3_i]; simp only [hj9, true_or, or_true]))
  have g3 := g3.mix hC64 (fun j9 hj9 => (dj4 (n := n)) j9 (by simp only [gx1_i, gx1_i, gx2_i, gx3_i]; simp only [hj9, true_or, or_true]))
  have g4 : agr (fT) A4 C64 := agr.mixt hC64
  refine pw_putF hx hb hts (fun _ h9 => List.mem_cons_of_mem _ (List.mem_append_left _ (List.mem_append_left _ (List.mem_append_left _ (List.mem_append_left _ (List.mem_append_right _ h9)))))) tyX4 tyX4_ok nmX4 hown hK hP hI hS 0 rfl rfl 4 (by decide) hF (hts (.fieldLink RX4 48 "PastDraws" "table" "LPastDraws$Table;") (List.mem_of_getElem? (i := 27) rfl)) rfl hin2 rfl (ty := .object "PastDraws$Table") (by decide +kernel) rfl rfl (Nat.le_of_ble_eq_true rfl) dX4_init_67 (fun H locs hP hS hz9 => ?_)
  have hz := hz9.trans hz
  obtain ⟨C67, hC67⟩ : ∃ z9, z9 = pw_setF C64 0 ([.int (nI n), .ref (Ad 1), .ref (Ad 2), .ref (Ad 3), .ref (Ad 4)] : List Value) := ⟨_, rfl⟩
  have hP := hP.eqC (C' := C67) (by rw [hC67]; rfl)
  have hF : C67.2.2 0 = ([.int (nI n), .ref (Ad 1), .ref (Ad 2), .ref (Ad 3), .ref (Ad 4)] : List Value) := by rw [hC67]; rfl
  have g1 := g1.setF hC67 (by rfl)
  have g2 := g2.setF hC67 (by rfl)
  have g3 := g3.setF hC67 (by rfl)
  have g4 := g4.setF hC67 (by rfl)
  have hsh : shR (gx4 n) (shX n) = shX n := by
    funext k9
    by_cases h9 : gx4 n k9 = true
    · exact shR_t h9
    · have h8 : ¬ pw_L (shX n) k9 := fun q => h9 (gx4_all hn q)
      exact shX_dead h8 h9
  rw [hsh] at hP hS
  have hXI : XI n 1 (fun _ x => x) (fun _ _ => none) (fun _ => false) (fun _ => 255) (fun _ => 1) Ad C67 := by
    refine ⟨⟨hF, ?_, ?_, ?_, ?_⟩, fun u hu x hx => ⟨hx, ?_⟩, fun x hx c9 hc9 => ⟨fun y hy => (by cases hy), ?_⟩, fun x hx => ?_, fun q hq => ⟨(by decide : 255 < 256), ?_⟩, fun i hi => ⟨(by decide : 1 ≤ 1000), ?_⟩⟩
    · exact (g1 1 (fCh_i.mpr (by omega))).2.trans hR1.1
    · exact (g2 2 (fMa_i.mpr (by omega))).2.trans hR2.1
    · exact (g3 3 (fO_i.mpr (by omega))).2.trans hR3.1
    · exact (g4 4 (fT_i.mpr (by omega))).2.trans hR4.1
    · rw [(g1 (21 + u) (fCh_i.mpr (by omega))).1]; exact hR1.2 u hu x hx
    · rw [(g2 (41 + x) (fMa_i.mpr (by omega))).1]; exact hR2.2.1 x hx c9 hc9
    · rw [(g2 12 (fMa_i.mpr (by omega))).1]; exact hR2.2.2 x
    · rw [(g3 14 (fO_i.mpr (by omega))).1]; exact hR3.2 q hq
    · rw [(g4 16 (fT_i.mpr (by omega))).1]; exact hR4.2 i hi
  refine W.widen (k := 90) (n := 10000) (by omega) (by omega) ?_
  exact W.vret hx hb hr (fun t ht _ => ⟨⟨C67, rfl, hXI, by rw [ht]; exact hP, by rw [ht, hz]; omega⟩, hS.F ht⟩) hS.2.2 dX4_init_70
