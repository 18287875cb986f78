set_option maxHeartbeats 4000000 in
set_option maxRecDepth 100000 in
theorem c_X5_init (l : Launch) (D : va_G) (cy : Nat → ClassId) (Ad : Nat → Nat) (z : Nat) (hI0 : pw_I Ad shM) (hA : ∀ k, 1 ≤ k → k ≤ 16 → Ad k = z + (k - 1)) (a : Int32) : Met l yX5_init wsX5_init (pw_rm 1 12 16 1324) (pw_PreN ([.ref (Ad 0), .int a]) z D cy Ad (shR (fun j => j == 0) shM) (zC ([.int 0, .null, .null, .null, .null, .int 0, .null, .long 0, .int 0, .null, .null, .null, .null, .null, .null, .null, .null, .null, .null, .null]))) (pw_PostN (fun C' => MI (nOf a) 1 (fun _ x => x) (fun _ _ => none) (fun _ => false) (fun _ => 255) (fun _ => 1) Ad C') (z + 16) D cy Ad (shR fM5 shM)) 16 1324 (pw_fr Ad (shR fM5 shM)) := by
  refine Met.ofW (cc := cX5_init) (maxL := 4) (ret := none) (by decide) rfl ?_
  intro p e s m args below meth c s₁ B hml hv
  obtain ⟨rfl, hz, hP, hK, hO⟩ := hv
  have hx := B.exec
  have hb := B.bytes
  have hr := B.returns
  have hts := atoms_spec (ws := wsX5_init) B.pre
  have hown : s.vm.findClass RX5 = some m.cls := findClass_of_methodNamed B.named
  have hlocks := B.notSynchronized
  have S : CallFix p m c cX5_init 4 s ([.ref (Ad 0), .int a]).toArray wsX5_init RX5 := ⟨hx, hb, hml, hown, hts⟩
  change W p l e (pw_rm 1 12 16 1324) s m _ below meth c s.heap [] 0 0 _ _
  have hl := lv_entry ([.ref (Ad 0), .int a]) (n := 4) (Nat.le_of_ble_eq_true rfl)
  rw [lg_entry_eq]
  generalize (lg_sl ([.ref (Ad 0), .int a]) ++ List.replicate (4 - (lg_sl ([.ref (Ad 0), .int a])).length) Slot.unset).toArray = ls at hl ⊢
  have hl : lv_has ls 4 [(0, .ref (Ad 0)), (1, .int a)] := hl
  have hin2 : meth.name = "<init>" := (name_of_methodNamed B.named B.method).1
  have hS : va_S (pw_fr Ad (shR (fun j => j == 0) shM)) s.heap s.heap [] := va_S.rf
  have hI : pw_I Ad (shR (fun j => j == 0) shM) := hI0.R
  obtain ⟨C, hC⟩ : ∃ z9, z9 = zC ([.int 0, .null, .null, .null, .null, .int 0, .null, .long 0, .int 0, .null, .null, .null, .null, .null, .null, .null, .null, .null, .null, .null]) := ⟨_, rfl⟩
  rw [← hC] at hP
  have hF : C.2.2 0 = ([.int 0, .null, .null, .null, .null, .int 0, .null, .long 0, .int 0, .null, .null, .null, .null, .null, .null, .null, .null, .null, .null, .null] : List Value) := by rw [hC]; rfl
  have hZ : C.1 = (zC []).1 ∧ C.2.1 = (zC []).2.1 := by rw [hC]; exact ⟨rfl, rfl⟩
  refine lv_aload_n hx hb dX5_init_0 rfl (lv_at hl 0 rfl) ?_
  refine W.objInit hx hb hown (hts (.methodLink RX5 1 objectInit) (List.mem_of_getElem? (i := 1) rfl)) (hts (.instanceMethod objectInit) (List.mem_of_getElem? (i := 2) rfl)) (hts (.code objectInit ⟨#[0xb1]⟩ 1 none) (List.mem_of_getElem? (i := 3) rfl)) rfl (by rw [hml]; exact hl.1) rfl dX5_init_1 (Nat.le_of_ble_eq_true rfl) (Nat.le_of_ble_eq_true rfl) ?_
  refine W.eq (g2 := F0 m 4 ls []) rfl ?_
  refine lv_aload_n hx hb dX5_init_4 rfl (lv_at hl 0 rfl) ?_
  refine lv_bipush (v := nI 96) hx hb dX5_init_5 (by decide) ?_
  refine pw_nai hx hb (hts (.arrayClass .int) (List.mem_of_getElem? (i := 4) rfl)) hK hP hI0 hS 1 rfl (fun i => by rw [hZ.1]; rfl) (hz.trans (hA 1 (by decide) (by decide)).symm) (by omega) (by simp only [pw_rm]; omega) (by simp only [pw_rm]; omega) dX5_init_7 (fun H hP hI hS hz9 => ?_)
  have hz : H.size = z + (0 + 1) := by rw [hz9, hz]
  refine pw_putF hx hb hts (fun _ h9 => List.mem_cons_of_mem _ (List.mem_append_right _ h9)) tyX5 tyX5_ok nmX5 hown hK hP hI hS 0 rfl rfl 1 (by decide) hF (hts (.fieldLink RX5 7 "PastDrawsModel" "rules" "[I") (List.mem_of_getElem? (i := 5) rfl)) rfl hin2 rfl (ty := .array .int) (by decide +kernel) rfl rfl (Nat.le_of_ble_eq_true rfl) dX5_init_9 (fun H locs hP hS hz9 => ?_)
  have hz : H.size = z + (0 + 1) := hz9.trans hz
  obtain ⟨C9, hC9⟩ : ∃ z9, z9 = pw_setF C 0 ([.int 0, .ref (Ad 1), .null, .null, .null, .int 0, .null, .long 0, .int 0, .null, .null, .null, .null, .null, .null, .null, .null, .null, .null, .null] : List Value) := ⟨_, rfl⟩
  have hP := hP.eqC (C' := C9) (by rw [hC9]; rfl)
  have hF : C9.2.2 0 = ([.int 0, .ref (Ad 1), .null, .null, .null, .int 0, .null, .long 0, .int 0, .null, .null, .null, .null, .null, .null, .null, .null, .null, .null, .null] : List Value) := by rw [hC9]; rfl
  have hZ : C9.1 = (zC []).1 ∧ C9.2.1 = (zC []).2.1 := by rw [hC9]; exact hZ
  refine lv_aload_n hx hb dX5_init_12 rfl (lv_at hl 0 rfl) ?_
  refine lv_bipush (v := nI 48) hx hb dX5_init_13 (by decide) ?_
  refine pw_nai hx hb (hts (.arrayClass .int) (List.mem_of_getElem? (i := 4) rfl)) hK hP hI0 hS 2 rfl (fun i => by rw [hZ.1]; rfl) (hz.trans (hA 2 (by decide) (by decide)).symm) (by omega) (by simp only [pw_rm]; omega) (by simp only [pw_rm]; omega) dX5_init_15 (fun H hP hI hS hz9 => ?_)
  have hz : H.size = z + (0 + 1 + 1) := by rw [hz9, hz]
  refine pw_putF hx hb hts (fun _ h9 => List.mem_cons_of_mem _ (List.mem_append_right _ h9)) tyX5 tyX5_ok nmX5 hown hK hP hI hS 0 rfl rfl 2 (by decide) hF (hts (.fieldLink RX5 13 "PastDrawsModel" "leads" "[I") (List.mem_of_getElem? (i := 6) rfl)) rfl hin2 rfl (ty := .array .int) (by decide +kernel) rfl rfl (Nat.le_of_ble_eq_true rfl) dX5_init_17 (fun H locs hP hS hz9 => ?_)
  have hz : H.size = z + (0 + 1 + 1) := hz9.trans hz
  obtain ⟨C17, hC17⟩ : ∃ z9, z9 = pw_setF C9 0 ([.int 0, .ref (Ad 1), .ref (Ad 2), .null, .null, .int 0, .null, .long 0, .int 0, .null, .null, .null, .null, .null, .null, .null, .null, .null, .null, .null] : List Value) := ⟨_, rfl⟩
  have hP := hP.eqC (C' := C17) (by rw [hC17]; rfl)
  have hF : C17.2.2 0 = ([.int 0, .ref (Ad 1), .ref (Ad 2), .null, .null, .int 0, .null, .long 0, .int 0, .null, .null, .null, .null, .null, .null, .null, .null, .null, .null, .null] : List Value) := by rw [hC17]; rfl
  have hZ : C17.1 = (zC []).1 ∧ C17.2.1 = (zC []).2.1 := by rw [hC17]; exact hZ
  refine lv_aload_n hx hb dX5_init_20 rfl (lv_at hl 0 rfl) ?_
  refine lv_bipush (v := nI 12) hx hb dX5_init_21 (by decide) ?_
  refine pw_naz hx hb (hts (.arrayClass .boolean) (List.mem_of_getElem? (i := 7) rfl)) hK hP hI0 hS 3 rfl (fun i => by rw [hZ.1]; rfl) (hz.trans (hA 3 (by decide) (by decide)).symm) (by omega) (by simp only [pw_rm]; omega) (by simp only [pw_rm]; omega) dX5_init_23 (fun H hP hI hS hz9 => ?_)
  have hz : H.size = z + (0 + 1 + 1 + 1) := by rw [hz9, hz]
  refine pw_putF hx hb hts (fun _ h9 => List.mem_cons_of_mem _ (List.mem_append_right _ h9)) tyX5 tyX5_ok nmX5 hown hK hP hI hS 0 rfl rfl 3 (by decide) hF (hts (.fieldLink RX5 16 "PastDrawsModel" "isEnd" "[Z") (List.mem_of_getElem? (i := 8) rfl)) rfl hin2 rfl (ty := .array .boolean) (by decide +kernel) rfl rfl (Nat.le_of_ble_eq_true rfl) dX5_init_25 (fun H locs hP hS hz9 => ?_)
  have hz : H.size = z + (0 + 1 + 1 + 1) := hz9.trans hz
  obtain ⟨C25, hC25⟩ : ∃ z9, z9 = pw_setF C17 0 ([.int 0, .ref (Ad 1), .ref (Ad 2), .ref (Ad 3), .null, .int 0, .null, .long 0, .int 0, .null, .null, .null, .null, .null, .null, .null, .null, .null, .null, .null] : List Value) := ⟨_, rfl⟩
  have hP := hP.eqC (C' := C25) (by rw [hC25]; rfl)
  have hF : C25.2.2 0 = ([.int 0, .ref (Ad 1), .ref (Ad 2), .ref (Ad 3), .null, .int 0, .null, .long 0, .int 0, .null, .null, .null, .null, .null, .null, .null, .null, .null, .null, .null] : List Value) := by rw [hC25]; rfl
  have hZ : C25.1 = (zC []).1 ∧ C25.2.1 = (zC []).2.1 := by rw [hC25]; exact hZ
  refine lv_aload_n hx hb dX5_init_28 rfl (lv_at hl 0 rfl) ?_
  refine lv_bipush (v := nI 64) hx hb dX5_init_29 (by decide) ?_
  refine pw_naz hx hb (hts (.arrayClass .boolean) (List.mem_of_getElem? (i := 7) rfl)) hK hP hI0 hS 4 rfl (fun i => by rw [hZ.1]; rfl) (hz.trans (hA 4 (by decide) (by decide)).symm) (by omega) (by simp only [pw_rm]; omega) (by simp only [pw_rm]; omega) dX5_init_31 (fun H hP hI hS hz9 => ?_)
  have hz : H.size = z + (0 + 1 + 1 + 1 + 1) := by rw [hz9, hz]
  refine pw_putF hx hb hts (fun _ h9 => List.mem_cons_of_mem _ (List.mem_append_right _ h9)) tyX5 tyX5_ok nmX5 hown hK hP hI hS 0 rfl rfl 4 (by decide) hF (hts (.fieldLink RX5 20 "PastDrawsModel" "isAllowed" "[Z") (List.mem_of_getElem? (i := 9) rfl)) rfl hin2 rfl (ty := .array .boolean) (by decide +kernel) rfl rfl (Nat.le_of_ble_eq_true rfl) dX5_init_33 (fun H locs hP hS hz9 => ?_)
  have hz : H.size = z + (0 + 1 + 1 + 1 + 1) := hz9.trans hz
  obtain ⟨C33, hC33⟩ : ∃ z9, z9 = pw_setF C25 0 ([.int 0, .ref (Ad 1), .ref (Ad 2), .ref (Ad 3), .ref (Ad 4), .int 0, .null, .long 0, .int 0, .null, .null, .null, .null, .null, .null, .null, .null, .null, .null, .null] : List Value) := ⟨_, rfl⟩
  have hP := hP.eqC (C' := C33) (by rw [hC33]; rfl)
  have hF : C33.2.2 0 = ([.int 0, .ref (Ad 1), .ref (Ad 2), .ref (Ad 3), .ref (Ad 4), .int 0, .null, .long 0, .int 0, .null, .null, .null, .null, .null, .null, .null, .null, .null, .null, .null] : List Value) := by rw [hC33]; rfl
  have hZ : C33.1 = (zC []).1 ∧ C33.2.1 = (zC []).2.1 := by rw [hC33]; exact hZ
  refine lv_aload_n hx hb dX5_init_36 rfl (lv_at hl 0 rfl) ?_
  refine lv_iconst (v := nI 1) hx hb dX5_init_37 (by decide) ?_
  refine pw_putZ hx hb hts (fun _ h9 => List.mem_cons_of_mem _ (List.mem_append_right _ h9)) tyX5 tyX5_ok nmX5 hown hK hP hI hS 0 rfl rfl 5 (by decide) hF (hts (.fieldLink RX5 23 "PastDrawsModel" "things" "I") (List.mem_of_getElem? (i := 10) rfl)) rfl (ty := .int) (by decide +kernel) rfl rfl (Nat.le_of_ble_eq_true rfl) dX5_init_38 (fun H locs hP hS hz9 => ?_)
  have hz : H.size = z + (0 + 1 + 1 + 1 + 1) := hz9.trans hz
  obtain ⟨C38, hC38⟩ : ∃ z9, z9 = pw_setF C33 0 ([.int 0, .ref (Ad 1), .ref (Ad 2), .ref (Ad 3), .ref (Ad 4), .int (nI 1), .null, .long 0, .int 0, .null, .null, .null, .null, .null, .null, .null, .null, .null, .null, .null] : List Value) := ⟨_, rfl⟩
  have hP := hP.eqC (C' := C38) (by rw [hC38]; rfl)
  have hF : C38.2.2 0 = ([.int 0, .ref (Ad 1), .ref (Ad 2), .ref (Ad 3), .ref (Ad 4), .int (nI 1), .null, .long 0, .int 0, .null, .null, .null, .null, .null, .null, .null, .null, .null, .null, .null] : List Value) := by rw [hC38]; rfl
  have hZ : C38.1 = (zC []).1 ∧ C38.2.1 = (zC []).2.1 := by rw [hC38]; exact hZ
  refine lv_aload_n hx hb dX5_init_41 rfl (lv_at hl 0 rfl) ?_
  refine lv_bipush (v := nI 16) hx hb dX5_init_42 (by decide) ?_
  refine pw_nai hx hb (hts (.arrayClass .int) (List.mem_of_getElem? (i := 4) rfl)) hK hP hI0 hS 5 rfl (fun i => by rw [hZ.1]; rfl) (hz.trans (hA 5 (by decide) (by decide)).symm) (by omega) (by simp only [pw_rm]; omega) (by simp only [pw_rm]; omega) dX5_init_44 (fun H hP hI hS hz9 => ?_)
  have hz : H.size = z + (0 + 1 + 1 + 1 + 1 + 1) := by rw [hz9, hz]
  refine pw_putF hx hb hts (fun _ h9 => List.mem_cons_of_mem _ (List.mem_append_right _ h9)) tyX5 tyX5_ok nmX5 hown hK hP hI hS 0 rfl rfl 6 (by decide) hF (hts (.fieldLink RX5 27 "PastDrawsModel" "weights" "[I") (List.mem_of_getElem? (i := 11) rfl)) rfl hin2 rfl (ty := .array .int) (by decide +kernel) rfl rfl (Nat.le_of_ble_eq_true rfl) dX5_init_46 (fun H locs hP hS hz9 => ?_)
  have hz : H.size = z + (0 + 1 + 1 + 1 + 1 + 1) := hz9.trans hz
  obtain ⟨C46, hC46⟩ : ∃ z9, z9 = pw_setF C38 0 ([.int 0, .ref (Ad 1), .ref (Ad 2), .ref (Ad 3), .ref (Ad 4), .int (nI 1), .ref (Ad 5), .long 0, .int 0, .null, .null, .null, .null, .null, .null, .null, .null, .null, .null, .null] : List Value) := ⟨_, rfl⟩
  have hP := hP.eqC (C' := C46) (by rw [hC46]; rfl)
  have hF : C46.2.2 0 = ([.int 0, .ref (Ad 1), .ref (Ad 2), .ref (Ad 3), .ref (Ad 4), .int (nI 1), .ref (Ad 5), .long 0, .int 0, .null, .null, .null, .null, .null, .null, .null, .null, .null, .null, .null] : List Value) := by rw [hC46]; rfl
  have hZ : C46.1 = (zC []).1 ∧ C46.2.1 = (zC []).2.1 := by rw [hC46]; exact hZ
  refine lv_aload_n hx hb dX5_init_49 rfl (lv_at hl 0 rfl) ?_
  refine lv_bipush (v := nI 12) hx hb dX5_init_50 (by decide) ?_
  refine pw_nai hx hb (hts (.arrayClass .int) (List.mem_of_getElem? (i := 4) rfl)) hK hP hI0 hS 6 rfl (fun i => by rw [hZ.1]; rfl) (hz.trans (hA 6 (by decide) (by decide)).symm) (by omega) (by simp only [pw_rm]; omega) (by simp only [pw_rm]; omega) dX5_init_52 (fun H hP hI hS hz9 => ?_)
  have hz : H.size = z + (0 + 1 + 1 + 1 + 1 + 1 + 1) := by rw [hz9, hz]
  refine pw_putF hx hb hts (fun _ h9 => List.mem_cons_of_mem _ (List.mem_append_right _ h9)) tyX5 tyX5_ok nmX5 hown hK hP hI hS 0 rfl rfl 9 (by decide) hF (hts (.fieldLink RX5 30 "PastDrawsModel" "whole" "[I") (List.mem_of_getElem? (i := 12) rfl)) rfl hin2 rfl (ty := .array .int) (by decide +kernel) rfl rfl (Nat.le_of_ble_eq_true rfl) dX5_init_54 (fun H locs hP hS hz9 => ?_)
  have hz : H.size = z + (0 + 1 + 1 + 1 + 1 + 1 + 1) := hz9.trans hz
  obtain ⟨C54, hC54⟩ : ∃ z9, z9 = pw_setF C46 0 ([.int 0, .ref (Ad 1), .ref (Ad 2), .ref (Ad 3), .ref (Ad 4), .int (nI 1), .ref (Ad 5), .long 0, .int 0, .ref (Ad 6), .null, .null, .null, .null, .null, .null, .null, .null, .null, .null] : List Value) := ⟨_, rfl⟩
  have hP := hP.eqC (C' := C54) (by rw [hC54]; rfl)
  have hF : C54.2.2 0 = ([.int 0, .ref (Ad 1), .ref (Ad 2), .ref (Ad 3), .ref (Ad 4), .int (nI 1), .ref (Ad 5), .long 0, .int 0, .ref (Ad 6), .null, .null, .null, .null, .null, .null, .null, .null, .null, .null] : List Value) := by rw [hC54]; rfl
  have hZ : C54.1 = (zC []).1 ∧ C54.2.1 = (zC []).2.1 := by rw [hC54]; exact hZ
  refine lv_aload_n hx hb dX5_init_57 rfl (lv_at hl 0 rfl) ?_
  refine lv_bipush (v := nI 12) hx hb dX5_init_58 (by decide) ?_
  refine pw_nai hx hb (hts (.arrayClass .int) (List.mem_of_getElem? (i := 4) rfl)) hK hP hI0 hS 7 rfl (fun i => by rw [hZ.1]; rfl) (hz.trans (hA 7 (by decide) (by decide)).symm) (by omega) (by simp only [pw_rm]; omega) (by simp only [pw_rm]; omega) dX5_init_60 (fun H hP hI hS hz9 => ?_)
  have hz : H.size = z + (0 + 1 + 1 + 1 + 1 + 1 + 1 + 1) := by rw [hz9, hz]
  refine pw_putF hx hb hts (fun _ h9 => List.mem_cons_of_mem _ (List.mem_append_right _ h9)) tyX5 tyX5_ok nmX5 hown hK hP hI hS 0 rfl rfl 10 (by decide) hF (hts (.fieldLink RX5 33 "PastDrawsModel" "next" "[I") (List.mem_of_getElem? (i := 13) rfl)) rfl hin2 rfl (ty := .array .int) (by decide +kernel) rfl rfl (Nat.le_of_ble_eq_true rfl) dX5_init_62 (fun H locs hP hS hz9 => ?_)
  have hz : H.size = z + (0 + 1 + 1 + 1 + 1 + 1 + 1 + 1) := hz9.trans hz
  obtain ⟨C62, hC62⟩ : ∃ z9, z9 = pw_setF C54 0 ([.int 0, .ref (Ad 1), .ref (Ad 2), .ref (Ad 3), .ref (Ad 4), .int (nI 1), .ref (Ad 5), .long 0, .int 0, .ref (Ad 6), .ref (Ad 7), .null, .null, .null, .null, .null, .null, .null, .null, .null] : List Value) := ⟨_, rfl⟩
  have hP := hP.eqC (C' := C62) (by rw [hC62]; rfl)
  have hF : C62.2.2 0 = ([.int 0, .ref (Ad 1), .ref (Ad 2), .ref (Ad 3), .ref (Ad 4), .int (nI 1), .ref (Ad 5), .long 0, .int 0, .ref (Ad 6), .ref (Ad 7), .null, .null, .null, .null, .null, .null, .null, .null, .null] : List Value) := by rw [hC62]; rfl
  have hZ : C62.1 = (zC []).1 ∧ C62.2.1 = (zC []).2.1 := by rw [hC62]; exact hZ
  refine lv_aload_n hx hb dX5_init_65 rfl (lv_at hl 0 rfl) ?_
  refine lv_sipush (v := nI 144) hx hb dX5_init_66 (by decide) ?_
  refine pw_nai hx hb (hts (.arrayClass .int) (List.mem_of_getElem? (i := 4) rfl)) hK hP hI0 hS 8 rfl (fun i => by rw [hZ.1]; rfl) (hz.trans (hA 8 (by decide) (by decide)).symm) (by omega) (by simp only [pw_rm]; omega) (by simp only [pw_rm]; omega) dX5_init_69 (fun H hP hI hS hz9 => ?_)
  have hz : H.size = z + (0 + 1 + 1 + 1 + 1 + 1 + 1 + 1 + 1) := by rw [hz9, hz]
  refine pw_putF hx hb hts (fun _ h9 => List.mem_cons_of_mem _ (List.mem_append_right _ h9)) tyX5 tyX5_ok nmX5 hown hK hP hI hS 0 rfl rfl 11 (by decide) hF (hts (.fieldLink RX5 36 "PastDrawsModel" "bounds" "[I") (List.mem_of_getElem? (i := 14) rfl)) rfl hin2 rfl (ty := .array .int) (by decide +kernel) rfl rfl (Nat.le_of_ble_eq_true rfl) dX5_init_71 (fun H locs hP hS hz9 => ?_)
  have hz : H.size = z + (0 + 1 + 1 + 1 + 1 + 1 + 1 + 1 + 1) := hz9.trans hz
  obtain ⟨C71, hC71⟩ : ∃ z9, z9 = pw_setF C62 0 ([.int 0, .ref (Ad 1), .ref (Ad 2), .ref (Ad 3), .ref (Ad 4), .int (nI 1), .ref (Ad 5), .long 0, .int 0, .ref (Ad 6), .ref (Ad 7), .ref (Ad 8), .null, .null, .null, .null, .null, .null, .null, .null] : List Value) := ⟨_, rfl⟩
  have hP := hP.eqC (C' := C71) (by rw [hC71]; rfl)
  have hF : C71.2.2 0 = ([.int 0, .ref (Ad 1), .ref (Ad 2), .ref (Ad 3), .ref (Ad 4), .int (nI 1), .ref (Ad 5), .long 0, .int 0, .ref (Ad 6), .ref (Ad 7), .ref (Ad 8), .null, .null, .null, .null, .null, .null, .null, .null] : List Value) := by rw [hC71]; rfl
  have hZ : C71.1 = (zC []).1 ∧ C71.2.1 = (zC []).2.1 := by rw [hC71]; exact hZ
  refine lv_aload_n hx hb dX5_init_74 rfl (lv_at hl 0 rfl) ?_
  refine lv_sipush (v := nI 144) hx hb dX5_init_75 (by decide) ?_
  refine pw_nai hx hb (hts (.arrayClass .int) (List.mem_of_getElem? (i := 4) rfl)) hK hP hI0 hS 9 rfl (fun i => by rw [hZ.1]; rfl) (hz.trans (hA 9 (by decide) (by decide)).symm) (by omega) (by simp only [pw_rm]; omega) (by simp only [pw_rm]; omega) dX5_init_78 (fun H hP hI hS hz9 => ?_)
  have hz : H.size = z + (0 + 1 + 1 + 1 + 1 + 1 + 1 + 1 + 1 + 1) := by rw [hz9, hz]
  refine pw_putF hx hb hts (fun _ h9 => List.mem_cons_of_mem _ (List.mem_append_right _ h9)) tyX5 tyX5_ok nmX5 hown hK hP hI hS 0 rfl rfl 12 (by decide) hF (hts (.fieldLink RX5 39 "PastDrawsModel" "nextBounds" "[I") (List.mem_of_getElem? (i := 15) rfl)) rfl hin2 rfl (ty := .array .int) (by decide +kernel) rfl rfl (Nat.le_of_ble_eq_true rfl) dX5_init_80 (fun H locs hP hS hz9 => ?_)
  have hz : H.size = z + (0 + 1 + 1 + 1 + 1 + 1 + 1 + 1 + 1 + 1) := hz9.trans hz
  obtain ⟨C80, hC80⟩ : ∃ z9, z9 = pw_setF C71 0 ([.int 0, .ref (Ad 1), .ref (Ad 2), .ref (Ad 3), .ref (Ad 4), .int (nI 1), .ref (Ad 5), .long 0, .int 0, .ref (Ad 6), .ref (Ad 7), .ref (Ad 8), .ref (Ad 9), .null, .null, .null, .null, .null, .null, .null] : List Value) := ⟨_, rfl⟩
  have hP := hP.eqC (C' := C80) (by rw [hC80]; rfl)
  have hF : C80.2.2 0 = ([.int 0, .ref (Ad 1), .ref (Ad 2), .ref (Ad 3), .ref (Ad 4), .int (nI 1), .ref (Ad 5), .long 0, .int 0, .ref (Ad 6), .ref (Ad 7), .ref (Ad 8), .ref (Ad 9), .null, .null, .null, .null, .null, .null, .null] : List Value) := by rw [hC80]; rfl
  have hZ : C80.1 = (zC []).1 ∧ C80.2.1 = (zC []).2.1 := by rw [hC80]; exact hZ
  refine lv_aload_n hx hb dX5_init_83 rfl (lv_at hl 0 rfl) ?_
  refine lv_sipush (v := nI 144) hx hb dX5_init_84 (by decide) ?_
  refine pw_nal hx hb (hts (.arrayClass .long) (List.mem_of_getElem? (i := 16) rfl)) hK hP hI0 hS 10 rfl (fun i => by rw [hZ.2]; rfl) (hz.trans (hA 10 (by decide) (by decide)).symm) (by omega) (by simp only [pw_rm]; omega) (by simp only [pw_rm]; omega) dX5_init_87 (fun H hP hI hS hz9 => ?_)
  have hz : H.size = z + (0 + 1 + 1 + 1 + 1 + 1 + 1 + 1 + 1 + 1 + 1) := by rw [hz9, hz]
  refine pw_putF hx hb hts (fun _ h9 => List.mem_cons_of_mem _ (List.mem_append_right _ h9)) tyX5 tyX5_ok nmX5 hown hK hP hI hS 0 rfl rfl 13 (by decide) hF (hts (.fieldLink RX5 42 "PastDrawsModel" "cells" "[J") (List.mem_of_getElem? (i := 17) rfl)) rfl hin2 rfl (ty := .array .long) (by decide +kernel) rfl rfl (Nat.le_of_ble_eq_true rfl) dX5_init_89 (fun H locs hP hS hz9 => ?_)
  have hz : H.size = z + (0 + 1 + 1 + 1 + 1 + 1 + 1 + 1 + 1 + 1 + 1) := hz9.trans hz
  obtain ⟨C89, hC89⟩ : ∃ z9, z9 = pw_setF C80 0 ([.int 0, .ref (Ad 1), .ref (Ad 2), .ref (Ad 3), .ref (Ad 4), .int (nI 1), .ref (Ad 5), .long 0, .int 0, .ref (Ad 6), .ref (Ad 7), .ref (Ad 8), .ref (Ad 9), .ref (Ad 10), .null, .null, .null, .null, .null, .null] : List Value) := ⟨_, rfl⟩
  have hP := hP.eqC (C' := C89) (by rw [hC89]; rfl)
  have hF : C89.2.2 0 = ([.int 0, .ref (Ad 1), .ref (Ad 2), .ref (Ad 3), .ref (Ad 4), .int (nI 1), .ref (Ad 5), .long 0, .int 0, .ref (Ad 6), .ref (Ad 7), .ref (Ad 8), .ref (Ad 9), .ref (Ad 10), .null, .null, .null, .null, .null, .null] : List Value) := by rw [hC89]; rfl
  have hZ : C89.1 = (zC []).1 ∧ C89.2.1 = (zC []).2.1 := by rw [hC89]; exact hZ
  refine lv_aload_n hx hb dX5_init_92 rfl (lv_at hl 0 rfl) ?_
  refine lv_sipush (v := nI 312) hx hb dX5_init_93 (by decide) ?_
  refine pw_nal hx hb (hts (.arrayClass .long) (List.mem_of_getElem? (i := 16) rfl)) hK hP hI0 hS 11 rfl (fun i => by rw [hZ.2]; rfl) (hz.trans (hA 11 (by decide) (by decide)).symm) (by omega) (by simp only [pw_rm]; omega) (by simp only [pw_rm]; omega) dX5_init_96 (fun H hP hI hS hz9 => ?_)
  have hz : H.size = z + (0 + 1 + 1 + 1 + 1 + 1 + 1 + 1 + 1 + 1 + 1 + 1) := by rw [hz9, hz]
  refine pw_putF hx hb hts (fun _ h9 => List.mem_cons_of_mem _ (List.mem_append_right _ h9)) tyX5 tyX5_ok nmX5 hown hK hP hI hS 0 rfl rfl 14 (by decide) hF (hts (.fieldLink RX5 46 "PastDrawsModel" "from" "[J") (List.mem_of_getElem? (i := 18) rfl)) rfl hin2 rfl (ty := .array .long) (by decide +kernel) rfl rfl (Nat.le_of_ble_eq_true rfl) dX5_init_98 (fun H locs hP hS hz9 => ?_)
  have hz : H.size = z + (0 + 1 + 1 + 1 + 1 + 1 + 1 + 1 + 1 + 1 + 1 + 1) := hz9.trans hz
  obtain ⟨C98, hC98⟩ : ∃ z9, z9 = pw_setF C89 0 ([.int 0, .ref (Ad 1), .ref (Ad 2), .ref (Ad 3), .ref (Ad 4), .int (nI 1), .ref (Ad 5), .long 0, .int 0, .ref (Ad 6), .ref (Ad 7), .ref (Ad 8), .ref (Ad 9), .ref (Ad 10), .ref (Ad 11), .null, .null, .null, .null, .null] : List Value) := ⟨_, rfl⟩
  have hP := hP.eqC (C' := C98) (by rw [hC98]; rfl)
  have hF : C98.2.2 0 = ([.int 0, .ref (Ad 1), .ref (Ad 2), .ref (Ad 3), .ref (Ad 4), .int (nI 1), .ref (Ad 5), .long 0, .int 0, .ref (Ad 6), .ref (Ad 7), .ref (Ad 8), .ref (Ad 9), .ref (Ad 10), .ref (Ad 11), .null, .null, .null, .null, .null] : List Value) := by rw [hC98]; rfl
  have hZ : C98.1 = (zC []).1 ∧ C98.2.1 = (zC []).2.1 := by rw [hC98]; exact hZ
  refine lv_aload_n hx hb dX5_init_101 rfl (lv_at hl 0 rfl) ?_
  refine lv_sipush (v := nI 256) hx hb dX5_init_102 (by decide) ?_
  refine pw_nai hx hb (hts (.arrayClass .int) (List.mem_of_getElem? (i := 4) rfl)) hK hP hI0 hS 12 rfl (fun i => by rw [hZ.1]; rfl) (hz.trans (hA 12 (by decide) (by decide)).symm) (by omega) (by simp only [pw_rm]; omega) (by simp only [pw_rm]; omega) dX5_init_105 (fun H hP hI hS hz9 => ?_)
  have hz : H.size = z + (0 + 1 + 1 + 1 + 1 + 1 + 1 + 1 + 1 + 1 + 1 + 1 + 1) := by rw [hz9, hz]
  refine pw_putF hx hb hts (fun _ h9 => List.mem_cons_of_mem _ (List.mem_append_right _ h9)) tyX5 tyX5_ok nmX5 hown hK hP hI hS 0 rfl rfl 15 (by decide) hF (hts (.fieldLink RX5 49 "PastDrawsModel" "ways" "[I") (List.mem_of_getElem? (i := 19) rfl)) rfl hin2 rfl (ty := .array .int) (by decide +kernel) rfl rfl (Nat.le_of_ble_eq_true rfl) dX5_init_107 (fun H locs hP hS hz9 => ?_)
  have hz : H.size = z + (0 + 1 + 1 + 1 + 1 + 1 + 1 + 1 + 1 + 1 + 1 + 1 + 1) := hz9.trans hz
  obtain ⟨C107, hC107⟩ : ∃ z9, z9 = pw_setF C98 0 ([.int 0, .ref (Ad 1), .ref (Ad 2), .ref (Ad 3), .ref (Ad 4), .int (nI 1), .ref (Ad 5), .long 0, .int 0, .ref (Ad 6), .ref (Ad 7), .ref (Ad 8), .ref (Ad 9), .ref (Ad 10), .ref (Ad 11), .ref (Ad 12), .null, .null, .null, .null] : List Value) := ⟨_, rfl⟩
  have hP := hP.eqC (C' := C107) (by rw [hC107]; rfl)
  have hF : C107.2.2 0 = ([.int 0, .ref (Ad 1), .ref (Ad 2), .ref (Ad 3), .ref (Ad 4), .int (nI 1), .ref (Ad 5), .long 0, .int 0, .ref (Ad 6), .ref (Ad 7), .ref (Ad 8), .ref (Ad 9), .ref (Ad 10), .ref (Ad 11), .ref (Ad 12), .null, .null, .null, .null] : List Value) := by rw [hC107]; rfl
  have hZ : C107.1 = (zC []).1 ∧ C107.2.1 = (zC []).2.1 := by rw [hC107]; exact hZ
  refine lv_aload_n hx hb dX5_init_110 rfl (lv_at hl 0 rfl) ?_
  refine lv_bipush (v := nI 16) hx hb dX5_init_111 (by decide) ?_
  refine pw_nai hx hb (hts (.arrayClass .int) (List.mem_of_getElem? (i := 4) rfl)) hK hP hI0 hS 13 rfl (fun i => by rw [hZ.1]; rfl) (hz.trans (hA 13 (by decide) (by decide)).symm) (by omega) (by simp only [pw_rm]; omega) (by simp only [pw_rm]; omega) dX5_init_113 (fun H hP hI hS hz9 => ?_)
  have hz : H.size = z + (0 + 1 + 1 + 1 + 1 + 1 + 1 + 1 + 1 + 1 + 1 + 1 + 1 + 1) := by rw [hz9, hz]
  refine pw_putF hx hb hts (fun _ h9 => List.mem_cons_of_mem _ (List.mem_append_right _ h9)) tyX5 tyX5_ok nmX5 hown hK hP hI hS 0 rfl rfl 16 (by decide) hF (hts (.fieldLink RX5 52 "PastDrawsModel" "limit" "[I") (List.mem_of_getElem? (i := 20) rfl)) rfl hin2 rfl (ty := .array .int) (by decide +kernel) rfl rfl (Nat.le_of_ble_eq_true rfl) dX5_init_115 (fun H locs hP hS hz9 => ?_)
  have hz : H.size = z + (0 + 1 + 1 + 1 + 1 + 1 + 1 + 1 + 1 + 1 + 1 + 1 + 1 + 1) := hz9.trans hz
  obtain ⟨C115, hC115⟩ : ∃ z9, z9 = pw_setF C107 0 ([.int 0, .ref (Ad 1), .ref (Ad 2), .ref (Ad 3), .ref (Ad 4), .int (nI 1), .ref (Ad 5), .long 0, .int 0, .ref (Ad 6), .ref (Ad 7), .ref (Ad 8), .ref (Ad 9), .ref (Ad 10), .ref (Ad 11), .ref (Ad 12), .ref (Ad 13), .null, .null, .null] : List Value) := ⟨_, rfl⟩
  have hP := hP.eqC (C' := C115) (by rw [hC115]; rfl)
  have hF : C115.2.2 0 = ([.int 0, .ref (Ad 1), .ref (Ad 2), .ref (Ad 3), .ref (Ad 4), .int (nI 1), .ref (Ad 5), .long 0, .int 0, .ref (Ad 6), .ref (Ad 7), .ref (Ad 8), .ref (Ad 9), .ref (Ad 10), .ref (Ad 11), .ref (Ad 12), .ref (Ad 13), .null, .null, .null] : List Value) := by rw [hC115]; rfl
  have hZ : C115.1 = (zC []).1 ∧ C115.2.1 = (zC []).2.1 := by rw [hC115]; exact hZ
  refine lv_aload_n hx hb dX5_init_118 rfl (lv_at hl 0 rfl) ?_
  refine lv_bipush (v := nI 16) hx hb dX5_init_119 (by decide) ?_
  refine pw_nai hx hb (hts (.arrayClass .int) (List.mem_of_getElem? (i := 4) rfl)) hK hP hI0 hS 14 rfl (fun i => by rw [hZ.1]; rfl) (hz.trans (hA 14 (by decide) (by decide)).symm) (by omega) (by simp only [pw_rm]; omega) (by simp only [pw_rm]; omega) dX5_init_121 (fun H hP hI hS hz9 => ?_)
  have hz : H.size = z + (0 + 1 + 1 + 1 + 1 + 1 + 1 + 1 + 1 + 1 + 1 + 1 + 1 + 1 + 1) := by rw [hz9, hz]
  refine pw_putF hx hb hts (fun _ h9 => List.mem_cons_of_mem _ (List.mem_append_right _ h9)) tyX5 tyX5_ok nmX5 hown hK hP hI hS 0 rfl rfl 17 (by decide) hF (hts (.fieldLink RX5 55 "PastDrawsModel" "other" "[I") (List.mem_of_getElem? (i := 21) rfl)) rfl hin2 rfl (ty := .array .int) (by decide +kernel) rfl rfl (Nat.le_of_ble_eq_true rfl) dX5_init_123 (fun H locs hP hS hz9 => ?_)
  have hz : H.size = z + (0 + 1 + 1 + 1 + 1 + 1 + 1 + 1 + 1 + 1 + 1 + 1 + 1 + 1 + 1) := hz9.trans hz
  obtain ⟨C123, hC123⟩ : ∃ z9, z9 = pw_setF C115 0 ([.int 0, .ref (Ad 1), .ref (Ad 2), .ref (Ad 3), .ref (Ad 4), .int (nI 1), .ref (Ad 5), .long 0, .int 0, .ref (Ad 6), .ref (Ad 7), .ref (Ad 8), .ref (Ad 9), .ref (Ad 10), .ref (Ad 11), .ref (Ad 12), .ref (Ad 13), .ref (Ad 14), .null, .null] : List Value) := ⟨_, rfl⟩
  have hP := hP.eqC (C' := C123) (by rw [hC123]; rfl)
  have hF : C123.2.2 0 = ([.int 0, .ref (Ad 1), .ref (Ad 2), .ref (Ad 3), .ref (Ad 4), .int (nI 1), .ref (Ad 5), .long 0, .int 0, .ref (Ad 6), .ref (Ad 7), .ref (Ad 8), .ref (Ad 9), .ref (Ad 10), .ref (Ad 11), .ref (Ad 12), .ref (Ad 13), .ref (Ad 14), .null, .null] : List Value) := by rw [hC123]; rfl
  have hZ : C123.1 = (zC []).1 ∧ C123.2.1 = (zC []).2.1 := by rw [hC123]; exact hZ
  refine lv_aload_n hx hb dX5_init_126 rfl (lv_at hl 0 rfl) ?_
  refine lv_bipush (v := nI 16) hx hb dX5_init_127 (by decide) ?_
  refine pw_nai hx hb (hts (.arrayClass .int) (List.mem_of_getElem? (i := 4) rfl)) hK hP hI0 hS 15 rfl (fun i => by rw [hZ.1]; rfl) (hz.trans (hA 15 (by decide) (by decide)).symm) (by omega) (by simp only [pw_rm]; omega) (by simp only [pw_rm]; omega) dX5_init_129 (fun H hP hI hS hz9 => ?_)
  have hz : H.size = z + (0 + 1 + 1 + 1 + 1 + 1 + 1 + 1 + 1 + 1 + 1 + 1 + 1 + 1 + 1 + 1) := by rw [hz9, hz]
  refine pw_putF hx hb hts (fun _ h9 => List.mem_cons_of_mem _ (List.mem_append_right _ h9)) tyX5 tyX5_ok nmX5 hown hK hP hI hS 0 rfl rfl 18 (by decide) hF (hts (.fieldLink RX5 58 "PastDrawsModel" "rest" "[I") (List.mem_of_getElem? (i := 22) rfl)) rfl hin2 rfl (ty := .array .int) (by decide +kernel) rfl rfl (Nat.le_of_ble_eq_true rfl) dX5_init_131 (fun H locs hP hS hz9 => ?_)
  have hz : H.size = z + (0 + 1 + 1 + 1 + 1 + 1 + 1 + 1 + 1 + 1 + 1 + 1 + 1 + 1 + 1 + 1) := hz9.trans hz
  obtain ⟨C131, hC131⟩ : ∃ z9, z9 = pw_setF C123 0 ([.int 0, .ref (Ad 1), .ref (Ad 2), .ref (Ad 3), .ref (Ad 4), .int (nI 1), .ref (Ad 5), .long 0, .int 0, .ref (Ad 6), .ref (Ad 7), .ref (Ad 8), .ref (Ad 9), .ref (Ad 10), .ref (Ad 11), .ref (Ad 12), .ref (Ad 13), .ref (Ad 14), .ref (Ad 15), .null] : List Value) := ⟨_, rfl⟩
  have hP := hP.eqC (C' := C131) (by rw [hC131]; rfl)
  have hF : C131.2.2 0 = ([.int 0, .ref (Ad 1), .ref (Ad 2), .ref (Ad 3), .ref (Ad 4), .int (nI 1), .ref (Ad 5), .long 0, .int 0, .ref (Ad 6), .ref (Ad 7), .ref (Ad 8), .ref (Ad 9), .ref (Ad 10), .ref (Ad 11), .ref (Ad 12), .ref (Ad 13), .ref (Ad 14), .ref (Ad 15), .null] : List Value) := by rw [hC131]; rfl
  have hZ : C131.1 = (zC []).1 ∧ C131.2.1 = (zC []).2.1 := by rw [hC131]; exact hZ
  refine lv_aload_n hx hb dX5_init_134 rfl (lv_at hl 0 rfl) ?_
  refine lv_bipush (v := nI 16) hx hb dX5_init_135 (by decide) ?_
  refine pw_naz hx hb (hts (.arrayClass .boolean) (List.mem_of_getElem? (i := 7) rfl)) hK hP hI0 hS 16 rfl (fun i => by rw [hZ.1]; rfl) (hz.trans (hA 16 (by decide) (by decide)).symm) (by omega) (by simp only [pw_rm]; omega) (by simp only [pw_rm]; omega) dX5_init_137 (fun H hP hI hS hz9 => ?_)
  have hz : H.size = z + (0 + 1 + 1 + 1 + 1 + 1 + 1 + 1 + 1 + 1 + 1 + 1 + 1 + 1 + 1 + 1 + 1) := by rw [hz9, hz]
  refine pw_putF hx hb hts (fun _ h9 => List.mem_cons_of_mem _ (List.mem_append_right _ h9)) tyX5 tyX5_ok nmX5 hown hK hP hI hS 0 rfl rfl 19 (by decide) hF (hts (.fieldLink RX5 61 "PastDrawsModel" "isMade" "[Z") (List.mem_of_getElem? (i := 23) rfl)) rfl hin2 rfl (ty := .array .boolean) (by decide +kernel) rfl rfl (Nat.le_of_ble_eq_true rfl) dX5_init_139 (fun H locs hP hS hz9 => ?_)
  have hz : H.size = z + (0 + 1 + 1 + 1 + 1 + 1 + 1 + 1 + 1 + 1 + 1 + 1 + 1 + 1 + 1 + 1 + 1) := hz9.trans hz
  obtain ⟨C139, hC139⟩ : ∃ z9, z9 = pw_setF C131 0 ([.int 0, .ref (Ad 1), .ref (Ad 2), .ref (Ad 3), .ref (Ad 4), .int (nI 1), .ref (Ad 5), .long 0, .int 0, .ref (Ad 6), .ref (Ad 7), .ref (Ad 8), .ref (Ad 9), .ref (Ad 10), .ref (Ad 11), .ref (Ad 12), .ref (Ad 13), .ref (Ad 14), .ref (Ad 15), .ref (Ad 16)] : List Value) := ⟨_, rfl⟩
  have hP := hP.eqC (C' := C139) (by rw [hC139]; rfl)
  have hF : C139.2.2 0 = ([.int 0, .ref (Ad 1), .ref (Ad 2), .ref (Ad 3), .ref (Ad 4), .int (nI 1), .ref (Ad 5), .long 0, .int 0, .ref (Ad 6), .ref (Ad 7), .ref (Ad 8), .ref (Ad 9), .ref (Ad 10), .ref (Ad 11), .ref (Ad 12), .ref (Ad 13), .ref (Ad 14), .ref (Ad 15), .ref (Ad 16)] : List Value) := by rw [hC139]; rfl
  have hZ : C139.1 = (zC []).1 ∧ C139.2.1 = (zC []).2.1 := by rw [hC139]; exact hZ
  refine lv_aload_n hx hb dX5_init_142 rfl (lv_at hl 0 rfl) ?_
  refine lv_iload_n hx hb dX5_init_143 rfl (lv_at hl 1 rfl) ?_
  refine lv_iconst (v := nI 1) hx hb dX5_init_144 (by decide) ?_
  refine lv_icmp_ge (tgt := 152) hx hb dX5_init_145 (by decide) (fun c_145 => ?_) (fun c_145 => ?_)
  · refine lv_iload_n hx hb dX5_init_152 rfl (lv_at hl 1 rfl) ?_
    refine lv_bipush (v := nI 12) hx hb dX5_init_153 (by decide) ?_
    refine lv_icmp_le (tgt := 163) hx hb dX5_init_155 (by decide) (fun c_155 => ?_) (fun c_155 => ?_)
    · refine lv_iload_n hx hb dX5_init_163 rfl (lv_at hl 1 rfl) ?_
      refine pw_topi (y := nI (nOf a)) (nOf_a c_145 c_155) ?_
      refine pw_putF hx hb hts (fun _ h9 => List.mem_cons_of_mem _ (List.mem_append_right _ h9)) tyX5 tyX5_ok nmX5 hown hK hP hI hS 0 rfl rfl 0 (by decide) hF (hts (.fieldLink RX5 64 "PastDrawsModel" "n" "I") (List.mem_of_getElem? (i := 24) rfl)) rfl hin2 rfl (ty := .int) (by decide +kernel) rfl rfl (Nat.le_of_ble_eq_true rfl) dX5_init_164 (fun H locs hP hS hz9 => ?_)
      have hz : H.size = z + (0 + 1 + 1 + 1 + 1 + 1 + 1 + 1 + 1 + 1 + 1 + 1 + 1 + 1 + 1 + 1 + 1) := hz9.trans hz
      obtain ⟨C164, hC164⟩ : ∃ z9, z9 = pw_setF C139 0 ([.int (nI (nOf a)), .ref (Ad 1), .ref (Ad 2), .ref (Ad 3), .ref (Ad 4), .int (nI 1), .ref (Ad 5), .long 0, .int 0, .ref (Ad 6), .ref (Ad 7), .ref (Ad 8), .ref (Ad 9), .ref (Ad 10), .ref (Ad 11), .ref (Ad 12), .ref (Ad 13), .ref (Ad 14), .ref (Ad 15), .ref (Ad 16)] : List Value) := ⟨_, rfl⟩
      have hP := hP.eqC (C' := C164) (by rw [hC164]; rfl)
      have hF : C164.2.2 0 = ([.int (nI (nOf a)), .ref (Ad 1), .ref (Ad 2), .ref (Ad 3), .ref (Ad 4), .int (nI 1), .ref (Ad 5), .long 0, .int 0, .ref (Ad 6), .ref (Ad 7), .ref (Ad 8), .ref (Ad 9), .ref (Ad 10), .ref (Ad 11), .ref (Ad 12), .ref (Ad 13), .ref (Ad 14), .ref (Ad 15), .ref (Ad 16)] : List Value) := by rw [hC164]; rfl
      have hZ : C164.1 = (zC []).1 ∧ C164.2.1 = (zC []).2.1 := by rw [hC164]; exact hZ
      refine lv_iconst (v := nI 0) hx hb dX5_init_167 (by decide) ?_
      refine lv_istore_n (lv' := [(2, .int (nI 0)), (0, .ref (Ad 0)), (1, .int a)]) hx hb dX5_init_168 rfl hl (by decide) rfl (fun ls hl => ?_)
      have hF : fM (nOf a) 1 0 0 Ad C164 := hF
      have hP : pw_P D cy Ad (shR fM5 shM) C164 H := hP
      have hI : pw_I Ad (shR fM5 shM) := hI
      have hS : va_S (pw_fr Ad (shR fM5 shM)) s.heap H locs := hS
      refine L5_ini_k S hK hI hF (nOf_b a) (fun C9 H locs ls hP hS hR hl => ?_) 13 C164 H locs 0 ls (by have := nOf_b a; omega) hP hS pw_B.rf (by omega) rfl (fun y hy => by omega) (fun y hy => by omega) (lv_sub hl [0, 1] rfl)
      obtain ⟨hB, h3, h1, h2⟩ := hR
      refine lv_iconst (v := nI 0) hx hb dX5_init_234 (by decide) ?_
      refine lv_istore_n (lv' := [(2, .int (nI 0)), (0, .ref (Ad 0))]) hx hb dX5_init_235 rfl hl (by decide) rfl (fun ls hl => ?_)
      refine L5_ini_a S hK hI hF (nOf_b a) (fun C8 H locs ls hP hS hR hl => ?_) 65 C9 H locs 0 ls (by omega) hP hS hB (by omega) h3 h2 h1 (fun y hy => by omega) (lv_sub hl [0, 1] rfl)
      obtain ⟨hB, h3, h1, h2, h4⟩ := hR
      have hF0 := hF
      have hF := fM_B hF0 hB
      refine lv_aload_n hx hb dX5_init_255 rfl (lv_at hl 0 rfl) ?_
      refine pw_get hx hb hts (fun _ h9 => List.mem_cons_of_mem _ (List.mem_append_right _ h9)) hown hK hP 0 rfl rfl 6 (by decide) hF rfl (hts (.fieldLink RX5 27 "PastDrawsModel" "weights" "[I") (List.mem_of_getElem? (i := 11) rfl)) dX5_init_256 ?_
      refine lv_iconst (v := nI 0) hx hb dX5_init_259 (by decide) ?_
      refine lv_iconst (v := nI 1) hx hb dX5_init_260 (by decide) ?_
      refine pw_iast hx hb hK hP hI hS 5 rfl (by decide) (by decide) dX5_init_261 (fun H locs hP hS => ?_)
      obtain ⟨C261, hC261⟩ : ∃ z9, z9 = pw_setI C8 5 0 (nI 1) := ⟨_, rfl⟩
      rw [← hC261] at hP
      have e9 : ∀ k9, ¬ k9 = 5 → C261.1 k9 = C8.1 k9 := fun k9 h9 => by rw [hC261]; exact si_ne h9
      have hM9 : MI (nOf a) 1 (fun _ x => x) (fun _ _ => none) (fun _ => false) (fun _ => 255) (fun _ => 1) Ad C261 := by
        have hnb := nOf_b a
        refine ⟨⟨0, 0, by rw [hC261]; exact hF⟩, fun u hu x hx => ⟨hx, ?_⟩, fun x hx c9 hc9 => ⟨fun y hy => (by cases hy), ?_⟩, fun x hx => ?_, fun q hq => ⟨(by decide : 255 < 256), fun v hv => ?_⟩, fun i hi => ⟨(by decide : 1 ≤ 1000), ?_⟩⟩
        · rw [e9 1 (by decide)]; exact h1 x hx u hu
        · rw [e9 2 (by decide)]; exact h2 x hx c9 hc9
        · rw [e9 3 (by decide), h3, hZ.1]; rfl
        · rw [e9 4 (by decide), h4 _ (by omega)]
          have : ∀ v, v < 8 → (255 : Nat).testBit v = true := by decide
          rw [this v hv]
        · obtain rfl : i = 0 := by omega
          rw [hC261, si_at, if_pos rfl]
      have hA16 : Ad 16 = z + 15 := hA 16 (by decide) (by decide)
      refine pw_sz (fun hsz => ?_)
      have hlt := (hP 16 _ (show pw_E cy Ad _ _ 16 = some _ from rfl)).lt
      have hzz : H.size = z + 16 := by have h9 : Ad 16 < H.size := hlt; omega
      refine W.widen (k := 16) (n := 1324) (by omega) (by omega) ?_
      exact W.vret hx hb hr (fun t ht _ => ⟨⟨C261, rfl, hM9, by rw [ht]; exact hP, by rw [ht]; exact hzz⟩, hS.F ht⟩) hS.2.2 dX5_init_262
    · refine lv_bipush (v := nI 12) hx hb dX5_init_158 (by decide) ?_
      refine pw_topi (y := nI (nOf a)) (nOf_12 c_155) ?_
      refine lv_goto (tgt := 164) hx hb dX5_init_160 (by decide) ?_
      refine pw_putF hx hb hts (fun _ h9 => List.mem_cons_of_mem _ (List.mem_append_right _ h9)) tyX5 tyX5_ok nmX5 hown hK hP hI hS 0 rfl rfl 0 (by decide) hF (hts (.fieldLink RX5 64 "PastDrawsModel" "n" "I") (List.mem_of_getElem? (i := 24) rfl)) rfl hin2 rfl (ty := .int) (by decide +kernel) rfl rfl (Nat.le_of_ble_eq_true rfl) dX5_init_164 (fun H locs hP hS hz9 => ?_)
      have hz : H.size = z + (0 + 1 + 1 + 1 + 1 + 1 + 1 + 1 + 1 + 1 + 1 + 1 + 1 + 1 + 1 + 1 + 1) := hz9.trans hz
      obtain ⟨C164, hC164⟩ : ∃ z9, z9 = pw_setF C139 0 ([.int (nI (nOf a)), .ref (Ad 1), .ref (Ad 2), .ref (Ad 3), .ref (Ad 4), .int (nI 1), .ref (Ad 5), .long 0, .int 0, .ref (Ad 6), .ref (Ad 7), .ref (Ad 8), .ref (Ad 9), .ref (Ad 10), .ref (Ad 11), .ref (Ad 12), .ref (Ad 13), .ref (Ad 14), .ref (Ad 15), .ref (Ad 16)] : List Value) := ⟨_, rfl⟩
      have hP := hP.eqC (C' := C164) (by rw [hC164]; rfl)
      have hF : C164.2.2 0 = ([.int (nI (nOf a)), .ref (Ad 1), .ref (Ad 2), .ref (Ad 3), .ref (Ad 4), .int (nI 1), .ref (Ad 5), .long 0, .int 0, .ref (Ad 6), .ref (Ad 7), .ref (Ad 8), .ref (Ad 9), .ref (Ad 10), .ref (Ad 11), .ref (Ad 12), .ref (Ad 13), .ref (Ad 14), .ref (Ad 15), .ref (Ad 16)] : List Value) := by rw [hC164]; rfl
      have hZ : C164.1 = (zC []).1 ∧ C164.2.1 = (zC []).2.1 := by rw [hC164]; exact hZ
      refine lv_iconst (v := nI 0) hx hb dX5_init_167 (by decide) ?_
      refine lv_istore_n (lv' := [(2, .int (nI 0)), (0, .ref (Ad 0)), (1, .int a)]) hx hb dX5_init_168 rfl hl (by decide) rfl (fun ls hl => ?_)
      have hF : fM (nOf a) 1 0 0 Ad C164 := hF
      have hP : pw_P D cy Ad (shR fM5 shM) C164 H := hP
      have hI : pw_I Ad (shR fM5 shM) := hI
      have hS : va_S (pw_fr Ad (shR fM5 shM)) s.heap H locs := hS
      refine L5_ini_k S hK hI hF (nOf_b a) (fun C9 H locs ls hP hS hR hl => ?_) 13 C164 H locs 0 ls (by have := nOf_b a; omega) hP hS pw_B.rf (by omega) rfl (fun y hy => by omega) (fun y hy => by omega) (lv_sub hl [0, 1] rfl)
      obtain ⟨hB, h3, h1, h2⟩ := hR
      refine lv_iconst (v := nI 0) hx hb dX5_init_234 (by decide) ?_
      refine lv_istore_n (lv' := [(2, .int (nI 0)), (0, .ref (Ad 0))]) hx hb dX5_init_235 rfl hl (by decide) rfl (fun ls hl => ?_)
      refine L5_ini_a S hK hI hF (nOf_b a) (fun C8 H locs ls hP hS hR hl => ?_) 65 C9 H locs 0 ls (by omega) hP hS hB (by omega) h3 h2 h1 (fun y hy => by omega) (lv_sub hl [0, 1] rfl)
      obtain ⟨hB, h3, h1, h2, h4⟩ := hR
      have hF0 := hF
      have hF := fM_B hF0 hB
      refine lv_aload_n hx hb dX5_init_255 rfl (lv_at hl 0 rfl) ?_
      refine pw_get hx hb hts (fun _ h9 => List.mem_cons_of_mem _ (List.mem_append_right _ h9)) hown hK hP 0 rfl rfl 6 (by decide) hF rfl (hts (.fieldLink RX5 27 "PastDrawsModel" "weights" "[I") (List.mem_of_getElem? (i := 11) rfl)) dX5_init_256 ?_
      refine lv_iconst (v := nI 0) hx hb dX5_init_259 (by decide) ?_
      refine lv_iconst (v := nI 1) hx hb dX5_init_260 (by decide) ?_
      refine pw_iast hx hb hK hP hI hS 5 rfl (by decide) (by decide) dX5_init_261 (fun H locs hP hS => ?_)
      obtain ⟨C261, hC261⟩ : ∃ z9, z9 = pw_setI C8 5 0 (nI 1) := ⟨_, rfl⟩
      rw [← hC261] at hP
      have e9 : ∀ k9, ¬ k9 = 5 → C261.1 k9 = C8.1 k9 := fun k9 h9 => by rw [hC261]; exact si_ne h9
      have hM9 : MI (nOf a) 1 (fun _ x => x) (fun _ _ => none) (fun _ => false) (fun _ => 255) (fun _ => 1) Ad C261 := by
        have hnb := nOf_b a
        refine ⟨⟨0, 0, by rw [hC261]; exact hF⟩, fun u hu x hx => ⟨hx, ?_⟩, fun x hx c9 hc9 => ⟨fun y hy => (by cases hy), ?_⟩, fun x hx => ?_, fun q hq => ⟨(by decide : 255 < 256), fun v hv => ?_⟩, fun i hi => ⟨(by decide : 1 ≤ 1000), ?_⟩⟩
        · rw [e9 1 (by decide)]; exact h1 x hx u hu
        · rw [e9 2 (by decide)]; exact h2 x hx c9 hc9
        · rw [e9 3 (by decide), h3, hZ.1]; rfl
        · rw [e9 4 (by decide), h4 _ (by omega)]
          have : ∀ v, v < 8 → (255 : Nat).testBit v = true := by decide
          rw [this v hv]
        · obtain rfl : i = 0 := by omega
          rw [hC261, si_at, if_pos rfl]
      have hA16 : Ad 16 = z + 15 := hA 16 (by decide) (by decide)
      refine pw_sz (fun hsz => ?_)
      have hlt := (hP 16 _ (show pw_E cy Ad _ _ 16 = some _ from rfl)).lt
      have hzz : H.size = z + 16 := by have h9 : Ad 16 < H.size := hlt; omega
      refine W.widen (k := 16) (n := 1324) (by omega) (by omega) ?_
      exact W.vret hx hb hr (fun t ht _ => ⟨⟨C261, rfl, hM9, by rw [ht]; exact hP, by rw [ht]; exact hzz⟩, hS.F ht⟩) hS.2.2 dX5_init_262
  · refine lv_iconst (v := nI 1) hx hb dX5_init_148 (by decide) ?_
    refine pw_topi (y := nI (nOf a)) (nOf_1 c_145) ?_
    refine lv_goto (tgt := 164) hx hb dX5_init_149 (by decide) ?_
    refine pw_putF hx hb hts (fun _ h9 => List.mem_cons_of_mem _ (List.mem_append_right _ h9)) tyX5 tyX5_ok nmX5 hown hK hP hI hS 0 rfl rfl 0 (by decide) hF (hts (.fieldLink RX5 64 "PastDrawsModel" "n" "I") (List.mem_of_getElem? (i := 24) rfl)) rfl hin2 rfl (ty := .int) (by decide +kernel) rfl rfl (Nat.le_of_ble_eq_true rfl) dX5_init_164 (fun H locs hP hS hz9 => ?_)
    have hz : H.size = z + (0 + 1 + 1 + 1 + 1 + 1 + 1 + 1 + 1 + 1 + 1 + 1 + 1 + 1 + 1 + 1 + 1) := hz9.trans hz
    obtain ⟨C164, hC164⟩ : ∃ z9, z9 = pw_setF C139 0 ([.int (nI (nOf a)), .ref (Ad 1), .ref (Ad 2), .ref (Ad 3), .ref (Ad 4), .int (nI 1), .ref (Ad 5), .long 0, .int 0, .ref (Ad 6), .ref (Ad 7), .ref (Ad 8), .ref (Ad 9), .ref (Ad 10), .ref (Ad 11), .ref (Ad 12), .ref (Ad 13), .ref (Ad 14), .ref (Ad 15), .ref (Ad 16)] : List Value) := ⟨_, rfl⟩
    have hP := hP.eqC (C' := C164) (by rw [hC164]; rfl)
    have hF : C164.2.2 0 = ([.int (nI (nOf a)), .ref (Ad 1), .ref (Ad 2), .ref (Ad 3), .ref (Ad 4), .int (nI 1), .ref (Ad 5), .long 0, .int 0, .ref (Ad 6), .ref (Ad 7), .ref (Ad 8), .ref (Ad 9), .ref (Ad 10), .ref (Ad 11), .ref (Ad 12), .ref (Ad 13), .ref (Ad 14), .ref (Ad 15), .ref (Ad 16)] : List Value) := by rw [hC164]; rfl
    have hZ : C164.1 = (zC []).1 ∧ C164.2.1 = (zC []).2.1 := by rw [hC164]; exact hZ
    refine lv_iconst (v := nI 0) hx hb dX5_init_167 (by decide) ?_
    refine lv_istore_n (lv' := [(2, .int (nI 0)), (0, .ref (Ad 0)), (1, .int a)]) hx hb dX5_init_168 rfl hl (by decide) rfl (fun ls hl => ?_)
    have hF : fM (nOf a) 1 0 0 Ad C164 := hF
    have hP : pw_P D cy Ad (shR fM5 shM) C164 H := hP
    have hI : pw_I Ad (shR fM5 shM) := hI
    have hS : va_S (pw_fr Ad (shR fM5 shM)) s.heap H locs := hS
    refine L5_ini_k S hK hI hF (nOf_b a) (fun C9 H locs ls hP hS hR hl => ?_) 13 C164 H locs 0 ls (by have := nOf_b a; omega) hP hS pw_B.rf (by omega) rfl (fun y hy => by omega) (fun y hy => by omega) (lv_sub hl [0, 1] rfl)
    obtain ⟨hB, h3, h1, h2⟩ := hR
    refine lv_iconst (v := nI 0) hx hb dX5_init_234 (by decide) ?_
    refine lv_istore_n (lv' := [(2, .int (nI 0)), (0, .ref (Ad 0))]) hx hb dX5_init_235 rfl hl (by decide) rfl (fun ls hl => ?_)
    refine L5_ini_a S hK hI hF (nOf_b a) (fun C8 H locs ls hP hS hR hl => ?_) 65 C9 H locs 0 ls (by omega) hP hS hB (by omega) h3 h2 h1 (fun y hy => by omega) (lv_sub hl [0, 1] rfl)
    obtain ⟨hB, h3, h1, h2, h4⟩ := hR
    have hF0 := hF
    have hF := fM_B hF0 hB
    refine lv_aload_n hx hb dX5_init_255 rfl (lv_at hl 0 rfl) ?_
    refine pw_get hx hb hts (fun _ h9 => List.mem_cons_of_mem _ (List.mem_append_right _ h9)) hown hK hP 0 rfl rfl 6 (by decide) hF rfl (hts (.fieldLink RX5 27 "PastDrawsModel" "weights" "[I") (List.mem_of_getElem? (i := 11) rfl)) dX5_init_256 ?_
    refine lv_iconst (v := nI 0) hx hb dX5_init_259 (by decide) ?_
    refine lv_iconst (v := nI 1) hx hb dX5_init_260 (by decide) ?_
    refine pw_iast hx hb hK hP hI hS 5 rfl (by decide) (by decide) dX5_init_261 (fun H locs hP hS => ?_)
    obtain ⟨C261, hC261⟩ : ∃ z9, z9 = pw_setI C8 5 0 (nI 1) := ⟨_, rfl⟩
    rw [← hC261] at hP
    have e9 : ∀ k9, ¬ k9 = 5 → C261.1 k9 = C8.1 k9 := fun k9 h9 => by rw [hC261]; exact si_ne h9
    have hM9 : MI (nOf a) 1 (fun _ x => x) (fun _ _ => none) (fun _ => false) (fun _ => 255) (fun _ => 1) Ad C261 := by
      have hnb := nOf_b a
      refine ⟨⟨0, 0, by rw [hC261]; exact hF⟩, fun u hu x hx => ⟨hx, ?_⟩, fun x hx c9 hc9 => ⟨fun y hy => (by cases hy), ?_⟩, fun x hx => ?_, fun q hq => ⟨(by decide : 255 < 256), fun v hv => ?_⟩, fun i hi => ⟨(by decide : 1 ≤ 1000), ?_⟩⟩
      · rw [e9 1 (by decide)]; exact h1 x hx u hu
      · rw [e9 2 (by decide)]; exact h2 x hx c9 hc9
      · rw [e9 3 (by decide), h3, hZ.1]; rfl
      · rw [e9 4 (by decide), h4 _ (by omega)]
        have : ∀ v, v < 8 → (255 : Nat).testBit v = true := by decide
        rw [this v hv]
      · obtain rfl : i = 0 := by omega
        rw [hC261, si_at, if_pos rfl]
    have hA16 : Ad 16 = z + 15 := hA 16 (by decide) (by decide)
    refine pw_sz (fun hsz => ?_)
    have hlt := (hP 16 _ (show pw_E cy Ad _ _ 16 = some _ from rfl)).lt
    have hzz : H.size = z + 16 := by have h9 : Ad 16 < H.size := hlt; omega
    refine W.widen (k := 16) (n := 1324) (by omega) (by omega) ?_
    exact W.vret hx hb hr (fun t ht _ => ⟨⟨C261, rfl, hM9, by rw [ht]; exact hP, by rw [ht]; exact hzz⟩, hS.F ht⟩) hS.2.2 dX5_init_262
