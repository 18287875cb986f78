def fMa (n j : Nat) : Bool := ((j == 2 || (j == 11 || (Nat.ble 41 j && Nat.blt j (41 + n)))) || j == 12) || (j == 13 || (Nat.ble 53 j && Nat.blt j (53 + 26)))
def fCh (n j : Nat) : Bool := (((((j == 1 || (j == 5 || (Nat.ble 21 j && Nat.blt j (21 + 8)))) || j == 6) || j == 7) || j == 8) || j == 9) || (j == 10 || (Nat.ble 29 j && Nat.blt j (29 + n)))
theorem pw_P.ltL {D : va_G} {cy : Nat → ClassId} {Ad : Nat → Nat} {sh : Nat → Nat × Nat × Nat} {C : pw_C} {H : Heap} {k : Nat} (hP : pw_P D cy Ad sh C H) (h : pw_L sh k) : Ad k < H.size := by
  have h2 : ∃ e, pw_E cy Ad sh C k = some e := by
    unfold pw_L at h
    unfold pw_E
    repeat' split
    all_goals first | exact ⟨_, rfl⟩ | omega
  obtain ⟨e, he⟩ := h2
  exact (hP k e he).lt
theorem pw_P.ltS {D : va_G} {cy : Nat → ClassId} {Ad : Nat → Nat} {sh : Nat → Nat × Nat × Nat} {C : pw_C} {H : Heap} {k : Nat} (hP : pw_P D cy Ad sh C H) {a b c : Nat} (h : sh k = (a, b, c)) (ha : 1 ≤ a ∧ a ≤ 6) : Ad k < H.size := hP.ltL (by unfold pw_L; rw [h]; exact ha)
theorem ble_t {a b : Nat} (h : a ≤ b) : Nat.ble a b = true := Nat.ble_eq.mpr h
theorem blt_t {a b : Nat} (h : a < b) : Nat.blt a b = true := Nat.ble_eq.mpr h
theorem fMa_r {n x : Nat} (h : x < n) : fMa n (41 + x) = true := by
  unfold fMa
  rw [ble_t (a := 41) (b := 41 + x) (by omega), blt_t (a := 41 + x) (b := 41 + n) (by omega)]
  simp
theorem fCh_r {n u : Nat} (h : u < 8) : fCh n (21 + u) = true := by
  unfold fCh
  rw [ble_t (a := 21) (b := 21 + u) (by omega), blt_t (a := 21 + u) (b := 21 + 8) (by omega)]
  simp
theorem shMa {n x : Nat} (h : x < n) (hn : n ≤ 12) : shR (fMa n) (shX n) (41 + x) = (1, 4, 0) := (shR_t (fMa_r h)).trans (shX_mx h hn)
theorem shCh {n u : Nat} (h : u < 8) : shR (fCh n) (shX n) (21 + u) = (1, n, 0) := (shR_t (fCh_r h)).trans (shX_nx h)

set_option maxHeartbeats 4000000 in
set_option maxRecDepth 100000 in
theorem L1_ini {p : Program} {l : Launch} {e : Env} {s : State} {m : MethodId} {args : Array Value} {below : List Frame} {meth : Method} {c : Code} {Q : State → Prop} {ce se : Nat} (S : CallFix p m c cX1_init 3 s args wsX1_init RX1) {D : va_G} {cy : Nat → ClassId} {Ad : Nat → Nat} {n : Nat} {C0 : pw_C} (hK : pw_K D cy s) (hI : pw_I Ad (shR (fMa n) (shX n))) (hF0 : C0.2.2 2 = ([.int (nI n), .ref (Ad 11), .ref (Ad 12), .ref (Ad 13)] : List Value)) (hn : 1 ≤ n ∧ n ≤ 12) (hce : ce ≤ 45) (hse : se ≤ 500) (hk : ∀ (C : pw_C) (H : Heap) (locs : List Loc) (ls : Array Slot), pw_P D cy Ad (shR (fMa n) (shX n)) C H → va_S (pw_fr Ad (shR (fMa n) (shX n))) s.heap H locs → (pw_B (fun k => 41 ≤ k ∧ k < 53) C0 C ∧ (∀ y, y < n → ∀ c9, c9 < 4 → C.1 (41 + y) c9 = (-2))) → lv_has ls 3 [(0, .ref (Ad 2))] → W p l e (pw_rm 1 23 45 500) s m args below meth c H locs ce se Q (F0 m 73 ls [])) : ∀ (f : Nat) (C : pw_C) (H : Heap) (locs : List Loc) (x : Nat) (ls : Array Slot), n - x < f → (pw_P D cy Ad (shR (fMa n) (shX n)) C H) → (va_S (pw_fr Ad (shR (fMa n) (shX n))) s.heap H locs) → (pw_B (fun k => 41 ≤ k ∧ k < 53) C0 C) → (x ≤ n) → (∀ y, y < x → ∀ c9, c9 < 4 → C.1 (41 + y) c9 = (-2)) → lv_has ls 3 [(2, .int (nI x)), (0, .ref (Ad 2))] → W p l e (pw_rm 1 23 45 500) s m args below meth c H locs ce se Q (F0 m 48 ls []) := by
  have hx := S.1
  have hb := S.2.1
  have hml := S.2.2.1
  have hown := S.2.2.2.1
  have hts := S.2.2.2.2
  intro f
  induction f with
  | zero => intro C H locs x ls hf; exact absurd hf (Nat.not_lt_zero _)
  | succ f ih =>
    intro C H locs x ls hf hP hS hB hx0 hv hl
    have hF := (congrFun hB.2 2).trans hF0
    refine lv_iload_n hx hb dX1_init_48 rfl (lv_at hl 0 rfl) ?_
    refine lv_aload_n hx hb dX1_init_49 rfl (lv_at hl 1 rfl) ?_
    refine pw_get hx hb hts (fun _ h9 => List.mem_cons_of_mem _ (List.mem_append_right _ h9)) hown hK hP 2 rfl rfl 0 (by decide) hF rfl (hts (.fieldLink RX1 9 "PastDraws$Machine" "n" "I") (List.mem_of_getElem? (i := 4) rfl)) dX1_init_50 ?_
    refine pn_icmp_ge (tgt := 73) hx hb (by omega) (by omega) dX1_init_53 (by decide) (fun c_53 => ?_) (fun c_53 => ?_)
    · exact hk C H locs ls hP hS ⟨hB, fun y hy => hv y (by omega)⟩ (lv_sub hl [1] rfl)
    · refine lv_aload_n hx hb dX1_init_56 rfl (lv_at hl 1 rfl) ?_
      refine pw_get hx hb hts (fun _ h9 => List.mem_cons_of_mem _ (List.mem_append_right _ h9)) hown hK hP 2 rfl rfl 1 (by decide) hF rfl (hts (.fieldLink RX1 17 "PastDraws$Machine" "next" "[[I") (List.mem_of_getElem? (i := 7) rfl)) dX1_init_57 ?_
      refine lv_iload_n hx hb dX1_init_60 rfl (lv_at hl 0 rfl) ?_
      refine pw_aald4 hx hb hK hP 11 rfl (by omega) (by omega) dX1_init_61 ?_
      refine lv_bipush (v := (-2)) hx hb dX1_init_62 (by decide) ?_
      refine pw_csW S hK hP 2 (c_J7_fill_53178 l D cy Ad _ C hI (41 + x) 4 0 (shMa (by omega) (by omega)) (by omega) (-2)) gX1_init_J7_fill_53178 rfl rfl rfl (by decide +kernel) ⟨Nat.le_of_ble_eq_true rfl, Nat.le_of_ble_eq_true rfl⟩ rfl hl.1 rfl (Nat.le_of_ble_eq_true rfl) dX1_init_64 ⟨(by simp only [pw_rm]; omega), (by simp only [pw_rm]; omega)⟩ hS (fun _ h9 => h9) (fun r9 C64 H locs hR hP _ _ hS => ?_)
      obtain ⟨rfl, hR⟩ := hR
      change W p l e _ s m _ below meth c H locs _ _ _ (F0 m 67 ls [])
      refine lv_iinc (v := nI (x + 1)) (lv' := [(2, .int (nI (x + 1))), (0, .ref (Ad 2))]) hx hb dX1_init_67 hl (k := 0) rfl (nI_add _ 1) (by decide) rfl (fun ls hl => ?_)
      refine lv_goto (tgt := 48) hx hb dX1_init_70 (by decide) ?_
      have hB := hB.tr (hR.1.mono (fun k9 h9 => by omega))
      exact ih C64 H locs (x + 1) ls (by omega) hP hS hB (by omega) (fun y hy c9 hc9 => by
        rcases Nat.lt_or_ge y x with g | g
        · rw [(hR.1.1 (41 + y) (by omega)).1]; exact hv y g c9 hc9
        · obtain rfl : y = x := by omega
          exact hR.2 c9 hc9) (lv_sub hl [0, 1] rfl)

set_option maxHeartbeats 4000000 in
set_option maxRecDepth 100000 in
theorem c_X1_init (l : Launch) (D : va_G) (cy : Nat → ClassId) (Ad : Nat → Nat) (z : Nat) (n : Nat) (hn : 1 ≤ n ∧ n ≤ 12) (hI0 : pw_I Ad (shX n)) (hA11 : Ad 11 = z) (hA41 : ∀ i, i < n → Ad (41 + i) = z + 1 + i) (hA12 : Ad 12 = z + 1 + n) (hA13 : Ad 13 = z + 2 + n) (hA53 : ∀ i, i < 26 → Ad (53 + i) = z + 3 + n + i) : Met l yX1_init wsX1_init (pw_rm 1 23 45 500) (pw_PreN ([.ref (Ad 2), .int (nI n)]) z D cy Ad (shR (fun j => j == 2) (shX n)) (zC ([.int 0, .null, .null, .null]))) (pw_PostN (fun C' => C'.2.2 2 = ([.int (nI n), .ref (Ad 11), .ref (Ad 12), .ref (Ad 13)] : List Value) ∧ (∀ y, y < n → ∀ c9, c9 < 4 → C'.1 (41 + y) c9 = (-2)) ∧ ∀ x, C'.1 12 x = 0) (z + (29 + n)) D cy Ad (shR (fMa n) (shX n))) 45 500 (pw_fr Ad (shR (fMa n) (shX n))) := by
  refine Met.ofW (cc := cX1_init) (maxL := 3) (ret := none) (by decide) rfl ?_
  intro p e s m args below meth c s₁ B hml hv
  obtain ⟨rfl, hz, hP, hK, hO⟩ := hv
  have hx := B.exec
  have hb := B.bytes
  have hr := B.returns
  have hts := atoms_spec (ws := wsX1_init) B.pre
  have hown : s.vm.findClass RX1 = some m.cls := findClass_of_methodNamed B.named
  have hlocks := B.notSynchronized
  have S : CallFix p m c cX1_init 3 s ([.ref (Ad 2), .int (nI n)]).toArray wsX1_init RX1 := ⟨hx, hb, hml, hown, hts⟩
  change W p l e (pw_rm 1 23 45 500) s m _ below meth c s.heap [] 0 0 _ _
  have hl := lv_entry ([.ref (Ad 2), .int (nI n)]) (n := 3) (Nat.le_of_ble_eq_true rfl)
  rw [lg_entry_eq]
  generalize (lg_sl ([.ref (Ad 2), .int (nI n)]) ++ List.replicate (3 - (lg_sl ([.ref (Ad 2), .int (nI n)])).length) Slot.unset).toArray = ls at hl ⊢
  have hl : lv_has ls 3 [(0, .ref (Ad 2)), (1, .int (nI n))] := hl
  have hin2 : meth.name = "<init>" := (name_of_methodNamed B.named B.method).1
  have hS : va_S (pw_fr Ad (shR (fun j => j == 2) (shX n))) s.heap s.heap [] := va_S.rf
  have hI : pw_I Ad (shR (fun j => j == 2) (shX n)) := hI0.R
  obtain ⟨C, hC⟩ : ∃ z9, z9 = zC ([.int 0, .null, .null, .null]) := ⟨_, rfl⟩
  rw [← hC] at hP
  have hF : C.2.2 2 = ([.int 0, .null, .null, .null] : List Value) := by rw [hC]; rfl
  have hZ : C.1 = (zC []).1 ∧ C.2.1 = (zC []).2.1 := by rw [hC]; exact ⟨rfl, rfl⟩
  refine lv_aload_n hx hb dX1_init_0 rfl (lv_at hl 0 rfl) ?_
  refine W.objInit hx hb hown (hts (.methodLink RX1 3 objectInit) (List.mem_of_getElem? (i := 1) rfl)) (hts (.instanceMethod objectInit) (List.mem_of_getElem? (i := 2) rfl)) (hts (.code objectInit ⟨#[0xb1]⟩ 1 none) (List.mem_of_getElem? (i := 3) rfl)) rfl (by rw [hml]; exact hl.1) rfl dX1_init_1 (Nat.le_of_ble_eq_true rfl) (Nat.le_of_ble_eq_true rfl) ?_
  refine W.eq (g2 := F0 m 4 ls []) rfl ?_
  refine lv_aload_n hx hb dX1_init_4 rfl (lv_at hl 0 rfl) ?_
  refine lv_iload_n hx hb dX1_init_5 rfl (lv_at hl 1 rfl) ?_
  refine pw_putF hx hb hts (fun _ h9 => List.mem_cons_of_mem _ (List.mem_append_right _ h9)) tyX1 tyX1_ok nmX1 hown hK hP hI hS 2 rfl rfl 0 (by decide) hF (hts (.fieldLink RX1 9 "PastDraws$Machine" "n" "I") (List.mem_of_getElem? (i := 4) rfl)) rfl hin2 rfl (ty := .int) (by decide +kernel) rfl rfl (Nat.le_of_ble_eq_true rfl) dX1_init_6 (fun H locs hP hS hz9 => ?_)
  have hz : H.size = z + (0) := hz9.trans hz
  obtain ⟨C6, hC6⟩ : ∃ z9, z9 = pw_setF C 2 ([.int (nI n), .null, .null, .null] : List Value) := ⟨_, rfl⟩
  have hP := hP.eqC (C' := C6) (by rw [hC6]; rfl)
  have hF : C6.2.2 2 = ([.int (nI n), .null, .null, .null] : List Value) := by rw [hC6]; rfl
  have hZ : C6.1 = (zC []).1 ∧ C6.2.1 = (zC []).2.1 := by rw [hC6]; exact hZ
  refine lv_aload_n hx hb dX1_init_9 rfl (lv_at hl 0 rfl) ?_
  refine lv_aload_n hx hb dX1_init_10 rfl (lv_at hl 0 rfl) ?_
  refine pw_get hx hb hts (fun _ h9 => List.mem_cons_of_mem _ (List.mem_append_right _ h9)) hown hK hP 2 rfl rfl 0 (by decide) hF rfl (hts (.fieldLink RX1 9 "PastDraws$Machine" "n" "I") (List.mem_of_getElem? (i := 4) rfl)) dX1_init_11 ?_
  refine lv_iconst (v := nI 4) hx hb dX1_init_14 (by decide) ?_
  refine pw_mna4 hx hb hown (hts (.classLink RX1 15 "[[I") (List.mem_of_getElem? (i := 5) rfl)) hK hO hP hI0 hS 11 rfl (fun i hi => shX_mx hi hn.2) (fun i j => by rw [hZ.1]; rfl) (by decide) (by omega) (fun i hi => by rw [hA41 i hi]; omega) (by omega) (by omega) (by simp only [pw_rm]; omega) (by simp only [pw_rm]; omega) dX1_init_15 (fun H locs hP hI hS hz9 => ?_)
  have hz : H.size = z + (0 + 1 + n) := by omega
  refine pw_putF hx hb hts (fun _ h9 => List.mem_cons_of_mem _ (List.mem_append_right _ h9)) tyX1 tyX1_ok nmX1 hown hK hP hI hS 2 rfl rfl 1 (by decide) hF (hts (.fieldLink RX1 17 "PastDraws$Machine" "next" "[[I") (List.mem_of_getElem? (i := 7) rfl)) rfl hin2 rfl (ty := .array (.array .int)) (by decide +kernel) rfl rfl (Nat.le_of_ble_eq_true rfl) dX1_init_19 (fun H locs hP hS hz9 => ?_)
  have hz : H.size = z + (0 + 1 + n) := hz9.trans hz
  obtain ⟨C19, hC19⟩ : ∃ z9, z9 = pw_setF C6 2 ([.int (nI n), .ref (Ad 11), .null, .null] : List Value) := ⟨_, rfl⟩
  have hP := hP.eqC (C' := C19) (by rw [hC19]; rfl)
  have hF : C19.2.2 2 = ([.int (nI n), .ref (Ad 11), .null, .null] : List Value) := by rw [hC19]; rfl
  have hZ : C19.1 = (zC []).1 ∧ C19.2.1 = (zC []).2.1 := by rw [hC19]; exact hZ
  refine lv_aload_n hx hb dX1_init_22 rfl (lv_at hl 0 rfl) ?_
  refine lv_aload_n hx hb dX1_init_23 rfl (lv_at hl 0 rfl) ?_
  refine pw_get hx hb hts (fun _ h9 => List.mem_cons_of_mem _ (List.mem_append_right _ h9)) hown hK hP 2 rfl rfl 0 (by decide) hF rfl (hts (.fieldLink RX1 9 "PastDraws$Machine" "n" "I") (List.mem_of_getElem? (i := 4) rfl)) dX1_init_24 ?_
  refine pw_naz hx hb (hts (.arrayClass .boolean) (List.mem_of_getElem? (i := 8) rfl)) hK hP hI0 hS 12 rfl (fun i => by rw [hZ.1]; rfl) (by omega) (by omega) (by simp only [pw_rm]; omega) (by simp only [pw_rm]; omega) dX1_init_27 (fun H hP hI hS hz9 => ?_)
  have hz : H.size = z + (0 + 1 + n + 1) := by omega
  refine pw_putF hx hb hts (fun _ h9 => List.mem_cons_of_mem _ (List.mem_append_right _ h9)) tyX1 tyX1_ok nmX1 hown hK hP hI hS 2 rfl rfl 2 (by decide) hF (hts (.fieldLink RX1 20 "PastDraws$Machine" "ends" "[Z") (List.mem_of_getElem? (i := 9) rfl)) rfl hin2 rfl (ty := .array .boolean) (by decide +kernel) rfl rfl (Nat.le_of_ble_eq_true rfl) dX1_init_29 (fun H locs hP hS hz9 => ?_)
  have hz : H.size = z + (0 + 1 + n + 1) := hz9.trans hz
  obtain ⟨C29, hC29⟩ : ∃ z9, z9 = pw_setF C19 2 ([.int (nI n), .ref (Ad 11), .ref (Ad 12), .null] : List Value) := ⟨_, rfl⟩
  have hP := hP.eqC (C' := C29) (by rw [hC29]; rfl)
  have hF : C29.2.2 2 = ([.int (nI n), .ref (Ad 11), .ref (Ad 12), .null] : List Value) := by rw [hC29]; rfl
  have hZ : C29.1 = (zC []).1 ∧ C29.2.1 = (zC []).2.1 := by rw [hC29]; exact hZ
  refine lv_aload_n hx hb dX1_init_32 rfl (lv_at hl 0 rfl) ?_
  refine lv_bipush (v := nI 26) hx hb dX1_init_33 (by decide) ?_
  refine lv_aload_n hx hb dX1_init_35 rfl (lv_at hl 0 rfl) ?_
  refine pw_get hx hb hts (fun _ h9 => List.mem_cons_of_mem _ (List.mem_append_right _ h9)) hown hK hP 2 rfl rfl 0 (by decide) hF rfl (hts (.fieldLink RX1 9 "PastDraws$Machine" "n" "I") (List.mem_of_getElem? (i := 4) rfl)) dX1_init_36 ?_
  refine pw_mna5 hx hb hown (hts (.classLink RX1 24 "[[J") (List.mem_of_getElem? (i := 10) rfl)) hK hO hP hI0 hS 13 rfl (fun i hi => shX_co hi) (fun i j => by rw [hZ.2]; rfl) (by decide) (by omega) (fun i hi => by rw [hA53 i hi]; omega) (by omega) (by omega) (by simp only [pw_rm]; omega) (by simp only [pw_rm]; omega) dX1_init_39 (fun H locs hP hI hS hz9 => ?_)
  have hz : H.size = z + (0 + 1 + n + 1 + 1 + 26) := by omega
  refine pw_putF hx hb hts (fun _ h9 => List.mem_cons_of_mem _ (List.mem_append_right _ h9)) tyX1 tyX1_ok nmX1 hown hK hP hI hS 2 rfl rfl 3 (by decide) hF (hts (.fieldLink RX1 26 "PastDraws$Machine" "counts" "[[J") (List.mem_of_getElem? (i := 12) rfl)) rfl hin2 rfl (ty := .array (.array .long)) (by decide +kernel) rfl rfl (Nat.le_of_ble_eq_true rfl) dX1_init_43 (fun H locs hP hS hz9 => ?_)
  have hz : H.size = z + (0 + 1 + n + 1 + 1 + 26) := hz9.trans hz
  obtain ⟨C43, hC43⟩ : ∃ z9, z9 = pw_setF C29 2 ([.int (nI n), .ref (Ad 11), .ref (Ad 12), .ref (Ad 13)] : List Value) := ⟨_, rfl⟩
  have hP := hP.eqC (C' := C43) (by rw [hC43]; rfl)
  have hF : C43.2.2 2 = ([.int (nI n), .ref (Ad 11), .ref (Ad 12), .ref (Ad 13)] : List Value) := by rw [hC43]; rfl
  have hZ : C43.1 = (zC []).1 ∧ C43.2.1 = (zC []).2.1 := by rw [hC43]; exact hZ
  refine lv_iconst (v := nI 0) hx hb dX1_init_46 (by decide) ?_
  refine lv_istore_n (lv' := [(2, .int (nI 0)), (0, .ref (Ad 2)), (1, .int (nI n))]) hx hb dX1_init_47 rfl hl (by decide) rfl (fun ls hl => ?_)
  have hP : pw_P D cy Ad (shR (fMa n) (shX n)) C43 H := hP
  have hI : pw_I Ad (shR (fMa n) (shX n)) := hI
  have hS : va_S (pw_fr Ad (shR (fMa n) (shX n))) s.heap H locs := hS
  refine L1_ini S hK hI hF hn (by omega) (by omega) (fun C9 H locs ls hP hS hR hl => ?_) 13 C43 H locs 0 ls (by omega) hP hS pw_B.rf (by omega) (fun y hy => by omega) (lv_sub hl [0, 1] rfl)
  have hR12 : C43.1 12 = fun _ => 0 := by rw [hZ.1]; rfl
  have hA78 : Ad (53 + 25) = z + 3 + n + 25 := hA53 25 (by decide)
  have hE9 : (shR (fMa n) (shX n)) (53 + 25) = (2, n, 0) := (shR_t (show fMa n (53 + 25) = true by unfold fMa; simp [ble_t, blt_t])).trans (shX_co (by decide))
  refine pw_sz (fun hsz => ?_)
  have h9 : Ad (53 + 25) < H.size := hP.ltS hE9 (by decide)
  have hzz : H.size = z + (29 + n) := by omega
  refine W.widen (k := 45) (n := 500) (by omega) (by omega) ?_
  exact W.vret hx hb hr (fun t ht _ => ⟨⟨C9, rfl, ⟨(congrFun hR.1.2 2).trans hF, hR.2, fun x => by rw [(hR.1.1 12 (by omega)).1, hR12]⟩, by rw [ht]; exact hP, by rw [ht]; exact hzz⟩, hS.F ht⟩) hS.2.2 dX1_init_73

set_option maxHeartbeats 4000000 in
set_option maxRecDepth 100000 in
theorem L0_ini_x {p : Program} {l : Launch} {e : Env} {s : State} {m : MethodId} {args : Array Value} {below : List Frame} {meth : Method} {c : Code} {Q : State → Prop} {ce se : Nat} (S : CallFix p m c cX0_init 4 s args wsX0_init RX0) {D : va_G} {cy : Nat → ClassId} {Ad : Nat → Nat} {n : Nat} {C0 : pw_C} (hK : pw_K D cy s) (hI : pw_I Ad (shR (fCh n) (shX n))) (hF0 : C0.2.2 1 = ([.int (nI n), .ref (Ad 5), .ref (Ad 6), .ref (Ad 7), .ref (Ad 8), .ref (Ad 9), .ref (Ad 10)] : List Value)) (hn : 1 ≤ n ∧ n ≤ 12) (hce : ce ≤ 30) (hse : se ≤ 9000) (u : Nat) (hu : u < 8) (hk : ∀ (C : pw_C) (H : Heap) (locs : List Loc) (ls : Array Slot), pw_P D cy Ad (shR (fCh n) (shX n)) C H → va_S (pw_fr Ad (shR (fCh n) (shX n))) s.heap H locs → (pw_B (fun k => 21 ≤ k ∧ k < 29) C0 C ∧ (∀ u9, u9 < u + 1 → ∀ y, y < n → C.1 (21 + u9) y = nI y)) → lv_has ls 4 [(2, .int (nI u)), (0, .ref (Ad 1))] → W p l e (pw_rm 1 12 30 9000) s m args below meth c H locs ce se Q (F0 m 116 ls [])) : ∀ (f : Nat) (C : pw_C) (H : Heap) (locs : List Loc) (x : Nat) (ls : Array Slot), n - x < f → (pw_P D cy Ad (shR (fCh n) (shX n)) C H) → (va_S (pw_fr Ad (shR (fCh n) (shX n))) s.heap H locs) → (pw_B (fun k => 21 ≤ k ∧ k < 29) C0 C) → (x ≤ n) → (∀ u9, u9 < u → ∀ y, y < n → C.1 (21 + u9) y = nI y) → (∀ y, y < x → C.1 (21 + u) y = nI y) → lv_has ls 4 [(3, .int (nI x)), (2, .int (nI u)), (0, .ref (Ad 1))] → W p l e (pw_rm 1 12 30 9000) s m args below meth c H locs ce se Q (F0 m 93 ls []) := by
  have hx := S.1
  have hb := S.2.1
  have hml := S.2.2.1
  have hown := S.2.2.2.1
  have hts := S.2.2.2.2
  intro f
  induction f with
  | zero => intro C H locs x ls hf; exact absurd hf (Nat.not_lt_zero _)
  | succ f ih =>
    intro C H locs x ls hf hP hS hB hx0 h1 hv hl
    have hF := (congrFun hB.2 1).trans hF0
    refine lv_iload_n hx hb dX0_init_93 rfl (lv_at hl 0 rfl) ?_
    refine lv_aload_n hx hb dX0_init_94 rfl (lv_at hl 2 rfl) ?_
    refine pw_get hx hb hts (fun _ h9 => List.mem_cons_of_mem _ (List.mem_append_right _ h9)) hown hK hP 1 rfl rfl 0 (by decide) hF rfl (hts (.fieldLink RX0 9 "PastDraws$Chain" "n" "I") (List.mem_of_getElem? (i := 4) rfl)) dX0_init_95 ?_
    refine pn_icmp_ge (tgt := 116) hx hb (by omega) (by omega) dX0_init_98 (by decide) (fun c_98 => ?_) (fun c_98 => ?_)
    · exact hk C H locs ls hP hS ⟨hB, fun u9 hu9 y hy => by
        rcases Nat.lt_or_ge u9 u with g | g
        · exact h1 u9 g y hy
        · obtain rfl : u9 = u := by omega
          exact hv y (by omega)⟩ (lv_sub hl [1, 2] rfl)
    · refine lv_aload_n hx hb dX0_init_101 rfl (lv_at hl 2 rfl) ?_
      refine pw_get hx hb hts (fun _ h9 => List.mem_cons_of_mem _ (List.mem_append_right _ h9)) hown hK hP 1 rfl rfl 1 (by decide) hF rfl (hts (.fieldLink RX0 17 "PastDraws$Chain" "next" "[[I") (List.mem_of_getElem? (i := 7) rfl)) dX0_init_102 ?_
      refine lv_iload_n hx hb dX0_init_105 rfl (lv_at hl 1 rfl) ?_
      refine pw_aald4 hx hb hK hP 5 rfl (by omega) (by omega) dX0_init_106 ?_
      refine lv_iload_n hx hb dX0_init_107 rfl (lv_at hl 0 rfl) ?_
      refine lv_iload_n hx hb dX0_init_108 rfl (lv_at hl 0 rfl) ?_
      refine pw_iast hx hb hK hP hI hS (21 + u) (shCh (by omega)) (by omega) (by omega) dX0_init_109 (fun H locs hP hS => ?_)
      obtain ⟨C109, hC109⟩ : ∃ z9, z9 = pw_setI C (21 + u) x (nI x) := ⟨_, rfl⟩
      rw [← hC109] at hP
      have hB := by have hB9 := hB; exact (show pw_B (fun k => 21 ≤ k ∧ k < 29) C0 C109 by rw [hC109]; exact hB9.setI (by show 21 ≤ 21 + u ∧ 21 + u < 29; omega))
      have hF := (congrFun hB.2 1).trans hF0
      refine lv_iinc (v := nI (x + 1)) (lv' := [(3, .int (nI (x + 1))), (2, .int (nI u)), (0, .ref (Ad 1))]) hx hb dX0_init_110 hl (k := 0) rfl (nI_add _ 1) (by decide) rfl (fun ls hl => ?_)
      refine lv_goto (tgt := 93) hx hb dX0_init_113 (by decide) ?_
      exact ih C109 H locs (x + 1) ls (by omega) hP hS hB (by omega) (fun u9 hu9 y hy => by rw [hC109, si_ne (by omega)]; exact h1 u9 hu9 y hy) (fun y hy => by
        rw [hC109, si_at]
        by_cases q : y = x
        · rw [if_pos q, q]
        · rw [if_neg q]; exact hv y (by omega)) (lv_sub hl [0, 1, 2] rfl)

set_option maxHeartbeats 4000000 in
set_option maxRecDepth 100000 in
theorem L0_ini_u {p : Program} {l : Launch} {e : Env} {s : State} {m : MethodId} {args : Array Value} {below : List Frame} {meth : Method} {c : Code} {Q : State → Prop} {ce se : Nat} (S : CallFix p m c cX0_init 4 s args wsX0_init RX0) {D : va_G} {cy : Nat → ClassId} {Ad : Nat → Nat} {n : Nat} {C0 : pw_C} (hK : pw_K D cy s) (hI : pw_I Ad (shR (fCh n) (shX n))) (hF0 : C0.2.2 1 = ([.int (nI n), .ref (Ad 5), .ref (Ad 6), .ref (Ad 7), .ref (Ad 8), .ref (Ad 9), .ref (Ad 10)] : List Value)) (hn : 1 ≤ n ∧ n ≤ 12) (hce : ce ≤ 30) (hse : se ≤ 9000) (hk : ∀ (C : pw_C) (H : Heap) (locs : List Loc) (ls : Array Slot), pw_P D cy Ad (shR (fCh n) (shX n)) C H → va_S (pw_fr Ad (shR (fCh n) (shX n))) s.heap H locs → (pw_B (fun k => 21 ≤ k ∧ k < 29) C0 C ∧ (∀ u9, u9 < 8 → ∀ y, y < n → C.1 (21 + u9) y = nI y)) → lv_has ls 4 [(0, .ref (Ad 1))] → W p l e (pw_rm 1 12 30 9000) s m args below meth c H locs ce se Q (F0 m 122 ls [])) : ∀ (f : Nat) (C : pw_C) (H : Heap) (locs : List Loc) (u : Nat) (ls : Array Slot), 8 - u < f → (pw_P D cy Ad (shR (fCh n) (shX n)) C H) → (va_S (pw_fr Ad (shR (fCh n) (shX n))) s.heap H locs) → (pw_B (fun k => 21 ≤ k ∧ k < 29) C0 C) → (u ≤ 8) → (∀ u9, u9 < u → ∀ y, y < n → C.1 (21 + u9) y = nI y) → lv_has ls 4 [(2, .int (nI u)), (0, .ref (Ad 1))] → W p l e (pw_rm 1 12 30 9000) s m args below meth c H locs ce se Q (F0 m 85 ls []) := by
  have hx := S.1
  have hb := S.2.1
  have hml := S.2.2.1
  have hown := S.2.2.2.1
  have hts := S.2.2.2.2
  intro f
  induction f with
  | zero => intro C H locs u ls hf; exact absurd hf (Nat.not_lt_zero _)
  | succ f ih =>
    intro C H locs u ls hf hP hS hB hu0 h1 hl
    have hF := (congrFun hB.2 1).trans hF0
    refine lv_iload_n hx hb dX0_init_85 rfl (lv_at hl 0 rfl) ?_
    refine lv_bipush (v := nI 8) hx hb dX0_init_86 (by decide) ?_
    refine pn_icmp_ge (tgt := 122) hx hb (by omega) (by omega) dX0_init_88 (by decide) (fun c_88 => ?_) (fun c_88 => ?_)
    · exact hk C H locs ls hP hS ⟨hB, fun u9 hu9 => h1 u9 (by omega)⟩ (lv_sub hl [1] rfl)
    · refine lv_iconst (v := nI 0) hx hb dX0_init_91 (by decide) ?_
      refine lv_istore_n (lv' := [(3, .int (nI 0)), (2, .int (nI u)), (0, .ref (Ad 1))]) hx hb dX0_init_92 rfl hl (by decide) rfl (fun ls hl => ?_)
      refine L0_ini_x S hK hI hF0 hn hce hse u (by omega) (fun C9 H locs ls hP hS hR hl => ?_) 13 C H locs 0 ls (by omega) hP hS hB (by omega) h1 (fun y hy => by omega) (lv_sub hl [0, 1, 2] rfl)
      refine lv_iinc (v := nI (u + 1)) (lv' := [(2, .int (nI (u + 1))), (0, .ref (Ad 1))]) hx hb dX0_init_116 hl (k := 0) rfl (nI_add _ 1) (by decide) rfl (fun ls hl => ?_)
      refine lv_goto (tgt := 85) hx hb dX0_init_119 (by decide) ?_
      exact ih C9 H locs (u + 1) ls (by omega) hP hS hR.1 (by omega) hR.2 (lv_sub hl [0, 1] rfl)

set_option maxHeartbeats 4000000 in
set_option maxRecDepth 100000 in
theorem c_X0_init (l : Launch) (D : va_G) (cy : Nat → ClassId) (Ad : Nat → Nat) (z : Nat) (n : Nat) (hn : 1 ≤ n ∧ n ≤ 12) (hI0 : pw_I Ad (shX n)) (hA5 : Ad 5 = z) (hA21 : ∀ i, i < 8 → Ad (21 + i) = z + 1 + i) (hA6 : Ad 6 = z + 9) (hA7 : Ad 7 = z + 10) (hA8 : Ad 8 = z + 11) (hA9 : Ad 9 = z + 12) (hA10 : Ad 10 = z + 13) (hA29 : ∀ i, i < n → Ad (29 + i) = z + 14 + i) : Met l yX0_init wsX0_init (pw_rm 1 12 30 9000) (pw_PreN ([.ref (Ad 1), .int (nI n)]) z D cy Ad (shR (fun j => j == 1) (shX n)) (zC ([.int 0, .null, .null, .null, .null, .null, .null]))) (pw_PostN (fun C' => C'.2.2 1 = ([.int (nI n), .ref (Ad 5), .ref (Ad 6), .ref (Ad 7), .ref (Ad 8), .ref (Ad 9), .ref (Ad 10)] : List Value) ∧ (∀ u9, u9 < 8 → ∀ y, y < n → C'.1 (21 + u9) y = nI y)) (z + (14 + n)) D cy Ad (shR (fCh n) (shX n))) 30 9000 (pw_fr Ad (shR (fCh n) (shX n))) := by
  refine Met.ofW (cc := cX0_init) (maxL := 4) (ret := none) (by decide) rfl ?_
  intro p e s m args below meth c s₁ B hml hv
  obtain ⟨rfl, hz, hP, hK, hO⟩ := hv
  have hx := B.exec
  have hb := B.bytes
  have hr := B.returns
  have hts := atoms_spec (ws := wsX0_init) B.pre
  have hown : s.vm.findClass RX0 = some m.cls := findClass_of_methodNamed B.named
  have hlocks := B.notSynchronized
  have S : CallFix p m c cX0_init 4 s ([.ref (Ad 1), .int (nI n)]).toArray wsX0_init RX0 := ⟨hx, hb, hml, hown, hts⟩
  change W p l e (pw_rm 1 12 30 9000) s m _ below meth c s.heap [] 0 0 _ _
  have hl := lv_entry ([.ref (Ad 1), .int (nI n)]) (n := 4) (Nat.le_of_ble_eq_true rfl)
  rw [lg_entry_eq]
  generalize (lg_sl ([.ref (Ad 1), .int (nI n)]) ++ List.replicate (4 - (lg_sl ([.ref (Ad 1), .int (nI n)])).length) Slot.unset).toArray = ls at hl ⊢
  have hl : lv_has ls 4 [(0, .ref (Ad 1)), (1, .int (nI n))] := hl
  have hin2 : meth.name = "<init>" := (name_of_methodNamed B.named B.method).1
  have hS : va_S (pw_fr Ad (shR (fun j => j == 1) (shX n))) s.heap s.heap [] := va_S.rf
  have hI : pw_I Ad (shR (fun j => j == 1) (shX n)) := hI0.R
  obtain ⟨C, hC⟩ : ∃ z9, z9 = zC ([.int 0, .null, .null, .null, .null, .null, .null]) := ⟨_, rfl⟩
  rw [← hC] at hP
  have hF : C.2.2 1 = ([.int 0, .null, .null, .null, .null, .null, .null] : List Value) := by rw [hC]; rfl
  have hZ : C.1 = (zC []).1 ∧ C.2.1 = (zC []).2.1 := by rw [hC]; exact ⟨rfl, rfl⟩
  have hpw := pow12 hn.2
  have hnn : n * n ≤ 144 := Nat.mul_le_mul hn.2 hn.2
  refine lv_aload_n hx hb dX0_init_0 rfl (lv_at hl 0 rfl) ?_
  refine W.objInit hx hb hown (hts (.methodLink RX0 3 objectInit) (List.mem_of_getElem? (i := 1) rfl)) (hts (.instanceMethod objectInit) (List.mem_of_getElem? (i := 2) rfl)) (hts (.code objectInit ⟨#[0xb1]⟩ 1 none) (List.mem_of_getElem? (i := 3) rfl)) rfl (by rw [hml]; exact hl.1) rfl dX0_init_1 (Nat.le_of_ble_eq_true rfl) (Nat.le_of_ble_eq_true rfl) ?_
  refine W.eq (g2 := F0 m 4 ls []) rfl ?_
  refine lv_aload_n hx hb dX0_init_4 rfl (lv_at hl 0 rfl) ?_
  refine lv_iload_n hx hb dX0_init_5 rfl (lv_at hl 1 rfl) ?_
  refine pw_putF hx hb hts (fun _ h9 => List.mem_cons_of_mem _ (List.mem_append_right _ h9)) tyX0 tyX0_ok nmX0 hown hK hP hI hS 1 rfl rfl 0 (by decide) hF (hts (.fieldLink RX0 9 "PastDraws$Chain" "n" "I") (List.mem_of_getElem? (i := 4) rfl)) rfl hin2 rfl (ty := .int) (by decide +kernel) rfl rfl (Nat.le_of_ble_eq_true rfl) dX0_init_6 (fun H locs hP hS hz9 => ?_)
  have hz : H.size = z + (0) := hz9.trans hz
  obtain ⟨C6, hC6⟩ : ∃ z9, z9 = pw_setF C 1 ([.int (nI n), .null, .null, .null, .null, .null, .null] : List Value) := ⟨_, rfl⟩
  have hP := hP.eqC (C' := C6) (by rw [hC6]; rfl)
  have hF : C6.2.2 1 = ([.int (nI n), .null, .null, .null, .null, .null, .null] : List Value) := by rw [hC6]; rfl
  have hZ : C6.1 = (zC []).1 ∧ C6.2.1 = (zC []).2.1 := by rw [hC6]; exact hZ
  refine lv_aload_n hx hb dX0_init_9 rfl (lv_at hl 0 rfl) ?_
  refine lv_bipush (v := nI 8) hx hb dX0_init_10 (by decide) ?_
  refine lv_aload_n hx hb dX0_init_12 rfl (lv_at hl 0 rfl) ?_
  refine pw_get hx hb hts (fun _ h9 => List.mem_cons_of_mem _ (List.mem_append_right _ h9)) hown hK hP 1 rfl rfl 0 (by decide) hF rfl (hts (.fieldLink RX0 9 "PastDraws$Chain" "n" "I") (List.mem_of_getElem? (i := 4) rfl)) dX0_init_13 ?_
  refine pw_mna4 hx hb hown (hts (.classLink RX0 15 "[[I") (List.mem_of_getElem? (i := 5) rfl)) hK hO hP hI0 hS 5 rfl (fun i hi => shX_nx hi) (fun i j => by rw [hZ.1]; rfl) (by decide) (by omega) (fun i hi => by rw [hA21 i hi]; omega) (by omega) (by omega) (by simp only [pw_rm]; omega) (by simp only [pw_rm]; omega) dX0_init_16 (fun H locs hP hI hS hz9 => ?_)
  have hz : H.size = z + (0 + 1 + 8) := by omega
  refine pw_putF hx hb hts (fun _ h9 => List.mem_cons_of_mem _ (List.mem_append_right _ h9)) tyX0 tyX0_ok nmX0 hown hK hP hI hS 1 rfl rfl 1 (by decide) hF (hts (.fieldLink RX0 17 "PastDraws$Chain" "next" "[[I") (List.mem_of_getElem? (i := 7) rfl)) rfl hin2 rfl (ty := .array (.array .int)) (by decide +kernel) rfl rfl (Nat.le_of_ble_eq_true rfl) dX0_init_20 (fun H locs hP hS hz9 => ?_)
  have hz : H.size = z + (0 + 1 + 8) := hz9.trans hz
  obtain ⟨C20, hC20⟩ : ∃ z9, z9 = pw_setF C6 1 ([.int (nI n), .ref (Ad 5), .null, .null, .null, .null, .null] : List Value) := ⟨_, rfl⟩
  have hP := hP.eqC (C' := C20) (by rw [hC20]; rfl)
  have hF : C20.2.2 1 = ([.int (nI n), .ref (Ad 5), .null, .null, .null, .null, .null] : List Value) := by rw [hC20]; rfl
  have hZ : C20.1 = (zC []).1 ∧ C20.2.1 = (zC []).2.1 := by rw [hC20]; exact hZ
  refine lv_aload_n hx hb dX0_init_23 rfl (lv_at hl 0 rfl) ?_
  refine lv_aload_n hx hb dX0_init_24 rfl (lv_at hl 0 rfl) ?_
  refine pw_get hx hb hts (fun _ h9 => List.mem_cons_of_mem _ (List.mem_append_right _ h9)) hown hK hP 1 rfl rfl 0 (by decide) hF rfl (hts (.fieldLink RX0 9 "PastDraws$Chain" "n" "I") (List.mem_of_getElem? (i := 4) rfl)) dX0_init_25 ?_
  refine pw_nai hx hb (hts (.arrayClass .int) (List.mem_of_getElem? (i := 6) rfl)) hK hP hI0 hS 6 rfl (fun i => by rw [hZ.1]; rfl) (by omega) (by omega) (by simp only [pw_rm]; omega) (by simp only [pw_rm]; omega) dX0_init_28 (fun H hP hI hS hz9 => ?_)
  have hz : H.size = z + (0 + 1 + 8 + 1) := by omega
  refine pw_putF hx hb hts (fun _ h9 => List.mem_cons_of_mem _ (List.mem_append_right _ h9)) tyX0 tyX0_ok nmX0 hown hK hP hI hS 1 rfl rfl 2 (by decide) hF (hts (.fieldLink RX0 20 "PastDraws$Chain" "map" "[I") (List.mem_of_getElem? (i := 8) rfl)) rfl hin2 rfl (ty := .array .int) (by decide +kernel) rfl rfl (Nat.le_of_ble_eq_true rfl) dX0_init_30 (fun H locs hP hS hz9 => ?_)
  have hz : H.size = z + (0 + 1 + 8 + 1) := hz9.trans hz
  obtain ⟨C30, hC30⟩ : ∃ z9, z9 = pw_setF C20 1 ([.int (nI n), .ref (Ad 5), .ref (Ad 6), .null, .null, .null, .null] : List Value) := ⟨_, rfl⟩
  have hP := hP.eqC (C' := C30) (by rw [hC30]; rfl)
  have hF : C30.2.2 1 = ([.int (nI n), .ref (Ad 5), .ref (Ad 6), .null, .null, .null, .null] : List Value) := by rw [hC30]; rfl
  have hZ : C30.1 = (zC []).1 ∧ C30.2.1 = (zC []).2.1 := by rw [hC30]; exact hZ
  refine lv_aload_n hx hb dX0_init_33 rfl (lv_at hl 0 rfl) ?_
  refine lv_aload_n hx hb dX0_init_34 rfl (lv_at hl 0 rfl) ?_
  refine pw_get hx hb hts (fun _ h9 => List.mem_cons_of_mem _ (List.mem_append_right _ h9)) hown hK hP 1 rfl rfl 0 (by decide) hF rfl (hts (.fieldLink RX0 9 "PastDraws$Chain" "n" "I") (List.mem_of_getElem? (i := 4) rfl)) dX0_init_35 ?_
  refine pw_nai hx hb (hts (.arrayClass .int) (List.mem_of_getElem? (i := 6) rfl)) hK hP hI0 hS 7 rfl (fun i => by rw [hZ.1]; rfl) (by omega) (by omega) (by simp only [pw_rm]; omega) (by simp only [pw_rm]; omega) dX0_init_38 (fun H hP hI hS hz9 => ?_)
  have hz : H.size = z + (0 + 1 + 8 + 1 + 1) := by omega
  refine pw_putF hx hb hts (fun _ h9 => List.mem_cons_of_mem _ (List.mem_append_right _ h9)) tyX0 tyX0_ok nmX0 hown hK hP hI hS 1 rfl rfl 3 (by decide) hF (hts (.fieldLink RX0 24 "PastDraws$Chain" "longerMap" "[I") (List.mem_of_getElem? (i := 9) rfl)) rfl hin2 rfl (ty := .array .int) (by decide +kernel) rfl rfl (Nat.le_of_ble_eq_true rfl) dX0_init_40 (fun H locs hP hS hz9 => ?_)
  have hz : H.size = z + (0 + 1 + 8 + 1 + 1) := hz9.trans hz
  obtain ⟨C40, hC40⟩ : ∃ z9, z9 = pw_setF C30 1 ([.int (nI n), .ref (Ad 5), .ref (Ad 6), .ref (Ad 7), .null, .null, .null] : List Value) := ⟨_, rfl⟩
  have hP := hP.eqC (C' := C40) (by rw [hC40]; rfl)
  have hF : C40.2.2 1 = ([.int (nI n), .ref (Ad 5), .ref (Ad 6), .ref (Ad 7), .null, .null, .null] : List Value) := by rw [hC40]; rfl
  have hZ : C40.1 = (zC []).1 ∧ C40.2.1 = (zC []).2.1 := by rw [hC40]; exact hZ
  refine lv_aload_n hx hb dX0_init_43 rfl (lv_at hl 0 rfl) ?_
  refine lv_iconst (v := nI 1) hx hb dX0_init_44 (by decide) ?_
  refine lv_aload_n hx hb dX0_init_45 rfl (lv_at hl 0 rfl) ?_
  refine pw_get hx hb hts (fun _ h9 => List.mem_cons_of_mem _ (List.mem_append_right _ h9)) hown hK hP 1 rfl rfl 0 (by decide) hF rfl (hts (.fieldLink RX0 9 "PastDraws$Chain" "n" "I") (List.mem_of_getElem? (i := 4) rfl)) dX0_init_46 ?_
  refine lv_ishl hx hb dX0_init_49 ?_
  refine pw_topi (y := nI (2 ^ n)) (ps_shl1 (by omega)) ?_
  refine pw_nai hx hb (hts (.arrayClass .int) (List.mem_of_getElem? (i := 6) rfl)) hK hP hI0 hS 8 rfl (fun i => by rw [hZ.1]; rfl) (by omega) (by omega) (by simp only [pw_rm]; omega) (by simp only [pw_rm]; omega) dX0_init_50 (fun H hP hI hS hz9 => ?_)
  have hz : H.size = z + (0 + 1 + 8 + 1 + 1 + 1) := by omega
  refine pw_putF hx hb hts (fun _ h9 => List.mem_cons_of_mem _ (List.mem_append_right _ h9)) tyX0 tyX0_ok nmX0 hown hK hP hI hS 1 rfl rfl 4 (by decide) hF (hts (.fieldLink RX0 27 "PastDraws$Chain" "rowsTo" "[I") (List.mem_of_getElem? (i := 10) rfl)) rfl hin2 rfl (ty := .array .int) (by decide +kernel) rfl rfl (Nat.le_of_ble_eq_true rfl) dX0_init_52 (fun H locs hP hS hz9 => ?_)
  have hz : H.size = z + (0 + 1 + 8 + 1 + 1 + 1) := hz9.trans hz
  obtain ⟨C52, hC52⟩ : ∃ z9, z9 = pw_setF C40 1 ([.int (nI n), .ref (Ad 5), .ref (Ad 6), .ref (Ad 7), .ref (Ad 8), .null, .null] : List Value) := ⟨_, rfl⟩
  have hP := hP.eqC (C' := C52) (by rw [hC52]; rfl)
  have hF : C52.2.2 1 = ([.int (nI n), .ref (Ad 5), .ref (Ad 6), .ref (Ad 7), .ref (Ad 8), .null, .null] : List Value) := by rw [hC52]; rfl
  have hZ : C52.1 = (zC []).1 ∧ C52.2.1 = (zC []).2.1 := by rw [hC52]; exact hZ
  refine lv_aload_n hx hb dX0_init_55 rfl (lv_at hl 0 rfl) ?_
  refine lv_iconst (v := nI 1) hx hb dX0_init_56 (by decide) ?_
  refine lv_aload_n hx hb dX0_init_57 rfl (lv_at hl 0 rfl) ?_
  refine pw_get hx hb hts (fun _ h9 => List.mem_cons_of_mem _ (List.mem_append_right _ h9)) hown hK hP 1 rfl rfl 0 (by decide) hF rfl (hts (.fieldLink RX0 9 "PastDraws$Chain" "n" "I") (List.mem_of_getElem? (i := 4) rfl)) dX0_init_58 ?_
  refine lv_ishl hx hb dX0_init_61 ?_
  refine pw_topi (y := nI (2 ^ n)) (ps_shl1 (by omega)) ?_
  refine pw_nai hx hb (hts (.arrayClass .int) (List.mem_of_getElem? (i := 6) rfl)) hK hP hI0 hS 9 rfl (fun i => by rw [hZ.1]; rfl) (by omega) (by omega) (by simp only [pw_rm]; omega) (by simp only [pw_rm]; omega) dX0_init_62 (fun H hP hI hS hz9 => ?_)
  have hz : H.size = z + (0 + 1 + 8 + 1 + 1 + 1 + 1) := by omega
  refine pw_putF hx hb hts (fun _ h9 => List.mem_cons_of_mem _ (List.mem_append_right _ h9)) tyX0 tyX0_ok nmX0 hown hK hP hI hS 1 rfl rfl 5 (by decide) hF (hts (.fieldLink RX0 30 "PastDraws$Chain" "longerRowsTo" "[I") (List.mem_of_getElem? (i := 11) rfl)) rfl hin2 rfl (ty := .array .int) (by decide +kernel) rfl rfl (Nat.le_of_ble_eq_true rfl) dX0_init_64 (fun H locs hP hS hz9 => ?_)
  have hz : H.size = z + (0 + 1 + 8 + 1 + 1 + 1 + 1) := hz9.trans hz
  obtain ⟨C64, hC64⟩ : ∃ z9, z9 = pw_setF C52 1 ([.int (nI n), .ref (Ad 5), .ref (Ad 6), .ref (Ad 7), .ref (Ad 8), .ref (Ad 9), .null] : List Value) := ⟨_, rfl⟩
  have hP := hP.eqC (C' := C64) (by rw [hC64]; rfl)
  have hF : C64.2.2 1 = ([.int (nI n), .ref (Ad 5), .ref (Ad 6), .ref (Ad 7), .ref (Ad 8), .ref (Ad 9), .null] : List Value) := by rw [hC64]; rfl
  have hZ : C64.1 = (zC []).1 ∧ C64.2.1 = (zC []).2.1 := by rw [hC64]; exact hZ
  refine lv_aload_n hx hb dX0_init_67 rfl (lv_at hl 0 rfl) ?_
  refine lv_aload_n hx hb dX0_init_68 rfl (lv_at hl 0 rfl) ?_
  refine pw_get hx hb hts (fun _ h9 => List.mem_cons_of_mem _ (List.mem_append_right _ h9)) hown hK hP 1 rfl rfl 0 (by decide) hF rfl (hts (.fieldLink RX0 9 "PastDraws$Chain" "n" "I") (List.mem_of_getElem? (i := 4) rfl)) dX0_init_69 ?_
  refine lv_aload_n hx hb dX0_init_72 rfl (lv_at hl 0 rfl) ?_
  refine pw_get hx hb hts (fun _ h9 => List.mem_cons_of_mem _ (List.mem_append_right _ h9)) hown hK hP 1 rfl rfl 0 (by decide) hF rfl (hts (.fieldLink RX0 9 "PastDraws$Chain" "n" "I") (List.mem_of_getElem? (i := 4) rfl)) dX0_init_73 ?_
  refine pw_mna5 hx hb hown (hts (.classLink RX0 33 "[[J") (List.mem_of_getElem? (i := 12) rfl)) hK hO hP hI0 hS 10 rfl (fun i hi => shX_mi hi hn.2) (fun i j => by rw [hZ.2]; rfl) (by decide) (by omega) (fun i hi => by rw [hA29 i hi]; omega) (by omega) (by omega) (by simp only [pw_rm]; omega) (by simp only [pw_rm]; omega) dX0_init_76 (fun H locs hP hI hS hz9 => ?_)
  have hz : H.size = z + (0 + 1 + 8 + 1 + 1 + 1 + 1 + 1 + n) := by omega
  refine pw_putF hx hb hts (fun _ h9 => List.mem_cons_of_mem _ (List.mem_append_right _ h9)) tyX0 tyX0_ok nmX0 hown hK hP hI hS 1 rfl rfl 6 (by decide) hF (hts (.fieldLink RX0 35 "PastDraws$Chain" "minor" "[[J") (List.mem_of_getElem? (i := 14) rfl)) rfl hin2 rfl (ty := .array (.array .long)) (by decide +kernel) rfl rfl (Nat.le_of_ble_eq_true rfl) dX0_init_80 (fun H locs hP hS hz9 => ?_)
  have hz : H.size = z + (0 + 1 + 8 + 1 + 1 + 1 + 1 + 1 + n) := hz9.trans hz
  obtain ⟨C80, hC80⟩ : ∃ z9, z9 = pw_setF C64 1 ([.int (nI n), .ref (Ad 5), .ref (Ad 6), .ref (Ad 7), .ref (Ad 8), .ref (Ad 9), .ref (Ad 10)] : List Value) := ⟨_, rfl⟩
  have hP := hP.eqC (C' := C80) (by rw [hC80]; rfl)
  have hF : C80.2.2 1 = ([.int (nI n), .ref (Ad 5), .ref (Ad 6), .ref (Ad 7), .ref (Ad 8), .ref (Ad 9), .ref (Ad 10)] : List Value) := by rw [hC80]; rfl
  have hZ : C80.1 = (zC []).1 ∧ C80.2.1 = (zC []).2.1 := by rw [hC80]; exact hZ
  refine lv_iconst (v := nI 0) hx hb dX0_init_83 (by decide) ?_
  refine lv_istore_n (lv' := [(2, .int (nI 0)), (0, .ref (Ad 1)), (1, .int (nI n))]) hx hb dX0_init_84 rfl hl (by decide) rfl (fun ls hl => ?_)
  have hP : pw_P D cy Ad (shR (fCh n) (shX n)) C80 H := hP
  have hI : pw_I Ad (shR (fCh n) (shX n)) := hI
  have hS : va_S (pw_fr Ad (shR (fCh n) (shX n))) s.heap H locs := hS
  refine L0_ini_u S hK hI hF hn (by omega) (by omega) (fun C9 H locs ls hP hS hR hl => ?_) 9 C80 H locs 0 ls (by omega) hP hS pw_B.rf (by omega) (fun y hy => by omega) (lv_sub hl [0, 1] rfl)
  have hA9 : Ad (29 + (n - 1)) = z + 14 + (n - 1) := hA29 (n - 1) (by omega)
  have hE9 : (shR (fCh n) (shX n)) (29 + (n - 1)) = (2, n, 0) := (shR_t (show fCh n (29 + (n - 1)) = true by unfold fCh; rw [ble_t (a := 29) (b := 29 + (n - 1)) (by omega), blt_t (a := 29 + (n - 1)) (b := 29 + n) (by omega)]; simp)).trans (shX_mi (by omega) hn.2)
  refine pw_sz (fun hsz => ?_)
  have h9 : Ad (29 + (n - 1)) < H.size := hP.ltS hE9 (by decide)
  have hzz : H.size = z + (14 + n) := by omega
  refine W.widen (k := 30) (n := 9000) (by omega) (by omega) ?_
  exact W.vret hx hb hr (fun t ht _ => ⟨⟨C9, rfl, ⟨(congrFun hR.1.2 1).trans hF, hR.2⟩, by rw [ht]; exact hP, by rw [ht]; exact hzz⟩, hS.F ht⟩) hS.2.2 dX0_init_122
