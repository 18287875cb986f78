theorem pw_P.eqC {D : va_G} {cy : Nat → ClassId} {Ad : Nat → Nat} {sh : Nat → Nat × Nat × Nat} {C C' : pw_C} {H : Heap} (h : pw_P D cy Ad sh C H) (e : C = C') : pw_P D cy Ad sh C' H := e ▸ h
section PW7
variable {p : Program} {l : Launch} {e : Env} {R : Room} {s : State} {m : MethodId} {args : Array Value} {below : List Frame} {meth : Method} {c : Code} {H : Heap} {locs : List Loc} {cells slots : Nat} {Q : State → Prop}
variable {cc : ByteArray} {pc : Nat} {ls : Array Slot} {rest : List Value} {D : va_G} {cy : Nat → ClassId} {Ad : Nat → Nat} {sh : Nat → Nat × Nat × Nat} {C : pw_C} {H0 : Heap}
theorem pw_putZ (hexec : p.tables.exec = Jvm.exec) (hb : c.code = cc) {own Cn : String} {T : u_T} {N ci index b : Nat} {Ts : List Cond} (hts : ∀ w ∈ Ts, w.before args s = true) (hin : ∀ w ∈ u_ws Cn T N, w ∈ Ts) (ty0 : Nat → FieldType) (hty : ∀ k, k < N → parseFieldDescriptor (T k).2.2.1 = some (ty0 k)) (hnm : ∀ a, a < N → ∀ b, b < N → a ≠ b → (T a).2.1 ≠ (T b).2.1) (hown : s.vm.findClass own = some m.cls) (hK : pw_K D cy s) (hP : pw_P D cy Ad sh C H) (hI : pw_I Ad sh) (hS0 : va_S (pw_fr Ad sh) H0 H locs) (k : Nat) (hs : sh k = (6, ci, b)) (hc : vwCl[ci]? = some (Cn, T, N)) (j : Nat) (hj : j < N) {fs : List Value} (hf : C.2.2 k = fs)
    (hlink : (Cond.fieldLink own index (T j).1 (T j).2.1 (T j).2.2.1).before args s = true) (hfin : (T j).2.2.2 = false) {ty : FieldType} {v : Value} (hd : parseFieldDescriptor (T j).2.2.1 = some ty) (hn : narrow ty v = v) (hfit : fits ty v = true) (hl : j < fs.length) (hdg : decode cc pc = .ok (.putfield index, 3))
    (kk : ∀ (H1 : Heap) (locs1 : List Loc), pw_P D cy Ad sh (pw_setF C k (fs.set j v)) H1 → va_S (pw_fr Ad sh) H0 H1 locs1 → H1.size = H.size → W p l e R s m args below meth c H1 locs1 cells slots Q (F0 m (pc + 3) ls rest)) : W p l e R s m args below meth c H locs cells slots Q (F0 m pc ls (v :: .ref (Ad k) :: rest)) := by
  have h0 : pw_E cy Ad sh C k = some (.inr (ci, fs)) := by simp [pw_E, hs, hf]
  have hap := va_apart (own := own) hts hin ty0 hty hnm hK.1 hc
  obtain ⟨r, h1, cell, q1, q2, q3, q4⟩ := hP k _ h0
  have hr : r = (Cn, T, N) := Option.some.inj (h1.symm.trans hc)
  subst hr
  obtain ⟨hS, hfc, kC, hkC, hkind⟩ := hK.1.1 ci _ hc
  obtain ⟨cf, kf, fi, f, hi, hsl⟩ := hS j hj
  have hlay := hts _ (hin _ (u_in_lay hj))
  unfold u_lay at hlay
  rw [if_neg (by rw [hfin]; decide)] at hlay
  have hst := (u_facts hfc hkC (u_lays hts hin hj) hi).1
  have h6 := u_store hfc hkC hkind hlay hi hd hn hfit
  refine W.putK hexec hb (f := f) ⟨hown, hlink, ⟨_, _, _, hi⟩, hst⟩ (by rw [q2]; exact h6) q1 q3 (by rw [hsl]; exact k2_hasslot (q4 j hj)) rfl rfl hdg fun H' e1 e2 e3 => ?_
  rw [hsl] at e1 ⊢
  refine kk H' _ (pw_store hP hI h0 (pw_setF C k (fs.set j v)) (e1 := .inr (ci, fs.set j v)) (by simp [pw_E, hs, pw_setF]) (fun i hi => by simp [pw_E, pw_setF, hi]) ?_ e3) (hS0.put e2 e3 ⟨k, pw_E_L h0, rfl⟩) e2
  exact ⟨_, hc, t_OB.to (V := updV (vp_V fs) j v) ⟨_, e1, q2, q3, t_set q4 hap hj v⟩ (fun i _ => vp_updV_set hl v i)⟩
end PW7
def fO (j : Nat) : Bool := (j == 3 || j == 14) || j == 15
def fT (j : Nat) : Bool := ((((j == 4 || j == 16) || j == 17) || j == 18) || j == 19) || j == 20

set_option maxHeartbeats 4000000 in
set_option maxRecDepth 100000 in
theorem c_X2_init (l : Launch) (D : va_G) (cy : Nat → ClassId) (Ad : Nat → Nat) (z : Nat) (n : Nat) (hI0 : pw_I Ad (shX n)) (hA14 : Ad 14 = z) (hA15 : Ad 15 = z + 1) : Met l yX2_init wsX2_init (pw_rm 1 23 2 264) (pw_PreN ([.ref (Ad 3)]) z D cy Ad (shR (fun j => j == 3) (shX n)) (zC ([.null, .null]))) (pw_PostN (fun C' => C'.2.2 3 = ([.ref (Ad 14), .ref (Ad 15)] : List Value) ∧ ∀ j, j < 8 → C'.1 14 j = nI 255) (z + 2) D cy Ad (shR fO (shX n))) 2 264 (pw_fr Ad (shR fO (shX n))) := by
  refine Met.ofW (cc := cX2_init) (maxL := 1) (ret := none) (by decide) rfl ?_
  intro p e s m args below meth c s₁ B hml hv
  obtain ⟨rfl, hz, hP, hK, hO⟩ := hv
  have hx := B.exec
  have hb := B.bytes
  have hr := B.returns
  have hts := atoms_spec (ws := wsX2_init) B.pre
  have hown : s.vm.findClass RX2 = some m.cls := findClass_of_methodNamed B.named
  have hlocks := B.notSynchronized
  have S : CallFix p m c cX2_init 1 s ([.ref (Ad 3)]).toArray wsX2_init RX2 := ⟨hx, hb, hml, hown, hts⟩
  change W p l e (pw_rm 1 23 2 264) s m _ below meth c s.heap [] 0 0 _ _
  have hl := lv_entry ([.ref (Ad 3)]) (n := 1) (Nat.le_of_ble_eq_true rfl)
  rw [lg_entry_eq]
  generalize (lg_sl ([.ref (Ad 3)]) ++ List.replicate (1 - (lg_sl ([.ref (Ad 3)])).length) Slot.unset).toArray = ls at hl ⊢
  have hl : lv_has ls 1 [(0, .ref (Ad 3))] := hl
  have hin2 : meth.name = "<init>" := (name_of_methodNamed B.named B.method).1
  have hS : va_S (pw_fr Ad (shR (fun j => j == 3) (shX n))) s.heap s.heap [] := va_S.rf
  have hI : pw_I Ad (shR (fun j => j == 3) (shX n)) := hI0.R
  obtain ⟨C, hC⟩ : ∃ z9, z9 = zC ([.null, .null]) := ⟨_, rfl⟩
  rw [← hC] at hP
  have hF : C.2.2 3 = ([.null, .null] : List Value) := by rw [hC]; rfl
  have hZ : C.1 = (zC []).1 ∧ C.2.1 = (zC []).2.1 := by rw [hC]; exact ⟨rfl, rfl⟩
  refine lv_aload_n hx hb dX2_init_0 rfl (lv_at hl 0 rfl) ?_
  refine W.objInit hx hb hown (hts (.methodLink RX2 3 objectInit) (List.mem_of_getElem? (i := 1) rfl)) (hts (.instanceMethod objectInit) (List.mem_of_getElem? (i := 2) rfl)) (hts (.code objectInit ⟨#[0xb1]⟩ 1 none) (List.mem_of_getElem? (i := 3) rfl)) rfl (by rw [hml]; exact hl.1) rfl dX2_init_1 (Nat.le_of_ble_eq_true rfl) (Nat.le_of_ble_eq_true rfl) ?_
  refine W.eq (g2 := F0 m 4 ls []) rfl ?_
  refine lv_aload_n hx hb dX2_init_4 rfl (lv_at hl 0 rfl) ?_
  refine lv_bipush (v := nI 8) hx hb dX2_init_5 (by decide) ?_
  refine pw_nai hx hb (hts (.arrayClass .int) (List.mem_of_getElem? (i := 4) rfl)) hK hP hI0 hS 14 rfl (fun i => by rw [hZ.1]; rfl) (by omega) (by omega) (by simp only [pw_rm]; omega) (by simp only [pw_rm]; omega) dX2_init_7 (fun H hP hI hS hz9 => ?_)
  have hz : H.size = z + (0 + 1) := by omega
  refine pw_putF hx hb hts (fun _ h9 => List.mem_cons_of_mem _ (List.mem_append_right _ h9)) tyX2 tyX2_ok nmX2 hown hK hP hI hS 3 rfl rfl 0 (by decide) hF (hts (.fieldLink RX2 9 "PastDraws$Orders" "allowed" "[I") (List.mem_of_getElem? (i := 5) rfl)) rfl hin2 rfl (ty := .array .int) (by decide +kernel) rfl rfl (Nat.le_of_ble_eq_true rfl) dX2_init_9 (fun H locs hP hS hz9 => ?_)
  have hz : H.size = z + (0 + 1) := hz9.trans hz
  obtain ⟨C9, hC9⟩ : ∃ z9, z9 = pw_setF C 3 ([.ref (Ad 14), .null] : List Value) := ⟨_, rfl⟩
  have hP := hP.eqC (C' := C9) (by rw [hC9]; rfl)
  have hF : C9.2.2 3 = ([.ref (Ad 14), .null] : List Value) := by rw [hC9]; rfl
  have hZ : C9.1 = (zC []).1 ∧ C9.2.1 = (zC []).2.1 := by rw [hC9]; exact hZ
  refine lv_aload_n hx hb dX2_init_12 rfl (lv_at hl 0 rfl) ?_
  refine lv_sipush (v := nI 256) hx hb dX2_init_13 (by decide) ?_
  refine pw_nai hx hb (hts (.arrayClass .int) (List.mem_of_getElem? (i := 4) rfl)) hK hP hI0 hS 15 rfl (fun i => by rw [hZ.1]; rfl) (by omega) (by omega) (by simp only [pw_rm]; omega) (by simp only [pw_rm]; omega) dX2_init_16 (fun H hP hI hS hz9 => ?_)
  have hz : H.size = z + (0 + 1 + 1) := by omega
  refine pw_putF hx hb hts (fun _ h9 => List.mem_cons_of_mem _ (List.mem_append_right _ h9)) tyX2 tyX2_ok nmX2 hown hK hP hI hS 3 rfl rfl 1 (by decide) hF (hts (.fieldLink RX2 15 "PastDraws$Orders" "ways" "[I") (List.mem_of_getElem? (i := 6) rfl)) rfl hin2 rfl (ty := .array .int) (by decide +kernel) rfl rfl (Nat.le_of_ble_eq_true rfl) dX2_init_18 (fun H locs hP hS hz9 => ?_)
  have hz : H.size = z + (0 + 1 + 1) := hz9.trans hz
  obtain ⟨C18, hC18⟩ : ∃ z9, z9 = pw_setF C9 3 ([.ref (Ad 14), .ref (Ad 15)] : List Value) := ⟨_, rfl⟩
  have hP := hP.eqC (C' := C18) (by rw [hC18]; rfl)
  have hF : C18.2.2 3 = ([.ref (Ad 14), .ref (Ad 15)] : List Value) := by rw [hC18]; rfl
  have hZ : C18.1 = (zC []).1 ∧ C18.2.1 = (zC []).2.1 := by rw [hC18]; exact hZ
  refine lv_aload_n hx hb dX2_init_21 rfl (lv_at hl 0 rfl) ?_
  refine pw_get hx hb hts (fun _ h9 => List.mem_cons_of_mem _ (List.mem_append_right _ h9)) hown hK hP 3 rfl rfl 0 (by decide) hF rfl (hts (.fieldLink RX2 9 "PastDraws$Orders" "allowed" "[I") (List.mem_of_getElem? (i := 5) rfl)) dX2_init_22 ?_
  refine lv_sipush (v := nI 255) hx hb dX2_init_25 (by decide) ?_
  refine pw_csW S hK hP 2 (c_J7_fill_53178 l D cy Ad _ C18 hI 14 8 0 rfl (by omega) (nI 255)) gX2_init_J7_fill_53178 rfl rfl rfl (by decide +kernel) ⟨Nat.le_of_ble_eq_true rfl, Nat.le_of_ble_eq_true rfl⟩ rfl hl.1 rfl (Nat.le_of_ble_eq_true rfl) dX2_init_28 ⟨(by simp only [pw_rm]; omega), (by simp only [pw_rm]; omega)⟩ hS (fun _ h9 => h9) (fun r9 C28 H locs hR hP _ _ hS => ?_)
  obtain ⟨rfl, hR⟩ := hR
  change W p l e _ s m _ below meth c H locs _ _ _ (F0 m 31 ls [])
  refine pw_sz (fun hsz => ?_)
  have hlt := (hP 15 _ (show pw_E cy Ad _ _ 15 = some _ from rfl)).lt
  have hzz : H.size = z + 2 := by have h9 : Ad 15 < H.size := hlt; omega
  refine W.widen (k := 2) (n := 264) (by omega) (by omega) ?_
  exact W.vret hx hb hr (fun t ht _ => ⟨⟨C28, rfl, ⟨(by rw [hR.1.2]; exact hF), hR.2⟩, by rw [ht]; exact hP, by rw [ht]; exact hzz⟩, hS.F ht⟩) hS.2.2 dX2_init_31

set_option maxHeartbeats 4000000 in
set_option maxRecDepth 100000 in
theorem c_X3_init (l : Launch) (D : va_G) (cy : Nat → ClassId) (Ad : Nat → Nat) (z : Nat) (n : Nat) (hI0 : pw_I Ad (shX n)) (hA16 : Ad 16 = z) (hA17 : Ad 17 = z + 1) (hA18 : Ad 18 = z + 2) (hA19 : Ad 19 = z + 3) (hA20 : Ad 20 = z + 4) : Met l yX3_init wsX3_init (pw_rm 1 23 5 80) (pw_PreN ([.ref (Ad 4)]) z D cy Ad (shR (fun j => j == 4) (shX n)) (zC ([.null, .null, .null, .null, .null, .int 0]))) (pw_PostN (fun C' => C'.2.2 4 = ([.ref (Ad 16), .ref (Ad 17), .ref (Ad 18), .ref (Ad 19), .ref (Ad 20), .int (nI 1)] : List Value) ∧ ∀ j, j < 16 → C'.1 16 j = nI 1) (z + 5) D cy Ad (shR fT (shX n))) 5 80 (pw_fr Ad (shR fT (shX n))) := by
  refine Met.ofW (cc := cX3_init) (maxL := 1) (ret := none) (by decide) rfl ?_
  intro p e s m args below meth c s₁ B hml hv
  obtain ⟨rfl, hz, hP, hK, hO⟩ := hv
  have hx := B.exec
  have hb := B.bytes
  have hr := B.returns
  have hts := atoms_spec (ws := wsX3_init) B.pre
  have hown : s.vm.findClass RX3 = some m.cls := findClass_of_methodNamed B.named
  have hlocks := B.notSynchronized
  have S : CallFix p m c cX3_init 1 s ([.ref (Ad 4)]).toArray wsX3_init RX3 := ⟨hx, hb, hml, hown, hts⟩
  change W p l e (pw_rm 1 23 5 80) s m _ below meth c s.heap [] 0 0 _ _
  have hl := lv_entry ([.ref (Ad 4)]) (n := 1) (Nat.le_of_ble_eq_true rfl)
  rw [lg_entry_eq]
  generalize (lg_sl ([.ref (Ad 4)]) ++ List.replicate (1 - (lg_sl ([.ref (Ad 4)])).length) Slot.unset).toArray = ls at hl ⊢
  have hl : lv_has ls 1 [(0, .ref (Ad 4))] := hl
  have hin2 : meth.name = "<init>" := (name_of_methodNamed B.named B.method).1
  have hS : va_S (pw_fr Ad (shR (fun j => j == 4) (shX n))) s.heap s.heap [] := va_S.rf
  have hI : pw_I Ad (shR (fun j => j == 4) (shX n)) := hI0.R
  obtain ⟨C, hC⟩ : ∃ z9, z9 = zC ([.null, .null, .null, .null, .null, .int 0]) := ⟨_, rfl⟩
  rw [← hC] at hP
  have hF : C.2.2 4 = ([.null, .null, .null, .null, .null, .int 0] : List Value) := by rw [hC]; rfl
  have hZ : C.1 = (zC []).1 ∧ C.2.1 = (zC []).2.1 := by rw [hC]; exact ⟨rfl, rfl⟩
  refine lv_aload_n hx hb dX3_init_0 rfl (lv_at hl 0 rfl) ?_
  refine W.objInit hx hb hown (hts (.methodLink RX3 3 objectInit) (List.mem_of_getElem? (i := 1) rfl)) (hts (.instanceMethod objectInit) (List.mem_of_getElem? (i := 2) rfl)) (hts (.code objectInit ⟨#[0xb1]⟩ 1 none) (List.mem_of_getElem? (i := 3) rfl)) rfl (by rw [hml]; exact hl.1) rfl dX3_init_1 (Nat.le_of_ble_eq_true rfl) (Nat.le_of_ble_eq_true rfl) ?_
  refine W.eq (g2 := F0 m 4 ls []) rfl ?_
  refine lv_aload_n hx hb dX3_init_4 rfl (lv_at hl 0 rfl) ?_
  refine lv_bipush (v := nI 16) hx hb dX3_init_5 (by decide) ?_
  refine pw_nai hx hb (hts (.arrayClass .int) (List.mem_of_getElem? (i := 4) rfl)) hK hP hI0 hS 16 rfl (fun i => by rw [hZ.1]; rfl) (by omega) (by omega) (by simp only [pw_rm]; omega) (by simp only [pw_rm]; omega) dX3_init_7 (fun H hP hI hS hz9 => ?_)
  have hz : H.size = z + (0 + 1) := by omega
  refine pw_putF hx hb hts (fun _ h9 => List.mem_cons_of_mem _ (List.mem_append_right _ h9)) tyX3 tyX3_ok nmX3 hown hK hP hI hS 4 rfl rfl 0 (by decide) hF (hts (.fieldLink RX3 9 "PastDraws$Table" "weights" "[I") (List.mem_of_getElem? (i := 5) rfl)) rfl hin2 rfl (ty := .array .int) (by decide +kernel) rfl rfl (Nat.le_of_ble_eq_true rfl) dX3_init_9 (fun H locs hP hS hz9 => ?_)
  have hz : H.size = z + (0 + 1) := hz9.trans hz
  obtain ⟨C9, hC9⟩ : ∃ z9, z9 = pw_setF C 4 ([.ref (Ad 16), .null, .null, .null, .null, .int 0] : List Value) := ⟨_, rfl⟩
  have hP := hP.eqC (C' := C9) (by rw [hC9]; rfl)
  have hF : C9.2.2 4 = ([.ref (Ad 16), .null, .null, .null, .null, .int 0] : List Value) := by rw [hC9]; rfl
  have hZ : C9.1 = (zC []).1 ∧ C9.2.1 = (zC []).2.1 := by rw [hC9]; exact hZ
  refine lv_aload_n hx hb dX3_init_12 rfl (lv_at hl 0 rfl) ?_
  refine lv_bipush (v := nI 16) hx hb dX3_init_13 (by decide) ?_
  refine pw_nai hx hb (hts (.arrayClass .int) (List.mem_of_getElem? (i := 4) rfl)) hK hP hI0 hS 17 rfl (fun i => by rw [hZ.1]; rfl) (by omega) (by omega) (by simp only [pw_rm]; omega) (by simp only [pw_rm]; omega) dX3_init_15 (fun H hP hI hS hz9 => ?_)
  have hz : H.size = z + (0 + 1 + 1) := by omega
  refine pw_putF hx hb hts (fun _ h9 => List.mem_cons_of_mem _ (List.mem_append_right _ h9)) tyX3 tyX3_ok nmX3 hown hK hP hI hS 4 rfl rfl 1 (by decide) hF (hts (.fieldLink RX3 15 "PastDraws$Table" "rest" "[I") (List.mem_of_getElem? (i := 6) rfl)) rfl hin2 rfl (ty := .array .int) (by decide +kernel) rfl rfl (Nat.le_of_ble_eq_true rfl) dX3_init_17 (fun H locs hP hS hz9 => ?_)
  have hz : H.size = z + (0 + 1 + 1) := hz9.trans hz
  obtain ⟨C17, hC17⟩ : ∃ z9, z9 = pw_setF C9 4 ([.ref (Ad 16), .ref (Ad 17), .null, .null, .null, .int 0] : List Value) := ⟨_, rfl⟩
  have hP := hP.eqC (C' := C17) (by rw [hC17]; rfl)
  have hF : C17.2.2 4 = ([.ref (Ad 16), .ref (Ad 17), .null, .null, .null, .int 0] : List Value) := by rw [hC17]; rfl
  have hZ : C17.1 = (zC []).1 ∧ C17.2.1 = (zC []).2.1 := by rw [hC17]; exact hZ
  refine lv_aload_n hx hb dX3_init_20 rfl (lv_at hl 0 rfl) ?_
  refine lv_bipush (v := nI 16) hx hb dX3_init_21 (by decide) ?_
  refine pw_nai hx hb (hts (.arrayClass .int) (List.mem_of_getElem? (i := 4) rfl)) hK hP hI0 hS 18 rfl (fun i => by rw [hZ.1]; rfl) (by omega) (by omega) (by simp only [pw_rm]; omega) (by simp only [pw_rm]; omega) dX3_init_23 (fun H hP hI hS hz9 => ?_)
  have hz : H.size = z + (0 + 1 + 1 + 1) := by omega
  refine pw_putF hx hb hts (fun _ h9 => List.mem_cons_of_mem _ (List.mem_append_right _ h9)) tyX3 tyX3_ok nmX3 hown hK hP hI hS 4 rfl rfl 2 (by decide) hF (hts (.fieldLink RX3 18 "PastDraws$Table" "limit" "[I") (List.mem_of_getElem? (i := 7) rfl)) rfl hin2 rfl (ty := .array .int) (by decide +kernel) rfl rfl (Nat.le_of_ble_eq_true rfl) dX3_init_25 (fun H locs hP hS hz9 => ?_)
  have hz : H.size = z + (0 + 1 + 1 + 1) := hz9.trans hz
  obtain ⟨C25, hC25⟩ : ∃ z9, z9 = pw_setF C17 4 ([.ref (Ad 16), .ref (Ad 17), .ref (Ad 18), .null, .null, .int 0] : List Value) := ⟨_, rfl⟩
  have hP := hP.eqC (C' := C25) (by rw [hC25]; rfl)
  have hF : C25.2.2 4 = ([.ref (Ad 16), .ref (Ad 17), .ref (Ad 18), .null, .null, .int 0] : List Value) := by rw [hC25]; rfl
  have hZ : C25.1 = (zC []).1 ∧ C25.2.1 = (zC []).2.1 := by rw [hC25]; exact hZ
  refine lv_aload_n hx hb dX3_init_28 rfl (lv_at hl 0 rfl) ?_
  refine lv_bipush (v := nI 16) hx hb dX3_init_29 (by decide) ?_
  refine pw_nai hx hb (hts (.arrayClass .int) (List.mem_of_getElem? (i := 4) rfl)) hK hP hI0 hS 19 rfl (fun i => by rw [hZ.1]; rfl) (by omega) (by omega) (by simp only [pw_rm]; omega) (by simp only [pw_rm]; omega) dX3_init_31 (fun H hP hI hS hz9 => ?_)
  have hz : H.size = z + (0 + 1 + 1 + 1 + 1) := by omega
  refine pw_putF hx hb hts (fun _ h9 => List.mem_cons_of_mem _ (List.mem_append_right _ h9)) tyX3 tyX3_ok nmX3 hown hK hP hI hS 4 rfl rfl 3 (by decide) hF (hts (.fieldLink RX3 21 "PastDraws$Table" "other" "[I") (List.mem_of_getElem? (i := 8) rfl)) rfl hin2 rfl (ty := .array .int) (by decide +kernel) rfl rfl (Nat.le_of_ble_eq_true rfl) dX3_init_33 (fun H locs hP hS hz9 => ?_)
  have hz : H.size = z + (0 + 1 + 1 + 1 + 1) := hz9.trans hz
  obtain ⟨C33, hC33⟩ : ∃ z9, z9 = pw_setF C25 4 ([.ref (Ad 16), .ref (Ad 17), .ref (Ad 18), .ref (Ad 19), .null, .int 0] : List Value) := ⟨_, rfl⟩
  have hP := hP.eqC (C' := C33) (by rw [hC33]; rfl)
  have hF : C33.2.2 4 = ([.ref (Ad 16), .ref (Ad 17), .ref (Ad 18), .ref (Ad 19), .null, .int 0] : List Value) := by rw [hC33]; rfl
  have hZ : C33.1 = (zC []).1 ∧ C33.2.1 = (zC []).2.1 := by rw [hC33]; exact hZ
  refine lv_aload_n hx hb dX3_init_36 rfl (lv_at hl 0 rfl) ?_
  refine lv_bipush (v := nI 16) hx hb dX3_init_37 (by decide) ?_
  refine pw_naz hx hb (hts (.arrayClass .boolean) (List.mem_of_getElem? (i := 9) rfl)) hK hP hI0 hS 20 rfl (fun i => by rw [hZ.1]; rfl) (by omega) (by omega) (by simp only [pw_rm]; omega) (by simp only [pw_rm]; omega) dX3_init_39 (fun H hP hI hS hz9 => ?_)
  have hz : H.size = z + (0 + 1 + 1 + 1 + 1 + 1) := by omega
  refine pw_putF hx hb hts (fun _ h9 => List.mem_cons_of_mem _ (List.mem_append_right _ h9)) tyX3 tyX3_ok nmX3 hown hK hP hI hS 4 rfl rfl 4 (by decide) hF (hts (.fieldLink RX3 24 "PastDraws$Table" "isMade" "[Z") (List.mem_of_getElem? (i := 10) rfl)) rfl hin2 rfl (ty := .array .boolean) (by decide +kernel) rfl rfl (Nat.le_of_ble_eq_true rfl) dX3_init_41 (fun H locs hP hS hz9 => ?_)
  have hz : H.size = z + (0 + 1 + 1 + 1 + 1 + 1) := hz9.trans hz
  obtain ⟨C41, hC41⟩ : ∃ z9, z9 = pw_setF C33 4 ([.ref (Ad 16), .ref (Ad 17), .ref (Ad 18), .ref (Ad 19), .ref (Ad 20), .int 0] : List Value) := ⟨_, rfl⟩
  have hP := hP.eqC (C' := C41) (by rw [hC41]; rfl)
  have hF : C41.2.2 4 = ([.ref (Ad 16), .ref (Ad 17), .ref (Ad 18), .ref (Ad 19), .ref (Ad 20), .int 0] : List Value) := by rw [hC41]; rfl
  have hZ : C41.1 = (zC []).1 ∧ C41.2.1 = (zC []).2.1 := by rw [hC41]; exact hZ
  refine lv_aload_n hx hb dX3_init_44 rfl (lv_at hl 0 rfl) ?_
  refine lv_iconst (v := nI 1) hx hb dX3_init_45 (by decide) ?_
  refine pw_putZ hx hb hts (fun _ h9 => List.mem_cons_of_mem _ (List.mem_append_right _ h9)) tyX3 tyX3_ok nmX3 hown hK hP hI hS 4 rfl rfl 5 (by decide) hF (hts (.fieldLink RX3 28 "PastDraws$Table" "m" "I") (List.mem_of_getElem? (i := 11) rfl)) rfl (ty := .int) (by decide +kernel) rfl rfl (Nat.le_of_ble_eq_true rfl) dX3_init_46 (fun H locs hP hS hz9 => ?_)
  have hz : H.size = z + (0 + 1 + 1 + 1 + 1 + 1) := hz9.trans hz
  obtain ⟨C46, hC46⟩ : ∃ z9, z9 = pw_setF C41 4 ([.ref (Ad 16), .ref (Ad 17), .ref (Ad 18), .ref (Ad 19), .ref (Ad 20), .int (nI 1)] : List Value) := ⟨_, rfl⟩
  have hP := hP.eqC (C' := C46) (by rw [hC46]; rfl)
  have hF : C46.2.2 4 = ([.ref (Ad 16), .ref (Ad 17), .ref (Ad 18), .ref (Ad 19), .ref (Ad 20), .int (nI 1)] : List Value) := by rw [hC46]; rfl
  have hZ : C46.1 = (zC []).1 ∧ C46.2.1 = (zC []).2.1 := by rw [hC46]; exact hZ
  refine lv_aload_n hx hb dX3_init_49 rfl (lv_at hl 0 rfl) ?_
  refine pw_get hx hb hts (fun _ h9 => List.mem_cons_of_mem _ (List.mem_append_right _ h9)) hown hK hP 4 rfl rfl 0 (by decide) hF rfl (hts (.fieldLink RX3 9 "PastDraws$Table" "weights" "[I") (List.mem_of_getElem? (i := 5) rfl)) dX3_init_50 ?_
  refine lv_iconst (v := nI 1) hx hb dX3_init_53 (by decide) ?_
  refine pw_csW S hK hP 2 (c_J7_fill_53178 l D cy Ad _ C46 hI 16 16 0 rfl (by omega) (nI 1)) gX3_init_J7_fill_53178 rfl rfl rfl (by decide +kernel) ⟨Nat.le_of_ble_eq_true rfl, Nat.le_of_ble_eq_true rfl⟩ rfl hl.1 rfl (Nat.le_of_ble_eq_true rfl) dX3_init_54 ⟨(by simp only [pw_rm]; omega), (by simp only [pw_rm]; omega)⟩ hS (fun _ h9 => h9) (fun r9 C54 H locs hR hP _ _ hS => ?_)
  obtain ⟨rfl, hR⟩ := hR
  change W p l e _ s m _ below meth c H locs _ _ _ (F0 m 57 ls [])
  refine pw_sz (fun hsz => ?_)
  have hlt := (hP 20 _ (show pw_E cy Ad _ _ 20 = some _ from rfl)).lt
  have hzz : H.size = z + 5 := by have h9 : Ad 20 < H.size := hlt; omega
  refine W.widen (k := 5) (n := 80) (by omega) (by omega) ?_
  exact W.vret hx hb hr (fun t ht _ => ⟨⟨C54, rfl, ⟨(by rw [hR.1.2]; exact hF), hR.2⟩, by rw [ht]; exact hP, by rw [ht]; exact hzz⟩, hS.F ht⟩) hS.2.2 dX3_init_57
