/-- the machine -/
def gM (n : Nat) (mx : Nat → Nat → Option Nat) (C : pw_C) : Prop := ∀ x, x < n → ∀ c, c < 4 → (∀ y, mx x c = some y → y < n) ∧ C.1 (41 + x) c = oi (mx x c)
def gE (n : Nat) (en : Nat → Bool) (C : pw_C) : Prop := ∀ x, x < n → C.1 12 x = pb (en x)
theorem gM_B {n : Nat} {mx : Nat → Nat → Option Nat} {ks : Nat → Prop} {C C' : pw_C} (h : gM n mx C) (hB : pw_B ks C C') (hk : ∀ u, u < n → ¬ ks (41 + u)) : gM n mx C' := fun x hx c hc => by
  rw [(hB.1 _ (hk x hx)).1]; exact h x hx c hc
theorem gE_B {n : Nat} {en : Nat → Bool} {ks : Nat → Prop} {C C' : pw_C} (h : gE n en C) (hB : pw_B ks C C') (hk : ¬ ks 12) : gE n en C' := fun x hx => by
  rw [(hB.1 _ hk).1]; exact h x hx
theorem ni_m2 {y : Nat} (h : y < 2 ^ 31) : ¬ nI y = (-2) := fun q => by
  have h1 := nI_toInt h
  rw [q] at h1
  have : (-2 : Int32).toInt = -2 := by decide
  omega
def wv (mx : Nat → Nat → Option Nat) (g : Nat → Int64) (x c : Nat) : Int64 := match mx x c with
  | none => 0
  | some y => g y
def cbS (mx : Nat → Nat → Option Nat) (g : Nat → Int64) (x : Nat) : Nat → Int64
  | 0 => 0
  | c + 1 => cbS mx g x c + wv mx g x c
def cnW (mx : Nat → Nat → Option Nat) (en : Nat → Bool) : Nat → Nat → Int64
  | 0, x => if en x = true then 1 else 0
  | l + 1, x => cbS mx (cnW mx en l) x 4

set_option maxHeartbeats 4000000 in
set_option maxRecDepth 100000 in
theorem c_X1_setStep (l : Launch) (D : va_G) (cy : Nat → ClassId) (Ad : Nat → Nat) (n mm : Nat) (C : pw_C) (hI : pw_I Ad (shX n)) (hn : 1 ≤ n ∧ n ≤ 12) (hF : fX n mm Ad C) (mx : Nat → Nat → Option Nat) (hM : gM n mx C) (x ch : Nat) (y : Int32) (hx0 : x < n) (hc : ch < 4) : Met l yX1_setStep wsX1_setStep (k2_rm 0 0) (pw_Pre ([.ref (Ad 2), .int (nI x), .int (nI ch), .int y]) D cy Ad (shX n) C) (pw_Post (fun r9 C' => r9 = some (.int (oi (mx x ch))) ∧ (C' = pw_setI C (41 + x) ch y)) D cy Ad (shX n)) 0 0 (pw_fr Ad (shX n)) := by
  refine Met.ofW (cc := cX1_setStep) (maxL := 5) (ret := (some .int)) (by decide) rfl ?_
  intro p e s m args below meth c s₁ B hml hv
  obtain ⟨rfl, hP, hK⟩ := hv
  have hx := B.exec
  have hb := B.bytes
  have hr := B.returns
  have hts := atoms_spec (ws := wsX1_setStep) B.pre
  have hown : s.vm.findClass RX1 = some m.cls := findClass_of_methodNamed B.named
  have hlocks := B.notSynchronized
  have S : CallFix p m c cX1_setStep 5 s ([.ref (Ad 2), .int (nI x), .int (nI ch), .int y]).toArray wsX1_setStep RX1 := ⟨hx, hb, hml, hown, hts⟩
  change W p l e (k2_rm 0 0) s m _ below meth c s.heap [] 0 0 _ _
  have hl := lv_entry ([.ref (Ad 2), .int (nI x), .int (nI ch), .int y]) (n := 5) (Nat.le_of_ble_eq_true rfl)
  rw [lg_entry_eq]
  generalize (lg_sl ([.ref (Ad 2), .int (nI x), .int (nI ch), .int y]) ++ List.replicate (5 - (lg_sl ([.ref (Ad 2), .int (nI x), .int (nI ch), .int y])).length) Slot.unset).toArray = ls at hl ⊢
  have hl : lv_has ls 5 [(0, .ref (Ad 2)), (1, .int (nI x)), (2, .int (nI ch)), (3, .int y)] := hl
  have hS : va_S (pw_fr Ad (shX n)) s.heap s.heap [] := va_S.rf
  have hB : pw_B (fun k => k = 41 + x) C C := pw_B.rf
  refine lv_aload_n hx hb dX1_setStep_0 rfl (lv_at hl 0 rfl) ?_
  refine pw_get hx hb hts (fun _ h9 => List.mem_cons_of_mem _ (List.mem_append_right _ h9)) hown hK hP 2 rfl rfl 1 (by decide) hF.2.2.1 rfl (hts (.fieldLink RX1 17 "PastDraws$Machine" "next" "[[I") (List.mem_of_getElem? (i := 1) rfl)) dX1_setStep_1 ?_
  refine lv_iload_n hx hb dX1_setStep_4 rfl (lv_at hl 1 rfl) ?_
  refine pw_aald4 hx hb hK hP 11 rfl (by first | exact sgn_lt _ _ | omega) (by omega) dX1_setStep_5 ?_
  refine lv_iload_n hx hb dX1_setStep_6 rfl (lv_at hl 2 rfl) ?_
  have hu_7 : x < n := (by first | exact sgn_lt _ _ | omega)
  have hx_7 : ch < 4 := (by first | exact sgn_lt _ _ | omega)
  refine pw_iald hx hb hK hP (41 + x) (shX_mx hu_7 (by omega)) hx_7 (by decide) (hM _ hu_7 _ hx_7).2 dX1_setStep_7 ?_
  refine lv_istore (lv' := [(4, .int (oi (mx x ch))), (0, .ref (Ad 2)), (1, .int (nI x)), (2, .int (nI ch)), (3, .int y)]) hx hb dX1_setStep_8 hl (by decide) rfl (fun ls hl => ?_)
  refine lv_aload_n hx hb dX1_setStep_10 rfl (lv_at hl 1 rfl) ?_
  refine pw_get hx hb hts (fun _ h9 => List.mem_cons_of_mem _ (List.mem_append_right _ h9)) hown hK hP 2 rfl rfl 1 (by decide) hF.2.2.1 rfl (hts (.fieldLink RX1 17 "PastDraws$Machine" "next" "[[I") (List.mem_of_getElem? (i := 1) rfl)) dX1_setStep_11 ?_
  refine lv_iload_n hx hb dX1_setStep_14 rfl (lv_at hl 2 rfl) ?_
  refine pw_aald4 hx hb hK hP 11 rfl (by first | exact sgn_lt _ _ | omega) (by omega) dX1_setStep_15 ?_
  refine lv_iload_n hx hb dX1_setStep_16 rfl (lv_at hl 3 rfl) ?_
  refine lv_iload_n hx hb dX1_setStep_17 rfl (lv_at hl 4 rfl) ?_
  refine pw_iast hx hb hK hP hI hS (41 + x) (shX_mx (by first | exact sgn_lt _ _ | omega) (by omega)) (by first | exact sgn_lt _ _ | omega) (by first | decide | omega) dX1_setStep_18 (fun H locs hP hS => ?_)
  obtain ⟨C18, hC18⟩ : ∃ z9, z9 = pw_setI C (41 + x) ch y := ⟨_, rfl⟩
  rw [← hC18] at hP
  have hB := by have hB9 := hB; exact (show pw_B (fun k => k = 41 + x) C C18 by rw [hC18]; exact hB9.setI (by show (41 + x) = 41 + x; first | trivial | omega))
  refine lv_iload hx hb dX1_setStep_19 (lv_at hl 0 rfl) ?_
  exact W.iret hx hb hr (fun t ht _ => ⟨⟨(some (.int (oi (mx x ch)))), C18, rfl, ⟨rfl, hC18⟩, by rw [ht]; exact hP⟩, hS.F ht⟩) hS.2.2 dX1_setStep_21

set_option maxHeartbeats 4000000 in
set_option maxRecDepth 100000 in
theorem c_X1_setEnd (l : Launch) (D : va_G) (cy : Nat → ClassId) (Ad : Nat → Nat) (n mm : Nat) (C : pw_C) (hI : pw_I Ad (shX n)) (hn : 1 ≤ n ∧ n ≤ 12) (hF : fX n mm Ad C) (en : Nat → Bool) (hE : gE n en C) (x : Nat) (b : Bool) (hx0 : x < n) : Met l yX1_setEnd wsX1_setEnd (k2_rm 0 0) (pw_Pre ([.ref (Ad 2), .int (nI x), .int (pb b)]) D cy Ad (shX n) C) (pw_Post (fun r9 C' => r9 = some (.int (pb (en x))) ∧ (C' = pw_setI C 12 x (pb b))) D cy Ad (shX n)) 0 0 (pw_fr Ad (shX n)) := by
  refine Met.ofW (cc := cX1_setEnd) (maxL := 4) (ret := (some .boolean)) (by decide) rfl ?_
  intro p e s m args below meth c s₁ B hml hv
  obtain ⟨rfl, hP, hK⟩ := hv
  have hx := B.exec
  have hb := B.bytes
  have hr := B.returns
  have hts := atoms_spec (ws := wsX1_setEnd) B.pre
  have hown : s.vm.findClass RX1 = some m.cls := findClass_of_methodNamed B.named
  have hlocks := B.notSynchronized
  have S : CallFix p m c cX1_setEnd 4 s ([.ref (Ad 2), .int (nI x), .int (pb b)]).toArray wsX1_setEnd RX1 := ⟨hx, hb, hml, hown, hts⟩
  change W p l e (k2_rm 0 0) s m _ below meth c s.heap [] 0 0 _ _
  have hl := lv_entry ([.ref (Ad 2), .int (nI x), .int (pb b)]) (n := 4) (Nat.le_of_ble_eq_true rfl)
  rw [lg_entry_eq]
  generalize (lg_sl ([.ref (Ad 2), .int (nI x), .int (pb b)]) ++ List.replicate (4 - (lg_sl ([.ref (Ad 2), .int (nI x), .int (pb b)])).length) Slot.unset).toArray = ls at hl ⊢
  have hl : lv_has ls 4 [(0, .ref (Ad 2)), (1, .int (nI x)), (2, .int (pb b))] := hl
  have hS : va_S (pw_fr Ad (shX n)) s.heap s.heap [] := va_S.rf
  have hB : pw_B (fun k => k = 12) C C := pw_B.rf
  refine lv_aload_n hx hb dX1_setEnd_0 rfl (lv_at hl 0 rfl) ?_
  refine pw_get hx hb hts (fun _ h9 => List.mem_cons_of_mem _ (List.mem_append_right _ h9)) hown hK hP 2 rfl rfl 2 (by decide) hF.2.2.1 rfl (hts (.fieldLink RX1 20 "PastDraws$Machine" "ends" "[Z") (List.mem_of_getElem? (i := 1) rfl)) dX1_setEnd_1 ?_
  refine lv_iload_n hx hb dX1_setEnd_4 rfl (lv_at hl 1 rfl) ?_
  refine pw_zald hx hb hK hP 12 rfl (by first | exact sgn_lt _ _ | omega) (by first | decide | omega) (v := pb (en x)) (hE x hx0) dX1_setEnd_5 ?_
  refine lv_istore_n (lv' := [(3, .int (pb (en x))), (0, .ref (Ad 2)), (1, .int (nI x)), (2, .int (pb b))]) hx hb dX1_setEnd_6 rfl hl (by decide) rfl (fun ls hl => ?_)
  refine lv_aload_n hx hb dX1_setEnd_7 rfl (lv_at hl 1 rfl) ?_
  refine pw_get hx hb hts (fun _ h9 => List.mem_cons_of_mem _ (List.mem_append_right _ h9)) hown hK hP 2 rfl rfl 2 (by decide) hF.2.2.1 rfl (hts (.fieldLink RX1 20 "PastDraws$Machine" "ends" "[Z") (List.mem_of_getElem? (i := 1) rfl)) dX1_setEnd_8 ?_
  refine lv_iload_n hx hb dX1_setEnd_11 rfl (lv_at hl 2 rfl) ?_
  refine lv_iload_n hx hb dX1_setEnd_12 rfl (lv_at hl 3 rfl) ?_
  refine pw_zast hx hb hK hP hI hS 12 rfl (by first | exact sgn_lt _ _ | omega) (by first | decide | omega) (pb_nar _) dX1_setEnd_13 (fun H locs hP hS => ?_)
  obtain ⟨C13, hC13⟩ : ∃ z9, z9 = pw_setI C 12 x (pb b) := ⟨_, rfl⟩
  rw [← hC13] at hP
  have hB := by have hB9 := hB; exact (show pw_B (fun k => k = 12) C C13 by rw [hC13]; exact hB9.setI (by show 12 = 12; first | trivial | omega))
  refine lv_iload_n hx hb dX1_setEnd_14 rfl (lv_at hl 0 rfl) ?_
  exact W.zret hx hb hr (pb_nar _) (fun t ht _ => ⟨⟨(some (.int (pb (en x)))), C13, rfl, ⟨rfl, hC13⟩, by rw [ht]; exact hP⟩, hS.F ht⟩) hS.2.2 dX1_setEnd_15

set_option maxHeartbeats 4000000 in
set_option maxRecDepth 100000 in
theorem c_X1_countWith (l : Launch) (D : va_G) (cy : Nat → ClassId) (Ad : Nat → Nat) (n mm : Nat) (C : pw_C) (hn : 1 ≤ n ∧ n ≤ 12) (hF : fX n mm Ad C) (mx : Nat → Nat → Option Nat) (hM : gM n mx C) (g : Nat → Int64) (b : Nat) (hb0 : b < 26) (hg : ∀ y, y < n → C.2.1 (53 + b) y = g y) (x ch : Nat) (hx0 : x < n) (hc : ch < 4) : Met l yX1_countWith wsX1_countWith (k2_rm 0 0) (pw_Pre ([.ref (Ad 2), .int (nI x), .int (nI ch), .int (nI b)]) D cy Ad (shX n) C) (k2_QcV (.long (wv mx g x ch))) 0 0 (fun _ => False) := by
  refine Met.ofW (cc := cX1_countWith) (maxL := 5) (ret := (some .long)) (by decide) rfl ?_
  intro p e s m args below meth c s₁ B hml hv
  obtain ⟨rfl, hP, hK⟩ := hv
  have hx := B.exec
  have hb := B.bytes
  have hr := B.returns
  have hts := atoms_spec (ws := wsX1_countWith) B.pre
  have hown : s.vm.findClass RX1 = some m.cls := findClass_of_methodNamed B.named
  have hlocks := B.notSynchronized
  have S : CallFix p m c cX1_countWith 5 s ([.ref (Ad 2), .int (nI x), .int (nI ch), .int (nI b)]).toArray wsX1_countWith RX1 := ⟨hx, hb, hml, hown, hts⟩
  change W p l e (k2_rm 0 0) s m _ below meth c s.heap [] 0 0 _ _
  have hl := lv_entry ([.ref (Ad 2), .int (nI x), .int (nI ch), .int (nI b)]) (n := 5) (Nat.le_of_ble_eq_true rfl)
  rw [lg_entry_eq]
  generalize (lg_sl ([.ref (Ad 2), .int (nI x), .int (nI ch), .int (nI b)]) ++ List.replicate (5 - (lg_sl ([.ref (Ad 2), .int (nI x), .int (nI ch), .int (nI b)])).length) Slot.unset).toArray = ls at hl ⊢
  have hl : lv_has ls 5 [(0, .ref (Ad 2)), (1, .int (nI x)), (2, .int (nI ch)), (3, .int (nI b))] := hl
  refine lv_aload_n hx hb dX1_countWith_0 rfl (lv_at hl 0 rfl) ?_
  refine pw_get hx hb hts (fun _ h9 => List.mem_cons_of_mem _ (List.mem_append_right _ h9)) hown hK hP 2 rfl rfl 1 (by decide) hF.2.2.1 rfl (hts (.fieldLink RX1 17 "PastDraws$Machine" "next" "[[I") (List.mem_of_getElem? (i := 1) rfl)) dX1_countWith_1 ?_
  refine lv_iload_n hx hb dX1_countWith_4 rfl (lv_at hl 1 rfl) ?_
  refine pw_aald4 hx hb hK hP 11 rfl (by first | exact sgn_lt _ _ | omega) (by omega) dX1_countWith_5 ?_
  refine lv_iload_n hx hb dX1_countWith_6 rfl (lv_at hl 2 rfl) ?_
  have hu_7 : x < n := (by first | exact sgn_lt _ _ | omega)
  have hx_7 : ch < 4 := (by first | exact sgn_lt _ _ | omega)
  refine pw_iald hx hb hK hP (41 + x) (shX_mx hu_7 (by omega)) hx_7 (by decide) (hM _ hu_7 _ hx_7).2 dX1_countWith_7 ?_
  rcases ho_8 : mx x ch with _ | y_8
  · refine pw_topi (y := (-2)) rfl ?_
    refine lv_istore (lv' := [(4, .int (-2)), (0, .ref (Ad 2)), (1, .int (nI x)), (2, .int (nI ch)), (3, .int (nI b))]) hx hb dX1_countWith_8 hl (by decide) rfl (fun ls hl => ?_)
    refine lv_iload hx hb dX1_countWith_10 (lv_at hl 0 rfl) ?_
    refine lv_bipush (v := (-2)) hx hb dX1_countWith_12 (by decide) ?_
    refine lv_icmp_ne (tgt := 21) hx hb dX1_countWith_14 (by decide) (fun c_14 => absurd rfl c_14) (fun c_14 => ?_)
    refine lv_lconst (v := 0) hx hb dX1_countWith_17 (by decide) ?_
    refine lv_goto (tgt := 30) hx hb dX1_countWith_18 (by decide) ?_
    refine pw_topl (y := wv mx g x ch) (by unfold wv; rw [ho_8]) ?_
    exact W.lret hx hb hr (fun t ht _ => ⟨rfl, ht⟩) (fun q h => by cases h) dX1_countWith_30
  · have hy_8 : y_8 < n := (hM x hx0 ch hc).1 y_8 ho_8
    refine pw_topi (y := nI y_8) rfl ?_
    refine lv_istore (lv' := [(4, .int (nI y_8)), (0, .ref (Ad 2)), (1, .int (nI x)), (2, .int (nI ch)), (3, .int (nI b))]) hx hb dX1_countWith_8 hl (by decide) rfl (fun ls hl => ?_)
    refine lv_iload hx hb dX1_countWith_10 (lv_at hl 0 rfl) ?_
    refine lv_bipush (v := (-2)) hx hb dX1_countWith_12 (by decide) ?_
    refine lv_icmp_ne (tgt := 21) hx hb dX1_countWith_14 (by decide) (fun c_14 => ?_) (fun c_14 => absurd c_14 (ni_m2 (by omega)))
    refine lv_aload_n hx hb dX1_countWith_21 rfl (lv_at hl 1 rfl) ?_
    refine pw_get hx hb hts (fun _ h9 => List.mem_cons_of_mem _ (List.mem_append_right _ h9)) hown hK hP 2 rfl rfl 3 (by decide) hF.2.2.1 rfl (hts (.fieldLink RX1 26 "PastDraws$Machine" "counts" "[[J") (List.mem_of_getElem? (i := 2) rfl)) dX1_countWith_22 ?_
    refine lv_iload_n hx hb dX1_countWith_25 rfl (lv_at hl 4 rfl) ?_
    refine pw_aald5 hx hb hK hP 13 rfl (by first | exact sgn_lt _ _ | omega) (by decide) dX1_countWith_26 ?_
    refine lv_iload hx hb dX1_countWith_27 (lv_at hl 0 rfl) ?_
    refine pw_lald hx hb hK hP (53 + b) (shX_co (by first | exact sgn_lt _ _ | omega)) (by first | exact sgn_lt _ _ | omega) (by omega) (v := g y_8) (hg _ hy_8) dX1_countWith_29 ?_
    refine pw_topl (y := wv mx g x ch) (by unfold wv; rw [ho_8]) ?_
    exact W.lret hx hb hr (fun t ht _ => ⟨rfl, ht⟩) (fun q h => by cases h) dX1_countWith_30

set_option maxHeartbeats 4000000 in
set_option maxRecDepth 100000 in
theorem L_countBefore {p : Program} {l : Launch} {e : Env} {s : State} {m : MethodId} {args : Array Value} {below : List Frame} {meth : Method} {c : Code} {H : Heap} {locs : List Loc} {Q : State → Prop} (S : CallFix p m c cX1_countBefore 7 s args wsX1_countBefore RX1) {D : va_G} {cy : Nat → ClassId} {Ad : Nat → Nat} {n mm : Nat} {C : pw_C} (hK : pw_K D cy s) (hP : pw_P D cy Ad (shX n) C H) (hF : fX n mm Ad C) (hn : 1 ≤ n ∧ n ≤ 12) {mx : Nat → Nat → Option Nat} (hM : gM n mx C) (g : Nat → Int64) (b : Nat) (hb0 : b < 26) (hg : ∀ y, y < n → C.2.1 (53 + b) y = g y) (x d : Nat) (hx0 : x < n) (hd : d ≤ 4) (hq : ∀ (pc9 : Nat) (ls : Array Slot), decode cX1_countBefore pc9 = .ok (.lreturn, 1) → W p l e (k2_rm 1 24) s m args below meth c H locs 0 0 Q (F0 m pc9 ls [.long (cbS mx g x d)])) : ∀ (f : Nat) (ch : Nat) (ls : Array Slot), d - ch < f → (ch ≤ d) → lv_has ls 7 [(6, .int (nI ch)), (4, .long (cbS mx g x ch)), (0, .ref (Ad 2)), (1, .int (nI x)), (2, .int (nI d)), (3, .int (nI b))] → W p l e (k2_rm 1 24) s m args below meth c H locs 0 0 Q (F0 m 6 ls []) := by
  have hx := S.1
  have hb := S.2.1
  have hml := S.2.2.1
  have hown := S.2.2.2.1
  have hts := S.2.2.2.2
  intro f
  induction f with
  | zero => intro ch ls hf; exact absurd hf (Nat.not_lt_zero _)
  | succ f ih =>
    intro ch ls hf hc hl
    refine lv_iload hx hb dX1_countBefore_6 (lv_at hl 0 rfl) ?_
    refine lv_iload_n hx hb dX1_countBefore_8 rfl (lv_at hl 4 rfl) ?_
    refine pn_icmp_ge (tgt := 31) hx hb (by omega) (by omega) dX1_countBefore_9 (by decide) (fun c_9 => ?_) (fun c_9 => ?_)
    · have hce : ch = d := by omega
      refine lv_lload hx hb dX1_countBefore_31 (lv_at hl 1 rfl) ?_
      refine pw_topl (y := cbS mx g x d) (by rw [hce]) ?_
      exact hq _ ls dX1_countBefore_33
    · refine lv_lload hx hb dX1_countBefore_12 (lv_at hl 1 rfl) ?_
      refine lv_aload_n hx hb dX1_countBefore_14 rfl (lv_at hl 2 rfl) ?_
      refine lv_iload_n hx hb dX1_countBefore_15 rfl (lv_at hl 3 rfl) ?_
      refine lv_iload hx hb dX1_countBefore_16 (lv_at hl 0 rfl) ?_
      refine lv_iload_n hx hb dX1_countBefore_18 rfl (lv_at hl 5 rfl) ?_
      refine pw_cv S hK hP 2 1 rfl rfl 3 (c_X1_countWith l D cy Ad n mm C hn hF mx hM g b hb0 hg x ch hx0 (by omega)) gX1_countBefore_X1_countWith rfl rfl rfl (by decide +kernel) ⟨Nat.le_of_ble_eq_true rfl, Nat.le_of_ble_eq_true rfl⟩ rfl hl.1 rfl (Nat.le_of_ble_eq_true rfl) dX1_countBefore_19 ⟨Nat.le_refl _, Nat.le_refl _⟩ ?_
      refine lv_ladd hx hb dX1_countBefore_22 ?_
      refine pw_topl (y := cbS mx g x (ch + 1)) rfl ?_
      refine lv_lstore (lv' := [(4, .long (cbS mx g x (ch + 1))), (6, .int (nI ch)), (0, .ref (Ad 2)), (1, .int (nI x)), (2, .int (nI d)), (3, .int (nI b))]) hx hb dX1_countBefore_23 hl (by decide) rfl (fun ls hl => ?_)
      refine lv_iinc (v := nI (ch + 1)) (lv' := [(6, .int (nI (ch + 1))), (4, .long (cbS mx g x (ch + 1))), (0, .ref (Ad 2)), (1, .int (nI x)), (2, .int (nI d)), (3, .int (nI b))]) hx hb dX1_countBefore_25 hl (k := 1) rfl (nI_add _ 1) (by decide) rfl (fun ls hl => ?_)
      refine lv_goto (tgt := 6) hx hb dX1_countBefore_28 (by decide) ?_
      exact ih (ch + 1) ls (by omega) (by omega) (lv_sub hl [0, 1, 2, 3, 4, 5] rfl)

set_option maxHeartbeats 4000000 in
set_option maxRecDepth 100000 in
theorem c_X1_countBefore (l : Launch) (D : va_G) (cy : Nat → ClassId) (Ad : Nat → Nat) (n mm : Nat) (C : pw_C) (hn : 1 ≤ n ∧ n ≤ 12) (hF : fX n mm Ad C) (mx : Nat → Nat → Option Nat) (hM : gM n mx C) (g : Nat → Int64) (b : Nat) (hb0 : b < 26) (hg : ∀ y, y < n → C.2.1 (53 + b) y = g y) (x d : Nat) (hx0 : x < n) (hd : d ≤ 4) : Met l yX1_countBefore wsX1_countBefore (k2_rm 1 24) (pw_Pre ([.ref (Ad 2), .int (nI x), .int (nI d), .int (nI b)]) D cy Ad (shX n) C) (k2_QcV (.long (cbS mx g x d))) 0 0 (fun _ => False) := by
  refine Met.ofW (cc := cX1_countBefore) (maxL := 7) (ret := (some .long)) (by decide) rfl ?_
  intro p e s m args below meth c s₁ B hml hv
  obtain ⟨rfl, hP, hK⟩ := hv
  have hx := B.exec
  have hb := B.bytes
  have hr := B.returns
  have hts := atoms_spec (ws := wsX1_countBefore) B.pre
  have hown : s.vm.findClass RX1 = some m.cls := findClass_of_methodNamed B.named
  have hlocks := B.notSynchronized
  have S : CallFix p m c cX1_countBefore 7 s ([.ref (Ad 2), .int (nI x), .int (nI d), .int (nI b)]).toArray wsX1_countBefore RX1 := ⟨hx, hb, hml, hown, hts⟩
  change W p l e (k2_rm 1 24) s m _ below meth c s.heap [] 0 0 _ _
  have hl := lv_entry ([.ref (Ad 2), .int (nI x), .int (nI d), .int (nI b)]) (n := 7) (Nat.le_of_ble_eq_true rfl)
  rw [lg_entry_eq]
  generalize (lg_sl ([.ref (Ad 2), .int (nI x), .int (nI d), .int (nI b)]) ++ List.replicate (7 - (lg_sl ([.ref (Ad 2), .int (nI x), .int (nI d), .int (nI b)])).length) Slot.unset).toArray = ls at hl ⊢
  have hl : lv_has ls 7 [(0, .ref (Ad 2)), (1, .int (nI x)), (2, .int (nI d)), (3, .int (nI b))] := hl
  refine lv_lconst (v := 0) hx hb dX1_countBefore_0 (by decide) ?_
  refine lv_lstore (lv' := [(4, .long 0), (0, .ref (Ad 2)), (1, .int (nI x)), (2, .int (nI d)), (3, .int (nI b))]) hx hb dX1_countBefore_1 hl (by decide) rfl (fun ls hl => ?_)
  refine lv_iconst (v := nI 0) hx hb dX1_countBefore_3 (by decide) ?_
  refine lv_istore (lv' := [(6, .int (nI 0)), (4, .long 0), (0, .ref (Ad 2)), (1, .int (nI x)), (2, .int (nI d)), (3, .int (nI b))]) hx hb dX1_countBefore_4 hl (by decide) rfl (fun ls hl => ?_)
  exact L_countBefore S hK hP hF hn hM g b hb0 hg x d hx0 hd (fun pc9 ls hd9 => W.lret hx hb hr (fun t ht _ => ⟨rfl, ht⟩) (fun q h => by cases h) hd9) (d + 1) 0 ls (by omega) (by omega) (lv_sub hl [0, 1, 2, 3, 4, 5] rfl)

set_option maxHeartbeats 4000000 in
set_option maxRecDepth 100000 in
theorem L_countAll_0 {p : Program} {l : Launch} {e : Env} {s : State} {m : MethodId} {args : Array Value} {below : List Frame} {meth : Method} {c : Code} {Q : State → Prop} (S : CallFix p m c cX1_countAll 4 s args wsX1_countAll RX1) {D : va_G} {cy : Nat → ClassId} {Ad : Nat → Nat} {n mm : Nat} {C0 : pw_C} (hK : pw_K D cy s) (hI : pw_I Ad (shX n)) (hF0 : fX n mm Ad C0) (hn : 1 ≤ n ∧ n ≤ 12) {mx : Nat → Nat → Option Nat} (hM0 : gM n mx C0) {en : Nat → Bool} (hE0 : gE n en C0) (len : Nat) (hle : len ≤ 25) (hk : ∀ (C : pw_C) (H : Heap) (locs : List Loc) (ls : Array Slot), pw_P D cy Ad (shX n) C H → va_S (pw_fr Ad (shX n)) s.heap H locs → (pw_B (fun k => 53 ≤ k) C0 C ∧ ∀ y, y < n → C.2.1 (53 + 0) y = cnW mx en 0 y) → lv_has ls 4 [(0, .ref (Ad 2)), (1, .int (nI len))] → W p l e (k2_rm 2 50) s m args below meth c H locs 0 0 Q (F0 m 38 ls [])) : ∀ (f : Nat) (C : pw_C) (H : Heap) (locs : List Loc) (x : Nat) (ls : Array Slot), n - x < f → (pw_P D cy Ad (shX n) C H) → (va_S (pw_fr Ad (shX n)) s.heap H locs) → (pw_B (fun k => 53 ≤ k) C0 C) → (x ≤ n) → (∀ y, y < x → C.2.1 (53 + 0) y = cnW mx en 0 y) → lv_has ls 4 [(2, .int (nI x)), (0, .ref (Ad 2)), (1, .int (nI len))] → W p l e (k2_rm 2 50) s m args below meth c H locs 0 0 Q (F0 m 2 ls []) := by
  have hx := S.1
  have hb := S.2.1
  have hml := S.2.2.1
  have hown := S.2.2.2.1
  have hts := S.2.2.2.2
  intro f
  induction f with
  | zero => intro C H locs x ls hf; exact absurd hf (Nat.not_lt_zero _)
  | succ f ih =>
    intro C H locs x ls hf hP hS hB hx0 hv hl
    have hF := fX_B hF0 hB
    have hM := gM_B hM0 hB (fun u9 hu9 h9 => by have h8 : 53 ≤ 41 + u9 := h9; omega)
    have hE := gE_B hE0 hB (fun h9 => by have h8 : (53 : Nat) ≤ 12 := h9; omega)
    refine lv_iload_n hx hb dX1_countAll_2 rfl (lv_at hl 0 rfl) ?_
    refine lv_aload_n hx hb dX1_countAll_3 rfl (lv_at hl 1 rfl) ?_
    refine pw_get hx hb hts (fun _ h9 => List.mem_cons_of_mem _ (List.mem_append_right _ h9)) hown hK hP 2 rfl rfl 0 (by decide) hF.2.2.1 rfl (hts (.fieldLink RX1 9 "PastDraws$Machine" "n" "I") (List.mem_of_getElem? (i := 1) rfl)) dX1_countAll_4 ?_
    refine pn_icmp_ge (tgt := 38) hx hb (by omega) (by omega) dX1_countAll_7 (by decide) (fun c_7 => ?_) (fun c_7 => ?_)
    · obtain rfl : x = n := by omega
      exact hk C H locs ls hP hS ⟨hB, hv⟩ (lv_sub hl [1, 2] rfl)
    · refine lv_aload_n hx hb dX1_countAll_10 rfl (lv_at hl 1 rfl) ?_
      refine pw_get hx hb hts (fun _ h9 => List.mem_cons_of_mem _ (List.mem_append_right _ h9)) hown hK hP 2 rfl rfl 3 (by decide) hF.2.2.1 rfl (hts (.fieldLink RX1 26 "PastDraws$Machine" "counts" "[[J") (List.mem_of_getElem? (i := 2) rfl)) dX1_countAll_11 ?_
      refine lv_iconst (v := nI 0) hx hb dX1_countAll_14 (by decide) ?_
      refine pw_aald5 hx hb hK hP 13 rfl (by first | exact sgn_lt _ _ | omega) (by decide) dX1_countAll_15 ?_
      refine lv_iload_n hx hb dX1_countAll_16 rfl (lv_at hl 0 rfl) ?_
      refine lv_aload_n hx hb dX1_countAll_17 rfl (lv_at hl 1 rfl) ?_
      refine pw_get hx hb hts (fun _ h9 => List.mem_cons_of_mem _ (List.mem_append_right _ h9)) hown hK hP 2 rfl rfl 2 (by decide) hF.2.2.1 rfl (hts (.fieldLink RX1 20 "PastDraws$Machine" "ends" "[Z") (List.mem_of_getElem? (i := 3) rfl)) dX1_countAll_18 ?_
      refine lv_iload_n hx hb dX1_countAll_21 rfl (lv_at hl 0 rfl) ?_
      refine pw_zald hx hb hK hP 12 rfl (by first | exact sgn_lt _ _ | omega) (by first | decide | omega) (v := pb (en x)) (hE x (by omega)) dX1_countAll_22 ?_
      refine pn_ifeq_b (tgt := 30) hx hb dX1_countAll_23 (by decide) (fun c_23 => ?_) (fun c_23 => ?_)
      · have e9 : cnW mx en 0 x = 0 := by rw [cnW, if_neg (by rw [c_23]; decide)]
        refine lv_lconst (v := 0) hx hb dX1_countAll_30 (by decide) ?_
        refine pw_last hx hb hK hP hI hS (53 + 0) (shX_co (by first | exact sgn_lt _ _ | omega)) (by first | exact sgn_lt _ _ | omega) (by first | decide | omega) dX1_countAll_31 (fun H locs hP hS => ?_)
        obtain ⟨C31, hC31⟩ : ∃ z9, z9 = pw_setL C (53 + 0) x 0 := ⟨_, rfl⟩
        rw [← hC31] at hP
        have hB := by have hB9 := hB; exact (show pw_B (fun k => 53 ≤ k) C0 C31 by rw [hC31]; exact hB9.setL (by show 53 ≤ (53 + 0); first | trivial | omega))
        have hF := fX_B hF0 hB
        have hM := gM_B hM0 hB (fun u9 hu9 h9 => by have h8 : 53 ≤ 41 + u9 := h9; omega)
        have hE := gE_B hE0 hB (fun h9 => by have h8 : (53 : Nat) ≤ 12 := h9; omega)
        refine lv_iinc (v := nI (x + 1)) (lv' := [(2, .int (nI (x + 1))), (0, .ref (Ad 2)), (1, .int (nI len))]) hx hb dX1_countAll_32 hl (k := 0) rfl (nI_add _ 1) (by decide) rfl (fun ls hl => ?_)
        refine lv_goto (tgt := 2) hx hb dX1_countAll_35 (by decide) ?_
        exact ih C31 H locs (x + 1) ls (by omega) hP hS hB (by omega) (fun y hy => by
          rw [hC31, sl_at]
          by_cases q : y = x
          · rw [if_pos q, q]; exact e9.symm
          · rw [if_neg q]; exact hv y (by omega)) (lv_sub hl [0, 1, 2] rfl)
      · have e9 : cnW mx en 0 x = 1 := by rw [cnW, if_pos c_23]
        refine lv_lconst (v := 1) hx hb dX1_countAll_26 (by decide) ?_
        refine lv_goto (tgt := 31) hx hb dX1_countAll_27 (by decide) ?_
        refine pw_last hx hb hK hP hI hS (53 + 0) (shX_co (by first | exact sgn_lt _ _ | omega)) (by first | exact sgn_lt _ _ | omega) (by first | decide | omega) dX1_countAll_31 (fun H locs hP hS => ?_)
        obtain ⟨C31, hC31⟩ : ∃ z9, z9 = pw_setL C (53 + 0) x 1 := ⟨_, rfl⟩
        rw [← hC31] at hP
        have hB := by have hB9 := hB; exact (show pw_B (fun k => 53 ≤ k) C0 C31 by rw [hC31]; exact hB9.setL (by show 53 ≤ (53 + 0); first | trivial | omega))
        have hF := fX_B hF0 hB
        have hM := gM_B hM0 hB (fun u9 hu9 h9 => by have h8 : 53 ≤ 41 + u9 := h9; omega)
        have hE := gE_B hE0 hB (fun h9 => by have h8 : (53 : Nat) ≤ 12 := h9; omega)
        refine lv_iinc (v := nI (x + 1)) (lv' := [(2, .int (nI (x + 1))), (0, .ref (Ad 2)), (1, .int (nI len))]) hx hb dX1_countAll_32 hl (k := 0) rfl (nI_add _ 1) (by decide) rfl (fun ls hl => ?_)
        refine lv_goto (tgt := 2) hx hb dX1_countAll_35 (by decide) ?_
        exact ih C31 H locs (x + 1) ls (by omega) hP hS hB (by omega) (fun y hy => by
          rw [hC31, sl_at]
          by_cases q : y = x
          · rw [if_pos q, q]; exact e9.symm
          · rw [if_neg q]; exact hv y (by omega)) (lv_sub hl [0, 1, 2] rfl)

set_option maxHeartbeats 4000000 in
set_option maxRecDepth 100000 in
theorem L_countAll_in {p : Program} {l : Launch} {e : Env} {s : State} {m : MethodId} {args : Array Value} {below : List Frame} {meth : Method} {c : Code} {Q : State → Prop} (S : CallFix p m c cX1_countAll 4 s args wsX1_countAll RX1) {D : va_G} {cy : Nat → ClassId} {Ad : Nat → Nat} {n mm : Nat} {C0 : pw_C} (hK : pw_K D cy s) (hI : pw_I Ad (shX n)) (hF0 : fX n mm Ad C0) (hn : 1 ≤ n ∧ n ≤ 12) {mx : Nat → Nat → Option Nat} (hM0 : gM n mx C0) {en : Nat → Bool} (hE0 : gE n en C0) (len : Nat) (hle : len ≤ 25) (l9 : Nat) (hl9 : l9 + 1 ≤ len) (hk : ∀ (C : pw_C) (H : Heap) (locs : List Loc) (ls : Array Slot), pw_P D cy Ad (shX n) C H → va_S (pw_fr Ad (shX n)) s.heap H locs → (pw_B (fun k => 53 ≤ k) C0 C ∧ (∀ l, l ≤ l9 → ∀ y, y < n → C.2.1 (53 + l) y = cnW mx en l y) ∧ ∀ y, y < n → C.2.1 (53 + (l9 + 1)) y = cnW mx en (l9 + 1) y) → lv_has ls 4 [(2, .int (nI (l9 + 1))), (0, .ref (Ad 2)), (1, .int (nI len))] → W p l e (k2_rm 2 50) s m args below meth c H locs 0 0 Q (F0 m 78 ls [])) : ∀ (f : Nat) (C : pw_C) (H : Heap) (locs : List Loc) (x : Nat) (ls : Array Slot), n - x < f → (pw_P D cy Ad (shX n) C H) → (va_S (pw_fr Ad (shX n)) s.heap H locs) → (pw_B (fun k => 53 ≤ k) C0 C) → (x ≤ n) → (∀ l, l ≤ l9 → ∀ y, y < n → C.2.1 (53 + l) y = cnW mx en l y) → (∀ y, y < x → C.2.1 (53 + (l9 + 1)) y = cnW mx en (l9 + 1) y) → lv_has ls 4 [(3, .int (nI x)), (2, .int (nI (l9 + 1))), (0, .ref (Ad 2)), (1, .int (nI len))] → W p l e (k2_rm 2 50) s m args below meth c H locs 0 0 Q (F0 m 47 ls []) := by
  have hx := S.1
  have hb := S.2.1
  have hml := S.2.2.1
  have hown := S.2.2.2.1
  have hts := S.2.2.2.2
  intro f
  induction f with
  | zero => intro C H locs x ls hf; exact absurd hf (Nat.not_lt_zero _)
  | succ f ih =>
    intro C H locs x ls hf hP hS hB hx0 hr hv hl
    have hF := fX_B hF0 hB
    have hM := gM_B hM0 hB (fun u9 hu9 h9 => by have h8 : 53 ≤ 41 + u9 := h9; omega)
    have hE := gE_B hE0 hB (fun h9 => by have h8 : (53 : Nat) ≤ 12 := h9; omega)
    refine lv_iload_n hx hb dX1_countAll_47 rfl (lv_at hl 0 rfl) ?_
    refine lv_aload_n hx hb dX1_countAll_48 rfl (lv_at hl 2 rfl) ?_
    refine pw_get hx hb hts (fun _ h9 => List.mem_cons_of_mem _ (List.mem_append_right _ h9)) hown hK hP 2 rfl rfl 0 (by decide) hF.2.2.1 rfl (hts (.fieldLink RX1 9 "PastDraws$Machine" "n" "I") (List.mem_of_getElem? (i := 1) rfl)) dX1_countAll_49 ?_
    refine pn_icmp_ge (tgt := 78) hx hb (by omega) (by omega) dX1_countAll_52 (by decide) (fun c_52 => ?_) (fun c_52 => ?_)
    · obtain rfl : x = n := by omega
      exact hk C H locs ls hP hS ⟨hB, hr, hv⟩ (lv_sub hl [1, 2, 3] rfl)
    · refine lv_aload_n hx hb dX1_countAll_55 rfl (lv_at hl 2 rfl) ?_
      refine pw_get hx hb hts (fun _ h9 => List.mem_cons_of_mem _ (List.mem_append_right _ h9)) hown hK hP 2 rfl rfl 3 (by decide) hF.2.2.1 rfl (hts (.fieldLink RX1 26 "PastDraws$Machine" "counts" "[[J") (List.mem_of_getElem? (i := 2) rfl)) dX1_countAll_56 ?_
      refine lv_iload_n hx hb dX1_countAll_59 rfl (lv_at hl 1 rfl) ?_
      refine pw_aald5 hx hb hK hP 13 rfl (by first | exact sgn_lt _ _ | omega) (by decide) dX1_countAll_60 ?_
      refine lv_iload_n hx hb dX1_countAll_61 rfl (lv_at hl 0 rfl) ?_
      refine lv_aload_n hx hb dX1_countAll_62 rfl (lv_at hl 2 rfl) ?_
      refine lv_iload_n hx hb dX1_countAll_63 rfl (lv_at hl 0 rfl) ?_
      refine lv_iconst (v := nI 4) hx hb dX1_countAll_64 (by decide) ?_
      refine lv_iload_n hx hb dX1_countAll_65 rfl (lv_at hl 1 rfl) ?_
      refine lv_iconst (v := nI 1) hx hb dX1_countAll_66 (by decide) ?_
      refine lv_isub hx hb dX1_countAll_67 ?_
      refine pw_topi (y := nI l9) (pk_sub (by omega)) ?_
      refine pw_cv S hK hP 2 1 rfl rfl 3 (c_X1_countBefore l D cy Ad n mm C hn hF mx hM (cnW mx en l9) l9 (by omega) (hr l9 (by omega)) x 4 (by omega) (by omega)) gX1_countAll_X1_countBefore rfl rfl rfl (by decide +kernel) ⟨Nat.le_of_ble_eq_true rfl, Nat.le_of_ble_eq_true rfl⟩ rfl hl.1 rfl (Nat.le_of_ble_eq_true rfl) dX1_countAll_68 ⟨Nat.le_refl _, Nat.le_refl _⟩ ?_
      refine pw_last hx hb hK hP hI hS (53 + (l9 + 1)) (shX_co (by first | exact sgn_lt _ _ | omega)) (by first | exact sgn_lt _ _ | omega) (by first | decide | omega) dX1_countAll_71 (fun H locs hP hS => ?_)
      obtain ⟨C71, hC71⟩ : ∃ z9, z9 = pw_setL C (53 + (l9 + 1)) x (cbS mx (cnW mx en l9) x 4) := ⟨_, rfl⟩
      rw [← hC71] at hP
      have hB := by have hB9 := hB; exact (show pw_B (fun k => 53 ≤ k) C0 C71 by rw [hC71]; exact hB9.setL (by show 53 ≤ (53 + (l9 + 1)); first | trivial | omega))
      have hF := fX_B hF0 hB
      have hM := gM_B hM0 hB (fun u9 hu9 h9 => by have h8 : 53 ≤ 41 + u9 := h9; omega)
      have hE := gE_B hE0 hB (fun h9 => by have h8 : (53 : Nat) ≤ 12 := h9; omega)
      refine lv_iinc (v := nI (x + 1)) (lv' := [(3, .int (nI (x + 1))), (2, .int (nI (l9 + 1))), (0, .ref (Ad 2)), (1, .int (nI len))]) hx hb dX1_countAll_72 hl (k := 0) rfl (nI_add _ 1) (by decide) rfl (fun ls hl => ?_)
      refine lv_goto (tgt := 47) hx hb dX1_countAll_75 (by decide) ?_
      exact ih C71 H locs (x + 1) ls (by omega) hP hS hB (by omega) (fun l hl9 y hy => by
        rw [hC71, sl_ne (by omega)]; exact hr l hl9 y hy) (fun y hy => by
        rw [hC71, sl_at]
        by_cases q : y = x
        · rw [if_pos q, q]; rfl
        · rw [if_neg q]; exact hv y (by omega)) (lv_sub hl [0, 1, 2, 3] rfl)

set_option maxHeartbeats 4000000 in
set_option maxRecDepth 100000 in
theorem L_countAll {p : Program} {l : Launch} {e : Env} {s : State} {m : MethodId} {args : Array Value} {below : List Frame} {meth : Method} {c : Code} {Q : State → Prop} (S : CallFix p m c cX1_countAll 4 s args wsX1_countAll RX1) {D : va_G} {cy : Nat → ClassId} {Ad : Nat → Nat} {n mm : Nat} {C0 : pw_C} (hK : pw_K D cy s) (hI : pw_I Ad (shX n)) (hF0 : fX n mm Ad C0) (hn : 1 ≤ n ∧ n ≤ 12) {mx : Nat → Nat → Option Nat} (hM0 : gM n mx C0) {en : Nat → Bool} (hE0 : gE n en C0) (len : Nat) (hle : len ≤ 25) (hk : ∀ (C : pw_C) (H : Heap) (locs : List Loc) (ls : Array Slot), pw_P D cy Ad (shX n) C H → va_S (pw_fr Ad (shX n)) s.heap H locs → (pw_B (fun k => 53 ≤ k) C0 C ∧ ∀ l, l ≤ len → ∀ y, y < n → C.2.1 (53 + l) y = cnW mx en l y) → lv_has ls 4 [(0, .ref (Ad 2)), (1, .int (nI len))] → W p l e (k2_rm 2 50) s m args below meth c H locs 0 0 Q (F0 m 84 ls [])) : ∀ (f : Nat) (C : pw_C) (H : Heap) (locs : List Loc) (l9 : Nat) (ls : Array Slot), len - l9 < f → (pw_P D cy Ad (shX n) C H) → (va_S (pw_fr Ad (shX n)) s.heap H locs) → (pw_B (fun k => 53 ≤ k) C0 C) → (l9 ≤ len) → (∀ l, l ≤ l9 → ∀ y, y < n → C.2.1 (53 + l) y = cnW mx en l y) → lv_has ls 4 [(2, .int (nI (l9 + 1))), (0, .ref (Ad 2)), (1, .int (nI len))] → W p l e (k2_rm 2 50) s m args below meth c H locs 0 0 Q (F0 m 40 ls []) := by
  have hx := S.1
  have hb := S.2.1
  have hml := S.2.2.1
  have hown := S.2.2.2.1
  have hts := S.2.2.2.2
  intro f
  induction f with
  | zero => intro C H locs l9 ls hf; exact absurd hf (Nat.not_lt_zero _)
  | succ f ih =>
    intro C H locs l9 ls hf hP hS hB hl0 hr hl
    refine lv_iload_n hx hb dX1_countAll_40 rfl (lv_at hl 0 rfl) ?_
    refine lv_iload_n hx hb dX1_countAll_41 rfl (lv_at hl 2 rfl) ?_
    refine pn_icmp_gt (tgt := 84) hx hb (by omega) (by omega) dX1_countAll_42 (by decide) (fun c_42 => ?_) (fun c_42 => ?_)
    · obtain rfl : l9 = len := by omega
      exact hk C H locs ls hP hS ⟨hB, hr⟩ (lv_sub hl [1, 2] rfl)
    · refine lv_iconst (v := nI 0) hx hb dX1_countAll_45 (by decide) ?_
      refine lv_istore_n (lv' := [(3, .int (nI 0)), (2, .int (nI (l9 + 1))), (0, .ref (Ad 2)), (1, .int (nI len))]) hx hb dX1_countAll_46 rfl hl (by decide) rfl (fun ls hl => ?_)
      refine L_countAll_in S hK hI hF0 hn hM0 hE0 len hle l9 (by omega) (fun C H locs ls hP hS hR hl => ?_) (n + 1) C H locs 0 ls (by omega) hP hS hB (by omega) hr (fun y hy => by omega) (lv_sub hl [0, 1, 2, 3] rfl)
      obtain ⟨hB, hr, hv⟩ := hR
      refine lv_iinc (v := nI ((l9 + 1) + 1)) (lv' := [(2, .int (nI ((l9 + 1) + 1))), (0, .ref (Ad 2)), (1, .int (nI len))]) hx hb dX1_countAll_78 hl (k := 0) rfl (nI_add _ 1) (by decide) rfl (fun ls hl => ?_)
      refine lv_goto (tgt := 40) hx hb dX1_countAll_81 (by decide) ?_
      exact ih C H locs (l9 + 1) ls (by omega) hP hS hB (by omega) (fun l hl9 y hy => by
        rcases Nat.lt_or_ge l (l9 + 1) with q | q
        · exact hr l (by omega) y hy
        · obtain rfl : l = l9 + 1 := by omega
          exact hv y hy) (lv_sub hl [0, 1, 2] rfl)

set_option maxHeartbeats 4000000 in
set_option maxRecDepth 100000 in
theorem c_X1_countAll (l : Launch) (D : va_G) (cy : Nat → ClassId) (Ad : Nat → Nat) (n mm : Nat) (C : pw_C) (hI : pw_I Ad (shX n)) (hn : 1 ≤ n ∧ n ≤ 12) (hF : fX n mm Ad C) (mx : Nat → Nat → Option Nat) (hM : gM n mx C) (en : Nat → Bool) (hE : gE n en C) (len : Nat) (hle : len ≤ 25) : Met l yX1_countAll wsX1_countAll (k2_rm 2 50) (pw_Pre ([.ref (Ad 2), .int (nI len)]) D cy Ad (shX n) C) (pw_Post (fun r9 C' => r9 = some (.long (cnW mx en len 0)) ∧ (pw_B (fun k => 53 ≤ k) C C' ∧ ∀ l, l ≤ len → ∀ y, y < n → C'.2.1 (53 + l) y = cnW mx en l y)) D cy Ad (shX n)) 0 0 (pw_fr Ad (shX n)) := by
  refine Met.ofW (cc := cX1_countAll) (maxL := 4) (ret := (some .long)) (by decide) rfl ?_
  intro p e s m args below meth c s₁ B hml hv
  obtain ⟨rfl, hP, hK⟩ := hv
  have hx := B.exec
  have hb := B.bytes
  have hr := B.returns
  have hts := atoms_spec (ws := wsX1_countAll) B.pre
  have hown : s.vm.findClass RX1 = some m.cls := findClass_of_methodNamed B.named
  have hlocks := B.notSynchronized
  have S : CallFix p m c cX1_countAll 4 s ([.ref (Ad 2), .int (nI len)]).toArray wsX1_countAll RX1 := ⟨hx, hb, hml, hown, hts⟩
  change W p l e (k2_rm 2 50) s m _ below meth c s.heap [] 0 0 _ _
  have hl := lv_entry ([.ref (Ad 2), .int (nI len)]) (n := 4) (Nat.le_of_ble_eq_true rfl)
  rw [lg_entry_eq]
  generalize (lg_sl ([.ref (Ad 2), .int (nI len)]) ++ List.replicate (4 - (lg_sl ([.ref (Ad 2), .int (nI len)])).length) Slot.unset).toArray = ls at hl ⊢
  have hl : lv_has ls 4 [(0, .ref (Ad 2)), (1, .int (nI len))] := hl
  have hS : va_S (pw_fr Ad (shX n)) s.heap s.heap [] := va_S.rf
  refine lv_iconst (v := nI 0) hx hb dX1_countAll_0 (by decide) ?_
  refine lv_istore_n (lv' := [(2, .int (nI 0)), (0, .ref (Ad 2)), (1, .int (nI len))]) hx hb dX1_countAll_1 rfl hl (by decide) rfl (fun ls hl => ?_)
  refine L_countAll_0 S hK hI hF hn hM hE len hle (fun C1 H locs ls hP hS hR hl => ?_) (n + 1) C s.heap [] 0 ls (by omega) hP hS pw_B.rf (by omega) (fun y hy => by omega) (lv_sub hl [0, 1, 2] rfl)
  refine lv_iconst (v := nI 1) hx hb dX1_countAll_38 (by decide) ?_
  refine lv_istore_n (lv' := [(2, .int (nI 1)), (0, .ref (Ad 2)), (1, .int (nI len))]) hx hb dX1_countAll_39 rfl hl (by decide) rfl (fun ls hl => ?_)
  refine L_countAll S hK hI hF hn hM hE len hle (fun C2 H locs ls hP hS hR hl => ?_) (len + 1) C1 H locs 0 ls (by omega) hP hS hR.1 (by omega) (fun l hl9 y hy => by obtain rfl : l = 0 := (by omega); exact hR.2 y hy) (lv_sub hl [0, 1, 2] rfl)
  have hF := fX_B hF hR.1
  refine lv_aload_n hx hb dX1_countAll_84 rfl (lv_at hl 0 rfl) ?_
  refine pw_get hx hb hts (fun _ h9 => List.mem_cons_of_mem _ (List.mem_append_right _ h9)) hown hK hP 2 rfl rfl 3 (by decide) hF.2.2.1 rfl (hts (.fieldLink RX1 26 "PastDraws$Machine" "counts" "[[J") (List.mem_of_getElem? (i := 2) rfl)) dX1_countAll_85 ?_
  refine lv_iload_n hx hb dX1_countAll_88 rfl (lv_at hl 1 rfl) ?_
  refine pw_aald5 hx hb hK hP 13 rfl (by first | exact sgn_lt _ _ | omega) (by decide) dX1_countAll_89 ?_
  refine lv_iconst (v := nI 0) hx hb dX1_countAll_90 (by decide) ?_
  refine pw_lald hx hb hK hP (53 + len) (shX_co (by first | exact sgn_lt _ _ | omega)) (by first | exact sgn_lt _ _ | omega) (by omega) (v := cnW mx en len 0) (hR.2 len (Nat.le_refl _) 0 (by omega)) dX1_countAll_91 ?_
  exact W.lret hx hb hr (fun t ht _ => ⟨⟨(some (.long (cnW mx en len 0))), C2, rfl, ⟨rfl, hR⟩, by rw [ht]; exact hP⟩, hS.F ht⟩) hS.2.2 dX1_countAll_92
