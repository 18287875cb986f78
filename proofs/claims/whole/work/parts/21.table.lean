def gT (wt : Nat → Nat) (C : pw_C) : Prop := ∀ i, i < 16 → wt i ≤ 1000 ∧ C.1 16 i = nI (wt i)
theorem gT_B {wt : Nat → Nat} {ks : Nat → Prop} {C C' : pw_C} (h : gT wt C) (hB : pw_B ks C C') (hk : ¬ ks 16) : gT wt C' := fun p hp => by
  rw [(hB.1 _ hk).1]; exact h p hp
def smF (wt : Nat → Nat) : Nat → Nat
  | 0 => 0
  | i + 1 => smF wt i + wt i
theorem smF_le {wt : Nat → Nat} {k : Nat} (h : ∀ i, i < k → wt i ≤ 1000) : ∀ i, i ≤ k → smF wt i ≤ 1000 * i := by
  intro i
  induction i with
  | zero => intro _; exact Nat.le_refl _
  | succ i ih => intro hi; have := ih (by omega); have := h i (by omega); unfold smF; omega
abbrev tbT : Type := (Nat → Int32) × (Nat → Int32) × (Nat → Int32) × (Nat → Bool)
def tm0 (wt : Nat → Nat) (mm Z : Nat) : tbT := (fun i => nI (mm * wt i), fun _ => nI Z, fun i => nI i, fun _ => false)
def tm1 (Z : Nat) (T : tbT) (lo hi : Nat) : tbT := (upd T.1 hi (T.1 hi - (nI Z - T.1 lo)), upd T.2.1 lo (T.1 lo), upd T.2.2.1 lo (nI hi), fun i => if i = lo then true else T.2.2.2 i)
def tmu (mm Z : Nat) (T : tbT) : Option Nat := fstT (fun i => !T.2.2.2 i && decide (T.1 i < nI Z)) mm 0
def tmo (mm Z : Nat) (T : tbT) : Option Nat := fstT (fun i => !T.2.2.2 i && decide (nI Z < T.1 i)) mm 0
def tmF (mm Z : Nat) : Nat → tbT → tbT
  | 0, T => T
  | f + 1, T => match tmu mm Z T, tmo mm Z T with
    | some lo, some hi => tmF mm Z f (tm1 Z T lo hi)
    | _, _ => T
def tmK (wt : Nat → Nat) (mm Z : Nat) : tbT := tmF mm Z mm (tm0 wt mm Z)
theorem fstT_lt {P : Nat → Bool} : ∀ f t x, fstT P f t = some x → x < t + f := by
  intro f
  induction f with
  | zero => intro t x h; cases h
  | succ f ih =>
    intro t x h
    unfold fstT at h
    split at h
    · cases h; omega
    · have := ih (t + 1) x h; omega
def gTb (mm : Nat) (T : tbT) (C : pw_C) : Prop := ∀ i, i < mm → C.1 17 i = T.1 i ∧ C.1 18 i = T.2.1 i ∧ C.1 19 i = T.2.2.1 i ∧ C.1 20 i = pb (T.2.2.2 i)

theorem wt_le {x : Int32} {k : Nat} (h : 1 ≤ k ∧ k ≤ 16) : x ≤ nI (k - 1) ↔ ¬ nI k ≤ x := by
  rw [Int32.not_le, Int32.le_iff_toInt_le, Int32.lt_iff_toInt_lt, nI_toInt (by omega), nI_toInt (by omega)]
  omega
theorem wt_f1 {x y : Int32} (h : x < 0) : wi x (nI 0) y = false := by
  unfold wi
  rw [decide_eq_false_iff_not]
  exact fun q => absurd h (Int32.not_lt.mpr q.1)
theorem wt_f2 {x : Int32} {k : Nat} (hk : 1 ≤ k ∧ k ≤ 16) (h : nI k ≤ x) : wi x (nI 0) (nI (k - 1)) = false := by
  unfold wi
  rw [decide_eq_false_iff_not]
  exact fun q => absurd h ((wt_le hk).mp q.2)
theorem wt_t {x : Int32} {k : Nat} (hk : 1 ≤ k ∧ k ≤ 16) (h : ¬ x < 0) (h2 : ¬ nI k ≤ x) : wi x (nI 0) (nI (k - 1)) = true := by
  unfold wi
  rw [decide_eq_true_iff]
  exact ⟨Int32.not_lt.mp h, (wt_le hk).mpr h2⟩

set_option maxHeartbeats 4000000 in
set_option maxRecDepth 100000 in
theorem c_X3_isThing (l : Launch) (D : va_G) (cy : Nat → ClassId) (Ad : Nat → Nat) (n mm : Nat) (C : pw_C) (hn : 1 ≤ n ∧ n ≤ 12) (hF : fX n mm Ad C) (x : Int32) (hmm : 1 ≤ mm ∧ mm ≤ 16) : Met l yX3_isThing wsX3_isThing (k2_rm 0 0) (pw_Pre ([.ref (Ad 4), .int x]) D cy Ad (shX n) C) (k2_QcV (.int (pb (wi x (nI 0) (nI (mm - 1)))))) 0 0 (fun _ => False) := by
  refine Met.ofW (cc := cX3_isThing) (maxL := 2) (ret := (some .boolean)) (by decide) rfl ?_
  intro p e s m args below meth c s₁ B hml hv
  obtain ⟨rfl, hP, hK⟩ := hv
  have hx := B.exec
  have hb := B.bytes
  have hr := B.returns
  have hts := atoms_spec (ws := wsX3_isThing) B.pre
  have hown : s.vm.findClass RX3 = some m.cls := findClass_of_methodNamed B.named
  have hlocks := B.notSynchronized
  have S : CallFix p m c cX3_isThing 2 s ([.ref (Ad 4), .int x]).toArray wsX3_isThing RX3 := ⟨hx, hb, hml, hown, hts⟩
  change W p l e (k2_rm 0 0) s m _ below meth c s.heap [] 0 0 _ _
  have hl := lv_entry ([.ref (Ad 4), .int x]) (n := 2) (Nat.le_of_ble_eq_true rfl)
  rw [lg_entry_eq]
  generalize (lg_sl ([.ref (Ad 4), .int x]) ++ List.replicate (2 - (lg_sl ([.ref (Ad 4), .int x])).length) Slot.unset).toArray = ls at hl ⊢
  have hl : lv_has ls 2 [(0, .ref (Ad 4)), (1, .int x)] := hl
  refine lv_iload_n hx hb dX3_isThing_0 rfl (lv_at hl 1 rfl) ?_
  refine lv_if_lt (tgt := 16) hx hb dX3_isThing_1 (by decide) (fun c_1 => ?_) (fun c_1 => ?_)
  · have e9 : wi x (nI 0) (nI (mm - 1)) = false := wt_f1 c_1
    refine lv_iconst (v := nI 0) hx hb dX3_isThing_16 (by decide) ?_
    refine pw_topi (y := pb (wi x (nI 0) (nI (mm - 1)))) (by rw [e9]; rfl) ?_
    exact W.zret hx hb hr (pb_nar _) (fun t ht _ => ⟨rfl, ht⟩) (fun q h => by cases h) dX3_isThing_17
  · refine lv_iload_n hx hb dX3_isThing_4 rfl (lv_at hl 1 rfl) ?_
    refine lv_aload_n hx hb dX3_isThing_5 rfl (lv_at hl 0 rfl) ?_
    refine pw_get hx hb hts (fun _ h9 => List.mem_cons_of_mem _ (List.mem_append_right _ h9)) hown hK hP 4 rfl rfl 5 (by decide) hF.2.2.2.2 rfl (hts (.fieldLink RX3 28 "PastDraws$Table" "m" "I") (List.mem_of_getElem? (i := 1) rfl)) dX3_isThing_6 ?_
    refine lv_icmp_ge (tgt := 16) hx hb dX3_isThing_9 (by decide) (fun c_9 => ?_) (fun c_9 => ?_)
    · have e9 : wi x (nI 0) (nI (mm - 1)) = false := wt_f2 hmm c_9
      refine lv_iconst (v := nI 0) hx hb dX3_isThing_16 (by decide) ?_
      refine pw_topi (y := pb (wi x (nI 0) (nI (mm - 1)))) (by rw [e9]; rfl) ?_
      exact W.zret hx hb hr (pb_nar _) (fun t ht _ => ⟨rfl, ht⟩) (fun q h => by cases h) dX3_isThing_17
    · have e9 : wi x (nI 0) (nI (mm - 1)) = true := wt_t hmm c_1 c_9
      refine lv_iconst (v := nI 1) hx hb dX3_isThing_12 (by decide) ?_
      refine lv_goto (tgt := 17) hx hb dX3_isThing_13 (by decide) ?_
      refine pw_topi (y := pb (wi x (nI 0) (nI (mm - 1)))) (by rw [e9]; rfl) ?_
      exact W.zret hx hb hr (pb_nar _) (fun t ht _ => ⟨rfl, ht⟩) (fun q h => by cases h) dX3_isThing_17

set_option maxHeartbeats 4000000 in
set_option maxRecDepth 100000 in
theorem c_X3_setThings (l : Launch) (D : va_G) (cy : Nat → ClassId) (Ad : Nat → Nat) (n mm : Nat) (C : pw_C) (hI : pw_I Ad (shX n)) (hn : 1 ≤ n ∧ n ≤ 12) (hF : fX n mm Ad C) (m9 : Nat) : Met l yX3_setThings wsX3_setThings (k2_rm 1 23) (pw_Pre ([.ref (Ad 4), .int (nI m9)]) D cy Ad (shX n) C) (pw_Post (fun r9 C' => r9 = some (.int (nI mm)) ∧ (fX n m9 Ad C' ∧ (∀ k, ¬ k = 16 → C'.1 k = C.1 k ∧ C'.2.1 k = C.2.1 k) ∧ ∀ j, j < 16 → C'.1 16 j = nI 1)) D cy Ad (shX n)) 0 0 (pw_fr Ad (shX n)) := by
  refine Met.ofW (cc := cX3_setThings) (maxL := 3) (ret := (some .int)) (by decide) rfl ?_
  intro p e s m args below meth c s₁ B hml hv
  obtain ⟨rfl, hP, hK⟩ := hv
  have hx := B.exec
  have hb := B.bytes
  have hr := B.returns
  have hts := atoms_spec (ws := wsX3_setThings) B.pre
  have hown : s.vm.findClass RX3 = some m.cls := findClass_of_methodNamed B.named
  have hlocks := B.notSynchronized
  have S : CallFix p m c cX3_setThings 3 s ([.ref (Ad 4), .int (nI m9)]).toArray wsX3_setThings RX3 := ⟨hx, hb, hml, hown, hts⟩
  change W p l e (k2_rm 1 23) s m _ below meth c s.heap [] 0 0 _ _
  have hl := lv_entry ([.ref (Ad 4), .int (nI m9)]) (n := 3) (Nat.le_of_ble_eq_true rfl)
  rw [lg_entry_eq]
  generalize (lg_sl ([.ref (Ad 4), .int (nI m9)]) ++ List.replicate (3 - (lg_sl ([.ref (Ad 4), .int (nI m9)])).length) Slot.unset).toArray = ls at hl ⊢
  have hl : lv_has ls 3 [(0, .ref (Ad 4)), (1, .int (nI m9))] := hl
  have hS : va_S (pw_fr Ad (shX n)) s.heap s.heap [] := va_S.rf
  refine lv_aload_n hx hb dX3_setThings_0 rfl (lv_at hl 0 rfl) ?_
  refine pw_get hx hb hts (fun _ h9 => List.mem_cons_of_mem _ (List.mem_append_right _ h9)) hown hK hP 4 rfl rfl 5 (by decide) hF.2.2.2.2 rfl (hts (.fieldLink RX3 28 "PastDraws$Table" "m" "I") (List.mem_of_getElem? (i := 1) rfl)) dX3_setThings_1 ?_
  refine lv_istore_n (lv' := [(2, .int (nI mm)), (0, .ref (Ad 4)), (1, .int (nI m9))]) hx hb dX3_setThings_4 rfl hl (by decide) rfl (fun ls hl => ?_)
  refine lv_aload_n hx hb dX3_setThings_5 rfl (lv_at hl 1 rfl) ?_
  refine lv_iload_n hx hb dX3_setThings_6 rfl (lv_at hl 2 rfl) ?_
  refine pw_put hx hb hts (fun _ h9 => List.mem_cons_of_mem _ (List.mem_append_right _ h9)) tyX3 tyX3_ok nmX3 hown hK hP hI hS 4 rfl rfl 5 (by decide) hF.2.2.2.2 (hts (.fieldLink RX3 28 "PastDraws$Table" "m" "I") (List.mem_of_getElem? (i := 1) rfl)) rfl (ty := .int) (by decide +kernel) rfl rfl (Nat.le_of_ble_eq_true rfl) dX3_setThings_7 (fun H locs hP hS => ?_)
  obtain ⟨C7, hC7⟩ : ∃ z9, z9 = pw_setF C 4 ([.ref (Ad 16), .ref (Ad 17), .ref (Ad 18), .ref (Ad 19), .ref (Ad 20), .int (nI m9)] : List Value) := ⟨_, rfl⟩
  have hP : pw_P D cy Ad (shX n) C7 H := by rw [hC7]; exact hP
  have hF : fX n m9 Ad C7 := by rw [hC7]; exact ⟨hF.1, hF.2.1, hF.2.2.1, hF.2.2.2.1, rfl⟩
  refine lv_aload_n hx hb dX3_setThings_10 rfl (lv_at hl 1 rfl) ?_
  refine pw_get hx hb hts (fun _ h9 => List.mem_cons_of_mem _ (List.mem_append_right _ h9)) hown hK hP 4 rfl rfl 0 (by decide) hF.2.2.2.2 rfl (hts (.fieldLink RX3 9 "PastDraws$Table" "weights" "[I") (List.mem_of_getElem? (i := 2) rfl)) dX3_setThings_11 ?_
  refine lv_iconst (v := nI 1) hx hb dX3_setThings_14 (by decide) ?_
  refine pw_csW S hK hP 2 (c_J7_fill_53178 l D cy Ad (shX n) C7 hI 16 16 0 rfl (by decide) (nI 1)) gX3_setThings_J7_fill_53178 rfl rfl rfl (by decide +kernel) ⟨Nat.le_of_ble_eq_true rfl, Nat.le_of_ble_eq_true rfl⟩ rfl hl.1 rfl (Nat.le_of_ble_eq_true rfl) dX3_setThings_15 ⟨Nat.le_refl _, Nat.le_refl _⟩ hS (fun _ h9 => h9) (fun r9 C15 H locs hR hP _ _ hS => ?_)
  obtain ⟨rfl, hR⟩ := hR
  change W p l e _ s m _ below meth c H locs 0 0 _ (F0 m 18 ls [])
  refine lv_iload_n hx hb dX3_setThings_18 rfl (lv_at hl 0 rfl) ?_
  exact W.iret hx hb hr (fun t ht _ => ⟨⟨(some (.int (nI mm))), C15, rfl, ⟨rfl, ⟨fX_B hF hR.1, fun k9 h9 => by have q9 := hR.1.1 k9 h9; rw [hC7] at q9; exact q9, hR.2⟩⟩, by rw [ht]; exact hP⟩, hS.F ht⟩) hS.2.2 dX3_setThings_19

set_option maxHeartbeats 4000000 in
set_option maxRecDepth 100000 in
theorem c_X3_setWeight (l : Launch) (D : va_G) (cy : Nat → ClassId) (Ad : Nat → Nat) (n mm : Nat) (C : pw_C) (hI : pw_I Ad (shX n)) (hn : 1 ≤ n ∧ n ≤ 12) (hF : fX n mm Ad C) (wt : Nat → Nat) (hT : gT wt C) (i : Nat) (y : Int32) (hi0 : i < 16) : Met l yX3_setWeight wsX3_setWeight (k2_rm 0 0) (pw_Pre ([.ref (Ad 4), .int (nI i), .int y]) D cy Ad (shX n) C) (pw_Post (fun r9 C' => r9 = some (.int (nI (wt i))) ∧ (C' = pw_setI C 16 i y)) D cy Ad (shX n)) 0 0 (pw_fr Ad (shX n)) := by
  refine Met.ofW (cc := cX3_setWeight) (maxL := 4) (ret := (some .int)) (by decide) rfl ?_
  intro p e s m args below meth c s₁ B hml hv
  obtain ⟨rfl, hP, hK⟩ := hv
  have hx := B.exec
  have hb := B.bytes
  have hr := B.returns
  have hts := atoms_spec (ws := wsX3_setWeight) B.pre
  have hown : s.vm.findClass RX3 = some m.cls := findClass_of_methodNamed B.named
  have hlocks := B.notSynchronized
  have S : CallFix p m c cX3_setWeight 4 s ([.ref (Ad 4), .int (nI i), .int y]).toArray wsX3_setWeight RX3 := ⟨hx, hb, hml, hown, hts⟩
  change W p l e (k2_rm 0 0) s m _ below meth c s.heap [] 0 0 _ _
  have hl := lv_entry ([.ref (Ad 4), .int (nI i), .int y]) (n := 4) (Nat.le_of_ble_eq_true rfl)
  rw [lg_entry_eq]
  generalize (lg_sl ([.ref (Ad 4), .int (nI i), .int y]) ++ List.replicate (4 - (lg_sl ([.ref (Ad 4), .int (nI i), .int y])).length) Slot.unset).toArray = ls at hl ⊢
  have hl : lv_has ls 4 [(0, .ref (Ad 4)), (1, .int (nI i)), (2, .int y)] := hl
  have hS : va_S (pw_fr Ad (shX n)) s.heap s.heap [] := va_S.rf
  have hB : pw_B (fun k => k = 16) C C := pw_B.rf
  refine lv_aload_n hx hb dX3_setWeight_0 rfl (lv_at hl 0 rfl) ?_
  refine pw_get hx hb hts (fun _ h9 => List.mem_cons_of_mem _ (List.mem_append_right _ h9)) hown hK hP 4 rfl rfl 0 (by decide) hF.2.2.2.2 rfl (hts (.fieldLink RX3 9 "PastDraws$Table" "weights" "[I") (List.mem_of_getElem? (i := 1) rfl)) dX3_setWeight_1 ?_
  refine lv_iload_n hx hb dX3_setWeight_4 rfl (lv_at hl 1 rfl) ?_
  refine pw_iald hx hb hK hP 16 rfl (by first | exact sgn_lt _ _ | omega) (by first | decide | omega) (v := nI (wt i)) (hT i hi0).2 dX3_setWeight_5 ?_
  refine lv_istore_n (lv' := [(3, .int (nI (wt i))), (0, .ref (Ad 4)), (1, .int (nI i)), (2, .int y)]) hx hb dX3_setWeight_6 rfl hl (by decide) rfl (fun ls hl => ?_)
  refine lv_aload_n hx hb dX3_setWeight_7 rfl (lv_at hl 1 rfl) ?_
  refine pw_get hx hb hts (fun _ h9 => List.mem_cons_of_mem _ (List.mem_append_right _ h9)) hown hK hP 4 rfl rfl 0 (by decide) hF.2.2.2.2 rfl (hts (.fieldLink RX3 9 "PastDraws$Table" "weights" "[I") (List.mem_of_getElem? (i := 1) rfl)) dX3_setWeight_8 ?_
  refine lv_iload_n hx hb dX3_setWeight_11 rfl (lv_at hl 2 rfl) ?_
  refine lv_iload_n hx hb dX3_setWeight_12 rfl (lv_at hl 3 rfl) ?_
  refine pw_iast hx hb hK hP hI hS 16 rfl (by first | exact sgn_lt _ _ | omega) (by first | decide | omega) dX3_setWeight_13 (fun H locs hP hS => ?_)
  obtain ⟨C13, hC13⟩ : ∃ z9, z9 = pw_setI C 16 i y := ⟨_, rfl⟩
  rw [← hC13] at hP
  have hB := by have hB9 := hB; exact (show pw_B (fun k => k = 16) C C13 by rw [hC13]; exact hB9.setI (by show 16 = 16; first | trivial | omega))
  refine lv_iload_n hx hb dX3_setWeight_14 rfl (lv_at hl 0 rfl) ?_
  exact W.iret hx hb hr (fun t ht _ => ⟨⟨(some (.int (nI (wt i)))), C13, rfl, ⟨rfl, hC13⟩, by rw [ht]; exact hP⟩, hS.F ht⟩) hS.2.2 dX3_setWeight_15

set_option maxHeartbeats 4000000 in
set_option maxRecDepth 100000 in
theorem L_tsum {p : Program} {l : Launch} {e : Env} {s : State} {m : MethodId} {args : Array Value} {below : List Frame} {meth : Method} {c : Code} {H : Heap} {locs : List Loc} {Q : State → Prop} (S : CallFix p m c cX3_sum 3 s args wsX3_sum RX3) {D : va_G} {cy : Nat → ClassId} {Ad : Nat → Nat} {n mm : Nat} {C : pw_C} (hK : pw_K D cy s) (hP : pw_P D cy Ad (shX n) C H) (hF : fX n mm Ad C)  {wt : Nat → Nat} (hT : gT wt C) (hmm : 1 ≤ mm ∧ mm ≤ 16) (hq : ∀ (pc9 : Nat) (ls : Array Slot), decode cX3_sum pc9 = .ok (.ireturn, 1) → W p l e (k2_rm 0 0) s m args below meth c H locs 0 0 Q (F0 m pc9 ls [.int (nI (smF wt mm))])) : ∀ (f : Nat) (i : Nat) (ls : Array Slot), mm - i < f → (i ≤ mm) → lv_has ls 3 [(2, .int (nI i)), (1, .int (nI (smF wt i))), (0, .ref (Ad 4))] → W p l e (k2_rm 0 0) s m args below meth c H locs 0 0 Q (F0 m 4 ls []) := by
  have hx := S.1
  have hb := S.2.1
  have hml := S.2.2.1
  have hown := S.2.2.2.1
  have hts := S.2.2.2.2
  intro f
  induction f with
  | zero => intro i ls hf; exact absurd hf (Nat.not_lt_zero _)
  | succ f ih =>
    intro i ls hf hi0 hl
    refine lv_iload_n hx hb dX3_sum_4 rfl (lv_at hl 0 rfl) ?_
    refine lv_aload_n hx hb dX3_sum_5 rfl (lv_at hl 2 rfl) ?_
    refine pw_get hx hb hts (fun _ h9 => List.mem_cons_of_mem _ (List.mem_append_right _ h9)) hown hK hP 4 rfl rfl 5 (by decide) hF.2.2.2.2 rfl (hts (.fieldLink RX3 28 "PastDraws$Table" "m" "I") (List.mem_of_getElem? (i := 1) rfl)) dX3_sum_6 ?_
    refine pn_icmp_ge (tgt := 27) hx hb (by omega) (by omega) dX3_sum_9 (by decide) (fun c_9 => ?_) (fun c_9 => ?_)
    · have hie : i = mm := by omega
      refine lv_iload_n hx hb dX3_sum_27 rfl (lv_at hl 1 rfl) ?_
      refine pw_topi (y := nI (smF wt mm)) (by rw [hie]) ?_
      exact hq _ ls dX3_sum_28
    · refine lv_iload_n hx hb dX3_sum_12 rfl (lv_at hl 1 rfl) ?_
      refine lv_aload_n hx hb dX3_sum_13 rfl (lv_at hl 2 rfl) ?_
      refine pw_get hx hb hts (fun _ h9 => List.mem_cons_of_mem _ (List.mem_append_right _ h9)) hown hK hP 4 rfl rfl 0 (by decide) hF.2.2.2.2 rfl (hts (.fieldLink RX3 9 "PastDraws$Table" "weights" "[I") (List.mem_of_getElem? (i := 2) rfl)) dX3_sum_14 ?_
      refine lv_iload_n hx hb dX3_sum_17 rfl (lv_at hl 0 rfl) ?_
      refine pw_iald hx hb hK hP 16 rfl (by first | exact sgn_lt _ _ | omega) (by first | decide | omega) (v := nI (wt i)) (hT i (by omega)).2 dX3_sum_18 ?_
      refine lv_iadd hx hb dX3_sum_19 ?_
      refine pw_topi (nI_add _ _) ?_
      refine lv_istore_n (lv' := [(1, .int (nI ((smF wt i) + (wt i)))), (2, .int (nI i)), (0, .ref (Ad 4))]) hx hb dX3_sum_20 rfl hl (by decide) rfl (fun ls hl => ?_)
      refine lv_iinc (v := nI (i + 1)) (lv' := [(2, .int (nI (i + 1))), (1, .int (nI ((smF wt i) + (wt i)))), (0, .ref (Ad 4))]) hx hb dX3_sum_21 hl (k := 1) rfl (nI_add _ 1) (by decide) rfl (fun ls hl => ?_)
      refine lv_goto (tgt := 4) hx hb dX3_sum_24 (by decide) ?_
      exact ih (i + 1) ls (by omega) (by omega) (lv_sub hl [0, 1, 2] rfl)

set_option maxHeartbeats 4000000 in
set_option maxRecDepth 100000 in
theorem c_X3_sum (l : Launch) (D : va_G) (cy : Nat → ClassId) (Ad : Nat → Nat) (n mm : Nat) (C : pw_C) (hn : 1 ≤ n ∧ n ≤ 12) (hF : fX n mm Ad C) (wt : Nat → Nat) (hT : gT wt C) (hmm : 1 ≤ mm ∧ mm ≤ 16) : Met l yX3_sum wsX3_sum (k2_rm 0 0) (pw_Pre ([.ref (Ad 4)]) D cy Ad (shX n) C) (k2_QcV (.int (nI (smF wt mm)))) 0 0 (fun _ => False) := by
  refine Met.ofW (cc := cX3_sum) (maxL := 3) (ret := (some .int)) (by decide) rfl ?_
  intro p e s m args below meth c s₁ B hml hv
  obtain ⟨rfl, hP, hK⟩ := hv
  have hx := B.exec
  have hb := B.bytes
  have hr := B.returns
  have hts := atoms_spec (ws := wsX3_sum) B.pre
  have hown : s.vm.findClass RX3 = some m.cls := findClass_of_methodNamed B.named
  have hlocks := B.notSynchronized
  have S : CallFix p m c cX3_sum 3 s ([.ref (Ad 4)]).toArray wsX3_sum RX3 := ⟨hx, hb, hml, hown, hts⟩
  change W p l e (k2_rm 0 0) s m _ below meth c s.heap [] 0 0 _ _
  have hl := lv_entry ([.ref (Ad 4)]) (n := 3) (Nat.le_of_ble_eq_true rfl)
  rw [lg_entry_eq]
  generalize (lg_sl ([.ref (Ad 4)]) ++ List.replicate (3 - (lg_sl ([.ref (Ad 4)])).length) Slot.unset).toArray = ls at hl ⊢
  have hl : lv_has ls 3 [(0, .ref (Ad 4))] := hl
  refine lv_iconst (v := nI 0) hx hb dX3_sum_0 (by decide) ?_
  refine lv_istore_n (lv' := [(1, .int (nI 0)), (0, .ref (Ad 4))]) hx hb dX3_sum_1 rfl hl (by decide) rfl (fun ls hl => ?_)
  refine lv_iconst (v := nI 0) hx hb dX3_sum_2 (by decide) ?_
  refine lv_istore_n (lv' := [(2, .int (nI 0)), (1, .int (nI 0)), (0, .ref (Ad 4))]) hx hb dX3_sum_3 rfl hl (by decide) rfl (fun ls hl => ?_)
  exact L_tsum S hK hP hF hT hmm (fun pc9 ls hd9 => W.iret hx hb hr (fun t ht _ => ⟨rfl, ht⟩) (fun q h => by cases h) hd9) (mm + 1) 0 ls (by omega) (by omega) (lv_sub hl [0, 1, 2] rfl)

set_option maxHeartbeats 4000000 in
set_option maxRecDepth 100000 in
theorem L_X3_firstUnder {p : Program} {l : Launch} {e : Env} {s : State} {m : MethodId} {args : Array Value} {below : List Frame} {meth : Method} {c : Code} {H : Heap} {locs : List Loc} {Q : State → Prop} (S : CallFix p m c cX3_firstUnder 3 s args wsX3_firstUnder RX3) {D : va_G} {cy : Nat → ClassId} {Ad : Nat → Nat} {n mm : Nat} {C : pw_C} (hK : pw_K D cy s) (hP : pw_P D cy Ad (shX n) C H) (hF : fX n mm Ad C)  {T : tbT} (hG : gTb mm T C) (Z : Nat) (hmm : 1 ≤ mm ∧ mm ≤ 16) (r : Option Nat) (hq : ∀ (pc9 : Nat) (ls : Array Slot), decode cX3_firstUnder pc9 = .ok (.ireturn, 1) → W p l e (k2_rm 0 0) s m args below meth c H locs 0 0 Q (F0 m pc9 ls [.int (oi r)])) : ∀ (f : Nat) (i : Nat) (ls : Array Slot), mm - i < f → (i ≤ mm) → (fstT (fun i => !T.2.2.2 i && decide (T.1 i < nI Z)) (mm - i) i = r) → lv_has ls 3 [(2, .int (nI i)), (0, .ref (Ad 4)), (1, .int (nI Z))] → W p l e (k2_rm 0 0) s m args below meth c H locs 0 0 Q (F0 m 2 ls []) := by
  have hx := S.1
  have hb := S.2.1
  have hml := S.2.2.1
  have hown := S.2.2.2.1
  have hts := S.2.2.2.2
  intro f
  induction f with
  | zero => intro i ls hf; exact absurd hf (Nat.not_lt_zero _)
  | succ f ih =>
    intro i ls hf hi0 hr0 hl
    refine lv_iload_n hx hb dX3_firstUnder_2 rfl (lv_at hl 0 rfl) ?_
    refine lv_aload_n hx hb dX3_firstUnder_3 rfl (lv_at hl 1 rfl) ?_
    refine pw_get hx hb hts (fun _ h9 => List.mem_cons_of_mem _ (List.mem_append_right _ h9)) hown hK hP 4 rfl rfl 5 (by decide) hF.2.2.2.2 rfl (hts (.fieldLink RX3 28 "PastDraws$Table" "m" "I") (List.mem_of_getElem? (i := 1) rfl)) dX3_firstUnder_4 ?_
    refine pn_icmp_ge (tgt := 37) hx hb (by omega) (by omega) dX3_firstUnder_7 (by decide) (fun c_7 => ?_) (fun c_7 => ?_)
    · have hz : mm - i = 0 := by omega
      rw [hz, fstT] at hr0
      refine lv_bipush (v := (-2)) hx hb dX3_firstUnder_37 (by decide) ?_
      refine pw_topi (y := oi r) (by rw [← hr0]; try rfl) ?_
      exact hq _ ls dX3_firstUnder_39
    · obtain ⟨z, hz⟩ : ∃ z, mm - i = z + 1 := ⟨mm - i - 1, by omega⟩
      rw [hz, fstT] at hr0
      have hz2 : z = mm - (i + 1) := by omega
      refine lv_aload_n hx hb dX3_firstUnder_10 rfl (lv_at hl 1 rfl) ?_
      refine pw_get hx hb hts (fun _ h9 => List.mem_cons_of_mem _ (List.mem_append_right _ h9)) hown hK hP 4 rfl rfl 4 (by decide) hF.2.2.2.2 rfl (hts (.fieldLink RX3 24 "PastDraws$Table" "isMade" "[Z") (List.mem_of_getElem? (i := 2) rfl)) dX3_firstUnder_11 ?_
      refine lv_iload_n hx hb dX3_firstUnder_14 rfl (lv_at hl 0 rfl) ?_
      refine pw_zald hx hb hK hP 20 rfl (by first | exact sgn_lt _ _ | omega) (by first | decide | omega) (v := pb (T.2.2.2 i)) (hG i (by omega)).2.2.2 dX3_firstUnder_15 ?_
      refine pn_ifne_b (tgt := 31) hx hb dX3_firstUnder_16 (by decide) (fun c_16 => ?_) (fun c_16 => ?_)
      · rw [if_neg (by rw [c_16]; exact (fun q9 => by cases q9))] at hr0
        refine lv_iinc (v := nI (i + 1)) (lv' := [(2, .int (nI (i + 1))), (0, .ref (Ad 4)), (1, .int (nI Z))]) hx hb dX3_firstUnder_31 hl (k := 0) rfl (nI_add _ 1) (by decide) rfl (fun ls hl => ?_)
        refine lv_goto (tgt := 2) hx hb dX3_firstUnder_34 (by decide) ?_
        exact ih (i + 1) ls (by omega) (by omega) (by rw [← hz2]; exact hr0) (lv_sub hl [0, 1, 2] rfl)
      · refine lv_aload_n hx hb dX3_firstUnder_19 rfl (lv_at hl 1 rfl) ?_
        refine pw_get hx hb hts (fun _ h9 => List.mem_cons_of_mem _ (List.mem_append_right _ h9)) hown hK hP 4 rfl rfl 1 (by decide) hF.2.2.2.2 rfl (hts (.fieldLink RX3 15 "PastDraws$Table" "rest" "[I") (List.mem_of_getElem? (i := 3) rfl)) dX3_firstUnder_20 ?_
        refine lv_iload_n hx hb dX3_firstUnder_23 rfl (lv_at hl 0 rfl) ?_
        refine pw_iald hx hb hK hP 17 rfl (by first | exact sgn_lt _ _ | omega) (by first | decide | omega) (v := T.1 i) (hG i (by omega)).1 dX3_firstUnder_24 ?_
        refine lv_iload_n hx hb dX3_firstUnder_25 rfl (lv_at hl 2 rfl) ?_
        refine lv_icmp_ge (tgt := 31) hx hb dX3_firstUnder_26 (by decide) (fun c_26 => ?_) (fun c_26 => ?_)
        · rw [if_neg (by rw [c_16, decide_eq_false (Int32.not_lt.mpr c_26)]; exact (fun q9 => by cases q9))] at hr0
          refine lv_iinc (v := nI (i + 1)) (lv' := [(2, .int (nI (i + 1))), (0, .ref (Ad 4)), (1, .int (nI Z))]) hx hb dX3_firstUnder_31 hl (k := 0) rfl (nI_add _ 1) (by decide) rfl (fun ls hl => ?_)
          refine lv_goto (tgt := 2) hx hb dX3_firstUnder_34 (by decide) ?_
          exact ih (i + 1) ls (by omega) (by omega) (by rw [← hz2]; exact hr0) (lv_sub hl [0, 1, 2] rfl)
        · rw [if_pos (by rw [c_16, decide_eq_true (Int32.not_le.mp c_26)]; rfl)] at hr0
          refine lv_iload_n hx hb dX3_firstUnder_29 rfl (lv_at hl 0 rfl) ?_
          refine pw_topi (y := oi r) (by rw [← hr0]; try rfl) ?_
          exact hq _ ls dX3_firstUnder_30

set_option maxHeartbeats 4000000 in
set_option maxRecDepth 100000 in
theorem c_X3_firstUnder (l : Launch) (D : va_G) (cy : Nat → ClassId) (Ad : Nat → Nat) (n mm : Nat) (C : pw_C) (hn : 1 ≤ n ∧ n ≤ 12) (hF : fX n mm Ad C) (T : tbT) (hG : gTb mm T C) (Z : Nat) (hmm : 1 ≤ mm ∧ mm ≤ 16) : Met l yX3_firstUnder wsX3_firstUnder (k2_rm 0 0) (pw_Pre ([.ref (Ad 4), .int (nI Z)]) D cy Ad (shX n) C) (k2_QcV (.int (oi (tmu mm Z T)))) 0 0 (fun _ => False) := by
  refine Met.ofW (cc := cX3_firstUnder) (maxL := 3) (ret := (some .int)) (by decide) rfl ?_
  intro p e s m args below meth c s₁ B hml hv
  obtain ⟨rfl, hP, hK⟩ := hv
  have hx := B.exec
  have hb := B.bytes
  have hr := B.returns
  have hts := atoms_spec (ws := wsX3_firstUnder) B.pre
  have hown : s.vm.findClass RX3 = some m.cls := findClass_of_methodNamed B.named
  have hlocks := B.notSynchronized
  have S : CallFix p m c cX3_firstUnder 3 s ([.ref (Ad 4), .int (nI Z)]).toArray wsX3_firstUnder RX3 := ⟨hx, hb, hml, hown, hts⟩
  change W p l e (k2_rm 0 0) s m _ below meth c s.heap [] 0 0 _ _
  have hl := lv_entry ([.ref (Ad 4), .int (nI Z)]) (n := 3) (Nat.le_of_ble_eq_true rfl)
  rw [lg_entry_eq]
  generalize (lg_sl ([.ref (Ad 4), .int (nI Z)]) ++ List.replicate (3 - (lg_sl ([.ref (Ad 4), .int (nI Z)])).length) Slot.unset).toArray = ls at hl ⊢
  have hl : lv_has ls 3 [(0, .ref (Ad 4)), (1, .int (nI Z))] := hl
  refine lv_iconst (v := nI 0) hx hb dX3_firstUnder_0 (by decide) ?_
  refine lv_istore_n (lv' := [(2, .int (nI 0)), (0, .ref (Ad 4)), (1, .int (nI Z))]) hx hb dX3_firstUnder_1 rfl hl (by decide) rfl (fun ls hl => ?_)
  exact L_X3_firstUnder S hK hP hF hG Z hmm _ (fun pc9 ls hd9 => W.iret hx hb hr (fun t ht _ => ⟨rfl, ht⟩) (fun q h => by cases h) hd9) (mm + 1) 0 ls (by omega) (by omega) rfl (lv_sub hl [0, 1, 2] rfl)

set_option maxHeartbeats 4000000 in
set_option maxRecDepth 100000 in
theorem L_X3_firstOver {p : Program} {l : Launch} {e : Env} {s : State} {m : MethodId} {args : Array Value} {below : List Frame} {meth : Method} {c : Code} {H : Heap} {locs : List Loc} {Q : State → Prop} (S : CallFix p m c cX3_firstOver 3 s args wsX3_firstOver RX3) {D : va_G} {cy : Nat → ClassId} {Ad : Nat → Nat} {n mm : Nat} {C : pw_C} (hK : pw_K D cy s) (hP : pw_P D cy Ad (shX n) C H) (hF : fX n mm Ad C)  {T : tbT} (hG : gTb mm T C) (Z : Nat) (hmm : 1 ≤ mm ∧ mm ≤ 16) (r : Option Nat) (hq : ∀ (pc9 : Nat) (ls : Array Slot), decode cX3_firstOver pc9 = .ok (.ireturn, 1) → W p l e (k2_rm 0 0) s m args below meth c H locs 0 0 Q (F0 m pc9 ls [.int (oi r)])) : ∀ (f : Nat) (i : Nat) (ls : Array Slot), mm - i < f → (i ≤ mm) → (fstT (fun i => !T.2.2.2 i && decide (nI Z < T.1 i)) (mm - i) i = r) → lv_has ls 3 [(2, .int (nI i)), (0, .ref (Ad 4)), (1, .int (nI Z))] → W p l e (k2_rm 0 0) s m args below meth c H locs 0 0 Q (F0 m 2 ls []) := by
  have hx := S.1
  have hb := S.2.1
  have hml := S.2.2.1
  have hown := S.2.2.2.1
  have hts := S.2.2.2.2
  intro f
  induction f with
  | zero => intro i ls hf; exact absurd hf (Nat.not_lt_zero _)
  | succ f ih =>
    intro i ls hf hi0 hr0 hl
    refine lv_iload_n hx hb dX3_firstOver_2 rfl (lv_at hl 0 rfl) ?_
    refine lv_aload_n hx hb dX3_firstOver_3 rfl (lv_at hl 1 rfl) ?_
    refine pw_get hx hb hts (fun _ h9 => List.mem_cons_of_mem _ (List.mem_append_right _ h9)) hown hK hP 4 rfl rfl 5 (by decide) hF.2.2.2.2 rfl (hts (.fieldLink RX3 28 "PastDraws$Table" "m" "I") (List.mem_of_getElem? (i := 1) rfl)) dX3_firstOver_4 ?_
    refine pn_icmp_ge (tgt := 37) hx hb (by omega) (by omega) dX3_firstOver_7 (by decide) (fun c_7 => ?_) (fun c_7 => ?_)
    · have hz : mm - i = 0 := by omega
      rw [hz, fstT] at hr0
      refine lv_bipush (v := (-2)) hx hb dX3_firstOver_37 (by decide) ?_
      refine pw_topi (y := oi r) (by rw [← hr0]; try rfl) ?_
      exact hq _ ls dX3_firstOver_39
    · obtain ⟨z, hz⟩ : ∃ z, mm - i = z + 1 := ⟨mm - i - 1, by omega⟩
      rw [hz, fstT] at hr0
      have hz2 : z = mm - (i + 1) := by omega
      refine lv_aload_n hx hb dX3_firstOver_10 rfl (lv_at hl 1 rfl) ?_
      refine pw_get hx hb hts (fun _ h9 => List.mem_cons_of_mem _ (List.mem_append_right _ h9)) hown hK hP 4 rfl rfl 4 (by decide) hF.2.2.2.2 rfl (hts (.fieldLink RX3 24 "PastDraws$Table" "isMade" "[Z") (List.mem_of_getElem? (i := 2) rfl)) dX3_firstOver_11 ?_
      refine lv_iload_n hx hb dX3_firstOver_14 rfl (lv_at hl 0 rfl) ?_
      refine pw_zald hx hb hK hP 20 rfl (by first | exact sgn_lt _ _ | omega) (by first | decide | omega) (v := pb (T.2.2.2 i)) (hG i (by omega)).2.2.2 dX3_firstOver_15 ?_
      refine pn_ifne_b (tgt := 31) hx hb dX3_firstOver_16 (by decide) (fun c_16 => ?_) (fun c_16 => ?_)
      · rw [if_neg (by rw [c_16]; exact (fun q9 => by cases q9))] at hr0
        refine lv_iinc (v := nI (i + 1)) (lv' := [(2, .int (nI (i + 1))), (0, .ref (Ad 4)), (1, .int (nI Z))]) hx hb dX3_firstOver_31 hl (k := 0) rfl (nI_add _ 1) (by decide) rfl (fun ls hl => ?_)
        refine lv_goto (tgt := 2) hx hb dX3_firstOver_34 (by decide) ?_
        exact ih (i + 1) ls (by omega) (by omega) (by rw [← hz2]; exact hr0) (lv_sub hl [0, 1, 2] rfl)
      · refine lv_aload_n hx hb dX3_firstOver_19 rfl (lv_at hl 1 rfl) ?_
        refine pw_get hx hb hts (fun _ h9 => List.mem_cons_of_mem _ (List.mem_append_right _ h9)) hown hK hP 4 rfl rfl 1 (by decide) hF.2.2.2.2 rfl (hts (.fieldLink RX3 15 "PastDraws$Table" "rest" "[I") (List.mem_of_getElem? (i := 3) rfl)) dX3_firstOver_20 ?_
        refine lv_iload_n hx hb dX3_firstOver_23 rfl (lv_at hl 0 rfl) ?_
        refine pw_iald hx hb hK hP 17 rfl (by first | exact sgn_lt _ _ | omega) (by first | decide | omega) (v := T.1 i) (hG i (by omega)).1 dX3_firstOver_24 ?_
        refine lv_iload_n hx hb dX3_firstOver_25 rfl (lv_at hl 2 rfl) ?_
        refine lv_icmp_le (tgt := 31) hx hb dX3_firstOver_26 (by decide) (fun c_26 => ?_) (fun c_26 => ?_)
        · rw [if_neg (by rw [c_16, decide_eq_false (Int32.not_lt.mpr c_26)]; exact (fun q9 => by cases q9))] at hr0
          refine lv_iinc (v := nI (i + 1)) (lv' := [(2, .int (nI (i + 1))), (0, .ref (Ad 4)), (1, .int (nI Z))]) hx hb dX3_firstOver_31 hl (k := 0) rfl (nI_add _ 1) (by decide) rfl (fun ls hl => ?_)
          refine lv_goto (tgt := 2) hx hb dX3_firstOver_34 (by decide) ?_
          exact ih (i + 1) ls (by omega) (by omega) (by rw [← hz2]; exact hr0) (lv_sub hl [0, 1, 2] rfl)
        · rw [if_pos (by rw [c_16, decide_eq_true (Int32.not_le.mp c_26)]; rfl)] at hr0
          refine lv_iload_n hx hb dX3_firstOver_29 rfl (lv_at hl 0 rfl) ?_
          refine pw_topi (y := oi r) (by rw [← hr0]; try rfl) ?_
          exact hq _ ls dX3_firstOver_30

set_option maxHeartbeats 4000000 in
set_option maxRecDepth 100000 in
theorem c_X3_firstOver (l : Launch) (D : va_G) (cy : Nat → ClassId) (Ad : Nat → Nat) (n mm : Nat) (C : pw_C) (hn : 1 ≤ n ∧ n ≤ 12) (hF : fX n mm Ad C) (T : tbT) (hG : gTb mm T C) (Z : Nat) (hmm : 1 ≤ mm ∧ mm ≤ 16) : Met l yX3_firstOver wsX3_firstOver (k2_rm 0 0) (pw_Pre ([.ref (Ad 4), .int (nI Z)]) D cy Ad (shX n) C) (k2_QcV (.int (oi (tmo mm Z T)))) 0 0 (fun _ => False) := by
  refine Met.ofW (cc := cX3_firstOver) (maxL := 3) (ret := (some .int)) (by decide) rfl ?_
  intro p e s m args below meth c s₁ B hml hv
  obtain ⟨rfl, hP, hK⟩ := hv
  have hx := B.exec
  have hb := B.bytes
  have hr := B.returns
  have hts := atoms_spec (ws := wsX3_firstOver) B.pre
  have hown : s.vm.findClass RX3 = some m.cls := findClass_of_methodNamed B.named
  have hlocks := B.notSynchronized
  have S : CallFix p m c cX3_firstOver 3 s ([.ref (Ad 4), .int (nI Z)]).toArray wsX3_firstOver RX3 := ⟨hx, hb, hml, hown, hts⟩
  change W p l e (k2_rm 0 0) s m _ below meth c s.heap [] 0 0 _ _
  have hl := lv_entry ([.ref (Ad 4), .int (nI Z)]) (n := 3) (Nat.le_of_ble_eq_true rfl)
  rw [lg_entry_eq]
  generalize (lg_sl ([.ref (Ad 4), .int (nI Z)]) ++ List.replicate (3 - (lg_sl ([.ref (Ad 4), .int (nI Z)])).length) Slot.unset).toArray = ls at hl ⊢
  have hl : lv_has ls 3 [(0, .ref (Ad 4)), (1, .int (nI Z))] := hl
  refine lv_iconst (v := nI 0) hx hb dX3_firstOver_0 (by decide) ?_
  refine lv_istore_n (lv' := [(2, .int (nI 0)), (0, .ref (Ad 4)), (1, .int (nI Z))]) hx hb dX3_firstOver_1 rfl hl (by decide) rfl (fun ls hl => ?_)
  exact L_X3_firstOver S hK hP hF hG Z hmm _ (fun pc9 ls hd9 => W.iret hx hb hr (fun t ht _ => ⟨rfl, ht⟩) (fun q h => by cases h) hd9) (mm + 1) 0 ls (by omega) (by omega) rfl (lv_sub hl [0, 1, 2] rfl)

set_option maxHeartbeats 4000000 in
set_option maxRecDepth 100000 in
theorem L_make_a {p : Program} {l : Launch} {e : Env} {s : State} {m : MethodId} {args : Array Value} {below : List Frame} {meth : Method} {c : Code} {Q : State → Prop} (S : CallFix p m c cX3_make 5 s args wsX3_make RX3) {D : va_G} {cy : Nat → ClassId} {Ad : Nat → Nat} {n mm : Nat} {C0 : pw_C} (hK : pw_K D cy s) (hI : pw_I Ad (shX n)) (hF0 : fX n mm Ad C0) (hn : 1 ≤ n ∧ n ≤ 12) {wt : Nat → Nat} (hT0 : gT wt C0) (hmm : 1 ≤ mm ∧ mm ≤ 16) (Z : Nat) (hk : ∀ (C : pw_C) (H : Heap) (locs : List Loc) (ls : Array Slot), pw_P D cy Ad (shX n) C H → va_S (pw_fr Ad (shX n)) s.heap H locs → (pw_B (fun k => 17 ≤ k ∧ k ≤ 20) C0 C ∧ gTb mm (tm0 wt mm Z) C) → lv_has ls 5 [(0, .ref (Ad 4)), (1, .int (nI Z))] → W p l e (k2_rm 1 22) s m args below meth c H locs 0 0 Q (F0 m 54 ls [])) : ∀ (f : Nat) (C : pw_C) (H : Heap) (locs : List Loc) (i : Nat) (ls : Array Slot), mm - i < f → (pw_P D cy Ad (shX n) C H) → (va_S (pw_fr Ad (shX n)) s.heap H locs) → (pw_B (fun k => 17 ≤ k ∧ k ≤ 20) C0 C) → (i ≤ mm) → (gTb i (tm0 wt mm Z) C) → lv_has ls 5 [(2, .int (nI i)), (0, .ref (Ad 4)), (1, .int (nI Z))] → W p l e (k2_rm 1 22) s m args below meth c H locs 0 0 Q (F0 m 2 ls []) := by
  have hx := S.1
  have hb := S.2.1
  have hml := S.2.2.1
  have hown := S.2.2.2.1
  have hts := S.2.2.2.2
  intro f
  induction f with
  | zero => intro C H locs i ls hf; exact absurd hf (Nat.not_lt_zero _)
  | succ f ih =>
    intro C H locs i ls hf hP hS hB hi0 hv hl
    have hF := fX_B hF0 hB
    have hT := gT_B hT0 hB (fun h9 => by have h8 : 17 ≤ (16 : Nat) ∧ (16 : Nat) ≤ 20 := h9; omega)
    refine lv_iload_n hx hb dX3_make_2 rfl (lv_at hl 0 rfl) ?_
    refine lv_aload_n hx hb dX3_make_3 rfl (lv_at hl 1 rfl) ?_
    refine pw_get hx hb hts (fun _ h9 => List.mem_cons_of_mem _ (List.mem_append_right _ h9)) hown hK hP 4 rfl rfl 5 (by decide) hF.2.2.2.2 rfl (hts (.fieldLink RX3 28 "PastDraws$Table" "m" "I") (List.mem_of_getElem? (i := 1) rfl)) dX3_make_4 ?_
    refine pn_icmp_ge (tgt := 54) hx hb (by omega) (by omega) dX3_make_7 (by decide) (fun c_7 => ?_) (fun c_7 => ?_)
    · obtain rfl : i = mm := by omega
      exact hk C H locs ls hP hS ⟨hB, hv⟩ (lv_sub hl [1, 2] rfl)
    · refine lv_aload_n hx hb dX3_make_10 rfl (lv_at hl 1 rfl) ?_
      refine pw_get hx hb hts (fun _ h9 => List.mem_cons_of_mem _ (List.mem_append_right _ h9)) hown hK hP 4 rfl rfl 1 (by decide) hF.2.2.2.2 rfl (hts (.fieldLink RX3 15 "PastDraws$Table" "rest" "[I") (List.mem_of_getElem? (i := 2) rfl)) dX3_make_11 ?_
      refine lv_iload_n hx hb dX3_make_14 rfl (lv_at hl 0 rfl) ?_
      refine lv_aload_n hx hb dX3_make_15 rfl (lv_at hl 1 rfl) ?_
      refine pw_get hx hb hts (fun _ h9 => List.mem_cons_of_mem _ (List.mem_append_right _ h9)) hown hK hP 4 rfl rfl 5 (by decide) hF.2.2.2.2 rfl (hts (.fieldLink RX3 28 "PastDraws$Table" "m" "I") (List.mem_of_getElem? (i := 1) rfl)) dX3_make_16 ?_
      refine lv_aload_n hx hb dX3_make_19 rfl (lv_at hl 1 rfl) ?_
      refine pw_get hx hb hts (fun _ h9 => List.mem_cons_of_mem _ (List.mem_append_right _ h9)) hown hK hP 4 rfl rfl 0 (by decide) hF.2.2.2.2 rfl (hts (.fieldLink RX3 9 "PastDraws$Table" "weights" "[I") (List.mem_of_getElem? (i := 3) rfl)) dX3_make_20 ?_
      refine lv_iload_n hx hb dX3_make_23 rfl (lv_at hl 0 rfl) ?_
      refine pw_iald hx hb hK hP 16 rfl (by first | exact sgn_lt _ _ | omega) (by first | decide | omega) (v := nI (wt i)) (hT i (by omega)).2 dX3_make_24 ?_
      refine lv_imul hx hb dX3_make_25 ?_
      refine pw_topi (pk_mul _ _) ?_
      refine pw_iast hx hb hK hP hI hS 17 rfl (by first | exact sgn_lt _ _ | omega) (by first | decide | omega) dX3_make_26 (fun H locs hP hS => ?_)
      obtain ⟨C26, hC26⟩ : ∃ z9, z9 = pw_setI C 17 i (nI (mm * (wt i))) := ⟨_, rfl⟩
      rw [← hC26] at hP
      have hB := by have hB9 := hB; exact (show pw_B (fun k => 17 ≤ k ∧ k ≤ 20) C0 C26 by rw [hC26]; exact hB9.setI (by show 17 ≤ 17 ∧ 17 ≤ 20; first | trivial | omega))
      have hF := fX_B hF0 hB
      refine lv_aload_n hx hb dX3_make_27 rfl (lv_at hl 1 rfl) ?_
      refine pw_get hx hb hts (fun _ h9 => List.mem_cons_of_mem _ (List.mem_append_right _ h9)) hown hK hP 4 rfl rfl 2 (by decide) hF.2.2.2.2 rfl (hts (.fieldLink RX3 18 "PastDraws$Table" "limit" "[I") (List.mem_of_getElem? (i := 4) rfl)) dX3_make_28 ?_
      refine lv_iload_n hx hb dX3_make_31 rfl (lv_at hl 0 rfl) ?_
      refine lv_iload_n hx hb dX3_make_32 rfl (lv_at hl 2 rfl) ?_
      refine pw_iast hx hb hK hP hI hS 18 rfl (by first | exact sgn_lt _ _ | omega) (by first | decide | omega) dX3_make_33 (fun H locs hP hS => ?_)
      obtain ⟨C33, hC33⟩ : ∃ z9, z9 = pw_setI C26 18 i (nI Z) := ⟨_, rfl⟩
      rw [← hC33] at hP
      have hB := by have hB9 := hB; exact (show pw_B (fun k => 17 ≤ k ∧ k ≤ 20) C0 C33 by rw [hC33]; exact hB9.setI (by show 17 ≤ 18 ∧ 18 ≤ 20; first | trivial | omega))
      have hF := fX_B hF0 hB
      refine lv_aload_n hx hb dX3_make_34 rfl (lv_at hl 1 rfl) ?_
      refine pw_get hx hb hts (fun _ h9 => List.mem_cons_of_mem _ (List.mem_append_right _ h9)) hown hK hP 4 rfl rfl 3 (by decide) hF.2.2.2.2 rfl (hts (.fieldLink RX3 21 "PastDraws$Table" "other" "[I") (List.mem_of_getElem? (i := 5) rfl)) dX3_make_35 ?_
      refine lv_iload_n hx hb dX3_make_38 rfl (lv_at hl 0 rfl) ?_
      refine lv_iload_n hx hb dX3_make_39 rfl (lv_at hl 0 rfl) ?_
      refine pw_iast hx hb hK hP hI hS 19 rfl (by first | exact sgn_lt _ _ | omega) (by first | decide | omega) dX3_make_40 (fun H locs hP hS => ?_)
      obtain ⟨C40, hC40⟩ : ∃ z9, z9 = pw_setI C33 19 i (nI i) := ⟨_, rfl⟩
      rw [← hC40] at hP
      have hB := by have hB9 := hB; exact (show pw_B (fun k => 17 ≤ k ∧ k ≤ 20) C0 C40 by rw [hC40]; exact hB9.setI (by show 17 ≤ 19 ∧ 19 ≤ 20; first | trivial | omega))
      have hF := fX_B hF0 hB
      refine lv_aload_n hx hb dX3_make_41 rfl (lv_at hl 1 rfl) ?_
      refine pw_get hx hb hts (fun _ h9 => List.mem_cons_of_mem _ (List.mem_append_right _ h9)) hown hK hP 4 rfl rfl 4 (by decide) hF.2.2.2.2 rfl (hts (.fieldLink RX3 24 "PastDraws$Table" "isMade" "[Z") (List.mem_of_getElem? (i := 6) rfl)) dX3_make_42 ?_
      refine lv_iload_n hx hb dX3_make_45 rfl (lv_at hl 0 rfl) ?_
      refine lv_iconst (v := nI 0) hx hb dX3_make_46 (by decide) ?_
      refine pw_topi (y := pb false) rfl ?_
      refine pw_zast hx hb hK hP hI hS 20 rfl (by first | exact sgn_lt _ _ | omega) (by first | decide | omega) (pb_nar _) dX3_make_47 (fun H locs hP hS => ?_)
      obtain ⟨C47, hC47⟩ : ∃ z9, z9 = pw_setI C40 20 i (pb false) := ⟨_, rfl⟩
      rw [← hC47] at hP
      have hB := by have hB9 := hB; exact (show pw_B (fun k => 17 ≤ k ∧ k ≤ 20) C0 C47 by rw [hC47]; exact hB9.setI (by show 17 ≤ 20 ∧ 20 ≤ 20; first | trivial | omega))
      have hF := fX_B hF0 hB
      refine lv_iinc (v := nI (i + 1)) (lv' := [(2, .int (nI (i + 1))), (0, .ref (Ad 4)), (1, .int (nI Z))]) hx hb dX3_make_48 hl (k := 0) rfl (nI_add _ 1) (by decide) rfl (fun ls hl => ?_)
      refine lv_goto (tgt := 2) hx hb dX3_make_51 (by decide) ?_
      exact ih C47 H locs (i + 1) ls (by omega) hP hS hB (by omega) (fun j hj => by
        rw [hC47, hC40, hC33, hC26]
        refine ⟨?_, ?_, ?_, ?_⟩
        · rw [si_ne (by decide), si_ne (by decide), si_ne (by decide), si_at]
          by_cases q : j = i
          · rw [if_pos q, q]; rfl
          · rw [if_neg q]; exact (hv j (by omega)).1
        · rw [si_ne (by decide), si_ne (by decide), si_at]
          by_cases q : j = i
          · rw [if_pos q]; rfl
          · rw [if_neg q, si_ne (by decide)]; exact (hv j (by omega)).2.1
        · rw [si_ne (by decide), si_at]
          by_cases q : j = i
          · rw [if_pos q, q]; rfl
          · rw [if_neg q, si_ne (by decide), si_ne (by decide)]; exact (hv j (by omega)).2.2.1
        · rw [si_at]
          by_cases q : j = i
          · rw [if_pos q]; rfl
          · rw [if_neg q, si_ne (by decide), si_ne (by decide), si_ne (by decide)]; exact (hv j (by omega)).2.2.2) (lv_sub hl [0, 1, 2] rfl)

set_option maxHeartbeats 4000000 in
set_option maxRecDepth 100000 in
theorem L_make {p : Program} {l : Launch} {e : Env} {s : State} {m : MethodId} {args : Array Value} {below : List Frame} {meth : Method} {c : Code} {Q : State → Prop} (S : CallFix p m c cX3_make 5 s args wsX3_make RX3) {D : va_G} {cy : Nat → ClassId} {Ad : Nat → Nat} {n mm : Nat} {C0 : pw_C} (hK : pw_K D cy s) (hI : pw_I Ad (shX n)) (hF0 : fX n mm Ad C0) (hn : 1 ≤ n ∧ n ≤ 12) (hmm : 1 ≤ mm ∧ mm ≤ 16) (Z : Nat) (T9 : tbT) (hq : ∀ (pc9 : Nat) (C : pw_C) (H : Heap) (locs : List Loc) (ls : Array Slot), decode cX3_make pc9 = .ok (.return_, 1) → pw_P D cy Ad (shX n) C H → va_S (pw_fr Ad (shX n)) s.heap H locs → (pw_B (fun k => 17 ≤ k ∧ k ≤ 20) C0 C ∧ gTb mm T9 C) → W p l e (k2_rm 1 22) s m args below meth c H locs 0 0 Q (F0 m pc9 ls [])) : ∀ (f : Nat) (C : pw_C) (H : Heap) (locs : List Loc) (k : Nat) (T : tbT) (ls : Array Slot), mm - k < f → (pw_P D cy Ad (shX n) C H) → (va_S (pw_fr Ad (shX n)) s.heap H locs) → (pw_B (fun k => 17 ≤ k ∧ k ≤ 20) C0 C) → (k ≤ mm) → (gTb mm T C) → (tmF mm Z (mm - k) T = T9) → lv_has ls 5 [(2, .int (nI k)), (0, .ref (Ad 4)), (1, .int (nI Z))] → W p l e (k2_rm 1 22) s m args below meth c H locs 0 0 Q (F0 m 56 ls []) := by
  have hx := S.1
  have hb := S.2.1
  have hml := S.2.2.1
  have hown := S.2.2.2.1
  have hts := S.2.2.2.2
  intro f
  induction f with
  | zero => intro C H locs k T ls hf; exact absurd hf (Nat.not_lt_zero _)
  | succ f ih =>
    intro C H locs k T ls hf hP hS hB hk0 hG hr0 hl
    have hF := fX_B hF0 hB
    refine lv_iload_n hx hb dX3_make_56 rfl (lv_at hl 0 rfl) ?_
    refine lv_aload_n hx hb dX3_make_57 rfl (lv_at hl 1 rfl) ?_
    refine pw_get hx hb hts (fun _ h9 => List.mem_cons_of_mem _ (List.mem_append_right _ h9)) hown hK hP 4 rfl rfl 5 (by decide) hF.2.2.2.2 rfl (hts (.fieldLink RX3 28 "PastDraws$Table" "m" "I") (List.mem_of_getElem? (i := 1) rfl)) dX3_make_58 ?_
    refine pn_icmp_ge (tgt := 142) hx hb (by omega) (by omega) dX3_make_61 (by decide) (fun c_61 => ?_) (fun c_61 => ?_)
    · have hz : mm - k = 0 := by omega
      rw [hz, tmF] at hr0
      subst hr0
      exact hq _ C H locs ls dX3_make_142 hP hS ⟨hB, hG⟩
    · obtain ⟨z, hz⟩ : ∃ z, mm - k = z + 1 := ⟨mm - k - 1, by omega⟩
      rw [hz, tmF] at hr0
      have hz2 : z = mm - (k + 1) := by omega
      refine lv_aload_n hx hb dX3_make_64 rfl (lv_at hl 1 rfl) ?_
      refine lv_iload_n hx hb dX3_make_65 rfl (lv_at hl 2 rfl) ?_
      refine pw_cv S hK hP 4 3 rfl rfl 1 (c_X3_firstUnder l D cy Ad n mm C hn hF T hG Z hmm) gX3_make_X3_firstUnder rfl rfl rfl (by decide +kernel) ⟨Nat.le_of_ble_eq_true rfl, Nat.le_of_ble_eq_true rfl⟩ rfl hl.1 rfl (Nat.le_of_ble_eq_true rfl) dX3_make_66 ⟨Nat.le_refl _, Nat.le_refl _⟩ ?_
      rcases ho_69 : tmu mm Z T with _ | y_69
      · refine pw_topi (y := (-2)) rfl ?_
        refine lv_istore_n (lv' := [(3, .int (-2)), (2, .int (nI k)), (0, .ref (Ad 4)), (1, .int (nI Z))]) hx hb dX3_make_69 rfl hl (by decide) rfl (fun ls hl => ?_)
        refine lv_aload_n hx hb dX3_make_70 rfl (lv_at hl 2 rfl) ?_
        refine lv_iload_n hx hb dX3_make_71 rfl (lv_at hl 3 rfl) ?_
        refine pw_cv S hK hP 4 3 rfl rfl 1 (c_X3_firstOver l D cy Ad n mm C hn hF T hG Z hmm) gX3_make_X3_firstOver rfl rfl rfl (by decide +kernel) ⟨Nat.le_of_ble_eq_true rfl, Nat.le_of_ble_eq_true rfl⟩ rfl hl.1 rfl (Nat.le_of_ble_eq_true rfl) dX3_make_72 ⟨Nat.le_refl _, Nat.le_refl _⟩ ?_
        rcases ho_75 : tmo mm Z T with _ | y_75
        · refine pw_topi (y := (-2)) rfl ?_
          refine lv_istore (lv' := [(4, .int (-2)), (3, .int (-2)), (2, .int (nI k)), (0, .ref (Ad 4)), (1, .int (nI Z))]) hx hb dX3_make_75 hl (by decide) rfl (fun ls hl => ?_)
          refine lv_iload_n hx hb dX3_make_77 rfl (lv_at hl 1 rfl) ?_
          refine lv_bipush (v := (-2)) hx hb dX3_make_78 (by decide) ?_
          refine lv_icmp_eq (tgt := 90) hx hb dX3_make_80 (by decide) (fun c_80 => ?_) (fun c_80 => absurd rfl c_80)
          rw [ho_69] at hr0
          exact hq _ C H locs ls dX3_make_90 hP hS ⟨hB, (by rw [← hr0]; exact hG)⟩
        · have hy_75 : y_75 < mm := by have := fstT_lt _ _ _ ho_75; omega
          refine pw_topi (y := nI y_75) rfl ?_
          refine lv_istore (lv' := [(4, .int (nI y_75)), (3, .int (-2)), (2, .int (nI k)), (0, .ref (Ad 4)), (1, .int (nI Z))]) hx hb dX3_make_75 hl (by decide) rfl (fun ls hl => ?_)
          refine lv_iload_n hx hb dX3_make_77 rfl (lv_at hl 1 rfl) ?_
          refine lv_bipush (v := (-2)) hx hb dX3_make_78 (by decide) ?_
          refine lv_icmp_eq (tgt := 90) hx hb dX3_make_80 (by decide) (fun c_80 => ?_) (fun c_80 => absurd rfl c_80)
          rw [ho_69] at hr0
          exact hq _ C H locs ls dX3_make_90 hP hS ⟨hB, (by rw [← hr0]; exact hG)⟩
      · have hy_69 : y_69 < mm := by have := fstT_lt _ _ _ ho_69; omega
        refine pw_topi (y := nI y_69) rfl ?_
        refine lv_istore_n (lv' := [(3, .int (nI y_69)), (2, .int (nI k)), (0, .ref (Ad 4)), (1, .int (nI Z))]) hx hb dX3_make_69 rfl hl (by decide) rfl (fun ls hl => ?_)
        refine lv_aload_n hx hb dX3_make_70 rfl (lv_at hl 2 rfl) ?_
        refine lv_iload_n hx hb dX3_make_71 rfl (lv_at hl 3 rfl) ?_
        refine pw_cv S hK hP 4 3 rfl rfl 1 (c_X3_firstOver l D cy Ad n mm C hn hF T hG Z hmm) gX3_make_X3_firstOver rfl rfl rfl (by decide +kernel) ⟨Nat.le_of_ble_eq_true rfl, Nat.le_of_ble_eq_true rfl⟩ rfl hl.1 rfl (Nat.le_of_ble_eq_true rfl) dX3_make_72 ⟨Nat.le_refl _, Nat.le_refl _⟩ ?_
        rcases ho_75 : tmo mm Z T with _ | y_75
        · refine pw_topi (y := (-2)) rfl ?_
          refine lv_istore (lv' := [(4, .int (-2)), (3, .int (nI y_69)), (2, .int (nI k)), (0, .ref (Ad 4)), (1, .int (nI Z))]) hx hb dX3_make_75 hl (by decide) rfl (fun ls hl => ?_)
          refine lv_iload_n hx hb dX3_make_77 rfl (lv_at hl 1 rfl) ?_
          refine lv_bipush (v := (-2)) hx hb dX3_make_78 (by decide) ?_
          refine lv_icmp_eq (tgt := 90) hx hb dX3_make_80 (by decide) (fun c_80 => absurd c_80 (ni_m2 (by omega))) (fun c_80 => ?_)
          refine lv_iload hx hb dX3_make_83 (lv_at hl 0 rfl) ?_
          refine lv_bipush (v := (-2)) hx hb dX3_make_85 (by decide) ?_
          refine lv_icmp_ne (tgt := 91) hx hb dX3_make_87 (by decide) (fun c_87 => absurd rfl c_87) (fun c_87 => ?_)
          rw [ho_69, ho_75] at hr0
          exact hq _ C H locs ls dX3_make_90 hP hS ⟨hB, (by rw [← hr0]; exact hG)⟩
        · have hy_75 : y_75 < mm := by have := fstT_lt _ _ _ ho_75; omega
          refine pw_topi (y := nI y_75) rfl ?_
          refine lv_istore (lv' := [(4, .int (nI y_75)), (3, .int (nI y_69)), (2, .int (nI k)), (0, .ref (Ad 4)), (1, .int (nI Z))]) hx hb dX3_make_75 hl (by decide) rfl (fun ls hl => ?_)
          refine lv_iload_n hx hb dX3_make_77 rfl (lv_at hl 1 rfl) ?_
          refine lv_bipush (v := (-2)) hx hb dX3_make_78 (by decide) ?_
          refine lv_icmp_eq (tgt := 90) hx hb dX3_make_80 (by decide) (fun c_80 => absurd c_80 (ni_m2 (by omega))) (fun c_80 => ?_)
          refine lv_iload hx hb dX3_make_83 (lv_at hl 0 rfl) ?_
          refine lv_bipush (v := (-2)) hx hb dX3_make_85 (by decide) ?_
          refine lv_icmp_ne (tgt := 91) hx hb dX3_make_87 (by decide) (fun c_87 => ?_) (fun c_87 => absurd c_87 (ni_m2 (by omega)))
          refine lv_aload_n hx hb dX3_make_91 rfl (lv_at hl 3 rfl) ?_
          refine pw_get hx hb hts (fun _ h9 => List.mem_cons_of_mem _ (List.mem_append_right _ h9)) hown hK hP 4 rfl rfl 2 (by decide) hF.2.2.2.2 rfl (hts (.fieldLink RX3 18 "PastDraws$Table" "limit" "[I") (List.mem_of_getElem? (i := 4) rfl)) dX3_make_92 ?_
          refine lv_iload_n hx hb dX3_make_95 rfl (lv_at hl 1 rfl) ?_
          refine lv_aload_n hx hb dX3_make_96 rfl (lv_at hl 3 rfl) ?_
          refine pw_get hx hb hts (fun _ h9 => List.mem_cons_of_mem _ (List.mem_append_right _ h9)) hown hK hP 4 rfl rfl 1 (by decide) hF.2.2.2.2 rfl (hts (.fieldLink RX3 15 "PastDraws$Table" "rest" "[I") (List.mem_of_getElem? (i := 2) rfl)) dX3_make_97 ?_
          refine lv_iload_n hx hb dX3_make_100 rfl (lv_at hl 1 rfl) ?_
          refine pw_iald hx hb hK hP 17 rfl (by first | exact sgn_lt _ _ | omega) (by first | decide | omega) (v := T.1 y_69) (hG _ hy_69).1 dX3_make_101 ?_
          refine pw_iast hx hb hK hP hI hS 18 rfl (by first | exact sgn_lt _ _ | omega) (by first | decide | omega) dX3_make_102 (fun H locs hP hS => ?_)
          obtain ⟨C102, hC102⟩ : ∃ z9, z9 = pw_setI C 18 y_69 (T.1 y_69) := ⟨_, rfl⟩
          rw [← hC102] at hP
          have hB := by have hB9 := hB; exact (show pw_B (fun k => 17 ≤ k ∧ k ≤ 20) C0 C102 by rw [hC102]; exact hB9.setI (by show 17 ≤ 18 ∧ 18 ≤ 20; first | trivial | omega))
          have hF := fX_B hF0 hB
          refine lv_aload_n hx hb dX3_make_103 rfl (lv_at hl 3 rfl) ?_
          refine pw_get hx hb hts (fun _ h9 => List.mem_cons_of_mem _ (List.mem_append_right _ h9)) hown hK hP 4 rfl rfl 3 (by decide) hF.2.2.2.2 rfl (hts (.fieldLink RX3 21 "PastDraws$Table" "other" "[I") (List.mem_of_getElem? (i := 5) rfl)) dX3_make_104 ?_
          refine lv_iload_n hx hb dX3_make_107 rfl (lv_at hl 1 rfl) ?_
          refine lv_iload hx hb dX3_make_108 (lv_at hl 0 rfl) ?_
          refine pw_iast hx hb hK hP hI hS 19 rfl (by first | exact sgn_lt _ _ | omega) (by first | decide | omega) dX3_make_110 (fun H locs hP hS => ?_)
          obtain ⟨C110, hC110⟩ : ∃ z9, z9 = pw_setI C102 19 y_69 (nI y_75) := ⟨_, rfl⟩
          rw [← hC110] at hP
          have hB := by have hB9 := hB; exact (show pw_B (fun k => 17 ≤ k ∧ k ≤ 20) C0 C110 by rw [hC110]; exact hB9.setI (by show 17 ≤ 19 ∧ 19 ≤ 20; first | trivial | omega))
          have hF := fX_B hF0 hB
          refine lv_aload_n hx hb dX3_make_111 rfl (lv_at hl 3 rfl) ?_
          refine pw_get hx hb hts (fun _ h9 => List.mem_cons_of_mem _ (List.mem_append_right _ h9)) hown hK hP 4 rfl rfl 4 (by decide) hF.2.2.2.2 rfl (hts (.fieldLink RX3 24 "PastDraws$Table" "isMade" "[Z") (List.mem_of_getElem? (i := 6) rfl)) dX3_make_112 ?_
          refine lv_iload_n hx hb dX3_make_115 rfl (lv_at hl 1 rfl) ?_
          refine lv_iconst (v := nI 1) hx hb dX3_make_116 (by decide) ?_
          refine pw_topi (y := pb true) rfl ?_
          refine pw_zast hx hb hK hP hI hS 20 rfl (by first | exact sgn_lt _ _ | omega) (by first | decide | omega) (pb_nar _) dX3_make_117 (fun H locs hP hS => ?_)
          obtain ⟨C117, hC117⟩ : ∃ z9, z9 = pw_setI C110 20 y_69 (pb true) := ⟨_, rfl⟩
          rw [← hC117] at hP
          have hB := by have hB9 := hB; exact (show pw_B (fun k => 17 ≤ k ∧ k ≤ 20) C0 C117 by rw [hC117]; exact hB9.setI (by show 17 ≤ 20 ∧ 20 ≤ 20; first | trivial | omega))
          have hF := fX_B hF0 hB
          refine lv_aload_n hx hb dX3_make_118 rfl (lv_at hl 3 rfl) ?_
          refine pw_get hx hb hts (fun _ h9 => List.mem_cons_of_mem _ (List.mem_append_right _ h9)) hown hK hP 4 rfl rfl 1 (by decide) hF.2.2.2.2 rfl (hts (.fieldLink RX3 15 "PastDraws$Table" "rest" "[I") (List.mem_of_getElem? (i := 2) rfl)) dX3_make_119 ?_
          refine lv_iload hx hb dX3_make_122 (lv_at hl 0 rfl) ?_
          refine lv_dup2_11 hx hb dX3_make_124 rfl rfl ?_
          refine pw_iald hx hb hK hP 17 rfl (by first | exact sgn_lt _ _ | omega) (by first | decide | omega) (v := T.1 y_75) (by rw [hC117, si_ne (by decide), hC110, si_ne (by decide), hC102, si_ne (by decide)]; exact (hG _ hy_75).1) dX3_make_125 ?_
          refine lv_iload_n hx hb dX3_make_126 rfl (lv_at hl 4 rfl) ?_
          refine lv_aload_n hx hb dX3_make_127 rfl (lv_at hl 3 rfl) ?_
          refine pw_get hx hb hts (fun _ h9 => List.mem_cons_of_mem _ (List.mem_append_right _ h9)) hown hK hP 4 rfl rfl 2 (by decide) hF.2.2.2.2 rfl (hts (.fieldLink RX3 18 "PastDraws$Table" "limit" "[I") (List.mem_of_getElem? (i := 4) rfl)) dX3_make_128 ?_
          refine lv_iload_n hx hb dX3_make_131 rfl (lv_at hl 1 rfl) ?_
          refine pw_iald hx hb hK hP 18 rfl (by first | exact sgn_lt _ _ | omega) (by first | decide | omega) (v := T.1 y_69) (by rw [hC117, si_ne (by decide), hC110, si_ne (by decide), hC102, si_at, if_pos rfl]) dX3_make_132 ?_
          refine lv_isub hx hb dX3_make_133 ?_
          refine lv_isub hx hb dX3_make_134 ?_
          refine pw_iast hx hb hK hP hI hS 17 rfl (by first | exact sgn_lt _ _ | omega) (by first | decide | omega) dX3_make_135 (fun H locs hP hS => ?_)
          obtain ⟨C135, hC135⟩ : ∃ z9, z9 = pw_setI C117 17 y_75 ((T.1 y_75) - ((nI Z) - (T.1 y_69))) := ⟨_, rfl⟩
          rw [← hC135] at hP
          have hB := by have hB9 := hB; exact (show pw_B (fun k => 17 ≤ k ∧ k ≤ 20) C0 C135 by rw [hC135]; exact hB9.setI (by show 17 ≤ 17 ∧ 17 ≤ 20; first | trivial | omega))
          have hF := fX_B hF0 hB
          refine lv_iinc (v := nI (k + 1)) (lv' := [(2, .int (nI (k + 1))), (4, .int (nI y_75)), (3, .int (nI y_69)), (0, .ref (Ad 4)), (1, .int (nI Z))]) hx hb dX3_make_136 hl (k := 2) rfl (nI_add _ 1) (by decide) rfl (fun ls hl => ?_)
          refine lv_goto (tgt := 56) hx hb dX3_make_139 (by decide) ?_
          rw [ho_69, ho_75] at hr0
          exact ih C135 H locs (k + 1) (tm1 Z T y_69 y_75) ls (by omega) hP hS hB (by omega) (fun j hj => by
            rw [hC135, hC117, hC110, hC102]
            refine ⟨?_, ?_, ?_, ?_⟩
            · rw [si_at]
              show _ = if j = y_75 then _ else _
              by_cases q : j = y_75
              · rw [if_pos q, if_pos q]
              · rw [if_neg q, if_neg q, si_ne (by decide), si_ne (by decide), si_ne (by decide)]; exact (hG j hj).1
            · rw [si_ne (by decide), si_ne (by decide), si_ne (by decide), si_at]
              show _ = if j = y_69 then _ else _
              by_cases q : j = y_69
              · rw [if_pos q, if_pos q]
              · rw [if_neg q, if_neg q]; exact (hG j hj).2.1
            · rw [si_ne (by decide), si_ne (by decide), si_at]
              show _ = if j = y_69 then _ else _
              by_cases q : j = y_69
              · rw [if_pos q, if_pos q]
              · rw [if_neg q, if_neg q, si_ne (by decide)]; exact (hG j hj).2.2.1
            · rw [si_ne (by decide), si_at]
              show _ = pb (if j = y_69 then _ else _)
              by_cases q : j = y_69
              · rw [if_pos q, if_pos q]
              · rw [if_neg q, if_neg q, si_ne (by decide), si_ne (by decide)]; exact (hG j hj).2.2.2) (by rw [← hz2]; exact hr0) (lv_sub hl [0, 3, 4] rfl)

set_option maxHeartbeats 4000000 in
set_option maxRecDepth 100000 in
theorem c_X3_make (l : Launch) (D : va_G) (cy : Nat → ClassId) (Ad : Nat → Nat) (n mm : Nat) (C : pw_C) (hI : pw_I Ad (shX n)) (hn : 1 ≤ n ∧ n ≤ 12) (hF : fX n mm Ad C) (wt : Nat → Nat) (hT : gT wt C) (hmm : 1 ≤ mm ∧ mm ≤ 16) (Z : Nat) : Met l yX3_make wsX3_make (k2_rm 1 22) (pw_Pre ([.ref (Ad 4), .int (nI Z)]) D cy Ad (shX n) C) (pw_Post (fun r9 C' => r9 = none ∧ (pw_B (fun k => 17 ≤ k ∧ k ≤ 20) C C' ∧ gTb mm (tmK wt mm Z) C')) D cy Ad (shX n)) 0 0 (pw_fr Ad (shX n)) := by
  refine Met.ofW (cc := cX3_make) (maxL := 5) (ret := none) (by decide) rfl ?_
  intro p e s m args below meth c s₁ B hml hv
  obtain ⟨rfl, hP, hK⟩ := hv
  have hx := B.exec
  have hb := B.bytes
  have hr := B.returns
  have hts := atoms_spec (ws := wsX3_make) B.pre
  have hown : s.vm.findClass RX3 = some m.cls := findClass_of_methodNamed B.named
  have hlocks := B.notSynchronized
  have S : CallFix p m c cX3_make 5 s ([.ref (Ad 4), .int (nI Z)]).toArray wsX3_make RX3 := ⟨hx, hb, hml, hown, hts⟩
  change W p l e (k2_rm 1 22) s m _ below meth c s.heap [] 0 0 _ _
  have hl := lv_entry ([.ref (Ad 4), .int (nI Z)]) (n := 5) (Nat.le_of_ble_eq_true rfl)
  rw [lg_entry_eq]
  generalize (lg_sl ([.ref (Ad 4), .int (nI Z)]) ++ List.replicate (5 - (lg_sl ([.ref (Ad 4), .int (nI Z)])).length) Slot.unset).toArray = ls at hl ⊢
  have hl : lv_has ls 5 [(0, .ref (Ad 4)), (1, .int (nI Z))] := hl
  have hS : va_S (pw_fr Ad (shX n)) s.heap s.heap [] := va_S.rf
  refine lv_iconst (v := nI 0) hx hb dX3_make_0 (by decide) ?_
  refine lv_istore_n (lv' := [(2, .int (nI 0)), (0, .ref (Ad 4)), (1, .int (nI Z))]) hx hb dX3_make_1 rfl hl (by decide) rfl (fun ls hl => ?_)
  refine L_make_a S hK hI hF hn hT hmm Z (fun C1 H locs ls hP hS hR hl => ?_) (mm + 1) C s.heap [] 0 ls (by omega) hP hS pw_B.rf (by omega) (fun j hj => by omega) (lv_sub hl [0, 1, 2] rfl)
  refine lv_iconst (v := nI 0) hx hb dX3_make_54 (by decide) ?_
  refine lv_istore_n (lv' := [(2, .int (nI 0)), (0, .ref (Ad 4)), (1, .int (nI Z))]) hx hb dX3_make_55 rfl hl (by decide) rfl (fun ls hl => ?_)
  exact L_make S hK hI hF hn hmm Z _ (fun pc9 C9 H9 locs9 ls9 hd9 hP9 hS9 hR9 => W.vret hx hb hr (fun t ht _ => ⟨⟨none, C9, rfl, ⟨rfl, hR9⟩, by rw [ht]; exact hP9⟩, hS9.F ht⟩) hS9.2.2 hd9) (mm + 1) C1 H locs 0 (tm0 wt mm Z) ls (by omega) hP hS hR.1 (by omega) hR.2 rfl (lv_sub hl [0, 1, 2] rfl)

set_option maxHeartbeats 4000000 in
set_option maxRecDepth 100000 in
theorem c_X3_limitOf (l : Launch) (D : va_G) (cy : Nat → ClassId) (Ad : Nat → Nat) (n mm : Nat) (C : pw_C) (hn : 1 ≤ n ∧ n ≤ 12) (hF : fX n mm Ad C) (T : tbT) (hG : gTb mm T C) (hmm : 1 ≤ mm ∧ mm ≤ 16) (i : Nat) (hi0 : i < mm) : Met l yX3_limitOf wsX3_limitOf (k2_rm 0 0) (pw_Pre ([.ref (Ad 4), .int (nI i)]) D cy Ad (shX n) C) (k2_QcV (.int (T.2.1 i))) 0 0 (fun _ => False) := by
  refine Met.ofW (cc := cX3_limitOf) (maxL := 2) (ret := (some .int)) (by decide) rfl ?_
  intro p e s m args below meth c s₁ B hml hv
  obtain ⟨rfl, hP, hK⟩ := hv
  have hx := B.exec
  have hb := B.bytes
  have hr := B.returns
  have hts := atoms_spec (ws := wsX3_limitOf) B.pre
  have hown : s.vm.findClass RX3 = some m.cls := findClass_of_methodNamed B.named
  have hlocks := B.notSynchronized
  have S : CallFix p m c cX3_limitOf 2 s ([.ref (Ad 4), .int (nI i)]).toArray wsX3_limitOf RX3 := ⟨hx, hb, hml, hown, hts⟩
  change W p l e (k2_rm 0 0) s m _ below meth c s.heap [] 0 0 _ _
  have hl := lv_entry ([.ref (Ad 4), .int (nI i)]) (n := 2) (Nat.le_of_ble_eq_true rfl)
  rw [lg_entry_eq]
  generalize (lg_sl ([.ref (Ad 4), .int (nI i)]) ++ List.replicate (2 - (lg_sl ([.ref (Ad 4), .int (nI i)])).length) Slot.unset).toArray = ls at hl ⊢
  have hl : lv_has ls 2 [(0, .ref (Ad 4)), (1, .int (nI i))] := hl
  refine lv_aload_n hx hb dX3_limitOf_0 rfl (lv_at hl 0 rfl) ?_
  refine pw_get hx hb hts (fun _ h9 => List.mem_cons_of_mem _ (List.mem_append_right _ h9)) hown hK hP 4 rfl rfl 2 (by decide) hF.2.2.2.2 rfl (hts (.fieldLink RX3 18 "PastDraws$Table" "limit" "[I") (List.mem_of_getElem? (i := 1) rfl)) dX3_limitOf_1 ?_
  refine lv_iload_n hx hb dX3_limitOf_4 rfl (lv_at hl 1 rfl) ?_
  refine pw_iald hx hb hK hP 18 rfl (by first | exact sgn_lt _ _ | omega) (by first | decide | omega) (v := T.2.1 i) (hG i hi0).2.1 dX3_limitOf_5 ?_
  exact W.iret hx hb hr (fun t ht _ => ⟨rfl, ht⟩) (fun q h => by cases h) dX3_limitOf_6

set_option maxHeartbeats 4000000 in
set_option maxRecDepth 100000 in
theorem c_X3_otherOf (l : Launch) (D : va_G) (cy : Nat → ClassId) (Ad : Nat → Nat) (n mm : Nat) (C : pw_C) (hn : 1 ≤ n ∧ n ≤ 12) (hF : fX n mm Ad C) (T : tbT) (hG : gTb mm T C) (hmm : 1 ≤ mm ∧ mm ≤ 16) (i : Nat) (hi0 : i < mm) : Met l yX3_otherOf wsX3_otherOf (k2_rm 0 0) (pw_Pre ([.ref (Ad 4), .int (nI i)]) D cy Ad (shX n) C) (k2_QcV (.int (T.2.2.1 i))) 0 0 (fun _ => False) := by
  refine Met.ofW (cc := cX3_otherOf) (maxL := 2) (ret := (some .int)) (by decide) rfl ?_
  intro p e s m args below meth c s₁ B hml hv
  obtain ⟨rfl, hP, hK⟩ := hv
  have hx := B.exec
  have hb := B.bytes
  have hr := B.returns
  have hts := atoms_spec (ws := wsX3_otherOf) B.pre
  have hown : s.vm.findClass RX3 = some m.cls := findClass_of_methodNamed B.named
  have hlocks := B.notSynchronized
  have S : CallFix p m c cX3_otherOf 2 s ([.ref (Ad 4), .int (nI i)]).toArray wsX3_otherOf RX3 := ⟨hx, hb, hml, hown, hts⟩
  change W p l e (k2_rm 0 0) s m _ below meth c s.heap [] 0 0 _ _
  have hl := lv_entry ([.ref (Ad 4), .int (nI i)]) (n := 2) (Nat.le_of_ble_eq_true rfl)
  rw [lg_entry_eq]
  generalize (lg_sl ([.ref (Ad 4), .int (nI i)]) ++ List.replicate (2 - (lg_sl ([.ref (Ad 4), .int (nI i)])).length) Slot.unset).toArray = ls at hl ⊢
  have hl : lv_has ls 2 [(0, .ref (Ad 4)), (1, .int (nI i))] := hl
  refine lv_aload_n hx hb dX3_otherOf_0 rfl (lv_at hl 0 rfl) ?_
  refine pw_get hx hb hts (fun _ h9 => List.mem_cons_of_mem _ (List.mem_append_right _ h9)) hown hK hP 4 rfl rfl 3 (by decide) hF.2.2.2.2 rfl (hts (.fieldLink RX3 21 "PastDraws$Table" "other" "[I") (List.mem_of_getElem? (i := 1) rfl)) dX3_otherOf_1 ?_
  refine lv_iload_n hx hb dX3_otherOf_4 rfl (lv_at hl 1 rfl) ?_
  refine pw_iald hx hb hK hP 19 rfl (by first | exact sgn_lt _ _ | omega) (by first | decide | omega) (v := T.2.2.1 i) (hG i hi0).2.2.1 dX3_otherOf_5 ?_
  exact W.iret hx hb hr (fun t ht _ => ⟨rfl, ht⟩) (fun q h => by cases h) dX3_otherOf_6

set_option maxHeartbeats 4000000 in
set_option maxRecDepth 100000 in
theorem c_X3_thingAt (l : Launch) (D : va_G) (cy : Nat → ClassId) (Ad : Nat → Nat) (n mm : Nat) (C : pw_C) (hn : 1 ≤ n ∧ n ≤ 12) (hF : fX n mm Ad C) (T : tbT) (hG : gTb mm T C) (hmm : 1 ≤ mm ∧ mm ≤ 16) (i : Nat) (hi0 : i < mm) (pt : Int32) : Met l yX3_thingAt wsX3_thingAt (k2_rm 0 0) (pw_Pre ([.ref (Ad 4), .int (nI i), .int pt]) D cy Ad (shX n) C) (k2_QcV (.int (if pt < T.2.1 i then nI i else T.2.2.1 i))) 0 0 (fun _ => False) := by
  refine Met.ofW (cc := cX3_thingAt) (maxL := 3) (ret := (some .int)) (by decide) rfl ?_
  intro p e s m args below meth c s₁ B hml hv
  obtain ⟨rfl, hP, hK⟩ := hv
  have hx := B.exec
  have hb := B.bytes
  have hr := B.returns
  have hts := atoms_spec (ws := wsX3_thingAt) B.pre
  have hown : s.vm.findClass RX3 = some m.cls := findClass_of_methodNamed B.named
  have hlocks := B.notSynchronized
  have S : CallFix p m c cX3_thingAt 3 s ([.ref (Ad 4), .int (nI i), .int pt]).toArray wsX3_thingAt RX3 := ⟨hx, hb, hml, hown, hts⟩
  change W p l e (k2_rm 0 0) s m _ below meth c s.heap [] 0 0 _ _
  have hl := lv_entry ([.ref (Ad 4), .int (nI i), .int pt]) (n := 3) (Nat.le_of_ble_eq_true rfl)
  rw [lg_entry_eq]
  generalize (lg_sl ([.ref (Ad 4), .int (nI i), .int pt]) ++ List.replicate (3 - (lg_sl ([.ref (Ad 4), .int (nI i), .int pt])).length) Slot.unset).toArray = ls at hl ⊢
  have hl : lv_has ls 3 [(0, .ref (Ad 4)), (1, .int (nI i)), (2, .int pt)] := hl
  refine lv_iload_n hx hb dX3_thingAt_0 rfl (lv_at hl 2 rfl) ?_
  refine lv_aload_n hx hb dX3_thingAt_1 rfl (lv_at hl 0 rfl) ?_
  refine pw_get hx hb hts (fun _ h9 => List.mem_cons_of_mem _ (List.mem_append_right _ h9)) hown hK hP 4 rfl rfl 2 (by decide) hF.2.2.2.2 rfl (hts (.fieldLink RX3 18 "PastDraws$Table" "limit" "[I") (List.mem_of_getElem? (i := 1) rfl)) dX3_thingAt_2 ?_
  refine lv_iload_n hx hb dX3_thingAt_5 rfl (lv_at hl 1 rfl) ?_
  refine pw_iald hx hb hK hP 18 rfl (by first | exact sgn_lt _ _ | omega) (by first | decide | omega) (v := T.2.1 i) (hG i hi0).2.1 dX3_thingAt_6 ?_
  refine lv_icmp_ge (tgt := 14) hx hb dX3_thingAt_7 (by decide) (fun c_7 => ?_) (fun c_7 => ?_)
  · refine lv_aload_n hx hb dX3_thingAt_14 rfl (lv_at hl 0 rfl) ?_
    refine pw_get hx hb hts (fun _ h9 => List.mem_cons_of_mem _ (List.mem_append_right _ h9)) hown hK hP 4 rfl rfl 3 (by decide) hF.2.2.2.2 rfl (hts (.fieldLink RX3 21 "PastDraws$Table" "other" "[I") (List.mem_of_getElem? (i := 2) rfl)) dX3_thingAt_15 ?_
    refine lv_iload_n hx hb dX3_thingAt_18 rfl (lv_at hl 1 rfl) ?_
    refine pw_iald hx hb hK hP 19 rfl (by first | exact sgn_lt _ _ | omega) (by first | decide | omega) (v := T.2.2.1 i) (hG i hi0).2.2.1 dX3_thingAt_19 ?_
    refine pw_topi (y := if pt < T.2.1 i then nI i else T.2.2.1 i) (by first | rw [if_neg (Int32.not_lt.mpr c_7)] | rw [if_pos (Int32.not_le.mp c_7)]) ?_
    exact W.iret hx hb hr (fun t ht _ => ⟨rfl, ht⟩) (fun q h => by cases h) dX3_thingAt_20
  · refine lv_iload_n hx hb dX3_thingAt_10 rfl (lv_at hl 1 rfl) ?_
    refine lv_goto (tgt := 20) hx hb dX3_thingAt_11 (by decide) ?_
    refine pw_topi (y := if pt < T.2.1 i then nI i else T.2.2.1 i) (by first | rw [if_neg (Int32.not_lt.mpr c_7)] | rw [if_pos (Int32.not_le.mp c_7)]) ?_
    exact W.iret hx hb hr (fun t ht _ => ⟨rfl, ht⟩) (fun q h => by cases h) dX3_thingAt_20

set_option maxHeartbeats 4000000 in
set_option maxRecDepth 100000 in
theorem c_J9_floorDiv_7cf53 (l : Launch) (x y : Int32) (hy : ¬ y = 0) : Met l yJ9_floorDiv_7cf53 wsJ9_floorDiv_7cf53 (k2_rm 0 0) (fun v _ => v = ([.int x, .int y]).toArray) (k2_QcV (.int (if 0 ≤ x ^^^ y then x / y else if x / y * y = x then x / y else x / y - 1))) 0 0 (fun _ => False) := by
  refine va_MetF (cc := cJ9_floorDiv_7cf53) (maxL := 3) (ret := (some .int)) (by decide +kernel) rfl ?_
  intro p e s m args below meth c s₁ B hml hv
  obtain rfl := hv
  have hx := B.exec
  have hb := B.bytes
  have hr := B.returns
  have hts := atoms_spec (ws := wsJ9_floorDiv_7cf53) B.pre
  have hown : s.vm.findClass RJ9 = some m.cls := findClass_of_methodNamed B.named
  have hlocks := B.notSynchronized
  have S : CallFix p m c cJ9_floorDiv_7cf53 3 s ([.int x, .int y]).toArray wsJ9_floorDiv_7cf53 RJ9 := ⟨hx, hb, hml, hown, hts⟩
  change W p l e (k2_rm 0 0) s m _ below meth c s.heap [] 0 0 _ _
  have hl := lv_entry ([.int x, .int y]) (n := 3) (Nat.le_of_ble_eq_true rfl)
  rw [lg_entry_eq]
  generalize (lg_sl ([.int x, .int y]) ++ List.replicate (3 - (lg_sl ([.int x, .int y])).length) Slot.unset).toArray = ls at hl ⊢
  have hl : lv_has ls 3 [(0, .int x), (1, .int y)] := hl
  refine lv_iload_n hx hb dJ9_floorDiv_7cf53_0 rfl (lv_at hl 0 rfl) ?_
  refine lv_iload_n hx hb dJ9_floorDiv_7cf53_1 rfl (lv_at hl 1 rfl) ?_
  refine lv_idiv hx hb dJ9_floorDiv_7cf53_2 hy ?_
  refine lv_topi (fun x2_3 ex2_3 => ?_)
  refine lv_istore_n (lv' := [(2, .int x2_3), (0, .int x), (1, .int y)]) hx hb dJ9_floorDiv_7cf53_3 rfl hl (by decide) rfl (fun ls hl => ?_)
  refine lv_iload_n hx hb dJ9_floorDiv_7cf53_4 rfl (lv_at hl 1 rfl) ?_
  refine lv_iload_n hx hb dJ9_floorDiv_7cf53_5 rfl (lv_at hl 2 rfl) ?_
  refine lv_ixor hx hb dJ9_floorDiv_7cf53_6 ?_
  refine lv_if_ge (tgt := 21) hx hb dJ9_floorDiv_7cf53_7 (by decide) (fun c_7 => ?_) (fun c_7 => ?_)
  · refine lv_iload_n hx hb dJ9_floorDiv_7cf53_21 rfl (lv_at hl 0 rfl) ?_
    refine pw_topi (y := (if 0 ≤ x ^^^ y then x / y else if x / y * y = x then x / y else x / y - 1)) (by first | (rw [if_pos c_7, ← ex2_3]; done) | (rw [if_neg c_7, if_pos (by rw [← ex2_3]; exact c_14), ← ex2_3]; done) | (rw [if_neg c_7, if_neg (by rw [← ex2_3]; exact c_14), ← ex2_3]; first | done | rfl)) ?_
    exact W.iret hx hb hr (fun t ht _ => ⟨rfl, ht⟩) (fun q h => by cases h) dJ9_floorDiv_7cf53_22
  · refine lv_iload_n hx hb dJ9_floorDiv_7cf53_10 rfl (lv_at hl 0 rfl) ?_
    refine lv_iload_n hx hb dJ9_floorDiv_7cf53_11 rfl (lv_at hl 2 rfl) ?_
    refine lv_imul hx hb dJ9_floorDiv_7cf53_12 ?_
    refine lv_iload_n hx hb dJ9_floorDiv_7cf53_13 rfl (lv_at hl 1 rfl) ?_
    refine lv_icmp_eq (tgt := 21) hx hb dJ9_floorDiv_7cf53_14 (by decide) (fun c_14 => ?_) (fun c_14 => ?_)
    · refine lv_iload_n hx hb dJ9_floorDiv_7cf53_21 rfl (lv_at hl 0 rfl) ?_
      refine pw_topi (y := (if 0 ≤ x ^^^ y then x / y else if x / y * y = x then x / y else x / y - 1)) (by first | (rw [if_pos c_7, ← ex2_3]; done) | (rw [if_neg c_7, if_pos (by rw [← ex2_3]; exact c_14), ← ex2_3]; done) | (rw [if_neg c_7, if_neg (by rw [← ex2_3]; exact c_14), ← ex2_3]; first | done | rfl)) ?_
      exact W.iret hx hb hr (fun t ht _ => ⟨rfl, ht⟩) (fun q h => by cases h) dJ9_floorDiv_7cf53_22
    · refine lv_iload_n hx hb dJ9_floorDiv_7cf53_17 rfl (lv_at hl 0 rfl) ?_
      refine lv_iconst (v := nI 1) hx hb dJ9_floorDiv_7cf53_18 (by decide) ?_
      refine lv_isub hx hb dJ9_floorDiv_7cf53_19 ?_
      refine pw_topi (y := (if 0 ≤ x ^^^ y then x / y else if x / y * y = x then x / y else x / y - 1)) (by first | (rw [if_pos c_7, ← ex2_3]; done) | (rw [if_neg c_7, if_pos (by rw [← ex2_3]; exact c_14), ← ex2_3]; done) | (rw [if_neg c_7, if_neg (by rw [← ex2_3]; exact c_14), ← ex2_3]; first | done | rfl)) ?_
      exact W.iret hx hb hr (fun t ht _ => ⟨rfl, ht⟩) (fun q h => by cases h) dJ9_floorDiv_7cf53_20
