def pw_B (ks : Nat → Prop) (C C' : pw_C) : Prop := (∀ k, ¬ ks k → C'.1 k = C.1 k ∧ C'.2.1 k = C.2.1 k) ∧ C'.2.2 = C.2.2
section PB1
variable {ks : Nat → Prop} {C0 C C' : pw_C}
theorem pw_B.rf : pw_B ks C C := ⟨fun _ _ => ⟨rfl, rfl⟩, rfl⟩
theorem pw_B.tr (h : pw_B ks C0 C) (h2 : pw_B ks C C') : pw_B ks C0 C' := ⟨fun k hk => ⟨(h2.1 k hk).1.trans (h.1 k hk).1, (h2.1 k hk).2.trans (h.1 k hk).2⟩, h2.2.trans h.2⟩
theorem pw_B.mono {ks2 : Nat → Prop} (h : pw_B ks C C') (hm : ∀ k, ks k → ks2 k) : pw_B ks2 C C' := ⟨fun k hk => h.1 k (fun q => hk (hm k q)), h.2⟩
theorem pw_B.setI (h : pw_B ks C0 C) {k i : Nat} {x : Int32} (hk : ks k) : pw_B ks C0 (pw_setI C k i x) := ⟨fun j hj => by
  have hne : j ≠ k := fun q => hj (by rw [q]; exact hk)
  refine ⟨?_, (h.1 j hj).2⟩
  show (if j = k then _ else C.1 j) = _
  rw [if_neg hne]; exact (h.1 j hj).1, h.2⟩
theorem pw_B.setL (h : pw_B ks C0 C) {k i : Nat} {x : Int64} (hk : ks k) : pw_B ks C0 (pw_setL C k i x) := ⟨fun j hj => by
  have hne : j ≠ k := fun q => hj (by rw [q]; exact hk)
  refine ⟨(h.1 j hj).1, ?_⟩
  show (if j = k then _ else C.2.1 j) = _
  rw [if_neg hne]; exact (h.1 j hj).2, h.2⟩
theorem pw_B.setR (h : pw_B ks C0 C) {k : Nat} {f : Nat → Int32} (hk : ks k) : pw_B ks C0 (pw_setR C k f) := ⟨fun j hj => by
  have hne : j ≠ k := fun q => hj (by rw [q]; exact hk)
  refine ⟨?_, (h.1 j hj).2⟩
  show (if j = k then _ else C.1 j) = _
  rw [if_neg hne]; exact (h.1 j hj).1, h.2⟩
theorem fX_B {n mm : Nat} {Ad : Nat → Nat} (h : fX n mm Ad C) (hB : pw_B ks C C') : fX n mm Ad C' := by
  unfold fX at h ⊢
  rw [hB.2]; exact h
theorem gN_B {n : Nat} {nx : Nat → Nat → Nat} (h : gN n nx C) (hB : pw_B ks C C') (hk : ∀ u, u < 8 → ¬ ks (21 + u)) : gN n nx C' := fun u hu x hx => by
  rw [(hB.1 _ (hk u hu)).1]; exact h u hu x hx
theorem si_at {k i j : Nat} {x : Int32} : (pw_setI C k i x).1 k j = if j = i then x else C.1 k j := by
  show (if k = k then upd (C.1 k) i x else C.1 k) j = _
  rw [if_pos rfl]; rfl
theorem sl_at {k i j : Nat} {x : Int64} : (pw_setL C k i x).2.1 k j = if j = i then x else C.2.1 k j := by
  show (if k = k then vp_updL (C.2.1 k) i x else C.2.1 k) j = _
  rw [if_pos rfl]; rfl
theorem si_ne {k k2 i : Nat} {x : Int32} (h : k2 ≠ k) : (pw_setI C k i x).1 k2 = C.1 k2 := if_neg h
theorem sl_ne {k k2 i : Nat} {x : Int64} (h : k2 ≠ k) : (pw_setL C k i x).2.1 k2 = C.2.1 k2 := if_neg h
theorem sr_at {k : Nat} {f : Nat → Int32} : (pw_setR C k f).1 k = f := if_pos rfl
theorem sr_ne {k k2 : Nat} {f : Nat → Int32} (h : k2 ≠ k) : (pw_setR C k f).1 k2 = C.1 k2 := if_neg h
end PB1

set_option maxHeartbeats 4000000 in
set_option maxRecDepth 100000 in
theorem L_J7_fill_53178 {p : Program} {l : Launch} {e : Env} {s : State} {m : MethodId} {args : Array Value} {below : List Frame} {meth : Method} {c : Code} {Q : State → Prop} (S : CallFix p m c cJ7_fill_53178 4 s args wsJ7_fill_53178 RJ7) {D : va_G} {cy : Nat → ClassId} {Ad : Nat → Nat} {sh : Nat → Nat × Nat × Nat} {C0 : pw_C} (hK : pw_K D cy s) (hI : pw_I Ad sh) (k len b : Nat) (hs : sh k = (1, len, b)) (hlen : len < 2 ^ 31) (v : Int32) (hq : ∀ (pc9 : Nat) (C : pw_C) (H : Heap) (locs : List Loc) (ls : Array Slot), decode cJ7_fill_53178 pc9 = .ok (.return_, 1) → pw_P D cy Ad sh C H → va_S (pw_fr Ad sh) s.heap H locs → (pw_B (fun k9 => k9 = k) C0 C ∧ ∀ j, j < len → C.1 k j = v) → W p l e (k2_rm 0 0) s m args below meth c H locs 0 0 Q (F0 m pc9 ls [])) : ∀ (f : Nat) (C : pw_C) (H : Heap) (locs : List Loc) (i : Nat) (ls : Array Slot), len - i < f → (pw_P D cy Ad sh C H) → (va_S (pw_fr Ad sh) s.heap H locs) → (pw_B (fun k9 => k9 = k) C0 C) → (i ≤ len) → (∀ j, j < i → C.1 k j = v) → lv_has ls 4 [(2, .int (nI i)), (3, .int (nI len)), (0, .ref (Ad k)), (1, .int v)] → W p l e (k2_rm 0 0) s m args below meth c H locs 0 0 Q (F0 m 5 ls []) := by
  have hx := S.1
  have hb := S.2.1
  have hml := S.2.2.1
  have hown := S.2.2.2.1
  have hts := S.2.2.2.2
  intro f
  induction f with
  | zero => intro C H locs i ls hf; exact absurd hf (Nat.not_lt_zero _)
  | succ f ih =>
    intro C H locs i ls hf hP hS hB hi hv hl
    refine lv_iload_n hx hb dJ7_fill_53178_5 rfl (lv_at hl 0 rfl) ?_
    refine lv_iload_n hx hb dJ7_fill_53178_6 rfl (lv_at hl 1 rfl) ?_
    refine pn_icmp_ge (tgt := 20) hx hb (by omega) (by omega) dJ7_fill_53178_7 (by decide) (fun c_7 => ?_) (fun c_7 => ?_)
    · exact hq _ C H locs ls dJ7_fill_53178_20 hP hS ⟨hB, fun j hj => hv j (by omega)⟩
    · refine lv_aload_n hx hb dJ7_fill_53178_10 rfl (lv_at hl 2 rfl) ?_
      refine lv_iload_n hx hb dJ7_fill_53178_11 rfl (lv_at hl 0 rfl) ?_
      refine lv_iload_n hx hb dJ7_fill_53178_12 rfl (lv_at hl 3 rfl) ?_
      refine pw_iast hx hb hK hP hI hS k hs (by omega) hlen dJ7_fill_53178_13 (fun H locs hP hS => ?_)
      have hB := hB.setI (i := i) (x := v) (show k = k from rfl)
      refine lv_iinc (v := nI (i + 1)) (lv' := [(2, .int (nI (i + 1))), (3, .int (nI len)), (0, .ref (Ad k)), (1, .int v)]) hx hb dJ7_fill_53178_14 hl (k := 0) rfl (nI_add _ 1) (by decide) rfl (fun ls hl => ?_)
      refine lv_goto (tgt := 5) hx hb dJ7_fill_53178_17 (by decide) ?_
      exact ih _ H locs (i + 1) ls (by omega) hP hS hB (by omega) (fun j hj => by
        rw [si_at]
        by_cases q : j = i
        · rw [if_pos q]
        · rw [if_neg q]; exact hv j (by omega)) (lv_sub hl [0, 1, 2, 3] rfl)

set_option maxHeartbeats 4000000 in
set_option maxRecDepth 100000 in
theorem c_J7_fill_53178 (l : Launch) (D : va_G) (cy : Nat → ClassId) (Ad : Nat → Nat) (sh : Nat → Nat × Nat × Nat) (C : pw_C) (hI : pw_I Ad sh) (k len b : Nat) (hs : sh k = (1, len, b)) (hlen : len < 2 ^ 31) (v : Int32) : Met l yJ7_fill_53178 wsJ7_fill_53178 (k2_rm 0 0) (pw_Pre ([.ref (Ad k), .int v]) D cy Ad sh C) (pw_Post (fun r9 C' => r9 = none ∧ (pw_B (fun k9 => k9 = k) C C' ∧ ∀ j, j < len → C'.1 k j = v)) D cy Ad sh) 0 0 (pw_fr Ad sh) := by
  refine Met.ofW (cc := cJ7_fill_53178) (maxL := 4) (ret := none) (by decide) rfl ?_
  intro p e s m args below meth c s₁ B hml hv
  obtain ⟨rfl, hP, hK⟩ := hv
  have hx := B.exec
  have hb := B.bytes
  have hr := B.returns
  have hts := atoms_spec (ws := wsJ7_fill_53178) B.pre
  have hown : s.vm.findClass RJ7 = some m.cls := findClass_of_methodNamed B.named
  have hlocks := B.notSynchronized
  have S : CallFix p m c cJ7_fill_53178 4 s ([.ref (Ad k), .int v]).toArray wsJ7_fill_53178 RJ7 := ⟨hx, hb, hml, hown, hts⟩
  change W p l e (k2_rm 0 0) s m _ below meth c s.heap [] 0 0 _ _
  have hl := lv_entry ([.ref (Ad k), .int v]) (n := 4) (Nat.le_of_ble_eq_true rfl)
  rw [lg_entry_eq]
  generalize (lg_sl ([.ref (Ad k), .int v]) ++ List.replicate (4 - (lg_sl ([.ref (Ad k), .int v])).length) Slot.unset).toArray = ls at hl ⊢
  have hl : lv_has ls 4 [(0, .ref (Ad k)), (1, .int v)] := hl
  have hS : va_S (pw_fr Ad sh) s.heap s.heap [] := va_S.rf
  refine lv_iconst (v := nI 0) hx hb dJ7_fill_53178_0 (by decide) ?_
  refine lv_istore_n (lv' := [(2, .int (nI 0)), (0, .ref (Ad k)), (1, .int v)]) hx hb dJ7_fill_53178_1 rfl hl (by decide) rfl (fun ls hl => ?_)
  refine lv_aload_n hx hb dJ7_fill_53178_2 rfl (lv_at hl 1 rfl) ?_
  refine pw_alen1 hx hb hK hP k hs dJ7_fill_53178_3 ?_
  refine lv_istore_n (lv' := [(3, .int (nI len)), (2, .int (nI 0)), (0, .ref (Ad k)), (1, .int v)]) hx hb dJ7_fill_53178_4 rfl hl (by decide) rfl (fun ls hl => ?_)
  exact L_J7_fill_53178 S hK hI k len b hs hlen v (fun pc9 C9 H9 locs9 ls9 hd9 hP9 hS9 hR9 => W.vret hx hb hr (fun t ht _ => ⟨⟨none, C9, rfl, ⟨rfl, hR9⟩, by rw [ht]; exact hP9⟩, hS9.F ht⟩) hS9.2.2 hd9) (len + 1) C s.heap [] 0 ls (by omega) hP hS pw_B.rf (by omega) (fun j hj => by omega) (lv_sub hl [1, 0, 2, 3] rfl)

set_option maxHeartbeats 4000000 in
set_option maxRecDepth 100000 in
theorem L_J7_fill_d0a16 {p : Program} {l : Launch} {e : Env} {s : State} {m : MethodId} {args : Array Value} {below : List Frame} {meth : Method} {c : Code} {Q : State → Prop} (S : CallFix p m c cJ7_fill_d0a16 5 s args wsJ7_fill_d0a16 RJ7) {D : va_G} {cy : Nat → ClassId} {Ad : Nat → Nat} {sh : Nat → Nat × Nat × Nat} {C0 : pw_C} (hK : pw_K D cy s) (hI : pw_I Ad sh) (k len b : Nat) (hs : sh k = (2, len, b)) (hlen : len < 2 ^ 31) (v : Int64) (hq : ∀ (pc9 : Nat) (C : pw_C) (H : Heap) (locs : List Loc) (ls : Array Slot), decode cJ7_fill_d0a16 pc9 = .ok (.return_, 1) → pw_P D cy Ad sh C H → va_S (pw_fr Ad sh) s.heap H locs → (pw_B (fun k9 => k9 = k) C0 C ∧ ∀ j, j < len → C.2.1 k j = v) → W p l e (k2_rm 0 0) s m args below meth c H locs 0 0 Q (F0 m pc9 ls [])) : ∀ (f : Nat) (C : pw_C) (H : Heap) (locs : List Loc) (i : Nat) (ls : Array Slot), len - i < f → (pw_P D cy Ad sh C H) → (va_S (pw_fr Ad sh) s.heap H locs) → (pw_B (fun k9 => k9 = k) C0 C) → (i ≤ len) → (∀ j, j < i → C.2.1 k j = v) → lv_has ls 5 [(3, .int (nI i)), (4, .int (nI len)), (0, .ref (Ad k)), (1, .long v)] → W p l e (k2_rm 0 0) s m args below meth c H locs 0 0 Q (F0 m 6 ls []) := by
  have hx := S.1
  have hb := S.2.1
  have hml := S.2.2.1
  have hown := S.2.2.2.1
  have hts := S.2.2.2.2
  intro f
  induction f with
  | zero => intro C H locs i ls hf; exact absurd hf (Nat.not_lt_zero _)
  | succ f ih =>
    intro C H locs i ls hf hP hS hB hi hv hl
    refine lv_iload_n hx hb dJ7_fill_d0a16_6 rfl (lv_at hl 0 rfl) ?_
    refine lv_iload hx hb dJ7_fill_d0a16_7 (lv_at hl 1 rfl) ?_
    refine pn_icmp_ge (tgt := 22) hx hb (by omega) (by omega) dJ7_fill_d0a16_9 (by decide) (fun c_9 => ?_) (fun c_9 => ?_)
    · exact hq _ C H locs ls dJ7_fill_d0a16_22 hP hS ⟨hB, fun j hj => hv j (by omega)⟩
    · refine lv_aload_n hx hb dJ7_fill_d0a16_12 rfl (lv_at hl 2 rfl) ?_
      refine lv_iload_n hx hb dJ7_fill_d0a16_13 rfl (lv_at hl 0 rfl) ?_
      refine lv_lload_n hx hb dJ7_fill_d0a16_14 rfl (lv_at hl 3 rfl) ?_
      refine pw_last hx hb hK hP hI hS k hs (by omega) hlen dJ7_fill_d0a16_15 (fun H locs hP hS => ?_)
      have hB := hB.setL (i := i) (x := v) (show k = k from rfl)
      refine lv_iinc (v := nI (i + 1)) (lv' := [(3, .int (nI (i + 1))), (4, .int (nI len)), (0, .ref (Ad k)), (1, .long v)]) hx hb dJ7_fill_d0a16_16 hl (k := 0) rfl (nI_add _ 1) (by decide) rfl (fun ls hl => ?_)
      refine lv_goto (tgt := 6) hx hb dJ7_fill_d0a16_19 (by decide) ?_
      exact ih _ H locs (i + 1) ls (by omega) hP hS hB (by omega) (fun j hj => by
        rw [sl_at]
        by_cases q : j = i
        · rw [if_pos q]
        · rw [if_neg q]; exact hv j (by omega)) (lv_sub hl [0, 1, 2, 3] rfl)

set_option maxHeartbeats 4000000 in
set_option maxRecDepth 100000 in
theorem c_J7_fill_d0a16 (l : Launch) (D : va_G) (cy : Nat → ClassId) (Ad : Nat → Nat) (sh : Nat → Nat × Nat × Nat) (C : pw_C) (hI : pw_I Ad sh) (k len b : Nat) (hs : sh k = (2, len, b)) (hlen : len < 2 ^ 31) (v : Int64) : Met l yJ7_fill_d0a16 wsJ7_fill_d0a16 (k2_rm 0 0) (pw_Pre ([.ref (Ad k), .long v]) D cy Ad sh C) (pw_Post (fun r9 C' => r9 = none ∧ (pw_B (fun k9 => k9 = k) C C' ∧ ∀ j, j < len → C'.2.1 k j = v)) D cy Ad sh) 0 0 (pw_fr Ad sh) := by
  refine Met.ofW (cc := cJ7_fill_d0a16) (maxL := 5) (ret := none) (by decide) rfl ?_
  intro p e s m args below meth c s₁ B hml hv
  obtain ⟨rfl, hP, hK⟩ := hv
  have hx := B.exec
  have hb := B.bytes
  have hr := B.returns
  have hts := atoms_spec (ws := wsJ7_fill_d0a16) B.pre
  have hown : s.vm.findClass RJ7 = some m.cls := findClass_of_methodNamed B.named
  have hlocks := B.notSynchronized
  have S : CallFix p m c cJ7_fill_d0a16 5 s ([.ref (Ad k), .long v]).toArray wsJ7_fill_d0a16 RJ7 := ⟨hx, hb, hml, hown, hts⟩
  change W p l e (k2_rm 0 0) s m _ below meth c s.heap [] 0 0 _ _
  have hl := lv_entry ([.ref (Ad k), .long v]) (n := 5) (Nat.le_of_ble_eq_true rfl)
  rw [lg_entry_eq]
  generalize (lg_sl ([.ref (Ad k), .long v]) ++ List.replicate (5 - (lg_sl ([.ref (Ad k), .long v])).length) Slot.unset).toArray = ls at hl ⊢
  have hl : lv_has ls 5 [(0, .ref (Ad k)), (1, .long v)] := hl
  have hS : va_S (pw_fr Ad sh) s.heap s.heap [] := va_S.rf
  refine lv_iconst (v := nI 0) hx hb dJ7_fill_d0a16_0 (by decide) ?_
  refine lv_istore_n (lv' := [(3, .int (nI 0)), (0, .ref (Ad k)), (1, .long v)]) hx hb dJ7_fill_d0a16_1 rfl hl (by decide) rfl (fun ls hl => ?_)
  refine lv_aload_n hx hb dJ7_fill_d0a16_2 rfl (lv_at hl 1 rfl) ?_
  refine pw_alen2 hx hb hK hP k hs dJ7_fill_d0a16_3 ?_
  refine lv_istore (lv' := [(4, .int (nI len)), (3, .int (nI 0)), (0, .ref (Ad k)), (1, .long v)]) hx hb dJ7_fill_d0a16_4 hl (by decide) rfl (fun ls hl => ?_)
  exact L_J7_fill_d0a16 S hK hI k len b hs hlen v (fun pc9 C9 H9 locs9 ls9 hd9 hP9 hS9 hR9 => W.vret hx hb hr (fun t ht _ => ⟨⟨none, C9, rfl, ⟨rfl, hR9⟩, by rw [ht]; exact hP9⟩, hS9.F ht⟩) hS9.2.2 hd9) (len + 1) C s.heap [] 0 ls (by omega) hP hS pw_B.rf (by omega) (fun j hj => by omega) (lv_sub hl [1, 0, 2, 3] rfl)

set_option maxHeartbeats 4000000 in
set_option maxRecDepth 100000 in
theorem c_X0_setStep (l : Launch) (D : va_G) (cy : Nat → ClassId) (Ad : Nat → Nat) (n mm : Nat) (C : pw_C) (hI : pw_I Ad (shX n)) (hn : 1 ≤ n ∧ n ≤ 12) (hF : fX n mm Ad C) (nx : Nat → Nat → Nat) (hN : gN n nx C) (x u y : Nat) (hx0 : x < n) (hu : u < 8) : Met l yX0_setStep wsX0_setStep (k2_rm 0 0) (pw_Pre ([.ref (Ad 1), .int (nI x), .int (nI u), .int (nI y)]) D cy Ad (shX n) C) (pw_Post (fun r9 C' => r9 = some (.int (nI (nx u x))) ∧ (C' = pw_setI C (21 + u) x (nI y))) D cy Ad (shX n)) 0 0 (pw_fr Ad (shX n)) := by
  refine Met.ofW (cc := cX0_setStep) (maxL := 5) (ret := (some .int)) (by decide) rfl ?_
  intro p e s m args below meth c s₁ B hml hv
  obtain ⟨rfl, hP, hK⟩ := hv
  have hx := B.exec
  have hb := B.bytes
  have hr := B.returns
  have hts := atoms_spec (ws := wsX0_setStep) B.pre
  have hown : s.vm.findClass RX0 = some m.cls := findClass_of_methodNamed B.named
  have hlocks := B.notSynchronized
  have S : CallFix p m c cX0_setStep 5 s ([.ref (Ad 1), .int (nI x), .int (nI u), .int (nI y)]).toArray wsX0_setStep RX0 := ⟨hx, hb, hml, hown, hts⟩
  change W p l e (k2_rm 0 0) s m _ below meth c s.heap [] 0 0 _ _
  have hl := lv_entry ([.ref (Ad 1), .int (nI x), .int (nI u), .int (nI y)]) (n := 5) (Nat.le_of_ble_eq_true rfl)
  rw [lg_entry_eq]
  generalize (lg_sl ([.ref (Ad 1), .int (nI x), .int (nI u), .int (nI y)]) ++ List.replicate (5 - (lg_sl ([.ref (Ad 1), .int (nI x), .int (nI u), .int (nI y)])).length) Slot.unset).toArray = ls at hl ⊢
  have hl : lv_has ls 5 [(0, .ref (Ad 1)), (1, .int (nI x)), (2, .int (nI u)), (3, .int (nI y))] := hl
  have hS : va_S (pw_fr Ad (shX n)) s.heap s.heap [] := va_S.rf
  have hB : pw_B (fun k => k = 21 + u) C C := pw_B.rf
  refine lv_aload_n hx hb dX0_setStep_0 rfl (lv_at hl 0 rfl) ?_
  refine pw_get hx hb hts (fun _ h9 => List.mem_cons_of_mem _ (List.mem_append_right _ h9)) hown hK hP 1 rfl rfl 1 (by decide) hF.2.1 rfl (hts (.fieldLink RX0 17 "PastDraws$Chain" "next" "[[I") (List.mem_of_getElem? (i := 1) rfl)) dX0_setStep_1 ?_
  refine lv_iload_n hx hb dX0_setStep_4 rfl (lv_at hl 2 rfl) ?_
  refine pw_aald4 hx hb hK hP 5 rfl (by first | exact sgn_lt _ _ | omega) (by decide) dX0_setStep_5 ?_
  refine lv_iload_n hx hb dX0_setStep_6 rfl (lv_at hl 1 rfl) ?_
  have hu_7 : u < 8 := (by first | exact sgn_lt _ _ | omega)
  have hx_7 : x < n := (by first | exact sgn_lt _ _ | omega)
  have q_7 : nx u x < n := (hN _ hu_7 _ hx_7).1
  refine pw_iald hx hb hK hP (21 + u) (shX_nx hu_7) hx_7 (by omega) (hN _ hu_7 _ hx_7).2 dX0_setStep_7 ?_
  refine lv_istore (lv' := [(4, .int (nI (nx u x))), (0, .ref (Ad 1)), (1, .int (nI x)), (2, .int (nI u)), (3, .int (nI y))]) hx hb dX0_setStep_8 hl (by decide) rfl (fun ls hl => ?_)
  refine lv_aload_n hx hb dX0_setStep_10 rfl (lv_at hl 1 rfl) ?_
  refine pw_get hx hb hts (fun _ h9 => List.mem_cons_of_mem _ (List.mem_append_right _ h9)) hown hK hP 1 rfl rfl 1 (by decide) hF.2.1 rfl (hts (.fieldLink RX0 17 "PastDraws$Chain" "next" "[[I") (List.mem_of_getElem? (i := 1) rfl)) dX0_setStep_11 ?_
  refine lv_iload_n hx hb dX0_setStep_14 rfl (lv_at hl 3 rfl) ?_
  refine pw_aald4 hx hb hK hP 5 rfl (by first | exact sgn_lt _ _ | omega) (by decide) dX0_setStep_15 ?_
  refine lv_iload_n hx hb dX0_setStep_16 rfl (lv_at hl 2 rfl) ?_
  refine lv_iload_n hx hb dX0_setStep_17 rfl (lv_at hl 4 rfl) ?_
  refine pw_iast hx hb hK hP hI hS (21 + u) (shX_nx (by first | exact sgn_lt _ _ | omega)) (by first | exact sgn_lt _ _ | omega) (by first | decide | omega) dX0_setStep_18 (fun H locs hP hS => ?_)
  obtain ⟨C18, hC18⟩ : ∃ z9, z9 = pw_setI C (21 + u) x (nI y) := ⟨_, rfl⟩
  rw [← hC18] at hP
  have hB := by have hB9 := hB; exact (show pw_B (fun k => k = 21 + u) C C18 by rw [hC18]; exact hB9.setI (by show (21 + u) = 21 + u; first | trivial | omega))
  refine lv_iload hx hb dX0_setStep_19 (lv_at hl 0 rfl) ?_
  exact W.iret hx hb hr (fun t ht _ => ⟨⟨(some (.int (nI (nx u x)))), C18, rfl, ⟨rfl, hC18⟩, by rw [ht]; exact hP⟩, hS.F ht⟩) hS.2.2 dX0_setStep_21

/-- whether all states are taken to one -/
def mtF (mp : Nat → Nat) (n : Nat) : Bool := (List.range n).all fun x => decide (mp x = mp 0)
theorem mt_iff {mp : Nat → Nat} {n : Nat} : mtF mp n = true ↔ ∀ x, x < n → mp x = mp 0 := by
  simp [mtF, List.all_eq_true, List.mem_range]
theorem mt_f {mp : Nat → Nat} {n x : Nat} (hx : x < n) (h : ¬ mp x = mp 0) : mtF mp n = false := by
  cases hb : mtF mp n
  · rfl
  · exact absurd (mt_iff.mp hb x hx) h

set_option maxHeartbeats 4000000 in
set_option maxRecDepth 100000 in
theorem L_mapMeets {p : Program} {l : Launch} {e : Env} {s : State} {m : MethodId} {args : Array Value} {below : List Frame} {meth : Method} {c : Code} {H : Heap} {locs : List Loc} {Q : State → Prop} (S : CallFix p m c cX0_mapMeets 2 s args wsX0_mapMeets RX0) {D : va_G} {cy : Nat → ClassId} {Ad : Nat → Nat} {n mm : Nat} {C : pw_C} (hK : pw_K D cy s) (hP : pw_P D cy Ad (shX n) C H) (hF : fX n mm Ad C) (hn : 1 ≤ n ∧ n ≤ 12) (mp : Nat → Nat) (hmp : ∀ x, x < n → mp x < n ∧ C.1 6 x = nI (mp x)) (hq : ∀ (pc9 : Nat) (ls : Array Slot), decode cX0_mapMeets pc9 = .ok (.ireturn, 1) → W p l e (k2_rm 0 0) s m args below meth c H locs 0 0 Q (F0 m pc9 ls [.int (pb (mtF mp n))])) : ∀ (f : Nat) (x : Nat) (ls : Array Slot), n - x < f → (x ≤ n) → (∀ y, y < x → mp y = mp 0) → lv_has ls 2 [(1, .int (nI x)), (0, .ref (Ad 1))] → W p l e (k2_rm 0 0) s m args below meth c H locs 0 0 Q (F0 m 2 ls []) := by
  have hx := S.1
  have hb := S.2.1
  have hml := S.2.2.1
  have hown := S.2.2.2.1
  have hts := S.2.2.2.2
  intro f
  induction f with
  | zero => intro x ls hf; exact absurd hf (Nat.not_lt_zero _)
  | succ f ih =>
    intro x ls hf hx0 hv hl
    refine lv_iload_n hx hb dX0_mapMeets_2 rfl (lv_at hl 0 rfl) ?_
    refine lv_aload_n hx hb dX0_mapMeets_3 rfl (lv_at hl 1 rfl) ?_
    refine pw_get hx hb hts (fun _ h9 => List.mem_cons_of_mem _ (List.mem_append_right _ h9)) hown hK hP 1 rfl rfl 0 (by decide) hF.2.1 rfl (hts (.fieldLink RX0 9 "PastDraws$Chain" "n" "I") (List.mem_of_getElem? (i := 1) rfl)) dX0_mapMeets_4 ?_
    refine pn_icmp_ge (tgt := 33) hx hb (by first | omega | (have q9 := (hmp x (by omega)).1; have q8 := (hmp 0 (by omega)).1; omega)) (by first | omega | (have q9 := (hmp x (by omega)).1; have q8 := (hmp 0 (by omega)).1; omega)) dX0_mapMeets_7 (by decide) (fun c_7 => ?_) (fun c_7 => ?_)
    · have hz : mtF mp n = true := mt_iff.mpr (fun y hy => hv y (by omega))
      refine lv_iconst (v := nI 1) hx hb dX0_mapMeets_33 (by decide) ?_
      refine pw_topi (y := pb (mtF mp n)) (by rw [hz]; rfl) ?_
      exact hq _ ls dX0_mapMeets_34
    · refine lv_aload_n hx hb dX0_mapMeets_10 rfl (lv_at hl 1 rfl) ?_
      refine pw_get hx hb hts (fun _ h9 => List.mem_cons_of_mem _ (List.mem_append_right _ h9)) hown hK hP 1 rfl rfl 2 (by decide) hF.2.1 rfl (hts (.fieldLink RX0 20 "PastDraws$Chain" "map" "[I") (List.mem_of_getElem? (i := 2) rfl)) dX0_mapMeets_11 ?_
      refine lv_iload_n hx hb dX0_mapMeets_14 rfl (lv_at hl 0 rfl) ?_
      refine pw_iald hx hb hK hP 6 rfl (by first | exact sgn_lt _ _ | omega) (by first | decide | omega) (v := nI (mp x)) (hmp x (by omega)).2 dX0_mapMeets_15 ?_
      refine lv_aload_n hx hb dX0_mapMeets_16 rfl (lv_at hl 1 rfl) ?_
      refine pw_get hx hb hts (fun _ h9 => List.mem_cons_of_mem _ (List.mem_append_right _ h9)) hown hK hP 1 rfl rfl 2 (by decide) hF.2.1 rfl (hts (.fieldLink RX0 20 "PastDraws$Chain" "map" "[I") (List.mem_of_getElem? (i := 2) rfl)) dX0_mapMeets_17 ?_
      refine lv_iconst (v := nI 0) hx hb dX0_mapMeets_20 (by decide) ?_
      refine pw_iald hx hb hK hP 6 rfl (by first | exact sgn_lt _ _ | omega) (by first | decide | omega) (v := nI (mp 0)) (hmp 0 (by omega)).2 dX0_mapMeets_21 ?_
      refine pn_icmp_eq (tgt := 27) hx hb (by first | omega | (have q9 := (hmp x (by omega)).1; have q8 := (hmp 0 (by omega)).1; omega)) (by first | omega | (have q9 := (hmp x (by omega)).1; have q8 := (hmp 0 (by omega)).1; omega)) dX0_mapMeets_22 (by decide) (fun c_22 => ?_) (fun c_22 => ?_)
      · have hv2 : ∀ y, y < x + 1 → mp y = mp 0 := fun y hy => by
          rcases Nat.lt_or_ge y x with q | q
          · exact hv y q
          · obtain rfl : y = x := by omega
            exact c_22
        refine lv_iinc (v := nI (x + 1)) (lv' := [(1, .int (nI (x + 1))), (0, .ref (Ad 1))]) hx hb dX0_mapMeets_27 hl (k := 0) rfl (nI_add _ 1) (by decide) rfl (fun ls hl => ?_)
        refine lv_goto (tgt := 2) hx hb dX0_mapMeets_30 (by decide) ?_
        exact ih (x + 1) ls (by omega) (by omega) hv2 (lv_sub hl [0, 1] rfl)
      · have hz : mtF mp n = false := mt_f c_7 c_22
        refine lv_iconst (v := nI 0) hx hb dX0_mapMeets_25 (by decide) ?_
        refine pw_topi (y := pb (mtF mp n)) (by rw [hz]; rfl) ?_
        exact hq _ ls dX0_mapMeets_26

set_option maxHeartbeats 4000000 in
set_option maxRecDepth 100000 in
theorem c_X0_mapMeets (l : Launch) (D : va_G) (cy : Nat → ClassId) (Ad : Nat → Nat) (n mm : Nat) (C : pw_C) (hn : 1 ≤ n ∧ n ≤ 12) (hF : fX n mm Ad C) (mp : Nat → Nat) (hmp : ∀ x, x < n → mp x < n ∧ C.1 6 x = nI (mp x)) : Met l yX0_mapMeets wsX0_mapMeets (k2_rm 0 0) (pw_Pre ([.ref (Ad 1)]) D cy Ad (shX n) C) (k2_QcV (.int (pb (mtF mp n)))) 0 0 (fun _ => False) := by
  refine Met.ofW (cc := cX0_mapMeets) (maxL := 2) (ret := (some .boolean)) (by decide) rfl ?_
  intro p e s m args below meth c s₁ B hml hv
  obtain ⟨rfl, hP, hK⟩ := hv
  have hx := B.exec
  have hb := B.bytes
  have hr := B.returns
  have hts := atoms_spec (ws := wsX0_mapMeets) B.pre
  have hown : s.vm.findClass RX0 = some m.cls := findClass_of_methodNamed B.named
  have hlocks := B.notSynchronized
  have S : CallFix p m c cX0_mapMeets 2 s ([.ref (Ad 1)]).toArray wsX0_mapMeets RX0 := ⟨hx, hb, hml, hown, hts⟩
  change W p l e (k2_rm 0 0) s m _ below meth c s.heap [] 0 0 _ _
  have hl := lv_entry ([.ref (Ad 1)]) (n := 2) (Nat.le_of_ble_eq_true rfl)
  rw [lg_entry_eq]
  generalize (lg_sl ([.ref (Ad 1)]) ++ List.replicate (2 - (lg_sl ([.ref (Ad 1)])).length) Slot.unset).toArray = ls at hl ⊢
  have hl : lv_has ls 2 [(0, .ref (Ad 1))] := hl
  refine lv_iconst (v := nI 1) hx hb dX0_mapMeets_0 (by decide) ?_
  refine lv_istore_n (lv' := [(1, .int (nI 1)), (0, .ref (Ad 1))]) hx hb dX0_mapMeets_1 rfl hl (by decide) rfl (fun ls hl => ?_)
  exact L_mapMeets S hK hP hF hn mp hmp (fun pc9 ls hd9 => W.zret hx hb hr (pb_nar _) (fun t ht _ => ⟨rfl, ht⟩) (fun q h => by cases h) hd9) n 1 ls (by omega) (by omega) (fun y hy => by obtain rfl : y = 0 := (by omega); rfl) (lv_sub hl [0, 1] rfl)
