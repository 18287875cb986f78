set_option maxHeartbeats 4000000 in
set_option maxRecDepth 100000 in
theorem L_lengthenMap {p : Program} {l : Launch} {e : Env} {s : State} {m : MethodId} {args : Array Value} {below : List Frame} {meth : Method} {c : Code} {Q : State → Prop} (S : CallFix p m c cX0_lengthenMap 3 s args wsX0_lengthenMap RX0) {D : va_G} {cy : Nat → ClassId} {Ad : Nat → Nat} {n mm : Nat} {C0 : pw_C} (hK : pw_K D cy s) (hI : pw_I Ad (shX n)) (hF0 : fX n mm Ad C0) (hn : 1 ≤ n ∧ n ≤ 12) {nx : Nat → Nat → Nat} (hN0 : gN n nx C0) (u : Nat) (hu : u < 8) (mp : Nat → Nat) (hmp0 : ∀ x, x < n → C0.1 6 x = nI (mp x)) (hk : ∀ (C : pw_C) (H : Heap) (locs : List Loc) (ls : Array Slot), pw_P D cy Ad (shX n) C H → va_S (pw_fr Ad (shX n)) s.heap H locs → (pw_B (fun k => k = 6 ∨ k = 7) C0 C ∧ C.1 6 = C0.1 6 ∧ ∀ y, y < n → C.1 7 y = nI (mp (nx u y))) → lv_has ls 3 [(2, .int (nI n)), (0, .ref (Ad 1))] → W p l e (k2_rm 1 60) s m args below meth c H locs 0 0 Q (F0 m 35 ls [])) : ∀ (f : Nat) (C : pw_C) (H : Heap) (locs : List Loc) (x : Nat) (ls : Array Slot), n - x < f → (pw_P D cy Ad (shX n) C H) → (va_S (pw_fr Ad (shX n)) s.heap H locs) → (pw_B (fun k => k = 6 ∨ k = 7) C0 C) → (x ≤ n) → (C.1 6 = C0.1 6) → (∀ y, y < x → C.1 7 y = nI (mp (nx u y))) → lv_has ls 3 [(2, .int (nI x)), (1, .int (nI u)), (0, .ref (Ad 1))] → W p l e (k2_rm 1 60) s m args below meth c H locs 0 0 Q (F0 m 2 ls []) := by
  have hx := S.1
  have hb := S.2.1
  have hml := S.2.2.1
  have hown := S.2.2.2.1
  have hts := S.2.2.2.2
  intro f
  induction f with
  | zero => intro C H locs x ls hf; exact absurd hf (Nat.not_lt_zero _)
  | succ f ih =>
    intro C H locs x ls hf hP hS hB hx0 h6 hv hl
    have hF := fX_B hF0 hB
    have hN := gN_B hN0 hB (fun u9 hu9 h9 => by have h8 : 21 + u9 = 6 ∨ 21 + u9 = 7 := h9; omega)
    have hmp : ∀ x, x < n → C.1 6 x = nI (mp x) := fun x hx => by rw [h6]; exact hmp0 x hx
    refine lv_iload_n hx hb dX0_lengthenMap_2 rfl (lv_at hl 0 rfl) ?_
    refine lv_aload_n hx hb dX0_lengthenMap_3 rfl (lv_at hl 2 rfl) ?_
    refine pw_get hx hb hts (fun _ h9 => List.mem_cons_of_mem _ (List.mem_append_right _ h9)) hown hK hP 1 rfl rfl 0 (by decide) hF.2.1 rfl (hts (.fieldLink RX0 9 "PastDraws$Chain" "n" "I") (List.mem_of_getElem? (i := 1) rfl)) dX0_lengthenMap_4 ?_
    refine pn_icmp_ge (tgt := 35) hx hb (by omega) (by omega) dX0_lengthenMap_7 (by decide) (fun c_7 => ?_) (fun c_7 => ?_)
    · obtain rfl : x = n := by omega
      exact hk C H locs ls hP hS ⟨hB, h6, hv⟩ (lv_sub hl [0, 2] rfl)
    · refine lv_aload_n hx hb dX0_lengthenMap_10 rfl (lv_at hl 2 rfl) ?_
      refine pw_get hx hb hts (fun _ h9 => List.mem_cons_of_mem _ (List.mem_append_right _ h9)) hown hK hP 1 rfl rfl 3 (by decide) hF.2.1 rfl (hts (.fieldLink RX0 24 "PastDraws$Chain" "longerMap" "[I") (List.mem_of_getElem? (i := 2) rfl)) dX0_lengthenMap_11 ?_
      refine lv_iload_n hx hb dX0_lengthenMap_14 rfl (lv_at hl 0 rfl) ?_
      refine lv_aload_n hx hb dX0_lengthenMap_15 rfl (lv_at hl 2 rfl) ?_
      refine pw_get hx hb hts (fun _ h9 => List.mem_cons_of_mem _ (List.mem_append_right _ h9)) hown hK hP 1 rfl rfl 2 (by decide) hF.2.1 rfl (hts (.fieldLink RX0 20 "PastDraws$Chain" "map" "[I") (List.mem_of_getElem? (i := 3) rfl)) dX0_lengthenMap_16 ?_
      refine lv_aload_n hx hb dX0_lengthenMap_19 rfl (lv_at hl 2 rfl) ?_
      refine pw_get hx hb hts (fun _ h9 => List.mem_cons_of_mem _ (List.mem_append_right _ h9)) hown hK hP 1 rfl rfl 1 (by decide) hF.2.1 rfl (hts (.fieldLink RX0 17 "PastDraws$Chain" "next" "[[I") (List.mem_of_getElem? (i := 4) rfl)) dX0_lengthenMap_20 ?_
      refine lv_iload_n hx hb dX0_lengthenMap_23 rfl (lv_at hl 1 rfl) ?_
      refine pw_aald4 hx hb hK hP 5 rfl (by first | exact sgn_lt _ _ | omega) (by decide) dX0_lengthenMap_24 ?_
      refine lv_iload_n hx hb dX0_lengthenMap_25 rfl (lv_at hl 0 rfl) ?_
      have hu_26 : u < 8 := (by first | exact sgn_lt _ _ | omega)
      have hx_26 : x < n := (by first | exact sgn_lt _ _ | omega)
      have q_26 : nx u x < n := (hN _ hu_26 _ hx_26).1
      refine pw_iald hx hb hK hP (21 + u) (shX_nx hu_26) hx_26 (by omega) (hN _ hu_26 _ hx_26).2 dX0_lengthenMap_26 ?_
      refine pw_iald hx hb hK hP 6 rfl (by first | exact sgn_lt _ _ | omega) (by first | decide | omega) (v := nI (mp (nx u x))) (hmp _ q_26) dX0_lengthenMap_27 ?_
      refine pw_iast hx hb hK hP hI hS 7 rfl (by first | exact sgn_lt _ _ | omega) (by first | decide | omega) dX0_lengthenMap_28 (fun H locs hP hS => ?_)
      obtain ⟨C28, hC28⟩ : ∃ z9, z9 = pw_setI C 7 x (nI (mp (nx u x))) := ⟨_, rfl⟩
      rw [← hC28] at hP
      have hB := by have hB9 := hB; exact (show pw_B (fun k => k = 6 ∨ k = 7) C0 C28 by rw [hC28]; exact hB9.setI (by show 7 = 6 ∨ 7 = 7; first | trivial | omega))
      have hF := fX_B hF0 hB
      have hN := gN_B hN0 hB (fun u9 hu9 h9 => by have h8 : 21 + u9 = 6 ∨ 21 + u9 = 7 := h9; omega)
      refine lv_iinc (v := nI (x + 1)) (lv' := [(2, .int (nI (x + 1))), (1, .int (nI u)), (0, .ref (Ad 1))]) hx hb dX0_lengthenMap_29 hl (k := 0) rfl (nI_add _ 1) (by decide) rfl (fun ls hl => ?_)
      refine lv_goto (tgt := 2) hx hb dX0_lengthenMap_32 (by decide) ?_
      have e7 : C28.1 6 = C.1 6 := by rw [hC28]; exact si_ne (by decide)
      exact ih C28 H locs (x + 1) ls (by omega) hP hS hB (by omega) (e7.trans h6) (fun y hy => by
        rw [hC28, si_at]
        by_cases q : y = x
        · rw [if_pos q, q]
        · rw [if_neg q]; exact hv y (by omega)) (lv_sub hl [0, 1, 2] rfl)

set_option maxHeartbeats 4000000 in
set_option maxRecDepth 100000 in
theorem c_X0_lengthenMap (l : Launch) (D : va_G) (cy : Nat → ClassId) (Ad : Nat → Nat) (n mm : Nat) (C : pw_C) (hI : pw_I Ad (shX n)) (hn : 1 ≤ n ∧ n ≤ 12) (hF : fX n mm Ad C) (nx : Nat → Nat → Nat) (hN : gN n nx C) (u : Nat) (hu : u < 8) (mp : Nat → Nat) (hmp : ∀ x, x < n → C.1 6 x = nI (mp x)) : Met l yX0_lengthenMap wsX0_lengthenMap (k2_rm 1 60) (pw_Pre ([.ref (Ad 1), .int (nI u)]) D cy Ad (shX n) C) (pw_Post (fun r9 C' => r9 = none ∧ (pw_B (fun k => k = 6 ∨ k = 7) C C' ∧ ∀ x, x < n → C'.1 6 x = nI (mp (nx u x)))) D cy Ad (shX n)) 0 0 (pw_fr Ad (shX n)) := by
  refine Met.ofW (cc := cX0_lengthenMap) (maxL := 3) (ret := none) (by decide) rfl ?_
  intro p e s m args below meth c s₁ B hml hv
  obtain ⟨rfl, hP, hK⟩ := hv
  have hx := B.exec
  have hb := B.bytes
  have hr := B.returns
  have hts := atoms_spec (ws := wsX0_lengthenMap) B.pre
  have hown : s.vm.findClass RX0 = some m.cls := findClass_of_methodNamed B.named
  have hlocks := B.notSynchronized
  have S : CallFix p m c cX0_lengthenMap 3 s ([.ref (Ad 1), .int (nI u)]).toArray wsX0_lengthenMap RX0 := ⟨hx, hb, hml, hown, hts⟩
  change W p l e (k2_rm 1 60) s m _ below meth c s.heap [] 0 0 _ _
  have hl := lv_entry ([.ref (Ad 1), .int (nI u)]) (n := 3) (Nat.le_of_ble_eq_true rfl)
  rw [lg_entry_eq]
  generalize (lg_sl ([.ref (Ad 1), .int (nI u)]) ++ List.replicate (3 - (lg_sl ([.ref (Ad 1), .int (nI u)])).length) Slot.unset).toArray = ls at hl ⊢
  have hl : lv_has ls 3 [(0, .ref (Ad 1)), (1, .int (nI u))] := hl
  have hS : va_S (pw_fr Ad (shX n)) s.heap s.heap [] := va_S.rf
  refine lv_iconst (v := nI 0) hx hb dX0_lengthenMap_0 (by decide) ?_
  refine lv_istore_n (lv' := [(2, .int (nI 0)), (0, .ref (Ad 1)), (1, .int (nI u))]) hx hb dX0_lengthenMap_1 rfl hl (by decide) rfl (fun ls hl => ?_)
  refine L_lengthenMap S hK hI hF hn hN u hu mp hmp (fun C1 H locs ls hP hS hR hl => ?_) (n + 1) C s.heap [] 0 ls (by omega) hP hS pw_B.rf (by omega) rfl (fun y hy => by omega) (lv_sub hl [0, 2, 1] rfl)
  have hB := hR.1
  have hF := fX_B hF hB
  refine lv_aload_n hx hb dX0_lengthenMap_35 rfl (lv_at hl 1 rfl) ?_
  refine pw_get hx hb hts (fun _ h9 => List.mem_cons_of_mem _ (List.mem_append_right _ h9)) hown hK hP 1 rfl rfl 3 (by decide) hF.2.1 rfl (hts (.fieldLink RX0 24 "PastDraws$Chain" "longerMap" "[I") (List.mem_of_getElem? (i := 2) rfl)) dX0_lengthenMap_36 ?_
  refine lv_iconst (v := nI 0) hx hb dX0_lengthenMap_39 (by decide) ?_
  refine lv_aload_n hx hb dX0_lengthenMap_40 rfl (lv_at hl 1 rfl) ?_
  refine pw_get hx hb hts (fun _ h9 => List.mem_cons_of_mem _ (List.mem_append_right _ h9)) hown hK hP 1 rfl rfl 2 (by decide) hF.2.1 rfl (hts (.fieldLink RX0 20 "PastDraws$Chain" "map" "[I") (List.mem_of_getElem? (i := 3) rfl)) dX0_lengthenMap_41 ?_
  refine lv_iconst (v := nI 0) hx hb dX0_lengthenMap_44 (by decide) ?_
  refine lv_aload_n hx hb dX0_lengthenMap_45 rfl (lv_at hl 1 rfl) ?_
  refine pw_get hx hb hts (fun _ h9 => List.mem_cons_of_mem _ (List.mem_append_right _ h9)) hown hK hP 1 rfl rfl 0 (by decide) hF.2.1 rfl (hts (.fieldLink RX0 9 "PastDraws$Chain" "n" "I") (List.mem_of_getElem? (i := 1) rfl)) dX0_lengthenMap_46 ?_
  refine pw_copy hx hb (hml.trans hl.1.symm) hown (hts (.methodLink RX0 50 arraycopyName) (List.mem_of_getElem? (i := 5) rfl)) (hts (.native arraycopyName) (List.mem_of_getElem? (i := 6) rfl)) (hts (.static arraycopyName) (List.mem_of_getElem? (i := 7) rfl)) (hts (.initialized "java/lang/System") (List.mem_of_getElem? (i := 8) rfl)) hK hP hI hS 7 6 rfl rfl (Nat.le_refl _) (Nat.le_refl _) (by omega) (Nat.le_of_ble_eq_true rfl) (Nat.le_of_ble_eq_true rfl) dX0_lengthenMap_49 (fun H locs hP hS => ?_)
  obtain ⟨C49, hC49⟩ : ∃ z9, z9 = pw_setR C1 6 (fun j => if j < n then C1.1 7 j else C1.1 6 j) := ⟨_, rfl⟩
  rw [← hC49] at hP
  have hB := by have hB9 := hB; exact (show pw_B (fun k => k = 6 ∨ k = 7) C C49 by rw [hC49]; exact hB9.setR (by show 6 = 6 ∨ 6 = 7; first | trivial | omega))
  exact W.vret hx hb hr (fun t ht _ => ⟨⟨none, C49, rfl, ⟨rfl, hB, fun x hx => by rw [hC49, sr_at, if_pos hx]; exact hR.2.2 x hx⟩, by rw [ht]; exact hP⟩, hS.F ht⟩) hS.2.2 dX0_lengthenMap_52

set_option maxHeartbeats 4000000 in
set_option maxRecDepth 100000 in
theorem L_leastMeeting_a {p : Program} {l : Launch} {e : Env} {s : State} {m : MethodId} {args : Array Value} {below : List Frame} {meth : Method} {c : Code} {Q : State → Prop} (S : CallFix p m c cX0_leastMeeting 4 s args wsX0_leastMeeting RX0) {D : va_G} {cy : Nat → ClassId} {Ad : Nat → Nat} {n mm : Nat} {C0 : pw_C} (hK : pw_K D cy s) (hI : pw_I Ad (shX n)) (hF0 : fX n mm Ad C0) (hn : 1 ≤ n ∧ n ≤ 12) (a : Int32) (most : Nat) (hk : ∀ (C : pw_C) (H : Heap) (locs : List Loc) (ls : Array Slot), pw_P D cy Ad (shX n) C H → va_S (pw_fr Ad (shX n)) s.heap H locs → (pw_B (fun k => k = 6 ∨ k = 7) C0 C ∧ ∀ y, y < n → C.1 6 y = nI y) → lv_has ls 4 [(0, .ref (Ad 1)), (1, .int a), (2, .int (nI most))] → W p l e (k2_rm 2 82) s m args below meth c H locs 0 0 Q (F0 m 23 ls [])) : ∀ (f : Nat) (C : pw_C) (H : Heap) (locs : List Loc) (x : Nat) (ls : Array Slot), n - x < f → (pw_P D cy Ad (shX n) C H) → (va_S (pw_fr Ad (shX n)) s.heap H locs) → (pw_B (fun k => k = 6 ∨ k = 7) C0 C) → (x ≤ n) → (∀ y, y < x → C.1 6 y = nI y) → lv_has ls 4 [(3, .int (nI x)), (0, .ref (Ad 1)), (1, .int a), (2, .int (nI most))] → W p l e (k2_rm 2 82) s m args below meth c H locs 0 0 Q (F0 m 2 ls []) := by
  have hx := S.1
  have hb := S.2.1
  have hml := S.2.2.1
  have hown := S.2.2.2.1
  have hts := S.2.2.2.2
  intro f
  induction f with
  | zero => intro C H locs x ls hf; exact absurd hf (Nat.not_lt_zero _)
  | succ f ih =>
    intro C H locs x ls hf hP hS hB hx0 hv hl
    have hF := fX_B hF0 hB
    refine lv_iload_n hx hb dX0_leastMeeting_2 rfl (lv_at hl 0 rfl) ?_
    refine lv_aload_n hx hb dX0_leastMeeting_3 rfl (lv_at hl 1 rfl) ?_
    refine pw_get hx hb hts (fun _ h9 => List.mem_cons_of_mem _ (List.mem_append_right _ h9)) hown hK hP 1 rfl rfl 0 (by decide) hF.2.1 rfl (hts (.fieldLink RX0 9 "PastDraws$Chain" "n" "I") (List.mem_of_getElem? (i := 1) rfl)) dX0_leastMeeting_4 ?_
    refine pn_icmp_ge (tgt := 23) hx hb (by omega) (by omega) dX0_leastMeeting_7 (by decide) (fun c_7 => ?_) (fun c_7 => ?_)
    · obtain rfl : x = n := by omega
      exact hk C H locs ls hP hS ⟨hB, hv⟩ (lv_sub hl [1, 2, 3] rfl)
    · refine lv_aload_n hx hb dX0_leastMeeting_10 rfl (lv_at hl 1 rfl) ?_
      refine pw_get hx hb hts (fun _ h9 => List.mem_cons_of_mem _ (List.mem_append_right _ h9)) hown hK hP 1 rfl rfl 2 (by decide) hF.2.1 rfl (hts (.fieldLink RX0 20 "PastDraws$Chain" "map" "[I") (List.mem_of_getElem? (i := 2) rfl)) dX0_leastMeeting_11 ?_
      refine lv_iload_n hx hb dX0_leastMeeting_14 rfl (lv_at hl 0 rfl) ?_
      refine lv_iload_n hx hb dX0_leastMeeting_15 rfl (lv_at hl 0 rfl) ?_
      refine pw_iast hx hb hK hP hI hS 6 rfl (by first | exact sgn_lt _ _ | omega) (by first | decide | omega) dX0_leastMeeting_16 (fun H locs hP hS => ?_)
      obtain ⟨C16, hC16⟩ : ∃ z9, z9 = pw_setI C 6 x (nI x) := ⟨_, rfl⟩
      rw [← hC16] at hP
      have hB := by have hB9 := hB; exact (show pw_B (fun k => k = 6 ∨ k = 7) C0 C16 by rw [hC16]; exact hB9.setI (by show 6 = 6 ∨ 6 = 7; first | trivial | omega))
      have hF := fX_B hF0 hB
      refine lv_iinc (v := nI (x + 1)) (lv' := [(3, .int (nI (x + 1))), (0, .ref (Ad 1)), (1, .int a), (2, .int (nI most))]) hx hb dX0_leastMeeting_17 hl (k := 0) rfl (nI_add _ 1) (by decide) rfl (fun ls hl => ?_)
      refine lv_goto (tgt := 2) hx hb dX0_leastMeeting_20 (by decide) ?_
      exact ih C16 H locs (x + 1) ls (by omega) hP hS hB (by omega) (fun y hy => by
        rw [hC16, si_at]
        by_cases q : y = x
        · rw [if_pos q, q]
        · rw [if_neg q]; exact hv y (by omega)) (lv_sub hl [0, 1, 2, 3] rfl)

theorem thr_lt {n : Nat} {nx : Nat → Nat → Nat} {C : pw_C} (hN : gN n nx C) {a : Int32} : ∀ t x, x < n → thr nx a t x < n := by
  intro t
  induction t with
  | zero => intro x h; exact h
  | succ t ih => intro x h; exact ih _ (hN _ (sgn_lt _ _) _ h).1

set_option maxHeartbeats 4000000 in
set_option maxRecDepth 100000 in
theorem L_leastMeeting {p : Program} {l : Launch} {e : Env} {s : State} {m : MethodId} {args : Array Value} {below : List Frame} {meth : Method} {c : Code} {Q : State → Prop} (S : CallFix p m c cX0_leastMeeting 4 s args wsX0_leastMeeting RX0) {D : va_G} {cy : Nat → ClassId} {Ad : Nat → Nat} {n mm : Nat} {C0 : pw_C} (hK : pw_K D cy s) (hI : pw_I Ad (shX n)) (hF0 : fX n mm Ad C0) (hn : 1 ≤ n ∧ n ≤ 12) {nx : Nat → Nat → Nat} (hN0 : gN n nx C0) (a : Int32) (most : Nat) (hmo : most ≤ 4096) (r : Option Nat) (hq : ∀ (pc9 : Nat) (C : pw_C) (H : Heap) (locs : List Loc) (ls : Array Slot), decode cX0_leastMeeting pc9 = .ok (.ireturn, 1) → pw_P D cy Ad (shX n) C H → va_S (pw_fr Ad (shX n)) s.heap H locs → (pw_B (fun k => k = 6 ∨ k = 7) C0 C) → W p l e (k2_rm 2 82) s m args below meth c H locs 0 0 Q (F0 m pc9 ls [.int (oi r)])) : ∀ (f : Nat) (C : pw_C) (H : Heap) (locs : List Loc) (t : Nat) (ls : Array Slot), most + 1 - t < f → (pw_P D cy Ad (shX n) C H) → (va_S (pw_fr Ad (shX n)) s.heap H locs) → (pw_B (fun k => k = 6 ∨ k = 7) C0 C) → (1 ≤ t) → (t ≤ 4097) → (∀ y, y < n → C.1 6 y = nI (thr nx a (t - 1) y)) → (fstT (fun t => mtF (thr nx a t) n) (most + 1 - t) t = r) → lv_has ls 4 [(3, .int (nI t)), (0, .ref (Ad 1)), (1, .int a), (2, .int (nI most))] → W p l e (k2_rm 2 82) s m args below meth c H locs 0 0 Q (F0 m 25 ls []) := by
  have hx := S.1
  have hb := S.2.1
  have hml := S.2.2.1
  have hown := S.2.2.2.1
  have hts := S.2.2.2.2
  intro f
  induction f with
  | zero => intro C H locs t ls hf; exact absurd hf (Nat.not_lt_zero _)
  | succ f ih =>
    intro C H locs t ls hf hP hS hB ht ht2 hv hr0 hl
    have hF := fX_B hF0 hB
    have hN := gN_B hN0 hB (fun u9 hu9 h9 => by have h8 : 21 + u9 = 6 ∨ 21 + u9 = 7 := h9; omega)
    refine lv_iload_n hx hb dX0_leastMeeting_25 rfl (lv_at hl 0 rfl) ?_
    refine lv_iload_n hx hb dX0_leastMeeting_26 rfl (lv_at hl 3 rfl) ?_
    refine pn_icmp_gt (tgt := 54) hx hb (by omega) (by omega) dX0_leastMeeting_27 (by decide) (fun c_27 => ?_) (fun c_27 => ?_)
    · have hz : most + 1 - t = 0 := by omega
      rw [hz] at hr0
      refine lv_bipush (v := (-2)) hx hb dX0_leastMeeting_54 (by decide) ?_
      refine pw_topi (y := oi r) (by rw [← hr0]; try rfl) ?_
      exact hq _ C H locs ls dX0_leastMeeting_56 hP hS hB
    · obtain ⟨z, hz⟩ : ∃ z, most + 1 - t = z + 1 := ⟨most - t, by omega⟩
      rw [hz, fstT] at hr0
      refine lv_aload_n hx hb dX0_leastMeeting_30 rfl (lv_at hl 1 rfl) ?_
      refine lv_iload_n hx hb dX0_leastMeeting_31 rfl (lv_at hl 2 rfl) ?_
      refine lv_iload_n hx hb dX0_leastMeeting_32 rfl (lv_at hl 0 rfl) ?_
      refine pw_cn S hK.2 (hts (.initialized RX4) (List.mem_of_getElem? (i := 4) rfl)) (hts (.static yX4_signAt) (List.mem_of_getElem? (i := 3) rfl)) 2 (c_X4_signAt l a (nI t)) gX0_leastMeeting_X4_signAt_n38 rfl rfl rfl (by decide +kernel) ⟨Nat.le_of_ble_eq_true rfl, Nat.le_of_ble_eq_true rfl⟩ rfl hl.1 rfl (Nat.le_of_ble_eq_true rfl) dX0_leastMeeting_33 ⟨Nat.le_refl _, Nat.le_refl _⟩ ?_
      refine pw_cvW S hK hP 1 0 rfl rfl 1 (c_X0_lengthenMap l D cy Ad n mm C hI hn hF nx hN (sgn a (nI t)) (sgn_lt _ _) (thr nx a (t - 1)) hv) gX0_leastMeeting_X0_lengthenMap rfl rfl rfl (by decide +kernel) ⟨Nat.le_of_ble_eq_true rfl, Nat.le_of_ble_eq_true rfl⟩ rfl hl.1 rfl (Nat.le_of_ble_eq_true rfl) dX0_leastMeeting_36 ⟨Nat.le_refl _, Nat.le_refl _⟩ hS (fun _ h9 => h9) (fun r9 C36 H locs hR hP _ _ hS => ?_)
      obtain ⟨rfl, hR⟩ := hR
      change W p l e _ s m _ below meth c H locs 0 0 _ (F0 m 39 ls [])
      have hB := hB.tr hR.1
      have hF := fX_B hF0 hB
      have hN := gN_B hN0 hB (fun u9 hu9 h9 => by have h8 : 21 + u9 = 6 ∨ 21 + u9 = 7 := h9; omega)
      have hv2 : ∀ y, y < n → C36.1 6 y = nI (thr nx a t y) := fun y hy => by
        obtain ⟨t9, rfl⟩ : ∃ t9, t = t9 + 1 := ⟨t - 1, by omega⟩
        exact hR.2 y hy
      refine lv_aload_n hx hb dX0_leastMeeting_39 rfl (lv_at hl 1 rfl) ?_
      refine pw_cv S hK hP 1 0 rfl rfl 0 (c_X0_mapMeets l D cy Ad n mm C36 hn hF (thr nx a t) (fun y hy => ⟨thr_lt hN t y hy, hv2 y hy⟩)) gX0_leastMeeting_X0_mapMeets rfl rfl rfl (by decide +kernel) ⟨Nat.le_of_ble_eq_true rfl, Nat.le_of_ble_eq_true rfl⟩ rfl hl.1 rfl (Nat.le_of_ble_eq_true rfl) dX0_leastMeeting_40 ⟨Nat.le_refl _, Nat.le_refl _⟩ ?_
      refine pn_ifeq_b (tgt := 48) hx hb dX0_leastMeeting_43 (by decide) (fun c_43 => ?_) (fun c_43 => ?_)
      · rw [if_neg (by rw [c_43]; decide)] at hr0
        have hz2 : z = most + 1 - (t + 1) := by omega
        refine lv_iinc (v := nI (t + 1)) (lv' := [(3, .int (nI (t + 1))), (0, .ref (Ad 1)), (1, .int a), (2, .int (nI most))]) hx hb dX0_leastMeeting_48 hl (k := 0) rfl (nI_add _ 1) (by decide) rfl (fun ls hl => ?_)
        refine lv_goto (tgt := 25) hx hb dX0_leastMeeting_51 (by decide) ?_
        exact ih C36 H locs (t + 1) ls (by omega) hP hS hB (by omega) (by omega) hv2 (by rw [← hz2]; exact hr0) (lv_sub hl [0, 1, 2, 3] rfl)
      · rw [if_pos c_43] at hr0
        refine lv_iload_n hx hb dX0_leastMeeting_46 rfl (lv_at hl 0 rfl) ?_
        refine pw_topi (y := oi r) (by rw [← hr0]; try rfl) ?_
        exact hq _ C36 H locs ls dX0_leastMeeting_47 hP hS hB

set_option maxHeartbeats 4000000 in
set_option maxRecDepth 100000 in
theorem c_X0_leastMeeting (l : Launch) (D : va_G) (cy : Nat → ClassId) (Ad : Nat → Nat) (n mm : Nat) (C : pw_C) (hI : pw_I Ad (shX n)) (hn : 1 ≤ n ∧ n ≤ 12) (hF : fX n mm Ad C) (nx : Nat → Nat → Nat) (hN : gN n nx C) (a : Int32) (most : Nat) (hmo : most ≤ 4096) : Met l yX0_leastMeeting wsX0_leastMeeting (k2_rm 2 82) (pw_Pre ([.ref (Ad 1), .int a, .int (nI most)]) D cy Ad (shX n) C) (pw_Post (fun r9 C' => r9 = some (.int (oi (fstT (fun t => mtF (thr nx a t) n) most 1))) ∧ (pw_B (fun k => k = 6 ∨ k = 7) C C')) D cy Ad (shX n)) 0 0 (pw_fr Ad (shX n)) := by
  refine Met.ofW (cc := cX0_leastMeeting) (maxL := 4) (ret := (some .int)) (by decide) rfl ?_
  intro p e s m args below meth c s₁ B hml hv
  obtain ⟨rfl, hP, hK⟩ := hv
  have hx := B.exec
  have hb := B.bytes
  have hr := B.returns
  have hts := atoms_spec (ws := wsX0_leastMeeting) B.pre
  have hown : s.vm.findClass RX0 = some m.cls := findClass_of_methodNamed B.named
  have hlocks := B.notSynchronized
  have S : CallFix p m c cX0_leastMeeting 4 s ([.ref (Ad 1), .int a, .int (nI most)]).toArray wsX0_leastMeeting RX0 := ⟨hx, hb, hml, hown, hts⟩
  change W p l e (k2_rm 2 82) s m _ below meth c s.heap [] 0 0 _ _
  have hl := lv_entry ([.ref (Ad 1), .int a, .int (nI most)]) (n := 4) (Nat.le_of_ble_eq_true rfl)
  rw [lg_entry_eq]
  generalize (lg_sl ([.ref (Ad 1), .int a, .int (nI most)]) ++ List.replicate (4 - (lg_sl ([.ref (Ad 1), .int a, .int (nI most)])).length) Slot.unset).toArray = ls at hl ⊢
  have hl : lv_has ls 4 [(0, .ref (Ad 1)), (1, .int a), (2, .int (nI most))] := hl
  have hS : va_S (pw_fr Ad (shX n)) s.heap s.heap [] := va_S.rf
  refine lv_iconst (v := nI 0) hx hb dX0_leastMeeting_0 (by decide) ?_
  refine lv_istore_n (lv' := [(3, .int (nI 0)), (0, .ref (Ad 1)), (1, .int a), (2, .int (nI most))]) hx hb dX0_leastMeeting_1 rfl hl (by decide) rfl (fun ls hl => ?_)
  refine L_leastMeeting_a S hK hI hF hn a most (fun C H locs ls hP hS hR hl => ?_) (n + 1) C s.heap [] 0 ls (by omega) hP hS pw_B.rf (by omega) (fun y hy => by omega) (lv_sub hl [0, 1, 2, 3] rfl)
  refine lv_iconst (v := nI 1) hx hb dX0_leastMeeting_23 (by decide) ?_
  refine lv_istore_n (lv' := [(3, .int (nI 1)), (0, .ref (Ad 1)), (1, .int a), (2, .int (nI most))]) hx hb dX0_leastMeeting_24 rfl hl (by decide) rfl (fun ls hl => ?_)
  exact L_leastMeeting S hK hI hF hn hN a most hmo _ (fun pc9 C9 H9 locs9 ls9 hd9 hP9 hS9 hR9 => W.iret hx hb hr (fun t ht _ => ⟨⟨(some (.int (oi (fstT (fun t => mtF (thr nx a t) n) most 1)))), C9, rfl, ⟨rfl, hR9⟩, by rw [ht]; exact hP9⟩, hS9.F ht⟩) hS9.2.2 hd9) (most + 1) C H locs 1 ls (by omega) hP hS hR.1 (by omega) (by omega) hR.2 rfl (lv_sub hl [0, 1, 2, 3] rfl)
