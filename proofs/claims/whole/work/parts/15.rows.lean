def acU (nx : Nat → Nat → Nat) (n : Nat) (cnt : Nat → Int32) (Z : Nat) : Nat → (Nat → Int32) → Nat → Int32
  | 0, g => g
  | u + 1, g => fun z => if z = imgF nx Z u n then acU nx n cnt Z u g z + cnt Z else acU nx n cnt Z u g z
def acZ (nx : Nat → Nat → Nat) (n : Nat) (cnt : Nat → Int32) : Nat → Nat → Int32
  | 0 => fun _ => 0
  | k + 1 => acU nx n cnt (k + 1) 8 (acZ nx n cnt k)
theorem acU_0 {nx : Nat → Nat → Nat} {n : Nat} {cnt : Nat → Int32} {Z : Nat} (h : cnt Z = 0) {g : Nat → Int32} : ∀ u z, acU nx n cnt Z u g z = g z := by
  intro u
  induction u with
  | zero => intro z; rfl
  | succ u ih =>
    intro z
    unfold acU
    rw [ih z, h]
    split
    · exact Int32.add_zero _
    · rfl
def rws (nx : Nat → Nat → Nat) (n : Nat) : Nat → Nat → Int32
  | 0 => fun Z => if Z = 2 ^ n - 1 then 1 else 0
  | t + 1 => acZ nx n (rws nx n t) (2 ^ n - 1)
def apF (cnt : Nat → Int32) : Nat → Int32
  | 0 => 0
  | k + 1 => if sng (k + 1) = true then apF cnt k else apF cnt k + cnt (k + 1)

set_option maxHeartbeats 4000000 in
set_option maxRecDepth 100000 in
theorem L_lengthenRows_in {p : Program} {l : Launch} {e : Env} {s : State} {m : MethodId} {args : Array Value} {below : List Frame} {meth : Method} {c : Code} {Q : State → Prop} (S : CallFix p m c cX0_lengthenRows 3 s args wsX0_lengthenRows RX0) {D : va_G} {cy : Nat → ClassId} {Ad : Nat → Nat} {n mm : Nat} {C0 : pw_C} (hK : pw_K D cy s) (hI : pw_I Ad (shX n)) (hF0 : fX n mm Ad C0) (hn : 1 ≤ n ∧ n ≤ 12) {nx : Nat → Nat → Nat} (hN0 : gN n nx C0) (cnt : Nat → Int32) (hc0 : ∀ z, z < 2 ^ n → C0.1 8 z = cnt z) (k : Nat) (hk0 : k + 1 < 2 ^ n) (g : Nat → Int32) (hk : ∀ (C : pw_C) (H : Heap) (locs : List Loc) (ls : Array Slot), pw_P D cy Ad (shX n) C H → va_S (pw_fr Ad (shX n)) s.heap H locs → (pw_B (fun k => k = 8 ∨ k = 9) C0 C ∧ C.1 8 = C0.1 8 ∧ ∀ z, z < 2 ^ n → C.1 9 z = acU nx n cnt (k + 1) 8 g z) → lv_has ls 3 [(1, .int (nI (k + 1))), (0, .ref (Ad 1))] → W p l e (k2_rm 1 60) s m args below meth c H locs 0 0 Q (F0 m 61 ls [])) : ∀ (f : Nat) (C : pw_C) (H : Heap) (locs : List Loc) (u : Nat) (ls : Array Slot), 8 - u < f → (pw_P D cy Ad (shX n) C H) → (va_S (pw_fr Ad (shX n)) s.heap H locs) → (pw_B (fun k => k = 8 ∨ k = 9) C0 C) → (u ≤ 8) → (C.1 8 = C0.1 8) → (∀ z, z < 2 ^ n → C.1 9 z = acU nx n cnt (k + 1) u g z) → lv_has ls 3 [(2, .int (nI u)), (1, .int (nI (k + 1))), (0, .ref (Ad 1))] → W p l e (k2_rm 1 60) s m args below meth c H locs 0 0 Q (F0 m 29 ls []) := by
  have hx := S.1
  have hb := S.2.1
  have hml := S.2.2.1
  have hown := S.2.2.2.1
  have hts := S.2.2.2.2
  intro f
  induction f with
  | zero => intro C H locs u ls hf; exact absurd hf (Nat.not_lt_zero _)
  | succ f ih =>
    intro C H locs u ls hf hP hS hB hu0 h8 hv hl
    have hF := fX_B hF0 hB
    have hN := gN_B hN0 hB (fun u9 hu9 h9 => by have h8 : 21 + u9 = 8 ∨ 21 + u9 = 9 := h9; omega)
    have hpw := pow12 hn.2
    have hpp : 1 ≤ 2 ^ n := Nat.pow_pos (by decide)
    have hc : ∀ z, z < 2 ^ n → C.1 8 z = cnt z := fun z hz => by rw [h8]; exact hc0 z hz
    refine lv_iload_n hx hb dX0_lengthenRows_29 rfl (lv_at hl 0 rfl) ?_
    refine lv_bipush (v := nI 8) hx hb dX0_lengthenRows_30 (by decide) ?_
    refine pn_icmp_ge (tgt := 61) hx hb (by omega) (by omega) dX0_lengthenRows_32 (by decide) (fun c_32 => ?_) (fun c_32 => ?_)
    · obtain rfl : u = 8 := by omega
      exact hk C H locs ls hP hS ⟨hB, h8, hv⟩ (lv_sub hl [1, 2] rfl)
    · have him : imgF nx (k + 1) u n < 2 ^ n := imgF_lt (fun x h => (hN u (by omega) x h).1) n (Nat.le_refl _)
      refine lv_aload_n hx hb dX0_lengthenRows_35 rfl (lv_at hl 2 rfl) ?_
      refine pw_get hx hb hts (fun _ h9 => List.mem_cons_of_mem _ (List.mem_append_right _ h9)) hown hK hP 1 rfl rfl 5 (by decide) hF.2.1 rfl (hts (.fieldLink RX0 30 "PastDraws$Chain" "longerRowsTo" "[I") (List.mem_of_getElem? (i := 1) rfl)) dX0_lengthenRows_36 ?_
      refine lv_aload_n hx hb dX0_lengthenRows_39 rfl (lv_at hl 2 rfl) ?_
      refine lv_iload_n hx hb dX0_lengthenRows_40 rfl (lv_at hl 1 rfl) ?_
      refine lv_iload_n hx hb dX0_lengthenRows_41 rfl (lv_at hl 0 rfl) ?_
      refine pw_cv S hK hP 1 0 rfl rfl 2 (c_X0_imageOf l D cy Ad n mm C hn hF nx hN (k + 1) u (by omega) (by omega)) gX0_lengthenRows_X0_imageOf rfl rfl rfl (by decide +kernel) ⟨Nat.le_of_ble_eq_true rfl, Nat.le_of_ble_eq_true rfl⟩ rfl hl.1 rfl (Nat.le_of_ble_eq_true rfl) dX0_lengthenRows_42 ⟨Nat.le_refl _, Nat.le_refl _⟩ ?_
      refine lv_dup2_11 hx hb dX0_lengthenRows_45 rfl rfl ?_
      refine pw_iald hx hb hK hP 9 rfl him (by first | decide | omega) (v := acU nx n cnt (k + 1) u g (imgF nx (k + 1) u n)) (hv _ him) dX0_lengthenRows_46 ?_
      refine lv_aload_n hx hb dX0_lengthenRows_47 rfl (lv_at hl 2 rfl) ?_
      refine pw_get hx hb hts (fun _ h9 => List.mem_cons_of_mem _ (List.mem_append_right _ h9)) hown hK hP 1 rfl rfl 4 (by decide) hF.2.1 rfl (hts (.fieldLink RX0 27 "PastDraws$Chain" "rowsTo" "[I") (List.mem_of_getElem? (i := 2) rfl)) dX0_lengthenRows_48 ?_
      refine lv_iload_n hx hb dX0_lengthenRows_51 rfl (lv_at hl 1 rfl) ?_
      refine pw_iald hx hb hK hP 8 rfl (by first | exact sgn_lt _ _ | omega) (by first | decide | omega) (v := cnt (k + 1)) (hc (k + 1) (by omega)) dX0_lengthenRows_52 ?_
      refine lv_iadd hx hb dX0_lengthenRows_53 ?_
      refine pw_iast hx hb hK hP hI hS 9 rfl him (by first | decide | omega) dX0_lengthenRows_54 (fun H locs hP hS => ?_)
      obtain ⟨C54, hC54⟩ : ∃ z9, z9 = pw_setI C 9 (imgF nx (k + 1) u n) ((acU nx n cnt (k + 1) u g (imgF nx (k + 1) u n)) + (cnt (k + 1))) := ⟨_, rfl⟩
      rw [← hC54] at hP
      have hB := by have hB9 := hB; exact (show pw_B (fun k => k = 8 ∨ k = 9) C0 C54 by rw [hC54]; exact hB9.setI (by show 9 = 8 ∨ 9 = 9; first | trivial | omega))
      have hF := fX_B hF0 hB
      have hN := gN_B hN0 hB (fun u9 hu9 h9 => by have h8 : 21 + u9 = 8 ∨ 21 + u9 = 9 := h9; omega)
      refine lv_iinc (v := nI (u + 1)) (lv' := [(2, .int (nI (u + 1))), (1, .int (nI (k + 1))), (0, .ref (Ad 1))]) hx hb dX0_lengthenRows_55 hl (k := 0) rfl (nI_add _ 1) (by decide) rfl (fun ls hl => ?_)
      refine lv_goto (tgt := 29) hx hb dX0_lengthenRows_58 (by decide) ?_
      have e8 : C54.1 8 = C.1 8 := by rw [hC54]; exact si_ne (by decide)
      exact ih C54 H locs (u + 1) ls (by omega) hP hS hB (by omega) (e8.trans h8) (fun z hz => by
        rw [hC54, si_at]
        show _ = if z = imgF nx (k + 1) u n then _ else _
        by_cases q : z = imgF nx (k + 1) u n
        · rw [if_pos q, if_pos q, q]
        · rw [if_neg q, if_neg q]; exact hv z hz) (lv_sub hl [0, 1, 2] rfl)

set_option maxHeartbeats 4000000 in
set_option maxRecDepth 100000 in
theorem L_lengthenRows {p : Program} {l : Launch} {e : Env} {s : State} {m : MethodId} {args : Array Value} {below : List Frame} {meth : Method} {c : Code} {Q : State → Prop} (S : CallFix p m c cX0_lengthenRows 3 s args wsX0_lengthenRows RX0) {D : va_G} {cy : Nat → ClassId} {Ad : Nat → Nat} {n mm : Nat} {C0 : pw_C} (hK : pw_K D cy s) (hI : pw_I Ad (shX n)) (hF0 : fX n mm Ad C0) (hn : 1 ≤ n ∧ n ≤ 12) {nx : Nat → Nat → Nat} (hN0 : gN n nx C0) (cnt : Nat → Int32) (hc0 : ∀ z, z < 2 ^ n → C0.1 8 z = cnt z) (hk : ∀ (C : pw_C) (H : Heap) (locs : List Loc) (ls : Array Slot), pw_P D cy Ad (shX n) C H → va_S (pw_fr Ad (shX n)) s.heap H locs → (pw_B (fun k => k = 8 ∨ k = 9) C0 C ∧ C.1 8 = C0.1 8 ∧ ∀ z, z < 2 ^ n → C.1 9 z = acZ nx n cnt (2 ^ n - 1) z) → lv_has ls 3 [(0, .ref (Ad 1))] → W p l e (k2_rm 1 60) s m args below meth c H locs 0 0 Q (F0 m 67 ls [])) : ∀ (f : Nat) (C : pw_C) (H : Heap) (locs : List Loc) (k : Nat) (ls : Array Slot), 2 ^ n - k < f → (pw_P D cy Ad (shX n) C H) → (va_S (pw_fr Ad (shX n)) s.heap H locs) → (pw_B (fun k => k = 8 ∨ k = 9) C0 C) → (k ≤ 2 ^ n - 1) → (C.1 8 = C0.1 8) → (∀ z, z < 2 ^ n → C.1 9 z = acZ nx n cnt k z) → lv_has ls 3 [(1, .int (nI (k + 1))), (0, .ref (Ad 1))] → W p l e (k2_rm 1 60) s m args below meth c H locs 0 0 Q (F0 m 10 ls []) := by
  have hx := S.1
  have hb := S.2.1
  have hml := S.2.2.1
  have hown := S.2.2.2.1
  have hts := S.2.2.2.2
  intro f
  induction f with
  | zero => intro C H locs k ls hf; exact absurd hf (Nat.not_lt_zero _)
  | succ f ih =>
    intro C H locs k ls hf hP hS hB hk0 h8 hv hl
    have hF := fX_B hF0 hB
    have hN := gN_B hN0 hB (fun u9 hu9 h9 => by have h8 : 21 + u9 = 8 ∨ 21 + u9 = 9 := h9; omega)
    have hpw := pow12 hn.2
    have hpp : 1 ≤ 2 ^ n := Nat.pow_pos (by decide)
    have hc : ∀ z, z < 2 ^ n → C.1 8 z = cnt z := fun z hz => by rw [h8]; exact hc0 z hz
    refine lv_iload_n hx hb dX0_lengthenRows_10 rfl (lv_at hl 0 rfl) ?_
    refine lv_aload_n hx hb dX0_lengthenRows_11 rfl (lv_at hl 1 rfl) ?_
    refine pw_cv S hK hP 1 0 rfl rfl 0 (c_X0_allStates l D cy Ad n mm C hn hF ) gX0_lengthenRows_X0_allStates rfl rfl rfl (by decide +kernel) ⟨Nat.le_of_ble_eq_true rfl, Nat.le_of_ble_eq_true rfl⟩ rfl hl.1 rfl (Nat.le_of_ble_eq_true rfl) dX0_lengthenRows_12 ⟨Nat.le_refl _, Nat.le_refl _⟩ ?_
    refine pn_icmp_gt (tgt := 67) hx hb (by omega) (by omega) dX0_lengthenRows_15 (by decide) (fun c_15 => ?_) (fun c_15 => ?_)
    · obtain rfl : k = 2 ^ n - 1 := by omega
      exact hk C H locs ls hP hS ⟨hB, h8, hv⟩ (lv_sub hl [1] rfl)
    · refine lv_aload_n hx hb dX0_lengthenRows_18 rfl (lv_at hl 1 rfl) ?_
      refine pw_get hx hb hts (fun _ h9 => List.mem_cons_of_mem _ (List.mem_append_right _ h9)) hown hK hP 1 rfl rfl 4 (by decide) hF.2.1 rfl (hts (.fieldLink RX0 27 "PastDraws$Chain" "rowsTo" "[I") (List.mem_of_getElem? (i := 2) rfl)) dX0_lengthenRows_19 ?_
      refine lv_iload_n hx hb dX0_lengthenRows_22 rfl (lv_at hl 0 rfl) ?_
      refine pw_iald hx hb hK hP 8 rfl (by first | exact sgn_lt _ _ | omega) (by first | decide | omega) (v := cnt (k + 1)) (hc (k + 1) (by omega)) dX0_lengthenRows_23 ?_
      refine lv_if_eq (tgt := 61) hx hb dX0_lengthenRows_24 (by decide) (fun c_24 => ?_) (fun c_24 => ?_)
      · have hv : ∀ z, z < 2 ^ n → C.1 9 z = acZ nx n cnt (k + 1) z := fun z hz => by
          rw [acZ, acU_0 c_24]; exact hv z hz
        refine lv_iinc (v := nI ((k + 1) + 1)) (lv' := [(1, .int (nI ((k + 1) + 1))), (0, .ref (Ad 1))]) hx hb dX0_lengthenRows_61 hl (k := 0) rfl (nI_add _ 1) (by decide) rfl (fun ls hl => ?_)
        refine lv_goto (tgt := 10) hx hb dX0_lengthenRows_64 (by decide) ?_
        exact ih C H locs (k + 1) ls (by omega) hP hS hB (by omega) h8 hv (lv_sub hl [0, 1] rfl)
      · refine lv_iconst (v := nI 0) hx hb dX0_lengthenRows_27 (by decide) ?_
        refine lv_istore_n (lv' := [(2, .int (nI 0)), (1, .int (nI (k + 1))), (0, .ref (Ad 1))]) hx hb dX0_lengthenRows_28 rfl hl (by decide) rfl (fun ls hl => ?_)
        refine L_lengthenRows_in S hK hI hF0 hn hN0 cnt hc0 k (by omega) (acZ nx n cnt k) (fun C H locs ls hP hS hR hl => ?_) 9 C H locs 0 ls (by omega) hP hS hB (by omega) h8 hv (lv_sub hl [0, 1, 2] rfl)
        obtain ⟨hB, h8, hv⟩ := hR
        refine lv_iinc (v := nI ((k + 1) + 1)) (lv' := [(1, .int (nI ((k + 1) + 1))), (0, .ref (Ad 1))]) hx hb dX0_lengthenRows_61 hl (k := 0) rfl (nI_add _ 1) (by decide) rfl (fun ls hl => ?_)
        refine lv_goto (tgt := 10) hx hb dX0_lengthenRows_64 (by decide) ?_
        exact ih C H locs (k + 1) ls (by omega) hP hS hB (by omega) h8 hv (lv_sub hl [0, 1] rfl)

set_option maxHeartbeats 4000000 in
set_option maxRecDepth 100000 in
theorem c_X0_lengthenRows (l : Launch) (D : va_G) (cy : Nat → ClassId) (Ad : Nat → Nat) (n mm : Nat) (C : pw_C) (hI : pw_I Ad (shX n)) (hn : 1 ≤ n ∧ n ≤ 12) (hF : fX n mm Ad C) (nx : Nat → Nat → Nat) (hN : gN n nx C) (cnt : Nat → Int32) (hc : ∀ z, z < 2 ^ n → C.1 8 z = cnt z) : Met l yX0_lengthenRows wsX0_lengthenRows (k2_rm 1 60) (pw_Pre ([.ref (Ad 1)]) D cy Ad (shX n) C) (pw_Post (fun r9 C' => r9 = none ∧ (pw_B (fun k => k = 8 ∨ k = 9) C C' ∧ ∀ z, z < 2 ^ n → C'.1 8 z = acZ nx n cnt (2 ^ n - 1) z)) D cy Ad (shX n)) 0 0 (pw_fr Ad (shX n)) := by
  refine Met.ofW (cc := cX0_lengthenRows) (maxL := 3) (ret := none) (by decide) rfl ?_
  intro p e s m args below meth c s₁ B hml hv
  obtain ⟨rfl, hP, hK⟩ := hv
  have hx := B.exec
  have hb := B.bytes
  have hr := B.returns
  have hts := atoms_spec (ws := wsX0_lengthenRows) B.pre
  have hown : s.vm.findClass RX0 = some m.cls := findClass_of_methodNamed B.named
  have hlocks := B.notSynchronized
  have S : CallFix p m c cX0_lengthenRows 3 s ([.ref (Ad 1)]).toArray wsX0_lengthenRows RX0 := ⟨hx, hb, hml, hown, hts⟩
  change W p l e (k2_rm 1 60) s m _ below meth c s.heap [] 0 0 _ _
  have hl := lv_entry ([.ref (Ad 1)]) (n := 3) (Nat.le_of_ble_eq_true rfl)
  rw [lg_entry_eq]
  generalize (lg_sl ([.ref (Ad 1)]) ++ List.replicate (3 - (lg_sl ([.ref (Ad 1)])).length) Slot.unset).toArray = ls at hl ⊢
  have hl : lv_has ls 3 [(0, .ref (Ad 1))] := hl
  have hS : va_S (pw_fr Ad (shX n)) s.heap s.heap [] := va_S.rf
  have hpw := pow12 hn.2
  have hpp : 1 ≤ 2 ^ n := Nat.pow_pos (by decide)
  refine lv_aload_n hx hb dX0_lengthenRows_0 rfl (lv_at hl 0 rfl) ?_
  refine pw_get hx hb hts (fun _ h9 => List.mem_cons_of_mem _ (List.mem_append_right _ h9)) hown hK hP 1 rfl rfl 5 (by decide) hF.2.1 rfl (hts (.fieldLink RX0 30 "PastDraws$Chain" "longerRowsTo" "[I") (List.mem_of_getElem? (i := 1) rfl)) dX0_lengthenRows_1 ?_
  refine lv_iconst (v := nI 0) hx hb dX0_lengthenRows_4 (by decide) ?_
  refine pw_csW S hK hP 2 (c_J7_fill_53178 l D cy Ad (shX n) C hI 9 (2 ^ n) 0 rfl (by omega) (nI 0)) gX0_lengthenRows_J7_fill_53178 rfl rfl rfl (by decide +kernel) ⟨Nat.le_of_ble_eq_true rfl, Nat.le_of_ble_eq_true rfl⟩ rfl hl.1 rfl (Nat.le_of_ble_eq_true rfl) dX0_lengthenRows_5 ⟨Nat.le_refl _, Nat.le_refl _⟩ hS (fun _ h9 => h9) (fun r9 C5 H locs hR hP _ _ hS => ?_)
  obtain ⟨rfl, hR⟩ := hR
  change W p l e _ s m _ below meth c H locs 0 0 _ (F0 m 8 ls [])
  have hB : pw_B (fun k => k = 8 ∨ k = 9) C C5 := hR.1.mono (fun k9 h9 => Or.inr h9)
  refine lv_iconst (v := nI 1) hx hb dX0_lengthenRows_8 (by decide) ?_
  refine lv_istore_n (lv' := [(1, .int (nI 1)), (0, .ref (Ad 1))]) hx hb dX0_lengthenRows_9 rfl hl (by decide) rfl (fun ls hl => ?_)
  have h8 : C5.1 8 = C.1 8 := (hR.1.1 8 (by decide)).1
  refine L_lengthenRows S hK hI hF hn hN cnt hc (fun C1 H locs ls hP hS hR hl => ?_) (2 ^ n + 1) C5 H locs 0 ls (by omega) hP hS hB (by omega) h8 (fun z hz => hR.2 z hz) (lv_sub hl [0, 1] rfl)
  obtain ⟨hB, h8, hv⟩ := hR
  have hF := fX_B hF hB
  refine lv_aload_n hx hb dX0_lengthenRows_67 rfl (lv_at hl 0 rfl) ?_
  refine pw_get hx hb hts (fun _ h9 => List.mem_cons_of_mem _ (List.mem_append_right _ h9)) hown hK hP 1 rfl rfl 5 (by decide) hF.2.1 rfl (hts (.fieldLink RX0 30 "PastDraws$Chain" "longerRowsTo" "[I") (List.mem_of_getElem? (i := 1) rfl)) dX0_lengthenRows_68 ?_
  refine lv_iconst (v := nI 0) hx hb dX0_lengthenRows_71 (by decide) ?_
  refine lv_aload_n hx hb dX0_lengthenRows_72 rfl (lv_at hl 0 rfl) ?_
  refine pw_get hx hb hts (fun _ h9 => List.mem_cons_of_mem _ (List.mem_append_right _ h9)) hown hK hP 1 rfl rfl 4 (by decide) hF.2.1 rfl (hts (.fieldLink RX0 27 "PastDraws$Chain" "rowsTo" "[I") (List.mem_of_getElem? (i := 2) rfl)) dX0_lengthenRows_73 ?_
  refine lv_iconst (v := nI 0) hx hb dX0_lengthenRows_76 (by decide) ?_
  refine lv_aload_n hx hb dX0_lengthenRows_77 rfl (lv_at hl 0 rfl) ?_
  refine pw_get hx hb hts (fun _ h9 => List.mem_cons_of_mem _ (List.mem_append_right _ h9)) hown hK hP 1 rfl rfl 4 (by decide) hF.2.1 rfl (hts (.fieldLink RX0 27 "PastDraws$Chain" "rowsTo" "[I") (List.mem_of_getElem? (i := 2) rfl)) dX0_lengthenRows_78 ?_
  refine pw_alen1 hx hb hK hP 8 rfl dX0_lengthenRows_81 ?_
  refine pw_copy hx hb (hml.trans hl.1.symm) hown (hts (.methodLink RX0 50 arraycopyName) (List.mem_of_getElem? (i := 3) rfl)) (hts (.native arraycopyName) (List.mem_of_getElem? (i := 4) rfl)) (hts (.static arraycopyName) (List.mem_of_getElem? (i := 5) rfl)) (hts (.initialized "java/lang/System") (List.mem_of_getElem? (i := 6) rfl)) hK hP hI hS 9 8 rfl rfl (Nat.le_refl _) (Nat.le_refl _) (by omega) (Nat.le_of_ble_eq_true rfl) (Nat.le_of_ble_eq_true rfl) dX0_lengthenRows_82 (fun H locs hP hS => ?_)
  obtain ⟨C82, hC82⟩ : ∃ z9, z9 = pw_setR C1 8 (fun j => if j < 2 ^ n then C1.1 9 j else C1.1 8 j) := ⟨_, rfl⟩
  rw [← hC82] at hP
  have hB := by have hB9 := hB; exact (show pw_B (fun k => k = 8 ∨ k = 9) C C82 by rw [hC82]; exact hB9.setR (by show 8 = 8 ∨ 8 = 9; first | trivial | omega))
  exact W.vret hx hb hr (fun t ht _ => ⟨⟨none, C82, rfl, ⟨rfl, hB, fun z hz => by rw [hC82, sr_at, if_pos hz]; exact hv z hz⟩, by rw [ht]; exact hP⟩, hS.F ht⟩) hS.2.2 dX0_lengthenRows_85

set_option maxHeartbeats 4000000 in
set_option maxRecDepth 100000 in
theorem L_rowsMeeting {p : Program} {l : Launch} {e : Env} {s : State} {m : MethodId} {args : Array Value} {below : List Frame} {meth : Method} {c : Code} {Q : State → Prop} (S : CallFix p m c cX0_rowsMeeting 5 s args wsX0_rowsMeeting RX0) {D : va_G} {cy : Nat → ClassId} {Ad : Nat → Nat} {n mm : Nat} {C0 : pw_C} (hK : pw_K D cy s) (hI : pw_I Ad (shX n)) (hF0 : fX n mm Ad C0) (hn : 1 ≤ n ∧ n ≤ 12) {nx : Nat → Nat → Nat} (hN0 : gN n nx C0) (len : Nat) (hle : len ≤ 5) (st : Int32) (hk : ∀ (C : pw_C) (H : Heap) (locs : List Loc) (ls : Array Slot), pw_P D cy Ad (shX n) C H → va_S (pw_fr Ad (shX n)) s.heap H locs → (pw_B (fun k => k = 8 ∨ k = 9) C0 C ∧ ∀ z, z < 2 ^ n → C.1 8 z = rws nx n len z) → lv_has ls 5 [(0, .ref (Ad 1)), (2, .int st)] → W p l e (k2_rm 2 82) s m args below meth c H locs 0 0 Q (F0 m 35 ls [])) : ∀ (f : Nat) (C : pw_C) (H : Heap) (locs : List Loc) (t : Nat) (ls : Array Slot), len - t < f → (pw_P D cy Ad (shX n) C H) → (va_S (pw_fr Ad (shX n)) s.heap H locs) → (pw_B (fun k => k = 8 ∨ k = 9) C0 C) → (t ≤ len) → (∀ z, z < 2 ^ n → C.1 8 z = rws nx n t z) → lv_has ls 5 [(3, .int (nI t)), (0, .ref (Ad 1)), (2, .int st), (1, .int (nI len))] → W p l e (k2_rm 2 82) s m args below meth c H locs 0 0 Q (F0 m 20 ls []) := by
  have hx := S.1
  have hb := S.2.1
  have hml := S.2.2.1
  have hown := S.2.2.2.1
  have hts := S.2.2.2.2
  intro f
  induction f with
  | zero => intro C H locs t ls hf; exact absurd hf (Nat.not_lt_zero _)
  | succ f ih =>
    intro C H locs t ls hf hP hS hB ht hv hl
    have hF := fX_B hF0 hB
    have hN := gN_B hN0 hB (fun u9 hu9 h9 => by have h8 : 21 + u9 = 8 ∨ 21 + u9 = 9 := h9; omega)
    refine lv_iload_n hx hb dX0_rowsMeeting_20 rfl (lv_at hl 0 rfl) ?_
    refine lv_iload_n hx hb dX0_rowsMeeting_21 rfl (lv_at hl 3 rfl) ?_
    refine pn_icmp_ge (tgt := 35) hx hb (by omega) (by omega) dX0_rowsMeeting_22 (by decide) (fun c_22 => ?_) (fun c_22 => ?_)
    · obtain rfl : t = len := by omega
      exact hk C H locs ls hP hS ⟨hB, hv⟩ (lv_sub hl [1, 2] rfl)
    · refine lv_aload_n hx hb dX0_rowsMeeting_25 rfl (lv_at hl 1 rfl) ?_
      refine pw_cvW S hK hP 1 0 rfl rfl 0 (c_X0_lengthenRows l D cy Ad n mm C hI hn hF nx hN (rws nx n t) hv) gX0_rowsMeeting_X0_lengthenRows rfl rfl rfl (by decide +kernel) ⟨Nat.le_of_ble_eq_true rfl, Nat.le_of_ble_eq_true rfl⟩ rfl hl.1 rfl (Nat.le_of_ble_eq_true rfl) dX0_rowsMeeting_26 ⟨Nat.le_refl _, Nat.le_refl _⟩ hS (fun _ h9 => h9) (fun r9 C26 H locs hR hP _ _ hS => ?_)
      obtain ⟨rfl, hR⟩ := hR
      change W p l e _ s m _ below meth c H locs 0 0 _ (F0 m 29 ls [])
      have hB := hB.tr hR.1
      have hF := fX_B hF0 hB
      have hN := gN_B hN0 hB (fun u9 hu9 h9 => by have h8 : 21 + u9 = 8 ∨ 21 + u9 = 9 := h9; omega)
      refine lv_iinc (v := nI (t + 1)) (lv' := [(3, .int (nI (t + 1))), (0, .ref (Ad 1)), (2, .int st), (1, .int (nI len))]) hx hb dX0_rowsMeeting_29 hl (k := 0) rfl (nI_add _ 1) (by decide) rfl (fun ls hl => ?_)
      refine lv_goto (tgt := 20) hx hb dX0_rowsMeeting_32 (by decide) ?_
      exact ih C26 H locs (t + 1) ls (by omega) hP hS hB (by omega) hR.2 (lv_sub hl [0, 1, 2, 3] rfl)

set_option maxHeartbeats 4000000 in
set_option maxRecDepth 100000 in
theorem L_rowsMeeting_b {p : Program} {l : Launch} {e : Env} {s : State} {m : MethodId} {args : Array Value} {below : List Frame} {meth : Method} {c : Code} {H : Heap} {locs : List Loc} {Q : State → Prop} (S : CallFix p m c cX0_rowsMeeting 5 s args wsX0_rowsMeeting RX0) {D : va_G} {cy : Nat → ClassId} {Ad : Nat → Nat} {n mm : Nat} {C : pw_C} (hK : pw_K D cy s) (hP : pw_P D cy Ad (shX n) C H) (hF : fX n mm Ad C) (hn : 1 ≤ n ∧ n ≤ 12) (cnt : Nat → Int32) (hc : ∀ z, z < 2 ^ n → C.1 8 z = cnt z) (hq : ∀ (pc9 : Nat) (ls : Array Slot), decode cX0_rowsMeeting pc9 = .ok (.ireturn, 1) → W p l e (k2_rm 2 82) s m args below meth c H locs 0 0 Q (F0 m pc9 ls [.int (apF cnt (2 ^ n - 1))])) : ∀ (f : Nat) (k : Nat) (ls : Array Slot), 2 ^ n - k < f → (k ≤ 2 ^ n - 1) → lv_has ls 5 [(4, .int (nI (k + 1))), (3, .int (apF cnt k)), (0, .ref (Ad 1))] → W p l e (k2_rm 2 82) s m args below meth c H locs 0 0 Q (F0 m 53 ls []) := by
  have hx := S.1
  have hb := S.2.1
  have hml := S.2.2.1
  have hown := S.2.2.2.1
  have hts := S.2.2.2.2
  intro f
  induction f with
  | zero => intro k ls hf; exact absurd hf (Nat.not_lt_zero _)
  | succ f ih =>
    intro k ls hf hk0 hl
    have hpw := pow12 hn.2
    have hpp : 1 ≤ 2 ^ n := Nat.pow_pos (by decide)
    refine lv_iload hx hb dX0_rowsMeeting_53 (lv_at hl 0 rfl) ?_
    refine lv_aload_n hx hb dX0_rowsMeeting_55 rfl (lv_at hl 2 rfl) ?_
    refine pw_cv S hK hP 1 0 rfl rfl 0 (c_X0_allStates l D cy Ad n mm C hn hF ) gX0_rowsMeeting_X0_allStates rfl rfl rfl (by decide +kernel) ⟨Nat.le_of_ble_eq_true rfl, Nat.le_of_ble_eq_true rfl⟩ rfl hl.1 rfl (Nat.le_of_ble_eq_true rfl) dX0_rowsMeeting_56 ⟨Nat.le_refl _, Nat.le_refl _⟩ ?_
    refine pn_icmp_gt (tgt := 86) hx hb (by omega) (by omega) dX0_rowsMeeting_59 (by decide) (fun c_59 => ?_) (fun c_59 => ?_)
    · have hke : k = 2 ^ n - 1 := by omega
      refine lv_iload_n hx hb dX0_rowsMeeting_86 rfl (lv_at hl 1 rfl) ?_
      refine pw_topi (y := apF cnt (2 ^ n - 1)) (by rw [hke]) ?_
      exact hq _ ls dX0_rowsMeeting_87
    · refine lv_iload hx hb dX0_rowsMeeting_62 (lv_at hl 0 rfl) ?_
      refine pw_cs S 1 (c_X0_isSingle l (k + 1) (by omega)) gX0_rowsMeeting_X0_isSingle rfl rfl rfl (by decide +kernel) ⟨Nat.le_of_ble_eq_true rfl, Nat.le_of_ble_eq_true rfl⟩ rfl hl.1 rfl (Nat.le_of_ble_eq_true rfl) dX0_rowsMeeting_64 ⟨Nat.le_refl _, Nat.le_refl _⟩ ?_
      refine pn_ifne_b (tgt := 80) hx hb dX0_rowsMeeting_67 (by decide) (fun c_67 => ?_) (fun c_67 => ?_)
      · have e9 : apF cnt (k + 1) = apF cnt k := by rw [apF, if_pos c_67]
        refine lv_iinc (v := nI ((k + 1) + 1)) (lv' := [(4, .int (nI ((k + 1) + 1))), (3, .int (apF cnt k)), (0, .ref (Ad 1))]) hx hb dX0_rowsMeeting_80 hl (k := 0) rfl (nI_add _ 1) (by decide) rfl (fun ls hl => ?_)
        refine lv_goto (tgt := 53) hx hb dX0_rowsMeeting_83 (by decide) ?_
        exact ih (k + 1) ls (by omega) (by omega) (by rw [e9]; exact (lv_sub hl [0, 1, 2] rfl))
      · have e9 : apF cnt (k + 1) = apF cnt k + cnt (k + 1) := by rw [apF, if_neg (by rw [c_67]; decide)]
        refine lv_iload_n hx hb dX0_rowsMeeting_70 rfl (lv_at hl 1 rfl) ?_
        refine lv_aload_n hx hb dX0_rowsMeeting_71 rfl (lv_at hl 2 rfl) ?_
        refine pw_get hx hb hts (fun _ h9 => List.mem_cons_of_mem _ (List.mem_append_right _ h9)) hown hK hP 1 rfl rfl 4 (by decide) hF.2.1 rfl (hts (.fieldLink RX0 27 "PastDraws$Chain" "rowsTo" "[I") (List.mem_of_getElem? (i := 1) rfl)) dX0_rowsMeeting_72 ?_
        refine lv_iload hx hb dX0_rowsMeeting_75 (lv_at hl 0 rfl) ?_
        refine pw_iald hx hb hK hP 8 rfl (by first | exact sgn_lt _ _ | omega) (by first | decide | omega) (v := cnt (k + 1)) (hc (k + 1) (by omega)) dX0_rowsMeeting_77 ?_
        refine lv_iadd hx hb dX0_rowsMeeting_78 ?_
        refine lv_topi (fun x3_79 ex3_79 => ?_)
        refine lv_istore_n (lv' := [(3, .int x3_79), (4, .int (nI (k + 1))), (0, .ref (Ad 1))]) hx hb dX0_rowsMeeting_79 rfl hl (by decide) rfl (fun ls hl => ?_)
        refine lv_iinc (v := nI ((k + 1) + 1)) (lv' := [(4, .int (nI ((k + 1) + 1))), (3, .int x3_79), (0, .ref (Ad 1))]) hx hb dX0_rowsMeeting_80 hl (k := 1) rfl (nI_add _ 1) (by decide) rfl (fun ls hl => ?_)
        refine lv_goto (tgt := 53) hx hb dX0_rowsMeeting_83 (by decide) ?_
        exact ih (k + 1) ls (by omega) (by omega) (by rw [e9, ← ex3_79]; exact (lv_sub hl [0, 1, 2] rfl))

set_option maxHeartbeats 4000000 in
set_option maxRecDepth 100000 in
theorem c_X0_rowsMeeting (l : Launch) (D : va_G) (cy : Nat → ClassId) (Ad : Nat → Nat) (n mm : Nat) (C : pw_C) (hI : pw_I Ad (shX n)) (hn : 1 ≤ n ∧ n ≤ 12) (hF : fX n mm Ad C) (nx : Nat → Nat → Nat) (hN : gN n nx C) (len : Nat) (hle : len ≤ 5) (x : Nat) (hx0 : x < n) : Met l yX0_rowsMeeting wsX0_rowsMeeting (k2_rm 2 82) (pw_Pre ([.ref (Ad 1), .int (nI len), .int (nI x)]) D cy Ad (shX n) C) (pw_Post (fun r9 C' => r9 = some (.int (rws nx n len (2 ^ x))) ∧ (pw_B (fun k => k = 8 ∨ k = 9) C C')) D cy Ad (shX n)) 0 0 (pw_fr Ad (shX n)) := by
  refine Met.ofW (cc := cX0_rowsMeeting) (maxL := 5) (ret := (some .int)) (by decide) rfl ?_
  intro p e s m args below meth c s₁ B hml hv
  obtain ⟨rfl, hP, hK⟩ := hv
  have hx := B.exec
  have hb := B.bytes
  have hr := B.returns
  have hts := atoms_spec (ws := wsX0_rowsMeeting) B.pre
  have hown : s.vm.findClass RX0 = some m.cls := findClass_of_methodNamed B.named
  have hlocks := B.notSynchronized
  have S : CallFix p m c cX0_rowsMeeting 5 s ([.ref (Ad 1), .int (nI len), .int (nI x)]).toArray wsX0_rowsMeeting RX0 := ⟨hx, hb, hml, hown, hts⟩
  change W p l e (k2_rm 2 82) s m _ below meth c s.heap [] 0 0 _ _
  have hl := lv_entry ([.ref (Ad 1), .int (nI len), .int (nI x)]) (n := 5) (Nat.le_of_ble_eq_true rfl)
  rw [lg_entry_eq]
  generalize (lg_sl ([.ref (Ad 1), .int (nI len), .int (nI x)]) ++ List.replicate (5 - (lg_sl ([.ref (Ad 1), .int (nI len), .int (nI x)])).length) Slot.unset).toArray = ls at hl ⊢
  have hl : lv_has ls 5 [(0, .ref (Ad 1)), (1, .int (nI len)), (2, .int (nI x))] := hl
  have hS : va_S (pw_fr Ad (shX n)) s.heap s.heap [] := va_S.rf
  have hpw := pow12 hn.2
  have hpp : 1 ≤ 2 ^ n := Nat.pow_pos (by decide)
  have hx2 : 2 ^ x < 2 ^ n := Nat.pow_lt_pow_right (by decide) hx0
  refine lv_aload_n hx hb dX0_rowsMeeting_0 rfl (lv_at hl 0 rfl) ?_
  refine pw_get hx hb hts (fun _ h9 => List.mem_cons_of_mem _ (List.mem_append_right _ h9)) hown hK hP 1 rfl rfl 4 (by decide) hF.2.1 rfl (hts (.fieldLink RX0 27 "PastDraws$Chain" "rowsTo" "[I") (List.mem_of_getElem? (i := 1) rfl)) dX0_rowsMeeting_1 ?_
  refine lv_iconst (v := nI 0) hx hb dX0_rowsMeeting_4 (by decide) ?_
  refine pw_csW S hK hP 2 (c_J7_fill_53178 l D cy Ad (shX n) C hI 8 (2 ^ n) 0 rfl (by omega) (nI 0)) gX0_rowsMeeting_J7_fill_53178 rfl rfl rfl (by decide +kernel) ⟨Nat.le_of_ble_eq_true rfl, Nat.le_of_ble_eq_true rfl⟩ rfl hl.1 rfl (Nat.le_of_ble_eq_true rfl) dX0_rowsMeeting_5 ⟨Nat.le_refl _, Nat.le_refl _⟩ hS (fun _ h9 => h9) (fun r9 C5 H locs hR hP _ _ hS => ?_)
  obtain ⟨rfl, hR⟩ := hR
  change W p l e _ s m _ below meth c H locs 0 0 _ (F0 m 8 ls [])
  have hB : pw_B (fun k => k = 8 ∨ k = 9) C C5 := hR.1.mono (fun k9 h9 => Or.inl h9)
  have hF0 := hF
  have hF := fX_B hF0 hB
  refine lv_aload_n hx hb dX0_rowsMeeting_8 rfl (lv_at hl 0 rfl) ?_
  refine pw_get hx hb hts (fun _ h9 => List.mem_cons_of_mem _ (List.mem_append_right _ h9)) hown hK hP 1 rfl rfl 4 (by decide) hF.2.1 rfl (hts (.fieldLink RX0 27 "PastDraws$Chain" "rowsTo" "[I") (List.mem_of_getElem? (i := 1) rfl)) dX0_rowsMeeting_9 ?_
  refine lv_aload_n hx hb dX0_rowsMeeting_12 rfl (lv_at hl 0 rfl) ?_
  refine pw_cv S hK hP 1 0 rfl rfl 0 (c_X0_allStates l D cy Ad n mm C5 hn hF ) gX0_rowsMeeting_X0_allStates rfl rfl rfl (by decide +kernel) ⟨Nat.le_of_ble_eq_true rfl, Nat.le_of_ble_eq_true rfl⟩ rfl hl.1 rfl (Nat.le_of_ble_eq_true rfl) dX0_rowsMeeting_13 ⟨Nat.le_refl _, Nat.le_refl _⟩ ?_
  refine lv_iconst (v := nI 1) hx hb dX0_rowsMeeting_16 (by decide) ?_
  refine pw_iast hx hb hK hP hI hS 8 rfl (by omega) (by first | decide | omega) dX0_rowsMeeting_17 (fun H locs hP hS => ?_)
  obtain ⟨C17, hC17⟩ : ∃ z9, z9 = pw_setI C5 8 (2 ^ n - 1) (nI 1) := ⟨_, rfl⟩
  rw [← hC17] at hP
  have hB := by have hB9 := hB; exact (show pw_B (fun k => k = 8 ∨ k = 9) C C17 by rw [hC17]; exact hB9.setI (by show 8 = 8 ∨ 8 = 9; first | trivial | omega))
  refine lv_iconst (v := nI 0) hx hb dX0_rowsMeeting_18 (by decide) ?_
  refine lv_istore_n (lv' := [(3, .int (nI 0)), (0, .ref (Ad 1)), (1, .int (nI len)), (2, .int (nI x))]) hx hb dX0_rowsMeeting_19 rfl hl (by decide) rfl (fun ls hl => ?_)
  refine L_rowsMeeting S hK hI hF0 hn hN len hle (nI x) (fun C1 H locs ls hP hS hR hl => ?_) 6 C17 H locs 0 ls (by omega) hP hS hB (by omega) (fun z hz => by
    rw [hC17, si_at]
    show _ = if z = 2 ^ n - 1 then _ else _
    by_cases q : z = 2 ^ n - 1
    · rw [if_pos q, if_pos q]; rfl
    · rw [if_neg q, if_neg q]; exact hR.2 z hz) (lv_sub hl [0, 1, 3, 2] rfl)
  obtain ⟨hB, hv⟩ := hR
  have hF := fX_B hF0 hB
  refine lv_iload_n hx hb dX0_rowsMeeting_35 rfl (lv_at hl 1 rfl) ?_
  refine lv_if_lt (tgt := 48) hx hb dX0_rowsMeeting_36 (by decide) (fun h9 => absurd h9 (nI_pos (by omega))) (fun _ => ?_)
  refine lv_aload_n hx hb dX0_rowsMeeting_39 rfl (lv_at hl 0 rfl) ?_
  refine pw_get hx hb hts (fun _ h9 => List.mem_cons_of_mem _ (List.mem_append_right _ h9)) hown hK hP 1 rfl rfl 4 (by decide) hF.2.1 rfl (hts (.fieldLink RX0 27 "PastDraws$Chain" "rowsTo" "[I") (List.mem_of_getElem? (i := 1) rfl)) dX0_rowsMeeting_40 ?_
  refine lv_iconst (v := nI 1) hx hb dX0_rowsMeeting_43 (by decide) ?_
  refine lv_iload_n hx hb dX0_rowsMeeting_44 rfl (lv_at hl 1 rfl) ?_
  refine lv_ishl hx hb dX0_rowsMeeting_45 ?_
  refine pw_topi (y := nI (2 ^ x)) (ps_shl1 (by omega)) ?_
  refine pw_iald hx hb hK hP 8 rfl hx2 (by first | decide | omega) (v := rws nx n len (2 ^ x)) (hv _ hx2) dX0_rowsMeeting_46 ?_
  exact W.iret hx hb hr (fun t ht _ => ⟨⟨(some (.int (rws nx n len (2 ^ x)))), C1, rfl, ⟨rfl, hB⟩, by rw [ht]; exact hP⟩, hS.F ht⟩) hS.2.2 dX0_rowsMeeting_47

set_option maxHeartbeats 4000000 in
set_option maxRecDepth 100000 in
theorem c_X0_rowsMeeting_m (l : Launch) (D : va_G) (cy : Nat → ClassId) (Ad : Nat → Nat) (n mm : Nat) (C : pw_C) (hI : pw_I Ad (shX n)) (hn : 1 ≤ n ∧ n ≤ 12) (hF : fX n mm Ad C) (nx : Nat → Nat → Nat) (hN : gN n nx C) (len : Nat) (hle : len ≤ 5) : Met l yX0_rowsMeeting wsX0_rowsMeeting (k2_rm 2 82) (pw_Pre ([.ref (Ad 1), .int (nI len), .int (-1)]) D cy Ad (shX n) C) (pw_Post (fun r9 C' => r9 = some (.int (apF (rws nx n len) (2 ^ n - 1))) ∧ (pw_B (fun k => k = 8 ∨ k = 9) C C')) D cy Ad (shX n)) 0 0 (pw_fr Ad (shX n)) := by
  refine Met.ofW (cc := cX0_rowsMeeting) (maxL := 5) (ret := (some .int)) (by decide) rfl ?_
  intro p e s m args below meth c s₁ B hml hv
  obtain ⟨rfl, hP, hK⟩ := hv
  have hx := B.exec
  have hb := B.bytes
  have hr := B.returns
  have hts := atoms_spec (ws := wsX0_rowsMeeting) B.pre
  have hown : s.vm.findClass RX0 = some m.cls := findClass_of_methodNamed B.named
  have hlocks := B.notSynchronized
  have S : CallFix p m c cX0_rowsMeeting 5 s ([.ref (Ad 1), .int (nI len), .int (-1)]).toArray wsX0_rowsMeeting RX0 := ⟨hx, hb, hml, hown, hts⟩
  change W p l e (k2_rm 2 82) s m _ below meth c s.heap [] 0 0 _ _
  have hl := lv_entry ([.ref (Ad 1), .int (nI len), .int (-1)]) (n := 5) (Nat.le_of_ble_eq_true rfl)
  rw [lg_entry_eq]
  generalize (lg_sl ([.ref (Ad 1), .int (nI len), .int (-1)]) ++ List.replicate (5 - (lg_sl ([.ref (Ad 1), .int (nI len), .int (-1)])).length) Slot.unset).toArray = ls at hl ⊢
  have hl : lv_has ls 5 [(0, .ref (Ad 1)), (1, .int (nI len)), (2, .int (-1))] := hl
  have hS : va_S (pw_fr Ad (shX n)) s.heap s.heap [] := va_S.rf
  have hpw := pow12 hn.2
  have hpp : 1 ≤ 2 ^ n := Nat.pow_pos (by decide)
  refine lv_aload_n hx hb dX0_rowsMeeting_0 rfl (lv_at hl 0 rfl) ?_
  refine pw_get hx hb hts (fun _ h9 => List.mem_cons_of_mem _ (List.mem_append_right _ h9)) hown hK hP 1 rfl rfl 4 (by decide) hF.2.1 rfl (hts (.fieldLink RX0 27 "PastDraws$Chain" "rowsTo" "[I") (List.mem_of_getElem? (i := 1) rfl)) dX0_rowsMeeting_1 ?_
  refine lv_iconst (v := nI 0) hx hb dX0_rowsMeeting_4 (by decide) ?_
  refine pw_csW S hK hP 2 (c_J7_fill_53178 l D cy Ad (shX n) C hI 8 (2 ^ n) 0 rfl (by omega) (nI 0)) gX0_rowsMeeting_J7_fill_53178 rfl rfl rfl (by decide +kernel) ⟨Nat.le_of_ble_eq_true rfl, Nat.le_of_ble_eq_true rfl⟩ rfl hl.1 rfl (Nat.le_of_ble_eq_true rfl) dX0_rowsMeeting_5 ⟨Nat.le_refl _, Nat.le_refl _⟩ hS (fun _ h9 => h9) (fun r9 C5 H locs hR hP _ _ hS => ?_)
  obtain ⟨rfl, hR⟩ := hR
  change W p l e _ s m _ below meth c H locs 0 0 _ (F0 m 8 ls [])
  have hB : pw_B (fun k => k = 8 ∨ k = 9) C C5 := hR.1.mono (fun k9 h9 => Or.inl h9)
  have hF0 := hF
  have hF := fX_B hF0 hB
  refine lv_aload_n hx hb dX0_rowsMeeting_8 rfl (lv_at hl 0 rfl) ?_
  refine pw_get hx hb hts (fun _ h9 => List.mem_cons_of_mem _ (List.mem_append_right _ h9)) hown hK hP 1 rfl rfl 4 (by decide) hF.2.1 rfl (hts (.fieldLink RX0 27 "PastDraws$Chain" "rowsTo" "[I") (List.mem_of_getElem? (i := 1) rfl)) dX0_rowsMeeting_9 ?_
  refine lv_aload_n hx hb dX0_rowsMeeting_12 rfl (lv_at hl 0 rfl) ?_
  refine pw_cv S hK hP 1 0 rfl rfl 0 (c_X0_allStates l D cy Ad n mm C5 hn hF ) gX0_rowsMeeting_X0_allStates rfl rfl rfl (by decide +kernel) ⟨Nat.le_of_ble_eq_true rfl, Nat.le_of_ble_eq_true rfl⟩ rfl hl.1 rfl (Nat.le_of_ble_eq_true rfl) dX0_rowsMeeting_13 ⟨Nat.le_refl _, Nat.le_refl _⟩ ?_
  refine lv_iconst (v := nI 1) hx hb dX0_rowsMeeting_16 (by decide) ?_
  refine pw_iast hx hb hK hP hI hS 8 rfl (by omega) (by first | decide | omega) dX0_rowsMeeting_17 (fun H locs hP hS => ?_)
  obtain ⟨C17, hC17⟩ : ∃ z9, z9 = pw_setI C5 8 (2 ^ n - 1) (nI 1) := ⟨_, rfl⟩
  rw [← hC17] at hP
  have hB := by have hB9 := hB; exact (show pw_B (fun k => k = 8 ∨ k = 9) C C17 by rw [hC17]; exact hB9.setI (by show 8 = 8 ∨ 8 = 9; first | trivial | omega))
  refine lv_iconst (v := nI 0) hx hb dX0_rowsMeeting_18 (by decide) ?_
  refine lv_istore_n (lv' := [(3, .int (nI 0)), (0, .ref (Ad 1)), (1, .int (nI len)), (2, .int (-1))]) hx hb dX0_rowsMeeting_19 rfl hl (by decide) rfl (fun ls hl => ?_)
  refine L_rowsMeeting S hK hI hF0 hn hN len hle (-1) (fun C1 H locs ls hP hS hR hl => ?_) 6 C17 H locs 0 ls (by omega) hP hS hB (by omega) (fun z hz => by
    rw [hC17, si_at]
    show _ = if z = 2 ^ n - 1 then _ else _
    by_cases q : z = 2 ^ n - 1
    · rw [if_pos q, if_pos q]; rfl
    · rw [if_neg q, if_neg q]; exact hR.2 z hz) (lv_sub hl [0, 1, 3, 2] rfl)
  obtain ⟨hB, hv⟩ := hR
  have hF := fX_B hF0 hB
  refine lv_iload_n hx hb dX0_rowsMeeting_35 rfl (lv_at hl 1 rfl) ?_
  refine lv_if_lt (tgt := 48) hx hb dX0_rowsMeeting_36 (by decide) (fun c_36 => ?_) (fun c_36 => absurd (by decide) c_36)
  refine lv_iconst (v := nI 0) hx hb dX0_rowsMeeting_48 (by decide) ?_
  refine lv_istore_n (lv' := [(3, .int (nI 0)), (0, .ref (Ad 1)), (2, .int (-1))]) hx hb dX0_rowsMeeting_49 rfl hl (by decide) rfl (fun ls hl => ?_)
  refine lv_iconst (v := nI 1) hx hb dX0_rowsMeeting_50 (by decide) ?_
  refine lv_istore (lv' := [(4, .int (nI 1)), (3, .int (nI 0)), (0, .ref (Ad 1)), (2, .int (-1))]) hx hb dX0_rowsMeeting_51 hl (by decide) rfl (fun ls hl => ?_)
  exact L_rowsMeeting_b S hK hP hF hn (rws nx n len) hv (fun pc9 ls hd9 => W.iret hx hb hr (fun t ht _ => ⟨⟨_, C1, rfl, ⟨rfl, hB⟩, by rw [ht]; exact hP⟩, hS.F ht⟩) hS.2.2 hd9) (2 ^ n + 1) 0 ls (by omega) (by omega) (lv_sub hl [0, 1, 2] rfl)
