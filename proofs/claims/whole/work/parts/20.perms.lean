/-- z - 1 as an int -/
def pm (z : Nat) : Int32 := nI z - nI 1
theorem pm_pos {z : Nat} (h : 1 ≤ z) : pm z = nI (z - 1) := pk_sub h
theorem pm_dec {z : Nat} (h : 1 ≤ z) : nI (z - 1) + Int32.ofInt (-1) = pm (z - 1) := by
  show nI (z - 1) + (-1) = nI (z - 1) - nI 1
  rw [show (nI 1 : Int32) = 1 from rfl, Int32.sub_eq_add_neg]

set_option maxHeartbeats 4000000 in
set_option maxRecDepth 100000 in
theorem L_ordersAll {p : Program} {l : Launch} {e : Env} {s : State} {m : MethodId} {args : Array Value} {below : List Frame} {meth : Method} {c : Code} {Q : State → Prop} (S : CallFix p m c cX2_countAll 4 s args wsX2_countAll RX2) {D : va_G} {cy : Nat → ClassId} {Ad : Nat → Nat} {n mm : Nat} {C0 : pw_C} (hK : pw_K D cy s) (hI : pw_I Ad (shX n)) (hF0 : fX n mm Ad C0) (hn : 1 ≤ n ∧ n ≤ 12) {am : Nat → Nat} (hA0 : gA am C0) (m9 : Nat) (hm : 1 ≤ m9 ∧ m9 ≤ 8) (hk : ∀ (C : pw_C) (H : Heap) (locs : List Loc) (ls : Array Slot), pw_P D cy Ad (shX n) C H → va_S (pw_fr Ad (shX n)) s.heap H locs → (pw_B (fun k => k = 15) C0 C ∧ ∀ Z, Z < 2 ^ m9 → C.1 15 Z = wyF am m9 Z) → lv_has ls 4 [(0, .ref (Ad 3))] → W p l e (k2_rm 3 68) s m args below meth c H locs 0 0 Q (F0 m 40 ls [])) : ∀ (f : Nat) (C : pw_C) (H : Heap) (locs : List Loc) (z : Nat) (ls : Array Slot), z < f → (pw_P D cy Ad (shX n) C H) → (va_S (pw_fr Ad (shX n)) s.heap H locs) → (pw_B (fun k => k = 15) C0 C) → (z ≤ 2 ^ m9 - 1) → (∀ Z, z ≤ Z → Z < 2 ^ m9 → C.1 15 Z = wyD am m9 (2 ^ m9 - 1 - z) Z) → lv_has ls 4 [(3, .int (pm z)), (0, .ref (Ad 3)), (1, .int (nI m9))] → W p l e (k2_rm 3 68) s m args below meth c H locs 0 0 Q (F0 m 17 ls []) := by
  have hx := S.1
  have hb := S.2.1
  have hml := S.2.2.1
  have hown := S.2.2.2.1
  have hts := S.2.2.2.2
  intro f
  induction f with
  | zero => intro C H locs z ls hf; exact absurd hf (Nat.not_lt_zero _)
  | succ f ih =>
    intro C H locs z ls hf hP hS hB hz hv9 hl
    have hF := fX_B hF0 hB
    have hA := gA_B hA0 hB (fun h9 => by have h8 : (14 : Nat) = 15 := h9; omega)
    have hpw := pow8 hm.2
    have hpp : 1 ≤ 2 ^ m9 := Nat.pow_pos (by decide)
    refine lv_iload_n hx hb dX2_countAll_17 rfl (lv_at hl 0 rfl) ?_
    refine lv_if_lt (tgt := 40) hx hb dX2_countAll_18 (by decide) (fun c_18 => ?_) (fun c_18 => ?_)
    · have hz0 : z = 0 := by
        rcases Nat.eq_zero_or_pos z with q | q
        · exact q
        · rw [pm_pos q] at c_18; exact absurd c_18 (nI_pos (by omega))
      subst hz0
      exact hk C H locs ls hP hS ⟨hB, fun Z hZ => hv9 Z (by omega) hZ⟩ (lv_sub hl [1] rfl)
    · have hz0 : 1 ≤ z := by
        rcases Nat.eq_zero_or_pos z with q | q
        · subst q; exact absurd (by decide) c_18
        · exact q
      rw [pm_pos hz0] at hl
      refine lv_aload_n hx hb dX2_countAll_21 rfl (lv_at hl 1 rfl) ?_
      refine pw_get hx hb hts (fun _ h9 => List.mem_cons_of_mem _ (List.mem_append_right _ h9)) hown hK hP 3 rfl rfl 1 (by decide) hF.2.2.2.1 rfl (hts (.fieldLink RX2 15 "PastDraws$Orders" "ways" "[I") (List.mem_of_getElem? (i := 1) rfl)) dX2_countAll_22 ?_
      refine lv_iload_n hx hb dX2_countAll_25 rfl (lv_at hl 0 rfl) ?_
      refine lv_aload_n hx hb dX2_countAll_26 rfl (lv_at hl 1 rfl) ?_
      refine lv_iload_n hx hb dX2_countAll_27 rfl (lv_at hl 2 rfl) ?_
      refine lv_iload_n hx hb dX2_countAll_28 rfl (lv_at hl 0 rfl) ?_
      refine lv_iload_n hx hb dX2_countAll_29 rfl (lv_at hl 2 rfl) ?_
      refine pw_cv S hK hP 3 2 rfl rfl 3 (c_X2_waysBefore l D cy Ad n mm C hn hF am hA (wyD am m9 (2 ^ m9 - 1 - z)) m9 (z - 1) m9 hm.2 (by omega) (pcn_lt _ (by omega)) hm.2 (fun v hv hf => hv9 _ (by have := or_gt (z - 1) (by omega) v (by omega) (by have h7 := hf; unfold fre at h7; rw [Bool.and_eq_true] at h7; simpa using h7.2); omega) (or_ltm (by omega) hv))) gX2_countAll_X2_waysBefore rfl rfl rfl (by decide +kernel) ⟨Nat.le_of_ble_eq_true rfl, Nat.le_of_ble_eq_true rfl⟩ rfl hl.1 rfl (Nat.le_of_ble_eq_true rfl) dX2_countAll_30 ⟨Nat.le_refl _, Nat.le_refl _⟩ ?_
      refine pw_topi (y := wbS am (wyD am m9 (2 ^ m9 - 1 - z)) (z - 1) m9) (by rw [Nat.min_self]) ?_
      refine pw_iast hx hb hK hP hI hS 15 rfl (by first | exact sgn_lt _ _ | omega) (by first | decide | omega) dX2_countAll_33 (fun H locs hP hS => ?_)
      obtain ⟨C33, hC33⟩ : ∃ z9, z9 = pw_setI C 15 (z - 1) (wbS am (wyD am m9 (2 ^ m9 - 1 - z)) (z - 1) m9) := ⟨_, rfl⟩
      rw [← hC33] at hP
      have hB := by have hB9 := hB; exact (show pw_B (fun k => k = 15) C0 C33 by rw [hC33]; exact hB9.setI (by show 15 = 15; first | trivial | omega))
      have hF := fX_B hF0 hB
      have hA := gA_B hA0 hB (fun h9 => by have h8 : (14 : Nat) = 15 := h9; omega)
      refine lv_iinc (v := pm (z - 1)) (lv' := [(3, .int (pm (z - 1))), (0, .ref (Ad 3)), (1, .int (nI m9))]) hx hb dX2_countAll_34 hl (k := 0) rfl (pm_dec hz0) (by decide) rfl (fun ls hl => ?_)
      refine lv_goto (tgt := 17) hx hb dX2_countAll_37 (by decide) ?_
      exact ih C33 H locs (z - 1) ls (by omega) hP hS hB (by omega) (fun Z hZ hZ2 => by
        have ek : 2 ^ m9 - 1 - (z - 1) = 2 ^ m9 - 1 - z + 1 := by omega
        rw [hC33, si_at, ek]
        show _ = if Z = 2 ^ m9 - 1 - (2 ^ m9 - 1 - z + 1) then _ else _
        by_cases q : Z = z - 1
        · rw [if_pos q, if_pos (by omega), q]
        · rw [if_neg q, if_neg (by omega)]; exact hv9 Z (by omega) hZ2) (lv_sub hl [0, 1, 2] rfl)

set_option maxHeartbeats 4000000 in
set_option maxRecDepth 100000 in
theorem c_X2_countAll (l : Launch) (D : va_G) (cy : Nat → ClassId) (Ad : Nat → Nat) (n mm : Nat) (C : pw_C) (hI : pw_I Ad (shX n)) (hn : 1 ≤ n ∧ n ≤ 12) (hF : fX n mm Ad C) (am : Nat → Nat) (hA : gA am C) (m9 : Nat) (hm : 1 ≤ m9 ∧ m9 ≤ 8) : Met l yX2_countAll wsX2_countAll (k2_rm 3 68) (pw_Pre ([.ref (Ad 3), .int (nI m9)]) D cy Ad (shX n) C) (pw_Post (fun r9 C' => r9 = some (.int (wyF am m9 0)) ∧ (pw_B (fun k => k = 15) C C' ∧ ∀ Z, Z < 2 ^ m9 → C'.1 15 Z = wyF am m9 Z)) D cy Ad (shX n)) 0 0 (pw_fr Ad (shX n)) := by
  refine Met.ofW (cc := cX2_countAll) (maxL := 4) (ret := (some .int)) (by decide) rfl ?_
  intro p e s m args below meth c s₁ B hml hv
  obtain ⟨rfl, hP, hK⟩ := hv
  have hx := B.exec
  have hb := B.bytes
  have hr := B.returns
  have hts := atoms_spec (ws := wsX2_countAll) B.pre
  have hown : s.vm.findClass RX2 = some m.cls := findClass_of_methodNamed B.named
  have hlocks := B.notSynchronized
  have S : CallFix p m c cX2_countAll 4 s ([.ref (Ad 3), .int (nI m9)]).toArray wsX2_countAll RX2 := ⟨hx, hb, hml, hown, hts⟩
  change W p l e (k2_rm 3 68) s m _ below meth c s.heap [] 0 0 _ _
  have hl := lv_entry ([.ref (Ad 3), .int (nI m9)]) (n := 4) (Nat.le_of_ble_eq_true rfl)
  rw [lg_entry_eq]
  generalize (lg_sl ([.ref (Ad 3), .int (nI m9)]) ++ List.replicate (4 - (lg_sl ([.ref (Ad 3), .int (nI m9)])).length) Slot.unset).toArray = ls at hl ⊢
  have hl : lv_has ls 4 [(0, .ref (Ad 3)), (1, .int (nI m9))] := hl
  have hS : va_S (pw_fr Ad (shX n)) s.heap s.heap [] := va_S.rf
  have hB : pw_B (fun k => k = 15) C C := pw_B.rf
  have hpw := pow8 hm.2
  have hpp : 1 ≤ 2 ^ m9 := Nat.pow_pos (by decide)
  refine lv_iconst (v := nI 1) hx hb dX2_countAll_0 (by decide) ?_
  refine lv_iload_n hx hb dX2_countAll_1 rfl (lv_at hl 1 rfl) ?_
  refine lv_ishl hx hb dX2_countAll_2 ?_
  refine pw_topi (y := nI (2 ^ m9)) (ps_shl1 (by omega)) ?_
  refine lv_iconst (v := nI 1) hx hb dX2_countAll_3 (by decide) ?_
  refine lv_isub hx hb dX2_countAll_4 ?_
  refine pw_topi (y := nI (2 ^ m9 - 1)) (pk_sub hpp) ?_
  refine lv_istore_n (lv' := [(2, .int (nI (2 ^ m9 - 1))), (0, .ref (Ad 3)), (1, .int (nI m9))]) hx hb dX2_countAll_5 rfl hl (by decide) rfl (fun ls hl => ?_)
  refine lv_aload_n hx hb dX2_countAll_6 rfl (lv_at hl 1 rfl) ?_
  refine pw_get hx hb hts (fun _ h9 => List.mem_cons_of_mem _ (List.mem_append_right _ h9)) hown hK hP 3 rfl rfl 1 (by decide) hF.2.2.2.1 rfl (hts (.fieldLink RX2 15 "PastDraws$Orders" "ways" "[I") (List.mem_of_getElem? (i := 1) rfl)) dX2_countAll_7 ?_
  refine lv_iload_n hx hb dX2_countAll_10 rfl (lv_at hl 0 rfl) ?_
  refine lv_iconst (v := nI 1) hx hb dX2_countAll_11 (by decide) ?_
  refine pw_iast hx hb hK hP hI hS 15 rfl (by omega) (by first | decide | omega) dX2_countAll_12 (fun H locs hP hS => ?_)
  obtain ⟨C12, hC12⟩ : ∃ z9, z9 = pw_setI C 15 (2 ^ m9 - 1) (nI 1) := ⟨_, rfl⟩
  rw [← hC12] at hP
  have hB := by have hB9 := hB; exact (show pw_B (fun k => k = 15) C C12 by rw [hC12]; exact hB9.setI (by show 15 = 15; first | trivial | omega))
  refine lv_iload_n hx hb dX2_countAll_13 rfl (lv_at hl 0 rfl) ?_
  refine lv_iconst (v := nI 1) hx hb dX2_countAll_14 (by decide) ?_
  refine lv_isub hx hb dX2_countAll_15 ?_
  refine pw_topi (y := pm (2 ^ m9 - 1)) rfl ?_
  refine lv_istore_n (lv' := [(3, .int (pm (2 ^ m9 - 1))), (2, .int (nI (2 ^ m9 - 1))), (0, .ref (Ad 3)), (1, .int (nI m9))]) hx hb dX2_countAll_16 rfl hl (by decide) rfl (fun ls hl => ?_)
  refine L_ordersAll S hK hI hF hn hA m9 hm (fun C1 H locs ls hP hS hR hl => ?_) (2 ^ m9) C12 H locs (2 ^ m9 - 1) ls (by omega) hP hS hB (by omega) (fun Z hZ hZ2 => by
    obtain rfl : Z = 2 ^ m9 - 1 := by omega
    have e0 : 2 ^ m9 - 1 - (2 ^ m9 - 1) = 0 := by omega
    rw [hC12, si_at, if_pos rfl, e0]
    show _ = if 2 ^ m9 - 1 = 2 ^ m9 - 1 then _ else _
    rw [if_pos rfl]; rfl) (lv_sub hl [0, 2, 3] rfl)
  have hF := fX_B hF hR.1
  refine lv_aload_n hx hb dX2_countAll_40 rfl (lv_at hl 0 rfl) ?_
  refine pw_get hx hb hts (fun _ h9 => List.mem_cons_of_mem _ (List.mem_append_right _ h9)) hown hK hP 3 rfl rfl 1 (by decide) hF.2.2.2.1 rfl (hts (.fieldLink RX2 15 "PastDraws$Orders" "ways" "[I") (List.mem_of_getElem? (i := 1) rfl)) dX2_countAll_41 ?_
  refine lv_iconst (v := nI 0) hx hb dX2_countAll_44 (by decide) ?_
  refine pw_iald hx hb hK hP 15 rfl (by first | exact sgn_lt _ _ | omega) (by first | decide | omega) (v := wyF am m9 0) (hR.2 0 hpp) dX2_countAll_45 ?_
  exact W.iret hx hb hr (fun t ht _ => ⟨⟨(some (.int (wyF am m9 0))), C1, rfl, ⟨rfl, hR⟩, by rw [ht]; exact hP⟩, hS.F ht⟩) hS.2.2 dX2_countAll_46

set_option maxHeartbeats 4000000 in
set_option maxRecDepth 100000 in
theorem L_nextNumber {p : Program} {l : Launch} {e : Env} {s : State} {m : MethodId} {args : Array Value} {below : List Frame} {meth : Method} {c : Code} {H : Heap} {locs : List Loc} {Q : State → Prop} (S : CallFix p m c cX2_nextNumber 5 s args wsX2_nextNumber RX2) {D : va_G} {cy : Nat → ClassId} {Ad : Nat → Nat} {n mm : Nat} {C : pw_C} (hK : pw_K D cy s) (hP : pw_P D cy Ad (shX n) C H) (hF : fX n mm Ad C) (hn : 1 ≤ n ∧ n ≤ 12) {am : Nat → Nat} (hA : gA am C) (m9 : Nat) (hm : 1 ≤ m9 ∧ m9 ≤ 8) (hw : ∀ Z, Z < 2 ^ m9 → C.1 15 Z = wyF am m9 Z) (Z : Nat) (left : Int32) (hZ : Z < 2 ^ m9) (hp : pcn Z < 8) (r : Nat) (hq : ∀ (pc9 : Nat) (ls : Array Slot), decode cX2_nextNumber pc9 = .ok (.ireturn, 1) → W p l e (k2_rm 3 68) s m args below meth c H locs 0 0 Q (F0 m pc9 ls [.int (nI r)])) : ∀ (f : Nat) (v : Nat) (ls : Array Slot), m9 - 1 - v < f → (v ≤ m9 - 1) → (nnF (wbS am (wyF am m9) Z) left (m9 - 1 - v) v = r) → lv_has ls 5 [(4, .int (nI v)), (0, .ref (Ad 3)), (1, .int (nI m9)), (2, .int (nI Z)), (3, .int left)] → W p l e (k2_rm 3 68) s m args below meth c H locs 0 0 Q (F0 m 3 ls []) := by
  have hx := S.1
  have hb := S.2.1
  have hml := S.2.2.1
  have hown := S.2.2.2.1
  have hts := S.2.2.2.2
  intro f
  induction f with
  | zero => intro v ls hf; exact absurd hf (Nat.not_lt_zero _)
  | succ f ih =>
    intro v ls hf hv hr0 hl
    have hpw := pow8 hm.2
    refine lv_iload hx hb dX2_nextNumber_3 (lv_at hl 0 rfl) ?_
    refine lv_iload_n hx hb dX2_nextNumber_5 rfl (lv_at hl 2 rfl) ?_
    refine lv_iconst (v := nI 1) hx hb dX2_nextNumber_6 (by decide) ?_
    refine lv_isub hx hb dX2_nextNumber_7 ?_
    refine pw_topi (pk_sub (by omega)) ?_
    refine pn_icmp_ge (tgt := 31) hx hb (by omega) (by omega) dX2_nextNumber_8 (by decide) (fun c_8 => ?_) (fun c_8 => ?_)
    · have hz : m9 - 1 - v = 0 := by omega
      rw [hz, nnF] at hr0
      refine lv_iload hx hb dX2_nextNumber_31 (lv_at hl 0 rfl) ?_
      refine pw_topi (y := nI r) (by rw [← hr0]) ?_
      exact hq _ ls dX2_nextNumber_33
    · obtain ⟨z, hz⟩ : ∃ z, m9 - 1 - v = z + 1 := ⟨m9 - 2 - v, by omega⟩
      rw [hz, nnF] at hr0
      refine lv_iload_n hx hb dX2_nextNumber_11 rfl (lv_at hl 4 rfl) ?_
      refine lv_aload_n hx hb dX2_nextNumber_12 rfl (lv_at hl 1 rfl) ?_
      refine lv_iload_n hx hb dX2_nextNumber_13 rfl (lv_at hl 2 rfl) ?_
      refine lv_iload_n hx hb dX2_nextNumber_14 rfl (lv_at hl 3 rfl) ?_
      refine lv_iload hx hb dX2_nextNumber_15 (lv_at hl 0 rfl) ?_
      refine lv_iconst (v := nI 1) hx hb dX2_nextNumber_17 (by decide) ?_
      refine lv_iadd hx hb dX2_nextNumber_18 ?_
      refine pw_topi (nI_add _ _) ?_
      refine pw_cv S hK hP 3 2 rfl rfl 3 (c_X2_waysBefore l D cy Ad n mm C hn hF am hA (wyF am m9) m9 Z (v + 1) hm.2 (by omega) hp (by omega) (fun v hv _ => hw _ (or_ltm hZ hv))) gX2_nextNumber_X2_waysBefore rfl rfl rfl (by decide +kernel) ⟨Nat.le_of_ble_eq_true rfl, Nat.le_of_ble_eq_true rfl⟩ rfl hl.1 rfl (Nat.le_of_ble_eq_true rfl) dX2_nextNumber_19 ⟨Nat.le_refl _, Nat.le_refl _⟩ ?_
      refine pw_topi (y := wbS am (wyF am m9) Z (v + 1)) (by rw [Nat.min_eq_left (by omega)]) ?_
      refine lv_icmp_lt (tgt := 31) hx hb dX2_nextNumber_22 (by decide) (fun c_22 => ?_) (fun c_22 => ?_)
      · rw [if_neg (Int32.not_le.mpr c_22)] at hr0
        refine lv_iload hx hb dX2_nextNumber_31 (lv_at hl 0 rfl) ?_
        refine pw_topi (y := nI r) (by rw [← hr0]) ?_
        exact hq _ ls dX2_nextNumber_33
      · rw [if_pos (Int32.not_lt.mp c_22)] at hr0
        have hz2 : z = m9 - 1 - (v + 1) := by omega
        refine lv_iinc (v := nI (v + 1)) (lv' := [(4, .int (nI (v + 1))), (0, .ref (Ad 3)), (1, .int (nI m9)), (2, .int (nI Z)), (3, .int left)]) hx hb dX2_nextNumber_25 hl (k := 0) rfl (nI_add _ 1) (by decide) rfl (fun ls hl => ?_)
        refine lv_goto (tgt := 3) hx hb dX2_nextNumber_28 (by decide) ?_
        exact ih (v + 1) ls (by omega) (by omega) (by rw [← hz2]; exact hr0) (lv_sub hl [0, 1, 2, 3, 4] rfl)

set_option maxHeartbeats 4000000 in
set_option maxRecDepth 100000 in
theorem c_X2_nextNumber (l : Launch) (D : va_G) (cy : Nat → ClassId) (Ad : Nat → Nat) (n mm : Nat) (C : pw_C) (hn : 1 ≤ n ∧ n ≤ 12) (hF : fX n mm Ad C) (am : Nat → Nat) (hA : gA am C) (m9 : Nat) (hm : 1 ≤ m9 ∧ m9 ≤ 8) (hw : ∀ Z, Z < 2 ^ m9 → C.1 15 Z = wyF am m9 Z) (Z : Nat) (left : Int32) (hZ : Z < 2 ^ m9) (hp : pcn Z < 8) : Met l yX2_nextNumber wsX2_nextNumber (k2_rm 3 68) (pw_Pre ([.ref (Ad 3), .int (nI m9), .int (nI Z), .int left]) D cy Ad (shX n) C) (k2_QcV (.int (nI (nnF (wbS am (wyF am m9) Z) left (m9 - 1) 0)))) 0 0 (fun _ => False) := by
  refine Met.ofW (cc := cX2_nextNumber) (maxL := 5) (ret := (some .int)) (by decide) rfl ?_
  intro p e s m args below meth c s₁ B hml hv
  obtain ⟨rfl, hP, hK⟩ := hv
  have hx := B.exec
  have hb := B.bytes
  have hr := B.returns
  have hts := atoms_spec (ws := wsX2_nextNumber) B.pre
  have hown : s.vm.findClass RX2 = some m.cls := findClass_of_methodNamed B.named
  have hlocks := B.notSynchronized
  have S : CallFix p m c cX2_nextNumber 5 s ([.ref (Ad 3), .int (nI m9), .int (nI Z), .int left]).toArray wsX2_nextNumber RX2 := ⟨hx, hb, hml, hown, hts⟩
  change W p l e (k2_rm 3 68) s m _ below meth c s.heap [] 0 0 _ _
  have hl := lv_entry ([.ref (Ad 3), .int (nI m9), .int (nI Z), .int left]) (n := 5) (Nat.le_of_ble_eq_true rfl)
  rw [lg_entry_eq]
  generalize (lg_sl ([.ref (Ad 3), .int (nI m9), .int (nI Z), .int left]) ++ List.replicate (5 - (lg_sl ([.ref (Ad 3), .int (nI m9), .int (nI Z), .int left])).length) Slot.unset).toArray = ls at hl ⊢
  have hl : lv_has ls 5 [(0, .ref (Ad 3)), (1, .int (nI m9)), (2, .int (nI Z)), (3, .int left)] := hl
  refine lv_iconst (v := nI 0) hx hb dX2_nextNumber_0 (by decide) ?_
  refine lv_istore (lv' := [(4, .int (nI 0)), (0, .ref (Ad 3)), (1, .int (nI m9)), (2, .int (nI Z)), (3, .int left)]) hx hb dX2_nextNumber_1 hl (by decide) rfl (fun ls hl => ?_)
  exact L_nextNumber S hK hP hF hn hA m9 hm hw Z left hZ hp _ (fun pc9 ls hd9 => W.iret hx hb hr (fun t ht _ => ⟨rfl, ht⟩) (fun q h => by cases h) hd9) m9 0 ls (by omega) (by omega) rfl (lv_sub hl [0, 1, 2, 3, 4] rfl)

set_option maxHeartbeats 4000000 in
set_option maxRecDepth 100000 in
theorem L_atPlace {p : Program} {l : Launch} {e : Env} {s : State} {m : MethodId} {args : Array Value} {below : List Frame} {meth : Method} {c : Code} {H : Heap} {locs : List Loc} {Q : State → Prop} (S : CallFix p m c cX2_atPlace 8 s args wsX2_atPlace RX2) {D : va_G} {cy : Nat → ClassId} {Ad : Nat → Nat} {n mm : Nat} {C : pw_C} (hK : pw_K D cy s) (hP : pw_P D cy Ad (shX n) C H) (hF : fX n mm Ad C) (hn : 1 ≤ n ∧ n ≤ 12) {am : Nat → Nat} (hA : gA am C) (m9 : Nat) (hm : 1 ≤ m9 ∧ m9 ≤ 8) (hw : ∀ Z, Z < 2 ^ m9 → C.1 15 Z = wyF am m9 Z) (i : Nat) (hi : i < m9) (r : Nat) (hq : ∀ (pc9 : Nat) (ls : Array Slot), decode cX2_atPlace pc9 = .ok (.ireturn, 1) → W p l e (k2_rm 4 92) s m args below meth c H locs 0 0 Q (F0 m pc9 ls [.int (nI r)])) : ∀ (f : Nat) (k : Nat) (Z : Nat) (left : Int32) (has : Int32) (ls : Array Slot), i + 1 - k < f → (k ≤ i + 1) → (Z < 2 ^ m9) → (pcn Z ≤ k) → (i + 1 - k = 0 → has = nI r) → (k ≤ i → aplF am m9 (i + 1 - k) Z left = r) → lv_has ls 8 [(7, .int (nI k)), (4, .int (nI Z)), (5, .int left), (6, .int has), (0, .ref (Ad 3)), (1, .int (nI m9)), (3, .int (nI i))] → W p l e (k2_rm 4 92) s m args below meth c H locs 0 0 Q (F0 m 12 ls []) := by
  have hx := S.1
  have hb := S.2.1
  have hml := S.2.2.1
  have hown := S.2.2.2.1
  have hts := S.2.2.2.2
  intro f
  induction f with
  | zero => intro k Z left has ls hf; exact absurd hf (Nat.not_lt_zero _)
  | succ f ih =>
    intro k Z left has ls hf hk hZ hp hr1 hr2 hl
    have hpw := pow8 hm.2
    refine lv_iload hx hb dX2_atPlace_12 (lv_at hl 0 rfl) ?_
    refine lv_iload_n hx hb dX2_atPlace_14 rfl (lv_at hl 6 rfl) ?_
    refine pn_icmp_gt (tgt := 58) hx hb (by omega) (by omega) dX2_atPlace_15 (by decide) (fun c_15 => ?_) (fun c_15 => ?_)
    · have hz : i + 1 - k = 0 := by omega
      have hr0 := hr1 hz
      refine lv_iload hx hb dX2_atPlace_58 (lv_at hl 3 rfl) ?_
      refine pw_topi (y := nI r) hr0 ?_
      exact hq _ ls dX2_atPlace_60
    · obtain ⟨z, hz⟩ : ∃ z, i + 1 - k = z + 1 := ⟨i - k, by omega⟩
      have hr0 := hr2 (by omega)
      refine lv_aload_n hx hb dX2_atPlace_18 rfl (lv_at hl 4 rfl) ?_
      refine lv_iload_n hx hb dX2_atPlace_19 rfl (lv_at hl 5 rfl) ?_
      refine lv_iload hx hb dX2_atPlace_20 (lv_at hl 1 rfl) ?_
      refine lv_iload hx hb dX2_atPlace_22 (lv_at hl 2 rfl) ?_
      refine pw_cv S hK hP 3 2 rfl rfl 3 (c_X2_nextNumber l D cy Ad n mm C hn hF am hA m9 hm hw Z left hZ (by omega)) gX2_atPlace_X2_nextNumber rfl rfl rfl (by decide +kernel) ⟨Nat.le_of_ble_eq_true rfl, Nat.le_of_ble_eq_true rfl⟩ rfl hl.1 rfl (Nat.le_of_ble_eq_true rfl) dX2_atPlace_24 ⟨Nat.le_refl _, Nat.le_refl _⟩ ?_
      refine lv_istore (lv' := [(6, .int (nI (nnF (wbS am (wyF am m9) Z) left (m9 - 1) 0))), (7, .int (nI k)), (4, .int (nI Z)), (5, .int left), (0, .ref (Ad 3)), (1, .int (nI m9)), (3, .int (nI i))]) hx hb dX2_atPlace_27 hl (by decide) rfl (fun ls hl => ?_)
      have hnn := nnF_le (wbS am (wyF am m9) Z) left (m9 - 1) 0
      refine lv_iload hx hb dX2_atPlace_29 (lv_at hl 3 rfl) ?_
      refine lv_aload_n hx hb dX2_atPlace_31 rfl (lv_at hl 4 rfl) ?_
      refine lv_iload_n hx hb dX2_atPlace_32 rfl (lv_at hl 5 rfl) ?_
      refine lv_iload hx hb dX2_atPlace_33 (lv_at hl 2 rfl) ?_
      refine lv_iload hx hb dX2_atPlace_35 (lv_at hl 0 rfl) ?_
      refine pw_cv S hK hP 3 2 rfl rfl 3 (c_X2_waysBefore l D cy Ad n mm C hn hF am hA (wyF am m9) m9 Z (nnF (wbS am (wyF am m9) Z) left (m9 - 1) 0) hm.2 (by omega) (by omega) (by omega) (fun v hv _ => hw _ (or_ltm hZ hv))) gX2_atPlace_X2_waysBefore rfl rfl rfl (by decide +kernel) ⟨Nat.le_of_ble_eq_true rfl, Nat.le_of_ble_eq_true rfl⟩ rfl hl.1 rfl (Nat.le_of_ble_eq_true rfl) dX2_atPlace_37 ⟨Nat.le_refl _, Nat.le_refl _⟩ ?_
      refine pw_topi (y := wbS am (wyF am m9) Z (nnF (wbS am (wyF am m9) Z) left (m9 - 1) 0)) (by rw [Nat.min_eq_left (by omega)]) ?_
      refine lv_isub hx hb dX2_atPlace_40 ?_
      refine lv_topi (fun x5_41 ex5_41 => ?_)
      refine lv_istore (lv' := [(5, .int x5_41), (6, .int (nI (nnF (wbS am (wyF am m9) Z) left (m9 - 1) 0))), (7, .int (nI k)), (4, .int (nI Z)), (0, .ref (Ad 3)), (1, .int (nI m9)), (3, .int (nI i))]) hx hb dX2_atPlace_41 hl (by decide) rfl (fun ls hl => ?_)
      refine lv_iload hx hb dX2_atPlace_43 (lv_at hl 3 rfl) ?_
      refine lv_iconst (v := nI 1) hx hb dX2_atPlace_45 (by decide) ?_
      refine lv_iload hx hb dX2_atPlace_46 (lv_at hl 1 rfl) ?_
      refine lv_ishl hx hb dX2_atPlace_48 ?_
      refine pw_topi (y := nI (2 ^ (nnF (wbS am (wyF am m9) Z) left (m9 - 1) 0))) (ps_shl1 (by omega)) ?_
      refine lv_ior hx hb dX2_atPlace_49 ?_
      refine pw_topi (y := nI (Z ||| 2 ^ (nnF (wbS am (wyF am m9) Z) left (m9 - 1) 0))) (nx_or _ _) ?_
      refine lv_istore (lv' := [(4, .int (nI (Z ||| 2 ^ (nnF (wbS am (wyF am m9) Z) left (m9 - 1) 0)))), (5, .int x5_41), (6, .int (nI (nnF (wbS am (wyF am m9) Z) left (m9 - 1) 0))), (7, .int (nI k)), (0, .ref (Ad 3)), (1, .int (nI m9)), (3, .int (nI i))]) hx hb dX2_atPlace_50 hl (by decide) rfl (fun ls hl => ?_)
      refine lv_iinc (v := nI (k + 1)) (lv' := [(7, .int (nI (k + 1))), (4, .int (nI (Z ||| 2 ^ (nnF (wbS am (wyF am m9) Z) left (m9 - 1) 0)))), (5, .int x5_41), (6, .int (nI (nnF (wbS am (wyF am m9) Z) left (m9 - 1) 0))), (0, .ref (Ad 3)), (1, .int (nI m9)), (3, .int (nI i))]) hx hb dX2_atPlace_52 hl (k := 3) rfl (nI_add _ 1) (by decide) rfl (fun ls hl => ?_)
      refine lv_goto (tgt := 12) hx hb dX2_atPlace_55 (by decide) ?_
      have hZ2 := or_ltm (m := m9) (v := nnF (wbS am (wyF am m9) Z) left (m9 - 1) 0) hZ (by omega)
      have hpc := pcn_or Z (by omega) (nnF (wbS am (wyF am m9) Z) left (m9 - 1) 0) (by omega)
      exact ih (k + 1) _ x5_41 (nI (nnF (wbS am (wyF am m9) Z) left (m9 - 1) 0)) ls (by omega) (by omega) hZ2 (by omega) (fun hz3 => by
        obtain rfl : z = 0 := by omega
        rw [hz] at hr0
        exact congrArg nI hr0) (fun hk3 => by
        obtain ⟨y, rfl⟩ : ∃ y, z = y + 1 := ⟨z - 1, by omega⟩
        have hy : i + 1 - (k + 1) = y + 1 := by omega
        rw [hz] at hr0
        rw [hy, ex5_41]
        exact hr0) (lv_sub hl [0, 1, 2, 3, 4, 5, 6] rfl)

set_option maxHeartbeats 4000000 in
set_option maxRecDepth 100000 in
theorem c_X2_atPlace (l : Launch) (D : va_G) (cy : Nat → ClassId) (Ad : Nat → Nat) (n mm : Nat) (C : pw_C) (hn : 1 ≤ n ∧ n ≤ 12) (hF : fX n mm Ad C) (am : Nat → Nat) (hA : gA am C) (m9 : Nat) (hm : 1 ≤ m9 ∧ m9 ≤ 8) (hw : ∀ Z, Z < 2 ^ m9 → C.1 15 Z = wyF am m9 Z) (num : Int32) (i : Nat) (hi : i < m9) : Met l yX2_atPlace wsX2_atPlace (k2_rm 4 92) (pw_Pre ([.ref (Ad 3), .int (nI m9), .int num, .int (nI i)]) D cy Ad (shX n) C) (k2_QcV (.int (nI (aplF am m9 (i + 1) 0 num)))) 0 0 (fun _ => False) := by
  refine Met.ofW (cc := cX2_atPlace) (maxL := 8) (ret := (some .int)) (by decide) rfl ?_
  intro p e s m args below meth c s₁ B hml hv
  obtain ⟨rfl, hP, hK⟩ := hv
  have hx := B.exec
  have hb := B.bytes
  have hr := B.returns
  have hts := atoms_spec (ws := wsX2_atPlace) B.pre
  have hown : s.vm.findClass RX2 = some m.cls := findClass_of_methodNamed B.named
  have hlocks := B.notSynchronized
  have S : CallFix p m c cX2_atPlace 8 s ([.ref (Ad 3), .int (nI m9), .int num, .int (nI i)]).toArray wsX2_atPlace RX2 := ⟨hx, hb, hml, hown, hts⟩
  change W p l e (k2_rm 4 92) s m _ below meth c s.heap [] 0 0 _ _
  have hl := lv_entry ([.ref (Ad 3), .int (nI m9), .int num, .int (nI i)]) (n := 8) (Nat.le_of_ble_eq_true rfl)
  rw [lg_entry_eq]
  generalize (lg_sl ([.ref (Ad 3), .int (nI m9), .int num, .int (nI i)]) ++ List.replicate (8 - (lg_sl ([.ref (Ad 3), .int (nI m9), .int num, .int (nI i)])).length) Slot.unset).toArray = ls at hl ⊢
  have hl : lv_has ls 8 [(0, .ref (Ad 3)), (1, .int (nI m9)), (2, .int num), (3, .int (nI i))] := hl
  refine lv_iconst (v := nI 0) hx hb dX2_atPlace_0 (by decide) ?_
  refine lv_istore (lv' := [(4, .int (nI 0)), (0, .ref (Ad 3)), (1, .int (nI m9)), (2, .int num), (3, .int (nI i))]) hx hb dX2_atPlace_1 hl (by decide) rfl (fun ls hl => ?_)
  refine lv_iload_n hx hb dX2_atPlace_3 rfl (lv_at hl 3 rfl) ?_
  refine lv_istore (lv' := [(5, .int num), (4, .int (nI 0)), (0, .ref (Ad 3)), (1, .int (nI m9)), (2, .int num), (3, .int (nI i))]) hx hb dX2_atPlace_4 hl (by decide) rfl (fun ls hl => ?_)
  refine lv_iconst (v := (-1)) hx hb dX2_atPlace_6 (by decide) ?_
  refine lv_istore (lv' := [(6, .int (-1)), (5, .int num), (4, .int (nI 0)), (0, .ref (Ad 3)), (1, .int (nI m9)), (2, .int num), (3, .int (nI i))]) hx hb dX2_atPlace_7 hl (by decide) rfl (fun ls hl => ?_)
  refine lv_iconst (v := nI 0) hx hb dX2_atPlace_9 (by decide) ?_
  refine lv_istore (lv' := [(7, .int (nI 0)), (6, .int (-1)), (5, .int num), (4, .int (nI 0)), (0, .ref (Ad 3)), (1, .int (nI m9)), (2, .int num), (3, .int (nI i))]) hx hb dX2_atPlace_10 hl (by decide) rfl (fun ls hl => ?_)
  exact L_atPlace S hK hP hF hn hA m9 hm hw i hi _ (fun pc9 ls hd9 => W.iret hx hb hr (fun t ht _ => ⟨rfl, ht⟩) (fun q h => by cases h) hd9) (i + 2) 0 0 num (-1) ls (by omega) (by omega) (Nat.pow_pos (by decide)) (by decide) (fun h => by omega) (fun _ => rfl) (lv_sub hl [0, 3, 2, 1, 4, 5, 7] rfl)

set_option maxHeartbeats 4000000 in
set_option maxRecDepth 100000 in
theorem L_ordersNumber {p : Program} {l : Launch} {e : Env} {s : State} {m : MethodId} {args : Array Value} {below : List Frame} {meth : Method} {c : Code} {H : Heap} {locs : List Loc} {Q : State → Prop} (S : CallFix p m c cX2_numberOf 7 s args wsX2_numberOf RX2) {D : va_G} {cy : Nat → ClassId} {Ad : Nat → Nat} {n mm : Nat} {C : pw_C} (hK : pw_K D cy s) (hP : pw_P D cy Ad (shX n) C H) (hF : fX n mm Ad C) (hn : 1 ≤ n ∧ n ≤ 12) {am : Nat → Nat} (hA : gA am C) (m9 : Nat) (hm : 1 ≤ m9 ∧ m9 ≤ 8) (hw : ∀ Z, Z < 2 ^ m9 → C.1 15 Z = wyF am m9 Z) (q r : Int32) (hq : ∀ (pc9 : Nat) (ls : Array Slot), decode cX2_numberOf pc9 = .ok (.ireturn, 1) → W p l e (k2_rm 3 68) s m args below meth c H locs 0 0 Q (F0 m pc9 ls [.int r])) : ∀ (f : Nat) (k : Nat) (Z : Nat) (num : Int32) (ls : Array Slot), m9 - k < f → (k ≤ m9) → (Z < 2 ^ m9) → (pcn Z ≤ k) → (pnF am m9 q (m9 - k) k Z num = r) → lv_has ls 7 [(5, .int (nI k)), (3, .int (nI Z)), (4, .int num), (0, .ref (Ad 3)), (1, .int (nI m9)), (2, .int q)] → W p l e (k2_rm 3 68) s m args below meth c H locs 0 0 Q (F0 m 8 ls []) := by
  have hx := S.1
  have hb := S.2.1
  have hml := S.2.2.1
  have hown := S.2.2.2.1
  have hts := S.2.2.2.2
  intro f
  induction f with
  | zero => intro k Z num ls hf; exact absurd hf (Nat.not_lt_zero _)
  | succ f ih =>
    intro k Z num ls hf hk hZ hp hr0 hl
    have hpw := pow8 hm.2
    refine lv_iload hx hb dX2_numberOf_8 (lv_at hl 0 rfl) ?_
    refine lv_iload_n hx hb dX2_numberOf_10 rfl (lv_at hl 4 rfl) ?_
    refine pn_icmp_ge (tgt := 70) hx hb (by omega) (by omega) dX2_numberOf_11 (by decide) (fun c_11 => ?_) (fun c_11 => ?_)
    · have hz : m9 - k = 0 := by omega
      rw [hz, pnF] at hr0
      refine lv_iload hx hb dX2_numberOf_70 (lv_at hl 2 rfl) ?_
      refine pw_topi (y := r) hr0 ?_
      exact hq _ ls dX2_numberOf_72
    · obtain ⟨z, hz⟩ : ∃ z, m9 - k = z + 1 := ⟨m9 - k - 1, by omega⟩
      rw [hz, pnF] at hr0
      have hz2 : z = m9 - (k + 1) := by omega
      refine lv_iload_n hx hb dX2_numberOf_14 rfl (lv_at hl 5 rfl) ?_
      refine lv_iconst (v := nI 3) hx hb dX2_numberOf_15 (by decide) ?_
      refine lv_iload hx hb dX2_numberOf_16 (lv_at hl 0 rfl) ?_
      refine lv_imul hx hb dX2_numberOf_18 ?_
      refine pw_topi (pk_mul _ _) ?_
      refine lv_iushr (v := hs_u q (nI (3 * k))) hx hb dX2_numberOf_19 rfl ?_
      refine lv_bipush (v := nI 7) hx hb dX2_numberOf_20 (by decide) ?_
      refine lv_iand hx hb dX2_numberOf_22 ?_
      refine pw_topi (y := nI (dg q k)) (dg_c q (by omega)) ?_
      refine lv_istore (lv' := [(6, .int (nI (dg q k))), (5, .int (nI k)), (3, .int (nI Z)), (4, .int num), (0, .ref (Ad 3)), (1, .int (nI m9)), (2, .int q)]) hx hb dX2_numberOf_23 hl (by decide) rfl (fun ls hl => ?_)
      have hdg := dg_lt q k
      refine lv_iload hx hb dX2_numberOf_25 (lv_at hl 0 rfl) ?_
      refine lv_iload_n hx hb dX2_numberOf_27 rfl (lv_at hl 5 rfl) ?_
      refine pn_icmp_ge (tgt := 41) hx hb (by omega) (by omega) dX2_numberOf_28 (by decide) (fun c_28 => ?_) (fun c_28 => ?_)
      · rw [if_neg (by omega)] at hr0
        refine lv_bipush (v := (-2)) hx hb dX2_numberOf_41 (by decide) ?_
        refine pw_topi (y := r) hr0 ?_
        exact hq _ ls dX2_numberOf_43
      · refine lv_aload_n hx hb dX2_numberOf_31 rfl (lv_at hl 4 rfl) ?_
        refine lv_iload_n hx hb dX2_numberOf_32 rfl (lv_at hl 2 rfl) ?_
        refine lv_iload hx hb dX2_numberOf_33 (lv_at hl 0 rfl) ?_
        refine pw_cv S hK hP 3 2 rfl rfl 2 (c_X2_isFree l D cy Ad n mm C hn hF am hA Z (dg q k) (by omega) (by omega) (by omega)) gX2_numberOf_X2_isFree rfl rfl rfl (by decide +kernel) ⟨Nat.le_of_ble_eq_true rfl, Nat.le_of_ble_eq_true rfl⟩ rfl hl.1 rfl (Nat.le_of_ble_eq_true rfl) dX2_numberOf_35 ⟨Nat.le_refl _, Nat.le_refl _⟩ ?_
        refine pn_ifne_b (tgt := 44) hx hb dX2_numberOf_38 (by decide) (fun c_38 => ?_) (fun c_38 => ?_)
        · rw [if_pos ⟨c_28, c_38⟩] at hr0
          refine lv_iload hx hb dX2_numberOf_44 (lv_at hl 3 rfl) ?_
          refine lv_aload_n hx hb dX2_numberOf_46 rfl (lv_at hl 4 rfl) ?_
          refine lv_iload_n hx hb dX2_numberOf_47 rfl (lv_at hl 5 rfl) ?_
          refine lv_iload_n hx hb dX2_numberOf_48 rfl (lv_at hl 2 rfl) ?_
          refine lv_iload hx hb dX2_numberOf_49 (lv_at hl 0 rfl) ?_
          refine pw_cv S hK hP 3 2 rfl rfl 3 (c_X2_waysBefore l D cy Ad n mm C hn hF am hA (wyF am m9) m9 Z (dg q k) hm.2 (by omega) (by omega) (by omega) (fun v hv _ => hw _ (or_ltm hZ hv))) gX2_numberOf_X2_waysBefore rfl rfl rfl (by decide +kernel) ⟨Nat.le_of_ble_eq_true rfl, Nat.le_of_ble_eq_true rfl⟩ rfl hl.1 rfl (Nat.le_of_ble_eq_true rfl) dX2_numberOf_51 ⟨Nat.le_refl _, Nat.le_refl _⟩ ?_
          refine pw_topi (y := wbS am (wyF am m9) Z (dg q k)) (by rw [Nat.min_eq_left (by omega)]) ?_
          refine lv_iadd hx hb dX2_numberOf_54 ?_
          refine lv_topi (fun x4_55 ex4_55 => ?_)
          refine lv_istore (lv' := [(4, .int x4_55), (6, .int (nI (dg q k))), (5, .int (nI k)), (3, .int (nI Z)), (0, .ref (Ad 3)), (1, .int (nI m9)), (2, .int q)]) hx hb dX2_numberOf_55 hl (by decide) rfl (fun ls hl => ?_)
          refine lv_iload_n hx hb dX2_numberOf_57 rfl (lv_at hl 3 rfl) ?_
          refine lv_iconst (v := nI 1) hx hb dX2_numberOf_58 (by decide) ?_
          refine lv_iload hx hb dX2_numberOf_59 (lv_at hl 1 rfl) ?_
          refine lv_ishl hx hb dX2_numberOf_61 ?_
          refine pw_topi (y := nI (2 ^ dg q k)) (ps_shl1 (by omega)) ?_
          refine lv_ior hx hb dX2_numberOf_62 ?_
          refine pw_topi (y := nI (Z ||| 2 ^ dg q k)) (nx_or _ _) ?_
          refine lv_istore_n (lv' := [(3, .int (nI (Z ||| 2 ^ dg q k))), (4, .int x4_55), (6, .int (nI (dg q k))), (5, .int (nI k)), (0, .ref (Ad 3)), (1, .int (nI m9)), (2, .int q)]) hx hb dX2_numberOf_63 rfl hl (by decide) rfl (fun ls hl => ?_)
          refine lv_iinc (v := nI (k + 1)) (lv' := [(5, .int (nI (k + 1))), (3, .int (nI (Z ||| 2 ^ dg q k))), (4, .int x4_55), (6, .int (nI (dg q k))), (0, .ref (Ad 3)), (1, .int (nI m9)), (2, .int q)]) hx hb dX2_numberOf_64 hl (k := 3) rfl (nI_add _ 1) (by decide) rfl (fun ls hl => ?_)
          refine lv_goto (tgt := 8) hx hb dX2_numberOf_67 (by decide) ?_
          have hZ2 := or_ltm (m := m9) (v := dg q k) hZ c_28
          have hpc := pcn_or Z (by omega) (dg q k) (by omega)
          exact ih (k + 1) _ x4_55 ls (by omega) (by omega) hZ2 (by omega) (by rw [← hz2, ex4_55]; exact hr0) (lv_sub hl [0, 1, 2, 4, 5, 6] rfl)
        · rw [if_neg (fun q9 => by rw [c_38] at q9; exact absurd q9.2 (by decide))] at hr0
          refine lv_bipush (v := (-2)) hx hb dX2_numberOf_41 (by decide) ?_
          refine pw_topi (y := r) hr0 ?_
          exact hq _ ls dX2_numberOf_43

set_option maxHeartbeats 4000000 in
set_option maxRecDepth 100000 in
theorem c_X2_numberOf (l : Launch) (D : va_G) (cy : Nat → ClassId) (Ad : Nat → Nat) (n mm : Nat) (C : pw_C) (hn : 1 ≤ n ∧ n ≤ 12) (hF : fX n mm Ad C) (am : Nat → Nat) (hA : gA am C) (m9 : Nat) (hm : 1 ≤ m9 ∧ m9 ≤ 8) (hw : ∀ Z, Z < 2 ^ m9 → C.1 15 Z = wyF am m9 Z) (q : Int32) : Met l yX2_numberOf wsX2_numberOf (k2_rm 3 68) (pw_Pre ([.ref (Ad 3), .int (nI m9), .int q]) D cy Ad (shX n) C) (k2_QcV (.int (pnF am m9 q m9 0 0 0))) 0 0 (fun _ => False) := by
  refine Met.ofW (cc := cX2_numberOf) (maxL := 7) (ret := (some .int)) (by decide) rfl ?_
  intro p e s m args below meth c s₁ B hml hv
  obtain ⟨rfl, hP, hK⟩ := hv
  have hx := B.exec
  have hb := B.bytes
  have hr := B.returns
  have hts := atoms_spec (ws := wsX2_numberOf) B.pre
  have hown : s.vm.findClass RX2 = some m.cls := findClass_of_methodNamed B.named
  have hlocks := B.notSynchronized
  have S : CallFix p m c cX2_numberOf 7 s ([.ref (Ad 3), .int (nI m9), .int q]).toArray wsX2_numberOf RX2 := ⟨hx, hb, hml, hown, hts⟩
  change W p l e (k2_rm 3 68) s m _ below meth c s.heap [] 0 0 _ _
  have hl := lv_entry ([.ref (Ad 3), .int (nI m9), .int q]) (n := 7) (Nat.le_of_ble_eq_true rfl)
  rw [lg_entry_eq]
  generalize (lg_sl ([.ref (Ad 3), .int (nI m9), .int q]) ++ List.replicate (7 - (lg_sl ([.ref (Ad 3), .int (nI m9), .int q])).length) Slot.unset).toArray = ls at hl ⊢
  have hl : lv_has ls 7 [(0, .ref (Ad 3)), (1, .int (nI m9)), (2, .int q)] := hl
  refine lv_iconst (v := nI 0) hx hb dX2_numberOf_0 (by decide) ?_
  refine lv_istore_n (lv' := [(3, .int (nI 0)), (0, .ref (Ad 3)), (1, .int (nI m9)), (2, .int q)]) hx hb dX2_numberOf_1 rfl hl (by decide) rfl (fun ls hl => ?_)
  refine lv_iconst (v := nI 0) hx hb dX2_numberOf_2 (by decide) ?_
  refine lv_istore (lv' := [(4, .int (nI 0)), (3, .int (nI 0)), (0, .ref (Ad 3)), (1, .int (nI m9)), (2, .int q)]) hx hb dX2_numberOf_3 hl (by decide) rfl (fun ls hl => ?_)
  refine lv_iconst (v := nI 0) hx hb dX2_numberOf_5 (by decide) ?_
  refine lv_istore (lv' := [(5, .int (nI 0)), (4, .int (nI 0)), (3, .int (nI 0)), (0, .ref (Ad 3)), (1, .int (nI m9)), (2, .int q)]) hx hb dX2_numberOf_6 hl (by decide) rfl (fun ls hl => ?_)
  exact L_ordersNumber S hK hP hF hn hA m9 hm hw q _ (fun pc9 ls hd9 => W.iret hx hb hr (fun t ht _ => ⟨rfl, ht⟩) (fun q h => by cases h) hd9) (m9 + 1) 0 0 0 ls (by omega) (by omega) (Nat.pow_pos (by decide)) (by decide) rfl (lv_sub hl [0, 2, 1, 3, 4, 5] rfl)
