theorem mM_B {n : Nat} {mx : Nat → Nat → Option Nat} {ks : Nat → Prop} {C C' : pw_C} (h : mM n mx C) (hB : pw_B ks C C') (hk : ¬ ks 2) : mM n mx C' := fun x hx c hc => by
  rw [(hB.1 _ hk).1]; exact h x hx c hc
theorem mE_B {n : Nat} {en : Nat → Bool} {ks : Nat → Prop} {C C' : pw_C} (h : mE n en C) (hB : pw_B ks C C') (hk : ¬ ks 3) : mE n en C' := fun x hx => by
  rw [(hB.1 _ hk).1]; exact h x hx
section MU
variable {n mm : Nat} {nx : Nat → Nat → Nat} {mx : Nat → Nat → Option Nat} {en : Nat → Bool} {am wt Ad : Nat → Nat} {C : pw_C}
theorem MI_lead {x ch : Nat} {o : Option Nat} (hch : ch < 4) (ho : ∀ y, o = some y → y < n) (h : MI n mm nx mx en am wt Ad C) : MI n mm nx (fun x9 c9 => if x9 = x ∧ c9 = ch then o else mx x9 c9) en am wt Ad (pw_setI C 2 (4 * x + ch) (oi o)) := by
  obtain ⟨h1, h2, h3, h4, h5, h6⟩ := h
  refine ⟨h1, fun u9 hu9 x9 hx9 => ?_, fun x9 hx9 c9 hc9 => ?_, fun x9 hx9 => ?_, fun p9 hp9 => ?_, fun i9 hi9 => ?_⟩
  · rw [si_ne (by omega)]; exact h2 u9 hu9 x9 hx9
  · show (∀ y, (if x9 = x ∧ c9 = ch then o else mx x9 c9) = some y → y < n) ∧ _ = oi (if x9 = x ∧ c9 = ch then o else mx x9 c9)
    rw [si_at]
    by_cases q : x9 = x ∧ c9 = ch
    · rw [if_pos q, if_pos (by omega)]; exact ⟨ho, rfl⟩
    · rw [if_neg q, if_neg (by omega)]; exact h3 x9 hx9 c9 hc9
  · rw [si_ne (by omega)]; exact h4 x9 hx9
  · rw [si_ne (by omega)]; exact h5 p9 hp9
  · rw [si_ne (by omega)]; exact h6 i9 hi9
theorem MI_end {x : Nat} {b : Bool} (h : MI n mm nx mx en am wt Ad C) : MI n mm nx mx (fun x9 => if x9 = x then b else en x9) am wt Ad (pw_setI C 3 x (pb b)) := by
  obtain ⟨h1, h2, h3, h4, h5, h6⟩ := h
  refine ⟨h1, fun u9 hu9 x9 hx9 => ?_, fun x9 hx9 c9 hc9 => ?_, fun x9 hx9 => ?_, fun p9 hp9 => ?_, fun i9 hi9 => ?_⟩
  · rw [si_ne (by omega)]; exact h2 u9 hu9 x9 hx9
  · rw [si_ne (by omega)]; exact h3 x9 hx9 c9 hc9
  · show _ = pb (if x9 = x then b else en x9)
    rw [si_at]
    by_cases q : x9 = x
    · rw [if_pos q, if_pos q]
    · rw [if_neg q, if_neg q]; exact h4 x9 hx9
  · rw [si_ne (by omega)]; exact h5 p9 hp9
  · rw [si_ne (by omega)]; exact h6 i9 hi9
end MU

set_option maxHeartbeats 4000000 in
set_option maxRecDepth 100000 in
theorem c_X5_lead (l : Launch) (D : va_G) (cy : Nat → ClassId) (Ad : Nat → Nat) (n mm : Nat) (C : pw_C) (hI : pw_I Ad shM) (hn : 1 ≤ n ∧ n ≤ 12) (hmm : 1 ≤ mm ∧ mm ≤ 16) (nx : Nat → Nat → Nat) (mx : Nat → Nat → Option Nat) (en : Nat → Bool) (am wt : Nat → Nat) (hX : MI n mm nx mx en am wt Ad C) (a b d : Int32) : Met l yX5_lead wsX5_lead (k2_rm 2 46) (pw_Pre ([.ref (Ad 0), .int a, .int b, .int d]) D cy Ad shM C) (pw_Post (fun r9 C' => r9 = some (.int (f_lead n mx a b d)) ∧ (MI n mm nx (u_lead n mx a b d) en am wt Ad C')) D cy Ad shM) 0 0 (pw_fr Ad shM) := by
  refine Met.ofW (cc := cX5_lead) (maxL := 5) (ret := (some .int)) (by decide) rfl ?_
  intro p e s m args below meth c s₁ B hml hv
  obtain ⟨rfl, hP, hK⟩ := hv
  have hx := B.exec
  have hb := B.bytes
  have hr := B.returns
  have hts := atoms_spec (ws := wsX5_lead) B.pre
  have hown : s.vm.findClass RX5 = some m.cls := findClass_of_methodNamed B.named
  have hlocks := B.notSynchronized
  have S : CallFix p m c cX5_lead 5 s ([.ref (Ad 0), .int a, .int b, .int d]).toArray wsX5_lead RX5 := ⟨hx, hb, hml, hown, hts⟩
  change W p l e (k2_rm 2 46) s m _ below meth c s.heap [] 0 0 _ _
  have hl := lv_entry ([.ref (Ad 0), .int a, .int b, .int d]) (n := 5) (Nat.le_of_ble_eq_true rfl)
  rw [lg_entry_eq]
  generalize (lg_sl ([.ref (Ad 0), .int a, .int b, .int d]) ++ List.replicate (5 - (lg_sl ([.ref (Ad 0), .int a, .int b, .int d])).length) Slot.unset).toArray = ls at hl ⊢
  have hl : lv_has ls 5 [(0, .ref (Ad 0)), (1, .int a), (2, .int b), (3, .int d)] := hl
  have hS : va_S (pw_fr Ad shM) s.heap s.heap [] := va_S.rf
  obtain ⟨⟨pk, tr, hF⟩, hN, hM, hE, hA, hT⟩ := id hX
  refine lv_aload_n hx hb dX5_lead_0 rfl (lv_at hl 0 rfl) ?_
  refine lv_iload_n hx hb dX5_lead_1 rfl (lv_at hl 1 rfl) ?_
  refine pw_cv S hK hP 0 5 rfl rfl 1 (c_X5_isState l D cy Ad n mm pk tr C hn hF a) gX5_lead_X5_isState rfl rfl rfl (by decide +kernel) ⟨Nat.le_of_ble_eq_true rfl, Nat.le_of_ble_eq_true rfl⟩ rfl hl.1 rfl (Nat.le_of_ble_eq_true rfl) dX5_lead_2 ⟨Nat.le_refl _, Nat.le_refl _⟩ ?_
  refine pn_ifeq_b (tgt := 34) hx hb dX5_lead_5 (by decide) (fun c_5 => ?_) (fun c_5 => ?_)
  · refine lv_iconst (v := (-1)) hx hb dX5_lead_34 (by decide) ?_
    have e9 : (wi a (nI 0) (nI (n - 1)) && wi b (nI 0) (nI 3) && (decide (d = (-2)) || wi d (nI 0) (nI (n - 1)))) = false := by first | (rw [c_5]; rfl) | (rw [c_5, c_17]; rfl) | (rw [c_5, c_17, c_31, decide_eq_false c_23]; rfl)
    have ef : f_lead n mx a b d = (-1) := by unfold f_lead; rw [e9]; rfl
    have eu : u_lead n mx a b d = mx := by unfold u_lead; rw [e9]; rfl
    rw [ef, eu]
    exact W.iret hx hb hr (fun t ht _ => ⟨⟨_, C, rfl, ⟨rfl, hX⟩, by rw [ht]; exact hP⟩, hS.F ht⟩) hS.2.2 dX5_lead_35
  · refine lv_iload_n hx hb dX5_lead_8 rfl (lv_at hl 2 rfl) ?_
    refine lv_i2l hx hb dX5_lead_9 rfl ?_
    refine lv_lconst (v := 0) hx hb dX5_lead_10 (by decide) ?_
    refine lv_ldc2 hx hb hown (hts (.constantLong RX5 144 (3)) (List.mem_of_getElem? (i := 1) rfl)) dX5_lead_11 ?_
    refine pw_cs S 3 (c_X5_in l b.toInt64 0 (3)) gX5_lead_X5_in rfl rfl rfl (by decide +kernel) ⟨Nat.le_of_ble_eq_true rfl, Nat.le_of_ble_eq_true rfl⟩ rfl hl.1 rfl (Nat.le_of_ble_eq_true rfl) dX5_lead_14 ⟨Nat.le_refl _, Nat.le_refl _⟩ ?_
    refine pw_topi (y := pb (wi b (nI 0) (nI 3))) (congrArg pb (wl_wi _ (nI 0) (nI 3) (by first | rfl | decide) (by first | rfl | decide))) ?_
    refine pn_ifeq_b (tgt := 34) hx hb dX5_lead_17 (by decide) (fun c_17 => ?_) (fun c_17 => ?_)
    · refine lv_iconst (v := (-1)) hx hb dX5_lead_34 (by decide) ?_
      have e9 : (wi a (nI 0) (nI (n - 1)) && wi b (nI 0) (nI 3) && (decide (d = (-2)) || wi d (nI 0) (nI (n - 1)))) = false := by first | (rw [c_5]; rfl) | (rw [c_5, c_17]; rfl) | (rw [c_5, c_17, c_31, decide_eq_false c_23]; rfl)
      have ef : f_lead n mx a b d = (-1) := by unfold f_lead; rw [e9]; rfl
      have eu : u_lead n mx a b d = mx := by unfold u_lead; rw [e9]; rfl
      rw [ef, eu]
      exact W.iret hx hb hr (fun t ht _ => ⟨⟨_, C, rfl, ⟨rfl, hX⟩, by rw [ht]; exact hP⟩, hS.F ht⟩) hS.2.2 dX5_lead_35
    · refine lv_iload_n hx hb dX5_lead_20 rfl (lv_at hl 3 rfl) ?_
      refine lv_bipush (v := (-2)) hx hb dX5_lead_21 (by decide) ?_
      refine lv_icmp_eq (tgt := 36) hx hb dX5_lead_23 (by decide) (fun c_23 => ?_) (fun c_23 => ?_)
      · have hB : pw_B (fun k => k = 2) C C := pw_B.rf
        obtain ⟨x, hl_x, hh_x, rfl⟩ := wi_ex (by omega) c_5
        obtain ⟨ch, hl_ch, hh_ch, rfl⟩ := wi_ex (by omega) c_17
        have ix_x : ix (nI x) = x := nI_clamp (by omega)
        have ix_ch : ix (nI ch) = ch := nI_clamp (by omega)
        subst c_23
        refine lv_aload_n hx hb dX5_lead_36 rfl (lv_at hl 0 rfl) ?_
        refine pw_get hx hb hts (fun _ h9 => List.mem_cons_of_mem _ (List.mem_append_right _ h9)) hown hK hP 0 rfl rfl 2 (by decide) hF rfl (hts (.fieldLink RX5 13 "PastDrawsModel" "leads" "[I") (List.mem_of_getElem? (i := 2) rfl)) dX5_lead_37 ?_
        refine lv_iconst (v := nI 4) hx hb dX5_lead_40 (by decide) ?_
        refine lv_iload_n hx hb dX5_lead_41 rfl (lv_at hl 1 rfl) ?_
        refine lv_imul hx hb dX5_lead_42 ?_
        refine pw_topi (pk_mul _ _) ?_
        refine lv_iload_n hx hb dX5_lead_43 rfl (lv_at hl 2 rfl) ?_
        refine lv_iadd hx hb dX5_lead_44 ?_
        refine pw_topi (nI_add _ _) ?_
        have hu_45 : ch < 4 := (by first | exact sgn_lt _ _ | omega)
        have hx_45 : x < n := (by first | exact sgn_lt _ _ | omega)
        refine pw_iald hx hb hK hP 2 rfl (by omega) (by decide) (v := oi (mx x ch)) (hM _ hx_45 _ hu_45).2 dX5_lead_45 ?_
        refine lv_istore (lv' := [(4, .int (oi (mx x ch))), (0, .ref (Ad 0)), (1, .int (nI x)), (2, .int (nI ch)), (3, .int (-2))]) hx hb dX5_lead_46 hl (by decide) rfl (fun ls hl => ?_)
        refine lv_aload_n hx hb dX5_lead_48 rfl (lv_at hl 1 rfl) ?_
        refine pw_get hx hb hts (fun _ h9 => List.mem_cons_of_mem _ (List.mem_append_right _ h9)) hown hK hP 0 rfl rfl 2 (by decide) hF rfl (hts (.fieldLink RX5 13 "PastDrawsModel" "leads" "[I") (List.mem_of_getElem? (i := 2) rfl)) dX5_lead_49 ?_
        refine lv_iconst (v := nI 4) hx hb dX5_lead_52 (by decide) ?_
        refine lv_iload_n hx hb dX5_lead_53 rfl (lv_at hl 2 rfl) ?_
        refine lv_imul hx hb dX5_lead_54 ?_
        refine pw_topi (pk_mul _ _) ?_
        refine lv_iload_n hx hb dX5_lead_55 rfl (lv_at hl 3 rfl) ?_
        refine lv_iadd hx hb dX5_lead_56 ?_
        refine pw_topi (nI_add _ _) ?_
        refine lv_iload_n hx hb dX5_lead_57 rfl (lv_at hl 4 rfl) ?_
        refine pw_iast hx hb hK hP hI hS 2 rfl (by omega) (by decide) dX5_lead_58 (fun H locs hP hS => ?_)
        obtain ⟨C58, hC58⟩ : ∃ z9, z9 = pw_setI C 2 ((4 * x) + ch) (-2) := ⟨_, rfl⟩
        rw [← hC58] at hP
        have hB := by have hB9 := hB; exact (show pw_B (fun k => k = 2) C C58 by rw [hC58]; exact hB9.setI (by show 2 = 2; first | trivial | omega))
        refine lv_iload hx hb dX5_lead_59 (lv_at hl 0 rfl) ?_
        have e9 : (wi (nI x) (nI 0) (nI (n - 1)) && wi (nI ch) (nI 0) (nI 3) && (decide ((-2 : Int32) = (-2)) || wi (-2 : Int32) (nI 0) (nI (n - 1)))) = true := by rw [c_5, c_17]; rfl
        have ef : f_lead n mx (nI x) (nI ch) (-2 : Int32) = oi (mx x ch) := by unfold f_lead; rw [if_pos e9, ix_x, ix_ch]
        have eu : u_lead n mx (nI x) (nI ch) (-2 : Int32) = fun x9 c9 => if x9 = x ∧ c9 = ch then none else mx x9 c9 := by unfold u_lead; rw [if_pos e9, ix_x, ix_ch, if_pos rfl]
        rw [ef, eu]
        exact W.iret hx hb hr (fun t ht _ => ⟨⟨_, C58, rfl, ⟨rfl, by rw [hC58]; exact MI_lead (o := none) (by omega) (fun y9 h9 => by cases h9) hX⟩, by rw [ht]; exact hP⟩, hS.F ht⟩) hS.2.2 dX5_lead_61
      · refine lv_aload_n hx hb dX5_lead_26 rfl (lv_at hl 0 rfl) ?_
        refine lv_iload_n hx hb dX5_lead_27 rfl (lv_at hl 3 rfl) ?_
        refine pw_cv S hK hP 0 5 rfl rfl 1 (c_X5_isState l D cy Ad n mm pk tr C hn hF d) gX5_lead_X5_isState rfl rfl rfl (by decide +kernel) ⟨Nat.le_of_ble_eq_true rfl, Nat.le_of_ble_eq_true rfl⟩ rfl hl.1 rfl (Nat.le_of_ble_eq_true rfl) dX5_lead_28 ⟨Nat.le_refl _, Nat.le_refl _⟩ ?_
        refine pn_ifne_b (tgt := 36) hx hb dX5_lead_31 (by decide) (fun c_31 => ?_) (fun c_31 => ?_)
        · have hB : pw_B (fun k => k = 2) C C := pw_B.rf
          obtain ⟨x, hl_x, hh_x, rfl⟩ := wi_ex (by omega) c_5
          obtain ⟨ch, hl_ch, hh_ch, rfl⟩ := wi_ex (by omega) c_17
          obtain ⟨y, hl_y, hh_y, rfl⟩ := wi_ex (by omega) c_31
          have ix_x : ix (nI x) = x := nI_clamp (by omega)
          have ix_ch : ix (nI ch) = ch := nI_clamp (by omega)
          have ix_y : ix (nI y) = y := nI_clamp (by omega)
          refine lv_aload_n hx hb dX5_lead_36 rfl (lv_at hl 0 rfl) ?_
          refine pw_get hx hb hts (fun _ h9 => List.mem_cons_of_mem _ (List.mem_append_right _ h9)) hown hK hP 0 rfl rfl 2 (by decide) hF rfl (hts (.fieldLink RX5 13 "PastDrawsModel" "leads" "[I") (List.mem_of_getElem? (i := 2) rfl)) dX5_lead_37 ?_
          refine lv_iconst (v := nI 4) hx hb dX5_lead_40 (by decide) ?_
          refine lv_iload_n hx hb dX5_lead_41 rfl (lv_at hl 1 rfl) ?_
          refine lv_imul hx hb dX5_lead_42 ?_
          refine pw_topi (pk_mul _ _) ?_
          refine lv_iload_n hx hb dX5_lead_43 rfl (lv_at hl 2 rfl) ?_
          refine lv_iadd hx hb dX5_lead_44 ?_
          refine pw_topi (nI_add _ _) ?_
          have hu_45 : ch < 4 := (by first | exact sgn_lt _ _ | omega)
          have hx_45 : x < n := (by first | exact sgn_lt _ _ | omega)
          refine pw_iald hx hb hK hP 2 rfl (by omega) (by decide) (v := oi (mx x ch)) (hM _ hx_45 _ hu_45).2 dX5_lead_45 ?_
          refine lv_istore (lv' := [(4, .int (oi (mx x ch))), (0, .ref (Ad 0)), (1, .int (nI x)), (2, .int (nI ch)), (3, .int (nI y))]) hx hb dX5_lead_46 hl (by decide) rfl (fun ls hl => ?_)
          refine lv_aload_n hx hb dX5_lead_48 rfl (lv_at hl 1 rfl) ?_
          refine pw_get hx hb hts (fun _ h9 => List.mem_cons_of_mem _ (List.mem_append_right _ h9)) hown hK hP 0 rfl rfl 2 (by decide) hF rfl (hts (.fieldLink RX5 13 "PastDrawsModel" "leads" "[I") (List.mem_of_getElem? (i := 2) rfl)) dX5_lead_49 ?_
          refine lv_iconst (v := nI 4) hx hb dX5_lead_52 (by decide) ?_
          refine lv_iload_n hx hb dX5_lead_53 rfl (lv_at hl 2 rfl) ?_
          refine lv_imul hx hb dX5_lead_54 ?_
          refine pw_topi (pk_mul _ _) ?_
          refine lv_iload_n hx hb dX5_lead_55 rfl (lv_at hl 3 rfl) ?_
          refine lv_iadd hx hb dX5_lead_56 ?_
          refine pw_topi (nI_add _ _) ?_
          refine lv_iload_n hx hb dX5_lead_57 rfl (lv_at hl 4 rfl) ?_
          refine pw_iast hx hb hK hP hI hS 2 rfl (by omega) (by decide) dX5_lead_58 (fun H locs hP hS => ?_)
          obtain ⟨C58, hC58⟩ : ∃ z9, z9 = pw_setI C 2 ((4 * x) + ch) (nI y) := ⟨_, rfl⟩
          rw [← hC58] at hP
          have hB := by have hB9 := hB; exact (show pw_B (fun k => k = 2) C C58 by rw [hC58]; exact hB9.setI (by show 2 = 2; first | trivial | omega))
          refine lv_iload hx hb dX5_lead_59 (lv_at hl 0 rfl) ?_
          have e9 : (wi (nI x) (nI 0) (nI (n - 1)) && wi (nI ch) (nI 0) (nI 3) && (decide ((nI y) = (-2)) || wi (nI y) (nI 0) (nI (n - 1)))) = true := by rw [c_5, c_17, c_31, decide_eq_false c_23]; rfl
          have ef : f_lead n mx (nI x) (nI ch) (nI y) = oi (mx x ch) := by unfold f_lead; rw [if_pos e9, ix_x, ix_ch]
          have eu : u_lead n mx (nI x) (nI ch) (nI y) = fun x9 c9 => if x9 = x ∧ c9 = ch then some y else mx x9 c9 := by unfold u_lead; rw [if_pos e9, ix_x, ix_ch, if_neg c_23, ix_y]
          rw [ef, eu]
          exact W.iret hx hb hr (fun t ht _ => ⟨⟨_, C58, rfl, ⟨rfl, by rw [hC58]; exact MI_lead (o := some y) (by omega) (fun y9 h9 => by cases h9; omega) hX⟩, by rw [ht]; exact hP⟩, hS.F ht⟩) hS.2.2 dX5_lead_61
        · refine lv_iconst (v := (-1)) hx hb dX5_lead_34 (by decide) ?_
          have e9 : (wi a (nI 0) (nI (n - 1)) && wi b (nI 0) (nI 3) && (decide (d = (-2)) || wi d (nI 0) (nI (n - 1)))) = false := by first | (rw [c_5]; rfl) | (rw [c_5, c_17]; rfl) | (rw [c_5, c_17, c_31, decide_eq_false c_23]; rfl)
          have ef : f_lead n mx a b d = (-1) := by unfold f_lead; rw [e9]; rfl
          have eu : u_lead n mx a b d = mx := by unfold u_lead; rw [e9]; rfl
          rw [ef, eu]
          exact W.iret hx hb hr (fun t ht _ => ⟨⟨_, C, rfl, ⟨rfl, hX⟩, by rw [ht]; exact hP⟩, hS.F ht⟩) hS.2.2 dX5_lead_35

set_option maxHeartbeats 4000000 in
set_option maxRecDepth 100000 in
theorem c_X5_end (l : Launch) (D : va_G) (cy : Nat → ClassId) (Ad : Nat → Nat) (n mm : Nat) (C : pw_C) (hI : pw_I Ad shM) (hn : 1 ≤ n ∧ n ≤ 12) (hmm : 1 ≤ mm ∧ mm ≤ 16) (nx : Nat → Nat → Nat) (mx : Nat → Nat → Option Nat) (en : Nat → Bool) (am wt : Nat → Nat) (hX : MI n mm nx mx en am wt Ad C) (a : Int32) (b : Bool) : Met l yX5_end wsX5_end (k2_rm 2 46) (pw_Pre ([.ref (Ad 0), .int a, .int (pb b)]) D cy Ad shM C) (pw_Post (fun r9 C' => r9 = some (.int (f_end n en a)) ∧ (MI n mm nx mx (u_end n en a b) am wt Ad C')) D cy Ad shM) 0 0 (pw_fr Ad shM) := by
  refine Met.ofW (cc := cX5_end) (maxL := 4) (ret := (some .int)) (by decide) rfl ?_
  intro p e s m args below meth c s₁ B hml hv
  obtain ⟨rfl, hP, hK⟩ := hv
  have hx := B.exec
  have hb := B.bytes
  have hr := B.returns
  have hts := atoms_spec (ws := wsX5_end) B.pre
  have hown : s.vm.findClass RX5 = some m.cls := findClass_of_methodNamed B.named
  have hlocks := B.notSynchronized
  have S : CallFix p m c cX5_end 4 s ([.ref (Ad 0), .int a, .int (pb b)]).toArray wsX5_end RX5 := ⟨hx, hb, hml, hown, hts⟩
  change W p l e (k2_rm 2 46) s m _ below meth c s.heap [] 0 0 _ _
  have hl := lv_entry ([.ref (Ad 0), .int a, .int (pb b)]) (n := 4) (Nat.le_of_ble_eq_true rfl)
  rw [lg_entry_eq]
  generalize (lg_sl ([.ref (Ad 0), .int a, .int (pb b)]) ++ List.replicate (4 - (lg_sl ([.ref (Ad 0), .int a, .int (pb b)])).length) Slot.unset).toArray = ls at hl ⊢
  have hl : lv_has ls 4 [(0, .ref (Ad 0)), (1, .int a), (2, .int (pb b))] := hl
  have hS : va_S (pw_fr Ad shM) s.heap s.heap [] := va_S.rf
  obtain ⟨⟨pk, tr, hF⟩, hN, hM, hE, hA, hT⟩ := id hX
  refine lv_aload_n hx hb dX5_end_0 rfl (lv_at hl 0 rfl) ?_
  refine lv_iload_n hx hb dX5_end_1 rfl (lv_at hl 1 rfl) ?_
  refine pw_cv S hK hP 0 5 rfl rfl 1 (c_X5_isState l D cy Ad n mm pk tr C hn hF a) gX5_end_X5_isState rfl rfl rfl (by decide +kernel) ⟨Nat.le_of_ble_eq_true rfl, Nat.le_of_ble_eq_true rfl⟩ rfl hl.1 rfl (Nat.le_of_ble_eq_true rfl) dX5_end_2 ⟨Nat.le_refl _, Nat.le_refl _⟩ ?_
  refine pn_ifne_b (tgt := 10) hx hb dX5_end_5 (by decide) (fun c_5 => ?_) (fun c_5 => ?_)
  · obtain ⟨x, hl_x, hh_x, rfl⟩ := wi_ex (by omega) c_5
    have ix_x : ix (nI x) = x := nI_clamp (by omega)
    have hB : pw_B (fun k => k = 3) C C := pw_B.rf
    refine lv_aload_n hx hb dX5_end_10 rfl (lv_at hl 0 rfl) ?_
    refine pw_get hx hb hts (fun _ h9 => List.mem_cons_of_mem _ (List.mem_append_right _ h9)) hown hK hP 0 rfl rfl 3 (by decide) hF rfl (hts (.fieldLink RX5 16 "PastDrawsModel" "isEnd" "[Z") (List.mem_of_getElem? (i := 1) rfl)) dX5_end_11 ?_
    refine lv_iload_n hx hb dX5_end_14 rfl (lv_at hl 1 rfl) ?_
    refine pw_zald hx hb hK hP 3 rfl (by omega) (by decide) (v := pb (en x)) (hE x (by omega)) dX5_end_15 ?_
    refine lv_istore_n (lv' := [(3, .int (pb (en x))), (0, .ref (Ad 0)), (1, .int (nI x)), (2, .int (pb b))]) hx hb dX5_end_16 rfl hl (by decide) rfl (fun ls hl => ?_)
    refine lv_aload_n hx hb dX5_end_17 rfl (lv_at hl 1 rfl) ?_
    refine pw_get hx hb hts (fun _ h9 => List.mem_cons_of_mem _ (List.mem_append_right _ h9)) hown hK hP 0 rfl rfl 3 (by decide) hF rfl (hts (.fieldLink RX5 16 "PastDrawsModel" "isEnd" "[Z") (List.mem_of_getElem? (i := 1) rfl)) dX5_end_18 ?_
    refine lv_iload_n hx hb dX5_end_21 rfl (lv_at hl 2 rfl) ?_
    refine lv_iload_n hx hb dX5_end_22 rfl (lv_at hl 3 rfl) ?_
    refine pw_zast hx hb hK hP hI hS 3 rfl (by omega) (by decide) (pb_nar _) dX5_end_23 (fun H locs hP hS => ?_)
    obtain ⟨C23, hC23⟩ : ∃ z9, z9 = pw_setI C 3 x (pb b) := ⟨_, rfl⟩
    rw [← hC23] at hP
    have hB := by have hB9 := hB; exact (show pw_B (fun k => k = 3) C C23 by rw [hC23]; exact hB9.setI (by show 3 = 3; first | trivial | omega))
    refine lv_iload_n hx hb dX5_end_24 rfl (lv_at hl 0 rfl) ?_
    refine pn_ifeq_b (tgt := 32) hx hb dX5_end_25 (by decide) (fun c_25 => ?_) (fun c_25 => ?_)
    · refine lv_iconst (v := nI 0) hx hb dX5_end_32 (by decide) ?_
      have ef : f_end n en (nI x) = pb (en x) := by unfold f_end; rw [if_pos c_5, ix_x]
      have eu : u_end n en (nI x) b = fun x9 => if x9 = x then b else en x9 := by unfold u_end; rw [if_pos c_5, ix_x]
      refine pw_topi (y := pb (en x)) (by rw [c_25]; rfl) ?_
      rw [ef, eu]
      exact W.iret hx hb hr (fun t ht _ => ⟨⟨_, C23, rfl, ⟨rfl, by rw [hC23]; exact MI_end hX⟩, by rw [ht]; exact hP⟩, hS.F ht⟩) hS.2.2 dX5_end_33
    · refine lv_iconst (v := nI 1) hx hb dX5_end_28 (by decide) ?_
      refine lv_goto (tgt := 33) hx hb dX5_end_29 (by decide) ?_
      have ef : f_end n en (nI x) = pb (en x) := by unfold f_end; rw [if_pos c_5, ix_x]
      have eu : u_end n en (nI x) b = fun x9 => if x9 = x then b else en x9 := by unfold u_end; rw [if_pos c_5, ix_x]
      refine pw_topi (y := pb (en x)) (by rw [c_25]; rfl) ?_
      rw [ef, eu]
      exact W.iret hx hb hr (fun t ht _ => ⟨⟨_, C23, rfl, ⟨rfl, by rw [hC23]; exact MI_end hX⟩, by rw [ht]; exact hP⟩, hS.F ht⟩) hS.2.2 dX5_end_33
  · refine lv_iconst (v := (-1)) hx hb dX5_end_8 (by decide) ?_
    have ef : f_end n en a = (-1) := by unfold f_end; rw [c_5]; rfl
    have eu : u_end n en a b = en := by unfold u_end; rw [c_5]; rfl
    rw [ef, eu]
    exact W.iret hx hb hr (fun t ht _ => ⟨⟨_, C, rfl, ⟨rfl, hX⟩, by rw [ht]; exact hP⟩, hS.F ht⟩) hS.2.2 dX5_end_9

set_option maxHeartbeats 4000000 in
set_option maxRecDepth 100000 in
theorem L5_cw_a {p : Program} {l : Launch} {e : Env} {s : State} {m : MethodId} {args : Array Value} {below : List Frame} {meth : Method} {c : Code} {Q : State → Prop} (S : CallFix p m c cX5_countWords 5 s args wsX5_countWords RX5) {D : va_G} {cy : Nat → ClassId} {Ad : Nat → Nat} {n mm : Nat} {pk : Int64} {tr : Int32} {C0 : pw_C} (hK : pw_K D cy s) (hI : pw_I Ad shM) (hF0 : fM n mm pk tr Ad C0) (hn : 1 ≤ n ∧ n ≤ 12) {mx : Nat → Nat → Option Nat} (hM0 : mM n mx C0) {en : Nat → Bool} (hE0 : mE n en C0) (len : Nat) (hle : len ≤ 25) (hk : ∀ (C : pw_C) (H : Heap) (locs : List Loc) (ls : Array Slot), pw_P D cy Ad shM C H → va_S (pw_fr Ad shM) s.heap H locs → (pw_B (fun k => k = 11) C0 C ∧ ∀ y, y < n → C.2.1 11 y = cnW mx en 0 y) → lv_has ls 5 [(0, .ref (Ad 0)), (1, .int (nI len))] → W p l e (k2_rm 0 0) s m args below meth c H locs 0 0 Q (F0 m 36 ls [])) : ∀ (f : Nat) (C : pw_C) (H : Heap) (locs : List Loc) (x : Nat) (ls : Array Slot), n - x < f → (pw_P D cy Ad shM C H) → (va_S (pw_fr Ad shM) s.heap H locs) → (pw_B (fun k => k = 11) C0 C) → (x ≤ n) → (∀ y, y < x → C.2.1 11 y = cnW mx en 0 y) → lv_has ls 5 [(2, .int (nI x)), (0, .ref (Ad 0)), (1, .int (nI len))] → W p l e (k2_rm 0 0) s m args below meth c H locs 0 0 Q (F0 m 2 ls []) := by
  have hx := S.1
  have hb := S.2.1
  have hml := S.2.2.1
  have hown := S.2.2.2.1
  have hts := S.2.2.2.2
  intro f
  induction f with
  | zero => intro C H locs x ls hf; exact absurd hf (Nat.not_lt_zero _)
  | succ f ih =>
    intro C H locs x ls hf hP hS hB hx0 hv hl
    have hF := fM_B hF0 hB
    have hM := mM_B hM0 hB (by omega)
    have hE := mE_B hE0 hB (by omega)
    refine lv_iload_n hx hb dX5_countWords_2 rfl (lv_at hl 0 rfl) ?_
    refine lv_aload_n hx hb dX5_countWords_3 rfl (lv_at hl 1 rfl) ?_
    refine pw_get hx hb hts (fun _ h9 => List.mem_cons_of_mem _ (List.mem_append_right _ h9)) hown hK hP 0 rfl rfl 0 (by decide) hF rfl (hts (.fieldLink RX5 64 "PastDrawsModel" "n" "I") (List.mem_of_getElem? (i := 1) rfl)) dX5_countWords_4 ?_
    refine pn_icmp_ge (tgt := 36) hx hb (by omega) (by omega) dX5_countWords_7 (by decide) (fun c_7 => ?_) (fun c_7 => ?_)
    · exact hk C H locs ls hP hS ⟨hB, fun y hy => hv y (by omega)⟩ (lv_sub hl [1, 2] rfl)
    · refine lv_aload_n hx hb dX5_countWords_10 rfl (lv_at hl 1 rfl) ?_
      refine pw_get hx hb hts (fun _ h9 => List.mem_cons_of_mem _ (List.mem_append_right _ h9)) hown hK hP 0 rfl rfl 14 (by decide) hF rfl (hts (.fieldLink RX5 46 "PastDrawsModel" "from" "[J") (List.mem_of_getElem? (i := 2) rfl)) dX5_countWords_11 ?_
      refine lv_iload_n hx hb dX5_countWords_14 rfl (lv_at hl 0 rfl) ?_
      refine lv_aload_n hx hb dX5_countWords_15 rfl (lv_at hl 1 rfl) ?_
      refine pw_get hx hb hts (fun _ h9 => List.mem_cons_of_mem _ (List.mem_append_right _ h9)) hown hK hP 0 rfl rfl 3 (by decide) hF rfl (hts (.fieldLink RX5 16 "PastDrawsModel" "isEnd" "[Z") (List.mem_of_getElem? (i := 3) rfl)) dX5_countWords_16 ?_
      refine lv_iload_n hx hb dX5_countWords_19 rfl (lv_at hl 0 rfl) ?_
      refine pw_zald hx hb hK hP 3 rfl (by omega) (by decide) (v := pb (en x)) (hE x (by omega)) dX5_countWords_20 ?_
      refine pn_ifeq_b (tgt := 28) hx hb dX5_countWords_21 (by decide) (fun c_21 => ?_) (fun c_21 => ?_)
      · refine lv_lconst (v := 0) hx hb dX5_countWords_28 (by decide) ?_
        refine pw_last hx hb hK hP hI hS 11 rfl (by omega) (by decide) dX5_countWords_29 (fun H locs hP hS => ?_)
        obtain ⟨C29, hC29⟩ : ∃ z9, z9 = pw_setL C 11 x 0 := ⟨_, rfl⟩
        rw [← hC29] at hP
        have hB := by have hB9 := hB; exact (show pw_B (fun k => k = 11) C0 C29 by rw [hC29]; exact hB9.setL (by show 11 = 11; first | trivial | omega))
        have hF := fM_B hF0 hB
        have hM := mM_B hM0 hB (by omega)
        have hE := mE_B hE0 hB (by omega)
        refine lv_iinc (v := nI (x + 1)) (lv' := [(2, .int (nI (x + 1))), (0, .ref (Ad 0)), (1, .int (nI len))]) hx hb dX5_countWords_30 hl (k := 0) rfl (nI_add _ 1) (by decide) rfl (fun ls hl => ?_)
        refine lv_goto (tgt := 2) hx hb dX5_countWords_33 (by decide) ?_
        exact ih C29 H locs (x + 1) ls (by omega) hP hS hB (by omega) (fun y hy => by
          rw [hC29, sl_at]
          by_cases q : y = x
          · rw [if_pos q, q]; show _ = if en x = true then (1 : Int64) else 0; rw [c_21]; rfl
          · rw [if_neg q]; exact hv y (by omega)) (lv_sub hl [0, 1, 2] rfl)
      · refine lv_lconst (v := 1) hx hb dX5_countWords_24 (by decide) ?_
        refine lv_goto (tgt := 29) hx hb dX5_countWords_25 (by decide) ?_
        refine pw_last hx hb hK hP hI hS 11 rfl (by omega) (by decide) dX5_countWords_29 (fun H locs hP hS => ?_)
        obtain ⟨C29, hC29⟩ : ∃ z9, z9 = pw_setL C 11 x 1 := ⟨_, rfl⟩
        rw [← hC29] at hP
        have hB := by have hB9 := hB; exact (show pw_B (fun k => k = 11) C0 C29 by rw [hC29]; exact hB9.setL (by show 11 = 11; first | trivial | omega))
        have hF := fM_B hF0 hB
        have hM := mM_B hM0 hB (by omega)
        have hE := mE_B hE0 hB (by omega)
        refine lv_iinc (v := nI (x + 1)) (lv' := [(2, .int (nI (x + 1))), (0, .ref (Ad 0)), (1, .int (nI len))]) hx hb dX5_countWords_30 hl (k := 0) rfl (nI_add _ 1) (by decide) rfl (fun ls hl => ?_)
        refine lv_goto (tgt := 2) hx hb dX5_countWords_33 (by decide) ?_
        exact ih C29 H locs (x + 1) ls (by omega) hP hS hB (by omega) (fun y hy => by
          rw [hC29, sl_at]
          by_cases q : y = x
          · rw [if_pos q, q]; show _ = if en x = true then (1 : Int64) else 0; rw [c_21]; rfl
          · rw [if_neg q]; exact hv y (by omega)) (lv_sub hl [0, 1, 2] rfl)

set_option maxHeartbeats 4000000 in
set_option maxRecDepth 100000 in
theorem L5_cw_c {p : Program} {l : Launch} {e : Env} {s : State} {m : MethodId} {args : Array Value} {below : List Frame} {meth : Method} {c : Code} {Q : State → Prop} (S : CallFix p m c cX5_countWords 5 s args wsX5_countWords RX5) {D : va_G} {cy : Nat → ClassId} {Ad : Nat → Nat} {n mm : Nat} {pk : Int64} {tr : Int32} {C0 : pw_C} (hK : pw_K D cy s) (hI : pw_I Ad shM) (hF0 : fM n mm pk tr Ad C0) (hn : 1 ≤ n ∧ n ≤ 12) {mx : Nat → Nat → Option Nat} (hM0 : mM n mx C0) {en : Nat → Bool} (hE0 : mE n en C0) (len : Nat) (hle : len ≤ 25) (j x : Nat) (hj : j + 1 ≤ 25) (hx0 : x < n) (hk : ∀ (C : pw_C) (H : Heap) (locs : List Loc) (ls : Array Slot), pw_P D cy Ad shM C H → va_S (pw_fr Ad shM) s.heap H locs → (pw_B (fun k => k = 11) C0 C ∧ (∀ l9, l9 < j + 1 → ∀ y, y < n → C.2.1 11 (12 * l9 + y) = cnW mx en l9 y) ∧ (∀ y, y < x → C.2.1 11 (12 * (j + 1) + y) = cnW mx en (j + 1) y) ∧ C.2.1 11 (12 * (j + 1) + x) = cbS mx (cnW mx en j) x 4) → lv_has ls 5 [(3, .int (nI x)), (2, .int (nI (j + 1))), (0, .ref (Ad 0)), (1, .int (nI len))] → W p l e (k2_rm 0 0) s m args below meth c H locs 0 0 Q (F0 m 136 ls [])) : ∀ (f : Nat) (C : pw_C) (H : Heap) (locs : List Loc) (ch : Nat) (ls : Array Slot), 4 - ch < f → (pw_P D cy Ad shM C H) → (va_S (pw_fr Ad shM) s.heap H locs) → (pw_B (fun k => k = 11) C0 C) → (ch ≤ 4) → (∀ l9, l9 < j + 1 → ∀ y, y < n → C.2.1 11 (12 * l9 + y) = cnW mx en l9 y) → (∀ y, y < x → C.2.1 11 (12 * (j + 1) + y) = cnW mx en (j + 1) y) → (C.2.1 11 (12 * (j + 1) + x) = cbS mx (cnW mx en j) x ch) → lv_has ls 5 [(4, .int (nI ch)), (3, .int (nI x)), (2, .int (nI (j + 1))), (0, .ref (Ad 0)), (1, .int (nI len))] → W p l e (k2_rm 0 0) s m args below meth c H locs 0 0 Q (F0 m 68 ls []) := by
  have hx := S.1
  have hb := S.2.1
  have hml := S.2.2.1
  have hown := S.2.2.2.1
  have hts := S.2.2.2.2
  intro f
  induction f with
  | zero => intro C H locs ch ls hf; exact absurd hf (Nat.not_lt_zero _)
  | succ f ih =>
    intro C H locs ch ls hf hP hS hB hc9 hall hrow hcur hl
    have hF := fM_B hF0 hB
    have hM := mM_B hM0 hB (by omega)
    have hE := mE_B hE0 hB (by omega)
    refine lv_iload hx hb dX5_countWords_68 (lv_at hl 0 rfl) ?_
    refine lv_iconst (v := nI 4) hx hb dX5_countWords_70 (by decide) ?_
    refine pn_icmp_ge (tgt := 136) hx hb (by omega) (by omega) dX5_countWords_71 (by decide) (fun c_71 => ?_) (fun c_71 => ?_)
    · obtain rfl : ch = 4 := by omega
      exact hk C H locs ls hP hS ⟨hB, hall, hrow, hcur⟩ (lv_sub hl [1, 2, 3, 4] rfl)
    · refine lv_aload_n hx hb dX5_countWords_74 rfl (lv_at hl 3 rfl) ?_
      refine pw_get hx hb hts (fun _ h9 => List.mem_cons_of_mem _ (List.mem_append_right _ h9)) hown hK hP 0 rfl rfl 14 (by decide) hF rfl (hts (.fieldLink RX5 46 "PastDrawsModel" "from" "[J") (List.mem_of_getElem? (i := 2) rfl)) dX5_countWords_75 ?_
      refine lv_bipush (v := nI 12) hx hb dX5_countWords_78 (by decide) ?_
      refine lv_iload_n hx hb dX5_countWords_80 rfl (lv_at hl 2 rfl) ?_
      refine lv_imul hx hb dX5_countWords_81 ?_
      refine pw_topi (pk_mul _ _) ?_
      refine lv_iload_n hx hb dX5_countWords_82 rfl (lv_at hl 1 rfl) ?_
      refine lv_iadd hx hb dX5_countWords_83 ?_
      refine pw_topi (nI_add _ _) ?_
      refine lv_dup2_11 hx hb dX5_countWords_84 rfl rfl ?_
      refine pw_lald hx hb hK hP 11 rfl (by omega) (by decide) (v := cbS mx (cnW mx en j) x ch) hcur dX5_countWords_85 ?_
      refine lv_aload_n hx hb dX5_countWords_86 rfl (lv_at hl 3 rfl) ?_
      refine pw_get hx hb hts (fun _ h9 => List.mem_cons_of_mem _ (List.mem_append_right _ h9)) hown hK hP 0 rfl rfl 2 (by decide) hF rfl (hts (.fieldLink RX5 13 "PastDrawsModel" "leads" "[I") (List.mem_of_getElem? (i := 4) rfl)) dX5_countWords_87 ?_
      refine lv_iconst (v := nI 4) hx hb dX5_countWords_90 (by decide) ?_
      refine lv_iload_n hx hb dX5_countWords_91 rfl (lv_at hl 1 rfl) ?_
      refine lv_imul hx hb dX5_countWords_92 ?_
      refine pw_topi (pk_mul _ _) ?_
      refine lv_iload hx hb dX5_countWords_93 (lv_at hl 0 rfl) ?_
      refine lv_iadd hx hb dX5_countWords_95 ?_
      refine pw_topi (nI_add _ _) ?_
      have hu_96 : ch < 4 := (by first | exact sgn_lt _ _ | omega)
      have hx_96 : x < n := (by first | exact sgn_lt _ _ | omega)
      refine pw_iald hx hb hK hP 2 rfl (by omega) (by decide) (v := oi (mx x ch)) (hM _ hx_96 _ hu_96).2 dX5_countWords_96 ?_
      rcases ho_97 : mx x ch with _ | y_97
      · refine pw_topi (y := (-2)) rfl ?_
        refine lv_if_ge (tgt := 104) hx hb dX5_countWords_97 (by decide) (fun c_97 => absurd c_97 (by decide)) (fun c_97 => ?_)
        refine lv_lconst (v := 0) hx hb dX5_countWords_100 (by decide) ?_
        refine lv_goto (tgt := 128) hx hb dX5_countWords_101 (by decide) ?_
        refine lv_ladd hx hb dX5_countWords_128 ?_
        refine pw_topl (y := cbS mx (cnW mx en j) x (ch + 1)) (by show _ = cbS mx (cnW mx en j) x ch + wv mx (cnW mx en j) x ch; unfold wv; rw [ho_97]) ?_
        refine pw_last hx hb hK hP hI hS 11 rfl (by omega) (by decide) dX5_countWords_129 (fun H locs hP hS => ?_)
        obtain ⟨C129, hC129⟩ : ∃ z9, z9 = pw_setL C 11 ((12 * (j + 1)) + x) (cbS mx (cnW mx en j) x (ch + 1)) := ⟨_, rfl⟩
        rw [← hC129] at hP
        have hB := by have hB9 := hB; exact (show pw_B (fun k => k = 11) C0 C129 by rw [hC129]; exact hB9.setL (by show 11 = 11; first | trivial | omega))
        have hF := fM_B hF0 hB
        have hM := mM_B hM0 hB (by omega)
        have hE := mE_B hE0 hB (by omega)
        refine lv_iinc (v := nI (ch + 1)) (lv' := [(4, .int (nI (ch + 1))), (3, .int (nI x)), (2, .int (nI (j + 1))), (0, .ref (Ad 0)), (1, .int (nI len))]) hx hb dX5_countWords_130 hl (k := 0) rfl (nI_add _ 1) (by decide) rfl (fun ls hl => ?_)
        refine lv_goto (tgt := 68) hx hb dX5_countWords_133 (by decide) ?_
        exact ih C129 H locs (ch + 1) ls (by omega) hP hS hB (by omega) (fun l9 h9 y hy => by rw [hC129, sl_at, if_neg (by omega)]; exact hall l9 h9 y hy) (fun y hy => by rw [hC129, sl_at, if_neg (by omega)]; exact hrow y hy) (by rw [hC129, sl_at, if_pos rfl]) (lv_sub hl [0, 1, 2, 3, 4] rfl)
      · have hy_97 : y_97 < n := (hM x (by omega) ch (by omega)).1 y_97 ho_97
        refine pw_topi (y := nI y_97) rfl ?_
        refine lv_if_ge (tgt := 104) hx hb dX5_countWords_97 (by decide) (fun _ => ?_) (fun h9 => absurd (nI_pos' (by omega)) h9)
        refine lv_aload_n hx hb dX5_countWords_104 rfl (lv_at hl 3 rfl) ?_
        refine pw_get hx hb hts (fun _ h9 => List.mem_cons_of_mem _ (List.mem_append_right _ h9)) hown hK hP 0 rfl rfl 14 (by decide) hF rfl (hts (.fieldLink RX5 46 "PastDrawsModel" "from" "[J") (List.mem_of_getElem? (i := 2) rfl)) dX5_countWords_105 ?_
        refine lv_bipush (v := nI 12) hx hb dX5_countWords_108 (by decide) ?_
        refine lv_iload_n hx hb dX5_countWords_110 rfl (lv_at hl 2 rfl) ?_
        refine lv_imul hx hb dX5_countWords_111 ?_
        refine pw_topi (pk_mul _ _) ?_
        refine lv_bipush (v := nI 12) hx hb dX5_countWords_112 (by decide) ?_
        refine lv_isub hx hb dX5_countWords_114 ?_
        refine pw_topi (pk_sub (by omega)) ?_
        refine lv_aload_n hx hb dX5_countWords_115 rfl (lv_at hl 3 rfl) ?_
        refine pw_get hx hb hts (fun _ h9 => List.mem_cons_of_mem _ (List.mem_append_right _ h9)) hown hK hP 0 rfl rfl 2 (by decide) hF rfl (hts (.fieldLink RX5 13 "PastDrawsModel" "leads" "[I") (List.mem_of_getElem? (i := 4) rfl)) dX5_countWords_116 ?_
        refine lv_iconst (v := nI 4) hx hb dX5_countWords_119 (by decide) ?_
        refine lv_iload_n hx hb dX5_countWords_120 rfl (lv_at hl 1 rfl) ?_
        refine lv_imul hx hb dX5_countWords_121 ?_
        refine pw_topi (pk_mul _ _) ?_
        refine lv_iload hx hb dX5_countWords_122 (lv_at hl 0 rfl) ?_
        refine lv_iadd hx hb dX5_countWords_124 ?_
        refine pw_topi (nI_add _ _) ?_
        refine pw_iald hx hb hK hP 2 rfl (by omega) (by decide) (v := nI y_97) (by rw [(hM x (by omega) ch (by omega)).2, ho_97]; rfl) dX5_countWords_125 ?_
        refine lv_iadd hx hb dX5_countWords_126 ?_
        refine pw_topi (nI_add _ _) ?_
        refine pw_lald hx hb hK hP 11 rfl (by omega) (by decide) (v := cnW mx en j y_97) (by rw [show 12 * (j + 1) - 12 + y_97 = 12 * j + y_97 by omega]; exact hall j (by omega) y_97 hy_97) dX5_countWords_127 ?_
        refine lv_ladd hx hb dX5_countWords_128 ?_
        refine pw_topl (y := cbS mx (cnW mx en j) x (ch + 1)) (by show _ = cbS mx (cnW mx en j) x ch + wv mx (cnW mx en j) x ch; unfold wv; rw [ho_97]) ?_
        refine pw_last hx hb hK hP hI hS 11 rfl (by omega) (by decide) dX5_countWords_129 (fun H locs hP hS => ?_)
        obtain ⟨C129, hC129⟩ : ∃ z9, z9 = pw_setL C 11 ((12 * (j + 1)) + x) (cbS mx (cnW mx en j) x (ch + 1)) := ⟨_, rfl⟩
        rw [← hC129] at hP
        have hB := by have hB9 := hB; exact (show pw_B (fun k => k = 11) C0 C129 by rw [hC129]; exact hB9.setL (by show 11 = 11; first | trivial | omega))
        have hF := fM_B hF0 hB
        have hM := mM_B hM0 hB (by omega)
        have hE := mE_B hE0 hB (by omega)
        refine lv_iinc (v := nI (ch + 1)) (lv' := [(4, .int (nI (ch + 1))), (3, .int (nI x)), (2, .int (nI (j + 1))), (0, .ref (Ad 0)), (1, .int (nI len))]) hx hb dX5_countWords_130 hl (k := 0) rfl (nI_add _ 1) (by decide) rfl (fun ls hl => ?_)
        refine lv_goto (tgt := 68) hx hb dX5_countWords_133 (by decide) ?_
        exact ih C129 H locs (ch + 1) ls (by omega) hP hS hB (by omega) (fun l9 h9 y hy => by rw [hC129, sl_at, if_neg (by omega)]; exact hall l9 h9 y hy) (fun y hy => by rw [hC129, sl_at, if_neg (by omega)]; exact hrow y hy) (by rw [hC129, sl_at, if_pos rfl]) (lv_sub hl [0, 1, 2, 3, 4] rfl)

set_option maxHeartbeats 4000000 in
set_option maxRecDepth 100000 in
theorem L5_cw_k {p : Program} {l : Launch} {e : Env} {s : State} {m : MethodId} {args : Array Value} {below : List Frame} {meth : Method} {c : Code} {Q : State → Prop} (S : CallFix p m c cX5_countWords 5 s args wsX5_countWords RX5) {D : va_G} {cy : Nat → ClassId} {Ad : Nat → Nat} {n mm : Nat} {pk : Int64} {tr : Int32} {C0 : pw_C} (hK : pw_K D cy s) (hI : pw_I Ad shM) (hF0 : fM n mm pk tr Ad C0) (hn : 1 ≤ n ∧ n ≤ 12) {mx : Nat → Nat → Option Nat} (hM0 : mM n mx C0) {en : Nat → Bool} (hE0 : mE n en C0) (len : Nat) (hle : len ≤ 25) (j : Nat) (hj : j + 1 ≤ 25) (hk : ∀ (C : pw_C) (H : Heap) (locs : List Loc) (ls : Array Slot), pw_P D cy Ad shM C H → va_S (pw_fr Ad shM) s.heap H locs → (pw_B (fun k => k = 11) C0 C ∧ (∀ l9, l9 < j + 2 → ∀ y, y < n → C.2.1 11 (12 * l9 + y) = cnW mx en l9 y)) → lv_has ls 5 [(2, .int (nI (j + 1))), (0, .ref (Ad 0)), (1, .int (nI len))] → W p l e (k2_rm 0 0) s m args below meth c H locs 0 0 Q (F0 m 142 ls [])) : ∀ (f : Nat) (C : pw_C) (H : Heap) (locs : List Loc) (x : Nat) (ls : Array Slot), n - x < f → (pw_P D cy Ad shM C H) → (va_S (pw_fr Ad shM) s.heap H locs) → (pw_B (fun k => k = 11) C0 C) → (x ≤ n) → (∀ l9, l9 < j + 1 → ∀ y, y < n → C.2.1 11 (12 * l9 + y) = cnW mx en l9 y) → (∀ y, y < x → C.2.1 11 (12 * (j + 1) + y) = cnW mx en (j + 1) y) → lv_has ls 5 [(3, .int (nI x)), (2, .int (nI (j + 1))), (0, .ref (Ad 0)), (1, .int (nI len))] → W p l e (k2_rm 0 0) s m args below meth c H locs 0 0 Q (F0 m 45 ls []) := by
  have hx := S.1
  have hb := S.2.1
  have hml := S.2.2.1
  have hown := S.2.2.2.1
  have hts := S.2.2.2.2
  intro f
  induction f with
  | zero => intro C H locs x ls hf; exact absurd hf (Nat.not_lt_zero _)
  | succ f ih =>
    intro C H locs x ls hf hP hS hB hx0 hall hrow hl
    have hF := fM_B hF0 hB
    have hM := mM_B hM0 hB (by omega)
    have hE := mE_B hE0 hB (by omega)
    refine lv_iload_n hx hb dX5_countWords_45 rfl (lv_at hl 0 rfl) ?_
    refine lv_aload_n hx hb dX5_countWords_46 rfl (lv_at hl 2 rfl) ?_
    refine pw_get hx hb hts (fun _ h9 => List.mem_cons_of_mem _ (List.mem_append_right _ h9)) hown hK hP 0 rfl rfl 0 (by decide) hF rfl (hts (.fieldLink RX5 64 "PastDrawsModel" "n" "I") (List.mem_of_getElem? (i := 1) rfl)) dX5_countWords_47 ?_
    refine pn_icmp_ge (tgt := 142) hx hb (by omega) (by omega) dX5_countWords_50 (by decide) (fun c_50 => ?_) (fun c_50 => ?_)
    · obtain rfl : x = n := by omega
      exact hk C H locs ls hP hS ⟨hB, fun l9 h9 y hy => by
        rcases Nat.lt_or_ge l9 (j + 1) with g | g
        · exact hall l9 g y hy
        · obtain rfl : l9 = j + 1 := by omega
          exact hrow y hy⟩ (lv_sub hl [1, 2, 3] rfl)
    · refine lv_aload_n hx hb dX5_countWords_53 rfl (lv_at hl 2 rfl) ?_
      refine pw_get hx hb hts (fun _ h9 => List.mem_cons_of_mem _ (List.mem_append_right _ h9)) hown hK hP 0 rfl rfl 14 (by decide) hF rfl (hts (.fieldLink RX5 46 "PastDrawsModel" "from" "[J") (List.mem_of_getElem? (i := 2) rfl)) dX5_countWords_54 ?_
      refine lv_bipush (v := nI 12) hx hb dX5_countWords_57 (by decide) ?_
      refine lv_iload_n hx hb dX5_countWords_59 rfl (lv_at hl 1 rfl) ?_
      refine lv_imul hx hb dX5_countWords_60 ?_
      refine pw_topi (pk_mul _ _) ?_
      refine lv_iload_n hx hb dX5_countWords_61 rfl (lv_at hl 0 rfl) ?_
      refine lv_iadd hx hb dX5_countWords_62 ?_
      refine pw_topi (nI_add _ _) ?_
      refine lv_lconst (v := 0) hx hb dX5_countWords_63 (by decide) ?_
      refine pw_last hx hb hK hP hI hS 11 rfl (by omega) (by decide) dX5_countWords_64 (fun H locs hP hS => ?_)
      obtain ⟨C64, hC64⟩ : ∃ z9, z9 = pw_setL C 11 ((12 * (j + 1)) + x) 0 := ⟨_, rfl⟩
      rw [← hC64] at hP
      have hB := by have hB9 := hB; exact (show pw_B (fun k => k = 11) C0 C64 by rw [hC64]; exact hB9.setL (by show 11 = 11; first | trivial | omega))
      have hF := fM_B hF0 hB
      have hM := mM_B hM0 hB (by omega)
      have hE := mE_B hE0 hB (by omega)
      refine lv_iconst (v := nI 0) hx hb dX5_countWords_65 (by decide) ?_
      refine lv_istore (lv' := [(4, .int (nI 0)), (3, .int (nI x)), (2, .int (nI (j + 1))), (0, .ref (Ad 0)), (1, .int (nI len))]) hx hb dX5_countWords_66 hl (by decide) rfl (fun ls hl => ?_)
      refine L5_cw_c S hK hI hF0 hn hM0 hE0 len hle j x hj (by omega) (fun C9 H locs ls hP hS hR hl => ?_) 5 C64 H locs 0 ls (by omega) hP hS hB (by omega) (fun l9 h9 y hy => by rw [hC64, sl_at, if_neg (by omega)]; exact hall l9 h9 y hy) (fun y hy => by rw [hC64, sl_at, if_neg (by omega)]; exact hrow y hy) (by rw [hC64, sl_at, if_pos rfl]; rfl) (lv_sub hl [0, 1, 2, 3, 4] rfl)
      obtain ⟨hB, hall, hrow, hcur⟩ := hR
      refine lv_iinc (v := nI (x + 1)) (lv' := [(3, .int (nI (x + 1))), (2, .int (nI (j + 1))), (0, .ref (Ad 0)), (1, .int (nI len))]) hx hb dX5_countWords_136 hl (k := 0) rfl (nI_add _ 1) (by decide) rfl (fun ls hl => ?_)
      refine lv_goto (tgt := 45) hx hb dX5_countWords_139 (by decide) ?_
      exact ih C9 H locs (x + 1) ls (by omega) hP hS hB (by omega) hall (fun y hy => by
        rcases Nat.lt_or_ge y x with g | g
        · exact hrow y g
        · obtain rfl : y = x := by omega
          exact hcur) (lv_sub hl [0, 1, 2, 3] rfl)

set_option maxHeartbeats 4000000 in
set_option maxRecDepth 100000 in
theorem L5_cw_l {p : Program} {l : Launch} {e : Env} {s : State} {m : MethodId} {args : Array Value} {below : List Frame} {meth : Method} {c : Code} {Q : State → Prop} (S : CallFix p m c cX5_countWords 5 s args wsX5_countWords RX5) {D : va_G} {cy : Nat → ClassId} {Ad : Nat → Nat} {n mm : Nat} {pk : Int64} {tr : Int32} {C0 : pw_C} (hK : pw_K D cy s) (hI : pw_I Ad shM) (hF0 : fM n mm pk tr Ad C0) (hn : 1 ≤ n ∧ n ≤ 12) {mx : Nat → Nat → Option Nat} (hM0 : mM n mx C0) {en : Nat → Bool} (hE0 : mE n en C0) (len : Nat) (hle : len ≤ 25) (hq : ∀ (pc9 : Nat) (C : pw_C) (H : Heap) (locs : List Loc) (ls : Array Slot), decode cX5_countWords pc9 = .ok (.return_, 1) → pw_P D cy Ad shM C H → va_S (pw_fr Ad shM) s.heap H locs → (pw_B (fun k => k = 11) C0 C ∧ ∀ l9, l9 ≤ len → ∀ y, y < n → C.2.1 11 (12 * l9 + y) = cnW mx en l9 y) → W p l e (k2_rm 0 0) s m args below meth c H locs 0 0 Q (F0 m pc9 ls [])) : ∀ (f : Nat) (C : pw_C) (H : Heap) (locs : List Loc) (j : Nat) (ls : Array Slot), len - j < f → (pw_P D cy Ad shM C H) → (va_S (pw_fr Ad shM) s.heap H locs) → (pw_B (fun k => k = 11) C0 C) → (j ≤ len) → (∀ l9, l9 < j + 1 → ∀ y, y < n → C.2.1 11 (12 * l9 + y) = cnW mx en l9 y) → lv_has ls 5 [(2, .int (nI (j + 1))), (0, .ref (Ad 0)), (1, .int (nI len))] → W p l e (k2_rm 0 0) s m args below meth c H locs 0 0 Q (F0 m 38 ls []) := by
  have hx := S.1
  have hb := S.2.1
  have hml := S.2.2.1
  have hown := S.2.2.2.1
  have hts := S.2.2.2.2
  intro f
  induction f with
  | zero => intro C H locs j ls hf; exact absurd hf (Nat.not_lt_zero _)
  | succ f ih =>
    intro C H locs j ls hf hP hS hB hj hall hl
    refine lv_iload_n hx hb dX5_countWords_38 rfl (lv_at hl 0 rfl) ?_
    refine lv_iload_n hx hb dX5_countWords_39 rfl (lv_at hl 2 rfl) ?_
    refine pn_icmp_gt (tgt := 148) hx hb (by omega) (by omega) dX5_countWords_40 (by decide) (fun c_40 => ?_) (fun c_40 => ?_)
    · exact hq _ C H locs ls dX5_countWords_148 hP hS ⟨hB, fun l9 h9 y hy => hall l9 (by omega) y hy⟩
    · refine lv_iconst (v := nI 0) hx hb dX5_countWords_43 (by decide) ?_
      refine lv_istore_n (lv' := [(3, .int (nI 0)), (2, .int (nI (j + 1))), (0, .ref (Ad 0)), (1, .int (nI len))]) hx hb dX5_countWords_44 rfl hl (by decide) rfl (fun ls hl => ?_)
      refine L5_cw_k S hK hI hF0 hn hM0 hE0 len hle j (by omega) (fun C9 H locs ls hP hS hR hl => ?_) (n + 1) C H locs 0 ls (by omega) hP hS hB (by omega) hall (fun y hy => by omega) (lv_sub hl [0, 1, 2, 3] rfl)
      refine lv_iinc (v := nI ((j + 1) + 1)) (lv' := [(2, .int (nI ((j + 1) + 1))), (0, .ref (Ad 0)), (1, .int (nI len))]) hx hb dX5_countWords_142 hl (k := 0) rfl (nI_add _ 1) (by decide) rfl (fun ls hl => ?_)
      refine lv_goto (tgt := 38) hx hb dX5_countWords_145 (by decide) ?_
      exact ih C9 H locs (j + 1) ls (by omega) hP hS hR.1 (by omega) hR.2 (lv_sub hl [0, 1, 2] rfl)

set_option maxHeartbeats 4000000 in
set_option maxRecDepth 100000 in
theorem c_X5_countWords (l : Launch) (D : va_G) (cy : Nat → ClassId) (Ad : Nat → Nat) (n mm : Nat) (pk : Int64) (tr : Int32) (C : pw_C) (hI : pw_I Ad shM) (hn : 1 ≤ n ∧ n ≤ 12) (hF : fM n mm pk tr Ad C) (mx : Nat → Nat → Option Nat) (hM : mM n mx C) (en : Nat → Bool) (hE : mE n en C) (len : Nat) (hle : len ≤ 25) : Met l yX5_countWords wsX5_countWords (k2_rm 0 0) (pw_Pre ([.ref (Ad 0), .int (nI len)]) D cy Ad shM C) (pw_Post (fun r9 C' => r9 = none ∧ (pw_B (fun k => k = 11) C C' ∧ ∀ l9, l9 ≤ len → ∀ y, y < n → C'.2.1 11 (12 * l9 + y) = cnW mx en l9 y)) D cy Ad shM) 0 0 (pw_fr Ad shM) := by
  refine Met.ofW (cc := cX5_countWords) (maxL := 5) (ret := none) (by decide) rfl ?_
  intro p e s m args below meth c s₁ B hml hv
  obtain ⟨rfl, hP, hK⟩ := hv
  have hx := B.exec
  have hb := B.bytes
  have hr := B.returns
  have hts := atoms_spec (ws := wsX5_countWords) B.pre
  have hown : s.vm.findClass RX5 = some m.cls := findClass_of_methodNamed B.named
  have hlocks := B.notSynchronized
  have S : CallFix p m c cX5_countWords 5 s ([.ref (Ad 0), .int (nI len)]).toArray wsX5_countWords RX5 := ⟨hx, hb, hml, hown, hts⟩
  change W p l e (k2_rm 0 0) s m _ below meth c s.heap [] 0 0 _ _
  have hl := lv_entry ([.ref (Ad 0), .int (nI len)]) (n := 5) (Nat.le_of_ble_eq_true rfl)
  rw [lg_entry_eq]
  generalize (lg_sl ([.ref (Ad 0), .int (nI len)]) ++ List.replicate (5 - (lg_sl ([.ref (Ad 0), .int (nI len)])).length) Slot.unset).toArray = ls at hl ⊢
  have hl : lv_has ls 5 [(0, .ref (Ad 0)), (1, .int (nI len))] := hl
  have hS : va_S (pw_fr Ad shM) s.heap s.heap [] := va_S.rf
  refine lv_iconst (v := nI 0) hx hb dX5_countWords_0 (by decide) ?_
  refine lv_istore_n (lv' := [(2, .int (nI 0)), (0, .ref (Ad 0)), (1, .int (nI len))]) hx hb dX5_countWords_1 rfl hl (by decide) rfl (fun ls hl => ?_)
  refine L5_cw_a S hK hI hF hn hM hE len hle (fun C1 H locs ls hP hS hR hl => ?_) (n + 1) C s.heap [] 0 ls (by omega) hP hS pw_B.rf (by omega) (fun y hy => by omega) (lv_sub hl [0, 1, 2] rfl)
  refine lv_iconst (v := nI 1) hx hb dX5_countWords_36 (by decide) ?_
  refine lv_istore_n (lv' := [(2, .int (nI 1)), (0, .ref (Ad 0)), (1, .int (nI len))]) hx hb dX5_countWords_37 rfl hl (by decide) rfl (fun ls hl => ?_)
  exact L5_cw_l S hK hI hF hn hM hE len hle (fun pc9 C9 H9 locs9 ls9 hd9 hP9 hS9 hR9 => W.vret hx hb hr (fun t ht _ => ⟨⟨none, C9, rfl, ⟨rfl, hR9⟩, by rw [ht]; exact hP9⟩, hS9.F ht⟩) hS9.2.2 hd9) (len + 1) C1 H locs 0 ls (by omega) hP hS hR.1 (by omega) (fun l9 h9 y hy => by
    obtain rfl : l9 = 0 := by omega
    rw [Nat.mul_zero, Nat.zero_add]; exact hR.2 y hy) (lv_sub hl [0, 1, 2] rfl)

set_option maxHeartbeats 4000000 in
set_option maxRecDepth 100000 in
theorem c_X5_words (l : Launch) (D : va_G) (cy : Nat → ClassId) (Ad : Nat → Nat) (n mm : Nat) (C : pw_C) (hI : pw_I Ad shM) (hn : 1 ≤ n ∧ n ≤ 12) (hmm : 1 ≤ mm ∧ mm ≤ 16) (nx : Nat → Nat → Nat) (mx : Nat → Nat → Option Nat) (en : Nat → Bool) (am wt : Nat → Nat) (hX : MI n mm nx mx en am wt Ad C) (a : Int32) : Met l yX5_words wsX5_words (k2_rm 1 25) (pw_Pre ([.ref (Ad 0), .int a]) D cy Ad shM C) (pw_Post (fun r9 C' => r9 = some (.long (f_words mx en a)) ∧ (MI n mm nx mx en am wt Ad C')) D cy Ad shM) 0 0 (pw_fr Ad shM) := by
  refine Met.ofW (cc := cX5_words) (maxL := 2) (ret := (some .long)) (by decide) rfl ?_
  intro p e s m args below meth c s₁ B hml hv
  obtain ⟨rfl, hP, hK⟩ := hv
  have hx := B.exec
  have hb := B.bytes
  have hr := B.returns
  have hts := atoms_spec (ws := wsX5_words) B.pre
  have hown : s.vm.findClass RX5 = some m.cls := findClass_of_methodNamed B.named
  have hlocks := B.notSynchronized
  have S : CallFix p m c cX5_words 2 s ([.ref (Ad 0), .int a]).toArray wsX5_words RX5 := ⟨hx, hb, hml, hown, hts⟩
  change W p l e (k2_rm 1 25) s m _ below meth c s.heap [] 0 0 _ _
  have hl := lv_entry ([.ref (Ad 0), .int a]) (n := 2) (Nat.le_of_ble_eq_true rfl)
  rw [lg_entry_eq]
  generalize (lg_sl ([.ref (Ad 0), .int a]) ++ List.replicate (2 - (lg_sl ([.ref (Ad 0), .int a])).length) Slot.unset).toArray = ls at hl ⊢
  have hl : lv_has ls 2 [(0, .ref (Ad 0)), (1, .int a)] := hl
  have hS : va_S (pw_fr Ad shM) s.heap s.heap [] := va_S.rf
  obtain ⟨⟨pk, tr, hF⟩, hN, hM, hE, hA, hT⟩ := id hX
  refine lv_iload_n hx hb dX5_words_0 rfl (lv_at hl 1 rfl) ?_
  refine lv_i2l hx hb dX5_words_1 rfl ?_
  refine lv_lconst (v := 0) hx hb dX5_words_2 (by decide) ?_
  refine lv_ldc2 hx hb hown (hts (.constantLong RX5 146 (25)) (List.mem_of_getElem? (i := 1) rfl)) dX5_words_3 ?_
  refine pw_cs S 3 (c_X5_in l a.toInt64 0 (25)) gX5_words_X5_in rfl rfl rfl (by decide +kernel) ⟨Nat.le_of_ble_eq_true rfl, Nat.le_of_ble_eq_true rfl⟩ rfl hl.1 rfl (Nat.le_of_ble_eq_true rfl) dX5_words_6 ⟨Nat.le_refl _, Nat.le_refl _⟩ ?_
  refine pw_topi (y := pb (wi a (nI 0) (nI 25))) (congrArg pb (wl_wi _ (nI 0) (nI 25) (by first | rfl | decide) (by first | rfl | decide))) ?_
  refine pn_ifne_b (tgt := 16) hx hb dX5_words_9 (by decide) (fun c_9 => ?_) (fun c_9 => ?_)
  · obtain ⟨len, hl_len, hh_len, rfl⟩ := wi_ex (by omega) c_9
    have ix_len : ix (nI len) = len := nI_clamp (by omega)
    refine lv_aload_n hx hb dX5_words_16 rfl (lv_at hl 0 rfl) ?_
    refine lv_iload_n hx hb dX5_words_17 rfl (lv_at hl 1 rfl) ?_
    refine pw_cvW S hK hP 0 5 rfl rfl 1 (c_X5_countWords l D cy Ad n mm pk tr C hI hn hF mx hM en hE len (by omega)) gX5_words_X5_countWords rfl rfl rfl (by decide +kernel) ⟨Nat.le_of_ble_eq_true rfl, Nat.le_of_ble_eq_true rfl⟩ rfl hl.1 rfl (Nat.le_of_ble_eq_true rfl) dX5_words_18 ⟨Nat.le_refl _, Nat.le_refl _⟩ hS (fun _ h9 => h9) (fun r9 C18 H locs hR hP _ _ hS => ?_)
    obtain ⟨rfl, hR⟩ := hR
    change W p l e _ s m _ below meth c H locs 0 0 _ (F0 m 21 ls [])
    have hX := MI_B hX hR.1 (fun k h => by have h8 : k = 11 := h; omega)
    have hF := fM_B hF hR.1
    have hM := mM_B hM hR.1 (by omega)
    have hE := mE_B hE hR.1 (by omega)
    have hW := hR.2
    refine lv_aload_n hx hb dX5_words_21 rfl (lv_at hl 0 rfl) ?_
    refine pw_get hx hb hts (fun _ h9 => List.mem_cons_of_mem _ (List.mem_append_right _ h9)) hown hK hP 0 rfl rfl 14 (by decide) hF rfl (hts (.fieldLink RX5 46 "PastDrawsModel" "from" "[J") (List.mem_of_getElem? (i := 3) rfl)) dX5_words_22 ?_
    refine lv_bipush (v := nI 12) hx hb dX5_words_25 (by decide) ?_
    refine lv_iload_n hx hb dX5_words_27 rfl (lv_at hl 1 rfl) ?_
    refine lv_imul hx hb dX5_words_28 ?_
    refine pw_topi (pk_mul _ _) ?_
    refine pw_lald hx hb hK hP 11 rfl (by omega) (by decide) (v := cnW mx en len 0) (hW len (Nat.le_refl _) 0 (by omega)) dX5_words_29 ?_
    refine pw_topl (y := f_words mx en (nI len)) (by unfold f_words; simp [c_9, ix_len]) ?_
    exact W.lret hx hb hr (fun t ht _ => ⟨⟨_, C18, rfl, ⟨rfl, hX⟩, by rw [ht]; exact hP⟩, hS.F ht⟩) hS.2.2 dX5_words_30
  · refine lv_ldc2 hx hb hown (hts (.constantLong RX5 89 (-1)) (List.mem_of_getElem? (i := 2) rfl)) dX5_words_12 ?_
    refine pw_topl (y := f_words mx en a) (by unfold f_words; simp [c_9]) ?_
    exact W.lret hx hb hr (fun t ht _ => ⟨⟨_, C, rfl, ⟨rfl, hX⟩, by rw [ht]; exact hP⟩, hS.F ht⟩) hS.2.2 dX5_words_15

set_option maxHeartbeats 4000000 in
set_option maxRecDepth 100000 in
theorem c_X5_goesOn (l : Launch) (D : va_G) (cy : Nat → ClassId) (Ad : Nat → Nat) (n mm : Nat) (pk : Int64) (tr : Int32) (C : pw_C) (hn : 1 ≤ n ∧ n ≤ 12) (hF : fM n mm pk tr Ad C) (mx : Nat → Nat → Option Nat) (hM : mM n mx C) (en : Nat → Bool) (len : Nat) (hle : len ≤ 25) (hW : ∀ l9, l9 ≤ len → ∀ y, y < n → C.2.1 11 (12 * l9 + y) = cnW mx en l9 y) (x ch rs : Nat) (hx0 : x < n) (hch : ch < 4) (hrs : rs ≤ len) : Met l yX5_goesOn wsX5_goesOn (k2_rm 0 0) (pw_Pre ([.ref (Ad 0), .int (nI x), .int (nI ch), .int (nI rs)]) D cy Ad shM C) (k2_QcV (.long (wv mx (cnW mx en rs) x ch))) 0 0 (fun _ => False) := by
  refine Met.ofW (cc := cX5_goesOn) (maxL := 5) (ret := (some .long)) (by decide) rfl ?_
  intro p e s m args below meth c s₁ B hml hv
  obtain ⟨rfl, hP, hK⟩ := hv
  have hx := B.exec
  have hb := B.bytes
  have hr := B.returns
  have hts := atoms_spec (ws := wsX5_goesOn) B.pre
  have hown : s.vm.findClass RX5 = some m.cls := findClass_of_methodNamed B.named
  have hlocks := B.notSynchronized
  have S : CallFix p m c cX5_goesOn 5 s ([.ref (Ad 0), .int (nI x), .int (nI ch), .int (nI rs)]).toArray wsX5_goesOn RX5 := ⟨hx, hb, hml, hown, hts⟩
  change W p l e (k2_rm 0 0) s m _ below meth c s.heap [] 0 0 _ _
  have hl := lv_entry ([.ref (Ad 0), .int (nI x), .int (nI ch), .int (nI rs)]) (n := 5) (Nat.le_of_ble_eq_true rfl)
  rw [lg_entry_eq]
  generalize (lg_sl ([.ref (Ad 0), .int (nI x), .int (nI ch), .int (nI rs)]) ++ List.replicate (5 - (lg_sl ([.ref (Ad 0), .int (nI x), .int (nI ch), .int (nI rs)])).length) Slot.unset).toArray = ls at hl ⊢
  have hl : lv_has ls 5 [(0, .ref (Ad 0)), (1, .int (nI x)), (2, .int (nI ch)), (3, .int (nI rs))] := hl
  refine lv_aload_n hx hb dX5_goesOn_0 rfl (lv_at hl 0 rfl) ?_
  refine pw_get hx hb hts (fun _ h9 => List.mem_cons_of_mem _ (List.mem_append_right _ h9)) hown hK hP 0 rfl rfl 2 (by decide) hF rfl (hts (.fieldLink RX5 13 "PastDrawsModel" "leads" "[I") (List.mem_of_getElem? (i := 1) rfl)) dX5_goesOn_1 ?_
  refine lv_iconst (v := nI 4) hx hb dX5_goesOn_4 (by decide) ?_
  refine lv_iload_n hx hb dX5_goesOn_5 rfl (lv_at hl 1 rfl) ?_
  refine lv_imul hx hb dX5_goesOn_6 ?_
  refine pw_topi (pk_mul _ _) ?_
  refine lv_iload_n hx hb dX5_goesOn_7 rfl (lv_at hl 2 rfl) ?_
  refine lv_iadd hx hb dX5_goesOn_8 ?_
  refine pw_topi (nI_add _ _) ?_
  have hu_9 : ch < 4 := (by first | exact sgn_lt _ _ | omega)
  have hx_9 : x < n := (by first | exact sgn_lt _ _ | omega)
  refine pw_iald hx hb hK hP 2 rfl (by omega) (by decide) (v := oi (mx x ch)) (hM _ hx_9 _ hu_9).2 dX5_goesOn_9 ?_
  rcases ho_10 : mx x ch with _ | y_10
  · refine pw_topi (y := (-2)) rfl ?_
    refine lv_istore (lv' := [(4, .int (-2)), (0, .ref (Ad 0)), (1, .int (nI x)), (2, .int (nI ch)), (3, .int (nI rs))]) hx hb dX5_goesOn_10 hl (by decide) rfl (fun ls hl => ?_)
    refine lv_iload hx hb dX5_goesOn_12 (lv_at hl 0 rfl) ?_
    refine lv_if_ge (tgt := 21) hx hb dX5_goesOn_14 (by decide) (fun c_14 => absurd c_14 (by decide)) (fun c_14 => ?_)
    refine lv_lconst (v := 0) hx hb dX5_goesOn_17 (by decide) ?_
    refine lv_goto (tgt := 33) hx hb dX5_goesOn_18 (by decide) ?_
    refine pw_topl (y := wv mx (cnW mx en rs) x ch) (by unfold wv; rw [ho_10]) ?_
    exact W.lret hx hb hr (fun t ht _ => ⟨rfl, ht⟩) (fun q h => by cases h) dX5_goesOn_33
  · have hy_10 : y_10 < n := (hM x (by omega) ch (by omega)).1 y_10 ho_10
    refine pw_topi (y := nI y_10) rfl ?_
    refine lv_istore (lv' := [(4, .int (nI y_10)), (0, .ref (Ad 0)), (1, .int (nI x)), (2, .int (nI ch)), (3, .int (nI rs))]) hx hb dX5_goesOn_10 hl (by decide) rfl (fun ls hl => ?_)
    refine lv_iload hx hb dX5_goesOn_12 (lv_at hl 0 rfl) ?_
    refine lv_if_ge (tgt := 21) hx hb dX5_goesOn_14 (by decide) (fun _ => ?_) (fun h9 => absurd (nI_pos' (by omega)) h9)
    refine lv_aload_n hx hb dX5_goesOn_21 rfl (lv_at hl 1 rfl) ?_
    refine pw_get hx hb hts (fun _ h9 => List.mem_cons_of_mem _ (List.mem_append_right _ h9)) hown hK hP 0 rfl rfl 14 (by decide) hF rfl (hts (.fieldLink RX5 46 "PastDrawsModel" "from" "[J") (List.mem_of_getElem? (i := 2) rfl)) dX5_goesOn_22 ?_
    refine lv_bipush (v := nI 12) hx hb dX5_goesOn_25 (by decide) ?_
    refine lv_iload_n hx hb dX5_goesOn_27 rfl (lv_at hl 4 rfl) ?_
    refine lv_imul hx hb dX5_goesOn_28 ?_
    refine pw_topi (pk_mul _ _) ?_
    refine lv_iload hx hb dX5_goesOn_29 (lv_at hl 0 rfl) ?_
    refine lv_iadd hx hb dX5_goesOn_31 ?_
    refine pw_topi (nI_add _ _) ?_
    refine pw_lald hx hb hK hP 11 rfl (by omega) (by decide) (v := cnW mx en rs y_10) (hW rs hrs y_10 hy_10) dX5_goesOn_32 ?_
    refine pw_topl (y := wv mx (cnW mx en rs) x ch) (by unfold wv; rw [ho_10]) ?_
    exact W.lret hx hb hr (fun t ht _ => ⟨rfl, ht⟩) (fun q h => by cases h) dX5_goesOn_33
