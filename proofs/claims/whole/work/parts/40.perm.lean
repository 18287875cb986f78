set_option maxHeartbeats 4000000 in
set_option maxRecDepth 100000 in
theorem c_X5_wayOn (l : Launch) (D : va_G) (cy : Nat → ClassId) (Ad : Nat → Nat) (n mm : Nat) (pk : Int64) (tr : Int32) (C : pw_C) (hn : 1 ≤ n ∧ n ≤ 12) (hF : fM n mm pk tr Ad C) (am : Nat → Nat) (hA : mA am C) (m9 : Nat) (hm : 1 ≤ m9 ∧ m9 ≤ 8) (hY : ∀ Y, Y < 2 ^ m9 → C.1 12 Y = wyF am m9 Y) (Z q v : Nat) (hZ : Z < 2 ^ m9) (hq : pcn Z = q) (hq8 : q < 8) (hv : v < m9) : Met l yX5_wayOn wsX5_wayOn (k2_rm 0 0) (pw_Pre ([.ref (Ad 0), .int (nI Z), .int (nI q), .int (nI v)]) D cy Ad shM C) (k2_QcV (.int (woF am (wyF am m9) Z v))) 0 0 (fun _ => False) := by
  refine Met.ofW (cc := cX5_wayOn) (maxL := 4) (ret := (some .int)) (by decide) rfl ?_
  intro p e s m args below meth c s₁ B hml hv
  obtain ⟨rfl, hP, hK⟩ := hv
  have hx := B.exec
  have hb := B.bytes
  have hr := B.returns
  have hts := atoms_spec (ws := wsX5_wayOn) B.pre
  have hown : s.vm.findClass RX5 = some m.cls := findClass_of_methodNamed B.named
  have hlocks := B.notSynchronized
  have S : CallFix p m c cX5_wayOn 4 s ([.ref (Ad 0), .int (nI Z), .int (nI q), .int (nI v)]).toArray wsX5_wayOn RX5 := ⟨hx, hb, hml, hown, hts⟩
  change W p l e (k2_rm 0 0) s m _ below meth c s.heap [] 0 0 _ _
  have hl := lv_entry ([.ref (Ad 0), .int (nI Z), .int (nI q), .int (nI v)]) (n := 4) (Nat.le_of_ble_eq_true rfl)
  rw [lg_entry_eq]
  have hpw := pow8 hm.2
  generalize (lg_sl ([.ref (Ad 0), .int (nI Z), .int (nI q), .int (nI v)]) ++ List.replicate (4 - (lg_sl ([.ref (Ad 0), .int (nI Z), .int (nI q), .int (nI v)])).length) Slot.unset).toArray = ls at hl ⊢
  have hl : lv_has ls 4 [(0, .ref (Ad 0)), (1, .int (nI Z)), (2, .int (nI q)), (3, .int (nI v))] := hl
  refine lv_iload_n hx hb dX5_wayOn_0 rfl (lv_at hl 1 rfl) ?_
  refine lv_iload_n hx hb dX5_wayOn_1 rfl (lv_at hl 3 rfl) ?_
  refine lv_ishr hx hb dX5_wayOn_2 ?_
  refine lv_iconst (v := nI 1) hx hb dX5_wayOn_3 (by decide) ?_
  refine lv_iand hx hb dX5_wayOn_4 ?_
  refine pw_topi (y := nI (Z / 2 ^ v % 2)) (ps_bit (by omega) (by omega)) ?_
  refine pn_ifne_n (tgt := 35) hx hb (by omega) dX5_wayOn_5 (by decide) (fun c_5 => ?_) (fun c_5 => ?_)
  · have tb1 : Z.testBit v = true := by
      have h9 := tb_dm Z v
      cases hb9 : Z.testBit v
      · rw [hb9, if_neg (by decide)] at h9; omega
      · rfl
    refine lv_iconst (v := nI 0) hx hb dX5_wayOn_35 (by decide) ?_
    refine pw_topi (y := woF am (wyF am m9) Z v) (by subst hq; unfold woF fre; first | rw [c_19, tb0, Bool.not_false, Bool.and_true, if_pos rfl] | (rw [c_19]; rfl) | (rw [tb1, Bool.not_true, Bool.and_false]; rfl)) ?_
    exact W.iret hx hb hr (fun t ht _ => ⟨rfl, ht⟩) (fun q h => by cases h) dX5_wayOn_36
  · have tb0 : Z.testBit v = false := by
      have h9 := tb_dm Z v
      cases hb9 : Z.testBit v
      · rfl
      · rw [hb9, if_pos rfl] at h9; omega
    refine lv_aload_n hx hb dX5_wayOn_8 rfl (lv_at hl 0 rfl) ?_
    refine pw_get hx hb hts (fun _ h9 => List.mem_cons_of_mem _ (List.mem_append_right _ h9)) hown hK hP 0 rfl rfl 4 (by decide) hF rfl (hts (.fieldLink RX5 20 "PastDrawsModel" "isAllowed" "[Z") (List.mem_of_getElem? (i := 1) rfl)) dX5_wayOn_9 ?_
    refine lv_bipush (v := nI 8) hx hb dX5_wayOn_12 (by decide) ?_
    refine lv_iload_n hx hb dX5_wayOn_14 rfl (lv_at hl 2 rfl) ?_
    refine lv_imul hx hb dX5_wayOn_15 ?_
    refine pw_topi (pk_mul _ _) ?_
    refine lv_iload_n hx hb dX5_wayOn_16 rfl (lv_at hl 3 rfl) ?_
    refine lv_iadd hx hb dX5_wayOn_17 ?_
    refine pw_topi (nI_add _ _) ?_
    refine pw_zald hx hb hK hP 4 rfl (by omega) (by decide) (v := pb ((am q).testBit v)) ((hA q (by omega)).2 v (by omega)) dX5_wayOn_18 ?_
    refine pn_ifeq_b (tgt := 35) hx hb dX5_wayOn_19 (by decide) (fun c_19 => ?_) (fun c_19 => ?_)
    · refine lv_iconst (v := nI 0) hx hb dX5_wayOn_35 (by decide) ?_
      refine pw_topi (y := woF am (wyF am m9) Z v) (by subst hq; unfold woF fre; first | rw [c_19, tb0, Bool.not_false, Bool.and_true, if_pos rfl] | (rw [c_19]; rfl) | (rw [tb1, Bool.not_true, Bool.and_false]; rfl)) ?_
      exact W.iret hx hb hr (fun t ht _ => ⟨rfl, ht⟩) (fun q h => by cases h) dX5_wayOn_36
    · refine lv_aload_n hx hb dX5_wayOn_22 rfl (lv_at hl 0 rfl) ?_
      refine pw_get hx hb hts (fun _ h9 => List.mem_cons_of_mem _ (List.mem_append_right _ h9)) hown hK hP 0 rfl rfl 15 (by decide) hF rfl (hts (.fieldLink RX5 49 "PastDrawsModel" "ways" "[I") (List.mem_of_getElem? (i := 2) rfl)) dX5_wayOn_23 ?_
      refine lv_iload_n hx hb dX5_wayOn_26 rfl (lv_at hl 1 rfl) ?_
      refine lv_iconst (v := nI 1) hx hb dX5_wayOn_27 (by decide) ?_
      refine lv_iload_n hx hb dX5_wayOn_28 rfl (lv_at hl 3 rfl) ?_
      refine lv_ishl hx hb dX5_wayOn_29 ?_
      refine pw_topi (y := nI (2 ^ v)) (ps_shl1 (by omega)) ?_
      refine lv_ior hx hb dX5_wayOn_30 ?_
      refine pw_topi (y := nI (Z ||| 2 ^ v)) (nx_or _ _) ?_
      refine pw_iald hx hb hK hP 12 rfl (Nat.lt_of_lt_of_le (or_ltm hZ hv) (pow8 hm.2)) (by decide) (v := wyF am m9 (Z ||| 2 ^ v)) (hY _ (or_ltm hZ hv)) dX5_wayOn_31 ?_
      refine lv_goto (tgt := 36) hx hb dX5_wayOn_32 (by decide) ?_
      refine pw_topi (y := woF am (wyF am m9) Z v) (by subst hq; unfold woF fre; first | rw [c_19, tb0, Bool.not_false, Bool.and_true, if_pos rfl] | (rw [c_19]; rfl) | (rw [tb1, Bool.not_true, Bool.and_false]; rfl)) ?_
      exact W.iret hx hb hr (fun t ht _ => ⟨rfl, ht⟩) (fun q h => by cases h) dX5_wayOn_36

set_option maxHeartbeats 4000000 in
set_option maxRecDepth 100000 in
theorem c_X5_permutations (l : Launch) (D : va_G) (cy : Nat → ClassId) (Ad : Nat → Nat) (n mm : Nat) (C : pw_C) (hI : pw_I Ad shM) (hn : 1 ≤ n ∧ n ≤ 12) (hmm : 1 ≤ mm ∧ mm ≤ 16) (nx : Nat → Nat → Nat) (mx : Nat → Nat → Option Nat) (en : Nat → Bool) (am wt : Nat → Nat) (hX : MI n mm nx mx en am wt Ad C) (a : Int32) : Met l yX5_permutations wsX5_permutations (k2_rm 1 25) (pw_Pre ([.ref (Ad 0), .int a]) D cy Ad shM C) (pw_Post (fun r9 C' => r9 = some (.int (f_perms am a)) ∧ (MI n mm nx mx en am wt Ad C')) D cy Ad shM) 0 0 (pw_fr Ad shM) := by
  refine Met.ofW (cc := cX5_permutations) (maxL := 2) (ret := (some .int)) (by decide) rfl ?_
  intro p e s m args below meth c s₁ B hml hv
  obtain ⟨rfl, hP, hK⟩ := hv
  have hx := B.exec
  have hb := B.bytes
  have hr := B.returns
  have hts := atoms_spec (ws := wsX5_permutations) B.pre
  have hown : s.vm.findClass RX5 = some m.cls := findClass_of_methodNamed B.named
  have hlocks := B.notSynchronized
  have S : CallFix p m c cX5_permutations 2 s ([.ref (Ad 0), .int a]).toArray wsX5_permutations RX5 := ⟨hx, hb, hml, hown, hts⟩
  change W p l e (k2_rm 1 25) s m _ below meth c s.heap [] 0 0 _ _
  have hl := lv_entry ([.ref (Ad 0), .int a]) (n := 2) (Nat.le_of_ble_eq_true rfl)
  rw [lg_entry_eq]
  generalize (lg_sl ([.ref (Ad 0), .int a]) ++ List.replicate (2 - (lg_sl ([.ref (Ad 0), .int a])).length) Slot.unset).toArray = ls at hl ⊢
  have hl : lv_has ls 2 [(0, .ref (Ad 0)), (1, .int a)] := hl
  have hS : va_S (pw_fr Ad shM) s.heap s.heap [] := va_S.rf
  obtain ⟨⟨pk, tr, hF⟩, hN, hM, hE, hA, hT⟩ := id hX
  refine lv_iload_n hx hb dX5_permutations_0 rfl (lv_at hl 1 rfl) ?_
  refine lv_i2l hx hb dX5_permutations_1 rfl ?_
  refine lv_lconst (v := 1) hx hb dX5_permutations_2 (by decide) ?_
  refine lv_ldc2 hx hb hown (hts (.constantLong RX5 157 (8)) (List.mem_of_getElem? (i := 1) rfl)) dX5_permutations_3 ?_
  refine pw_cs S 3 (c_X5_in l a.toInt64 1 (8)) gX5_permutations_X5_in rfl rfl rfl (by decide +kernel) ⟨Nat.le_of_ble_eq_true rfl, Nat.le_of_ble_eq_true rfl⟩ rfl hl.1 rfl (Nat.le_of_ble_eq_true rfl) dX5_permutations_6 ⟨Nat.le_refl _, Nat.le_refl _⟩ ?_
  refine pw_topi (y := pb (wi a (nI 1) (nI 8))) (congrArg pb (wl_wi _ (nI 1) (nI 8) (by first | rfl | decide) (by first | rfl | decide))) ?_
  refine pn_ifne_b (tgt := 14) hx hb dX5_permutations_9 (by decide) (fun c_9 => ?_) (fun c_9 => ?_)
  · obtain ⟨m9, hl_m9, hh_m9, rfl⟩ := wi_ex (by omega) c_9
    have ix_m9 : ix (nI m9) = m9 := nI_clamp (by omega)
    refine lv_aload_n hx hb dX5_permutations_14 rfl (lv_at hl 0 rfl) ?_
    refine lv_iload_n hx hb dX5_permutations_15 rfl (lv_at hl 1 rfl) ?_
    refine pw_cvW S hK hP 0 5 rfl rfl 1 (c_X5_countWays l D cy Ad n mm pk tr C hI hn hF am hA m9 (by omega)) gX5_permutations_X5_countWays rfl rfl rfl (by decide +kernel) ⟨Nat.le_of_ble_eq_true rfl, Nat.le_of_ble_eq_true rfl⟩ rfl hl.1 rfl (Nat.le_of_ble_eq_true rfl) dX5_permutations_16 ⟨Nat.le_refl _, Nat.le_refl _⟩ hS (fun _ h9 => h9) (fun r9 C16 H locs hR hP _ _ hS => ?_)
    obtain ⟨rfl, hR⟩ := hR
    change W p l e _ s m _ below meth c H locs 0 0 _ (F0 m 19 ls [])
    have hX := MI_B hX hR.1 (fun k h => by have h8 : k = 12 := h; omega)
    have hF := fM_B hF hR.1
    have hA := mA_B hA hR.1 (by omega)
    have hY := hR.2
    have hpw := pow8 (m := m9) (by omega)
    have hpp : 1 ≤ 2 ^ m9 := Nat.pow_pos (by decide)
    refine lv_aload_n hx hb dX5_permutations_19 rfl (lv_at hl 0 rfl) ?_
    refine pw_get hx hb hts (fun _ h9 => List.mem_cons_of_mem _ (List.mem_append_right _ h9)) hown hK hP 0 rfl rfl 15 (by decide) hF rfl (hts (.fieldLink RX5 49 "PastDrawsModel" "ways" "[I") (List.mem_of_getElem? (i := 2) rfl)) dX5_permutations_20 ?_
    refine lv_iconst (v := nI 0) hx hb dX5_permutations_23 (by decide) ?_
    refine pw_iald hx hb hK hP 12 rfl (by omega) (by decide) (v := wyF am m9 0) (hY 0 (by omega)) dX5_permutations_24 ?_
    refine pw_topi (y := f_perms am (nI m9)) (by unfold f_perms; simp [c_9, ix_m9]) ?_
    exact W.iret hx hb hr (fun t ht _ => ⟨⟨_, C16, rfl, ⟨rfl, hX⟩, by rw [ht]; exact hP⟩, hS.F ht⟩) hS.2.2 dX5_permutations_25
  · refine lv_iconst (v := (-1)) hx hb dX5_permutations_12 (by decide) ?_
    refine pw_topi (y := f_perms am a) (by unfold f_perms; simp [c_9]) ?_
    exact W.iret hx hb hr (fun t ht _ => ⟨⟨_, C, rfl, ⟨rfl, hX⟩, by rw [ht]; exact hP⟩, hS.F ht⟩) hS.2.2 dX5_permutations_13

set_option maxHeartbeats 4000000 in
set_option maxRecDepth 100000 in
theorem L5_pm_in {p : Program} {l : Launch} {e : Env} {s : State} {m : MethodId} {args : Array Value} {below : List Frame} {meth : Method} {c : Code} {H : Heap} {locs : List Loc} {Q : State → Prop} (S : CallFix p m c cX5_permutation 8 s args wsX5_permutation RX5) {D : va_G} {cy : Nat → ClassId} {Ad : Nat → Nat} {n mm : Nat} {pk : Int64} {tr : Int32} {C : pw_C} (hK : pw_K D cy s) (hP : pw_P D cy Ad shM C H) (hF : fM n mm pk tr Ad C) (hn : 1 ≤ n ∧ n ≤ 12) {am : Nat → Nat} (hA : mA am C) (m9 : Nat) (hm : 1 ≤ m9 ∧ m9 ≤ 8) (hY : ∀ Y, Y < 2 ^ m9 → C.1 12 Y = wyF am m9 Y)  (i j Z : Nat) (hj : j < m9) (hi : i < 8) (hZ : Z < 2 ^ m9) (hpj : pcn Z = j) (l9 : Int32) (hv0 : 0 ≤ l9.toInt) (hv4 : l9.toInt < (wbS am (wyF am m9) Z m9).toInt) (hk : ∀ (v : Nat) (ls : Array Slot), v < m9 → nnF (wbS am (wyF am m9) Z) l9 (m9 - 1) 0 = v → (wbS am (wyF am m9) Z v).toInt ≤ l9.toInt → l9.toInt < (wbS am (wyF am m9) Z (v + 1)).toInt → lv_has ls 8 [(6, .int (nI v)), (5, .int (l9 - wbS am (wyF am m9) Z v)), (4, .int (nI Z)), (7, .int (nI j)), (0, .ref (Ad 0)), (1, .int (nI m9)), (3, .int (nI i))] → W p l e (k2_rm 1 25) s m args below meth c H locs 0 0 Q (F0 m 109 ls [])) : ∀ (f : Nat) (v : Nat) (ls : Array Slot), m9 - v < f → (v < m9) → (nnF (wbS am (wyF am m9) Z) l9 (m9 - 1) 0 = nnF (wbS am (wyF am m9) Z) l9 (m9 - 1 - v) v) → ((wbS am (wyF am m9) Z v).toInt ≤ l9.toInt) → lv_has ls 8 [(6, .int (nI v)), (5, .int (l9 - wbS am (wyF am m9) Z v)), (4, .int (nI Z)), (7, .int (nI j)), (0, .ref (Ad 0)), (1, .int (nI m9)), (3, .int (nI i))] → W p l e (k2_rm 1 25) s m args below meth c H locs 0 0 Q (F0 m 73 ls []) := by
  have hx := S.1
  have hb := S.2.1
  have hml := S.2.2.1
  have hown := S.2.2.2.1
  have hts := S.2.2.2.2
  intro f
  induction f with
  | zero => intro v ls hf; exact absurd hf (Nat.not_lt_zero _)
  | succ f ih =>
    intro v ls hf hc9 hla hle9 hl
    have hws := wy_s (am := am) hm.2 hZ (by omega)
    have hw9 := hws.1 m9 (Nat.le_refl _)
    refine lv_iload hx hb dX5_permutation_73 (lv_at hl 1 rfl) ?_
    refine lv_aload_n hx hb dX5_permutation_75 rfl (lv_at hl 4 rfl) ?_
    refine lv_iload hx hb dX5_permutation_76 (lv_at hl 2 rfl) ?_
    refine lv_iload hx hb dX5_permutation_78 (lv_at hl 3 rfl) ?_
    refine lv_iload hx hb dX5_permutation_80 (lv_at hl 0 rfl) ?_
    refine pw_cv S hK hP 0 5 rfl rfl 3 (c_X5_wayOn l D cy Ad n mm pk tr C hn hF am hA m9 hm hY Z j v hZ hpj (by omega) (by omega)) gX5_permutation_X5_wayOn rfl rfl rfl (by decide +kernel) ⟨Nat.le_of_ble_eq_true rfl, Nat.le_of_ble_eq_true rfl⟩ rfl hl.1 rfl (Nat.le_of_ble_eq_true rfl) dX5_permutation_82 ⟨Nat.le_refl _, Nat.le_refl _⟩ ?_
    have f0 := hws.1 v (by omega)
    have f1 := hws.2 v (by omega)
    have f2 : (l9 - wbS am (wyF am m9) Z v).toInt = l9.toInt - (wbS am (wyF am m9) Z v).toInt := s32 (by omega) (by omega)
    have f3 : (wbS am (wyF am m9) Z (v + 1) ≤ l9) ↔ (wbS am (wyF am m9) Z (v + 1)).toInt ≤ l9.toInt := Int32.le_iff_toInt_le
    have f4 : (l9 - wbS am (wyF am m9) Z v < woF am (wyF am m9) Z v) ↔ (l9 - wbS am (wyF am m9) Z v).toInt < (woF am (wyF am m9) Z v).toInt := Int32.lt_iff_toInt_lt
    refine lv_icmp_lt (tgt := 109) hx hb dX5_permutation_85 (by decide) (fun c_85 => ?_) (fun c_85 => ?_)
    · have g1 : ¬ wbS am (wyF am m9) Z (v + 1) ≤ l9 := fun q => by
        have g8 := f4.mp c_85
        have g9 := f3.mp q
        omega
      rw [nn_stop g1] at hla
      exact hk v ls (by omega) hla hle9 (by have g8 := f4.mp c_85; omega) (lv_sub hl [0, 1, 2, 3, 4, 5, 6] rfl)
    · refine lv_iload hx hb dX5_permutation_88 (lv_at hl 1 rfl) ?_
      refine lv_aload_n hx hb dX5_permutation_90 rfl (lv_at hl 4 rfl) ?_
      refine lv_iload hx hb dX5_permutation_91 (lv_at hl 2 rfl) ?_
      refine lv_iload hx hb dX5_permutation_93 (lv_at hl 3 rfl) ?_
      refine lv_iload hx hb dX5_permutation_95 (lv_at hl 0 rfl) ?_
      refine pw_cv S hK hP 0 5 rfl rfl 3 (c_X5_wayOn l D cy Ad n mm pk tr C hn hF am hA m9 hm hY Z j v hZ hpj (by omega) (by omega)) gX5_permutation_X5_wayOn rfl rfl rfl (by decide +kernel) ⟨Nat.le_of_ble_eq_true rfl, Nat.le_of_ble_eq_true rfl⟩ rfl hl.1 rfl (Nat.le_of_ble_eq_true rfl) dX5_permutation_97 ⟨Nat.le_refl _, Nat.le_refl _⟩ ?_
      refine lv_isub hx hb dX5_permutation_100 ?_
      refine pw_topi (y := l9 - wbS am (wyF am m9) Z (v + 1)) (by rw [wbS_s, Int32.sub_eq_add_neg, Int32.sub_eq_add_neg, Int32.sub_eq_add_neg, Int32.neg_add, Int32.add_assoc, Int32.sub_eq_add_neg]) ?_
      refine lv_istore (lv' := [(5, .int (l9 - wbS am (wyF am m9) Z (v + 1))), (6, .int (nI v)), (4, .int (nI Z)), (7, .int (nI j)), (0, .ref (Ad 0)), (1, .int (nI m9)), (3, .int (nI i))]) hx hb dX5_permutation_101 hl (by decide) rfl (fun ls hl => ?_)
      refine lv_iinc (v := nI (v + 1)) (lv' := [(6, .int (nI (v + 1))), (5, .int (l9 - wbS am (wyF am m9) Z (v + 1))), (4, .int (nI Z)), (7, .int (nI j)), (0, .ref (Ad 0)), (1, .int (nI m9)), (3, .int (nI i))]) hx hb dX5_permutation_103 hl (k := 1) rfl (nI_add _ 1) (by decide) rfl (fun ls hl => ?_)
      refine lv_goto (tgt := 73) hx hb dX5_permutation_106 (by decide) ?_
      have g1 : wbS am (wyF am m9) Z (v + 1) ≤ l9 := f3.mpr (by have := mt f4.mpr c_85; omega)
      have g2 : v + 1 < m9 := by
        rcases Nat.lt_or_ge (v + 1) m9 with q | q
        · exact q
        · have q2 : v + 1 = m9 := by omega
          have := f3.mp g1
          rw [q2] at this
          omega
      obtain ⟨z, hz⟩ : ∃ z, m9 - 1 - v = z + 1 := ⟨m9 - 1 - v - 1, by omega⟩
      rw [hz, nn_go g1] at hla
      have hz2 : z = m9 - 1 - (v + 1) := by omega
      exact ih (v + 1) ls (by omega) (by omega) (by rw [← hz2]; exact hla) (f3.mp g1) (lv_sub hl [0, 1, 2, 3, 4, 5, 6] rfl)

set_option maxHeartbeats 4000000 in
set_option maxRecDepth 100000 in
theorem L5_pm {p : Program} {l : Launch} {e : Env} {s : State} {m : MethodId} {args : Array Value} {below : List Frame} {meth : Method} {c : Code} {H : Heap} {locs : List Loc} {Q : State → Prop} (S : CallFix p m c cX5_permutation 8 s args wsX5_permutation RX5) {D : va_G} {cy : Nat → ClassId} {Ad : Nat → Nat} {n mm : Nat} {pk : Int64} {tr : Int32} {C : pw_C} (hK : pw_K D cy s) (hP : pw_P D cy Ad shM C H) (hF : fM n mm pk tr Ad C) (hn : 1 ≤ n ∧ n ≤ 12) {am : Nat → Nat} (hA : mA am C) (m9 : Nat) (hm : 1 ≤ m9 ∧ m9 ≤ 8) (hY : ∀ Y, Y < 2 ^ m9 → C.1 12 Y = wyF am m9 Y)  (i : Nat) (hi : i < m9) (r : Nat) (hq : ∀ (pc9 : Nat) (ls : Array Slot), decode cX5_permutation pc9 = .ok (.ireturn, 1) → W p l e (k2_rm 1 25) s m args below meth c H locs 0 0 Q (F0 m pc9 ls [.int (nI r)])) : ∀ (f : Nat) (j : Nat) (Z : Nat) (l9 : Int32) (c8 : Int32) (ls : Array Slot), m9 - j < f → (j ≤ i) → (pcn Z = j) → (Z < 2 ^ m9) → (0 ≤ l9.toInt) → (l9.toInt < (wyF am m9 Z).toInt) → (aplF am m9 (i + 1 - j) Z l9 = r) → lv_has ls 8 [(6, .int c8), (5, .int l9), (4, .int (nI Z)), (7, .int (nI j)), (0, .ref (Ad 0)), (1, .int (nI m9)), (3, .int (nI i))] → W p l e (k2_rm 1 25) s m args below meth c H locs 0 0 Q (F0 m 64 ls []) := by
  have hx := S.1
  have hb := S.2.1
  have hml := S.2.2.1
  have hown := S.2.2.2.1
  have hts := S.2.2.2.2
  intro f
  induction f with
  | zero => intro j Z l9 c8 ls hf; exact absurd hf (Nat.not_lt_zero _)
  | succ f ih =>
    intro j Z l9 c8 ls hf hj hpj hZ hv0 hvb hr0 hl
    refine lv_iload hx hb dX5_permutation_64 (lv_at hl 3 rfl) ?_
    refine lv_iload_n hx hb dX5_permutation_66 rfl (lv_at hl 6 rfl) ?_
    refine pn_icmp_gt (tgt := 124) hx hb (by omega) (by omega) dX5_permutation_67 (by decide) (fun c_67 => absurd c_67 (by omega)) (fun c_67 => ?_)
    refine lv_iconst (v := nI 0) hx hb dX5_permutation_70 (by decide) ?_
    refine lv_istore (lv' := [(6, .int (nI 0)), (5, .int l9), (4, .int (nI Z)), (7, .int (nI j)), (0, .ref (Ad 0)), (1, .int (nI m9)), (3, .int (nI i))]) hx hb dX5_permutation_71 hl (by decide) rfl (fun ls hl => ?_)
    have hpw := pow8 hm.2
    have hws := wy_s (am := am) hm.2 hZ (by omega)
    have hw9 := hws.1 m9 (Nat.le_refl _)
    have hpc := pc_all m9 (by omega) Z (by omega) hZ
    have hv4 : l9.toInt < (wbS am (wyF am m9) Z m9).toInt := by
      have h9 := hvb
      rw [wyF_eq hm.2 (by have := mt hpc.2.mpr (show ¬ pcn Z = m9 by omega); omega)] at h9
      exact h9
    refine L5_pm_in S hK hP hF hn hA m9 hm hY i j Z (by omega) (by omega) hZ hpj l9 hv0 hv4 (fun v ls hch hla hc1 hc2 hl => ?_) (m9 + 1) 0 ls (by omega) (by omega) rfl (by have : (wbS am (wyF am m9) Z 0).toInt = 0 := (by decide : (0 : Int32).toInt = 0); omega) (by rw [show wbS am (wyF am m9) Z 0 = 0 from rfl, Int32.sub_zero]; exact (lv_sub hl [0, 1, 2, 3, 4, 5, 6] rfl))
    have f0 := hws.1 v (by omega)
    have f1 := hws.2 v hch
    have f2 : (l9 - wbS am (wyF am m9) Z v).toInt = l9.toInt - (wbS am (wyF am m9) Z v).toInt := s32 (by omega) (by omega)
    have hfr : fre am Z v = true := by
      cases hf9 : fre am Z v with
      | true => rfl
      | false =>
        have h0 : (woF am (wyF am m9) Z v).toInt = 0 := by unfold woF; rw [hf9]; show (0 : Int32).toInt = 0; decide
        omega
    have hwy : woF am (wyF am m9) Z v = wyF am m9 (Z ||| 2 ^ v) := by unfold woF; rw [if_pos hfr]
    rw [hwy] at f1
    have hpn := pcn_nb Z (by omega) v (by omega) (fre_nb hfr)
    have hol := or_ltm hZ hch
    refine lv_iload hx hb dX5_permutation_109 (lv_at hl 2 rfl) ?_
    refine lv_iconst (v := nI 1) hx hb dX5_permutation_111 (by decide) ?_
    refine lv_iload hx hb dX5_permutation_112 (lv_at hl 0 rfl) ?_
    refine lv_ishl hx hb dX5_permutation_114 ?_
    refine pw_topi (y := nI (2 ^ v)) (ps_shl1 (by omega)) ?_
    refine lv_ior hx hb dX5_permutation_115 ?_
    refine pw_topi (y := nI (Z ||| 2 ^ v)) (nx_or _ _) ?_
    refine lv_istore (lv' := [(4, .int (nI (Z ||| 2 ^ v))), (6, .int (nI v)), (5, .int (l9 - wbS am (wyF am m9) Z v)), (7, .int (nI j)), (0, .ref (Ad 0)), (1, .int (nI m9)), (3, .int (nI i))]) hx hb dX5_permutation_116 hl (by decide) rfl (fun ls hl => ?_)
    refine lv_iinc (v := nI (j + 1)) (lv' := [(7, .int (nI (j + 1))), (4, .int (nI (Z ||| 2 ^ v))), (6, .int (nI v)), (5, .int (l9 - wbS am (wyF am m9) Z v)), (0, .ref (Ad 0)), (1, .int (nI m9)), (3, .int (nI i))]) hx hb dX5_permutation_118 hl (k := 3) rfl (nI_add _ 1) (by decide) rfl (fun ls hl => ?_)
    refine lv_goto (tgt := 64) hx hb dX5_permutation_121 (by decide) ?_
    by_cases hji : j = i
    · have hr1 : v = r := by
        rw [show i + 1 - j = 1 by omega] at hr0
        rw [← hla]; exact hr0
      refine lv_iload hx hb dX5_permutation_64 (lv_at hl 0 rfl) ?_
      refine lv_iload_n hx hb dX5_permutation_66 rfl (lv_at hl 6 rfl) ?_
      refine pn_icmp_gt (tgt := 124) hx hb (by omega) (by omega) dX5_permutation_67 (by decide) (fun c_67 => ?_) (fun c_67 => absurd c_67 (by omega))
      refine lv_iload hx hb dX5_permutation_124 (lv_at hl 2 rfl) ?_
      refine pw_topi (y := nI r) (by rw [hr1]) ?_
      exact hq _ ls dX5_permutation_126
    · obtain ⟨z, hz⟩ : ∃ z, i + 1 - j = z + 2 := ⟨i - j - 1, by omega⟩
      rw [hz, aplF, hla] at hr0
      exact ih (j + 1) (Z ||| 2 ^ v) (l9 - wbS am (wyF am m9) Z v) (nI v) ls (by omega) (by omega) (by omega) hol (by omega) (by omega) (by rw [show i + 1 - (j + 1) = z + 1 by omega]; exact hr0) (lv_sub hl [2, 3, 1, 0, 4, 5, 6] rfl)

set_option maxHeartbeats 4000000 in
set_option maxRecDepth 100000 in
theorem c_X5_permutation (l : Launch) (D : va_G) (cy : Nat → ClassId) (Ad : Nat → Nat) (n mm : Nat) (C : pw_C) (hI : pw_I Ad shM) (hn : 1 ≤ n ∧ n ≤ 12) (hmm : 1 ≤ mm ∧ mm ≤ 16) (nx : Nat → Nat → Nat) (mx : Nat → Nat → Option Nat) (en : Nat → Bool) (am wt : Nat → Nat) (hX : MI n mm nx mx en am wt Ad C) (a b d : Int32) : Met l yX5_permutation wsX5_permutation (k2_rm 1 25) (pw_Pre ([.ref (Ad 0), .int a, .int b, .int d]) D cy Ad shM C) (pw_Post (fun r9 C' => r9 = some (.int (f_perm am a b d)) ∧ (MI n mm nx mx en am wt Ad C')) D cy Ad shM) 0 0 (pw_fr Ad shM) := by
  refine Met.ofW (cc := cX5_permutation) (maxL := 8) (ret := (some .int)) (by decide) rfl ?_
  intro p e s m args below meth c s₁ B hml hv
  obtain ⟨rfl, hP, hK⟩ := hv
  have hx := B.exec
  have hb := B.bytes
  have hr := B.returns
  have hts := atoms_spec (ws := wsX5_permutation) B.pre
  have hown : s.vm.findClass RX5 = some m.cls := findClass_of_methodNamed B.named
  have hlocks := B.notSynchronized
  have S : CallFix p m c cX5_permutation 8 s ([.ref (Ad 0), .int a, .int b, .int d]).toArray wsX5_permutation RX5 := ⟨hx, hb, hml, hown, hts⟩
  change W p l e (k2_rm 1 25) s m _ below meth c s.heap [] 0 0 _ _
  have hl := lv_entry ([.ref (Ad 0), .int a, .int b, .int d]) (n := 8) (Nat.le_of_ble_eq_true rfl)
  rw [lg_entry_eq]
  generalize (lg_sl ([.ref (Ad 0), .int a, .int b, .int d]) ++ List.replicate (8 - (lg_sl ([.ref (Ad 0), .int a, .int b, .int d])).length) Slot.unset).toArray = ls at hl ⊢
  have hl : lv_has ls 8 [(0, .ref (Ad 0)), (1, .int a), (2, .int b), (3, .int d)] := hl
  have hS : va_S (pw_fr Ad shM) s.heap s.heap [] := va_S.rf
  obtain ⟨⟨pk, tr, hF⟩, hN, hM, hE, hA, hT⟩ := id hX
  refine lv_iload_n hx hb dX5_permutation_0 rfl (lv_at hl 1 rfl) ?_
  refine lv_i2l hx hb dX5_permutation_1 rfl ?_
  refine lv_lconst (v := 1) hx hb dX5_permutation_2 (by decide) ?_
  refine lv_ldc2 hx hb hown (hts (.constantLong RX5 157 (8)) (List.mem_of_getElem? (i := 1) rfl)) dX5_permutation_3 ?_
  refine pw_cs S 3 (c_X5_in l a.toInt64 1 (8)) gX5_permutation_X5_in rfl rfl rfl (by decide +kernel) ⟨Nat.le_of_ble_eq_true rfl, Nat.le_of_ble_eq_true rfl⟩ rfl hl.1 rfl (Nat.le_of_ble_eq_true rfl) dX5_permutation_6 ⟨Nat.le_refl _, Nat.le_refl _⟩ ?_
  refine pw_topi (y := pb (wi a (nI 1) (nI 8))) (congrArg pb (wl_wi _ (nI 1) (nI 8) (by first | rfl | decide) (by first | rfl | decide))) ?_
  refine pn_ifeq_b (tgt := 25) hx hb dX5_permutation_9 (by decide) (fun c_9 => ?_) (fun c_9 => ?_)
  · refine lv_iconst (v := (-1)) hx hb dX5_permutation_25 (by decide) ?_
    refine pw_topi (y := f_perm am a b d) (by unfold f_perm; first | simp [c_9, c_22] | simp [c_9]) ?_
    exact W.iret hx hb hr (fun t ht _ => ⟨⟨_, C, rfl, ⟨rfl, hX⟩, by rw [ht]; exact hP⟩, hS.F ht⟩) hS.2.2 dX5_permutation_26
  · refine lv_iload_n hx hb dX5_permutation_12 rfl (lv_at hl 3 rfl) ?_
    refine lv_i2l hx hb dX5_permutation_13 rfl ?_
    refine lv_lconst (v := 0) hx hb dX5_permutation_14 (by decide) ?_
    refine lv_iload_n hx hb dX5_permutation_15 rfl (lv_at hl 1 rfl) ?_
    refine lv_iconst (v := nI 1) hx hb dX5_permutation_16 (by decide) ?_
    refine lv_isub hx hb dX5_permutation_17 ?_
    refine lv_i2l hx hb dX5_permutation_18 rfl ?_
    refine pw_cs S 3 (c_X5_in l d.toInt64 0 ((a - (nI 1)).toInt64)) gX5_permutation_X5_in rfl rfl rfl (by decide +kernel) ⟨Nat.le_of_ble_eq_true rfl, Nat.le_of_ble_eq_true rfl⟩ rfl hl.1 rfl (Nat.le_of_ble_eq_true rfl) dX5_permutation_19 ⟨Nat.le_refl _, Nat.le_refl _⟩ ?_
    refine pw_topi (y := pb (wi d (nI 0) (a - nI 1))) (congrArg pb (wl_wi _ (nI 0) (a - nI 1) (by first | rfl | decide) (by first | rfl | decide))) ?_
    refine pn_ifne_b (tgt := 27) hx hb dX5_permutation_22 (by decide) (fun c_22 => ?_) (fun c_22 => ?_)
    · obtain ⟨m9, hl_m9, hh_m9, rfl⟩ := wi_ex (by omega) c_9
      have ix_m9 : ix (nI m9) = m9 := nI_clamp (by omega)
      obtain ⟨i, hi1, rfl⟩ := wi_ex1 (by omega) c_22
      have ix_i : ix (nI i) = i := nI_clamp (by omega)
      refine lv_aload_n hx hb dX5_permutation_27 rfl (lv_at hl 0 rfl) ?_
      refine lv_iload_n hx hb dX5_permutation_28 rfl (lv_at hl 1 rfl) ?_
      refine pw_cvW S hK hP 0 5 rfl rfl 1 (c_X5_countWays l D cy Ad n mm pk tr C hI hn hF am hA m9 (by omega)) gX5_permutation_X5_countWays rfl rfl rfl (by decide +kernel) ⟨Nat.le_of_ble_eq_true rfl, Nat.le_of_ble_eq_true rfl⟩ rfl hl.1 rfl (Nat.le_of_ble_eq_true rfl) dX5_permutation_29 ⟨Nat.le_refl _, Nat.le_refl _⟩ hS (fun _ h9 => h9) (fun r9 C29 H locs hR hP _ _ hS => ?_)
      obtain ⟨rfl, hR⟩ := hR
      change W p l e _ s m _ below meth c H locs 0 0 _ (F0 m 32 ls [])
      have hX := MI_B hX hR.1 (fun k h => by have h8 : k = 12 := h; omega)
      have hF := fM_B hF hR.1
      have hA := mA_B hA hR.1 (by omega)
      have hY := hR.2
      have hpw := pow8 (m := m9) (by omega)
      have hpp : 1 ≤ 2 ^ m9 := Nat.pow_pos (by decide)
      refine lv_iload_n hx hb dX5_permutation_32 rfl (lv_at hl 2 rfl) ?_
      refine lv_i2l hx hb dX5_permutation_33 rfl ?_
      refine lv_lconst (v := 0) hx hb dX5_permutation_34 (by decide) ?_
      refine lv_aload_n hx hb dX5_permutation_35 rfl (lv_at hl 0 rfl) ?_
      refine pw_get hx hb hts (fun _ h9 => List.mem_cons_of_mem _ (List.mem_append_right _ h9)) hown hK hP 0 rfl rfl 15 (by decide) hF rfl (hts (.fieldLink RX5 49 "PastDrawsModel" "ways" "[I") (List.mem_of_getElem? (i := 2) rfl)) dX5_permutation_36 ?_
      refine lv_iconst (v := nI 0) hx hb dX5_permutation_39 (by decide) ?_
      refine pw_iald hx hb hK hP 12 rfl (by omega) (by decide) (v := wyF am m9 0) (hY 0 (by omega)) dX5_permutation_40 ?_
      refine lv_iconst (v := nI 1) hx hb dX5_permutation_41 (by decide) ?_
      refine lv_isub hx hb dX5_permutation_42 ?_
      refine lv_i2l hx hb dX5_permutation_43 rfl ?_
      have hK0 := wy_b (am := am) (m9 := m9) (by omega) (2 ^ m9) 0 (by omega) (by omega)
      have hK4 := p8 (l := 8 - pcn 0) (by omega)
      refine pw_cs S 3 (c_X5_in l b.toInt64 0 (((wyF am m9 0) - (nI 1)).toInt64)) gX5_permutation_X5_in rfl rfl rfl (by decide +kernel) ⟨Nat.le_of_ble_eq_true rfl, Nat.le_of_ble_eq_true rfl⟩ rfl hl.1 rfl (Nat.le_of_ble_eq_true rfl) dX5_permutation_44 ⟨Nat.le_refl _, Nat.le_refl _⟩ ?_
      refine pw_topi (y := pb (wi b (nI 0) (wyF am m9 0 - nI 1))) (congrArg pb (wl_wi _ (nI 0) (wyF am m9 0 - nI 1) (by first | rfl | decide) (by first | rfl | decide))) ?_
      refine pw_topi (y := pb (decide (0 ≤ b ∧ b < wyF am m9 0))) (congrArg pb (wi_lt ⟨hK0.1, by omega⟩)) ?_
      refine pn_ifne_b (tgt := 52) hx hb dX5_permutation_47 (by decide) (fun c_47 => ?_) (fun c_47 => ?_)
      · refine lv_iconst (v := nI 0) hx hb dX5_permutation_52 (by decide) ?_
        refine lv_istore (lv' := [(4, .int (nI 0)), (0, .ref (Ad 0)), (1, .int (nI m9)), (2, .int b), (3, .int (nI i))]) hx hb dX5_permutation_53 hl (by decide) rfl (fun ls hl => ?_)
        refine lv_iload_n hx hb dX5_permutation_55 rfl (lv_at hl 3 rfl) ?_
        refine lv_istore (lv' := [(5, .int b), (4, .int (nI 0)), (0, .ref (Ad 0)), (1, .int (nI m9)), (2, .int b), (3, .int (nI i))]) hx hb dX5_permutation_56 hl (by decide) rfl (fun ls hl => ?_)
        refine lv_iconst (v := nI 0) hx hb dX5_permutation_58 (by decide) ?_
        refine lv_istore (lv' := [(6, .int (nI 0)), (5, .int b), (4, .int (nI 0)), (0, .ref (Ad 0)), (1, .int (nI m9)), (2, .int b), (3, .int (nI i))]) hx hb dX5_permutation_59 hl (by decide) rfl (fun ls hl => ?_)
        refine lv_iconst (v := nI 0) hx hb dX5_permutation_61 (by decide) ?_
        refine lv_istore (lv' := [(7, .int (nI 0)), (6, .int (nI 0)), (5, .int b), (4, .int (nI 0)), (0, .ref (Ad 0)), (1, .int (nI m9)), (2, .int b), (3, .int (nI i))]) hx hb dX5_permutation_62 hl (by decide) rfl (fun ls hl => ?_)
        have c47 := of_decide_eq_true c_47
        rw [Int32.le_iff_toInt_le, Int32.lt_iff_toInt_lt] at c47
        have z0 : (0 : Int32).toInt = 0 := by decide
        have ef : f_perm am (nI m9) b (nI i) = nI (aplF am m9 (i + 1) 0 b) := by unfold f_perm; rw [c_9, c_22, ix_m9, ix_i, c_47]; rfl
        rw [ef]
        exact L5_pm S hK hP hF hn hA m9 (by omega) hY i (by omega) _ (fun pc9 ls9 hd9 => W.iret hx hb hr (fun t ht _ => ⟨⟨_, C29, rfl, ⟨rfl, hX⟩, by rw [ht]; exact hP⟩, hS.F ht⟩) hS.2.2 hd9) (m9 + 1) 0 0 b (nI 0) ls (by omega) (by omega) rfl (by omega) (by omega) (by omega) rfl (lv_sub hl [1, 2, 3, 0, 4, 5, 7] rfl)
      · refine lv_iconst (v := (-1)) hx hb dX5_permutation_50 (by decide) ?_
        refine pw_topi (y := f_perm am (nI m9) b (nI i)) (by unfold f_perm; rw [c_9, c_22, ix_m9, ix_i, c_47]; rfl) ?_
        exact W.iret hx hb hr (fun t ht _ => ⟨⟨_, C29, rfl, ⟨rfl, hX⟩, by rw [ht]; exact hP⟩, hS.F ht⟩) hS.2.2 dX5_permutation_51
    · refine lv_iconst (v := (-1)) hx hb dX5_permutation_25 (by decide) ?_
      refine pw_topi (y := f_perm am a b d) (by unfold f_perm; first | simp [c_9, c_22] | simp [c_9]) ?_
      exact W.iret hx hb hr (fun t ht _ => ⟨⟨_, C, rfl, ⟨rfl, hX⟩, by rw [ht]; exact hP⟩, hS.F ht⟩) hS.2.2 dX5_permutation_26

set_option maxHeartbeats 4000000 in
set_option maxRecDepth 100000 in
theorem L5_pl_in {p : Program} {l : Launch} {e : Env} {s : State} {m : MethodId} {args : Array Value} {below : List Frame} {meth : Method} {c : Code} {H : Heap} {locs : List Loc} {Q : State → Prop} (S : CallFix p m c cX5_place 8 s args wsX5_place RX5) {D : va_G} {cy : Nat → ClassId} {Ad : Nat → Nat} {n mm : Nat} {pk : Int64} {tr : Int32} {C : pw_C} (hK : pw_K D cy s) (hP : pw_P D cy Ad shM C H) (hF : fM n mm pk tr Ad C) (hn : 1 ≤ n ∧ n ≤ 12) {am : Nat → Nat} (hA : mA am C) (m9 : Nat) (hm : 1 ≤ m9 ∧ m9 ≤ 8) (hY : ∀ Y, Y < 2 ^ m9 → C.1 12 Y = wyF am m9 Y)  (p9 : Int32) (j Z : Nat) (hj : j < m9) (hZ : Z < 2 ^ m9) (hpj : pcn Z = j) (hdm : dg p9 j < m9) (nu : Int32) (hk : ∀ (ls : Array Slot), lv_has ls 8 [(4, .int (nu + wbS am (wyF am m9) Z (dg p9 j))), (1, .int (nI m9)), (2, .int p9), (3, .int (nI Z)), (5, .int (nI j)), (6, .int (nI (dg p9 j))), (0, .ref (Ad 0))] → W p l e (k2_rm 1 25) s m args below meth c H locs 0 0 Q (F0 m 109 ls [])) : ∀ (f : Nat) (ch : Nat) (ls : Array Slot), m9 - ch < f → (ch ≤ dg p9 j) → lv_has ls 8 [(7, .int (nI ch)), (4, .int (nu + wbS am (wyF am m9) Z ch)), (1, .int (nI m9)), (2, .int p9), (3, .int (nI Z)), (5, .int (nI j)), (6, .int (nI (dg p9 j))), (0, .ref (Ad 0))] → W p l e (k2_rm 1 25) s m args below meth c H locs 0 0 Q (F0 m 82 ls []) := by
  have hx := S.1
  have hb := S.2.1
  have hml := S.2.2.1
  have hown := S.2.2.2.1
  have hts := S.2.2.2.2
  intro f
  induction f with
  | zero => intro ch ls hf; exact absurd hf (Nat.not_lt_zero _)
  | succ f ih =>
    intro ch ls hf hc9 hl
    refine lv_iload hx hb dX5_place_82 (lv_at hl 0 rfl) ?_
    refine lv_iload hx hb dX5_place_84 (lv_at hl 6 rfl) ?_
    refine pn_icmp_ge (tgt := 109) hx hb (by omega) (by omega) dX5_place_86 (by decide) (fun c_86 => ?_) (fun c_86 => ?_)
    · obtain rfl : ch = dg p9 j := by omega
      exact hk ls (lv_sub hl [1, 2, 3, 4, 5, 6, 7] rfl)
    · refine lv_iload hx hb dX5_place_89 (lv_at hl 1 rfl) ?_
      refine lv_aload_n hx hb dX5_place_91 rfl (lv_at hl 7 rfl) ?_
      refine lv_iload_n hx hb dX5_place_92 rfl (lv_at hl 4 rfl) ?_
      refine lv_iload hx hb dX5_place_93 (lv_at hl 5 rfl) ?_
      refine lv_iload hx hb dX5_place_95 (lv_at hl 0 rfl) ?_
      refine pw_cv S hK hP 0 5 rfl rfl 3 (c_X5_wayOn l D cy Ad n mm pk tr C hn hF am hA m9 hm hY Z j ch hZ hpj (by omega) (by omega)) gX5_place_X5_wayOn rfl rfl rfl (by decide +kernel) ⟨Nat.le_of_ble_eq_true rfl, Nat.le_of_ble_eq_true rfl⟩ rfl hl.1 rfl (Nat.le_of_ble_eq_true rfl) dX5_place_97 ⟨Nat.le_refl _, Nat.le_refl _⟩ ?_
      refine lv_iadd hx hb dX5_place_100 ?_
      refine pw_topi (y := nu + wbS am (wyF am m9) Z (ch + 1)) (by rw [wbS_s, Int32.add_assoc]) ?_
      refine lv_istore (lv' := [(4, .int (nu + wbS am (wyF am m9) Z (ch + 1))), (7, .int (nI ch)), (1, .int (nI m9)), (2, .int p9), (3, .int (nI Z)), (5, .int (nI j)), (6, .int (nI (dg p9 j))), (0, .ref (Ad 0))]) hx hb dX5_place_101 hl (by decide) rfl (fun ls hl => ?_)
      refine lv_iinc (v := nI (ch + 1)) (lv' := [(7, .int (nI (ch + 1))), (4, .int (nu + wbS am (wyF am m9) Z (ch + 1))), (1, .int (nI m9)), (2, .int p9), (3, .int (nI Z)), (5, .int (nI j)), (6, .int (nI (dg p9 j))), (0, .ref (Ad 0))]) hx hb dX5_place_103 hl (k := 1) rfl (nI_add _ 1) (by decide) rfl (fun ls hl => ?_)
      refine lv_goto (tgt := 82) hx hb dX5_place_106 (by decide) ?_
      exact ih (ch + 1) ls (by omega) (by omega) (lv_sub hl [0, 1, 2, 3, 4, 5, 6, 7] rfl)

set_option maxHeartbeats 4000000 in
set_option maxRecDepth 100000 in
theorem L5_pl {p : Program} {l : Launch} {e : Env} {s : State} {m : MethodId} {args : Array Value} {below : List Frame} {meth : Method} {c : Code} {H : Heap} {locs : List Loc} {Q : State → Prop} (S : CallFix p m c cX5_place 8 s args wsX5_place RX5) {D : va_G} {cy : Nat → ClassId} {Ad : Nat → Nat} {n mm : Nat} {pk : Int64} {tr : Int32} {C : pw_C} (hK : pw_K D cy s) (hP : pw_P D cy Ad shM C H) (hF : fM n mm pk tr Ad C) (hn : 1 ≤ n ∧ n ≤ 12) {am : Nat → Nat} (hA : mA am C) (m9 : Nat) (hm : 1 ≤ m9 ∧ m9 ≤ 8) (hY : ∀ Y, Y < 2 ^ m9 → C.1 12 Y = wyF am m9 Y)  (p9 : Int32) (r : Int32) (hq : ∀ (pc9 : Nat) (ls : Array Slot), decode cX5_place pc9 = .ok (.ireturn, 1) → W p l e (k2_rm 1 25) s m args below meth c H locs 0 0 Q (F0 m pc9 ls [.int r])) : ∀ (f : Nat) (j : Nat) (Z : Nat) (nu : Int32) (ls : Array Slot), m9 - j < f → (j ≤ m9) → (pcn Z = j) → (Z < 2 ^ m9) → (pnF am m9 p9 (m9 - j) j Z nu = r) → lv_has ls 8 [(4, .int nu), (1, .int (nI m9)), (2, .int p9), (3, .int (nI Z)), (5, .int (nI j)), (0, .ref (Ad 0))] → W p l e (k2_rm 1 25) s m args below meth c H locs 0 0 Q (F0 m 27 ls []) := by
  have hx := S.1
  have hb := S.2.1
  have hml := S.2.2.1
  have hown := S.2.2.2.1
  have hts := S.2.2.2.2
  intro f
  induction f with
  | zero => intro j Z nu ls hf; exact absurd hf (Nat.not_lt_zero _)
  | succ f ih =>
    intro j Z nu ls hf hj hpj hZ hr0 hl
    have hpw := pow8 hm.2
    refine lv_iload hx hb dX5_place_27 (lv_at hl 4 rfl) ?_
    refine lv_iload_n hx hb dX5_place_29 rfl (lv_at hl 1 rfl) ?_
    refine pn_icmp_ge (tgt := 122) hx hb (by omega) (by omega) dX5_place_30 (by decide) (fun c_30 => ?_) (fun c_30 => ?_)
    · have hz : m9 - j = 0 := by omega
      rw [hz] at hr0
      refine lv_iload hx hb dX5_place_122 (lv_at hl 0 rfl) ?_
      refine pw_topi (y := r) hr0 ?_
      exact hq _ ls dX5_place_124
    · obtain ⟨z, hz⟩ : ∃ z, m9 - j = z + 1 := ⟨m9 - j - 1, by omega⟩
      rw [hz, pnF] at hr0
      refine lv_iload_n hx hb dX5_place_33 rfl (lv_at hl 2 rfl) ?_
      refine lv_iconst (v := nI 3) hx hb dX5_place_34 (by decide) ?_
      refine lv_iload hx hb dX5_place_35 (lv_at hl 4 rfl) ?_
      refine lv_imul hx hb dX5_place_37 ?_
      refine pw_topi (pk_mul _ _) ?_
      refine lv_ishr hx hb dX5_place_38 ?_
      refine lv_bipush (v := nI 7) hx hb dX5_place_39 (by decide) ?_
      refine lv_iand hx hb dX5_place_41 ?_
      refine pw_topi (y := nI (dg p9 j)) (dg_s p9 (by omega)) ?_
      refine lv_istore (lv' := [(6, .int (nI (dg p9 j))), (4, .int nu), (1, .int (nI m9)), (2, .int p9), (3, .int (nI Z)), (5, .int (nI j)), (0, .ref (Ad 0))]) hx hb dX5_place_42 hl (by decide) rfl (fun ls hl => ?_)
      have hlt := dg_lt p9 j
      refine lv_iload hx hb dX5_place_44 (lv_at hl 0 rfl) ?_
      refine lv_iload_n hx hb dX5_place_46 rfl (lv_at hl 2 rfl) ?_
      refine pn_icmp_ge (tgt := 76) hx hb (by omega) (by omega) dX5_place_47 (by decide) (fun c_47 => ?_) (fun c_47 => ?_)
      · refine lv_bipush (v := (-2)) hx hb dX5_place_76 (by decide) ?_
        have hno : ¬ (dg p9 j < m9 ∧ fre am Z (dg p9 j) = true) := by first | (exact fun q => absurd q.1 (by omega)) | (exact fun q => by have := fre_nb q.2; rw [tb1] at this; cases this) | (exact fun q => by have h9 := q.2; unfold fre at h9; rw [hpj, c_73] at h9; cases h9)
        rw [if_neg hno] at hr0
        refine pw_topi (y := r) hr0 ?_
        exact hq _ ls dX5_place_78
      · refine lv_iload_n hx hb dX5_place_50 rfl (lv_at hl 4 rfl) ?_
        refine lv_iload hx hb dX5_place_51 (lv_at hl 0 rfl) ?_
        refine lv_ishr hx hb dX5_place_53 ?_
        refine lv_iconst (v := nI 1) hx hb dX5_place_54 (by decide) ?_
        refine lv_iand hx hb dX5_place_55 ?_
        refine pw_topi (y := nI (Z / 2 ^ dg p9 j % 2)) (ps_bit (by omega) (by omega)) ?_
        refine lv_iconst (v := nI 1) hx hb dX5_place_56 (by decide) ?_
        refine pn_icmp_eq (tgt := 76) hx hb (by omega) (by omega) dX5_place_57 (by decide) (fun c_57 => ?_) (fun c_57 => ?_)
        · have tb1 : Z.testBit (dg p9 j) = true := by
            have h9 := tb_dm Z (dg p9 j)
            cases hb9 : Z.testBit (dg p9 j)
            · rw [hb9, if_neg (by decide)] at h9; omega
            · rfl
          refine lv_bipush (v := (-2)) hx hb dX5_place_76 (by decide) ?_
          have hno : ¬ (dg p9 j < m9 ∧ fre am Z (dg p9 j) = true) := by first | (exact fun q => absurd q.1 (by omega)) | (exact fun q => by have := fre_nb q.2; rw [tb1] at this; cases this) | (exact fun q => by have h9 := q.2; unfold fre at h9; rw [hpj, c_73] at h9; cases h9)
          rw [if_neg hno] at hr0
          refine pw_topi (y := r) hr0 ?_
          exact hq _ ls dX5_place_78
        · have tb0 : Z.testBit (dg p9 j) = false := by
            have h9 := tb_dm Z (dg p9 j)
            cases hb9 : Z.testBit (dg p9 j)
            · rfl
            · rw [hb9, if_pos rfl] at h9; omega
          refine lv_aload_n hx hb dX5_place_60 rfl (lv_at hl 6 rfl) ?_
          refine pw_get hx hb hts (fun _ h9 => List.mem_cons_of_mem _ (List.mem_append_right _ h9)) hown hK hP 0 rfl rfl 4 (by decide) hF rfl (hts (.fieldLink RX5 20 "PastDrawsModel" "isAllowed" "[Z") (List.mem_of_getElem? (i := 2) rfl)) dX5_place_61 ?_
          refine lv_bipush (v := nI 8) hx hb dX5_place_64 (by decide) ?_
          refine lv_iload hx hb dX5_place_66 (lv_at hl 5 rfl) ?_
          refine lv_imul hx hb dX5_place_68 ?_
          refine pw_topi (pk_mul _ _) ?_
          refine lv_iload hx hb dX5_place_69 (lv_at hl 0 rfl) ?_
          refine lv_iadd hx hb dX5_place_71 ?_
          refine pw_topi (nI_add _ _) ?_
          refine pw_zald hx hb hK hP 4 rfl (by omega) (by decide) (v := pb ((am j).testBit (dg p9 j))) ((hA j (by omega)).2 (dg p9 j) (by omega)) dX5_place_72 ?_
          refine pn_ifne_b (tgt := 79) hx hb dX5_place_73 (by decide) (fun c_73 => ?_) (fun c_73 => ?_)
          · refine lv_iconst (v := nI 0) hx hb dX5_place_79 (by decide) ?_
            refine lv_istore (lv' := [(7, .int (nI 0)), (6, .int (nI (dg p9 j))), (4, .int nu), (1, .int (nI m9)), (2, .int p9), (3, .int (nI Z)), (5, .int (nI j)), (0, .ref (Ad 0))]) hx hb dX5_place_80 hl (by decide) rfl (fun ls hl => ?_)
            have hfr : fre am Z (dg p9 j) = true := by unfold fre; rw [hpj, c_73, tb0]; rfl
            rw [if_pos ⟨c_47, hfr⟩] at hr0
            have hpn := pcn_nb Z (by omega) (dg p9 j) (by omega) (fre_nb hfr)
            refine L5_pl_in S hK hP hF hn hA m9 hm hY p9 j Z (by omega) hZ hpj c_47 nu (fun ls hl => ?_) (m9 + 1) 0 ls (by omega) (by omega) (by rw [show wbS am (wyF am m9) Z 0 = 0 from rfl, Int32.add_zero]; exact (lv_sub hl [0, 2, 3, 4, 5, 6, 1, 7] rfl))
            refine lv_iload_n hx hb dX5_place_109 rfl (lv_at hl 3 rfl) ?_
            refine lv_iconst (v := nI 1) hx hb dX5_place_110 (by decide) ?_
            refine lv_iload hx hb dX5_place_111 (lv_at hl 5 rfl) ?_
            refine lv_ishl hx hb dX5_place_113 ?_
            refine pw_topi (y := nI (2 ^ dg p9 j)) (ps_shl1 (by omega)) ?_
            refine lv_ior hx hb dX5_place_114 ?_
            refine pw_topi (y := nI (Z ||| 2 ^ dg p9 j)) (nx_or _ _) ?_
            refine lv_istore_n (lv' := [(3, .int (nI (Z ||| 2 ^ dg p9 j))), (4, .int (nu + wbS am (wyF am m9) Z (dg p9 j))), (1, .int (nI m9)), (2, .int p9), (5, .int (nI j)), (6, .int (nI (dg p9 j))), (0, .ref (Ad 0))]) hx hb dX5_place_115 rfl hl (by decide) rfl (fun ls hl => ?_)
            refine lv_iinc (v := nI (j + 1)) (lv' := [(5, .int (nI (j + 1))), (3, .int (nI (Z ||| 2 ^ dg p9 j))), (4, .int (nu + wbS am (wyF am m9) Z (dg p9 j))), (1, .int (nI m9)), (2, .int p9), (6, .int (nI (dg p9 j))), (0, .ref (Ad 0))]) hx hb dX5_place_116 hl (k := 4) rfl (nI_add _ 1) (by decide) rfl (fun ls hl => ?_)
            refine lv_goto (tgt := 27) hx hb dX5_place_119 (by decide) ?_
            exact ih (j + 1) (Z ||| 2 ^ dg p9 j) (nu + wbS am (wyF am m9) Z (dg p9 j)) ls (by omega) (by omega) (by omega) (or_ltm hZ c_47) (by rw [show m9 - (j + 1) = z by omega]; exact hr0) (lv_sub hl [2, 3, 4, 1, 0, 6] rfl)
          · refine lv_bipush (v := (-2)) hx hb dX5_place_76 (by decide) ?_
            have hno : ¬ (dg p9 j < m9 ∧ fre am Z (dg p9 j) = true) := by first | (exact fun q => absurd q.1 (by omega)) | (exact fun q => by have := fre_nb q.2; rw [tb1] at this; cases this) | (exact fun q => by have h9 := q.2; unfold fre at h9; rw [hpj, c_73] at h9; cases h9)
            rw [if_neg hno] at hr0
            refine pw_topi (y := r) hr0 ?_
            exact hq _ ls dX5_place_78

set_option maxHeartbeats 4000000 in
set_option maxRecDepth 100000 in
theorem c_X5_place (l : Launch) (D : va_G) (cy : Nat → ClassId) (Ad : Nat → Nat) (n mm : Nat) (C : pw_C) (hI : pw_I Ad shM) (hn : 1 ≤ n ∧ n ≤ 12) (hmm : 1 ≤ mm ∧ mm ≤ 16) (nx : Nat → Nat → Nat) (mx : Nat → Nat → Option Nat) (en : Nat → Bool) (am wt : Nat → Nat) (hX : MI n mm nx mx en am wt Ad C) (a b : Int32) : Met l yX5_place wsX5_place (k2_rm 1 25) (pw_Pre ([.ref (Ad 0), .int a, .int b]) D cy Ad shM C) (pw_Post (fun r9 C' => r9 = some (.int (f_place am a b)) ∧ (MI n mm nx mx en am wt Ad C')) D cy Ad shM) 0 0 (pw_fr Ad shM) := by
  refine Met.ofW (cc := cX5_place) (maxL := 8) (ret := (some .int)) (by decide) rfl ?_
  intro p e s m args below meth c s₁ B hml hv
  obtain ⟨rfl, hP, hK⟩ := hv
  have hx := B.exec
  have hb := B.bytes
  have hr := B.returns
  have hts := atoms_spec (ws := wsX5_place) B.pre
  have hown : s.vm.findClass RX5 = some m.cls := findClass_of_methodNamed B.named
  have hlocks := B.notSynchronized
  have S : CallFix p m c cX5_place 8 s ([.ref (Ad 0), .int a, .int b]).toArray wsX5_place RX5 := ⟨hx, hb, hml, hown, hts⟩
  change W p l e (k2_rm 1 25) s m _ below meth c s.heap [] 0 0 _ _
  have hl := lv_entry ([.ref (Ad 0), .int a, .int b]) (n := 8) (Nat.le_of_ble_eq_true rfl)
  rw [lg_entry_eq]
  generalize (lg_sl ([.ref (Ad 0), .int a, .int b]) ++ List.replicate (8 - (lg_sl ([.ref (Ad 0), .int a, .int b])).length) Slot.unset).toArray = ls at hl ⊢
  have hl : lv_has ls 8 [(0, .ref (Ad 0)), (1, .int a), (2, .int b)] := hl
  have hS : va_S (pw_fr Ad shM) s.heap s.heap [] := va_S.rf
  obtain ⟨⟨pk, tr, hF⟩, hN, hM, hE, hA, hT⟩ := id hX
  refine lv_iload_n hx hb dX5_place_0 rfl (lv_at hl 1 rfl) ?_
  refine lv_i2l hx hb dX5_place_1 rfl ?_
  refine lv_lconst (v := 1) hx hb dX5_place_2 (by decide) ?_
  refine lv_ldc2 hx hb hown (hts (.constantLong RX5 157 (8)) (List.mem_of_getElem? (i := 1) rfl)) dX5_place_3 ?_
  refine pw_cs S 3 (c_X5_in l a.toInt64 1 (8)) gX5_place_X5_in rfl rfl rfl (by decide +kernel) ⟨Nat.le_of_ble_eq_true rfl, Nat.le_of_ble_eq_true rfl⟩ rfl hl.1 rfl (Nat.le_of_ble_eq_true rfl) dX5_place_6 ⟨Nat.le_refl _, Nat.le_refl _⟩ ?_
  refine pw_topi (y := pb (wi a (nI 1) (nI 8))) (congrArg pb (wl_wi _ (nI 1) (nI 8) (by first | rfl | decide) (by first | rfl | decide))) ?_
  refine pn_ifne_b (tgt := 14) hx hb dX5_place_9 (by decide) (fun c_9 => ?_) (fun c_9 => ?_)
  · obtain ⟨m9, hl_m9, hh_m9, rfl⟩ := wi_ex (by omega) c_9
    have ix_m9 : ix (nI m9) = m9 := nI_clamp (by omega)
    refine lv_aload_n hx hb dX5_place_14 rfl (lv_at hl 0 rfl) ?_
    refine lv_iload_n hx hb dX5_place_15 rfl (lv_at hl 1 rfl) ?_
    refine pw_cvW S hK hP 0 5 rfl rfl 1 (c_X5_countWays l D cy Ad n mm pk tr C hI hn hF am hA m9 (by omega)) gX5_place_X5_countWays rfl rfl rfl (by decide +kernel) ⟨Nat.le_of_ble_eq_true rfl, Nat.le_of_ble_eq_true rfl⟩ rfl hl.1 rfl (Nat.le_of_ble_eq_true rfl) dX5_place_16 ⟨Nat.le_refl _, Nat.le_refl _⟩ hS (fun _ h9 => h9) (fun r9 C16 H locs hR hP _ _ hS => ?_)
    obtain ⟨rfl, hR⟩ := hR
    change W p l e _ s m _ below meth c H locs 0 0 _ (F0 m 19 ls [])
    have hX := MI_B hX hR.1 (fun k h => by have h8 : k = 12 := h; omega)
    have hF := fM_B hF hR.1
    have hA := mA_B hA hR.1 (by omega)
    have hY := hR.2
    have hpw := pow8 (m := m9) (by omega)
    have hpp : 1 ≤ 2 ^ m9 := Nat.pow_pos (by decide)
    refine lv_iconst (v := nI 0) hx hb dX5_place_19 (by decide) ?_
    refine lv_istore_n (lv' := [(3, .int (nI 0)), (0, .ref (Ad 0)), (1, .int (nI m9)), (2, .int b)]) hx hb dX5_place_20 rfl hl (by decide) rfl (fun ls hl => ?_)
    refine lv_iconst (v := nI 0) hx hb dX5_place_21 (by decide) ?_
    refine lv_istore (lv' := [(4, .int (nI 0)), (3, .int (nI 0)), (0, .ref (Ad 0)), (1, .int (nI m9)), (2, .int b)]) hx hb dX5_place_22 hl (by decide) rfl (fun ls hl => ?_)
    refine lv_iconst (v := nI 0) hx hb dX5_place_24 (by decide) ?_
    refine lv_istore (lv' := [(5, .int (nI 0)), (4, .int (nI 0)), (3, .int (nI 0)), (0, .ref (Ad 0)), (1, .int (nI m9)), (2, .int b)]) hx hb dX5_place_25 hl (by decide) rfl (fun ls hl => ?_)
    have ef : f_place am (nI m9) b = pnF am m9 b m9 0 0 0 := by unfold f_place; rw [if_pos c_9, ix_m9]
    rw [ef]
    exact L5_pl S hK hP hF hn hA m9 (by omega) hY b _ (fun pc9 ls9 hd9 => W.iret hx hb hr (fun t ht _ => ⟨⟨_, C16, rfl, ⟨rfl, hX⟩, by rw [ht]; exact hP⟩, hS.F ht⟩) hS.2.2 hd9) (m9 + 1) 0 0 0 ls (by omega) (by omega) rfl (by omega) rfl (lv_sub hl [1, 4, 5, 2, 0, 3] rfl)
  · refine lv_iconst (v := (-1)) hx hb dX5_place_12 (by decide) ?_
    refine pw_topi (y := f_place am a b) (by unfold f_place; rw [c_9]; rfl) ?_
    exact W.iret hx hb hr (fun t ht _ => ⟨⟨_, C, rfl, ⟨rfl, hX⟩, by rw [ht]; exact hP⟩, hS.F ht⟩) hS.2.2 dX5_place_13
