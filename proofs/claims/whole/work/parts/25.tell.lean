def fdv (x y : Int32) : Int32 := if 0 ≤ x ^^^ y then x / y else if x / y * y = x then x / y else x / y - 1
theorem fd_neg {a : Int32} {Z : Nat} (ha : a < 0) (hZ : 1 ≤ Z ∧ Z < 2 ^ 30) : fdv a (nI Z) < 0 := by
  have z0 : (0 : Int32).toInt = 0 := by decide
  have h0 : a.toInt < 0 := by have := Int32.lt_iff_toInt_lt.mp ha; rw [z0] at this; exact this
  have hlo := Int32.le_toInt a
  obtain ⟨A, hA⟩ : ∃ A : Nat, a.toInt = -(A : Int) := ⟨(-a.toInt).toNat, by omega⟩
  have hA1 : 1 ≤ A ∧ A ≤ 2 ^ 31 := by omega
  have hle : A / Z ≤ A := Nat.div_le_self _ _
  have hdiv0 : ((A : Int).tdiv (Z : Int)) = ((A / Z : Nat) : Int) := by
    rw [Int.tdiv_eq_ediv_of_nonneg (by omega)]
    rfl
  have hh0 : 1 < Z → A / Z ≤ 2 ^ 30 := fun hz => by
    have : A / Z ≤ A / 2 := Nat.div_le_div_left hz (by decide)
    omega
  generalize A / Z = Q at hle hdiv0 hh0
  have hnx : ¬ 0 ≤ a ^^^ nI Z := by
    rw [Int32.le_iff_toInt_le, z0]
    have hm : (a ^^^ nI Z).toBitVec.msb = true := by
      rw [Int32.toBitVec_xor, BitVec.msb_xor, BitVec.msb_eq_toInt, BitVec.msb_eq_toInt]
      have e1 : decide (a.toBitVec.toInt < 0) = true := decide_eq_true h0
      have e2 : decide ((nI Z).toBitVec.toInt < 0) = false := decide_eq_false (by
        have := nI_toInt (n := Z) (by omega)
        have e3 : (nI Z).toBitVec.toInt = (Z : Int) := this
        rw [e3]; omega)
      rw [e1, e2]; rfl
    rw [BitVec.msb_eq_toInt] at hm
    have hm := of_decide_eq_true hm
    have e4 : (a ^^^ nI Z).toInt < 0 := hm
    omega
  unfold fdv
  rw [if_neg hnx]
  rcases Nat.lt_or_ge 1 Z with hz | hz
  · have hh := hh0 hz
    have hq : (a / nI Z).toInt = -(Q : Int) := by
      rw [Int32.toInt_div, hA, nI_toInt (by omega), Int.neg_tdiv, hdiv0]
      exact Int.bmod_eq_of_le (by omega) (by omega)
    by_cases hc : a / nI Z * nI Z = a
    · rw [if_pos hc, Int32.lt_iff_toInt_lt, z0, hq]
      rcases Nat.eq_zero_or_pos Q with q | q
      · exfalso
        have e5 : a / nI Z = 0 := by
          apply Int32.toInt_inj.mp
          rw [hq, q, z0]; rfl
        rw [e5, Int32.zero_mul] at hc
        rw [← hc, z0] at h0
        omega
      · omega
    · rw [if_neg hc, Int32.lt_iff_toInt_lt, z0, Int32.toInt_sub, hq]
      have e6 : (1 : Int32).toInt = 1 := by decide
      rw [e6, Int.bmod_eq_of_le (by omega) (by omega)]
      omega
  · obtain rfl : Z = 1 := by omega
    have e7 : a / nI 1 = a := by
      show a / 1 = a
      apply Int32.toInt_inj.mp
      have e6 : (1 : Int32).toInt = 1 := by decide
      rw [Int32.toInt_div, e6, Int.tdiv_one]
      exact Int.bmod_eq_of_le (by omega) (by omega)
    have e8 : a * nI 1 = a := Int32.mul_one a
    rw [e7, e8, if_pos rfl]
    exact ha
theorem fd_pos {A Z : Nat} (hA : A < 2 ^ 31) (hZ : 1 ≤ Z ∧ Z < 2 ^ 30) : fdv (nI A) (nI Z) = nI (A / Z) := by
  unfold fdv
  rw [nx_xor, if_pos (nI_pos' (Nat.xor_lt_two_pow hA (by omega))), pk_div hA (by omega) (by omega)]
theorem fd_wi {a : Int32} {k Z : Nat} (hk : 1 ≤ k ∧ k ≤ 16) (hZ : 1 ≤ Z ∧ Z ≤ 16000) : wi (fdv a (nI Z)) (nI 0) (nI (k - 1)) = wi a (nI 0) (nI (k * Z - 1)) := by
  have hkz : 1 ≤ k * Z ∧ k * Z ≤ 256000 := ⟨Nat.mul_pos hk.1 hZ.1, by have := Nat.mul_le_mul hk.2 hZ.2; omega⟩
  by_cases ha : a < 0
  · rw [wt_f1 (fd_neg ha (by omega)), wt_f1 ha]
  · obtain ⟨A, hA, rfl⟩ := nI_of ha
    rw [fd_pos hA (by omega)]
    have hd : A / Z < 2 ^ 31 := Nat.lt_of_le_of_lt (Nat.div_le_self _ _) hA
    unfold wi
    apply decide_eq_decide.mpr
    rw [nI_leI (by decide) hd, nI_leI hd (by omega), nI_leI (by decide) hA, nI_leI hA (by omega)]
    have h1 : A / Z < k ↔ A < k * Z := Nat.div_lt_iff_lt_mul (by omega)
    generalize A / Z = Q at h1 hd ⊢
    omega
def f_tell (mm : Nat) (wt : Nat → Nat) (a : Int32) : Int32 := if smF wt mm = 0 then (-2) else if wi a (nI 0) (nI (mm * smF wt mm - 1)) = true then (if nI (ix a % smF wt mm) < (tmK wt mm (smF wt mm)).2.1 (ix a / smF wt mm) then nI (ix a / smF wt mm) else (tmK wt mm (smF wt mm)).2.2.1 (ix a / smF wt mm)) else (-1)

set_option maxHeartbeats 4000000 in
set_option maxRecDepth 100000 in
theorem c_X4_tell (l : Launch) (D : va_G) (cy : Nat → ClassId) (Ad : Nat → Nat) (n mm : Nat) (C : pw_C) (hI : pw_I Ad (shX n)) (hn : 1 ≤ n ∧ n ≤ 12) (hmm : 1 ≤ mm ∧ mm ≤ 16) (nx : Nat → Nat → Nat) (mx : Nat → Nat → Option Nat) (en : Nat → Bool) (am wt : Nat → Nat) (hX : XI n mm nx mx en am wt Ad C) (a : Int32) : Met l yX4_tell wsX4_tell (k2_rm 2 46) (pw_Pre ([.ref (Ad 0), .int a]) D cy Ad (shX n) C) (pw_Post (fun r9 C' => r9 = some (.int (f_tell mm wt a)) ∧ (XI n mm nx mx en am wt Ad C')) D cy Ad (shX n)) 0 0 (pw_fr Ad (shX n)) := by
  refine Met.ofW (cc := cX4_tell) (maxL := 3) (ret := (some .int)) (by decide) rfl ?_
  intro p e s m args below meth c s₁ B hml hv
  obtain ⟨rfl, hP, hK⟩ := hv
  have hx := B.exec
  have hb := B.bytes
  have hr := B.returns
  have hts := atoms_spec (ws := wsX4_tell) B.pre
  have hown : s.vm.findClass RX4 = some m.cls := findClass_of_methodNamed B.named
  have hlocks := B.notSynchronized
  have S : CallFix p m c cX4_tell 3 s ([.ref (Ad 0), .int a]).toArray wsX4_tell RX4 := ⟨hx, hb, hml, hown, hts⟩
  change W p l e (k2_rm 2 46) s m _ below meth c s.heap [] 0 0 _ _
  have hl := lv_entry ([.ref (Ad 0), .int a]) (n := 3) (Nat.le_of_ble_eq_true rfl)
  rw [lg_entry_eq]
  generalize (lg_sl ([.ref (Ad 0), .int a]) ++ List.replicate (3 - (lg_sl ([.ref (Ad 0), .int a])).length) Slot.unset).toArray = ls at hl ⊢
  have hl : lv_has ls 3 [(0, .ref (Ad 0)), (1, .int a)] := hl
  have hS : va_S (pw_fr Ad (shX n)) s.heap s.heap [] := va_S.rf
  obtain ⟨hF, hN, hM, hE, hA, hT⟩ := id hX
  refine lv_aload_n hx hb dX4_tell_0 rfl (lv_at hl 0 rfl) ?_
  refine pw_get hx hb hts (fun _ h9 => List.mem_cons_of_mem _ (List.mem_append_left _ (List.mem_append_right _ h9))) hown hK hP 0 rfl rfl 4 (by decide) hF.1 rfl (hts (.fieldLink RX4 48 "PastDraws" "table" "LPastDraws$Table;") (List.mem_of_getElem? (i := 1) rfl)) dX4_tell_1 ?_
  refine pw_cv S hK hP 4 3 rfl rfl 0 (c_X3_sum l D cy Ad n mm C hn hF wt hT hmm) gX4_tell_X3_sum rfl rfl rfl (by decide +kernel) ⟨Nat.le_of_ble_eq_true rfl, Nat.le_of_ble_eq_true rfl⟩ rfl hl.1 rfl (Nat.le_of_ble_eq_true rfl) dX4_tell_4 ⟨Nat.le_refl _, Nat.le_refl _⟩ ?_
  refine lv_istore_n (lv' := [(2, .int (nI (smF wt mm))), (0, .ref (Ad 0)), (1, .int a)]) hx hb dX4_tell_7 rfl hl (by decide) rfl (fun ls hl => ?_)
  have hsm := smF_le (fun j hj => (hT j (by omega)).1) mm (Nat.le_refl _)
  refine lv_iload_n hx hb dX4_tell_8 rfl (lv_at hl 0 rfl) ?_
  refine pn_ifne_n (tgt := 15) hx hb (by omega) dX4_tell_9 (by decide) (fun c_9 => ?_) (fun c_9 => ?_)
  · refine lv_aload_n hx hb dX4_tell_15 rfl (lv_at hl 1 rfl) ?_
    refine pw_get hx hb hts (fun _ h9 => List.mem_cons_of_mem _ (List.mem_append_left _ (List.mem_append_right _ h9))) hown hK hP 0 rfl rfl 4 (by decide) hF.1 rfl (hts (.fieldLink RX4 48 "PastDraws" "table" "LPastDraws$Table;") (List.mem_of_getElem? (i := 1) rfl)) dX4_tell_16 ?_
    refine lv_iload_n hx hb dX4_tell_19 rfl (lv_at hl 2 rfl) ?_
    refine lv_iload_n hx hb dX4_tell_20 rfl (lv_at hl 0 rfl) ?_
    refine pw_cs S 2 (c_J9_floorDiv_7cf53 l a (nI (smF wt mm)) (nI_ne0 (by omega) (by omega))) gX4_tell_J9_floorDiv_7cf53 rfl rfl rfl (by decide +kernel) ⟨Nat.le_of_ble_eq_true rfl, Nat.le_of_ble_eq_true rfl⟩ rfl hl.1 rfl (Nat.le_of_ble_eq_true rfl) dX4_tell_21 ⟨Nat.le_refl _, Nat.le_refl _⟩ ?_
    refine pw_cv S hK hP 4 3 rfl rfl 1 (c_X3_isThing l D cy Ad n mm C hn hF (fdv a (nI (smF wt mm))) hmm) gX4_tell_X3_isThing rfl rfl rfl (by decide +kernel) ⟨Nat.le_of_ble_eq_true rfl, Nat.le_of_ble_eq_true rfl⟩ rfl hl.1 rfl (Nat.le_of_ble_eq_true rfl) dX4_tell_24 ⟨Nat.le_refl _, Nat.le_refl _⟩ ?_
    refine pn_ifne_b (tgt := 32) hx hb dX4_tell_27 (by decide) (fun c_27 => ?_) (fun c_27 => ?_)
    · rw [fd_wi hmm (by omega)] at c_27
      have hms := Nat.mul_le_mul hmm.2 (show smF wt mm ≤ 16000 by omega)
      have hmp : 1 ≤ mm * smF wt mm := Nat.mul_pos hmm.1 (by omega)
      obtain ⟨A, -, hA2, rfl⟩ := wi_ex (by omega) c_27
      have ix_A : ix (nI A) = A := nI_clamp (by omega)
      have hq : A / smF wt mm < mm := (Nat.div_lt_iff_lt_mul (by omega)).mpr (by omega)
      refine lv_aload_n hx hb dX4_tell_32 rfl (lv_at hl 1 rfl) ?_
      refine pw_get hx hb hts (fun _ h9 => List.mem_cons_of_mem _ (List.mem_append_left _ (List.mem_append_right _ h9))) hown hK hP 0 rfl rfl 4 (by decide) hF.1 rfl (hts (.fieldLink RX4 48 "PastDraws" "table" "LPastDraws$Table;") (List.mem_of_getElem? (i := 1) rfl)) dX4_tell_33 ?_
      refine lv_iload_n hx hb dX4_tell_36 rfl (lv_at hl 0 rfl) ?_
      refine pw_cvW S hK hP 4 3 rfl rfl 1 (c_X3_make l D cy Ad n mm C hI hn hF wt hT hmm (smF wt mm)) gX4_tell_X3_make rfl rfl rfl (by decide +kernel) ⟨Nat.le_of_ble_eq_true rfl, Nat.le_of_ble_eq_true rfl⟩ rfl hl.1 rfl (Nat.le_of_ble_eq_true rfl) dX4_tell_37 ⟨Nat.le_refl _, Nat.le_refl _⟩ hS (fun _ h9 => h9) (fun r9 C37 H locs hR hP _ _ hS => ?_)
      obtain ⟨rfl, hR⟩ := hR
      change W p l e _ s m _ below meth c H locs 0 0 _ (F0 m 40 ls [])
      have hX := XI_B hn.2 hX hR.1 (fun k h => by have h8 : 17 ≤ k ∧ k ≤ 20 := h; unfold scr; omega)
      obtain ⟨hF, hN, hM, hE, hA, hT⟩ := id hX
      refine lv_aload_n hx hb dX4_tell_40 rfl (lv_at hl 1 rfl) ?_
      refine pw_get hx hb hts (fun _ h9 => List.mem_cons_of_mem _ (List.mem_append_left _ (List.mem_append_right _ h9))) hown hK hP 0 rfl rfl 4 (by decide) hF.1 rfl (hts (.fieldLink RX4 48 "PastDraws" "table" "LPastDraws$Table;") (List.mem_of_getElem? (i := 1) rfl)) dX4_tell_41 ?_
      refine lv_iload_n hx hb dX4_tell_44 rfl (lv_at hl 2 rfl) ?_
      refine lv_iload_n hx hb dX4_tell_45 rfl (lv_at hl 0 rfl) ?_
      refine lv_idiv hx hb dX4_tell_46 (nI_ne0 (by omega) (by omega)) ?_
      refine pw_topi (y := nI (A / smF wt mm)) (pk_div (by omega) (by omega) (by omega)) ?_
      refine lv_iload_n hx hb dX4_tell_47 rfl (lv_at hl 2 rfl) ?_
      refine lv_iload_n hx hb dX4_tell_48 rfl (lv_at hl 0 rfl) ?_
      refine lv_irem hx hb dX4_tell_49 (nI_ne0 (by omega) (by omega)) ?_
      refine pw_topi (y := nI (A % smF wt mm)) (pk_rem (by omega) (by omega) (by omega)) ?_
      refine pw_cv S hK hP 4 3 rfl rfl 2 (c_X3_thingAt l D cy Ad n mm C37 hn hF (tmK wt mm (smF wt mm)) hR.2 hmm (A / smF wt mm) hq (nI (A % smF wt mm))) gX4_tell_X3_thingAt rfl rfl rfl (by decide +kernel) ⟨Nat.le_of_ble_eq_true rfl, Nat.le_of_ble_eq_true rfl⟩ rfl hl.1 rfl (Nat.le_of_ble_eq_true rfl) dX4_tell_50 ⟨Nat.le_refl _, Nat.le_refl _⟩ ?_
      refine pw_topi (y := f_tell mm wt (nI A)) (by unfold f_tell; rw [if_neg c_9, if_pos c_27, ix_A]) ?_
      exact W.iret hx hb hr (fun t ht _ => ⟨⟨_, C37, rfl, ⟨rfl, hX⟩, by rw [ht]; exact hP⟩, hS.F ht⟩) hS.2.2 dX4_tell_53
    · refine lv_iconst (v := (-1)) hx hb dX4_tell_30 (by decide) ?_
      refine pw_topi (y := f_tell mm wt a) (by unfold f_tell; rw [fd_wi hmm (by omega)] at c_27; rw [if_neg c_9, c_27]; rfl) ?_
      exact W.iret hx hb hr (fun t ht _ => ⟨⟨_, C, rfl, ⟨rfl, hX⟩, by rw [ht]; exact hP⟩, hS.F ht⟩) hS.2.2 dX4_tell_31
  · refine lv_bipush (v := (-2)) hx hb dX4_tell_12 (by decide) ?_
    refine pw_topi (y := f_tell mm wt a) (by unfold f_tell; rw [if_pos c_9]) ?_
    exact W.iret hx hb hr (fun t ht _ => ⟨⟨_, C, rfl, ⟨rfl, hX⟩, by rw [ht]; exact hP⟩, hS.F ht⟩) hS.2.2 dX4_tell_14
