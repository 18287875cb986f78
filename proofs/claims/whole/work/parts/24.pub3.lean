def f_lead (n : Nat) (mx : Nat → Nat → Option Nat) (a b d : Int32) : Int32 := if (wi a (nI 0) (nI (n - 1)) && wi b (nI 0) (nI 3) && (decide (d = (-2)) || wi d (nI 0) (nI (n - 1)))) = true then oi (mx (ix a) (ix b)) else (-1)
def u_lead (n : Nat) (mx : Nat → Nat → Option Nat) (a b d : Int32) : Nat → Nat → Option Nat := if (wi a (nI 0) (nI (n - 1)) && wi b (nI 0) (nI 3) && (decide (d = (-2)) || wi d (nI 0) (nI (n - 1)))) = true then (fun x ch => if x = ix a ∧ ch = ix b then (if d = (-2) then none else some (ix d)) else mx x ch) else mx
def f_end (n : Nat) (en : Nat → Bool) (a : Int32) : Int32 := if wi a (nI 0) (nI (n - 1)) = true then pb (en (ix a)) else (-1)
def u_end (n : Nat) (en : Nat → Bool) (a : Int32) (b : Bool) : Nat → Bool := if wi a (nI 0) (nI (n - 1)) = true then (fun x => if x = ix a then b else en x) else en
def f_words (mx : Nat → Nat → Option Nat) (en : Nat → Bool) (a : Int32) : Int64 := if wi a (nI 0) (nI 25) = true then cnW mx en (ix a) 0 else (-1)
def f_word (mx : Nat → Nat → Option Nat) (en : Nat → Bool) (a : Int32) (v : Int64) (d : Int32) : Int32 := if (wi a (nI 0) (nI 25) && wi d (nI 0) (a - nI 1) && decide (0 ≤ v ∧ v < cnW mx en (ix a) 0)) = true then loF mx en (ix a) (ix d) (ix a) 0 (some 0) v else (-1)
def f_rank (mx : Nat → Nat → Option Nat) (en : Nat → Bool) (a : Int32) (v : Int64) : Int64 := if wi a (nI 0) (nI 25) = true then noF mx en (ix a) v (ix a) 0 0 0 else (-1)
def f_allow (am : Nat → Nat) (a b : Int32) : Int32 := if (wi a (nI 0) (nI 7) && wi b (nI 0) (nI 7)) = true then pb ((am (ix a)).testBit (ix b)) else (-1)
def u_allow (am : Nat → Nat) (a b : Int32) (d : Bool) : Nat → Nat := if (wi a (nI 0) (nI 7) && wi b (nI 0) (nI 7)) = true then (fun q => if q = ix a ∧ ¬ d = (am (ix a)).testBit (ix b) then am (ix a) ^^^ 2 ^ ix b else am q) else am
def f_perms (am : Nat → Nat) (a : Int32) : Int32 := if wi a (nI 1) (nI 8) = true then wyF am (ix a) 0 else (-1)
def f_perm (am : Nat → Nat) (a b d : Int32) : Int32 := if (wi a (nI 1) (nI 8) && wi d (nI 0) (a - nI 1) && decide (0 ≤ b ∧ b < wyF am (ix a) 0)) = true then nI (aplF am (ix a) (ix d + 1) 0 b) else (-1)
def f_place (am : Nat → Nat) (a b : Int32) : Int32 := if wi a (nI 1) (nI 8) = true then pnF am (ix a) b (ix a) 0 0 0 else (-1)
def f_things (mm : Nat) (a : Int32) : Int32 := if wi a (nI 1) (nI 16) = true then nI mm else (-1)
def u_things (mm : Nat) (a : Int32) : Nat := if wi a (nI 1) (nI 16) = true then ix a else mm
def w_things (wt : Nat → Nat) (a : Int32) : Nat → Nat := if wi a (nI 1) (nI 16) = true then (fun _ => 1) else wt
def f_weight (mm : Nat) (wt : Nat → Nat) (a b : Int32) : Int32 := if (wi a (nI 0) (nI (mm - 1)) && wi b (nI 0) (nI 1000)) = true then nI (wt (ix a)) else (-1)
def u_weight (mm : Nat) (wt : Nat → Nat) (a b : Int32) : Nat → Nat := if (wi a (nI 0) (nI (mm - 1)) && wi b (nI 0) (nI 1000)) = true then (fun i => if i = ix a then ix b else wt i) else wt
def f_cell (mm : Nat) (wt : Nat → Nat) (a b : Int32) : Int32 := if (wi a (nI 0) (nI (mm - 1)) && wi b (nI 0) (nI 2)) = true then (if smF wt mm = 0 then (-2) else if ix b = 2 then nI (smF wt mm) else if ix b = 0 then (tmK wt mm (smF wt mm)).2.1 (ix a) else (tmK wt mm (smF wt mm)).2.2.1 (ix a)) else (-1)
theorem wi_ex1 {x : Int32} {k : Nat} (hk : k < 2 ^ 30) (h : wi x (nI 0) (nI k - nI 1) = true) : ∃ j, j + 1 ≤ k ∧ x = nI j := by
  rcases Nat.eq_zero_or_pos k with q | q
  · subst q
    unfold wi at h
    rw [decide_eq_true_iff] at h
    have h2 := Int32.le_trans h.1 h.2
    exact absurd h2 (by decide)
  · rw [pk_sub q] at h
    obtain ⟨j, -, h2, h3⟩ := wi_ex (lo := 0) ⟨by omega, by decide⟩ h
    exact ⟨j, by omega, h3⟩
section XU
variable {n mm : Nat} {nx : Nat → Nat → Nat} {mx : Nat → Nat → Option Nat} {en : Nat → Bool} {am wt Ad : Nat → Nat} {C : pw_C}
theorem XI_lead {x ch : Nat} {o : Option Nat} (hx : x < n ∧ n ≤ 12) (ho : ∀ y, o = some y → y < n) (h : XI n mm nx mx en am wt Ad C) : XI n mm nx (fun x9 c9 => if x9 = x ∧ c9 = ch then o else mx x9 c9) en am wt Ad (pw_setI C (41 + x) ch (oi o)) := by
  obtain ⟨h1, h2, h3, h4, h5, h6⟩ := h
  refine ⟨h1, fun u9 hu9 x9 hx9 => ?_, fun x9 hx9 c9 hc9 => ?_, fun x9 hx9 => ?_, fun p9 hp9 => ?_, fun i9 hi9 => ?_⟩
  · rw [si_ne (by omega)]; exact h2 u9 hu9 x9 hx9
  · have := h3 x9 hx9 c9 hc9
    show (∀ y, (if x9 = x ∧ c9 = ch then o else mx x9 c9) = some y → y < n) ∧ _ = oi (if x9 = x ∧ c9 = ch then o else mx x9 c9)
    by_cases q : x9 = x
    · subst q
      rw [si_at]
      by_cases q2 : c9 = ch
      · rw [if_pos q2, if_pos ⟨rfl, q2⟩]; exact ⟨ho, rfl⟩
      · rw [if_neg q2, if_neg (fun z => q2 z.2)]; exact this
    · rw [si_ne (by omega), if_neg (fun z => q z.1)]; exact this
  · rw [si_ne (by omega)]; exact h4 x9 hx9
  · rw [si_ne (by omega)]; exact h5 p9 hp9
  · rw [si_ne (by omega)]; exact h6 i9 hi9
theorem XI_end {x : Nat} {b : Bool} (h : XI n mm nx mx en am wt Ad C) : XI n mm nx mx (fun x9 => if x9 = x then b else en x9) am wt Ad (pw_setI C 12 x (pb b)) := by
  obtain ⟨h1, h2, h3, h4, h5, h6⟩ := h
  refine ⟨h1, fun u9 hu9 x9 hx9 => ?_, fun x9 hx9 c9 hc9 => ?_, fun x9 hx9 => ?_, fun p9 hp9 => ?_, fun i9 hi9 => ?_⟩
  · rw [si_ne (by omega)]; exact h2 u9 hu9 x9 hx9
  · rw [si_ne (by omega)]; exact h3 x9 hx9 c9 hc9
  · rw [si_at]
    show _ = pb (if x9 = x then b else en x9)
    by_cases q : x9 = x
    · rw [if_pos q, if_pos q]
    · rw [if_neg q, if_neg q]; exact h4 x9 hx9
  · rw [si_ne (by omega)]; exact h5 p9 hp9
  · rw [si_ne (by omega)]; exact h6 i9 hi9
theorem XI_allow {q v : Nat} {b : Bool} (hq : q < 8) (hv : v < 8) (h : XI n mm nx mx en am wt Ad C) : XI n mm nx mx en (fun q9 => if q9 = q ∧ ¬ b = (am q).testBit v then am q ^^^ 2 ^ v else am q9) wt Ad (if b = (am q).testBit v then C else pw_setI C 14 q (nI (am q ^^^ 2 ^ v))) := by
  by_cases hb : b = (am q).testBit v
  · rw [if_pos hb]
    have e : (fun q9 => if q9 = q ∧ ¬ b = (am q).testBit v then am q ^^^ 2 ^ v else am q9) = am := by
      funext q9
      rw [if_neg (fun z => z.2 hb)]
    rw [e]; exact h
  · rw [if_neg hb]
    obtain ⟨h1, h2, h3, h4, h5, h6⟩ := h
    refine ⟨h1, fun u9 hu9 x9 hx9 => ?_, fun x9 hx9 c9 hc9 => ?_, fun x9 hx9 => ?_, fun p9 hp9 => ?_, fun i9 hi9 => ?_⟩
    · rw [si_ne (by omega)]; exact h2 u9 hu9 x9 hx9
    · rw [si_ne (by omega)]; exact h3 x9 hx9 c9 hc9
    · rw [si_ne (by omega)]; exact h4 x9 hx9
    · rw [si_at]
      show (if p9 = q ∧ ¬ b = (am q).testBit v then am q ^^^ 2 ^ v else am p9) < 256 ∧ _ = nI (if p9 = q ∧ ¬ b = (am q).testBit v then am q ^^^ 2 ^ v else am p9)
      by_cases z : p9 = q
      · rw [if_pos z, if_pos ⟨z, hb⟩]
        refine ⟨?_, rfl⟩
        exact Nat.xor_lt_two_pow (n := 8) (h5 q hq).1 (Nat.pow_lt_pow_right (by decide) hv)
      · rw [if_neg z, if_neg (fun y => z y.1)]; exact h5 p9 hp9
    · rw [si_ne (by omega)]; exact h6 i9 hi9
theorem XI_weight {i w : Nat} (hw : w ≤ 1000) (h : XI n mm nx mx en am wt Ad C) : XI n mm nx mx en am (fun i9 => if i9 = i then w else wt i9) Ad (pw_setI C 16 i (nI w)) := by
  obtain ⟨h1, h2, h3, h4, h5, h6⟩ := h
  refine ⟨h1, fun u9 hu9 x9 hx9 => ?_, fun x9 hx9 c9 hc9 => ?_, fun x9 hx9 => ?_, fun p9 hp9 => ?_, fun i9 hi9 => ?_⟩
  · rw [si_ne (by omega)]; exact h2 u9 hu9 x9 hx9
  · rw [si_ne (by omega)]; exact h3 x9 hx9 c9 hc9
  · rw [si_ne (by omega)]; exact h4 x9 hx9
  · rw [si_ne (by omega)]; exact h5 p9 hp9
  · rw [si_at]
    show (if i9 = i then w else wt i9) ≤ 1000 ∧ _ = nI (if i9 = i then w else wt i9)
    by_cases q : i9 = i
    · rw [if_pos q, if_pos q]; exact ⟨hw, rfl⟩
    · rw [if_neg q, if_neg q]; exact h6 i9 hi9
theorem XI_things {m9 : Nat} {C' : pw_C} (h : XI n mm nx mx en am wt Ad C) (hF : fX n m9 Ad C') (hk : ∀ k, ¬ k = 16 → C'.1 k = C.1 k ∧ C'.2.1 k = C.2.1 k) (hw : ∀ j, j < 16 → C'.1 16 j = nI 1) : XI n m9 nx mx en am (fun _ => 1) Ad C' := by
  obtain ⟨h1, h2, h3, h4, h5, h6⟩ := h
  refine ⟨hF, fun u9 hu9 x9 hx9 => ?_, fun x9 hx9 c9 hc9 => ?_, fun x9 hx9 => ?_, fun p9 hp9 => ?_, fun i9 hi9 => ?_⟩
  · rw [(hk _ (by omega)).1]; exact h2 u9 hu9 x9 hx9
  · rw [(hk _ (by omega)).1]; exact h3 x9 hx9 c9 hc9
  · rw [(hk _ (by omega)).1]; exact h4 x9 hx9
  · rw [(hk _ (by omega)).1]; exact h5 p9 hp9
  · exact ⟨by show (1 : Nat) ≤ 1000; decide, hw i9 hi9⟩
end XU

set_option maxHeartbeats 4000000 in
set_option maxRecDepth 100000 in
theorem c_X4_lead (l : Launch) (D : va_G) (cy : Nat → ClassId) (Ad : Nat → Nat) (n mm : Nat) (C : pw_C) (hI : pw_I Ad (shX n)) (hn : 1 ≤ n ∧ n ≤ 12) (hmm : 1 ≤ mm ∧ mm ≤ 16) (nx : Nat → Nat → Nat) (mx : Nat → Nat → Option Nat) (en : Nat → Bool) (am wt : Nat → Nat) (hX : XI n mm nx mx en am wt Ad C) (a b d : Int32) : Met l yX4_lead wsX4_lead (k2_rm 1 24) (pw_Pre ([.ref (Ad 0), .int a, .int b, .int d]) D cy Ad (shX n) C) (pw_Post (fun r9 C' => r9 = some (.int (f_lead n mx a b d)) ∧ (XI n mm nx (u_lead n mx a b d) en am wt Ad C')) D cy Ad (shX n)) 0 0 (pw_fr Ad (shX n)) := by
  refine Met.ofW (cc := cX4_lead) (maxL := 4) (ret := (some .int)) (by decide) rfl ?_
  intro p e s m args below meth c s₁ B hml hv
  obtain ⟨rfl, hP, hK⟩ := hv
  have hx := B.exec
  have hb := B.bytes
  have hr := B.returns
  have hts := atoms_spec (ws := wsX4_lead) B.pre
  have hown : s.vm.findClass RX4 = some m.cls := findClass_of_methodNamed B.named
  have hlocks := B.notSynchronized
  have S : CallFix p m c cX4_lead 4 s ([.ref (Ad 0), .int a, .int b, .int d]).toArray wsX4_lead RX4 := ⟨hx, hb, hml, hown, hts⟩
  change W p l e (k2_rm 1 24) s m _ below meth c s.heap [] 0 0 _ _
  have hl := lv_entry ([.ref (Ad 0), .int a, .int b, .int d]) (n := 4) (Nat.le_of_ble_eq_true rfl)
  rw [lg_entry_eq]
  generalize (lg_sl ([.ref (Ad 0), .int a, .int b, .int d]) ++ List.replicate (4 - (lg_sl ([.ref (Ad 0), .int a, .int b, .int d])).length) Slot.unset).toArray = ls at hl ⊢
  have hl : lv_has ls 4 [(0, .ref (Ad 0)), (1, .int a), (2, .int b), (3, .int d)] := hl
  have hS : va_S (pw_fr Ad (shX n)) s.heap s.heap [] := va_S.rf
  obtain ⟨hF, hN, hM, hE, hA, hT⟩ := id hX
  refine lv_aload_n hx hb dX4_lead_0 rfl (lv_at hl 0 rfl) ?_
  refine lv_iload_n hx hb dX4_lead_1 rfl (lv_at hl 1 rfl) ?_
  refine pw_cv S hK hP 0 4 rfl rfl 1 (c_X4_isState l D cy Ad n mm C hn hF a) gX4_lead_X4_isState rfl rfl rfl (by decide +kernel) ⟨Nat.le_of_ble_eq_true rfl, Nat.le_of_ble_eq_true rfl⟩ rfl hl.1 rfl (Nat.le_of_ble_eq_true rfl) dX4_lead_2 ⟨Nat.le_refl _, Nat.le_refl _⟩ ?_
  refine pn_ifeq_b (tgt := 17) hx hb dX4_lead_5 (by decide) (fun c_5 => ?_) (fun c_5 => ?_)
  · refine lv_iconst (v := (-1)) hx hb dX4_lead_17 (by decide) ?_
    have e9 : (wi a (nI 0) (nI (n - 1)) && wi b (nI 0) (nI 3) && (decide (d = (-2)) || wi d (nI 0) (nI (n - 1)))) = false := by first | (rw [c_5]; rfl) | (rw [c_5, c_14]; rfl) | (rw [c_5, c_14, c_30, decide_eq_false c_22]; rfl)
    have ef : f_lead n mx a b d = (-1) := by unfold f_lead; rw [e9]; rfl
    have eu : u_lead n mx a b d = mx := by unfold u_lead; rw [e9]; rfl
    rw [ef, eu]
    exact W.iret hx hb hr (fun t ht _ => ⟨⟨_, C, rfl, ⟨rfl, hX⟩, by rw [ht]; exact hP⟩, hS.F ht⟩) hS.2.2 dX4_lead_18
  · refine lv_iload_n hx hb dX4_lead_8 rfl (lv_at hl 2 rfl) ?_
    refine lv_iconst (v := nI 0) hx hb dX4_lead_9 (by decide) ?_
    refine lv_iconst (v := nI 3) hx hb dX4_lead_10 (by decide) ?_
    refine pw_cs S 3 (c_X4_isWithin l b (nI 0) (nI 3)) gX4_lead_X4_isWithin rfl rfl rfl (by decide +kernel) ⟨Nat.le_of_ble_eq_true rfl, Nat.le_of_ble_eq_true rfl⟩ rfl hl.1 rfl (Nat.le_of_ble_eq_true rfl) dX4_lead_11 ⟨Nat.le_refl _, Nat.le_refl _⟩ ?_
    refine pn_ifne_b (tgt := 19) hx hb dX4_lead_14 (by decide) (fun c_14 => ?_) (fun c_14 => ?_)
    · refine lv_iload_n hx hb dX4_lead_19 rfl (lv_at hl 3 rfl) ?_
      refine lv_bipush (v := (-2)) hx hb dX4_lead_20 (by decide) ?_
      refine lv_icmp_eq (tgt := 35) hx hb dX4_lead_22 (by decide) (fun c_22 => ?_) (fun c_22 => ?_)
      · obtain ⟨x, hl_x, hh_x, rfl⟩ := wi_ex (by omega) c_5
        obtain ⟨ch, hl_ch, hh_ch, rfl⟩ := wi_ex (by omega) c_14
        have ix_x : ix (nI x) = x := nI_clamp (by omega)
        have ix_ch : ix (nI ch) = ch := nI_clamp (by omega)
        subst c_22
        refine lv_aload_n hx hb dX4_lead_35 rfl (lv_at hl 0 rfl) ?_
        refine pw_get hx hb hts (fun _ h9 => List.mem_cons_of_mem _ (List.mem_append_left _ (List.mem_append_right _ h9))) hown hK hP 0 rfl rfl 2 (by decide) hF.1 rfl (hts (.fieldLink RX4 34 "PastDraws" "machine" "LPastDraws$Machine;") (List.mem_of_getElem? (i := 1) rfl)) dX4_lead_36 ?_
        refine lv_iload_n hx hb dX4_lead_39 rfl (lv_at hl 1 rfl) ?_
        refine lv_iload_n hx hb dX4_lead_40 rfl (lv_at hl 2 rfl) ?_
        refine lv_iload_n hx hb dX4_lead_41 rfl (lv_at hl 3 rfl) ?_
        refine pw_cvW S hK hP 2 1 rfl rfl 3 (c_X1_setStep l D cy Ad n mm C hI hn hF mx hM x ch (-2) (by omega) (by omega)) gX4_lead_X1_setStep rfl rfl rfl (by decide +kernel) ⟨Nat.le_of_ble_eq_true rfl, Nat.le_of_ble_eq_true rfl⟩ rfl hl.1 rfl (Nat.le_of_ble_eq_true rfl) dX4_lead_42 ⟨Nat.le_refl _, Nat.le_refl _⟩ hS (fun _ h9 => h9) (fun r9 C42 H locs hR hP _ _ hS => ?_)
        obtain ⟨rfl, hR⟩ := hR
        change W p l e _ s m _ below meth c H locs 0 0 _ (F0 m 45 ls [.int (oi (mx x ch))])
        have e9 : (wi (nI x) (nI 0) (nI (n - 1)) && wi (nI ch) (nI 0) (nI 3) && (decide ((-2 : Int32) = (-2)) || wi (-2 : Int32) (nI 0) (nI (n - 1)))) = true := by rw [c_5, c_14]; rfl
        have ef : f_lead n mx (nI x) (nI ch) (-2 : Int32) = oi (mx x ch) := by unfold f_lead; rw [if_pos e9, ix_x, ix_ch]
        have eu : u_lead n mx (nI x) (nI ch) (-2 : Int32) = fun x9 c9 => if x9 = x ∧ c9 = ch then none else mx x9 c9 := by unfold u_lead; rw [if_pos e9, ix_x, ix_ch, if_pos rfl]
        rw [ef, eu]
        exact W.iret hx hb hr (fun t ht _ => ⟨⟨_, C42, rfl, ⟨rfl, by rw [hR]; exact XI_lead (o := none) (by omega) (fun y9 h9 => by cases h9) hX⟩, by rw [ht]; exact hP⟩, hS.F ht⟩) hS.2.2 dX4_lead_45
      · refine lv_aload_n hx hb dX4_lead_25 rfl (lv_at hl 0 rfl) ?_
        refine lv_iload_n hx hb dX4_lead_26 rfl (lv_at hl 3 rfl) ?_
        refine pw_cv S hK hP 0 4 rfl rfl 1 (c_X4_isState l D cy Ad n mm C hn hF d) gX4_lead_X4_isState rfl rfl rfl (by decide +kernel) ⟨Nat.le_of_ble_eq_true rfl, Nat.le_of_ble_eq_true rfl⟩ rfl hl.1 rfl (Nat.le_of_ble_eq_true rfl) dX4_lead_27 ⟨Nat.le_refl _, Nat.le_refl _⟩ ?_
        refine pn_ifne_b (tgt := 35) hx hb dX4_lead_30 (by decide) (fun c_30 => ?_) (fun c_30 => ?_)
        · obtain ⟨x, hl_x, hh_x, rfl⟩ := wi_ex (by omega) c_5
          obtain ⟨ch, hl_ch, hh_ch, rfl⟩ := wi_ex (by omega) c_14
          obtain ⟨y, hl_y, hh_y, rfl⟩ := wi_ex (by omega) c_30
          have ix_x : ix (nI x) = x := nI_clamp (by omega)
          have ix_ch : ix (nI ch) = ch := nI_clamp (by omega)
          have ix_y : ix (nI y) = y := nI_clamp (by omega)
          refine lv_aload_n hx hb dX4_lead_35 rfl (lv_at hl 0 rfl) ?_
          refine pw_get hx hb hts (fun _ h9 => List.mem_cons_of_mem _ (List.mem_append_left _ (List.mem_append_right _ h9))) hown hK hP 0 rfl rfl 2 (by decide) hF.1 rfl (hts (.fieldLink RX4 34 "PastDraws" "machine" "LPastDraws$Machine;") (List.mem_of_getElem? (i := 1) rfl)) dX4_lead_36 ?_
          refine lv_iload_n hx hb dX4_lead_39 rfl (lv_at hl 1 rfl) ?_
          refine lv_iload_n hx hb dX4_lead_40 rfl (lv_at hl 2 rfl) ?_
          refine lv_iload_n hx hb dX4_lead_41 rfl (lv_at hl 3 rfl) ?_
          refine pw_cvW S hK hP 2 1 rfl rfl 3 (c_X1_setStep l D cy Ad n mm C hI hn hF mx hM x ch (nI y) (by omega) (by omega)) gX4_lead_X1_setStep rfl rfl rfl (by decide +kernel) ⟨Nat.le_of_ble_eq_true rfl, Nat.le_of_ble_eq_true rfl⟩ rfl hl.1 rfl (Nat.le_of_ble_eq_true rfl) dX4_lead_42 ⟨Nat.le_refl _, Nat.le_refl _⟩ hS (fun _ h9 => h9) (fun r9 C42 H locs hR hP _ _ hS => ?_)
          obtain ⟨rfl, hR⟩ := hR
          change W p l e _ s m _ below meth c H locs 0 0 _ (F0 m 45 ls [.int (oi (mx x ch))])
          have e9 : (wi (nI x) (nI 0) (nI (n - 1)) && wi (nI ch) (nI 0) (nI 3) && (decide ((nI y) = (-2)) || wi (nI y) (nI 0) (nI (n - 1)))) = true := by rw [c_5, c_14, c_30, decide_eq_false c_22]; rfl
          have ef : f_lead n mx (nI x) (nI ch) (nI y) = oi (mx x ch) := by unfold f_lead; rw [if_pos e9, ix_x, ix_ch]
          have eu : u_lead n mx (nI x) (nI ch) (nI y) = fun x9 c9 => if x9 = x ∧ c9 = ch then some y else mx x9 c9 := by unfold u_lead; rw [if_pos e9, ix_x, ix_ch, if_neg c_22, ix_y]
          rw [ef, eu]
          exact W.iret hx hb hr (fun t ht _ => ⟨⟨_, C42, rfl, ⟨rfl, by rw [hR]; exact XI_lead (o := some y) (by omega) (fun y9 h9 => by cases h9; omega) hX⟩, by rw [ht]; exact hP⟩, hS.F ht⟩) hS.2.2 dX4_lead_45
        · refine lv_iconst (v := (-1)) hx hb dX4_lead_33 (by decide) ?_
          have e9 : (wi a (nI 0) (nI (n - 1)) && wi b (nI 0) (nI 3) && (decide (d = (-2)) || wi d (nI 0) (nI (n - 1)))) = false := by first | (rw [c_5]; rfl) | (rw [c_5, c_14]; rfl) | (rw [c_5, c_14, c_30, decide_eq_false c_22]; rfl)
          have ef : f_lead n mx a b d = (-1) := by unfold f_lead; rw [e9]; rfl
          have eu : u_lead n mx a b d = mx := by unfold u_lead; rw [e9]; rfl
          rw [ef, eu]
          exact W.iret hx hb hr (fun t ht _ => ⟨⟨_, C, rfl, ⟨rfl, hX⟩, by rw [ht]; exact hP⟩, hS.F ht⟩) hS.2.2 dX4_lead_34
    · refine lv_iconst (v := (-1)) hx hb dX4_lead_17 (by decide) ?_
      have e9 : (wi a (nI 0) (nI (n - 1)) && wi b (nI 0) (nI 3) && (decide (d = (-2)) || wi d (nI 0) (nI (n - 1)))) = false := by first | (rw [c_5]; rfl) | (rw [c_5, c_14]; rfl) | (rw [c_5, c_14, c_30, decide_eq_false c_22]; rfl)
      have ef : f_lead n mx a b d = (-1) := by unfold f_lead; rw [e9]; rfl
      have eu : u_lead n mx a b d = mx := by unfold u_lead; rw [e9]; rfl
      rw [ef, eu]
      exact W.iret hx hb hr (fun t ht _ => ⟨⟨_, C, rfl, ⟨rfl, hX⟩, by rw [ht]; exact hP⟩, hS.F ht⟩) hS.2.2 dX4_lead_18

set_option maxHeartbeats 4000000 in
set_option maxRecDepth 100000 in
theorem c_X4_end (l : Launch) (D : va_G) (cy : Nat → ClassId) (Ad : Nat → Nat) (n mm : Nat) (C : pw_C) (hI : pw_I Ad (shX n)) (hn : 1 ≤ n ∧ n ≤ 12) (hmm : 1 ≤ mm ∧ mm ≤ 16) (nx : Nat → Nat → Nat) (mx : Nat → Nat → Option Nat) (en : Nat → Bool) (am wt : Nat → Nat) (hX : XI n mm nx mx en am wt Ad C) (a : Int32) (b : Bool) : Met l yX4_end wsX4_end (k2_rm 1 23) (pw_Pre ([.ref (Ad 0), .int a, .int (pb b)]) D cy Ad (shX n) C) (pw_Post (fun r9 C' => r9 = some (.int (f_end n en a)) ∧ (XI n mm nx mx (u_end n en a b) am wt Ad C')) D cy Ad (shX n)) 0 0 (pw_fr Ad (shX n)) := by
  refine Met.ofW (cc := cX4_end) (maxL := 3) (ret := (some .int)) (by decide) rfl ?_
  intro p e s m args below meth c s₁ B hml hv
  obtain ⟨rfl, hP, hK⟩ := hv
  have hx := B.exec
  have hb := B.bytes
  have hr := B.returns
  have hts := atoms_spec (ws := wsX4_end) B.pre
  have hown : s.vm.findClass RX4 = some m.cls := findClass_of_methodNamed B.named
  have hlocks := B.notSynchronized
  have S : CallFix p m c cX4_end 3 s ([.ref (Ad 0), .int a, .int (pb b)]).toArray wsX4_end RX4 := ⟨hx, hb, hml, hown, hts⟩
  change W p l e (k2_rm 1 23) s m _ below meth c s.heap [] 0 0 _ _
  have hl := lv_entry ([.ref (Ad 0), .int a, .int (pb b)]) (n := 3) (Nat.le_of_ble_eq_true rfl)
  rw [lg_entry_eq]
  generalize (lg_sl ([.ref (Ad 0), .int a, .int (pb b)]) ++ List.replicate (3 - (lg_sl ([.ref (Ad 0), .int a, .int (pb b)])).length) Slot.unset).toArray = ls at hl ⊢
  have hl : lv_has ls 3 [(0, .ref (Ad 0)), (1, .int a), (2, .int (pb b))] := hl
  have hS : va_S (pw_fr Ad (shX n)) s.heap s.heap [] := va_S.rf
  obtain ⟨hF, hN, hM, hE, hA, hT⟩ := id hX
  refine lv_aload_n hx hb dX4_end_0 rfl (lv_at hl 0 rfl) ?_
  refine lv_iload_n hx hb dX4_end_1 rfl (lv_at hl 1 rfl) ?_
  refine pw_cv S hK hP 0 4 rfl rfl 1 (c_X4_isState l D cy Ad n mm C hn hF a) gX4_end_X4_isState rfl rfl rfl (by decide +kernel) ⟨Nat.le_of_ble_eq_true rfl, Nat.le_of_ble_eq_true rfl⟩ rfl hl.1 rfl (Nat.le_of_ble_eq_true rfl) dX4_end_2 ⟨Nat.le_refl _, Nat.le_refl _⟩ ?_
  refine pn_ifne_b (tgt := 10) hx hb dX4_end_5 (by decide) (fun c_5 => ?_) (fun c_5 => ?_)
  · obtain ⟨x, hl_x, hh_x, rfl⟩ := wi_ex (by omega) c_5
    have ix_x : ix (nI x) = x := nI_clamp (by omega)
    refine lv_aload_n hx hb dX4_end_10 rfl (lv_at hl 0 rfl) ?_
    refine pw_get hx hb hts (fun _ h9 => List.mem_cons_of_mem _ (List.mem_append_left _ (List.mem_append_right _ h9))) hown hK hP 0 rfl rfl 2 (by decide) hF.1 rfl (hts (.fieldLink RX4 34 "PastDraws" "machine" "LPastDraws$Machine;") (List.mem_of_getElem? (i := 1) rfl)) dX4_end_11 ?_
    refine lv_iload_n hx hb dX4_end_14 rfl (lv_at hl 1 rfl) ?_
    refine lv_iload_n hx hb dX4_end_15 rfl (lv_at hl 2 rfl) ?_
    refine pw_cvW S hK hP 2 1 rfl rfl 2 (c_X1_setEnd l D cy Ad n mm C hI hn hF en hE x b (by omega)) gX4_end_X1_setEnd rfl rfl rfl (by decide +kernel) ⟨Nat.le_of_ble_eq_true rfl, Nat.le_of_ble_eq_true rfl⟩ rfl hl.1 rfl (Nat.le_of_ble_eq_true rfl) dX4_end_16 ⟨Nat.le_refl _, Nat.le_refl _⟩ hS (fun _ h9 => h9) (fun r9 C16 H locs hR hP _ _ hS => ?_)
    obtain ⟨rfl, hR⟩ := hR
    change W p l e _ s m _ below meth c H locs 0 0 _ (F0 m 19 ls [.int (pb (en x))])
    refine pn_ifeq_b (tgt := 26) hx hb dX4_end_19 (by decide) (fun c_19 => ?_) (fun c_19 => ?_)
    · refine lv_iconst (v := nI 0) hx hb dX4_end_26 (by decide) ?_
      have ef : f_end n en (nI x) = pb (en x) := by unfold f_end; rw [if_pos c_5, ix_x]
      have eu : u_end n en (nI x) b = fun x9 => if x9 = x then b else en x9 := by unfold u_end; rw [if_pos c_5, ix_x]
      refine pw_topi (y := pb (en x)) (by rw [c_19]; rfl) ?_
      rw [ef, eu]
      exact W.iret hx hb hr (fun t ht _ => ⟨⟨_, C16, rfl, ⟨rfl, by rw [hR]; exact XI_end hX⟩, by rw [ht]; exact hP⟩, hS.F ht⟩) hS.2.2 dX4_end_27
    · refine lv_iconst (v := nI 1) hx hb dX4_end_22 (by decide) ?_
      refine lv_goto (tgt := 27) hx hb dX4_end_23 (by decide) ?_
      have ef : f_end n en (nI x) = pb (en x) := by unfold f_end; rw [if_pos c_5, ix_x]
      have eu : u_end n en (nI x) b = fun x9 => if x9 = x then b else en x9 := by unfold u_end; rw [if_pos c_5, ix_x]
      refine pw_topi (y := pb (en x)) (by rw [c_19]; rfl) ?_
      rw [ef, eu]
      exact W.iret hx hb hr (fun t ht _ => ⟨⟨_, C16, rfl, ⟨rfl, by rw [hR]; exact XI_end hX⟩, by rw [ht]; exact hP⟩, hS.F ht⟩) hS.2.2 dX4_end_27
  · refine lv_iconst (v := (-1)) hx hb dX4_end_8 (by decide) ?_
    have ef : f_end n en a = (-1) := by unfold f_end; rw [c_5]; rfl
    have eu : u_end n en a b = en := by unfold u_end; rw [c_5]; rfl
    rw [ef, eu]
    exact W.iret hx hb hr (fun t ht _ => ⟨⟨_, C, rfl, ⟨rfl, hX⟩, by rw [ht]; exact hP⟩, hS.F ht⟩) hS.2.2 dX4_end_9

set_option maxHeartbeats 4000000 in
set_option maxRecDepth 100000 in
theorem c_X4_words (l : Launch) (D : va_G) (cy : Nat → ClassId) (Ad : Nat → Nat) (n mm : Nat) (C : pw_C) (hI : pw_I Ad (shX n)) (hn : 1 ≤ n ∧ n ≤ 12) (hmm : 1 ≤ mm ∧ mm ≤ 16) (nx : Nat → Nat → Nat) (mx : Nat → Nat → Option Nat) (en : Nat → Bool) (am wt : Nat → Nat) (hX : XI n mm nx mx en am wt Ad C) (a : Int32) : Met l yX4_words wsX4_words (k2_rm 3 73) (pw_Pre ([.ref (Ad 0), .int a]) D cy Ad (shX n) C) (pw_Post (fun r9 C' => r9 = some (.long (f_words mx en a)) ∧ (XI n mm nx mx en am wt Ad C')) D cy Ad (shX n)) 0 0 (pw_fr Ad (shX n)) := by
  refine Met.ofW (cc := cX4_words) (maxL := 2) (ret := (some .long)) (by decide) rfl ?_
  intro p e s m args below meth c s₁ B hml hv
  obtain ⟨rfl, hP, hK⟩ := hv
  have hx := B.exec
  have hb := B.bytes
  have hr := B.returns
  have hts := atoms_spec (ws := wsX4_words) B.pre
  have hown : s.vm.findClass RX4 = some m.cls := findClass_of_methodNamed B.named
  have hlocks := B.notSynchronized
  have S : CallFix p m c cX4_words 2 s ([.ref (Ad 0), .int a]).toArray wsX4_words RX4 := ⟨hx, hb, hml, hown, hts⟩
  change W p l e (k2_rm 3 73) s m _ below meth c s.heap [] 0 0 _ _
  have hl := lv_entry ([.ref (Ad 0), .int a]) (n := 2) (Nat.le_of_ble_eq_true rfl)
  rw [lg_entry_eq]
  generalize (lg_sl ([.ref (Ad 0), .int a]) ++ List.replicate (2 - (lg_sl ([.ref (Ad 0), .int a])).length) Slot.unset).toArray = ls at hl ⊢
  have hl : lv_has ls 2 [(0, .ref (Ad 0)), (1, .int a)] := hl
  have hS : va_S (pw_fr Ad (shX n)) s.heap s.heap [] := va_S.rf
  obtain ⟨hF, hN, hM, hE, hA, hT⟩ := id hX
  refine lv_iload_n hx hb dX4_words_0 rfl (lv_at hl 1 rfl) ?_
  refine lv_iconst (v := nI 0) hx hb dX4_words_1 (by decide) ?_
  refine lv_bipush (v := nI 25) hx hb dX4_words_2 (by decide) ?_
  refine pw_cs S 3 (c_X4_isWithin l a (nI 0) (nI 25)) gX4_words_X4_isWithin rfl rfl rfl (by decide +kernel) ⟨Nat.le_of_ble_eq_true rfl, Nat.le_of_ble_eq_true rfl⟩ rfl hl.1 rfl (Nat.le_of_ble_eq_true rfl) dX4_words_4 ⟨Nat.le_refl _, Nat.le_refl _⟩ ?_
  refine pn_ifne_b (tgt := 14) hx hb dX4_words_7 (by decide) (fun c_7 => ?_) (fun c_7 => ?_)
  · obtain ⟨k, hl_k, hh_k, rfl⟩ := wi_ex (by omega) c_7
    have ix_k : ix (nI k) = k := nI_clamp (by omega)
    refine lv_aload_n hx hb dX4_words_14 rfl (lv_at hl 0 rfl) ?_
    refine pw_get hx hb hts (fun _ h9 => List.mem_cons_of_mem _ (List.mem_append_left _ (List.mem_append_right _ h9))) hown hK hP 0 rfl rfl 2 (by decide) hF.1 rfl (hts (.fieldLink RX4 34 "PastDraws" "machine" "LPastDraws$Machine;") (List.mem_of_getElem? (i := 2) rfl)) dX4_words_15 ?_
    refine lv_iload_n hx hb dX4_words_18 rfl (lv_at hl 1 rfl) ?_
    refine pw_cvW S hK hP 2 1 rfl rfl 1 (c_X1_countAll l D cy Ad n mm C hI hn hF mx hM en hE k (by omega)) gX4_words_X1_countAll rfl rfl rfl (by decide +kernel) ⟨Nat.le_of_ble_eq_true rfl, Nat.le_of_ble_eq_true rfl⟩ rfl hl.1 rfl (Nat.le_of_ble_eq_true rfl) dX4_words_19 ⟨Nat.le_refl _, Nat.le_refl _⟩ hS (fun _ h9 => h9) (fun r9 C19 H locs hR hP _ _ hS => ?_)
    obtain ⟨rfl, hR⟩ := hR
    change W p l e _ s m _ below meth c H locs 0 0 _ (F0 m 22 ls [.long (cnW mx en k 0)])
    have hX := XI_B hn.2 hX hR.1 (fun k h => by have h8 : 53 ≤ k := h; unfold scr; omega)
    obtain ⟨hF, hN, hM, hE, hA, hT⟩ := id hX
    refine pw_topl (y := f_words mx en (nI k)) (by unfold f_words; simp [c_7, ix_k]) ?_
    exact W.lret hx hb hr (fun t ht _ => ⟨⟨_, C19, rfl, ⟨rfl, hX⟩, by rw [ht]; exact hP⟩, hS.F ht⟩) hS.2.2 dX4_words_22
  · refine lv_ldc2 hx hb hown (hts (.constantLong RX4 59 (-1)) (List.mem_of_getElem? (i := 1) rfl)) dX4_words_10 ?_
    refine pw_topl (y := f_words mx en a) (by unfold f_words; simp [c_7]) ?_
    exact W.lret hx hb hr (fun t ht _ => ⟨⟨_, C, rfl, ⟨rfl, hX⟩, by rw [ht]; exact hP⟩, hS.F ht⟩) hS.2.2 dX4_words_13

set_option maxHeartbeats 4000000 in
set_option maxRecDepth 100000 in
theorem c_X4_word (l : Launch) (D : va_G) (cy : Nat → ClassId) (Ad : Nat → Nat) (n mm : Nat) (C : pw_C) (hI : pw_I Ad (shX n)) (hn : 1 ≤ n ∧ n ≤ 12) (hmm : 1 ≤ mm ∧ mm ≤ 16) (nx : Nat → Nat → Nat) (mx : Nat → Nat → Option Nat) (en : Nat → Bool) (am wt : Nat → Nat) (hX : XI n mm nx mx en am wt Ad C) (a : Int32) (v : Int64) (d : Int32) : Met l yX4_word wsX4_word (k2_rm 4 105) (pw_Pre ([.ref (Ad 0), .int a, .long v, .int d]) D cy Ad (shX n) C) (pw_Post (fun r9 C' => r9 = some (.int (f_word mx en a v d)) ∧ (XI n mm nx mx en am wt Ad C')) D cy Ad (shX n)) 0 0 (pw_fr Ad (shX n)) := by
  refine Met.ofW (cc := cX4_word) (maxL := 5) (ret := (some .int)) (by decide) rfl ?_
  intro p e s m args below meth c s₁ B hml hv
  obtain ⟨rfl, hP, hK⟩ := hv
  have hx := B.exec
  have hb := B.bytes
  have hr := B.returns
  have hts := atoms_spec (ws := wsX4_word) B.pre
  have hown : s.vm.findClass RX4 = some m.cls := findClass_of_methodNamed B.named
  have hlocks := B.notSynchronized
  have S : CallFix p m c cX4_word 5 s ([.ref (Ad 0), .int a, .long v, .int d]).toArray wsX4_word RX4 := ⟨hx, hb, hml, hown, hts⟩
  change W p l e (k2_rm 4 105) s m _ below meth c s.heap [] 0 0 _ _
  have hl := lv_entry ([.ref (Ad 0), .int a, .long v, .int d]) (n := 5) (Nat.le_of_ble_eq_true rfl)
  rw [lg_entry_eq]
  generalize (lg_sl ([.ref (Ad 0), .int a, .long v, .int d]) ++ List.replicate (5 - (lg_sl ([.ref (Ad 0), .int a, .long v, .int d])).length) Slot.unset).toArray = ls at hl ⊢
  have hl : lv_has ls 5 [(0, .ref (Ad 0)), (1, .int a), (2, .long v), (4, .int d)] := hl
  have hS : va_S (pw_fr Ad (shX n)) s.heap s.heap [] := va_S.rf
  obtain ⟨hF, hN, hM, hE, hA, hT⟩ := id hX
  refine lv_iload_n hx hb dX4_word_0 rfl (lv_at hl 1 rfl) ?_
  refine lv_iconst (v := nI 0) hx hb dX4_word_1 (by decide) ?_
  refine lv_bipush (v := nI 25) hx hb dX4_word_2 (by decide) ?_
  refine pw_cs S 3 (c_X4_isWithin l a (nI 0) (nI 25)) gX4_word_X4_isWithin rfl rfl rfl (by decide +kernel) ⟨Nat.le_of_ble_eq_true rfl, Nat.le_of_ble_eq_true rfl⟩ rfl hl.1 rfl (Nat.le_of_ble_eq_true rfl) dX4_word_4 ⟨Nat.le_refl _, Nat.le_refl _⟩ ?_
  refine pn_ifeq_b (tgt := 22) hx hb dX4_word_7 (by decide) (fun c_7 => ?_) (fun c_7 => ?_)
  · refine lv_iconst (v := (-1)) hx hb dX4_word_22 (by decide) ?_
    refine pw_topi (y := f_word mx en a v d) (by unfold f_word; first | simp [c_7, c_19] | simp [c_7]) ?_
    exact W.iret hx hb hr (fun t ht _ => ⟨⟨_, C, rfl, ⟨rfl, hX⟩, by rw [ht]; exact hP⟩, hS.F ht⟩) hS.2.2 dX4_word_23
  · refine lv_iload hx hb dX4_word_10 (lv_at hl 3 rfl) ?_
    refine lv_iconst (v := nI 0) hx hb dX4_word_12 (by decide) ?_
    refine lv_iload_n hx hb dX4_word_13 rfl (lv_at hl 1 rfl) ?_
    refine lv_iconst (v := nI 1) hx hb dX4_word_14 (by decide) ?_
    refine lv_isub hx hb dX4_word_15 ?_
    refine pw_cs S 3 (c_X4_isWithin l d (nI 0) (a - (nI 1))) gX4_word_X4_isWithin rfl rfl rfl (by decide +kernel) ⟨Nat.le_of_ble_eq_true rfl, Nat.le_of_ble_eq_true rfl⟩ rfl hl.1 rfl (Nat.le_of_ble_eq_true rfl) dX4_word_16 ⟨Nat.le_refl _, Nat.le_refl _⟩ ?_
    refine pn_ifne_b (tgt := 24) hx hb dX4_word_19 (by decide) (fun c_19 => ?_) (fun c_19 => ?_)
    · obtain ⟨k, hl_k, hh_k, rfl⟩ := wi_ex (by omega) c_7
      have ix_k : ix (nI k) = k := nI_clamp (by omega)
      obtain ⟨i, hi1, rfl⟩ := wi_ex1 (by omega) c_19
      have ix_i : ix (nI i) = i := nI_clamp (by omega)
      refine lv_lload_n hx hb dX4_word_24 rfl (lv_at hl 2 rfl) ?_
      refine lv_lconst (v := 0) hx hb dX4_word_25 (by decide) ?_
      refine W.lcmp hx hb dX4_word_26 ?_
      refine pn_lif_lt (tgt := 43) hx hb dX4_word_27 (by decide) (fun c_27 => ?_) (fun c_27 => ?_)
      · refine lv_iconst (v := (-1)) hx hb dX4_word_43 (by decide) ?_
        refine pw_topi (y := f_word mx en (nI k) v (nI i)) (by unfold f_word; rw [c_7, c_19, ix_k, ix_i]; first | (rw [decide_eq_false (fun q9 => absurd c_27 (Int64.not_lt.mpr q9.1))]; rfl) | (rw [decide_eq_false (fun q9 => absurd q9.2 c_40)]; rfl)) ?_
        exact W.iret hx hb hr (fun t ht _ => ⟨⟨_, C, rfl, ⟨rfl, hX⟩, by rw [ht]; exact hP⟩, hS.F ht⟩) hS.2.2 dX4_word_44
      · refine lv_lload_n hx hb dX4_word_30 rfl (lv_at hl 2 rfl) ?_
        refine lv_aload_n hx hb dX4_word_31 rfl (lv_at hl 0 rfl) ?_
        refine pw_get hx hb hts (fun _ h9 => List.mem_cons_of_mem _ (List.mem_append_left _ (List.mem_append_right _ h9))) hown hK hP 0 rfl rfl 2 (by decide) hF.1 rfl (hts (.fieldLink RX4 34 "PastDraws" "machine" "LPastDraws$Machine;") (List.mem_of_getElem? (i := 1) rfl)) dX4_word_32 ?_
        refine lv_iload_n hx hb dX4_word_35 rfl (lv_at hl 1 rfl) ?_
        refine pw_cvW S hK hP 2 1 rfl rfl 1 (c_X1_countAll l D cy Ad n mm C hI hn hF mx hM en hE k (by omega)) gX4_word_X1_countAll rfl rfl rfl (by decide +kernel) ⟨Nat.le_of_ble_eq_true rfl, Nat.le_of_ble_eq_true rfl⟩ rfl hl.1 rfl (Nat.le_of_ble_eq_true rfl) dX4_word_36 ⟨Nat.le_refl _, Nat.le_refl _⟩ hS (fun _ h9 => h9) (fun r9 C36 H locs hR hP _ _ hS => ?_)
        obtain ⟨rfl, hR⟩ := hR
        change W p l e _ s m _ below meth c H locs 0 0 _ (F0 m 39 ls [.long (cnW mx en k 0), .long v])
        have hX := XI_B hn.2 hX hR.1 (fun k h => by have h8 : 53 ≤ k := h; unfold scr; omega)
        obtain ⟨hF, hN, hM, hE, hA, hT⟩ := id hX
        refine W.lcmp hx hb dX4_word_39 ?_
        refine pn_lif_lt (tgt := 45) hx hb dX4_word_40 (by decide) (fun c_40 => ?_) (fun c_40 => ?_)
        · refine lv_aload_n hx hb dX4_word_45 rfl (lv_at hl 0 rfl) ?_
          refine pw_get hx hb hts (fun _ h9 => List.mem_cons_of_mem _ (List.mem_append_left _ (List.mem_append_right _ h9))) hown hK hP 0 rfl rfl 2 (by decide) hF.1 rfl (hts (.fieldLink RX4 34 "PastDraws" "machine" "LPastDraws$Machine;") (List.mem_of_getElem? (i := 1) rfl)) dX4_word_46 ?_
          refine lv_iload_n hx hb dX4_word_49 rfl (lv_at hl 1 rfl) ?_
          refine lv_lload_n hx hb dX4_word_50 rfl (lv_at hl 2 rfl) ?_
          refine lv_iload hx hb dX4_word_51 (lv_at hl 3 rfl) ?_
          refine pw_cv S hK hP 2 1 rfl rfl 3 (c_X1_letterOf l D cy Ad n mm C36 hn hF mx hM en k (by omega) hR.2 v i (by omega)) gX4_word_X1_letterOf rfl rfl rfl (by decide +kernel) ⟨Nat.le_of_ble_eq_true rfl, Nat.le_of_ble_eq_true rfl⟩ rfl hl.1 rfl (Nat.le_of_ble_eq_true rfl) dX4_word_53 ⟨Nat.le_refl _, Nat.le_refl _⟩ ?_
          refine pw_topi (y := f_word mx en (nI k) v (nI i)) (by unfold f_word; rw [c_7, c_19, ix_k, ix_i, decide_eq_true ⟨Int64.not_lt.mp c_27, c_40⟩]; rfl) ?_
          exact W.iret hx hb hr (fun t ht _ => ⟨⟨_, C36, rfl, ⟨rfl, hX⟩, by rw [ht]; exact hP⟩, hS.F ht⟩) hS.2.2 dX4_word_56
        · refine lv_iconst (v := (-1)) hx hb dX4_word_43 (by decide) ?_
          refine pw_topi (y := f_word mx en (nI k) v (nI i)) (by unfold f_word; rw [c_7, c_19, ix_k, ix_i]; first | (rw [decide_eq_false (fun q9 => absurd c_27 (Int64.not_lt.mpr q9.1))]; rfl) | (rw [decide_eq_false (fun q9 => absurd q9.2 c_40)]; rfl)) ?_
          exact W.iret hx hb hr (fun t ht _ => ⟨⟨_, C36, rfl, ⟨rfl, hX⟩, by rw [ht]; exact hP⟩, hS.F ht⟩) hS.2.2 dX4_word_44
    · refine lv_iconst (v := (-1)) hx hb dX4_word_22 (by decide) ?_
      refine pw_topi (y := f_word mx en a v d) (by unfold f_word; first | simp [c_7, c_19] | simp [c_7]) ?_
      exact W.iret hx hb hr (fun t ht _ => ⟨⟨_, C, rfl, ⟨rfl, hX⟩, by rw [ht]; exact hP⟩, hS.F ht⟩) hS.2.2 dX4_word_23

set_option maxHeartbeats 4000000 in
set_option maxRecDepth 100000 in
theorem c_X4_rank (l : Launch) (D : va_G) (cy : Nat → ClassId) (Ad : Nat → Nat) (n mm : Nat) (C : pw_C) (hI : pw_I Ad (shX n)) (hn : 1 ≤ n ∧ n ≤ 12) (hmm : 1 ≤ mm ∧ mm ≤ 16) (nx : Nat → Nat → Nat) (mx : Nat → Nat → Option Nat) (en : Nat → Bool) (am wt : Nat → Nat) (hX : XI n mm nx mx en am wt Ad C) (a : Int32) (v : Int64) : Met l yX4_rank wsX4_rank (k2_rm 3 78) (pw_Pre ([.ref (Ad 0), .int a, .long v]) D cy Ad (shX n) C) (pw_Post (fun r9 C' => r9 = some (.long (f_rank mx en a v)) ∧ (XI n mm nx mx en am wt Ad C')) D cy Ad (shX n)) 0 0 (pw_fr Ad (shX n)) := by
  refine Met.ofW (cc := cX4_rank) (maxL := 4) (ret := (some .long)) (by decide) rfl ?_
  intro p e s m args below meth c s₁ B hml hv
  obtain ⟨rfl, hP, hK⟩ := hv
  have hx := B.exec
  have hb := B.bytes
  have hr := B.returns
  have hts := atoms_spec (ws := wsX4_rank) B.pre
  have hown : s.vm.findClass RX4 = some m.cls := findClass_of_methodNamed B.named
  have hlocks := B.notSynchronized
  have S : CallFix p m c cX4_rank 4 s ([.ref (Ad 0), .int a, .long v]).toArray wsX4_rank RX4 := ⟨hx, hb, hml, hown, hts⟩
  change W p l e (k2_rm 3 78) s m _ below meth c s.heap [] 0 0 _ _
  have hl := lv_entry ([.ref (Ad 0), .int a, .long v]) (n := 4) (Nat.le_of_ble_eq_true rfl)
  rw [lg_entry_eq]
  generalize (lg_sl ([.ref (Ad 0), .int a, .long v]) ++ List.replicate (4 - (lg_sl ([.ref (Ad 0), .int a, .long v])).length) Slot.unset).toArray = ls at hl ⊢
  have hl : lv_has ls 4 [(0, .ref (Ad 0)), (1, .int a), (2, .long v)] := hl
  have hS : va_S (pw_fr Ad (shX n)) s.heap s.heap [] := va_S.rf
  obtain ⟨hF, hN, hM, hE, hA, hT⟩ := id hX
  refine lv_iload_n hx hb dX4_rank_0 rfl (lv_at hl 1 rfl) ?_
  refine lv_iconst (v := nI 0) hx hb dX4_rank_1 (by decide) ?_
  refine lv_bipush (v := nI 25) hx hb dX4_rank_2 (by decide) ?_
  refine pw_cs S 3 (c_X4_isWithin l a (nI 0) (nI 25)) gX4_rank_X4_isWithin rfl rfl rfl (by decide +kernel) ⟨Nat.le_of_ble_eq_true rfl, Nat.le_of_ble_eq_true rfl⟩ rfl hl.1 rfl (Nat.le_of_ble_eq_true rfl) dX4_rank_4 ⟨Nat.le_refl _, Nat.le_refl _⟩ ?_
  refine pn_ifne_b (tgt := 14) hx hb dX4_rank_7 (by decide) (fun c_7 => ?_) (fun c_7 => ?_)
  · obtain ⟨k, hl_k, hh_k, rfl⟩ := wi_ex (by omega) c_7
    have ix_k : ix (nI k) = k := nI_clamp (by omega)
    refine lv_aload_n hx hb dX4_rank_14 rfl (lv_at hl 0 rfl) ?_
    refine pw_get hx hb hts (fun _ h9 => List.mem_cons_of_mem _ (List.mem_append_left _ (List.mem_append_right _ h9))) hown hK hP 0 rfl rfl 2 (by decide) hF.1 rfl (hts (.fieldLink RX4 34 "PastDraws" "machine" "LPastDraws$Machine;") (List.mem_of_getElem? (i := 2) rfl)) dX4_rank_15 ?_
    refine lv_iload_n hx hb dX4_rank_18 rfl (lv_at hl 1 rfl) ?_
    refine pw_cvW S hK hP 2 1 rfl rfl 1 (c_X1_countAll l D cy Ad n mm C hI hn hF mx hM en hE k (by omega)) gX4_rank_X1_countAll rfl rfl rfl (by decide +kernel) ⟨Nat.le_of_ble_eq_true rfl, Nat.le_of_ble_eq_true rfl⟩ rfl hl.1 rfl (Nat.le_of_ble_eq_true rfl) dX4_rank_19 ⟨Nat.le_refl _, Nat.le_refl _⟩ hS (fun _ h9 => h9) (fun r9 C19 H locs hR hP _ _ hS => ?_)
    obtain ⟨rfl, hR⟩ := hR
    change W p l e _ s m _ below meth c H locs 0 0 _ (F0 m 22 ls [.long (cnW mx en k 0)])
    have hX := XI_B hn.2 hX hR.1 (fun k h => by have h8 : 53 ≤ k := h; unfold scr; omega)
    obtain ⟨hF, hN, hM, hE, hA, hT⟩ := id hX
    refine lv_pop2_2 hx hb dX4_rank_22 rfl ?_
    refine lv_aload_n hx hb dX4_rank_23 rfl (lv_at hl 0 rfl) ?_
    refine pw_get hx hb hts (fun _ h9 => List.mem_cons_of_mem _ (List.mem_append_left _ (List.mem_append_right _ h9))) hown hK hP 0 rfl rfl 2 (by decide) hF.1 rfl (hts (.fieldLink RX4 34 "PastDraws" "machine" "LPastDraws$Machine;") (List.mem_of_getElem? (i := 2) rfl)) dX4_rank_24 ?_
    refine lv_iload_n hx hb dX4_rank_27 rfl (lv_at hl 1 rfl) ?_
    refine lv_lload_n hx hb dX4_rank_28 rfl (lv_at hl 2 rfl) ?_
    refine pw_cv S hK hP 2 1 rfl rfl 2 (c_X1_numberOf l D cy Ad n mm C19 hn hF mx hM en k (by omega) hR.2 hE v) gX4_rank_X1_numberOf rfl rfl rfl (by decide +kernel) ⟨Nat.le_of_ble_eq_true rfl, Nat.le_of_ble_eq_true rfl⟩ rfl hl.1 rfl (Nat.le_of_ble_eq_true rfl) dX4_rank_29 ⟨Nat.le_refl _, Nat.le_refl _⟩ ?_
    refine pw_topl (y := f_rank mx en (nI k) v) (by unfold f_rank; simp [c_7, ix_k]) ?_
    exact W.lret hx hb hr (fun t ht _ => ⟨⟨_, C19, rfl, ⟨rfl, hX⟩, by rw [ht]; exact hP⟩, hS.F ht⟩) hS.2.2 dX4_rank_32
  · refine lv_ldc2 hx hb hown (hts (.constantLong RX4 59 (-1)) (List.mem_of_getElem? (i := 1) rfl)) dX4_rank_10 ?_
    refine pw_topl (y := f_rank mx en a v) (by unfold f_rank; simp [c_7]) ?_
    exact W.lret hx hb hr (fun t ht _ => ⟨⟨_, C, rfl, ⟨rfl, hX⟩, by rw [ht]; exact hP⟩, hS.F ht⟩) hS.2.2 dX4_rank_13

set_option maxHeartbeats 4000000 in
set_option maxRecDepth 100000 in
theorem c_X4_allow (l : Launch) (D : va_G) (cy : Nat → ClassId) (Ad : Nat → Nat) (n mm : Nat) (C : pw_C) (hI : pw_I Ad (shX n)) (hn : 1 ≤ n ∧ n ≤ 12) (hmm : 1 ≤ mm ∧ mm ≤ 16) (nx : Nat → Nat → Nat) (mx : Nat → Nat → Option Nat) (en : Nat → Bool) (am wt : Nat → Nat) (hX : XI n mm nx mx en am wt Ad C) (a b : Int32) (d : Bool) : Met l yX4_allow wsX4_allow (k2_rm 1 24) (pw_Pre ([.ref (Ad 0), .int a, .int b, .int (pb d)]) D cy Ad (shX n) C) (pw_Post (fun r9 C' => r9 = some (.int (f_allow am a b)) ∧ (XI n mm nx mx en (u_allow am a b d) wt Ad C')) D cy Ad (shX n)) 0 0 (pw_fr Ad (shX n)) := by
  refine Met.ofW (cc := cX4_allow) (maxL := 4) (ret := (some .int)) (by decide) rfl ?_
  intro p e s m args below meth c s₁ B hml hv
  obtain ⟨rfl, hP, hK⟩ := hv
  have hx := B.exec
  have hb := B.bytes
  have hr := B.returns
  have hts := atoms_spec (ws := wsX4_allow) B.pre
  have hown : s.vm.findClass RX4 = some m.cls := findClass_of_methodNamed B.named
  have hlocks := B.notSynchronized
  have S : CallFix p m c cX4_allow 4 s ([.ref (Ad 0), .int a, .int b, .int (pb d)]).toArray wsX4_allow RX4 := ⟨hx, hb, hml, hown, hts⟩
  change W p l e (k2_rm 1 24) s m _ below meth c s.heap [] 0 0 _ _
  have hl := lv_entry ([.ref (Ad 0), .int a, .int b, .int (pb d)]) (n := 4) (Nat.le_of_ble_eq_true rfl)
  rw [lg_entry_eq]
  generalize (lg_sl ([.ref (Ad 0), .int a, .int b, .int (pb d)]) ++ List.replicate (4 - (lg_sl ([.ref (Ad 0), .int a, .int b, .int (pb d)])).length) Slot.unset).toArray = ls at hl ⊢
  have hl : lv_has ls 4 [(0, .ref (Ad 0)), (1, .int a), (2, .int b), (3, .int (pb d))] := hl
  have hS : va_S (pw_fr Ad (shX n)) s.heap s.heap [] := va_S.rf
  obtain ⟨hF, hN, hM, hE, hA, hT⟩ := id hX
  refine lv_iload_n hx hb dX4_allow_0 rfl (lv_at hl 1 rfl) ?_
  refine lv_iconst (v := nI 0) hx hb dX4_allow_1 (by decide) ?_
  refine lv_bipush (v := nI 7) hx hb dX4_allow_2 (by decide) ?_
  refine pw_cs S 3 (c_X4_isWithin l a (nI 0) (nI 7)) gX4_allow_X4_isWithin rfl rfl rfl (by decide +kernel) ⟨Nat.le_of_ble_eq_true rfl, Nat.le_of_ble_eq_true rfl⟩ rfl hl.1 rfl (Nat.le_of_ble_eq_true rfl) dX4_allow_4 ⟨Nat.le_refl _, Nat.le_refl _⟩ ?_
  refine pn_ifeq_b (tgt := 20) hx hb dX4_allow_7 (by decide) (fun c_7 => ?_) (fun c_7 => ?_)
  · refine lv_iconst (v := (-1)) hx hb dX4_allow_20 (by decide) ?_
    have e9 : (wi a (nI 0) (nI 7) && wi b (nI 0) (nI 7)) = false := by first | (rw [c_7]; rfl) | (rw [c_7, c_17]; rfl)
    have ef : f_allow am a b = (-1) := by unfold f_allow; rw [e9]; rfl
    have eu : u_allow am a b d = am := by unfold u_allow; rw [e9]; rfl
    rw [ef, eu]
    exact W.iret hx hb hr (fun t ht _ => ⟨⟨_, C, rfl, ⟨rfl, hX⟩, by rw [ht]; exact hP⟩, hS.F ht⟩) hS.2.2 dX4_allow_21
  · refine lv_iload_n hx hb dX4_allow_10 rfl (lv_at hl 2 rfl) ?_
    refine lv_iconst (v := nI 0) hx hb dX4_allow_11 (by decide) ?_
    refine lv_bipush (v := nI 7) hx hb dX4_allow_12 (by decide) ?_
    refine pw_cs S 3 (c_X4_isWithin l b (nI 0) (nI 7)) gX4_allow_X4_isWithin rfl rfl rfl (by decide +kernel) ⟨Nat.le_of_ble_eq_true rfl, Nat.le_of_ble_eq_true rfl⟩ rfl hl.1 rfl (Nat.le_of_ble_eq_true rfl) dX4_allow_14 ⟨Nat.le_refl _, Nat.le_refl _⟩ ?_
    refine pn_ifne_b (tgt := 22) hx hb dX4_allow_17 (by decide) (fun c_17 => ?_) (fun c_17 => ?_)
    · obtain ⟨q, hl_q, hh_q, rfl⟩ := wi_ex (by omega) c_7
      obtain ⟨v, hl_v, hh_v, rfl⟩ := wi_ex (by omega) c_17
      have ix_q : ix (nI q) = q := nI_clamp (by omega)
      have ix_v : ix (nI v) = v := nI_clamp (by omega)
      refine lv_aload_n hx hb dX4_allow_22 rfl (lv_at hl 0 rfl) ?_
      refine pw_get hx hb hts (fun _ h9 => List.mem_cons_of_mem _ (List.mem_append_left _ (List.mem_append_right _ h9))) hown hK hP 0 rfl rfl 3 (by decide) hF.1 rfl (hts (.fieldLink RX4 41 "PastDraws" "orders" "LPastDraws$Orders;") (List.mem_of_getElem? (i := 1) rfl)) dX4_allow_23 ?_
      refine lv_iload_n hx hb dX4_allow_26 rfl (lv_at hl 1 rfl) ?_
      refine lv_iload_n hx hb dX4_allow_27 rfl (lv_at hl 2 rfl) ?_
      refine lv_iload_n hx hb dX4_allow_28 rfl (lv_at hl 3 rfl) ?_
      refine pw_cvW S hK hP 3 2 rfl rfl 3 (c_X2_setAllowed l D cy Ad n mm C hI hn hF am hA q v d (by omega) (by omega)) gX4_allow_X2_setAllowed rfl rfl rfl (by decide +kernel) ⟨Nat.le_of_ble_eq_true rfl, Nat.le_of_ble_eq_true rfl⟩ rfl hl.1 rfl (Nat.le_of_ble_eq_true rfl) dX4_allow_29 ⟨Nat.le_refl _, Nat.le_refl _⟩ hS (fun _ h9 => h9) (fun r9 C29 H locs hR hP _ _ hS => ?_)
      obtain ⟨rfl, hR⟩ := hR
      change W p l e _ s m _ below meth c H locs 0 0 _ (F0 m 32 ls [.int (pb ((am q).testBit v))])
      refine pn_ifeq_b (tgt := 39) hx hb dX4_allow_32 (by decide) (fun c_32 => ?_) (fun c_32 => ?_)
      · refine lv_iconst (v := nI 0) hx hb dX4_allow_39 (by decide) ?_
        have e9 : (wi (nI q) (nI 0) (nI 7) && wi (nI v) (nI 0) (nI 7)) = true := by rw [c_7, c_17]; rfl
        have ef : f_allow am (nI q) (nI v) = pb ((am q).testBit v) := by unfold f_allow; rw [if_pos e9, ix_q, ix_v]
        have eu : u_allow am (nI q) (nI v) d = fun q9 => if q9 = q ∧ ¬ d = (am q).testBit v then am q ^^^ 2 ^ v else am q9 := by unfold u_allow; rw [if_pos e9, ix_q, ix_v]
        refine pw_topi (y := pb ((am q).testBit v)) (by rw [c_32]; rfl) ?_
        rw [ef, eu]
        exact W.iret hx hb hr (fun t ht _ => ⟨⟨_, C29, rfl, ⟨rfl, by rw [hR]; exact XI_allow (by omega) (by omega) hX⟩, by rw [ht]; exact hP⟩, hS.F ht⟩) hS.2.2 dX4_allow_40
      · refine lv_iconst (v := nI 1) hx hb dX4_allow_35 (by decide) ?_
        refine lv_goto (tgt := 40) hx hb dX4_allow_36 (by decide) ?_
        have e9 : (wi (nI q) (nI 0) (nI 7) && wi (nI v) (nI 0) (nI 7)) = true := by rw [c_7, c_17]; rfl
        have ef : f_allow am (nI q) (nI v) = pb ((am q).testBit v) := by unfold f_allow; rw [if_pos e9, ix_q, ix_v]
        have eu : u_allow am (nI q) (nI v) d = fun q9 => if q9 = q ∧ ¬ d = (am q).testBit v then am q ^^^ 2 ^ v else am q9 := by unfold u_allow; rw [if_pos e9, ix_q, ix_v]
        refine pw_topi (y := pb ((am q).testBit v)) (by rw [c_32]; rfl) ?_
        rw [ef, eu]
        exact W.iret hx hb hr (fun t ht _ => ⟨⟨_, C29, rfl, ⟨rfl, by rw [hR]; exact XI_allow (by omega) (by omega) hX⟩, by rw [ht]; exact hP⟩, hS.F ht⟩) hS.2.2 dX4_allow_40
    · refine lv_iconst (v := (-1)) hx hb dX4_allow_20 (by decide) ?_
      have e9 : (wi a (nI 0) (nI 7) && wi b (nI 0) (nI 7)) = false := by first | (rw [c_7]; rfl) | (rw [c_7, c_17]; rfl)
      have ef : f_allow am a b = (-1) := by unfold f_allow; rw [e9]; rfl
      have eu : u_allow am a b d = am := by unfold u_allow; rw [e9]; rfl
      rw [ef, eu]
      exact W.iret hx hb hr (fun t ht _ => ⟨⟨_, C, rfl, ⟨rfl, hX⟩, by rw [ht]; exact hP⟩, hS.F ht⟩) hS.2.2 dX4_allow_21

set_option maxHeartbeats 4000000 in
set_option maxRecDepth 100000 in
theorem c_X4_permutations (l : Launch) (D : va_G) (cy : Nat → ClassId) (Ad : Nat → Nat) (n mm : Nat) (C : pw_C) (hI : pw_I Ad (shX n)) (hn : 1 ≤ n ∧ n ≤ 12) (hmm : 1 ≤ mm ∧ mm ≤ 16) (nx : Nat → Nat → Nat) (mx : Nat → Nat → Option Nat) (en : Nat → Bool) (am wt : Nat → Nat) (hX : XI n mm nx mx en am wt Ad C) (a : Int32) : Met l yX4_permutations wsX4_permutations (k2_rm 4 91) (pw_Pre ([.ref (Ad 0), .int a]) D cy Ad (shX n) C) (pw_Post (fun r9 C' => r9 = some (.int (f_perms am a)) ∧ (XI n mm nx mx en am wt Ad C')) D cy Ad (shX n)) 0 0 (pw_fr Ad (shX n)) := by
  refine Met.ofW (cc := cX4_permutations) (maxL := 2) (ret := (some .int)) (by decide) rfl ?_
  intro p e s m args below meth c s₁ B hml hv
  obtain ⟨rfl, hP, hK⟩ := hv
  have hx := B.exec
  have hb := B.bytes
  have hr := B.returns
  have hts := atoms_spec (ws := wsX4_permutations) B.pre
  have hown : s.vm.findClass RX4 = some m.cls := findClass_of_methodNamed B.named
  have hlocks := B.notSynchronized
  have S : CallFix p m c cX4_permutations 2 s ([.ref (Ad 0), .int a]).toArray wsX4_permutations RX4 := ⟨hx, hb, hml, hown, hts⟩
  change W p l e (k2_rm 4 91) s m _ below meth c s.heap [] 0 0 _ _
  have hl := lv_entry ([.ref (Ad 0), .int a]) (n := 2) (Nat.le_of_ble_eq_true rfl)
  rw [lg_entry_eq]
  generalize (lg_sl ([.ref (Ad 0), .int a]) ++ List.replicate (2 - (lg_sl ([.ref (Ad 0), .int a])).length) Slot.unset).toArray = ls at hl ⊢
  have hl : lv_has ls 2 [(0, .ref (Ad 0)), (1, .int a)] := hl
  have hS : va_S (pw_fr Ad (shX n)) s.heap s.heap [] := va_S.rf
  obtain ⟨hF, hN, hM, hE, hA, hT⟩ := id hX
  refine lv_iload_n hx hb dX4_permutations_0 rfl (lv_at hl 1 rfl) ?_
  refine lv_iconst (v := nI 1) hx hb dX4_permutations_1 (by decide) ?_
  refine lv_bipush (v := nI 8) hx hb dX4_permutations_2 (by decide) ?_
  refine pw_cs S 3 (c_X4_isWithin l a (nI 1) (nI 8)) gX4_permutations_X4_isWithin rfl rfl rfl (by decide +kernel) ⟨Nat.le_of_ble_eq_true rfl, Nat.le_of_ble_eq_true rfl⟩ rfl hl.1 rfl (Nat.le_of_ble_eq_true rfl) dX4_permutations_4 ⟨Nat.le_refl _, Nat.le_refl _⟩ ?_
  refine pn_ifne_b (tgt := 12) hx hb dX4_permutations_7 (by decide) (fun c_7 => ?_) (fun c_7 => ?_)
  · obtain ⟨k, hl_k, hh_k, rfl⟩ := wi_ex (by omega) c_7
    have ix_k : ix (nI k) = k := nI_clamp (by omega)
    refine lv_aload_n hx hb dX4_permutations_12 rfl (lv_at hl 0 rfl) ?_
    refine pw_get hx hb hts (fun _ h9 => List.mem_cons_of_mem _ (List.mem_append_left _ (List.mem_append_right _ h9))) hown hK hP 0 rfl rfl 3 (by decide) hF.1 rfl (hts (.fieldLink RX4 41 "PastDraws" "orders" "LPastDraws$Orders;") (List.mem_of_getElem? (i := 1) rfl)) dX4_permutations_13 ?_
    refine lv_iload_n hx hb dX4_permutations_16 rfl (lv_at hl 1 rfl) ?_
    refine pw_cvW S hK hP 3 2 rfl rfl 1 (c_X2_countAll l D cy Ad n mm C hI hn hF am hA k (by omega)) gX4_permutations_X2_countAll rfl rfl rfl (by decide +kernel) ⟨Nat.le_of_ble_eq_true rfl, Nat.le_of_ble_eq_true rfl⟩ rfl hl.1 rfl (Nat.le_of_ble_eq_true rfl) dX4_permutations_17 ⟨Nat.le_refl _, Nat.le_refl _⟩ hS (fun _ h9 => h9) (fun r9 C17 H locs hR hP _ _ hS => ?_)
    obtain ⟨rfl, hR⟩ := hR
    change W p l e _ s m _ below meth c H locs 0 0 _ (F0 m 20 ls [.int (wyF am k 0)])
    have hX := XI_B hn.2 hX hR.1 (fun k h => by have h8 : k = 15 := h; unfold scr; omega)
    obtain ⟨hF, hN, hM, hE, hA, hT⟩ := id hX
    refine pw_topi (y := f_perms am (nI k)) (by unfold f_perms; simp [c_7, ix_k]) ?_
    exact W.iret hx hb hr (fun t ht _ => ⟨⟨_, C17, rfl, ⟨rfl, hX⟩, by rw [ht]; exact hP⟩, hS.F ht⟩) hS.2.2 dX4_permutations_20
  · refine lv_iconst (v := (-1)) hx hb dX4_permutations_10 (by decide) ?_
    refine pw_topi (y := f_perms am a) (by unfold f_perms; simp [c_7]) ?_
    exact W.iret hx hb hr (fun t ht _ => ⟨⟨_, C, rfl, ⟨rfl, hX⟩, by rw [ht]; exact hP⟩, hS.F ht⟩) hS.2.2 dX4_permutations_11

set_option maxHeartbeats 4000000 in
set_option maxRecDepth 100000 in
theorem c_X4_permutation (l : Launch) (D : va_G) (cy : Nat → ClassId) (Ad : Nat → Nat) (n mm : Nat) (C : pw_C) (hI : pw_I Ad (shX n)) (hn : 1 ≤ n ∧ n ≤ 12) (hmm : 1 ≤ mm ∧ mm ≤ 16) (nx : Nat → Nat → Nat) (mx : Nat → Nat → Option Nat) (en : Nat → Bool) (am wt : Nat → Nat) (hX : XI n mm nx mx en am wt Ad C) (a b d : Int32) : Met l yX4_permutation wsX4_permutation (k2_rm 5 119) (pw_Pre ([.ref (Ad 0), .int a, .int b, .int d]) D cy Ad (shX n) C) (pw_Post (fun r9 C' => r9 = some (.int (f_perm am a b d)) ∧ (XI n mm nx mx en am wt Ad C')) D cy Ad (shX n)) 0 0 (pw_fr Ad (shX n)) := by
  refine Met.ofW (cc := cX4_permutation) (maxL := 4) (ret := (some .int)) (by decide) rfl ?_
  intro p e s m args below meth c s₁ B hml hv
  obtain ⟨rfl, hP, hK⟩ := hv
  have hx := B.exec
  have hb := B.bytes
  have hr := B.returns
  have hts := atoms_spec (ws := wsX4_permutation) B.pre
  have hown : s.vm.findClass RX4 = some m.cls := findClass_of_methodNamed B.named
  have hlocks := B.notSynchronized
  have S : CallFix p m c cX4_permutation 4 s ([.ref (Ad 0), .int a, .int b, .int d]).toArray wsX4_permutation RX4 := ⟨hx, hb, hml, hown, hts⟩
  change W p l e (k2_rm 5 119) s m _ below meth c s.heap [] 0 0 _ _
  have hl := lv_entry ([.ref (Ad 0), .int a, .int b, .int d]) (n := 4) (Nat.le_of_ble_eq_true rfl)
  rw [lg_entry_eq]
  generalize (lg_sl ([.ref (Ad 0), .int a, .int b, .int d]) ++ List.replicate (4 - (lg_sl ([.ref (Ad 0), .int a, .int b, .int d])).length) Slot.unset).toArray = ls at hl ⊢
  have hl : lv_has ls 4 [(0, .ref (Ad 0)), (1, .int a), (2, .int b), (3, .int d)] := hl
  have hS : va_S (pw_fr Ad (shX n)) s.heap s.heap [] := va_S.rf
  obtain ⟨hF, hN, hM, hE, hA, hT⟩ := id hX
  refine lv_iload_n hx hb dX4_permutation_0 rfl (lv_at hl 1 rfl) ?_
  refine lv_iconst (v := nI 1) hx hb dX4_permutation_1 (by decide) ?_
  refine lv_bipush (v := nI 8) hx hb dX4_permutation_2 (by decide) ?_
  refine pw_cs S 3 (c_X4_isWithin l a (nI 1) (nI 8)) gX4_permutation_X4_isWithin rfl rfl rfl (by decide +kernel) ⟨Nat.le_of_ble_eq_true rfl, Nat.le_of_ble_eq_true rfl⟩ rfl hl.1 rfl (Nat.le_of_ble_eq_true rfl) dX4_permutation_4 ⟨Nat.le_refl _, Nat.le_refl _⟩ ?_
  refine pn_ifeq_b (tgt := 21) hx hb dX4_permutation_7 (by decide) (fun c_7 => ?_) (fun c_7 => ?_)
  · refine lv_iconst (v := (-1)) hx hb dX4_permutation_21 (by decide) ?_
    refine pw_topi (y := f_perm am a b d) (by unfold f_perm; first | simp [c_7, c_18] | simp [c_7]) ?_
    exact W.iret hx hb hr (fun t ht _ => ⟨⟨_, C, rfl, ⟨rfl, hX⟩, by rw [ht]; exact hP⟩, hS.F ht⟩) hS.2.2 dX4_permutation_22
  · refine lv_iload_n hx hb dX4_permutation_10 rfl (lv_at hl 3 rfl) ?_
    refine lv_iconst (v := nI 0) hx hb dX4_permutation_11 (by decide) ?_
    refine lv_iload_n hx hb dX4_permutation_12 rfl (lv_at hl 1 rfl) ?_
    refine lv_iconst (v := nI 1) hx hb dX4_permutation_13 (by decide) ?_
    refine lv_isub hx hb dX4_permutation_14 ?_
    refine pw_cs S 3 (c_X4_isWithin l d (nI 0) (a - (nI 1))) gX4_permutation_X4_isWithin rfl rfl rfl (by decide +kernel) ⟨Nat.le_of_ble_eq_true rfl, Nat.le_of_ble_eq_true rfl⟩ rfl hl.1 rfl (Nat.le_of_ble_eq_true rfl) dX4_permutation_15 ⟨Nat.le_refl _, Nat.le_refl _⟩ ?_
    refine pn_ifne_b (tgt := 23) hx hb dX4_permutation_18 (by decide) (fun c_18 => ?_) (fun c_18 => ?_)
    · obtain ⟨k, hl_k, hh_k, rfl⟩ := wi_ex (by omega) c_7
      have ix_k : ix (nI k) = k := nI_clamp (by omega)
      obtain ⟨i, hi1, rfl⟩ := wi_ex1 (by omega) c_18
      have ix_i : ix (nI i) = i := nI_clamp (by omega)
      refine lv_iload_n hx hb dX4_permutation_23 rfl (lv_at hl 2 rfl) ?_
      refine lv_if_lt (tgt := 39) hx hb dX4_permutation_24 (by decide) (fun c_24 => ?_) (fun c_24 => ?_)
      · refine lv_iconst (v := (-1)) hx hb dX4_permutation_39 (by decide) ?_
        refine pw_topi (y := f_perm am (nI k) b (nI i)) (by unfold f_perm; rw [c_7, c_18, ix_k, ix_i]; first | (rw [decide_eq_false (fun q9 => absurd c_24 (Int32.not_lt.mpr q9.1))]; rfl) | (rw [decide_eq_false (fun q9 => absurd q9.2 c_36)]; rfl)) ?_
        exact W.iret hx hb hr (fun t ht _ => ⟨⟨_, C, rfl, ⟨rfl, hX⟩, by rw [ht]; exact hP⟩, hS.F ht⟩) hS.2.2 dX4_permutation_40
      · refine lv_iload_n hx hb dX4_permutation_27 rfl (lv_at hl 2 rfl) ?_
        refine lv_aload_n hx hb dX4_permutation_28 rfl (lv_at hl 0 rfl) ?_
        refine pw_get hx hb hts (fun _ h9 => List.mem_cons_of_mem _ (List.mem_append_left _ (List.mem_append_right _ h9))) hown hK hP 0 rfl rfl 3 (by decide) hF.1 rfl (hts (.fieldLink RX4 41 "PastDraws" "orders" "LPastDraws$Orders;") (List.mem_of_getElem? (i := 1) rfl)) dX4_permutation_29 ?_
        refine lv_iload_n hx hb dX4_permutation_32 rfl (lv_at hl 1 rfl) ?_
        refine pw_cvW S hK hP 3 2 rfl rfl 1 (c_X2_countAll l D cy Ad n mm C hI hn hF am hA k (by omega)) gX4_permutation_X2_countAll rfl rfl rfl (by decide +kernel) ⟨Nat.le_of_ble_eq_true rfl, Nat.le_of_ble_eq_true rfl⟩ rfl hl.1 rfl (Nat.le_of_ble_eq_true rfl) dX4_permutation_33 ⟨Nat.le_refl _, Nat.le_refl _⟩ hS (fun _ h9 => h9) (fun r9 C33 H locs hR hP _ _ hS => ?_)
        obtain ⟨rfl, hR⟩ := hR
        change W p l e _ s m _ below meth c H locs 0 0 _ (F0 m 36 ls [.int (wyF am k 0), .int b])
        have hX := XI_B hn.2 hX hR.1 (fun k h => by have h8 : k = 15 := h; unfold scr; omega)
        obtain ⟨hF, hN, hM, hE, hA, hT⟩ := id hX
        refine lv_icmp_lt (tgt := 41) hx hb dX4_permutation_36 (by decide) (fun c_36 => ?_) (fun c_36 => ?_)
        · refine lv_aload_n hx hb dX4_permutation_41 rfl (lv_at hl 0 rfl) ?_
          refine pw_get hx hb hts (fun _ h9 => List.mem_cons_of_mem _ (List.mem_append_left _ (List.mem_append_right _ h9))) hown hK hP 0 rfl rfl 3 (by decide) hF.1 rfl (hts (.fieldLink RX4 41 "PastDraws" "orders" "LPastDraws$Orders;") (List.mem_of_getElem? (i := 1) rfl)) dX4_permutation_42 ?_
          refine lv_iload_n hx hb dX4_permutation_45 rfl (lv_at hl 1 rfl) ?_
          refine lv_iload_n hx hb dX4_permutation_46 rfl (lv_at hl 2 rfl) ?_
          refine lv_iload_n hx hb dX4_permutation_47 rfl (lv_at hl 3 rfl) ?_
          refine pw_cv S hK hP 3 2 rfl rfl 3 (c_X2_atPlace l D cy Ad n mm C33 hn hF am hA k (by omega) hR.2 b i (by omega)) gX4_permutation_X2_atPlace rfl rfl rfl (by decide +kernel) ⟨Nat.le_of_ble_eq_true rfl, Nat.le_of_ble_eq_true rfl⟩ rfl hl.1 rfl (Nat.le_of_ble_eq_true rfl) dX4_permutation_48 ⟨Nat.le_refl _, Nat.le_refl _⟩ ?_
          refine pw_topi (y := f_perm am (nI k) b (nI i)) (by unfold f_perm; rw [c_7, c_18, ix_k, ix_i, decide_eq_true ⟨Int32.not_lt.mp c_24, c_36⟩]; rfl) ?_
          exact W.iret hx hb hr (fun t ht _ => ⟨⟨_, C33, rfl, ⟨rfl, hX⟩, by rw [ht]; exact hP⟩, hS.F ht⟩) hS.2.2 dX4_permutation_51
        · refine lv_iconst (v := (-1)) hx hb dX4_permutation_39 (by decide) ?_
          refine pw_topi (y := f_perm am (nI k) b (nI i)) (by unfold f_perm; rw [c_7, c_18, ix_k, ix_i]; first | (rw [decide_eq_false (fun q9 => absurd c_24 (Int32.not_lt.mpr q9.1))]; rfl) | (rw [decide_eq_false (fun q9 => absurd q9.2 c_36)]; rfl)) ?_
          exact W.iret hx hb hr (fun t ht _ => ⟨⟨_, C33, rfl, ⟨rfl, hX⟩, by rw [ht]; exact hP⟩, hS.F ht⟩) hS.2.2 dX4_permutation_40
    · refine lv_iconst (v := (-1)) hx hb dX4_permutation_21 (by decide) ?_
      refine pw_topi (y := f_perm am a b d) (by unfold f_perm; first | simp [c_7, c_18] | simp [c_7]) ?_
      exact W.iret hx hb hr (fun t ht _ => ⟨⟨_, C, rfl, ⟨rfl, hX⟩, by rw [ht]; exact hP⟩, hS.F ht⟩) hS.2.2 dX4_permutation_22

set_option maxHeartbeats 4000000 in
set_option maxRecDepth 100000 in
theorem c_X4_place (l : Launch) (D : va_G) (cy : Nat → ClassId) (Ad : Nat → Nat) (n mm : Nat) (C : pw_C) (hI : pw_I Ad (shX n)) (hn : 1 ≤ n ∧ n ≤ 12) (hmm : 1 ≤ mm ∧ mm ≤ 16) (nx : Nat → Nat → Nat) (mx : Nat → Nat → Option Nat) (en : Nat → Bool) (am wt : Nat → Nat) (hX : XI n mm nx mx en am wt Ad C) (a b : Int32) : Met l yX4_place wsX4_place (k2_rm 4 94) (pw_Pre ([.ref (Ad 0), .int a, .int b]) D cy Ad (shX n) C) (pw_Post (fun r9 C' => r9 = some (.int (f_place am a b)) ∧ (XI n mm nx mx en am wt Ad C')) D cy Ad (shX n)) 0 0 (pw_fr Ad (shX n)) := by
  refine Met.ofW (cc := cX4_place) (maxL := 3) (ret := (some .int)) (by decide) rfl ?_
  intro p e s m args below meth c s₁ B hml hv
  obtain ⟨rfl, hP, hK⟩ := hv
  have hx := B.exec
  have hb := B.bytes
  have hr := B.returns
  have hts := atoms_spec (ws := wsX4_place) B.pre
  have hown : s.vm.findClass RX4 = some m.cls := findClass_of_methodNamed B.named
  have hlocks := B.notSynchronized
  have S : CallFix p m c cX4_place 3 s ([.ref (Ad 0), .int a, .int b]).toArray wsX4_place RX4 := ⟨hx, hb, hml, hown, hts⟩
  change W p l e (k2_rm 4 94) s m _ below meth c s.heap [] 0 0 _ _
  have hl := lv_entry ([.ref (Ad 0), .int a, .int b]) (n := 3) (Nat.le_of_ble_eq_true rfl)
  rw [lg_entry_eq]
  generalize (lg_sl ([.ref (Ad 0), .int a, .int b]) ++ List.replicate (3 - (lg_sl ([.ref (Ad 0), .int a, .int b])).length) Slot.unset).toArray = ls at hl ⊢
  have hl : lv_has ls 3 [(0, .ref (Ad 0)), (1, .int a), (2, .int b)] := hl
  have hS : va_S (pw_fr Ad (shX n)) s.heap s.heap [] := va_S.rf
  obtain ⟨hF, hN, hM, hE, hA, hT⟩ := id hX
  refine lv_iload_n hx hb dX4_place_0 rfl (lv_at hl 1 rfl) ?_
  refine lv_iconst (v := nI 1) hx hb dX4_place_1 (by decide) ?_
  refine lv_bipush (v := nI 8) hx hb dX4_place_2 (by decide) ?_
  refine pw_cs S 3 (c_X4_isWithin l a (nI 1) (nI 8)) gX4_place_X4_isWithin rfl rfl rfl (by decide +kernel) ⟨Nat.le_of_ble_eq_true rfl, Nat.le_of_ble_eq_true rfl⟩ rfl hl.1 rfl (Nat.le_of_ble_eq_true rfl) dX4_place_4 ⟨Nat.le_refl _, Nat.le_refl _⟩ ?_
  refine pn_ifne_b (tgt := 12) hx hb dX4_place_7 (by decide) (fun c_7 => ?_) (fun c_7 => ?_)
  · obtain ⟨k, hl_k, hh_k, rfl⟩ := wi_ex (by omega) c_7
    have ix_k : ix (nI k) = k := nI_clamp (by omega)
    refine lv_aload_n hx hb dX4_place_12 rfl (lv_at hl 0 rfl) ?_
    refine pw_get hx hb hts (fun _ h9 => List.mem_cons_of_mem _ (List.mem_append_left _ (List.mem_append_right _ h9))) hown hK hP 0 rfl rfl 3 (by decide) hF.1 rfl (hts (.fieldLink RX4 41 "PastDraws" "orders" "LPastDraws$Orders;") (List.mem_of_getElem? (i := 1) rfl)) dX4_place_13 ?_
    refine lv_iload_n hx hb dX4_place_16 rfl (lv_at hl 1 rfl) ?_
    refine pw_cvW S hK hP 3 2 rfl rfl 1 (c_X2_countAll l D cy Ad n mm C hI hn hF am hA k (by omega)) gX4_place_X2_countAll rfl rfl rfl (by decide +kernel) ⟨Nat.le_of_ble_eq_true rfl, Nat.le_of_ble_eq_true rfl⟩ rfl hl.1 rfl (Nat.le_of_ble_eq_true rfl) dX4_place_17 ⟨Nat.le_refl _, Nat.le_refl _⟩ hS (fun _ h9 => h9) (fun r9 C17 H locs hR hP _ _ hS => ?_)
    obtain ⟨rfl, hR⟩ := hR
    change W p l e _ s m _ below meth c H locs 0 0 _ (F0 m 20 ls [.int (wyF am k 0)])
    have hX := XI_B hn.2 hX hR.1 (fun k h => by have h8 : k = 15 := h; unfold scr; omega)
    obtain ⟨hF, hN, hM, hE, hA, hT⟩ := id hX
    refine lv_pop hx hb dX4_place_20 rfl ?_
    refine lv_aload_n hx hb dX4_place_21 rfl (lv_at hl 0 rfl) ?_
    refine pw_get hx hb hts (fun _ h9 => List.mem_cons_of_mem _ (List.mem_append_left _ (List.mem_append_right _ h9))) hown hK hP 0 rfl rfl 3 (by decide) hF.1 rfl (hts (.fieldLink RX4 41 "PastDraws" "orders" "LPastDraws$Orders;") (List.mem_of_getElem? (i := 1) rfl)) dX4_place_22 ?_
    refine lv_iload_n hx hb dX4_place_25 rfl (lv_at hl 1 rfl) ?_
    refine lv_iload_n hx hb dX4_place_26 rfl (lv_at hl 2 rfl) ?_
    refine pw_cv S hK hP 3 2 rfl rfl 2 (c_X2_numberOf l D cy Ad n mm C17 hn hF am hA k (by omega) hR.2 b) gX4_place_X2_numberOf rfl rfl rfl (by decide +kernel) ⟨Nat.le_of_ble_eq_true rfl, Nat.le_of_ble_eq_true rfl⟩ rfl hl.1 rfl (Nat.le_of_ble_eq_true rfl) dX4_place_27 ⟨Nat.le_refl _, Nat.le_refl _⟩ ?_
    refine pw_topi (y := f_place am (nI k) b) (by unfold f_place; simp [c_7, ix_k]) ?_
    exact W.iret hx hb hr (fun t ht _ => ⟨⟨_, C17, rfl, ⟨rfl, hX⟩, by rw [ht]; exact hP⟩, hS.F ht⟩) hS.2.2 dX4_place_30
  · refine lv_iconst (v := (-1)) hx hb dX4_place_10 (by decide) ?_
    refine pw_topi (y := f_place am a b) (by unfold f_place; simp [c_7]) ?_
    exact W.iret hx hb hr (fun t ht _ => ⟨⟨_, C, rfl, ⟨rfl, hX⟩, by rw [ht]; exact hP⟩, hS.F ht⟩) hS.2.2 dX4_place_11

set_option maxHeartbeats 4000000 in
set_option maxRecDepth 100000 in
theorem c_X4_things (l : Launch) (D : va_G) (cy : Nat → ClassId) (Ad : Nat → Nat) (n mm : Nat) (C : pw_C) (hI : pw_I Ad (shX n)) (hn : 1 ≤ n ∧ n ≤ 12) (hmm : 1 ≤ mm ∧ mm ≤ 16) (nx : Nat → Nat → Nat) (mx : Nat → Nat → Option Nat) (en : Nat → Bool) (am wt : Nat → Nat) (hX : XI n mm nx mx en am wt Ad C) (a : Int32) : Met l yX4_things wsX4_things (k2_rm 2 45) (pw_Pre ([.ref (Ad 0), .int a]) D cy Ad (shX n) C) (pw_Post (fun r9 C' => r9 = some (.int (f_things mm a)) ∧ (XI n (u_things mm a) nx mx en am (w_things wt a) Ad C')) D cy Ad (shX n)) 0 0 (pw_fr Ad (shX n)) := by
  refine Met.ofW (cc := cX4_things) (maxL := 2) (ret := (some .int)) (by decide) rfl ?_
  intro p e s m args below meth c s₁ B hml hv
  obtain ⟨rfl, hP, hK⟩ := hv
  have hx := B.exec
  have hb := B.bytes
  have hr := B.returns
  have hts := atoms_spec (ws := wsX4_things) B.pre
  have hown : s.vm.findClass RX4 = some m.cls := findClass_of_methodNamed B.named
  have hlocks := B.notSynchronized
  have S : CallFix p m c cX4_things 2 s ([.ref (Ad 0), .int a]).toArray wsX4_things RX4 := ⟨hx, hb, hml, hown, hts⟩
  change W p l e (k2_rm 2 45) s m _ below meth c s.heap [] 0 0 _ _
  have hl := lv_entry ([.ref (Ad 0), .int a]) (n := 2) (Nat.le_of_ble_eq_true rfl)
  rw [lg_entry_eq]
  generalize (lg_sl ([.ref (Ad 0), .int a]) ++ List.replicate (2 - (lg_sl ([.ref (Ad 0), .int a])).length) Slot.unset).toArray = ls at hl ⊢
  have hl : lv_has ls 2 [(0, .ref (Ad 0)), (1, .int a)] := hl
  have hS : va_S (pw_fr Ad (shX n)) s.heap s.heap [] := va_S.rf
  obtain ⟨hF, hN, hM, hE, hA, hT⟩ := id hX
  refine lv_iload_n hx hb dX4_things_0 rfl (lv_at hl 1 rfl) ?_
  refine lv_iconst (v := nI 1) hx hb dX4_things_1 (by decide) ?_
  refine lv_bipush (v := nI 16) hx hb dX4_things_2 (by decide) ?_
  refine pw_cs S 3 (c_X4_isWithin l a (nI 1) (nI 16)) gX4_things_X4_isWithin rfl rfl rfl (by decide +kernel) ⟨Nat.le_of_ble_eq_true rfl, Nat.le_of_ble_eq_true rfl⟩ rfl hl.1 rfl (Nat.le_of_ble_eq_true rfl) dX4_things_4 ⟨Nat.le_refl _, Nat.le_refl _⟩ ?_
  refine pn_ifne_b (tgt := 12) hx hb dX4_things_7 (by decide) (fun c_7 => ?_) (fun c_7 => ?_)
  · obtain ⟨k, hl_k, hh_k, rfl⟩ := wi_ex (by omega) c_7
    have ix_k : ix (nI k) = k := nI_clamp (by omega)
    refine lv_aload_n hx hb dX4_things_12 rfl (lv_at hl 0 rfl) ?_
    refine pw_get hx hb hts (fun _ h9 => List.mem_cons_of_mem _ (List.mem_append_left _ (List.mem_append_right _ h9))) hown hK hP 0 rfl rfl 4 (by decide) hF.1 rfl (hts (.fieldLink RX4 48 "PastDraws" "table" "LPastDraws$Table;") (List.mem_of_getElem? (i := 1) rfl)) dX4_things_13 ?_
    refine lv_iload_n hx hb dX4_things_16 rfl (lv_at hl 1 rfl) ?_
    refine pw_cvW S hK hP 4 3 rfl rfl 1 (c_X3_setThings l D cy Ad n mm C hI hn hF k) gX4_things_X3_setThings rfl rfl rfl (by decide +kernel) ⟨Nat.le_of_ble_eq_true rfl, Nat.le_of_ble_eq_true rfl⟩ rfl hl.1 rfl (Nat.le_of_ble_eq_true rfl) dX4_things_17 ⟨Nat.le_refl _, Nat.le_refl _⟩ hS (fun _ h9 => h9) (fun r9 C17 H locs hR hP _ _ hS => ?_)
    obtain ⟨rfl, hR⟩ := hR
    change W p l e _ s m _ below meth c H locs 0 0 _ (F0 m 20 ls [.int (nI mm)])
    have ef : f_things mm (nI k) = nI mm := by unfold f_things; rw [if_pos c_7]
    have eu : u_things mm (nI k) = k := by unfold u_things; rw [if_pos c_7, ix_k]
    have ew : w_things wt (nI k) = fun _ => 1 := by unfold w_things; rw [if_pos c_7]
    rw [ef, eu, ew]
    exact W.iret hx hb hr (fun t ht _ => ⟨⟨_, C17, rfl, ⟨rfl, XI_things hX hR.1 hR.2.1 hR.2.2⟩, by rw [ht]; exact hP⟩, hS.F ht⟩) hS.2.2 dX4_things_20
  · refine lv_iconst (v := (-1)) hx hb dX4_things_10 (by decide) ?_
    have ef : f_things mm a = (-1) := by unfold f_things; rw [c_7]; rfl
    have eu : u_things mm a = mm := by unfold u_things; rw [c_7]; rfl
    have ew : w_things wt a = wt := by unfold w_things; rw [c_7]; rfl
    rw [ef, eu, ew]
    exact W.iret hx hb hr (fun t ht _ => ⟨⟨_, C, rfl, ⟨rfl, hX⟩, by rw [ht]; exact hP⟩, hS.F ht⟩) hS.2.2 dX4_things_11

set_option maxHeartbeats 4000000 in
set_option maxRecDepth 100000 in
theorem c_X4_weight (l : Launch) (D : va_G) (cy : Nat → ClassId) (Ad : Nat → Nat) (n mm : Nat) (C : pw_C) (hI : pw_I Ad (shX n)) (hn : 1 ≤ n ∧ n ≤ 12) (hmm : 1 ≤ mm ∧ mm ≤ 16) (nx : Nat → Nat → Nat) (mx : Nat → Nat → Option Nat) (en : Nat → Bool) (am wt : Nat → Nat) (hX : XI n mm nx mx en am wt Ad C) (a b : Int32) : Met l yX4_weight wsX4_weight (k2_rm 1 23) (pw_Pre ([.ref (Ad 0), .int a, .int b]) D cy Ad (shX n) C) (pw_Post (fun r9 C' => r9 = some (.int (f_weight mm wt a b)) ∧ (XI n mm nx mx en am (u_weight mm wt a b) Ad C')) D cy Ad (shX n)) 0 0 (pw_fr Ad (shX n)) := by
  refine Met.ofW (cc := cX4_weight) (maxL := 3) (ret := (some .int)) (by decide) rfl ?_
  intro p e s m args below meth c s₁ B hml hv
  obtain ⟨rfl, hP, hK⟩ := hv
  have hx := B.exec
  have hb := B.bytes
  have hr := B.returns
  have hts := atoms_spec (ws := wsX4_weight) B.pre
  have hown : s.vm.findClass RX4 = some m.cls := findClass_of_methodNamed B.named
  have hlocks := B.notSynchronized
  have S : CallFix p m c cX4_weight 3 s ([.ref (Ad 0), .int a, .int b]).toArray wsX4_weight RX4 := ⟨hx, hb, hml, hown, hts⟩
  change W p l e (k2_rm 1 23) s m _ below meth c s.heap [] 0 0 _ _
  have hl := lv_entry ([.ref (Ad 0), .int a, .int b]) (n := 3) (Nat.le_of_ble_eq_true rfl)
  rw [lg_entry_eq]
  generalize (lg_sl ([.ref (Ad 0), .int a, .int b]) ++ List.replicate (3 - (lg_sl ([.ref (Ad 0), .int a, .int b])).length) Slot.unset).toArray = ls at hl ⊢
  have hl : lv_has ls 3 [(0, .ref (Ad 0)), (1, .int a), (2, .int b)] := hl
  have hS : va_S (pw_fr Ad (shX n)) s.heap s.heap [] := va_S.rf
  obtain ⟨hF, hN, hM, hE, hA, hT⟩ := id hX
  refine lv_aload_n hx hb dX4_weight_0 rfl (lv_at hl 0 rfl) ?_
  refine pw_get hx hb hts (fun _ h9 => List.mem_cons_of_mem _ (List.mem_append_left _ (List.mem_append_right _ h9))) hown hK hP 0 rfl rfl 4 (by decide) hF.1 rfl (hts (.fieldLink RX4 48 "PastDraws" "table" "LPastDraws$Table;") (List.mem_of_getElem? (i := 1) rfl)) dX4_weight_1 ?_
  refine lv_iload_n hx hb dX4_weight_4 rfl (lv_at hl 1 rfl) ?_
  refine pw_cv S hK hP 4 3 rfl rfl 1 (c_X3_isThing l D cy Ad n mm C hn hF a hmm) gX4_weight_X3_isThing rfl rfl rfl (by decide +kernel) ⟨Nat.le_of_ble_eq_true rfl, Nat.le_of_ble_eq_true rfl⟩ rfl hl.1 rfl (Nat.le_of_ble_eq_true rfl) dX4_weight_5 ⟨Nat.le_refl _, Nat.le_refl _⟩ ?_
  refine pn_ifeq_b (tgt := 22) hx hb dX4_weight_8 (by decide) (fun c_8 => ?_) (fun c_8 => ?_)
  · refine lv_iconst (v := (-1)) hx hb dX4_weight_22 (by decide) ?_
    have e9 : (wi a (nI 0) (nI (mm - 1)) && wi b (nI 0) (nI 1000)) = false := by first | (rw [c_8]; rfl) | (rw [c_8, c_19]; rfl)
    have ef : f_weight mm wt a b = (-1) := by unfold f_weight; rw [e9]; rfl
    have eu : u_weight mm wt a b = wt := by unfold u_weight; rw [e9]; rfl
    rw [ef, eu]
    exact W.iret hx hb hr (fun t ht _ => ⟨⟨_, C, rfl, ⟨rfl, hX⟩, by rw [ht]; exact hP⟩, hS.F ht⟩) hS.2.2 dX4_weight_23
  · refine lv_iload_n hx hb dX4_weight_11 rfl (lv_at hl 2 rfl) ?_
    refine lv_iconst (v := nI 0) hx hb dX4_weight_12 (by decide) ?_
    refine lv_sipush (v := nI 1000) hx hb dX4_weight_13 (by decide) ?_
    refine pw_cs S 3 (c_X4_isWithin l b (nI 0) (nI 1000)) gX4_weight_X4_isWithin rfl rfl rfl (by decide +kernel) ⟨Nat.le_of_ble_eq_true rfl, Nat.le_of_ble_eq_true rfl⟩ rfl hl.1 rfl (Nat.le_of_ble_eq_true rfl) dX4_weight_16 ⟨Nat.le_refl _, Nat.le_refl _⟩ ?_
    refine pn_ifne_b (tgt := 24) hx hb dX4_weight_19 (by decide) (fun c_19 => ?_) (fun c_19 => ?_)
    · obtain ⟨i, hl_i, hh_i, rfl⟩ := wi_ex (by omega) c_8
      obtain ⟨w, hl_w, hh_w, rfl⟩ := wi_ex (by omega) c_19
      have ix_i : ix (nI i) = i := nI_clamp (by omega)
      have ix_w : ix (nI w) = w := nI_clamp (by omega)
      refine lv_aload_n hx hb dX4_weight_24 rfl (lv_at hl 0 rfl) ?_
      refine pw_get hx hb hts (fun _ h9 => List.mem_cons_of_mem _ (List.mem_append_left _ (List.mem_append_right _ h9))) hown hK hP 0 rfl rfl 4 (by decide) hF.1 rfl (hts (.fieldLink RX4 48 "PastDraws" "table" "LPastDraws$Table;") (List.mem_of_getElem? (i := 1) rfl)) dX4_weight_25 ?_
      refine lv_iload_n hx hb dX4_weight_28 rfl (lv_at hl 1 rfl) ?_
      refine lv_iload_n hx hb dX4_weight_29 rfl (lv_at hl 2 rfl) ?_
      refine pw_cvW S hK hP 4 3 rfl rfl 2 (c_X3_setWeight l D cy Ad n mm C hI hn hF wt hT i (nI w) (by omega)) gX4_weight_X3_setWeight rfl rfl rfl (by decide +kernel) ⟨Nat.le_of_ble_eq_true rfl, Nat.le_of_ble_eq_true rfl⟩ rfl hl.1 rfl (Nat.le_of_ble_eq_true rfl) dX4_weight_30 ⟨Nat.le_refl _, Nat.le_refl _⟩ hS (fun _ h9 => h9) (fun r9 C30 H locs hR hP _ _ hS => ?_)
      obtain ⟨rfl, hR⟩ := hR
      change W p l e _ s m _ below meth c H locs 0 0 _ (F0 m 33 ls [.int (nI (wt i))])
      have e9 : (wi (nI i) (nI 0) (nI (mm - 1)) && wi (nI w) (nI 0) (nI 1000)) = true := by rw [c_8, c_19]; rfl
      have ef : f_weight mm wt (nI i) (nI w) = nI (wt i) := by unfold f_weight; rw [if_pos e9, ix_i]
      have eu : u_weight mm wt (nI i) (nI w) = fun i9 => if i9 = i then w else wt i9 := by unfold u_weight; rw [if_pos e9, ix_i, ix_w]
      rw [ef, eu]
      exact W.iret hx hb hr (fun t ht _ => ⟨⟨_, C30, rfl, ⟨rfl, by rw [hR]; exact XI_weight (by omega) hX⟩, by rw [ht]; exact hP⟩, hS.F ht⟩) hS.2.2 dX4_weight_33
    · refine lv_iconst (v := (-1)) hx hb dX4_weight_22 (by decide) ?_
      have e9 : (wi a (nI 0) (nI (mm - 1)) && wi b (nI 0) (nI 1000)) = false := by first | (rw [c_8]; rfl) | (rw [c_8, c_19]; rfl)
      have ef : f_weight mm wt a b = (-1) := by unfold f_weight; rw [e9]; rfl
      have eu : u_weight mm wt a b = wt := by unfold u_weight; rw [e9]; rfl
      rw [ef, eu]
      exact W.iret hx hb hr (fun t ht _ => ⟨⟨_, C, rfl, ⟨rfl, hX⟩, by rw [ht]; exact hP⟩, hS.F ht⟩) hS.2.2 dX4_weight_23

set_option maxHeartbeats 4000000 in
set_option maxRecDepth 100000 in
theorem c_X4_cell (l : Launch) (D : va_G) (cy : Nat → ClassId) (Ad : Nat → Nat) (n mm : Nat) (C : pw_C) (hI : pw_I Ad (shX n)) (hn : 1 ≤ n ∧ n ≤ 12) (hmm : 1 ≤ mm ∧ mm ≤ 16) (nx : Nat → Nat → Nat) (mx : Nat → Nat → Option Nat) (en : Nat → Bool) (am wt : Nat → Nat) (hX : XI n mm nx mx en am wt Ad C) (a b : Int32) : Met l yX4_cell wsX4_cell (k2_rm 2 46) (pw_Pre ([.ref (Ad 0), .int a, .int b]) D cy Ad (shX n) C) (pw_Post (fun r9 C' => r9 = some (.int (f_cell mm wt a b)) ∧ (XI n mm nx mx en am wt Ad C')) D cy Ad (shX n)) 0 0 (pw_fr Ad (shX n)) := by
  refine Met.ofW (cc := cX4_cell) (maxL := 4) (ret := (some .int)) (by decide) rfl ?_
  intro p e s m args below meth c s₁ B hml hv
  obtain ⟨rfl, hP, hK⟩ := hv
  have hx := B.exec
  have hb := B.bytes
  have hr := B.returns
  have hts := atoms_spec (ws := wsX4_cell) B.pre
  have hown : s.vm.findClass RX4 = some m.cls := findClass_of_methodNamed B.named
  have hlocks := B.notSynchronized
  have S : CallFix p m c cX4_cell 4 s ([.ref (Ad 0), .int a, .int b]).toArray wsX4_cell RX4 := ⟨hx, hb, hml, hown, hts⟩
  change W p l e (k2_rm 2 46) s m _ below meth c s.heap [] 0 0 _ _
  have hl := lv_entry ([.ref (Ad 0), .int a, .int b]) (n := 4) (Nat.le_of_ble_eq_true rfl)
  rw [lg_entry_eq]
  generalize (lg_sl ([.ref (Ad 0), .int a, .int b]) ++ List.replicate (4 - (lg_sl ([.ref (Ad 0), .int a, .int b])).length) Slot.unset).toArray = ls at hl ⊢
  have hl : lv_has ls 4 [(0, .ref (Ad 0)), (1, .int a), (2, .int b)] := hl
  have hS : va_S (pw_fr Ad (shX n)) s.heap s.heap [] := va_S.rf
  obtain ⟨hF, hN, hM, hE, hA, hT⟩ := id hX
  refine lv_aload_n hx hb dX4_cell_0 rfl (lv_at hl 0 rfl) ?_
  refine pw_get hx hb hts (fun _ h9 => List.mem_cons_of_mem _ (List.mem_append_left _ (List.mem_append_right _ h9))) hown hK hP 0 rfl rfl 4 (by decide) hF.1 rfl (hts (.fieldLink RX4 48 "PastDraws" "table" "LPastDraws$Table;") (List.mem_of_getElem? (i := 1) rfl)) dX4_cell_1 ?_
  refine lv_iload_n hx hb dX4_cell_4 rfl (lv_at hl 1 rfl) ?_
  refine pw_cv S hK hP 4 3 rfl rfl 1 (c_X3_isThing l D cy Ad n mm C hn hF a hmm) gX4_cell_X3_isThing rfl rfl rfl (by decide +kernel) ⟨Nat.le_of_ble_eq_true rfl, Nat.le_of_ble_eq_true rfl⟩ rfl hl.1 rfl (Nat.le_of_ble_eq_true rfl) dX4_cell_5 ⟨Nat.le_refl _, Nat.le_refl _⟩ ?_
  refine pn_ifeq_b (tgt := 20) hx hb dX4_cell_8 (by decide) (fun c_8 => ?_) (fun c_8 => ?_)
  · refine lv_iconst (v := (-1)) hx hb dX4_cell_20 (by decide) ?_
    refine pw_topi (y := f_cell mm wt a b) (by unfold f_cell; first | simp [c_8, c_17] | simp [c_8]) ?_
    exact W.iret hx hb hr (fun t ht _ => ⟨⟨_, C, rfl, ⟨rfl, hX⟩, by rw [ht]; exact hP⟩, hS.F ht⟩) hS.2.2 dX4_cell_21
  · refine lv_iload_n hx hb dX4_cell_11 rfl (lv_at hl 2 rfl) ?_
    refine lv_iconst (v := nI 0) hx hb dX4_cell_12 (by decide) ?_
    refine lv_iconst (v := nI 2) hx hb dX4_cell_13 (by decide) ?_
    refine pw_cs S 3 (c_X4_isWithin l b (nI 0) (nI 2)) gX4_cell_X4_isWithin rfl rfl rfl (by decide +kernel) ⟨Nat.le_of_ble_eq_true rfl, Nat.le_of_ble_eq_true rfl⟩ rfl hl.1 rfl (Nat.le_of_ble_eq_true rfl) dX4_cell_14 ⟨Nat.le_refl _, Nat.le_refl _⟩ ?_
    refine pn_ifne_b (tgt := 22) hx hb dX4_cell_17 (by decide) (fun c_17 => ?_) (fun c_17 => ?_)
    · obtain ⟨i, hl_i, hh_i, rfl⟩ := wi_ex (by omega) c_8
      obtain ⟨w, hl_w, hh_w, rfl⟩ := wi_ex (by omega) c_17
      have ix_i : ix (nI i) = i := nI_clamp (by omega)
      have ix_w : ix (nI w) = w := nI_clamp (by omega)
      have hsm := smF_le (fun j hj => (hT j (by omega)).1) mm (Nat.le_refl _)
      refine lv_aload_n hx hb dX4_cell_22 rfl (lv_at hl 0 rfl) ?_
      refine pw_get hx hb hts (fun _ h9 => List.mem_cons_of_mem _ (List.mem_append_left _ (List.mem_append_right _ h9))) hown hK hP 0 rfl rfl 4 (by decide) hF.1 rfl (hts (.fieldLink RX4 48 "PastDraws" "table" "LPastDraws$Table;") (List.mem_of_getElem? (i := 1) rfl)) dX4_cell_23 ?_
      refine pw_cv S hK hP 4 3 rfl rfl 0 (c_X3_sum l D cy Ad n mm C hn hF wt hT hmm) gX4_cell_X3_sum rfl rfl rfl (by decide +kernel) ⟨Nat.le_of_ble_eq_true rfl, Nat.le_of_ble_eq_true rfl⟩ rfl hl.1 rfl (Nat.le_of_ble_eq_true rfl) dX4_cell_26 ⟨Nat.le_refl _, Nat.le_refl _⟩ ?_
      refine lv_istore_n (lv' := [(3, .int (nI (smF wt mm))), (0, .ref (Ad 0)), (1, .int (nI i)), (2, .int (nI w))]) hx hb dX4_cell_29 rfl hl (by decide) rfl (fun ls hl => ?_)
      refine lv_iload_n hx hb dX4_cell_30 rfl (lv_at hl 0 rfl) ?_
      refine pn_ifne_n (tgt := 37) hx hb (by omega) dX4_cell_31 (by decide) (fun c_31 => ?_) (fun c_31 => ?_)
      · refine lv_iload_n hx hb dX4_cell_37 rfl (lv_at hl 3 rfl) ?_
        refine lv_iconst (v := nI 2) hx hb dX4_cell_38 (by decide) ?_
        refine pn_icmp_ne (tgt := 44) hx hb (by omega) (by omega) dX4_cell_39 (by decide) (fun c_39 => ?_) (fun c_39 => ?_)
        · refine lv_aload_n hx hb dX4_cell_44 rfl (lv_at hl 1 rfl) ?_
          refine pw_get hx hb hts (fun _ h9 => List.mem_cons_of_mem _ (List.mem_append_left _ (List.mem_append_right _ h9))) hown hK hP 0 rfl rfl 4 (by decide) hF.1 rfl (hts (.fieldLink RX4 48 "PastDraws" "table" "LPastDraws$Table;") (List.mem_of_getElem? (i := 1) rfl)) dX4_cell_45 ?_
          refine lv_iload_n hx hb dX4_cell_48 rfl (lv_at hl 0 rfl) ?_
          refine pw_cvW S hK hP 4 3 rfl rfl 1 (c_X3_make l D cy Ad n mm C hI hn hF wt hT hmm (smF wt mm)) gX4_cell_X3_make rfl rfl rfl (by decide +kernel) ⟨Nat.le_of_ble_eq_true rfl, Nat.le_of_ble_eq_true rfl⟩ rfl hl.1 rfl (Nat.le_of_ble_eq_true rfl) dX4_cell_49 ⟨Nat.le_refl _, Nat.le_refl _⟩ hS (fun _ h9 => h9) (fun r9 C49 H locs hR hP _ _ hS => ?_)
          obtain ⟨rfl, hR⟩ := hR
          change W p l e _ s m _ below meth c H locs 0 0 _ (F0 m 52 ls [])
          have hX := XI_B hn.2 hX hR.1 (fun k h => by have h8 : 17 ≤ k ∧ k ≤ 20 := h; unfold scr; omega)
          obtain ⟨hF, hN, hM, hE, hA, hT⟩ := id hX
          refine lv_iload_n hx hb dX4_cell_52 rfl (lv_at hl 3 rfl) ?_
          refine pn_ifne_n (tgt := 67) hx hb (by omega) dX4_cell_53 (by decide) (fun c_53 => ?_) (fun c_53 => ?_)
          · refine lv_aload_n hx hb dX4_cell_67 rfl (lv_at hl 1 rfl) ?_
            refine pw_get hx hb hts (fun _ h9 => List.mem_cons_of_mem _ (List.mem_append_left _ (List.mem_append_right _ h9))) hown hK hP 0 rfl rfl 4 (by decide) hF.1 rfl (hts (.fieldLink RX4 48 "PastDraws" "table" "LPastDraws$Table;") (List.mem_of_getElem? (i := 1) rfl)) dX4_cell_68 ?_
            refine lv_iload_n hx hb dX4_cell_71 rfl (lv_at hl 2 rfl) ?_
            refine pw_cv S hK hP 4 3 rfl rfl 1 (c_X3_otherOf l D cy Ad n mm C49 hn hF (tmK wt mm (smF wt mm)) hR.2 hmm i (by omega)) gX4_cell_X3_otherOf rfl rfl rfl (by decide +kernel) ⟨Nat.le_of_ble_eq_true rfl, Nat.le_of_ble_eq_true rfl⟩ rfl hl.1 rfl (Nat.le_of_ble_eq_true rfl) dX4_cell_72 ⟨Nat.le_refl _, Nat.le_refl _⟩ ?_
            refine pw_topi (y := f_cell mm wt (nI i) (nI w)) (by unfold f_cell; rw [if_pos (by rw [c_8, c_17]; rfl), ix_i, ix_w, if_neg c_31, if_neg c_39, if_neg c_53]) ?_
            exact W.iret hx hb hr (fun t ht _ => ⟨⟨_, C49, rfl, ⟨rfl, hX⟩, by rw [ht]; exact hP⟩, hS.F ht⟩) hS.2.2 dX4_cell_75
          · refine lv_aload_n hx hb dX4_cell_56 rfl (lv_at hl 1 rfl) ?_
            refine pw_get hx hb hts (fun _ h9 => List.mem_cons_of_mem _ (List.mem_append_left _ (List.mem_append_right _ h9))) hown hK hP 0 rfl rfl 4 (by decide) hF.1 rfl (hts (.fieldLink RX4 48 "PastDraws" "table" "LPastDraws$Table;") (List.mem_of_getElem? (i := 1) rfl)) dX4_cell_57 ?_
            refine lv_iload_n hx hb dX4_cell_60 rfl (lv_at hl 2 rfl) ?_
            refine pw_cv S hK hP 4 3 rfl rfl 1 (c_X3_limitOf l D cy Ad n mm C49 hn hF (tmK wt mm (smF wt mm)) hR.2 hmm i (by omega)) gX4_cell_X3_limitOf rfl rfl rfl (by decide +kernel) ⟨Nat.le_of_ble_eq_true rfl, Nat.le_of_ble_eq_true rfl⟩ rfl hl.1 rfl (Nat.le_of_ble_eq_true rfl) dX4_cell_61 ⟨Nat.le_refl _, Nat.le_refl _⟩ ?_
            refine lv_goto (tgt := 75) hx hb dX4_cell_64 (by decide) ?_
            refine pw_topi (y := f_cell mm wt (nI i) (nI w)) (by unfold f_cell; rw [if_pos (by rw [c_8, c_17]; rfl), ix_i, ix_w, if_neg c_31, if_neg c_39, if_pos c_53]) ?_
            exact W.iret hx hb hr (fun t ht _ => ⟨⟨_, C49, rfl, ⟨rfl, hX⟩, by rw [ht]; exact hP⟩, hS.F ht⟩) hS.2.2 dX4_cell_75
        · refine lv_iload_n hx hb dX4_cell_42 rfl (lv_at hl 0 rfl) ?_
          refine pw_topi (y := f_cell mm wt (nI i) (nI w)) (by unfold f_cell; rw [if_pos (by rw [c_8, c_17]; rfl), ix_i, ix_w, if_neg c_31, if_pos c_39]) ?_
          exact W.iret hx hb hr (fun t ht _ => ⟨⟨_, C, rfl, ⟨rfl, hX⟩, by rw [ht]; exact hP⟩, hS.F ht⟩) hS.2.2 dX4_cell_43
      · refine lv_bipush (v := (-2)) hx hb dX4_cell_34 (by decide) ?_
        refine pw_topi (y := f_cell mm wt (nI i) (nI w)) (by unfold f_cell; rw [if_pos (by rw [c_8, c_17]; rfl), ix_i, ix_w, if_pos c_31]) ?_
        exact W.iret hx hb hr (fun t ht _ => ⟨⟨_, C, rfl, ⟨rfl, hX⟩, by rw [ht]; exact hP⟩, hS.F ht⟩) hS.2.2 dX4_cell_36
    · refine lv_iconst (v := (-1)) hx hb dX4_cell_20 (by decide) ?_
      refine pw_topi (y := f_cell mm wt a b) (by unfold f_cell; first | simp [c_8, c_17] | simp [c_8]) ?_
      exact W.iret hx hb hr (fun t ht _ => ⟨⟨_, C, rfl, ⟨rfl, hX⟩, by rw [ht]; exact hP⟩, hS.F ht⟩) hS.2.2 dX4_cell_21
