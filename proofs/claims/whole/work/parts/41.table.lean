theorem mT_B {mm : Nat} {wt : Nat → Nat} {ks : Nat → Prop} {C C' : pw_C} (h : mT mm wt C) (hB : pw_B ks C C') (hk : ¬ ks 5) : mT mm wt C' := fun q hq => by
  rw [(hB.1 _ hk).1]; exact h q hq
def TI (mm Z : Nat) (T : tbT) : Prop := (∀ i, i < mm → 0 ≤ (T.1 i).toInt ∧ (T.1 i).toInt ≤ 16000) ∧ sJ (fun i => if T.2.2.2 i = true then 0 else (T.1 i).toInt - (Z : Int)) 0 mm = 0
def un (md : Nat → Bool) : Nat → Nat
  | 0 => 0
  | i + 1 => un md i + (if md i = true then 0 else 1)
theorem un_le (md : Nat → Bool) : ∀ k, un md k ≤ k := by
  intro k
  induction k with
  | zero => exact Nat.le_refl _
  | succ k ih => show un md k + _ ≤ _; split <;> omega
theorem un_set {md : Nat → Bool} {lo : Nat} (hl : md lo = false) : ∀ k, un (fun i => if i = lo then true else md i) k + (if lo < k then 1 else 0) = un md k := by
  intro k
  induction k with
  | zero => rfl
  | succ k ih =>
    show un (fun i => if i = lo then true else md i) k + (if (if k = lo then true else md k) = true then 0 else 1) + _ = un md k + (if md k = true then 0 else 1)
    by_cases q : k = lo
    · subst q
      rw [if_neg (Nat.lt_irrefl _)] at ih
      rw [if_pos rfl, if_pos rfl, if_pos (Nat.lt_succ_self _), hl, if_neg (by decide)]
      omega
    · rw [if_neg q]
      by_cases q2 : lo < k
      · rw [if_pos q2] at ih; rw [if_pos (show lo < k + 1 by omega)]; omega
      · rw [if_neg q2] at ih; rw [if_neg (show ¬ lo < k + 1 by omega)]; omega
theorem tmu_sp {mm Z lo : Nat} {T : tbT} (hZ : Z < 2 ^ 31) (h : tmu mm Z T = some lo) : lo < mm ∧ T.2.2.2 lo = false ∧ (T.1 lo).toInt < Z := by
  obtain ⟨-, h2, h3, -⟩ := fstT_spec _ _ _ h
  have h3 : (!T.2.2.2 lo && decide (T.1 lo < nI Z)) = true := h3
  rw [Bool.and_eq_true, decide_eq_true_iff, Int32.lt_iff_toInt_lt, nI_toInt hZ] at h3
  exact ⟨by omega, by simpa using h3.1, h3.2⟩
theorem tmo_sp {mm Z hi : Nat} {T : tbT} (hZ : Z < 2 ^ 31) (h : tmo mm Z T = some hi) : hi < mm ∧ T.2.2.2 hi = false ∧ (Z : Int) < (T.1 hi).toInt := by
  obtain ⟨-, h2, h3, -⟩ := fstT_spec _ _ _ h
  have h3 : (!T.2.2.2 hi && decide (nI Z < T.1 hi)) = true := h3
  rw [Bool.and_eq_true, decide_eq_true_iff, Int32.lt_iff_toInt_lt, nI_toInt hZ] at h3
  exact ⟨by omega, by simpa using h3.1, h3.2⟩
theorem TI_hi {mm Z lo : Nat} {T : tbT} (hZ : Z < 2 ^ 31) (h : TI mm Z T) (hlo : tmu mm Z T = some lo) : ∃ hi, tmo mm Z T = some hi := by
  obtain ⟨g1, g2, g3⟩ := tmu_sp hZ hlo
  cases hf : tmo mm Z T with
  | some hi => exact ⟨hi, rfl⟩
  | none =>
    exfalso
    have hn := fstT_none _ _ hf
    have hd := sJ_dia (f := fun i => if T.2.2.2 i = true then 0 else (T.1 i).toInt - (Z : Int)) (a := 0) (c := mm) (i := lo) (by omega) (fun t _ h2 _ => by
      show (if T.2.2.2 t = true then 0 else (T.1 t).toInt - (Z : Int)) ≤ 0
      cases hb : T.2.2.2 t with
      | true => rw [if_pos rfl]; omega
      | false =>
        have h9 := hn t (by omega) (by omega)
        have h9 : (!T.2.2.2 t && decide (nI Z < T.1 t)) = false := h9
        rw [hb, Bool.not_false, Bool.true_and, decide_eq_false_iff_not, Int32.lt_iff_toInt_lt, nI_toInt hZ] at h9
        rw [if_neg (by decide)]
        omega)
    have hd : sJ (fun i => if T.2.2.2 i = true then 0 else (T.1 i).toInt - (Z : Int)) 0 mm ≤ if T.2.2.2 lo = true then 0 else (T.1 lo).toInt - (Z : Int) := hd
    rw [h.2, g2, if_neg (by decide)] at hd
    omega
theorem TI_step {mm Z lo hi : Nat} {T : tbT} (hZ : Z ≤ 16000) (h : TI mm Z T) (hlo : tmu mm Z T = some lo) (hhi : tmo mm Z T = some hi) : TI mm Z (tm1 Z T lo hi) := by
  obtain ⟨g1, g2, g3⟩ := tmu_sp (by omega) hlo
  obtain ⟨k1, k2, k3⟩ := tmo_sp (by omega) hhi
  have b1 := h.1 lo g1
  have b2 := h.1 hi k1
  have hz : (nI Z).toInt = (Z : Int) := nI_toInt (by omega)
  have e1 : (nI Z - T.1 lo).toInt = (Z : Int) - (T.1 lo).toInt := by rw [s32 (by omega) (by omega), hz]
  have e2 : (T.1 hi - (nI Z - T.1 lo)).toInt = (T.1 hi).toInt - ((Z : Int) - (T.1 lo).toInt) := by rw [s32 (by omega) (by omega), e1]
  refine ⟨fun i hi9 => ?_, ?_⟩
  · show 0 ≤ (if i = hi then T.1 hi - (nI Z - T.1 lo) else T.1 i).toInt ∧ (if i = hi then T.1 hi - (nI Z - T.1 lo) else T.1 i).toInt ≤ 16000
    by_cases q : i = hi
    · rw [if_pos q, e2]; omega
    · rw [if_neg q]; exact h.1 i hi9
  · have e3 : sJ (fun i => if (tm1 Z T lo hi).2.2.2 i = true then 0 else ((tm1 Z T lo hi).1 i).toInt - (Z : Int)) 0 mm = sJ (fun i => ((if T.2.2.2 i = true then 0 else (T.1 i).toInt - (Z : Int)) + (if i = lo then (Z : Int) - (T.1 lo).toInt else 0)) + (if i = hi then (T.1 lo).toInt - (Z : Int) else 0)) 0 mm := sJ_congr (fun i _ _ => by
      show (if (if i = lo then true else T.2.2.2 i) = true then 0 else (if i = hi then T.1 hi - (nI Z - T.1 lo) else T.1 i).toInt - (Z : Int)) = _
      by_cases q : i = lo
      · subst q
        rw [if_pos rfl, if_pos rfl, g2, if_neg (by decide), if_pos rfl, if_neg (show ¬ i = hi by intro z; subst z; omega)]
        omega
      · rw [if_neg q, if_neg q]
        by_cases q2 : i = hi
        · subst q2
          rw [if_pos rfl, if_pos rfl, k2, if_neg (by decide), if_neg (by decide), e2]
          omega
        · rw [if_neg q2, if_neg q2]; omega)
    rw [e3, sJ_add, sJ_add, sJ_one, sJ_one, if_pos (by omega), if_pos (by omega), h.2]
    omega
theorem TI_0 {wt : Nat → Nat} {mm : Nat} (hmm : mm ≤ 16) (hw : ∀ i, i < mm → wt i ≤ 1000) : TI mm (smF wt mm) (tm0 wt mm (smF wt mm)) := by
  have hs := smF_le hw mm (Nat.le_refl _)
  have hp : ∀ i, i < mm → mm * wt i ≤ 16000 := fun i hi => Nat.mul_le_mul hmm (hw i hi)
  refine ⟨fun i hi => ?_, ?_⟩
  · show 0 ≤ (nI (mm * wt i)).toInt ∧ (nI (mm * wt i)).toInt ≤ 16000
    have := hp i hi
    rw [nI_toInt (by omega)]
    omega
  · have h : ∀ k, k ≤ mm → sJ (fun i => if (tm0 wt mm (smF wt mm)).2.2.2 i = true then 0 else ((tm0 wt mm (smF wt mm)).1 i).toInt - ((smF wt mm : Nat) : Int)) 0 k = ((mm * smF wt k : Nat) : Int) - ((k * smF wt mm : Nat) : Int) := by
      intro k
      induction k with
      | zero => intro _; show (0 : Int) = ((mm * 0 : Nat) : Int) - ((0 * smF wt mm : Nat) : Int); rw [Nat.mul_zero, Nat.zero_mul]; rfl
      | succ k ih =>
        intro hk
        show sJ _ 0 k + (if false = true then 0 else (nI (mm * wt (0 + k))).toInt - ((smF wt mm : Nat) : Int)) = ((mm * (smF wt k + wt k) : Nat) : Int) - _
        have := hp k (by omega)
        rw [ih (by omega), Nat.zero_add, if_neg (by decide), nI_toInt (by omega), Nat.mul_add, Nat.succ_mul]
        omega
    rw [h mm (Nat.le_refl _)]
    omega
theorem tm_none {mm Z : Nat} {T : tbT} (h : tmu mm Z T = none) : ∀ f, tmF mm Z f T = T := by
  intro f
  cases f with
  | zero => rfl
  | succ f => show (match tmu mm Z T, tmo mm Z T with | some lo, some hi => tmF mm Z f (tm1 Z T lo hi) | _, _ => T) = T; rw [h]
theorem tm_some {mm Z f lo hi : Nat} {T : tbT} (h : tmu mm Z T = some lo) (h2 : tmo mm Z T = some hi) : tmF mm Z (f + 1) T = tmF mm Z f (tm1 Z T lo hi) := by
  show (match tmu mm Z T, tmo mm Z T with | some lo, some hi => tmF mm Z f (tm1 Z T lo hi) | _, _ => T) = _
  rw [h, h2]
def tmB (T : tbT) (lo : Nat) : tbT := (T.1, T.2.1, T.2.2.1, fun i => if i = lo then true else T.2.2.2 i)
theorem fst_congr {P Q : Nat → Bool} : ∀ f t, (∀ y, t ≤ y → y < t + f → P y = Q y) → fstT P f t = fstT Q f t := by
  intro f
  induction f with
  | zero => intro t _; rfl
  | succ f ih =>
    intro t h
    show (if P t = true then some t else fstT P f (t + 1)) = (if Q t = true then some t else fstT Q f (t + 1))
    rw [h t (by omega) (by omega), ih (t + 1) (fun y h1 h2 => h y (by omega) (by omega))]
theorem tmo_B {mm Z lo : Nat} {T : tbT} (hZ : Z < 2 ^ 31) (h : tmu mm Z T = some lo) : tmo mm Z (tmB T lo) = tmo mm Z T := by
  obtain ⟨g1, g2, g3⟩ := tmu_sp hZ h
  refine fst_congr _ _ (fun y _ _ => ?_)
  show (!(if y = lo then true else T.2.2.2 y) && decide (nI Z < T.1 y)) = (!T.2.2.2 y && decide (nI Z < T.1 y))
  by_cases q : y = lo
  · subst q
    have h0 : decide (nI Z < T.1 y) = false := decide_eq_false (by rw [Int32.lt_iff_toInt_lt, nI_toInt hZ]; omega)
    rw [h0, Bool.and_false, Bool.and_false]
  · rw [if_neg q]
def gTm (mm : Nat) (T : tbT) (C : pw_C) : Prop := ∀ i, i < mm → C.1 15 i = T.1 i ∧ C.1 13 i = T.2.1 i ∧ C.1 14 i = T.2.2.1 i ∧ C.1 16 i = pb (T.2.2.2 i)
theorem MI_weight {n mm : Nat} {nx : Nat → Nat → Nat} {mx : Nat → Nat → Option Nat} {en : Nat → Bool} {am wt Ad : Nat → Nat} {C : pw_C} {i w : Nat} (hw : w ≤ 1000) (h : MI n mm nx mx en am wt Ad C) : MI n mm nx mx en am (fun i9 => if i9 = i then w else wt i9) Ad (pw_setI C 5 i (nI w)) := by
  obtain ⟨h1, h2, h3, h4, h5, h6⟩ := h
  refine ⟨h1, fun u9 hu9 x9 hx9 => ?_, fun x9 hx9 c9 hc9 => ?_, fun x9 hx9 => ?_, fun p9 hp9 => ?_, fun i9 hi9 => ?_⟩
  · rw [si_ne (by omega)]; exact h2 u9 hu9 x9 hx9
  · rw [si_ne (by omega)]; exact h3 x9 hx9 c9 hc9
  · rw [si_ne (by omega)]; exact h4 x9 hx9
  · rw [si_ne (by omega)]; exact h5 p9 hp9
  · rw [si_at]
    show (if i9 = i then w else wt i9) ≤ 1000 ∧ _ = nI (if i9 = i then w else wt i9)
    by_cases q : i9 = i
    · rw [if_pos q, if_pos q]; exact ⟨hw, rfl⟩
    · rw [if_neg q, if_neg q]; exact h6 i9 hi9
theorem MI_things {n mm m9 : Nat} {nx : Nat → Nat → Nat} {mx : Nat → Nat → Option Nat} {en : Nat → Bool} {am wt Ad : Nat → Nat} {C C' : pw_C} {pk : Int64} {tr : Int32} (h : MI n mm nx mx en am wt Ad C) (hF : fM n m9 pk tr Ad C') (hk : ∀ k, ¬ k = 5 → C'.1 k = C.1 k) (hw : ∀ j, j < m9 → C'.1 5 j = nI 1) : MI n m9 nx mx en am (fun _ => 1) Ad C' := by
  obtain ⟨h1, h2, h3, h4, h5, h6⟩ := h
  refine ⟨⟨pk, tr, hF⟩, fun u9 hu9 x9 hx9 => ?_, fun x9 hx9 c9 hc9 => ?_, fun x9 hx9 => ?_, fun p9 hp9 => ?_, fun i9 hi9 => ?_⟩
  · rw [hk _ (by omega)]; exact h2 u9 hu9 x9 hx9
  · rw [hk _ (by omega)]; exact h3 x9 hx9 c9 hc9
  · rw [hk _ (by omega)]; exact h4 x9 hx9
  · rw [hk _ (by omega)]; exact h5 p9 hp9
  · exact ⟨by show (1 : Nat) ≤ 1000; decide, hw i9 hi9⟩

set_option maxHeartbeats 4000000 in
set_option maxRecDepth 100000 in
theorem L5_things {p : Program} {l : Launch} {e : Env} {s : State} {m : MethodId} {args : Array Value} {below : List Frame} {meth : Method} {c : Code} {Q : State → Prop} (S : CallFix p m c cX5_things 4 s args wsX5_things RX5) {D : va_G} {cy : Nat → ClassId} {Ad : Nat → Nat} {n mm : Nat} {pk : Int64} {tr : Int32} {C0 : pw_C} (hK : pw_K D cy s) (hI : pw_I Ad shM) (hF0 : fM n mm pk tr Ad C0) (hn : 1 ≤ n ∧ n ≤ 12) (m9 m0 : Nat) (hm9 : m9 ≤ 16) (hk : ∀ (C : pw_C) (H : Heap) (locs : List Loc) (ls : Array Slot), pw_P D cy Ad shM C H → va_S (pw_fr Ad shM) s.heap H locs → (pw_B (fun k => k = 5) C0 C ∧ ∀ y, y < m9 → C.1 5 y = nI 1) → lv_has ls 4 [(2, .int (nI m0))] → W p l e (k2_rm 1 25) s m args below meth c H locs 0 0 Q (F0 m 44 ls [])) : ∀ (f : Nat) (C : pw_C) (H : Heap) (locs : List Loc) (x : Nat) (ls : Array Slot), m9 - x < f → (pw_P D cy Ad shM C H) → (va_S (pw_fr Ad shM) s.heap H locs) → (pw_B (fun k => k = 5) C0 C) → (x ≤ m9) → (∀ y, y < x → C.1 5 y = nI 1) → lv_has ls 4 [(3, .int (nI x)), (0, .ref (Ad 0)), (1, .int (nI m9)), (2, .int (nI m0))] → W p l e (k2_rm 1 25) s m args below meth c H locs 0 0 Q (F0 m 26 ls []) := by
  have hx := S.1
  have hb := S.2.1
  have hml := S.2.2.1
  have hown := S.2.2.2.1
  have hts := S.2.2.2.2
  intro f
  induction f with
  | zero => intro C H locs x ls hf; exact absurd hf (Nat.not_lt_zero _)
  | succ f ih =>
    intro C H locs x ls hf hP hS hB hx0 hv hl
    have hF := fM_B hF0 hB
    refine lv_iload_n hx hb dX5_things_26 rfl (lv_at hl 0 rfl) ?_
    refine lv_iload_n hx hb dX5_things_27 rfl (lv_at hl 2 rfl) ?_
    refine pn_icmp_ge (tgt := 44) hx hb (by omega) (by omega) dX5_things_28 (by decide) (fun c_28 => ?_) (fun c_28 => ?_)
    · exact hk C H locs ls hP hS ⟨hB, fun y hy => hv y (by omega)⟩ (lv_sub hl [3] rfl)
    · refine lv_aload_n hx hb dX5_things_31 rfl (lv_at hl 1 rfl) ?_
      refine pw_get hx hb hts (fun _ h9 => List.mem_cons_of_mem _ (List.mem_append_right _ h9)) hown hK hP 0 rfl rfl 6 (by decide) hF rfl (hts (.fieldLink RX5 27 "PastDrawsModel" "weights" "[I") (List.mem_of_getElem? (i := 3) rfl)) dX5_things_32 ?_
      refine lv_iload_n hx hb dX5_things_35 rfl (lv_at hl 0 rfl) ?_
      refine lv_iconst (v := nI 1) hx hb dX5_things_36 (by decide) ?_
      refine pw_iast hx hb hK hP hI hS 5 rfl (by omega) (by decide) dX5_things_37 (fun H locs hP hS => ?_)
      obtain ⟨C37, hC37⟩ : ∃ z9, z9 = pw_setI C 5 x (nI 1) := ⟨_, rfl⟩
      rw [← hC37] at hP
      have hB := by have hB9 := hB; exact (show pw_B (fun k => k = 5) C0 C37 by rw [hC37]; exact hB9.setI (by show 5 = 5; first | trivial | omega))
      have hF := fM_B hF0 hB
      refine lv_iinc (v := nI (x + 1)) (lv' := [(3, .int (nI (x + 1))), (0, .ref (Ad 0)), (1, .int (nI m9)), (2, .int (nI m0))]) hx hb dX5_things_38 hl (k := 0) rfl (nI_add _ 1) (by decide) rfl (fun ls hl => ?_)
      refine lv_goto (tgt := 26) hx hb dX5_things_41 (by decide) ?_
      exact ih C37 H locs (x + 1) ls (by omega) hP hS hB (by omega) (fun y hy => by
        rw [hC37, si_at]
        by_cases q : y = x
        · rw [if_pos q]
        · rw [if_neg q]; exact hv y (by omega)) (lv_sub hl [0, 1, 2, 3] rfl)

set_option maxHeartbeats 4000000 in
set_option maxRecDepth 100000 in
theorem c_X5_things (l : Launch) (D : va_G) (cy : Nat → ClassId) (Ad : Nat → Nat) (n mm : Nat) (C : pw_C) (hI : pw_I Ad shM) (hn : 1 ≤ n ∧ n ≤ 12) (hmm : 1 ≤ mm ∧ mm ≤ 16) (nx : Nat → Nat → Nat) (mx : Nat → Nat → Option Nat) (en : Nat → Bool) (am wt : Nat → Nat) (hX : MI n mm nx mx en am wt Ad C) (a : Int32) : Met l yX5_things wsX5_things (k2_rm 1 25) (pw_Pre ([.ref (Ad 0), .int a]) D cy Ad shM C) (pw_Post (fun r9 C' => r9 = some (.int (f_things mm a)) ∧ (MI n (u_things mm a) nx mx en am (w_things wt a) Ad C')) D cy Ad shM) 0 0 (pw_fr Ad shM) := by
  refine Met.ofW (cc := cX5_things) (maxL := 4) (ret := (some .int)) (by decide) rfl ?_
  intro p e s m args below meth c s₁ B hml hv
  obtain ⟨rfl, hP, hK⟩ := hv
  have hx := B.exec
  have hb := B.bytes
  have hr := B.returns
  have hts := atoms_spec (ws := wsX5_things) B.pre
  have hown : s.vm.findClass RX5 = some m.cls := findClass_of_methodNamed B.named
  have hlocks := B.notSynchronized
  have S : CallFix p m c cX5_things 4 s ([.ref (Ad 0), .int a]).toArray wsX5_things RX5 := ⟨hx, hb, hml, hown, hts⟩
  change W p l e (k2_rm 1 25) s m _ below meth c s.heap [] 0 0 _ _
  have hl := lv_entry ([.ref (Ad 0), .int a]) (n := 4) (Nat.le_of_ble_eq_true rfl)
  rw [lg_entry_eq]
  generalize (lg_sl ([.ref (Ad 0), .int a]) ++ List.replicate (4 - (lg_sl ([.ref (Ad 0), .int a])).length) Slot.unset).toArray = ls at hl ⊢
  have hl : lv_has ls 4 [(0, .ref (Ad 0)), (1, .int a)] := hl
  have hS : va_S (pw_fr Ad shM) s.heap s.heap [] := va_S.rf
  obtain ⟨⟨pk, tr, hF⟩, hN, hM, hE, hA, hT⟩ := id hX
  refine lv_iload_n hx hb dX5_things_0 rfl (lv_at hl 1 rfl) ?_
  refine lv_i2l hx hb dX5_things_1 rfl ?_
  refine lv_lconst (v := 1) hx hb dX5_things_2 (by decide) ?_
  refine lv_ldc2 hx hb hown (hts (.constantLong RX5 165 (16)) (List.mem_of_getElem? (i := 1) rfl)) dX5_things_3 ?_
  refine pw_cs S 3 (c_X5_in l a.toInt64 1 (16)) gX5_things_X5_in rfl rfl rfl (by decide +kernel) ⟨Nat.le_of_ble_eq_true rfl, Nat.le_of_ble_eq_true rfl⟩ rfl hl.1 rfl (Nat.le_of_ble_eq_true rfl) dX5_things_6 ⟨Nat.le_refl _, Nat.le_refl _⟩ ?_
  refine pw_topi (y := pb (wi a (nI 1) (nI 16))) (congrArg pb (wl_wi _ (nI 1) (nI 16) (by first | rfl | decide) (by first | rfl | decide))) ?_
  refine pn_ifne_b (tgt := 14) hx hb dX5_things_9 (by decide) (fun c_9 => ?_) (fun c_9 => ?_)
  · obtain ⟨m9, hl_m9, hh_m9, rfl⟩ := wi_ex (by omega) c_9
    have ix_m9 : ix (nI m9) = m9 := nI_clamp (by omega)
    refine lv_aload_n hx hb dX5_things_14 rfl (lv_at hl 0 rfl) ?_
    refine pw_get hx hb hts (fun _ h9 => List.mem_cons_of_mem _ (List.mem_append_right _ h9)) hown hK hP 0 rfl rfl 5 (by decide) hF rfl (hts (.fieldLink RX5 23 "PastDrawsModel" "things" "I") (List.mem_of_getElem? (i := 2) rfl)) dX5_things_15 ?_
    refine lv_istore_n (lv' := [(2, .int (nI mm)), (0, .ref (Ad 0)), (1, .int (nI m9))]) hx hb dX5_things_18 rfl hl (by decide) rfl (fun ls hl => ?_)
    refine lv_aload_n hx hb dX5_things_19 rfl (lv_at hl 1 rfl) ?_
    refine lv_iload_n hx hb dX5_things_20 rfl (lv_at hl 2 rfl) ?_
    refine pw_put hx hb hts (fun _ h9 => List.mem_cons_of_mem _ (List.mem_append_right _ h9)) tyX5 tyX5_ok nmX5 hown hK hP hI hS 0 rfl rfl 5 (by decide) hF (hts (.fieldLink RX5 23 "PastDrawsModel" "things" "I") (List.mem_of_getElem? (i := 2) rfl)) rfl (ty := .int) (by decide +kernel) rfl rfl (Nat.le_of_ble_eq_true rfl) dX5_things_21 (fun H locs hP hS => ?_)
    obtain ⟨C21, hC21⟩ : ∃ z9, z9 = pw_setF C 0 ([.int (nI n), .ref (Ad 1), .ref (Ad 2), .ref (Ad 3), .ref (Ad 4), .int (nI m9), .ref (Ad 5), .long pk, .int tr, .ref (Ad 6), .ref (Ad 7), .ref (Ad 8), .ref (Ad 9), .ref (Ad 10), .ref (Ad 11), .ref (Ad 12), .ref (Ad 13), .ref (Ad 14), .ref (Ad 15), .ref (Ad 16)] : List Value) := ⟨_, rfl⟩
    have hP : pw_P D cy Ad shM C21 H := by rw [hC21]; exact hP
    have hF : fM n m9 pk tr Ad C21 := by rw [hC21]; exact rfl
    refine lv_iconst (v := nI 0) hx hb dX5_things_24 (by decide) ?_
    refine lv_istore_n (lv' := [(3, .int (nI 0)), (2, .int (nI mm)), (0, .ref (Ad 0)), (1, .int (nI m9))]) hx hb dX5_things_25 rfl hl (by decide) rfl (fun ls hl => ?_)
    refine L5_things S hK hI hF hn m9 mm (by omega) (fun C9 H locs ls hP hS hR hl => ?_) (m9 + 1) C21 H locs 0 ls (by omega) hP hS pw_B.rf (by omega) (fun y hy => by omega) (lv_sub hl [0, 2, 3, 1] rfl)
    refine lv_iload_n hx hb dX5_things_44 rfl (lv_at hl 0 rfl) ?_
    have ef : f_things mm (nI m9) = nI mm := by unfold f_things; rw [if_pos c_9]
    have eu : u_things mm (nI m9) = m9 := by unfold u_things; rw [if_pos c_9, ix_m9]
    have ew : w_things wt (nI m9) = fun _ => 1 := by unfold w_things; rw [if_pos c_9]
    rw [ef, eu, ew]
    exact W.iret hx hb hr (fun t ht _ => ⟨⟨_, C9, rfl, ⟨rfl, MI_things hX (fM_B hF hR.1) (fun k9 h9 => by have q9 := (hR.1.1 k9 h9).1; rw [hC21] at q9; exact q9) hR.2⟩, by rw [ht]; exact hP⟩, hS.F ht⟩) hS.2.2 dX5_things_45
  · refine lv_iconst (v := (-1)) hx hb dX5_things_12 (by decide) ?_
    have ef : f_things mm a = (-1) := by unfold f_things; rw [c_9]; rfl
    have eu : u_things mm a = mm := by unfold u_things; rw [c_9]; rfl
    have ew : w_things wt a = wt := by unfold w_things; rw [c_9]; rfl
    rw [ef, eu, ew]
    exact W.iret hx hb hr (fun t ht _ => ⟨⟨_, C, rfl, ⟨rfl, hX⟩, by rw [ht]; exact hP⟩, hS.F ht⟩) hS.2.2 dX5_things_13

set_option maxHeartbeats 4000000 in
set_option maxRecDepth 100000 in
theorem c_X5_isThing (l : Launch) (D : va_G) (cy : Nat → ClassId) (Ad : Nat → Nat) (n mm : Nat) (pk : Int64) (tr : Int32) (C : pw_C) (hn : 1 ≤ n ∧ n ≤ 12) (hF : fM n mm pk tr Ad C) (x : Int32) (hmm : 1 ≤ mm ∧ mm ≤ 16) : Met l yX5_isThing wsX5_isThing (k2_rm 1 25) (pw_Pre ([.ref (Ad 0), .int x]) D cy Ad shM C) (k2_QcV (.int (pb (wi x (nI 0) (nI (mm - 1)))))) 0 0 (fun _ => False) := by
  refine Met.ofW (cc := cX5_isThing) (maxL := 2) (ret := (some .boolean)) (by decide) rfl ?_
  intro p e s m args below meth c s₁ B hml hv
  obtain ⟨rfl, hP, hK⟩ := hv
  have hx := B.exec
  have hb := B.bytes
  have hr := B.returns
  have hts := atoms_spec (ws := wsX5_isThing) B.pre
  have hown : s.vm.findClass RX5 = some m.cls := findClass_of_methodNamed B.named
  have hlocks := B.notSynchronized
  have S : CallFix p m c cX5_isThing 2 s ([.ref (Ad 0), .int x]).toArray wsX5_isThing RX5 := ⟨hx, hb, hml, hown, hts⟩
  change W p l e (k2_rm 1 25) s m _ below meth c s.heap [] 0 0 _ _
  have hl := lv_entry ([.ref (Ad 0), .int x]) (n := 2) (Nat.le_of_ble_eq_true rfl)
  rw [lg_entry_eq]
  generalize (lg_sl ([.ref (Ad 0), .int x]) ++ List.replicate (2 - (lg_sl ([.ref (Ad 0), .int x])).length) Slot.unset).toArray = ls at hl ⊢
  have hl : lv_has ls 2 [(0, .ref (Ad 0)), (1, .int x)] := hl
  refine lv_iload_n hx hb dX5_isThing_0 rfl (lv_at hl 1 rfl) ?_
  refine lv_i2l hx hb dX5_isThing_1 rfl ?_
  refine lv_lconst (v := 0) hx hb dX5_isThing_2 (by decide) ?_
  refine lv_aload_n hx hb dX5_isThing_3 rfl (lv_at hl 0 rfl) ?_
  refine pw_get hx hb hts (fun _ h9 => List.mem_cons_of_mem _ (List.mem_append_right _ h9)) hown hK hP 0 rfl rfl 5 (by decide) hF rfl (hts (.fieldLink RX5 23 "PastDrawsModel" "things" "I") (List.mem_of_getElem? (i := 1) rfl)) dX5_isThing_4 ?_
  refine lv_iconst (v := nI 1) hx hb dX5_isThing_7 (by decide) ?_
  refine lv_isub hx hb dX5_isThing_8 ?_
  refine pw_topi (pk_sub (by omega)) ?_
  refine lv_i2l hx hb dX5_isThing_9 rfl ?_
  refine pw_cs S 3 (c_X5_in l x.toInt64 0 ((nI (mm - 1)).toInt64)) gX5_isThing_X5_in rfl rfl rfl (by decide +kernel) ⟨Nat.le_of_ble_eq_true rfl, Nat.le_of_ble_eq_true rfl⟩ rfl hl.1 rfl (Nat.le_of_ble_eq_true rfl) dX5_isThing_10 ⟨Nat.le_refl _, Nat.le_refl _⟩ ?_
  refine pw_topi (y := pb (wi x (nI 0) (nI (mm - 1)))) (congrArg pb (wl_wi _ (nI 0) (nI (mm - 1)) (by first | rfl | decide) (by first | rfl | decide))) ?_
  exact W.zret hx hb hr (pb_nar _) (fun t ht _ => ⟨rfl, ht⟩) (fun q h => by cases h) dX5_isThing_13

set_option maxHeartbeats 4000000 in
set_option maxRecDepth 100000 in
theorem c_X5_weight (l : Launch) (D : va_G) (cy : Nat → ClassId) (Ad : Nat → Nat) (n mm : Nat) (C : pw_C) (hI : pw_I Ad shM) (hn : 1 ≤ n ∧ n ≤ 12) (hmm : 1 ≤ mm ∧ mm ≤ 16) (nx : Nat → Nat → Nat) (mx : Nat → Nat → Option Nat) (en : Nat → Bool) (am wt : Nat → Nat) (hX : MI n mm nx mx en am wt Ad C) (a b : Int32) : Met l yX5_weight wsX5_weight (k2_rm 2 46) (pw_Pre ([.ref (Ad 0), .int a, .int b]) D cy Ad shM C) (pw_Post (fun r9 C' => r9 = some (.int (f_weight mm wt a b)) ∧ (MI n mm nx mx en am (u_weight mm wt a b) Ad C')) D cy Ad shM) 0 0 (pw_fr Ad shM) := by
  refine Met.ofW (cc := cX5_weight) (maxL := 4) (ret := (some .int)) (by decide) rfl ?_
  intro p e s m args below meth c s₁ B hml hv
  obtain ⟨rfl, hP, hK⟩ := hv
  have hx := B.exec
  have hb := B.bytes
  have hr := B.returns
  have hts := atoms_spec (ws := wsX5_weight) B.pre
  have hown : s.vm.findClass RX5 = some m.cls := findClass_of_methodNamed B.named
  have hlocks := B.notSynchronized
  have S : CallFix p m c cX5_weight 4 s ([.ref (Ad 0), .int a, .int b]).toArray wsX5_weight RX5 := ⟨hx, hb, hml, hown, hts⟩
  change W p l e (k2_rm 2 46) s m _ below meth c s.heap [] 0 0 _ _
  have hl := lv_entry ([.ref (Ad 0), .int a, .int b]) (n := 4) (Nat.le_of_ble_eq_true rfl)
  rw [lg_entry_eq]
  generalize (lg_sl ([.ref (Ad 0), .int a, .int b]) ++ List.replicate (4 - (lg_sl ([.ref (Ad 0), .int a, .int b])).length) Slot.unset).toArray = ls at hl ⊢
  have hl : lv_has ls 4 [(0, .ref (Ad 0)), (1, .int a), (2, .int b)] := hl
  have hS : va_S (pw_fr Ad shM) s.heap s.heap [] := va_S.rf
  obtain ⟨⟨pk, tr, hF⟩, hN, hM, hE, hA, hT⟩ := id hX
  refine lv_aload_n hx hb dX5_weight_0 rfl (lv_at hl 0 rfl) ?_
  refine lv_iload_n hx hb dX5_weight_1 rfl (lv_at hl 1 rfl) ?_
  refine pw_cv S hK hP 0 5 rfl rfl 1 (c_X5_isThing l D cy Ad n mm pk tr C hn hF a hmm) gX5_weight_X5_isThing rfl rfl rfl (by decide +kernel) ⟨Nat.le_of_ble_eq_true rfl, Nat.le_of_ble_eq_true rfl⟩ rfl hl.1 rfl (Nat.le_of_ble_eq_true rfl) dX5_weight_2 ⟨Nat.le_refl _, Nat.le_refl _⟩ ?_
  refine pn_ifeq_b (tgt := 20) hx hb dX5_weight_5 (by decide) (fun c_5 => ?_) (fun c_5 => ?_)
  · refine lv_iconst (v := (-1)) hx hb dX5_weight_20 (by decide) ?_
    have e9 : (wi a (nI 0) (nI (mm - 1)) && wi b (nI 0) (nI 1000)) = false := by first | (rw [c_5]; rfl) | (rw [c_5, c_17]; rfl)
    have ef : f_weight mm wt a b = (-1) := by unfold f_weight; rw [e9]; rfl
    have eu : u_weight mm wt a b = wt := by unfold u_weight; rw [e9]; rfl
    rw [ef, eu]
    exact W.iret hx hb hr (fun t ht _ => ⟨⟨_, C, rfl, ⟨rfl, hX⟩, by rw [ht]; exact hP⟩, hS.F ht⟩) hS.2.2 dX5_weight_21
  · refine lv_iload_n hx hb dX5_weight_8 rfl (lv_at hl 2 rfl) ?_
    refine lv_i2l hx hb dX5_weight_9 rfl ?_
    refine lv_lconst (v := 0) hx hb dX5_weight_10 (by decide) ?_
    refine lv_ldc2 hx hb hown (hts (.constantLong RX5 170 (1000)) (List.mem_of_getElem? (i := 1) rfl)) dX5_weight_11 ?_
    refine pw_cs S 3 (c_X5_in l b.toInt64 0 (1000)) gX5_weight_X5_in rfl rfl rfl (by decide +kernel) ⟨Nat.le_of_ble_eq_true rfl, Nat.le_of_ble_eq_true rfl⟩ rfl hl.1 rfl (Nat.le_of_ble_eq_true rfl) dX5_weight_14 ⟨Nat.le_refl _, Nat.le_refl _⟩ ?_
    refine pw_topi (y := pb (wi b (nI 0) (nI 1000))) (congrArg pb (wl_wi _ (nI 0) (nI 1000) (by first | rfl | decide) (by first | rfl | decide))) ?_
    refine pn_ifne_b (tgt := 22) hx hb dX5_weight_17 (by decide) (fun c_17 => ?_) (fun c_17 => ?_)
    · obtain ⟨i, hl_i, hh_i, rfl⟩ := wi_ex (by omega) c_5
      obtain ⟨w, hl_w, hh_w, rfl⟩ := wi_ex (by omega) c_17
      have ix_i : ix (nI i) = i := nI_clamp (by omega)
      have ix_w : ix (nI w) = w := nI_clamp (by omega)
      have hB : pw_B (fun k => k = 5) C C := pw_B.rf
      refine lv_aload_n hx hb dX5_weight_22 rfl (lv_at hl 0 rfl) ?_
      refine pw_get hx hb hts (fun _ h9 => List.mem_cons_of_mem _ (List.mem_append_right _ h9)) hown hK hP 0 rfl rfl 6 (by decide) hF rfl (hts (.fieldLink RX5 27 "PastDrawsModel" "weights" "[I") (List.mem_of_getElem? (i := 2) rfl)) dX5_weight_23 ?_
      refine lv_iload_n hx hb dX5_weight_26 rfl (lv_at hl 1 rfl) ?_
      refine pw_iald hx hb hK hP 5 rfl (by omega) (by decide) (v := nI (wt i)) (hT i (by omega)).2 dX5_weight_27 ?_
      refine lv_istore_n (lv' := [(3, .int (nI (wt i))), (0, .ref (Ad 0)), (1, .int (nI i)), (2, .int (nI w))]) hx hb dX5_weight_28 rfl hl (by decide) rfl (fun ls hl => ?_)
      refine lv_aload_n hx hb dX5_weight_29 rfl (lv_at hl 1 rfl) ?_
      refine pw_get hx hb hts (fun _ h9 => List.mem_cons_of_mem _ (List.mem_append_right _ h9)) hown hK hP 0 rfl rfl 6 (by decide) hF rfl (hts (.fieldLink RX5 27 "PastDrawsModel" "weights" "[I") (List.mem_of_getElem? (i := 2) rfl)) dX5_weight_30 ?_
      refine lv_iload_n hx hb dX5_weight_33 rfl (lv_at hl 2 rfl) ?_
      refine lv_iload_n hx hb dX5_weight_34 rfl (lv_at hl 3 rfl) ?_
      refine pw_iast hx hb hK hP hI hS 5 rfl (by omega) (by decide) dX5_weight_35 (fun H locs hP hS => ?_)
      obtain ⟨C35, hC35⟩ : ∃ z9, z9 = pw_setI C 5 i (nI w) := ⟨_, rfl⟩
      rw [← hC35] at hP
      have hB := by have hB9 := hB; exact (show pw_B (fun k => k = 5) C C35 by rw [hC35]; exact hB9.setI (by show 5 = 5; first | trivial | omega))
      refine lv_iload_n hx hb dX5_weight_36 rfl (lv_at hl 0 rfl) ?_
      have e9 : (wi (nI i) (nI 0) (nI (mm - 1)) && wi (nI w) (nI 0) (nI 1000)) = true := by rw [c_5, c_17]; rfl
      have ef : f_weight mm wt (nI i) (nI w) = nI (wt i) := by unfold f_weight; rw [if_pos e9, ix_i]
      have eu : u_weight mm wt (nI i) (nI w) = fun i9 => if i9 = i then w else wt i9 := by unfold u_weight; rw [if_pos e9, ix_i, ix_w]
      rw [ef, eu]
      exact W.iret hx hb hr (fun t ht _ => ⟨⟨_, C35, rfl, ⟨rfl, by rw [hC35]; exact MI_weight (by omega) hX⟩, by rw [ht]; exact hP⟩, hS.F ht⟩) hS.2.2 dX5_weight_37
    · refine lv_iconst (v := (-1)) hx hb dX5_weight_20 (by decide) ?_
      have e9 : (wi a (nI 0) (nI (mm - 1)) && wi b (nI 0) (nI 1000)) = false := by first | (rw [c_5]; rfl) | (rw [c_5, c_17]; rfl)
      have ef : f_weight mm wt a b = (-1) := by unfold f_weight; rw [e9]; rfl
      have eu : u_weight mm wt a b = wt := by unfold u_weight; rw [e9]; rfl
      rw [ef, eu]
      exact W.iret hx hb hr (fun t ht _ => ⟨⟨_, C, rfl, ⟨rfl, hX⟩, by rw [ht]; exact hP⟩, hS.F ht⟩) hS.2.2 dX5_weight_21

set_option maxHeartbeats 4000000 in
set_option maxRecDepth 100000 in
theorem L5_sum {p : Program} {l : Launch} {e : Env} {s : State} {m : MethodId} {args : Array Value} {below : List Frame} {meth : Method} {c : Code} {H : Heap} {locs : List Loc} {Q : State → Prop} (S : CallFix p m c cX5_sum 3 s args wsX5_sum RX5) {D : va_G} {cy : Nat → ClassId} {Ad : Nat → Nat} {n mm : Nat} {pk : Int64} {tr : Int32} {C : pw_C} (hK : pw_K D cy s) (hP : pw_P D cy Ad shM C H) (hF : fM n mm pk tr Ad C)  {wt : Nat → Nat} (hT : mT mm wt C) (hmm : 1 ≤ mm ∧ mm ≤ 16) (hq : ∀ (pc9 : Nat) (ls : Array Slot), decode cX5_sum pc9 = .ok (.ireturn, 1) → W p l e (k2_rm 0 0) s m args below meth c H locs 0 0 Q (F0 m pc9 ls [.int (nI (smF wt mm))])) : ∀ (f : Nat) (i : Nat) (ls : Array Slot), mm - i < f → (i ≤ mm) → lv_has ls 3 [(2, .int (nI i)), (1, .int (nI (smF wt i))), (0, .ref (Ad 0))] → W p l e (k2_rm 0 0) s m args below meth c H locs 0 0 Q (F0 m 4 ls []) := by
  have hx := S.1
  have hb := S.2.1
  have hml := S.2.2.1
  have hown := S.2.2.2.1
  have hts := S.2.2.2.2
  intro f
  induction f with
  | zero => intro i ls hf; exact absurd hf (Nat.not_lt_zero _)
  | succ f ih =>
    intro i ls hf hi0 hl
    refine lv_iload_n hx hb dX5_sum_4 rfl (lv_at hl 0 rfl) ?_
    refine lv_aload_n hx hb dX5_sum_5 rfl (lv_at hl 2 rfl) ?_
    refine pw_get hx hb hts (fun _ h9 => List.mem_cons_of_mem _ (List.mem_append_right _ h9)) hown hK hP 0 rfl rfl 5 (by decide) hF rfl (hts (.fieldLink RX5 23 "PastDrawsModel" "things" "I") (List.mem_of_getElem? (i := 1) rfl)) dX5_sum_6 ?_
    refine pn_icmp_ge (tgt := 27) hx hb (by omega) (by omega) dX5_sum_9 (by decide) (fun c_9 => ?_) (fun c_9 => ?_)
    · have hie : i = mm := by omega
      refine lv_iload_n hx hb dX5_sum_27 rfl (lv_at hl 1 rfl) ?_
      refine pw_topi (y := nI (smF wt mm)) (by rw [hie]) ?_
      exact hq _ ls dX5_sum_28
    · refine lv_iload_n hx hb dX5_sum_12 rfl (lv_at hl 1 rfl) ?_
      refine lv_aload_n hx hb dX5_sum_13 rfl (lv_at hl 2 rfl) ?_
      refine pw_get hx hb hts (fun _ h9 => List.mem_cons_of_mem _ (List.mem_append_right _ h9)) hown hK hP 0 rfl rfl 6 (by decide) hF rfl (hts (.fieldLink RX5 27 "PastDrawsModel" "weights" "[I") (List.mem_of_getElem? (i := 2) rfl)) dX5_sum_14 ?_
      refine lv_iload_n hx hb dX5_sum_17 rfl (lv_at hl 0 rfl) ?_
      refine pw_iald hx hb hK hP 5 rfl (by omega) (by decide) (v := nI (wt i)) (hT i (by omega)).2 dX5_sum_18 ?_
      refine lv_iadd hx hb dX5_sum_19 ?_
      refine pw_topi (nI_add _ _) ?_
      refine lv_istore_n (lv' := [(1, .int (nI ((smF wt i) + (wt i)))), (2, .int (nI i)), (0, .ref (Ad 0))]) hx hb dX5_sum_20 rfl hl (by decide) rfl (fun ls hl => ?_)
      refine lv_iinc (v := nI (i + 1)) (lv' := [(2, .int (nI (i + 1))), (1, .int (nI ((smF wt i) + (wt i)))), (0, .ref (Ad 0))]) hx hb dX5_sum_21 hl (k := 1) rfl (nI_add _ 1) (by decide) rfl (fun ls hl => ?_)
      refine lv_goto (tgt := 4) hx hb dX5_sum_24 (by decide) ?_
      exact ih (i + 1) ls (by omega) (by omega) (lv_sub hl [0, 1, 2] rfl)

set_option maxHeartbeats 4000000 in
set_option maxRecDepth 100000 in
theorem c_X5_sum (l : Launch) (D : va_G) (cy : Nat → ClassId) (Ad : Nat → Nat) (n mm : Nat) (pk : Int64) (tr : Int32) (C : pw_C) (hn : 1 ≤ n ∧ n ≤ 12) (hF : fM n mm pk tr Ad C) (wt : Nat → Nat) (hT : mT mm wt C) (hmm : 1 ≤ mm ∧ mm ≤ 16) : Met l yX5_sum wsX5_sum (k2_rm 0 0) (pw_Pre ([.ref (Ad 0)]) D cy Ad shM C) (k2_QcV (.int (nI (smF wt mm)))) 0 0 (fun _ => False) := by
  refine Met.ofW (cc := cX5_sum) (maxL := 3) (ret := (some .int)) (by decide) rfl ?_
  intro p e s m args below meth c s₁ B hml hv
  obtain ⟨rfl, hP, hK⟩ := hv
  have hx := B.exec
  have hb := B.bytes
  have hr := B.returns
  have hts := atoms_spec (ws := wsX5_sum) B.pre
  have hown : s.vm.findClass RX5 = some m.cls := findClass_of_methodNamed B.named
  have hlocks := B.notSynchronized
  have S : CallFix p m c cX5_sum 3 s ([.ref (Ad 0)]).toArray wsX5_sum RX5 := ⟨hx, hb, hml, hown, hts⟩
  change W p l e (k2_rm 0 0) s m _ below meth c s.heap [] 0 0 _ _
  have hl := lv_entry ([.ref (Ad 0)]) (n := 3) (Nat.le_of_ble_eq_true rfl)
  rw [lg_entry_eq]
  generalize (lg_sl ([.ref (Ad 0)]) ++ List.replicate (3 - (lg_sl ([.ref (Ad 0)])).length) Slot.unset).toArray = ls at hl ⊢
  have hl : lv_has ls 3 [(0, .ref (Ad 0))] := hl
  refine lv_iconst (v := nI 0) hx hb dX5_sum_0 (by decide) ?_
  refine lv_istore_n (lv' := [(1, .int (nI 0)), (0, .ref (Ad 0))]) hx hb dX5_sum_1 rfl hl (by decide) rfl (fun ls hl => ?_)
  refine lv_iconst (v := nI 0) hx hb dX5_sum_2 (by decide) ?_
  refine lv_istore_n (lv' := [(2, .int (nI 0)), (1, .int (nI 0)), (0, .ref (Ad 0))]) hx hb dX5_sum_3 rfl hl (by decide) rfl (fun ls hl => ?_)
  exact L5_sum S hK hP hF hT hmm (fun pc9 ls hd9 => W.iret hx hb hr (fun t ht _ => ⟨rfl, ht⟩) (fun q h => by cases h) hd9) (mm + 1) 0 ls (by omega) (by omega) (lv_sub hl [0, 1, 2] rfl)

set_option maxHeartbeats 4000000 in
set_option maxRecDepth 100000 in
theorem L5_first_t {p : Program} {l : Launch} {e : Env} {s : State} {m : MethodId} {args : Array Value} {below : List Frame} {meth : Method} {c : Code} {H : Heap} {locs : List Loc} {Q : State → Prop} (S : CallFix p m c cX5_first 4 s args wsX5_first RX5) {D : va_G} {cy : Nat → ClassId} {Ad : Nat → Nat} {n mm : Nat} {pk : Int64} {tr : Int32} {C : pw_C} (hK : pw_K D cy s) (hP : pw_P D cy Ad shM C H) (hF : fM n mm pk tr Ad C)  {T : tbT} (hG : gTm mm T C) (Z : Nat) (hmm : 1 ≤ mm ∧ mm ≤ 16) (r : Option Nat) (hq : ∀ (pc9 : Nat) (ls : Array Slot), decode cX5_first pc9 = .ok (.ireturn, 1) → W p l e (k2_rm 0 0) s m args below meth c H locs 0 0 Q (F0 m pc9 ls [.int (oi r)])) : ∀ (f : Nat) (i : Nat) (ls : Array Slot), mm - i < f → (i ≤ mm) → (fstT (fun i => !T.2.2.2 i && decide (T.1 i < nI Z)) (mm - i) i = r) → lv_has ls 4 [(3, .int (nI i)), (0, .ref (Ad 0)), (1, .int (nI Z)), (2, .int (nI 1))] → W p l e (k2_rm 0 0) s m args below meth c H locs 0 0 Q (F0 m 2 ls []) := by
  have hx := S.1
  have hb := S.2.1
  have hml := S.2.2.1
  have hown := S.2.2.2.1
  have hts := S.2.2.2.2
  intro f
  induction f with
  | zero => intro i ls hf; exact absurd hf (Nat.not_lt_zero _)
  | succ f ih =>
    intro i ls hf hi0 hr0 hl
    refine lv_iload_n hx hb dX5_first_2 rfl (lv_at hl 0 rfl) ?_
    refine lv_aload_n hx hb dX5_first_3 rfl (lv_at hl 1 rfl) ?_
    refine pw_get hx hb hts (fun _ h9 => List.mem_cons_of_mem _ (List.mem_append_right _ h9)) hown hK hP 0 rfl rfl 5 (by decide) hF rfl (hts (.fieldLink RX5 23 "PastDrawsModel" "things" "I") (List.mem_of_getElem? (i := 1) rfl)) dX5_first_4 ?_
    refine pn_icmp_ge (tgt := 54) hx hb (by omega) (by omega) dX5_first_7 (by decide) (fun c_7 => ?_) (fun c_7 => ?_)
    · have hz : mm - i = 0 := by omega
      rw [hz, fstT] at hr0
      refine lv_bipush (v := (-2)) hx hb dX5_first_54 (by decide) ?_
      refine pw_topi (y := oi r) (by rw [← hr0]; try rfl) ?_
      exact hq _ ls dX5_first_56
    · obtain ⟨z, hz⟩ : ∃ z, mm - i = z + 1 := ⟨mm - i - 1, by omega⟩
      rw [hz, fstT] at hr0
      have hz2 : z = mm - (i + 1) := by omega
      refine lv_aload_n hx hb dX5_first_10 rfl (lv_at hl 1 rfl) ?_
      refine pw_get hx hb hts (fun _ h9 => List.mem_cons_of_mem _ (List.mem_append_right _ h9)) hown hK hP 0 rfl rfl 19 (by decide) hF rfl (hts (.fieldLink RX5 61 "PastDrawsModel" "isMade" "[Z") (List.mem_of_getElem? (i := 2) rfl)) dX5_first_11 ?_
      refine lv_iload_n hx hb dX5_first_14 rfl (lv_at hl 0 rfl) ?_
      refine pw_zald hx hb hK hP 16 rfl (by omega) (by decide) (v := pb (T.2.2.2 i)) (hG i (by omega)).2.2.2 dX5_first_15 ?_
      refine pn_ifne_b (tgt := 48) hx hb dX5_first_16 (by decide) (fun c_16 => ?_) (fun c_16 => ?_)
      · rw [if_neg (by rw [c_16]; exact (fun q9 => by cases q9))] at hr0
        refine lv_iinc (v := nI (i + 1)) (lv' := [(3, .int (nI (i + 1))), (0, .ref (Ad 0)), (1, .int (nI Z)), (2, .int (nI 1))]) hx hb dX5_first_48 hl (k := 0) rfl (nI_add _ 1) (by decide) rfl (fun ls hl => ?_)
        refine lv_goto (tgt := 2) hx hb dX5_first_51 (by decide) ?_
        exact ih (i + 1) ls (by omega) (by omega) (by rw [← hz2]; exact hr0) (lv_sub hl [0, 1, 2, 3] rfl)
      · refine lv_iload_n hx hb dX5_first_19 rfl (lv_at hl 3 rfl) ?_
        refine pn_ifeq_n (tgt := 36) hx hb (by omega) dX5_first_20 (by decide) (fun c_20 => absurd c_20 (by omega)) (fun c_20 => ?_)
        refine lv_aload_n hx hb dX5_first_23 rfl (lv_at hl 1 rfl) ?_
        refine pw_get hx hb hts (fun _ h9 => List.mem_cons_of_mem _ (List.mem_append_right _ h9)) hown hK hP 0 rfl rfl 18 (by decide) hF rfl (hts (.fieldLink RX5 58 "PastDrawsModel" "rest" "[I") (List.mem_of_getElem? (i := 3) rfl)) dX5_first_24 ?_
        refine lv_iload_n hx hb dX5_first_27 rfl (lv_at hl 0 rfl) ?_
        refine pw_iald hx hb hK hP 15 rfl (by omega) (by decide) (v := T.1 i) (hG i (by omega)).1 dX5_first_28 ?_
        refine lv_iload_n hx hb dX5_first_29 rfl (lv_at hl 2 rfl) ?_
        refine lv_icmp_ge (tgt := 48) hx hb dX5_first_30 (by decide) (fun c_30 => ?_) (fun c_30 => ?_)
        · rw [if_neg (by rw [c_16, decide_eq_false (Int32.not_lt.mpr c_30)]; exact (fun q9 => by cases q9))] at hr0
          refine lv_iinc (v := nI (i + 1)) (lv' := [(3, .int (nI (i + 1))), (0, .ref (Ad 0)), (1, .int (nI Z)), (2, .int (nI 1))]) hx hb dX5_first_48 hl (k := 0) rfl (nI_add _ 1) (by decide) rfl (fun ls hl => ?_)
          refine lv_goto (tgt := 2) hx hb dX5_first_51 (by decide) ?_
          exact ih (i + 1) ls (by omega) (by omega) (by rw [← hz2]; exact hr0) (lv_sub hl [0, 1, 2, 3] rfl)
        · rw [if_pos (by rw [c_16, decide_eq_true (Int32.not_le.mp c_30)]; rfl)] at hr0
          refine lv_goto (tgt := 46) hx hb dX5_first_33 (by decide) ?_
          refine lv_iload_n hx hb dX5_first_46 rfl (lv_at hl 0 rfl) ?_
          refine pw_topi (y := oi r) (by rw [← hr0]; try rfl) ?_
          exact hq _ ls dX5_first_47

set_option maxHeartbeats 4000000 in
set_option maxRecDepth 100000 in
theorem c_X5_first_t (l : Launch) (D : va_G) (cy : Nat → ClassId) (Ad : Nat → Nat) (n mm : Nat) (pk : Int64) (tr : Int32) (C : pw_C) (hn : 1 ≤ n ∧ n ≤ 12) (hF : fM n mm pk tr Ad C) (T : tbT) (hG : gTm mm T C) (Z : Nat) (hmm : 1 ≤ mm ∧ mm ≤ 16) : Met l yX5_first wsX5_first (k2_rm 0 0) (pw_Pre ([.ref (Ad 0), .int (nI Z), .int (nI 1)]) D cy Ad shM C) (k2_QcV (.int (oi (tmu mm Z T)))) 0 0 (fun _ => False) := by
  refine Met.ofW (cc := cX5_first) (maxL := 4) (ret := (some .int)) (by decide) rfl ?_
  intro p e s m args below meth c s₁ B hml hv
  obtain ⟨rfl, hP, hK⟩ := hv
  have hx := B.exec
  have hb := B.bytes
  have hr := B.returns
  have hts := atoms_spec (ws := wsX5_first) B.pre
  have hown : s.vm.findClass RX5 = some m.cls := findClass_of_methodNamed B.named
  have hlocks := B.notSynchronized
  have S : CallFix p m c cX5_first 4 s ([.ref (Ad 0), .int (nI Z), .int (nI 1)]).toArray wsX5_first RX5 := ⟨hx, hb, hml, hown, hts⟩
  change W p l e (k2_rm 0 0) s m _ below meth c s.heap [] 0 0 _ _
  have hl := lv_entry ([.ref (Ad 0), .int (nI Z), .int (nI 1)]) (n := 4) (Nat.le_of_ble_eq_true rfl)
  rw [lg_entry_eq]
  generalize (lg_sl ([.ref (Ad 0), .int (nI Z), .int (nI 1)]) ++ List.replicate (4 - (lg_sl ([.ref (Ad 0), .int (nI Z), .int (nI 1)])).length) Slot.unset).toArray = ls at hl ⊢
  have hl : lv_has ls 4 [(0, .ref (Ad 0)), (1, .int (nI Z)), (2, .int (nI 1))] := hl
  refine lv_iconst (v := nI 0) hx hb dX5_first_0 (by decide) ?_
  refine lv_istore_n (lv' := [(3, .int (nI 0)), (0, .ref (Ad 0)), (1, .int (nI Z)), (2, .int (nI 1))]) hx hb dX5_first_1 rfl hl (by decide) rfl (fun ls hl => ?_)
  exact L5_first_t S hK hP hF hG Z hmm _ (fun pc9 ls hd9 => W.iret hx hb hr (fun t ht _ => ⟨rfl, ht⟩) (fun q h => by cases h) hd9) (mm + 1) 0 ls (by omega) (by omega) rfl (lv_sub hl [0, 1, 2, 3] rfl)

set_option maxHeartbeats 4000000 in
set_option maxRecDepth 100000 in
theorem L5_first_f {p : Program} {l : Launch} {e : Env} {s : State} {m : MethodId} {args : Array Value} {below : List Frame} {meth : Method} {c : Code} {H : Heap} {locs : List Loc} {Q : State → Prop} (S : CallFix p m c cX5_first 4 s args wsX5_first RX5) {D : va_G} {cy : Nat → ClassId} {Ad : Nat → Nat} {n mm : Nat} {pk : Int64} {tr : Int32} {C : pw_C} (hK : pw_K D cy s) (hP : pw_P D cy Ad shM C H) (hF : fM n mm pk tr Ad C)  {T : tbT} (hG : gTm mm T C) (Z : Nat) (hmm : 1 ≤ mm ∧ mm ≤ 16) (r : Option Nat) (hq : ∀ (pc9 : Nat) (ls : Array Slot), decode cX5_first pc9 = .ok (.ireturn, 1) → W p l e (k2_rm 0 0) s m args below meth c H locs 0 0 Q (F0 m pc9 ls [.int (oi r)])) : ∀ (f : Nat) (i : Nat) (ls : Array Slot), mm - i < f → (i ≤ mm) → (fstT (fun i => !T.2.2.2 i && decide (nI Z < T.1 i)) (mm - i) i = r) → lv_has ls 4 [(3, .int (nI i)), (0, .ref (Ad 0)), (1, .int (nI Z)), (2, .int (nI 0))] → W p l e (k2_rm 0 0) s m args below meth c H locs 0 0 Q (F0 m 2 ls []) := by
  have hx := S.1
  have hb := S.2.1
  have hml := S.2.2.1
  have hown := S.2.2.2.1
  have hts := S.2.2.2.2
  intro f
  induction f with
  | zero => intro i ls hf; exact absurd hf (Nat.not_lt_zero _)
  | succ f ih =>
    intro i ls hf hi0 hr0 hl
    refine lv_iload_n hx hb dX5_first_2 rfl (lv_at hl 0 rfl) ?_
    refine lv_aload_n hx hb dX5_first_3 rfl (lv_at hl 1 rfl) ?_
    refine pw_get hx hb hts (fun _ h9 => List.mem_cons_of_mem _ (List.mem_append_right _ h9)) hown hK hP 0 rfl rfl 5 (by decide) hF rfl (hts (.fieldLink RX5 23 "PastDrawsModel" "things" "I") (List.mem_of_getElem? (i := 1) rfl)) dX5_first_4 ?_
    refine pn_icmp_ge (tgt := 54) hx hb (by omega) (by omega) dX5_first_7 (by decide) (fun c_7 => ?_) (fun c_7 => ?_)
    · have hz : mm - i = 0 := by omega
      rw [hz, fstT] at hr0
      refine lv_bipush (v := (-2)) hx hb dX5_first_54 (by decide) ?_
      refine pw_topi (y := oi r) (by rw [← hr0]; try rfl) ?_
      exact hq _ ls dX5_first_56
    · obtain ⟨z, hz⟩ : ∃ z, mm - i = z + 1 := ⟨mm - i - 1, by omega⟩
      rw [hz, fstT] at hr0
      have hz2 : z = mm - (i + 1) := by omega
      refine lv_aload_n hx hb dX5_first_10 rfl (lv_at hl 1 rfl) ?_
      refine pw_get hx hb hts (fun _ h9 => List.mem_cons_of_mem _ (List.mem_append_right _ h9)) hown hK hP 0 rfl rfl 19 (by decide) hF rfl (hts (.fieldLink RX5 61 "PastDrawsModel" "isMade" "[Z") (List.mem_of_getElem? (i := 2) rfl)) dX5_first_11 ?_
      refine lv_iload_n hx hb dX5_first_14 rfl (lv_at hl 0 rfl) ?_
      refine pw_zald hx hb hK hP 16 rfl (by omega) (by decide) (v := pb (T.2.2.2 i)) (hG i (by omega)).2.2.2 dX5_first_15 ?_
      refine pn_ifne_b (tgt := 48) hx hb dX5_first_16 (by decide) (fun c_16 => ?_) (fun c_16 => ?_)
      · rw [if_neg (by rw [c_16]; exact (fun q9 => by cases q9))] at hr0
        refine lv_iinc (v := nI (i + 1)) (lv' := [(3, .int (nI (i + 1))), (0, .ref (Ad 0)), (1, .int (nI Z)), (2, .int (nI 0))]) hx hb dX5_first_48 hl (k := 0) rfl (nI_add _ 1) (by decide) rfl (fun ls hl => ?_)
        refine lv_goto (tgt := 2) hx hb dX5_first_51 (by decide) ?_
        exact ih (i + 1) ls (by omega) (by omega) (by rw [← hz2]; exact hr0) (lv_sub hl [0, 1, 2, 3] rfl)
      · refine lv_iload_n hx hb dX5_first_19 rfl (lv_at hl 3 rfl) ?_
        refine pn_ifeq_n (tgt := 36) hx hb (by omega) dX5_first_20 (by decide) (fun c_20 => ?_) (fun c_20 => absurd c_20 (fun h => h rfl))
        refine lv_aload_n hx hb dX5_first_36 rfl (lv_at hl 1 rfl) ?_
        refine pw_get hx hb hts (fun _ h9 => List.mem_cons_of_mem _ (List.mem_append_right _ h9)) hown hK hP 0 rfl rfl 18 (by decide) hF rfl (hts (.fieldLink RX5 58 "PastDrawsModel" "rest" "[I") (List.mem_of_getElem? (i := 3) rfl)) dX5_first_37 ?_
        refine lv_iload_n hx hb dX5_first_40 rfl (lv_at hl 0 rfl) ?_
        refine pw_iald hx hb hK hP 15 rfl (by omega) (by decide) (v := T.1 i) (hG i (by omega)).1 dX5_first_41 ?_
        refine lv_iload_n hx hb dX5_first_42 rfl (lv_at hl 2 rfl) ?_
        refine lv_icmp_le (tgt := 48) hx hb dX5_first_43 (by decide) (fun c_43 => ?_) (fun c_43 => ?_)
        · rw [if_neg (by rw [c_16, decide_eq_false (Int32.not_lt.mpr c_43)]; exact (fun q9 => by cases q9))] at hr0
          refine lv_iinc (v := nI (i + 1)) (lv' := [(3, .int (nI (i + 1))), (0, .ref (Ad 0)), (1, .int (nI Z)), (2, .int (nI 0))]) hx hb dX5_first_48 hl (k := 0) rfl (nI_add _ 1) (by decide) rfl (fun ls hl => ?_)
          refine lv_goto (tgt := 2) hx hb dX5_first_51 (by decide) ?_
          exact ih (i + 1) ls (by omega) (by omega) (by rw [← hz2]; exact hr0) (lv_sub hl [0, 1, 2, 3] rfl)
        · rw [if_pos (by rw [c_16, decide_eq_true (Int32.not_le.mp c_43)]; rfl)] at hr0
          refine lv_iload_n hx hb dX5_first_46 rfl (lv_at hl 0 rfl) ?_
          refine pw_topi (y := oi r) (by rw [← hr0]; try rfl) ?_
          exact hq _ ls dX5_first_47

set_option maxHeartbeats 4000000 in
set_option maxRecDepth 100000 in
theorem c_X5_first_f (l : Launch) (D : va_G) (cy : Nat → ClassId) (Ad : Nat → Nat) (n mm : Nat) (pk : Int64) (tr : Int32) (C : pw_C) (hn : 1 ≤ n ∧ n ≤ 12) (hF : fM n mm pk tr Ad C) (T : tbT) (hG : gTm mm T C) (Z : Nat) (hmm : 1 ≤ mm ∧ mm ≤ 16) : Met l yX5_first wsX5_first (k2_rm 0 0) (pw_Pre ([.ref (Ad 0), .int (nI Z), .int (nI 0)]) D cy Ad shM C) (k2_QcV (.int (oi (tmo mm Z T)))) 0 0 (fun _ => False) := by
  refine Met.ofW (cc := cX5_first) (maxL := 4) (ret := (some .int)) (by decide) rfl ?_
  intro p e s m args below meth c s₁ B hml hv
  obtain ⟨rfl, hP, hK⟩ := hv
  have hx := B.exec
  have hb := B.bytes
  have hr := B.returns
  have hts := atoms_spec (ws := wsX5_first) B.pre
  have hown : s.vm.findClass RX5 = some m.cls := findClass_of_methodNamed B.named
  have hlocks := B.notSynchronized
  have S : CallFix p m c cX5_first 4 s ([.ref (Ad 0), .int (nI Z), .int (nI 0)]).toArray wsX5_first RX5 := ⟨hx, hb, hml, hown, hts⟩
  change W p l e (k2_rm 0 0) s m _ below meth c s.heap [] 0 0 _ _
  have hl := lv_entry ([.ref (Ad 0), .int (nI Z), .int (nI 0)]) (n := 4) (Nat.le_of_ble_eq_true rfl)
  rw [lg_entry_eq]
  generalize (lg_sl ([.ref (Ad 0), .int (nI Z), .int (nI 0)]) ++ List.replicate (4 - (lg_sl ([.ref (Ad 0), .int (nI Z), .int (nI 0)])).length) Slot.unset).toArray = ls at hl ⊢
  have hl : lv_has ls 4 [(0, .ref (Ad 0)), (1, .int (nI Z)), (2, .int (nI 0))] := hl
  refine lv_iconst (v := nI 0) hx hb dX5_first_0 (by decide) ?_
  refine lv_istore_n (lv' := [(3, .int (nI 0)), (0, .ref (Ad 0)), (1, .int (nI Z)), (2, .int (nI 0))]) hx hb dX5_first_1 rfl hl (by decide) rfl (fun ls hl => ?_)
  exact L5_first_f S hK hP hF hG Z hmm _ (fun pc9 ls hd9 => W.iret hx hb hr (fun t ht _ => ⟨rfl, ht⟩) (fun q h => by cases h) hd9) (mm + 1) 0 ls (by omega) (by omega) rfl (lv_sub hl [0, 1, 2, 3] rfl)

set_option maxHeartbeats 4000000 in
set_option maxRecDepth 100000 in
theorem L5_make_a {p : Program} {l : Launch} {e : Env} {s : State} {m : MethodId} {args : Array Value} {below : List Frame} {meth : Method} {c : Code} {Q : State → Prop} (S : CallFix p m c cX5_make 4 s args wsX5_make RX5) {D : va_G} {cy : Nat → ClassId} {Ad : Nat → Nat} {n mm : Nat} {pk : Int64} {tr : Int32} {C0 : pw_C} (hK : pw_K D cy s) (hI : pw_I Ad shM) (hF0 : fM n mm pk tr Ad C0) (hn : 1 ≤ n ∧ n ≤ 12) {wt : Nat → Nat} (hT0 : mT mm wt C0) (hmm : 1 ≤ mm ∧ mm ≤ 16) (Z : Nat) (hk : ∀ (C : pw_C) (H : Heap) (locs : List Loc) (ls : Array Slot), pw_P D cy Ad shM C H → va_S (pw_fr Ad shM) s.heap H locs → (pw_B (fun k => 13 ≤ k ∧ k ≤ 16) C0 C ∧ gTm mm (tm0 wt mm Z) C) → lv_has ls 4 [(0, .ref (Ad 0)), (1, .int (nI Z))] → W p l e (k2_rm 1 23) s m args below meth c H locs 0 0 Q (F0 m 59 ls [])) : ∀ (f : Nat) (C : pw_C) (H : Heap) (locs : List Loc) (i : Nat) (ls : Array Slot), mm - i < f → (pw_P D cy Ad shM C H) → (va_S (pw_fr Ad shM) s.heap H locs) → (pw_B (fun k => 13 ≤ k ∧ k ≤ 16) C0 C) → (i ≤ mm) → (gTm i (tm0 wt mm Z) C) → lv_has ls 4 [(2, .int (nI i)), (0, .ref (Ad 0)), (1, .int (nI Z))] → W p l e (k2_rm 1 23) s m args below meth c H locs 0 0 Q (F0 m 7 ls []) := by
  have hx := S.1
  have hb := S.2.1
  have hml := S.2.2.1
  have hown := S.2.2.2.1
  have hts := S.2.2.2.2
  intro f
  induction f with
  | zero => intro C H locs i ls hf; exact absurd hf (Nat.not_lt_zero _)
  | succ f ih =>
    intro C H locs i ls hf hP hS hB hi0 hv hl
    have hF := fM_B hF0 hB
    have hT := mT_B hT0 hB (by omega)
    refine lv_iload_n hx hb dX5_make_7 rfl (lv_at hl 0 rfl) ?_
    refine lv_aload_n hx hb dX5_make_8 rfl (lv_at hl 1 rfl) ?_
    refine pw_get hx hb hts (fun _ h9 => List.mem_cons_of_mem _ (List.mem_append_right _ h9)) hown hK hP 0 rfl rfl 5 (by decide) hF rfl (hts (.fieldLink RX5 23 "PastDrawsModel" "things" "I") (List.mem_of_getElem? (i := 1) rfl)) dX5_make_9 ?_
    refine pn_icmp_ge (tgt := 59) hx hb (by omega) (by omega) dX5_make_12 (by decide) (fun c_12 => ?_) (fun c_12 => ?_)
    · obtain rfl : i = mm := by omega
      exact hk C H locs ls hP hS ⟨hB, hv⟩ (lv_sub hl [1, 2] rfl)
    · refine lv_aload_n hx hb dX5_make_15 rfl (lv_at hl 1 rfl) ?_
      refine pw_get hx hb hts (fun _ h9 => List.mem_cons_of_mem _ (List.mem_append_right _ h9)) hown hK hP 0 rfl rfl 18 (by decide) hF rfl (hts (.fieldLink RX5 58 "PastDrawsModel" "rest" "[I") (List.mem_of_getElem? (i := 2) rfl)) dX5_make_16 ?_
      refine lv_iload_n hx hb dX5_make_19 rfl (lv_at hl 0 rfl) ?_
      refine lv_aload_n hx hb dX5_make_20 rfl (lv_at hl 1 rfl) ?_
      refine pw_get hx hb hts (fun _ h9 => List.mem_cons_of_mem _ (List.mem_append_right _ h9)) hown hK hP 0 rfl rfl 5 (by decide) hF rfl (hts (.fieldLink RX5 23 "PastDrawsModel" "things" "I") (List.mem_of_getElem? (i := 1) rfl)) dX5_make_21 ?_
      refine lv_aload_n hx hb dX5_make_24 rfl (lv_at hl 1 rfl) ?_
      refine pw_get hx hb hts (fun _ h9 => List.mem_cons_of_mem _ (List.mem_append_right _ h9)) hown hK hP 0 rfl rfl 6 (by decide) hF rfl (hts (.fieldLink RX5 27 "PastDrawsModel" "weights" "[I") (List.mem_of_getElem? (i := 3) rfl)) dX5_make_25 ?_
      refine lv_iload_n hx hb dX5_make_28 rfl (lv_at hl 0 rfl) ?_
      refine pw_iald hx hb hK hP 5 rfl (by omega) (by decide) (v := nI (wt i)) (hT i (by omega)).2 dX5_make_29 ?_
      refine lv_imul hx hb dX5_make_30 ?_
      refine pw_topi (pk_mul _ _) ?_
      refine pw_iast hx hb hK hP hI hS 15 rfl (by omega) (by decide) dX5_make_31 (fun H locs hP hS => ?_)
      obtain ⟨C31, hC31⟩ : ∃ z9, z9 = pw_setI C 15 i (nI (mm * (wt i))) := ⟨_, rfl⟩
      rw [← hC31] at hP
      have hB := by have hB9 := hB; exact (show pw_B (fun k => 13 ≤ k ∧ k ≤ 16) C0 C31 by rw [hC31]; exact hB9.setI (by show 13 ≤ 15 ∧ 15 ≤ 16; first | trivial | omega))
      have hF := fM_B hF0 hB
      have hT := mT_B hT0 hB (by omega)
      refine lv_aload_n hx hb dX5_make_32 rfl (lv_at hl 1 rfl) ?_
      refine pw_get hx hb hts (fun _ h9 => List.mem_cons_of_mem _ (List.mem_append_right _ h9)) hown hK hP 0 rfl rfl 19 (by decide) hF rfl (hts (.fieldLink RX5 61 "PastDrawsModel" "isMade" "[Z") (List.mem_of_getElem? (i := 4) rfl)) dX5_make_33 ?_
      refine lv_iload_n hx hb dX5_make_36 rfl (lv_at hl 0 rfl) ?_
      refine lv_iconst (v := nI 0) hx hb dX5_make_37 (by decide) ?_
      refine pw_topi (y := pb false) rfl ?_
      refine pw_zast hx hb hK hP hI hS 16 rfl (by omega) (by decide) (pb_nar _) dX5_make_38 (fun H locs hP hS => ?_)
      obtain ⟨C38, hC38⟩ : ∃ z9, z9 = pw_setI C31 16 i (pb false) := ⟨_, rfl⟩
      rw [← hC38] at hP
      have hB := by have hB9 := hB; exact (show pw_B (fun k => 13 ≤ k ∧ k ≤ 16) C0 C38 by rw [hC38]; exact hB9.setI (by show 13 ≤ 16 ∧ 16 ≤ 16; first | trivial | omega))
      have hF := fM_B hF0 hB
      have hT := mT_B hT0 hB (by omega)
      refine lv_aload_n hx hb dX5_make_39 rfl (lv_at hl 1 rfl) ?_
      refine pw_get hx hb hts (fun _ h9 => List.mem_cons_of_mem _ (List.mem_append_right _ h9)) hown hK hP 0 rfl rfl 16 (by decide) hF rfl (hts (.fieldLink RX5 52 "PastDrawsModel" "limit" "[I") (List.mem_of_getElem? (i := 5) rfl)) dX5_make_40 ?_
      refine lv_iload_n hx hb dX5_make_43 rfl (lv_at hl 0 rfl) ?_
      refine lv_iload_n hx hb dX5_make_44 rfl (lv_at hl 2 rfl) ?_
      refine pw_iast hx hb hK hP hI hS 13 rfl (by omega) (by decide) dX5_make_45 (fun H locs hP hS => ?_)
      obtain ⟨C45, hC45⟩ : ∃ z9, z9 = pw_setI C38 13 i (nI Z) := ⟨_, rfl⟩
      rw [← hC45] at hP
      have hB := by have hB9 := hB; exact (show pw_B (fun k => 13 ≤ k ∧ k ≤ 16) C0 C45 by rw [hC45]; exact hB9.setI (by show 13 ≤ 13 ∧ 13 ≤ 16; first | trivial | omega))
      have hF := fM_B hF0 hB
      have hT := mT_B hT0 hB (by omega)
      refine lv_aload_n hx hb dX5_make_46 rfl (lv_at hl 1 rfl) ?_
      refine pw_get hx hb hts (fun _ h9 => List.mem_cons_of_mem _ (List.mem_append_right _ h9)) hown hK hP 0 rfl rfl 17 (by decide) hF rfl (hts (.fieldLink RX5 55 "PastDrawsModel" "other" "[I") (List.mem_of_getElem? (i := 6) rfl)) dX5_make_47 ?_
      refine lv_iload_n hx hb dX5_make_50 rfl (lv_at hl 0 rfl) ?_
      refine lv_iload_n hx hb dX5_make_51 rfl (lv_at hl 0 rfl) ?_
      refine pw_iast hx hb hK hP hI hS 14 rfl (by omega) (by decide) dX5_make_52 (fun H locs hP hS => ?_)
      obtain ⟨C52, hC52⟩ : ∃ z9, z9 = pw_setI C45 14 i (nI i) := ⟨_, rfl⟩
      rw [← hC52] at hP
      have hB := by have hB9 := hB; exact (show pw_B (fun k => 13 ≤ k ∧ k ≤ 16) C0 C52 by rw [hC52]; exact hB9.setI (by show 13 ≤ 14 ∧ 14 ≤ 16; first | trivial | omega))
      have hF := fM_B hF0 hB
      have hT := mT_B hT0 hB (by omega)
      refine lv_iinc (v := nI (i + 1)) (lv' := [(2, .int (nI (i + 1))), (0, .ref (Ad 0)), (1, .int (nI Z))]) hx hb dX5_make_53 hl (k := 0) rfl (nI_add _ 1) (by decide) rfl (fun ls hl => ?_)
      refine lv_goto (tgt := 7) hx hb dX5_make_56 (by decide) ?_
      exact ih C52 H locs (i + 1) ls (by omega) hP hS hB (by omega) (fun j hj => by
        rw [hC52, hC45, hC38, hC31]
        refine ⟨?_, ?_, ?_, ?_⟩
        · rw [si_ne (by decide), si_ne (by decide), si_ne (by decide), si_at]
          by_cases q : j = i
          · rw [if_pos q, q]; rfl
          · rw [if_neg q]; exact (hv j (by omega)).1
        · rw [si_ne (by decide), si_at]
          by_cases q : j = i
          · rw [if_pos q]; rfl
          · rw [if_neg q, si_ne (by decide), si_ne (by decide)]; exact (hv j (by omega)).2.1
        · rw [si_at]
          by_cases q : j = i
          · rw [if_pos q, q]; rfl
          · rw [if_neg q, si_ne (by decide), si_ne (by decide), si_ne (by decide)]; exact (hv j (by omega)).2.2.1
        · rw [si_ne (by decide), si_ne (by decide), si_at]
          by_cases q : j = i
          · rw [if_pos q]; rfl
          · rw [if_neg q, si_ne (by decide)]; exact (hv j (by omega)).2.2.2) (lv_sub hl [0, 1, 2] rfl)

set_option maxHeartbeats 4000000 in
set_option maxRecDepth 100000 in
theorem L5_make {p : Program} {l : Launch} {e : Env} {s : State} {m : MethodId} {args : Array Value} {below : List Frame} {meth : Method} {c : Code} {Q : State → Prop} (S : CallFix p m c cX5_make 4 s args wsX5_make RX5) {D : va_G} {cy : Nat → ClassId} {Ad : Nat → Nat} {n mm : Nat} {pk : Int64} {tr : Int32} {C0 : pw_C} (hK : pw_K D cy s) (hI : pw_I Ad shM) (hF0 : fM n mm pk tr Ad C0) (hn : 1 ≤ n ∧ n ≤ 12) (hmm : 1 ≤ mm ∧ mm ≤ 16) (Z : Nat) (hZ : Z ≤ 16000) (T9 : tbT) (hq : ∀ (pc9 : Nat) (C : pw_C) (H : Heap) (locs : List Loc) (ls : Array Slot), decode cX5_make pc9 = .ok (.return_, 1) → pw_P D cy Ad shM C H → va_S (pw_fr Ad shM) s.heap H locs → (pw_B (fun k => 13 ≤ k ∧ k ≤ 16) C0 C ∧ gTm mm T9 C) → W p l e (k2_rm 1 23) s m args below meth c H locs 0 0 Q (F0 m pc9 ls [])) : ∀ (f : Nat) (C : pw_C) (H : Heap) (locs : List Loc) (g : Nat) (T : tbT) (ls : Array Slot), un T.2.2.2 mm < f → (pw_P D cy Ad shM C H) → (va_S (pw_fr Ad shM) s.heap H locs) → (pw_B (fun k => 13 ≤ k ∧ k ≤ 16) C0 C) → (gTm mm T C) → (TI mm Z T) → (un T.2.2.2 mm ≤ g) → (tmF mm Z g T = T9) → lv_has ls 4 [(2, .int (oi (tmu mm Z T))), (0, .ref (Ad 0)), (1, .int (nI Z))] → W p l e (k2_rm 1 23) s m args below meth c H locs 0 0 Q (F0 m 66 ls []) := by
  have hx := S.1
  have hb := S.2.1
  have hml := S.2.2.1
  have hown := S.2.2.2.1
  have hts := S.2.2.2.2
  intro f
  induction f with
  | zero => intro C H locs g T ls hf; exact absurd hf (Nat.not_lt_zero _)
  | succ f ih =>
    intro C H locs g T ls hf hP hS hB hG hti hun hr0 hl
    have hF := fM_B hF0 hB
    refine lv_iload_n hx hb dX5_make_66 rfl (lv_at hl 0 rfl) ?_
    rcases ho_67 : tmu mm Z T with _ | y_67
    · have hl : lv_has ls 4 [(2, .int (-2)), (0, .ref (Ad 0)), (1, .int (nI Z))] := by have h8 := hl; rw [ho_67] at h8; exact h8
      refine pw_topi (y := (-2)) rfl ?_
      refine lv_if_lt (tgt := 130) hx hb dX5_make_67 (by decide) (fun c_67 => ?_) (fun c_67 => absurd (by decide) c_67)
      rw [tm_none ho_67] at hr0
      exact hq _ C H locs ls dX5_make_130 hP hS ⟨hB, by rw [← hr0]; exact hG⟩
    · have hl : lv_has ls 4 [(2, .int (nI y_67)), (0, .ref (Ad 0)), (1, .int (nI Z))] := by have h8 := hl; rw [ho_67] at h8; exact h8
      have hy_67 : y_67 < mm := by have := fstT_lt _ _ _ ho_67; omega
      refine pw_topi (y := nI y_67) rfl ?_
      refine lv_if_lt (tgt := 130) hx hb dX5_make_67 (by decide) (fun h9 => absurd h9 (nI_pos (by omega))) (fun _ => ?_)
      refine lv_aload_n hx hb dX5_make_70 rfl (lv_at hl 1 rfl) ?_
      refine pw_get hx hb hts (fun _ h9 => List.mem_cons_of_mem _ (List.mem_append_right _ h9)) hown hK hP 0 rfl rfl 19 (by decide) hF rfl (hts (.fieldLink RX5 61 "PastDrawsModel" "isMade" "[Z") (List.mem_of_getElem? (i := 4) rfl)) dX5_make_71 ?_
      refine lv_iload_n hx hb dX5_make_74 rfl (lv_at hl 0 rfl) ?_
      refine lv_iconst (v := nI 1) hx hb dX5_make_75 (by decide) ?_
      refine pw_topi (y := pb true) rfl ?_
      refine pw_zast hx hb hK hP hI hS 16 rfl (by omega) (by decide) (pb_nar _) dX5_make_76 (fun H locs hP hS => ?_)
      obtain ⟨C76, hC76⟩ : ∃ z9, z9 = pw_setI C 16 y_67 (pb true) := ⟨_, rfl⟩
      rw [← hC76] at hP
      have hB := by have hB9 := hB; exact (show pw_B (fun k => 13 ≤ k ∧ k ≤ 16) C0 C76 by rw [hC76]; exact hB9.setI (by show 13 ≤ 16 ∧ 16 ≤ 16; first | trivial | omega))
      have hF := fM_B hF0 hB
      obtain ⟨hi, hhi⟩ := TI_hi (by omega) hti ho_67
      have hlo := tmu_sp (show Z < 2 ^ 31 by omega) ho_67
      have hhs := tmo_sp (show Z < 2 ^ 31 by omega) hhi
      have hGB : gTm mm (tmB T y_67) C76 := fun j hj => by
        rw [hC76]
        refine ⟨?_, ?_, ?_, ?_⟩
        · rw [si_ne (by decide)]; exact (hG j hj).1
        · rw [si_ne (by decide)]; exact (hG j hj).2.1
        · rw [si_ne (by decide)]; exact (hG j hj).2.2.1
        · rw [si_at]
          show _ = pb (if j = y_67 then true else T.2.2.2 j)
          by_cases q : j = y_67
          · rw [if_pos q, if_pos q]
          · rw [if_neg q, if_neg q]; exact (hG j hj).2.2.2
      refine lv_aload_n hx hb dX5_make_77 rfl (lv_at hl 1 rfl) ?_
      refine lv_iload_n hx hb dX5_make_78 rfl (lv_at hl 2 rfl) ?_
      refine lv_iconst (v := nI 0) hx hb dX5_make_79 (by decide) ?_
      refine pw_cv S hK hP 0 5 rfl rfl 2 (c_X5_first_f l D cy Ad n mm pk tr C76 hn hF (tmB T y_67) hGB Z hmm) gX5_make_X5_first rfl rfl rfl (by decide +kernel) ⟨Nat.le_of_ble_eq_true rfl, Nat.le_of_ble_eq_true rfl⟩ rfl hl.1 rfl (Nat.le_of_ble_eq_true rfl) dX5_make_80 ⟨Nat.le_refl _, Nat.le_refl _⟩ ?_
      refine pw_topi (y := nI hi) (by rw [tmo_B (by omega) ho_67, hhi]; rfl) ?_
      refine lv_istore_n (lv' := [(3, .int (nI hi)), (2, .int (nI y_67)), (0, .ref (Ad 0)), (1, .int (nI Z))]) hx hb dX5_make_83 rfl hl (by decide) rfl (fun ls hl => ?_)
      refine lv_aload_n hx hb dX5_make_84 rfl (lv_at hl 2 rfl) ?_
      refine pw_get hx hb hts (fun _ h9 => List.mem_cons_of_mem _ (List.mem_append_right _ h9)) hown hK hP 0 rfl rfl 16 (by decide) hF rfl (hts (.fieldLink RX5 52 "PastDrawsModel" "limit" "[I") (List.mem_of_getElem? (i := 5) rfl)) dX5_make_85 ?_
      refine lv_iload_n hx hb dX5_make_88 rfl (lv_at hl 1 rfl) ?_
      refine lv_aload_n hx hb dX5_make_89 rfl (lv_at hl 2 rfl) ?_
      refine pw_get hx hb hts (fun _ h9 => List.mem_cons_of_mem _ (List.mem_append_right _ h9)) hown hK hP 0 rfl rfl 18 (by decide) hF rfl (hts (.fieldLink RX5 58 "PastDrawsModel" "rest" "[I") (List.mem_of_getElem? (i := 2) rfl)) dX5_make_90 ?_
      refine lv_iload_n hx hb dX5_make_93 rfl (lv_at hl 1 rfl) ?_
      refine pw_iald hx hb hK hP 15 rfl (by omega) (by decide) (v := T.1 y_67) (hGB _ hy_67).1 dX5_make_94 ?_
      refine pw_iast hx hb hK hP hI hS 13 rfl (by omega) (by decide) dX5_make_95 (fun H locs hP hS => ?_)
      obtain ⟨C95, hC95⟩ : ∃ z9, z9 = pw_setI C76 13 y_67 (T.1 y_67) := ⟨_, rfl⟩
      rw [← hC95] at hP
      have hB := by have hB9 := hB; exact (show pw_B (fun k => 13 ≤ k ∧ k ≤ 16) C0 C95 by rw [hC95]; exact hB9.setI (by show 13 ≤ 13 ∧ 13 ≤ 16; first | trivial | omega))
      have hF := fM_B hF0 hB
      refine lv_aload_n hx hb dX5_make_96 rfl (lv_at hl 2 rfl) ?_
      refine pw_get hx hb hts (fun _ h9 => List.mem_cons_of_mem _ (List.mem_append_right _ h9)) hown hK hP 0 rfl rfl 17 (by decide) hF rfl (hts (.fieldLink RX5 55 "PastDrawsModel" "other" "[I") (List.mem_of_getElem? (i := 6) rfl)) dX5_make_97 ?_
      refine lv_iload_n hx hb dX5_make_100 rfl (lv_at hl 1 rfl) ?_
      refine lv_iload_n hx hb dX5_make_101 rfl (lv_at hl 0 rfl) ?_
      refine pw_iast hx hb hK hP hI hS 14 rfl (by omega) (by decide) dX5_make_102 (fun H locs hP hS => ?_)
      obtain ⟨C102, hC102⟩ : ∃ z9, z9 = pw_setI C95 14 y_67 (nI hi) := ⟨_, rfl⟩
      rw [← hC102] at hP
      have hB := by have hB9 := hB; exact (show pw_B (fun k => 13 ≤ k ∧ k ≤ 16) C0 C102 by rw [hC102]; exact hB9.setI (by show 13 ≤ 14 ∧ 14 ≤ 16; first | trivial | omega))
      have hF := fM_B hF0 hB
      refine lv_aload_n hx hb dX5_make_103 rfl (lv_at hl 2 rfl) ?_
      refine pw_get hx hb hts (fun _ h9 => List.mem_cons_of_mem _ (List.mem_append_right _ h9)) hown hK hP 0 rfl rfl 18 (by decide) hF rfl (hts (.fieldLink RX5 58 "PastDrawsModel" "rest" "[I") (List.mem_of_getElem? (i := 2) rfl)) dX5_make_104 ?_
      refine lv_iload_n hx hb dX5_make_107 rfl (lv_at hl 0 rfl) ?_
      refine lv_dup2_11 hx hb dX5_make_108 rfl rfl ?_
      refine pw_iald hx hb hK hP 15 rfl (by omega) (by decide) (v := T.1 hi) (by rw [hC102, si_ne (by decide), hC95, si_ne (by decide)]; exact (hGB _ hhs.1).1) dX5_make_109 ?_
      refine lv_iload_n hx hb dX5_make_110 rfl (lv_at hl 3 rfl) ?_
      refine lv_aload_n hx hb dX5_make_111 rfl (lv_at hl 2 rfl) ?_
      refine pw_get hx hb hts (fun _ h9 => List.mem_cons_of_mem _ (List.mem_append_right _ h9)) hown hK hP 0 rfl rfl 16 (by decide) hF rfl (hts (.fieldLink RX5 52 "PastDrawsModel" "limit" "[I") (List.mem_of_getElem? (i := 5) rfl)) dX5_make_112 ?_
      refine lv_iload_n hx hb dX5_make_115 rfl (lv_at hl 1 rfl) ?_
      refine pw_iald hx hb hK hP 13 rfl (by omega) (by decide) (v := T.1 y_67) (by rw [hC102, si_ne (by decide), hC95, si_at, if_pos rfl]) dX5_make_116 ?_
      refine lv_isub hx hb dX5_make_117 ?_
      refine lv_isub hx hb dX5_make_118 ?_
      refine pw_iast hx hb hK hP hI hS 15 rfl (by omega) (by decide) dX5_make_119 (fun H locs hP hS => ?_)
      obtain ⟨C119, hC119⟩ : ∃ z9, z9 = pw_setI C102 15 hi ((T.1 hi) - ((nI Z) - (T.1 y_67))) := ⟨_, rfl⟩
      rw [← hC119] at hP
      have hB := by have hB9 := hB; exact (show pw_B (fun k => 13 ≤ k ∧ k ≤ 16) C0 C119 by rw [hC119]; exact hB9.setI (by show 13 ≤ 15 ∧ 15 ≤ 16; first | trivial | omega))
      have hF := fM_B hF0 hB
      have hG2 : gTm mm (tm1 Z T y_67 hi) C119 := fun j hj => by
        rw [hC119, hC102, hC95]
        refine ⟨?_, ?_, ?_, ?_⟩
        · rw [si_at]
          show _ = if j = hi then _ else _
          by_cases q : j = hi
          · rw [if_pos q, if_pos q]
          · rw [if_neg q, if_neg q, si_ne (by decide), si_ne (by decide)]; exact (hGB j hj).1
        · rw [si_ne (by decide), si_ne (by decide), si_at]
          show _ = if j = y_67 then _ else _
          by_cases q : j = y_67
          · rw [if_pos q, if_pos q]
          · rw [if_neg q, if_neg q]; exact (hGB j hj).2.1
        · rw [si_ne (by decide), si_at]
          show _ = if j = y_67 then _ else _
          by_cases q : j = y_67
          · rw [if_pos q, if_pos q]
          · rw [if_neg q, if_neg q, si_ne (by decide)]; exact (hGB j hj).2.2.1
        · rw [si_ne (by decide), si_ne (by decide), si_ne (by decide)]; exact (hGB j hj).2.2.2
      refine lv_aload_n hx hb dX5_make_120 rfl (lv_at hl 2 rfl) ?_
      refine lv_iload_n hx hb dX5_make_121 rfl (lv_at hl 3 rfl) ?_
      refine lv_iconst (v := nI 1) hx hb dX5_make_122 (by decide) ?_
      refine pw_cv S hK hP 0 5 rfl rfl 2 (c_X5_first_t l D cy Ad n mm pk tr C119 hn hF (tm1 Z T y_67 hi) hG2 Z hmm) gX5_make_X5_first rfl rfl rfl (by decide +kernel) ⟨Nat.le_of_ble_eq_true rfl, Nat.le_of_ble_eq_true rfl⟩ rfl hl.1 rfl (Nat.le_of_ble_eq_true rfl) dX5_make_123 ⟨Nat.le_refl _, Nat.le_refl _⟩ ?_
      refine lv_istore_n (lv' := [(2, .int (oi (tmu mm Z (tm1 Z T y_67 hi)))), (3, .int (nI hi)), (0, .ref (Ad 0)), (1, .int (nI Z))]) hx hb dX5_make_126 rfl hl (by decide) rfl (fun ls hl => ?_)
      refine lv_goto (tgt := 66) hx hb dX5_make_127 (by decide) ?_
      have hu1 := un_set hlo.2.1 mm
      rw [if_pos hlo.1] at hu1
      obtain ⟨f9, hf9⟩ : ∃ f9, g = f9 + 1 := ⟨g - 1, by omega⟩
      rw [hf9, tm_some ho_67 hhi] at hr0
      have hu2 : un (tm1 Z T y_67 hi).2.2.2 mm + 1 = un T.2.2.2 mm := hu1
      exact ih C119 H locs f9 (tm1 Z T y_67 hi) ls (by omega) hP hS hB hG2 (TI_step (by omega) hti ho_67 hhi) (by omega) hr0 (lv_sub hl [0, 2, 3] rfl)

set_option maxHeartbeats 4000000 in
set_option maxRecDepth 100000 in
theorem c_X5_make (l : Launch) (D : va_G) (cy : Nat → ClassId) (Ad : Nat → Nat) (n mm : Nat) (pk : Int64) (tr : Int32) (C : pw_C) (hI : pw_I Ad shM) (hn : 1 ≤ n ∧ n ≤ 12) (hF : fM n mm pk tr Ad C) (wt : Nat → Nat) (hT : mT mm wt C) (hmm : 1 ≤ mm ∧ mm ≤ 16) : Met l yX5_make wsX5_make (k2_rm 1 23) (pw_Pre ([.ref (Ad 0)]) D cy Ad shM C) (pw_Post (fun r9 C' => r9 = none ∧ (pw_B (fun k => 13 ≤ k ∧ k ≤ 16) C C' ∧ gTm mm (tmK wt mm (smF wt mm)) C')) D cy Ad shM) 0 0 (pw_fr Ad shM) := by
  refine Met.ofW (cc := cX5_make) (maxL := 4) (ret := none) (by decide) rfl ?_
  intro p e s m args below meth c s₁ B hml hv
  obtain ⟨rfl, hP, hK⟩ := hv
  have hx := B.exec
  have hb := B.bytes
  have hr := B.returns
  have hts := atoms_spec (ws := wsX5_make) B.pre
  have hown : s.vm.findClass RX5 = some m.cls := findClass_of_methodNamed B.named
  have hlocks := B.notSynchronized
  have S : CallFix p m c cX5_make 4 s ([.ref (Ad 0)]).toArray wsX5_make RX5 := ⟨hx, hb, hml, hown, hts⟩
  change W p l e (k2_rm 1 23) s m _ below meth c s.heap [] 0 0 _ _
  have hl := lv_entry ([.ref (Ad 0)]) (n := 4) (Nat.le_of_ble_eq_true rfl)
  rw [lg_entry_eq]
  generalize (lg_sl ([.ref (Ad 0)]) ++ List.replicate (4 - (lg_sl ([.ref (Ad 0)])).length) Slot.unset).toArray = ls at hl ⊢
  have hl : lv_has ls 4 [(0, .ref (Ad 0))] := hl
  have hS : va_S (pw_fr Ad shM) s.heap s.heap [] := va_S.rf
  have hF0 := hF
  refine lv_aload_n hx hb dX5_make_0 rfl (lv_at hl 0 rfl) ?_
  refine pw_cv S hK hP 0 5 rfl rfl 0 (c_X5_sum l D cy Ad n mm pk tr C hn hF wt hT hmm) gX5_make_X5_sum rfl rfl rfl (by decide +kernel) ⟨Nat.le_of_ble_eq_true rfl, Nat.le_of_ble_eq_true rfl⟩ rfl hl.1 rfl (Nat.le_of_ble_eq_true rfl) dX5_make_1 ⟨Nat.le_refl _, Nat.le_refl _⟩ ?_
  refine lv_istore_n (lv' := [(1, .int (nI (smF wt mm))), (0, .ref (Ad 0))]) hx hb dX5_make_4 rfl hl (by decide) rfl (fun ls hl => ?_)
  refine lv_iconst (v := nI 0) hx hb dX5_make_5 (by decide) ?_
  refine lv_istore_n (lv' := [(2, .int (nI 0)), (1, .int (nI (smF wt mm))), (0, .ref (Ad 0))]) hx hb dX5_make_6 rfl hl (by decide) rfl (fun ls hl => ?_)
  refine L5_make_a S hK hI hF hn hT hmm (smF wt mm) (fun C1 H locs ls hP hS hR hl => ?_) (mm + 1) C s.heap [] 0 ls (by omega) hP hS pw_B.rf (by omega) (fun j hj => by omega) (lv_sub hl [0, 2, 1] rfl)
  have hF := fM_B hF hR.1
  have hsm := smF_le (fun j hj => (hT j hj).1) mm (Nat.le_refl _)
  refine lv_aload_n hx hb dX5_make_59 rfl (lv_at hl 0 rfl) ?_
  refine lv_iload_n hx hb dX5_make_60 rfl (lv_at hl 1 rfl) ?_
  refine lv_iconst (v := nI 1) hx hb dX5_make_61 (by decide) ?_
  refine pw_cv S hK hP 0 5 rfl rfl 2 (c_X5_first_t l D cy Ad n mm pk tr C1 hn hF (tm0 wt mm (smF wt mm)) hR.2 (smF wt mm) hmm) gX5_make_X5_first rfl rfl rfl (by decide +kernel) ⟨Nat.le_of_ble_eq_true rfl, Nat.le_of_ble_eq_true rfl⟩ rfl hl.1 rfl (Nat.le_of_ble_eq_true rfl) dX5_make_62 ⟨Nat.le_refl _, Nat.le_refl _⟩ ?_
  refine lv_istore_n (lv' := [(2, .int (oi (tmu mm (smF wt mm) (tm0 wt mm (smF wt mm))))), (0, .ref (Ad 0)), (1, .int (nI (smF wt mm)))]) hx hb dX5_make_65 rfl hl (by decide) rfl (fun ls hl => ?_)
  exact L5_make S hK hI hF0 hn hmm (smF wt mm) (by omega) _ (fun pc9 C9 H9 locs9 ls9 hd9 hP9 hS9 hR9 => W.vret hx hb hr (fun t ht _ => ⟨⟨none, C9, rfl, ⟨rfl, hR9⟩, by rw [ht]; exact hP9⟩, hS9.F ht⟩) hS9.2.2 hd9) (mm + 1) C1 H locs mm (tm0 wt mm (smF wt mm)) ls (by have := un_le (tm0 wt mm (smF wt mm)).2.2.2 mm; omega) hP hS hR.1 hR.2 (TI_0 hmm.2 (fun j hj => (hT j hj).1)) (un_le _ _) rfl (lv_sub hl [0, 1, 2] rfl)

set_option maxHeartbeats 4000000 in
set_option maxRecDepth 100000 in
theorem c_X5_cell (l : Launch) (D : va_G) (cy : Nat → ClassId) (Ad : Nat → Nat) (n mm : Nat) (C : pw_C) (hI : pw_I Ad shM) (hn : 1 ≤ n ∧ n ≤ 12) (hmm : 1 ≤ mm ∧ mm ≤ 16) (nx : Nat → Nat → Nat) (mx : Nat → Nat → Option Nat) (en : Nat → Bool) (am wt : Nat → Nat) (hX : MI n mm nx mx en am wt Ad C) (a b : Int32) : Met l yX5_cell wsX5_cell (k2_rm 2 46) (pw_Pre ([.ref (Ad 0), .int a, .int b]) D cy Ad shM C) (pw_Post (fun r9 C' => r9 = some (.int (f_cell mm wt a b)) ∧ (MI n mm nx mx en am wt Ad C')) D cy Ad shM) 0 0 (pw_fr Ad shM) := by
  refine Met.ofW (cc := cX5_cell) (maxL := 3) (ret := (some .int)) (by decide) rfl ?_
  intro p e s m args below meth c s₁ B hml hv
  obtain ⟨rfl, hP, hK⟩ := hv
  have hx := B.exec
  have hb := B.bytes
  have hr := B.returns
  have hts := atoms_spec (ws := wsX5_cell) B.pre
  have hown : s.vm.findClass RX5 = some m.cls := findClass_of_methodNamed B.named
  have hlocks := B.notSynchronized
  have S : CallFix p m c cX5_cell 3 s ([.ref (Ad 0), .int a, .int b]).toArray wsX5_cell RX5 := ⟨hx, hb, hml, hown, hts⟩
  change W p l e (k2_rm 2 46) s m _ below meth c s.heap [] 0 0 _ _
  have hl := lv_entry ([.ref (Ad 0), .int a, .int b]) (n := 3) (Nat.le_of_ble_eq_true rfl)
  rw [lg_entry_eq]
  generalize (lg_sl ([.ref (Ad 0), .int a, .int b]) ++ List.replicate (3 - (lg_sl ([.ref (Ad 0), .int a, .int b])).length) Slot.unset).toArray = ls at hl ⊢
  have hl : lv_has ls 3 [(0, .ref (Ad 0)), (1, .int a), (2, .int b)] := hl
  have hS : va_S (pw_fr Ad shM) s.heap s.heap [] := va_S.rf
  obtain ⟨⟨pk, tr, hF⟩, hN, hM, hE, hA, hT⟩ := id hX
  refine lv_aload_n hx hb dX5_cell_0 rfl (lv_at hl 0 rfl) ?_
  refine lv_iload_n hx hb dX5_cell_1 rfl (lv_at hl 1 rfl) ?_
  refine pw_cv S hK hP 0 5 rfl rfl 1 (c_X5_isThing l D cy Ad n mm pk tr C hn hF a hmm) gX5_cell_X5_isThing rfl rfl rfl (by decide +kernel) ⟨Nat.le_of_ble_eq_true rfl, Nat.le_of_ble_eq_true rfl⟩ rfl hl.1 rfl (Nat.le_of_ble_eq_true rfl) dX5_cell_2 ⟨Nat.le_refl _, Nat.le_refl _⟩ ?_
  refine pn_ifeq_b (tgt := 20) hx hb dX5_cell_5 (by decide) (fun c_5 => ?_) (fun c_5 => ?_)
  · refine lv_iconst (v := (-1)) hx hb dX5_cell_20 (by decide) ?_
    refine pw_topi (y := f_cell mm wt a b) (by unfold f_cell; first | simp [c_5, c_17] | simp [c_5]) ?_
    exact W.iret hx hb hr (fun t ht _ => ⟨⟨_, C, rfl, ⟨rfl, hX⟩, by rw [ht]; exact hP⟩, hS.F ht⟩) hS.2.2 dX5_cell_21
  · refine lv_iload_n hx hb dX5_cell_8 rfl (lv_at hl 2 rfl) ?_
    refine lv_i2l hx hb dX5_cell_9 rfl ?_
    refine lv_lconst (v := 0) hx hb dX5_cell_10 (by decide) ?_
    refine lv_ldc2 hx hb hown (hts (.constantLong RX5 180 (2)) (List.mem_of_getElem? (i := 1) rfl)) dX5_cell_11 ?_
    refine pw_cs S 3 (c_X5_in l b.toInt64 0 (2)) gX5_cell_X5_in rfl rfl rfl (by decide +kernel) ⟨Nat.le_of_ble_eq_true rfl, Nat.le_of_ble_eq_true rfl⟩ rfl hl.1 rfl (Nat.le_of_ble_eq_true rfl) dX5_cell_14 ⟨Nat.le_refl _, Nat.le_refl _⟩ ?_
    refine pw_topi (y := pb (wi b (nI 0) (nI 2))) (congrArg pb (wl_wi _ (nI 0) (nI 2) (by first | rfl | decide) (by first | rfl | decide))) ?_
    refine pn_ifne_b (tgt := 22) hx hb dX5_cell_17 (by decide) (fun c_17 => ?_) (fun c_17 => ?_)
    · obtain ⟨i, hl_i, hh_i, rfl⟩ := wi_ex (by omega) c_5
      obtain ⟨w, hl_w, hh_w, rfl⟩ := wi_ex (by omega) c_17
      have ix_i : ix (nI i) = i := nI_clamp (by omega)
      have ix_w : ix (nI w) = w := nI_clamp (by omega)
      have hsm := smF_le (fun j hj => (hT j hj).1) mm (Nat.le_refl _)
      refine lv_aload_n hx hb dX5_cell_22 rfl (lv_at hl 0 rfl) ?_
      refine pw_cv S hK hP 0 5 rfl rfl 0 (c_X5_sum l D cy Ad n mm pk tr C hn hF wt hT hmm) gX5_cell_X5_sum rfl rfl rfl (by decide +kernel) ⟨Nat.le_of_ble_eq_true rfl, Nat.le_of_ble_eq_true rfl⟩ rfl hl.1 rfl (Nat.le_of_ble_eq_true rfl) dX5_cell_23 ⟨Nat.le_refl _, Nat.le_refl _⟩ ?_
      refine pn_ifne_n (tgt := 32) hx hb (by omega) dX5_cell_26 (by decide) (fun c_26 => ?_) (fun c_26 => ?_)
      · refine lv_aload_n hx hb dX5_cell_32 rfl (lv_at hl 0 rfl) ?_
        refine pw_cvW S hK hP 0 5 rfl rfl 0 (c_X5_make l D cy Ad n mm pk tr C hI hn hF wt hT hmm) gX5_cell_X5_make rfl rfl rfl (by decide +kernel) ⟨Nat.le_of_ble_eq_true rfl, Nat.le_of_ble_eq_true rfl⟩ rfl hl.1 rfl (Nat.le_of_ble_eq_true rfl) dX5_cell_33 ⟨Nat.le_refl _, Nat.le_refl _⟩ hS (fun _ h9 => h9) (fun r9 C33 H locs hR hP _ _ hS => ?_)
        obtain ⟨rfl, hR⟩ := hR
        change W p l e _ s m _ below meth c H locs 0 0 _ (F0 m 36 ls [])
        have hX := MI_B hX hR.1 (fun k h => by have h8 : 13 ≤ k ∧ k ≤ 16 := h; omega)
        have hF := fM_B hF hR.1
        have hT := mT_B hT hR.1 (by omega)
        refine lv_iload_n hx hb dX5_cell_36 rfl (lv_at hl 2 rfl) ?_
        refine pn_ifne_n (tgt := 49) hx hb (by omega) dX5_cell_37 (by decide) (fun c_37 => ?_) (fun c_37 => ?_)
        · refine lv_iload_n hx hb dX5_cell_49 rfl (lv_at hl 2 rfl) ?_
          refine lv_iconst (v := nI 1) hx hb dX5_cell_50 (by decide) ?_
          refine pn_icmp_ne (tgt := 63) hx hb (by omega) (by omega) dX5_cell_51 (by decide) (fun c_51 => ?_) (fun c_51 => ?_)
          · refine lv_aload_n hx hb dX5_cell_63 rfl (lv_at hl 0 rfl) ?_
            refine pw_cv S hK hP 0 5 rfl rfl 0 (c_X5_sum l D cy Ad n mm pk tr C33 hn hF wt hT hmm) gX5_cell_X5_sum rfl rfl rfl (by decide +kernel) ⟨Nat.le_of_ble_eq_true rfl, Nat.le_of_ble_eq_true rfl⟩ rfl hl.1 rfl (Nat.le_of_ble_eq_true rfl) dX5_cell_64 ⟨Nat.le_refl _, Nat.le_refl _⟩ ?_
            refine pw_topi (y := f_cell mm wt (nI i) (nI w)) (by unfold f_cell; rw [if_pos (by rw [c_5, c_17]; rfl), ix_i, ix_w, if_neg c_26, if_pos (by omega)]) ?_
            exact W.iret hx hb hr (fun t ht _ => ⟨⟨_, C33, rfl, ⟨rfl, hX⟩, by rw [ht]; exact hP⟩, hS.F ht⟩) hS.2.2 dX5_cell_67
          · refine lv_aload_n hx hb dX5_cell_54 rfl (lv_at hl 0 rfl) ?_
            refine pw_get hx hb hts (fun _ h9 => List.mem_cons_of_mem _ (List.mem_append_right _ h9)) hown hK hP 0 rfl rfl 17 (by decide) hF rfl (hts (.fieldLink RX5 55 "PastDrawsModel" "other" "[I") (List.mem_of_getElem? (i := 3) rfl)) dX5_cell_55 ?_
            refine lv_iload_n hx hb dX5_cell_58 rfl (lv_at hl 1 rfl) ?_
            refine pw_iald hx hb hK hP 14 rfl (by omega) (by decide) (v := (tmK wt mm (smF wt mm)).2.2.1 i) (hR.2 i (by omega)).2.2.1 dX5_cell_59 ?_
            refine lv_goto (tgt := 67) hx hb dX5_cell_60 (by decide) ?_
            refine pw_topi (y := f_cell mm wt (nI i) (nI w)) (by unfold f_cell; rw [if_pos (by rw [c_5, c_17]; rfl), ix_i, ix_w, if_neg c_26, if_neg (by omega), if_neg c_37]) ?_
            exact W.iret hx hb hr (fun t ht _ => ⟨⟨_, C33, rfl, ⟨rfl, hX⟩, by rw [ht]; exact hP⟩, hS.F ht⟩) hS.2.2 dX5_cell_67
        · refine lv_aload_n hx hb dX5_cell_40 rfl (lv_at hl 0 rfl) ?_
          refine pw_get hx hb hts (fun _ h9 => List.mem_cons_of_mem _ (List.mem_append_right _ h9)) hown hK hP 0 rfl rfl 16 (by decide) hF rfl (hts (.fieldLink RX5 52 "PastDrawsModel" "limit" "[I") (List.mem_of_getElem? (i := 2) rfl)) dX5_cell_41 ?_
          refine lv_iload_n hx hb dX5_cell_44 rfl (lv_at hl 1 rfl) ?_
          refine pw_iald hx hb hK hP 13 rfl (by omega) (by decide) (v := (tmK wt mm (smF wt mm)).2.1 i) (hR.2 i (by omega)).2.1 dX5_cell_45 ?_
          refine lv_goto (tgt := 67) hx hb dX5_cell_46 (by decide) ?_
          refine pw_topi (y := f_cell mm wt (nI i) (nI w)) (by unfold f_cell; rw [if_pos (by rw [c_5, c_17]; rfl), ix_i, ix_w, if_neg c_26, if_neg (by omega), if_pos c_37]) ?_
          exact W.iret hx hb hr (fun t ht _ => ⟨⟨_, C33, rfl, ⟨rfl, hX⟩, by rw [ht]; exact hP⟩, hS.F ht⟩) hS.2.2 dX5_cell_67
      · refine lv_bipush (v := (-2)) hx hb dX5_cell_29 (by decide) ?_
        refine pw_topi (y := f_cell mm wt (nI i) (nI w)) (by unfold f_cell; rw [if_pos (by rw [c_5, c_17]; rfl), ix_i, ix_w, if_pos c_26]) ?_
        exact W.iret hx hb hr (fun t ht _ => ⟨⟨_, C, rfl, ⟨rfl, hX⟩, by rw [ht]; exact hP⟩, hS.F ht⟩) hS.2.2 dX5_cell_31
    · refine lv_iconst (v := (-1)) hx hb dX5_cell_20 (by decide) ?_
      refine pw_topi (y := f_cell mm wt a b) (by unfold f_cell; first | simp [c_5, c_17] | simp [c_5]) ?_
      exact W.iret hx hb hr (fun t ht _ => ⟨⟨_, C, rfl, ⟨rfl, hX⟩, by rw [ht]; exact hP⟩, hS.F ht⟩) hS.2.2 dX5_cell_21

set_option maxHeartbeats 4000000 in
set_option maxRecDepth 100000 in
theorem c_X5_tell (l : Launch) (D : va_G) (cy : Nat → ClassId) (Ad : Nat → Nat) (n mm : Nat) (C : pw_C) (hI : pw_I Ad shM) (hn : 1 ≤ n ∧ n ≤ 12) (hmm : 1 ≤ mm ∧ mm ≤ 16) (nx : Nat → Nat → Nat) (mx : Nat → Nat → Option Nat) (en : Nat → Bool) (am wt : Nat → Nat) (hX : MI n mm nx mx en am wt Ad C) (a : Int32) : Met l yX5_tell wsX5_tell (k2_rm 2 46) (pw_Pre ([.ref (Ad 0), .int a]) D cy Ad shM C) (pw_Post (fun r9 C' => r9 = some (.int (f_tell mm wt a)) ∧ (MI n mm nx mx en am wt Ad C')) D cy Ad shM) 0 0 (pw_fr Ad shM) := by
  refine Met.ofW (cc := cX5_tell) (maxL := 3) (ret := (some .int)) (by decide) rfl ?_
  intro p e s m args below meth c s₁ B hml hv
  obtain ⟨rfl, hP, hK⟩ := hv
  have hx := B.exec
  have hb := B.bytes
  have hr := B.returns
  have hts := atoms_spec (ws := wsX5_tell) B.pre
  have hown : s.vm.findClass RX5 = some m.cls := findClass_of_methodNamed B.named
  have hlocks := B.notSynchronized
  have S : CallFix p m c cX5_tell 3 s ([.ref (Ad 0), .int a]).toArray wsX5_tell RX5 := ⟨hx, hb, hml, hown, hts⟩
  change W p l e (k2_rm 2 46) s m _ below meth c s.heap [] 0 0 _ _
  have hl := lv_entry ([.ref (Ad 0), .int a]) (n := 3) (Nat.le_of_ble_eq_true rfl)
  rw [lg_entry_eq]
  generalize (lg_sl ([.ref (Ad 0), .int a]) ++ List.replicate (3 - (lg_sl ([.ref (Ad 0), .int a])).length) Slot.unset).toArray = ls at hl ⊢
  have hl : lv_has ls 3 [(0, .ref (Ad 0)), (1, .int a)] := hl
  have hS : va_S (pw_fr Ad shM) s.heap s.heap [] := va_S.rf
  obtain ⟨⟨pk, tr, hF⟩, hN, hM, hE, hA, hT⟩ := id hX
  refine lv_aload_n hx hb dX5_tell_0 rfl (lv_at hl 0 rfl) ?_
  refine pw_cv S hK hP 0 5 rfl rfl 0 (c_X5_sum l D cy Ad n mm pk tr C hn hF wt hT hmm) gX5_tell_X5_sum rfl rfl rfl (by decide +kernel) ⟨Nat.le_of_ble_eq_true rfl, Nat.le_of_ble_eq_true rfl⟩ rfl hl.1 rfl (Nat.le_of_ble_eq_true rfl) dX5_tell_1 ⟨Nat.le_refl _, Nat.le_refl _⟩ ?_
  refine lv_istore_n (lv' := [(2, .int (nI (smF wt mm))), (0, .ref (Ad 0)), (1, .int a)]) hx hb dX5_tell_4 rfl hl (by decide) rfl (fun ls hl => ?_)
  have hsm := smF_le (fun j hj => (hT j hj).1) mm (Nat.le_refl _)
  refine lv_iload_n hx hb dX5_tell_5 rfl (lv_at hl 0 rfl) ?_
  refine pn_ifne_n (tgt := 12) hx hb (by omega) dX5_tell_6 (by decide) (fun c_6 => ?_) (fun c_6 => ?_)
  · have hms := Nat.mul_le_mul hmm.2 (show smF wt mm ≤ 16000 by omega)
    have hmp : 1 ≤ mm * smF wt mm := Nat.mul_pos hmm.1 (by omega)
    refine lv_iload_n hx hb dX5_tell_12 rfl (lv_at hl 2 rfl) ?_
    refine lv_i2l hx hb dX5_tell_13 rfl ?_
    refine lv_lconst (v := 0) hx hb dX5_tell_14 (by decide) ?_
    refine lv_aload_n hx hb dX5_tell_15 rfl (lv_at hl 1 rfl) ?_
    refine pw_get hx hb hts (fun _ h9 => List.mem_cons_of_mem _ (List.mem_append_right _ h9)) hown hK hP 0 rfl rfl 5 (by decide) hF rfl (hts (.fieldLink RX5 23 "PastDrawsModel" "things" "I") (List.mem_of_getElem? (i := 1) rfl)) dX5_tell_16 ?_
    refine lv_iload_n hx hb dX5_tell_19 rfl (lv_at hl 0 rfl) ?_
    refine lv_imul hx hb dX5_tell_20 ?_
    refine pw_topi (pk_mul _ _) ?_
    refine lv_iconst (v := nI 1) hx hb dX5_tell_21 (by decide) ?_
    refine lv_isub hx hb dX5_tell_22 ?_
    refine pw_topi (pk_sub (by omega)) ?_
    refine lv_i2l hx hb dX5_tell_23 rfl ?_
    refine pw_cs S 3 (c_X5_in l a.toInt64 0 ((nI ((mm * (smF wt mm)) - 1)).toInt64)) gX5_tell_X5_in rfl rfl rfl (by decide +kernel) ⟨Nat.le_of_ble_eq_true rfl, Nat.le_of_ble_eq_true rfl⟩ rfl hl.1 rfl (Nat.le_of_ble_eq_true rfl) dX5_tell_24 ⟨Nat.le_refl _, Nat.le_refl _⟩ ?_
    refine pw_topi (y := pb (wi a (nI 0) (nI (mm * smF wt mm - 1)))) (congrArg pb (wl_wi _ (nI 0) (nI (mm * smF wt mm - 1)) (by first | rfl | decide) (by first | rfl | decide))) ?_
    refine pn_ifne_b (tgt := 32) hx hb dX5_tell_27 (by decide) (fun c_27 => ?_) (fun c_27 => ?_)
    · obtain ⟨A, -, hA2, rfl⟩ := wi_ex (by omega) c_27
      have ix_A : ix (nI A) = A := nI_clamp (by omega)
      have hq : A / smF wt mm < mm := (Nat.div_lt_iff_lt_mul (by omega)).mpr (by omega)
      refine lv_aload_n hx hb dX5_tell_32 rfl (lv_at hl 1 rfl) ?_
      refine pw_cvW S hK hP 0 5 rfl rfl 0 (c_X5_make l D cy Ad n mm pk tr C hI hn hF wt hT hmm) gX5_tell_X5_make rfl rfl rfl (by decide +kernel) ⟨Nat.le_of_ble_eq_true rfl, Nat.le_of_ble_eq_true rfl⟩ rfl hl.1 rfl (Nat.le_of_ble_eq_true rfl) dX5_tell_33 ⟨Nat.le_refl _, Nat.le_refl _⟩ hS (fun _ h9 => h9) (fun r9 C33 H locs hR hP _ _ hS => ?_)
      obtain ⟨rfl, hR⟩ := hR
      change W p l e _ s m _ below meth c H locs 0 0 _ (F0 m 36 ls [])
      have hX := MI_B hX hR.1 (fun k h => by have h8 : 13 ≤ k ∧ k ≤ 16 := h; omega)
      have hF := fM_B hF hR.1
      have hT := mT_B hT hR.1 (by omega)
      refine lv_iload_n hx hb dX5_tell_36 rfl (lv_at hl 2 rfl) ?_
      refine lv_iload_n hx hb dX5_tell_37 rfl (lv_at hl 0 rfl) ?_
      refine lv_irem hx hb dX5_tell_38 (nI_ne0 (by omega) (by omega)) ?_
      refine pw_topi (y := nI (A % smF wt mm)) (pk_rem (by omega) (by omega) (by omega)) ?_
      refine lv_aload_n hx hb dX5_tell_39 rfl (lv_at hl 1 rfl) ?_
      refine pw_get hx hb hts (fun _ h9 => List.mem_cons_of_mem _ (List.mem_append_right _ h9)) hown hK hP 0 rfl rfl 16 (by decide) hF rfl (hts (.fieldLink RX5 52 "PastDrawsModel" "limit" "[I") (List.mem_of_getElem? (i := 2) rfl)) dX5_tell_40 ?_
      refine lv_iload_n hx hb dX5_tell_43 rfl (lv_at hl 2 rfl) ?_
      refine lv_iload_n hx hb dX5_tell_44 rfl (lv_at hl 0 rfl) ?_
      refine lv_idiv hx hb dX5_tell_45 (nI_ne0 (by omega) (by omega)) ?_
      refine pw_topi (y := nI (A / smF wt mm)) (pk_div (by omega) (by omega) (by omega)) ?_
      refine pw_iald hx hb hK hP 13 rfl (by omega) (by decide) (v := (tmK wt mm (smF wt mm)).2.1 (A / smF wt mm)) (hR.2 _ hq).2.1 dX5_tell_46 ?_
      refine lv_icmp_ge (tgt := 56) hx hb dX5_tell_47 (by decide) (fun c_47 => ?_) (fun c_47 => ?_)
      · refine lv_aload_n hx hb dX5_tell_56 rfl (lv_at hl 1 rfl) ?_
        refine pw_get hx hb hts (fun _ h9 => List.mem_cons_of_mem _ (List.mem_append_right _ h9)) hown hK hP 0 rfl rfl 17 (by decide) hF rfl (hts (.fieldLink RX5 55 "PastDrawsModel" "other" "[I") (List.mem_of_getElem? (i := 3) rfl)) dX5_tell_57 ?_
        refine lv_iload_n hx hb dX5_tell_60 rfl (lv_at hl 2 rfl) ?_
        refine lv_iload_n hx hb dX5_tell_61 rfl (lv_at hl 0 rfl) ?_
        refine lv_idiv hx hb dX5_tell_62 (nI_ne0 (by omega) (by omega)) ?_
        refine pw_topi (y := nI (A / smF wt mm)) (pk_div (by omega) (by omega) (by omega)) ?_
        refine pw_iald hx hb hK hP 14 rfl (by omega) (by decide) (v := (tmK wt mm (smF wt mm)).2.2.1 (A / smF wt mm)) (hR.2 _ hq).2.2.1 dX5_tell_63 ?_
        refine pw_topi (y := f_tell mm wt (nI A)) (by unfold f_tell; rw [if_neg c_6, if_pos c_27, ix_A]; first | rw [if_neg (Int32.not_lt.mpr c_47)] | rw [if_pos (Int32.not_le.mp c_47)]) ?_
        exact W.iret hx hb hr (fun t ht _ => ⟨⟨_, C33, rfl, ⟨rfl, hX⟩, by rw [ht]; exact hP⟩, hS.F ht⟩) hS.2.2 dX5_tell_64
      · refine lv_iload_n hx hb dX5_tell_50 rfl (lv_at hl 2 rfl) ?_
        refine lv_iload_n hx hb dX5_tell_51 rfl (lv_at hl 0 rfl) ?_
        refine lv_idiv hx hb dX5_tell_52 (nI_ne0 (by omega) (by omega)) ?_
        refine pw_topi (y := nI (A / smF wt mm)) (pk_div (by omega) (by omega) (by omega)) ?_
        refine lv_goto (tgt := 64) hx hb dX5_tell_53 (by decide) ?_
        refine pw_topi (y := f_tell mm wt (nI A)) (by unfold f_tell; rw [if_neg c_6, if_pos c_27, ix_A]; first | rw [if_neg (Int32.not_lt.mpr c_47)] | rw [if_pos (Int32.not_le.mp c_47)]) ?_
        exact W.iret hx hb hr (fun t ht _ => ⟨⟨_, C33, rfl, ⟨rfl, hX⟩, by rw [ht]; exact hP⟩, hS.F ht⟩) hS.2.2 dX5_tell_64
    · refine lv_iconst (v := (-1)) hx hb dX5_tell_30 (by decide) ?_
      refine pw_topi (y := f_tell mm wt a) (by unfold f_tell; rw [if_neg c_6, c_27]; rfl) ?_
      exact W.iret hx hb hr (fun t ht _ => ⟨⟨_, C, rfl, ⟨rfl, hX⟩, by rw [ht]; exact hP⟩, hS.F ht⟩) hS.2.2 dX5_tell_31
  · refine lv_bipush (v := (-2)) hx hb dX5_tell_9 (by decide) ?_
    refine pw_topi (y := f_tell mm wt a) (by unfold f_tell; rw [if_pos c_6]) ?_
    exact W.iret hx hb hr (fun t ht _ => ⟨⟨_, C, rfl, ⟨rfl, hX⟩, by rw [ht]; exact hP⟩, hS.F ht⟩) hS.2.2 dX5_tell_11
