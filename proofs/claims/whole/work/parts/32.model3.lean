theorem thr_ltM {n : Nat} {nx : Nat → Nat → Nat} {C : pw_C} (hN : rN n nx C) {a : Int32} : ∀ t x, x < n → thr nx a t x < n := by
  intro t
  induction t with
  | zero => intro x h; exact h
  | succ t ih => intro x h; exact ih _ (hN _ (sgn_lt _ _) _ h).1
theorem mt_mono {n : Nat} {nx : Nat → Nat → Nat} {C : pw_C} (hN : rN n nx C) {a : Int32} (hn : 1 ≤ n) : ∀ t k, mtF (thr nx a t) n = true → mtF (thr nx a (t + k)) n = true := by
  intro t k
  induction k with
  | zero => exact id
  | succ k ih =>
    intro h
    have h2 := mt_iff.mp (ih h)
    refine mt_iff.mpr (fun x hx => ?_)
    show thr nx a (t + k) (nx _ x) = thr nx a (t + k) (nx _ 0)
    rw [h2 _ (hN _ (sgn_lt _ _) _ hx).1, h2 _ (hN _ (sgn_lt _ _) 0 (by omega)).1]
theorem pw2_sp {x : Nat} (hx : x ≤ 4096) : ∃ j, j ≤ 12 ∧ pw2 x = 2 ^ j ∧ x ≤ 2 ^ j ∧ ∀ i, i < j → 2 ^ i < x := by
  have h : ∀ f j, j + f = 13 → (∀ i, i < j → 2 ^ i < x) → j ≤ 12 → ∃ j2, j2 ≤ 12 ∧ pwF f (2 ^ j) x = 2 ^ j2 ∧ x ≤ 2 ^ j2 ∧ ∀ i, i < j2 → 2 ^ i < x := by
    intro f
    induction f with
    | zero => intro j h1 h2 h3; omega
    | succ f ih =>
      intro j h1 h2 h3
      unfold pwF
      by_cases hc : 2 ^ j < x ∧ 2 ^ j < 4096
      · rw [if_pos hc, ← Nat.pow_succ]
        have hj : j < 12 := by
          rcases Nat.lt_or_ge j 12 with q | q
          · exact q
          · have := Nat.pow_le_pow_right (show 0 < 2 by decide) q
            omega
        refine ih (j + 1) (by omega) (fun i hi => ?_) (by omega)
        rcases Nat.lt_or_ge i j with q | q
        · exact h2 i q
        · obtain rfl : i = j := by omega
          exact hc.1
      · rw [if_neg hc]
        refine ⟨j, h3, rfl, ?_, h2⟩
        omega
  exact h 13 0 (by decide) (fun i hi => by omega) (by decide)
theorem pst_hit {n : Nat} {nx : Nat → Nat → Nat} {C : pw_C} (hN : rN n nx C) {a : Int32} (hn : 1 ≤ n) {M j : Nat} (hM : M ≤ 4096) (hj : 2 ^ j ≤ M) (hm : mtF (thr nx a (2 ^ j)) n = true) (hb : ∀ i, i < j → mtF (thr nx a (2 ^ i)) n = false) : pst n nx a M = nI (thr nx a (2 ^ j) 0) := by
  have hp : 1 ≤ 2 ^ j := Nat.pow_pos (by decide)
  unfold pst
  cases hf : fstT (fun t => mtF (thr nx a t) n) M 1 with
  | none =>
    have := fstT_none _ _ hf (2 ^ j) hp (by omega)
    rw [hm] at this; cases this
  | some t =>
    obtain ⟨h1, h2, h3, h4⟩ := fstT_spec _ _ t hf
    have ht : t ≤ 2 ^ j := by
      rcases Nat.lt_or_ge (2 ^ j) t with q | q
      · have := h4 _ hp q
        rw [hm] at this; cases this
      · exact q
    obtain ⟨i, hi, e1, e2, e3⟩ := pw2_sp (x := t) (by omega)
    have hij : i = j := by
      rcases Nat.lt_trichotomy i j with q | q | q
      · have := hb i q
        obtain ⟨k, hk⟩ := Nat.exists_eq_add_of_le e2
        rw [hk, mt_mono hN hn t k h3] at this; cases this
      · exact q
      · have := e3 j q; omega
    subst hij
    show (if M < pw2 t then (-2) else nI (thr nx a (pw2 t) 0)) = _
    rw [e1, if_neg (by omega)]
theorem pst_miss {n : Nat} {nx : Nat → Nat → Nat} {C : pw_C} (hN : rN n nx C) {a : Int32} (hn : 1 ≤ n) {M : Nat} (hM : M ≤ 4096) (hb : ∀ i, 2 ^ i ≤ M → mtF (thr nx a (2 ^ i)) n = false) : pst n nx a M = (-2) := by
  unfold pst
  cases hf : fstT (fun t => mtF (thr nx a t) n) M 1 with
  | none => rfl
  | some t =>
    obtain ⟨h1, h2, h3, h4⟩ := fstT_spec _ _ t hf
    obtain ⟨i, hi, e1, e2, e3⟩ := pw2_sp (x := t) (by omega)
    show (if M < pw2 t then (-2) else nI (thr nx a (pw2 t) 0)) = _
    by_cases hc : M < pw2 t
    · rw [if_pos hc]
    · have := hb i (by omega)
      obtain ⟨k, hk⟩ := Nat.exists_eq_add_of_le e2
      rw [hk, mt_mono hN hn t k h3] at this; cases this

set_option maxHeartbeats 4000000 in
set_option maxRecDepth 100000 in
theorem L5_fold {p : Program} {l : Launch} {e : Env} {s : State} {m : MethodId} {args : Array Value} {below : List Frame} {meth : Method} {c : Code} {Q : State → Prop} (S : CallFix p m c cX5_fold 4 s args wsX5_fold RX5) {D : va_G} {cy : Nat → ClassId} {Ad : Nat → Nat} {n mm : Nat} {pk : Int64} {tr : Int32} {C0 : pw_C} (hK : pw_K D cy s) (hI : pw_I Ad shM) (hF0 : fM n mm pk tr Ad C0) (hn : 1 ≤ n ∧ n ≤ 12) {nx : Nat → Nat → Nat} (hN0 : rN n nx C0) (a : Int32) (most : Nat) (hmo : most ≤ 4096) (r : Option Nat) (hq : ∀ (pc9 : Nat) (C : pw_C) (H : Heap) (locs : List Loc) (ls : Array Slot), decode cX5_fold pc9 = .ok (.ireturn, 1) → pw_P D cy Ad shM C H → va_S (pw_fr Ad shM) s.heap H locs → (pw_B (fun k => k = 6 ∨ k = 7) C0 C) → W p l e (k2_rm 2 45) s m args below meth c H locs 0 0 Q (F0 m pc9 ls [.int (oi r)])) : ∀ (f : Nat) (C : pw_C) (H : Heap) (locs : List Loc) (t : Nat) (ls : Array Slot), most + 1 - t < f → (pw_P D cy Ad shM C H) → (va_S (pw_fr Ad shM) s.heap H locs) → (pw_B (fun k => k = 6 ∨ k = 7) C0 C) → (1 ≤ t) → (t ≤ 4097) → (∀ y, y < n → C.1 6 y = nI (thr nx a (t - 1) y)) → (fstT (fun t => mtF (thr nx a t) n) (most + 1 - t) t = r) → lv_has ls 4 [(3, .int (nI t)), (0, .ref (Ad 0)), (1, .int a), (2, .int (nI most))] → W p l e (k2_rm 2 45) s m args below meth c H locs 0 0 Q (F0 m 15 ls []) := by
  have hx := S.1
  have hb := S.2.1
  have hml := S.2.2.1
  have hown := S.2.2.2.1
  have hts := S.2.2.2.2
  intro f
  induction f with
  | zero => intro C H locs t ls hf; exact absurd hf (Nat.not_lt_zero _)
  | succ f ih =>
    intro C H locs t ls hf hP hS hB ht ht2 hv hr0 hl
    have hF := fM_B hF0 hB
    have hN := rN_B hN0 hB (by omega)
    refine lv_iload_n hx hb dX5_fold_15 rfl (lv_at hl 0 rfl) ?_
    refine lv_iload_n hx hb dX5_fold_16 rfl (lv_at hl 3 rfl) ?_
    refine pn_icmp_gt (tgt := 45) hx hb (by omega) (by omega) dX5_fold_17 (by decide) (fun c_17 => ?_) (fun c_17 => ?_)
    · have hz : most + 1 - t = 0 := by omega
      rw [hz] at hr0
      refine lv_bipush (v := (-2)) hx hb dX5_fold_45 (by decide) ?_
      refine pw_topi (y := oi r) (by rw [← hr0]; try rfl) ?_
      exact hq _ C H locs ls dX5_fold_47 hP hS hB
    · obtain ⟨z, hz⟩ : ∃ z, most + 1 - t = z + 1 := ⟨most - t, by omega⟩
      rw [hz, fstT] at hr0
      refine lv_aload_n hx hb dX5_fold_20 rfl (lv_at hl 1 rfl) ?_
      refine lv_aload_n hx hb dX5_fold_21 rfl (lv_at hl 1 rfl) ?_
      refine lv_iload_n hx hb dX5_fold_22 rfl (lv_at hl 2 rfl) ?_
      refine lv_iload_n hx hb dX5_fold_23 rfl (lv_at hl 0 rfl) ?_
      refine pw_cv S hK hP 0 5 rfl rfl 2 (c_X5_sign l D cy Ad n mm pk tr C hn hF a (nI t)) gX5_fold_X5_sign rfl rfl rfl (by decide +kernel) ⟨Nat.le_of_ble_eq_true rfl, Nat.le_of_ble_eq_true rfl⟩ rfl hl.1 rfl (Nat.le_of_ble_eq_true rfl) dX5_fold_24 ⟨Nat.le_refl _, Nat.le_refl _⟩ ?_
      refine pw_cvW S hK hP 0 5 rfl rfl 1 (c_X5_ahead l D cy Ad n mm pk tr C hI hn hF nx hN (sgn a (nI t)) (sgn_lt _ _) (thr nx a (t - 1)) hv) gX5_fold_X5_ahead rfl rfl rfl (by decide +kernel) ⟨Nat.le_of_ble_eq_true rfl, Nat.le_of_ble_eq_true rfl⟩ rfl hl.1 rfl (Nat.le_of_ble_eq_true rfl) dX5_fold_27 ⟨Nat.le_refl _, Nat.le_refl _⟩ hS (fun _ h9 => h9) (fun r9 C27 H locs hR hP _ _ hS => ?_)
      obtain ⟨rfl, hR⟩ := hR
      change W p l e _ s m _ below meth c H locs 0 0 _ (F0 m 30 ls [])
      have hB := hB.tr hR.1
      have hF := fM_B hF0 hB
      have hN := rN_B hN0 hB (by omega)
      have hv2 : ∀ y, y < n → C27.1 6 y = nI (thr nx a t y) := fun y hy => by
        obtain ⟨t9, rfl⟩ : ∃ t9, t = t9 + 1 := ⟨t - 1, by omega⟩
        exact hR.2 y hy
      refine lv_aload_n hx hb dX5_fold_30 rfl (lv_at hl 1 rfl) ?_
      refine pw_cv S hK hP 0 5 rfl rfl 0 (c_X5_meets l D cy Ad n mm pk tr C27 hn hF (thr nx a t) (fun y hy => ⟨thr_ltM hN t y hy, hv2 y hy⟩)) gX5_fold_X5_meets rfl rfl rfl (by decide +kernel) ⟨Nat.le_of_ble_eq_true rfl, Nat.le_of_ble_eq_true rfl⟩ rfl hl.1 rfl (Nat.le_of_ble_eq_true rfl) dX5_fold_31 ⟨Nat.le_refl _, Nat.le_refl _⟩ ?_
      refine pn_ifeq_b (tgt := 39) hx hb dX5_fold_34 (by decide) (fun c_34 => ?_) (fun c_34 => ?_)
      · rw [if_neg (by rw [c_34]; decide)] at hr0
        have hz2 : z = most + 1 - (t + 1) := by omega
        refine lv_iinc (v := nI (t + 1)) (lv' := [(3, .int (nI (t + 1))), (0, .ref (Ad 0)), (1, .int a), (2, .int (nI most))]) hx hb dX5_fold_39 hl (k := 0) rfl (nI_add _ 1) (by decide) rfl (fun ls hl => ?_)
        refine lv_goto (tgt := 15) hx hb dX5_fold_42 (by decide) ?_
        exact ih C27 H locs (t + 1) ls (by omega) hP hS hB (by omega) (by omega) hv2 (by rw [← hz2]; exact hr0) (lv_sub hl [0, 1, 2, 3] rfl)
      · rw [if_pos c_34] at hr0
        refine lv_iload_n hx hb dX5_fold_37 rfl (lv_at hl 0 rfl) ?_
        refine pw_topi (y := oi r) (by rw [← hr0]; try rfl) ?_
        exact hq _ C27 H locs ls dX5_fold_38 hP hS hB

set_option maxHeartbeats 4000000 in
set_option maxRecDepth 100000 in
theorem c_X5_fold (l : Launch) (D : va_G) (cy : Nat → ClassId) (Ad : Nat → Nat) (n mm : Nat) (C : pw_C) (hI : pw_I Ad shM) (hn : 1 ≤ n ∧ n ≤ 12) (hmm : 1 ≤ mm ∧ mm ≤ 16) (nx : Nat → Nat → Nat) (mx : Nat → Nat → Option Nat) (en : Nat → Bool) (am wt : Nat → Nat) (hX : MI n mm nx mx en am wt Ad C) (a b : Int32) : Met l yX5_fold wsX5_fold (k2_rm 2 45) (pw_Pre ([.ref (Ad 0), .int a, .int b]) D cy Ad shM C) (pw_Post (fun r9 C' => r9 = some (.int (f_fold n nx a b)) ∧ (MI n mm nx mx en am wt Ad C')) D cy Ad shM) 0 0 (pw_fr Ad shM) := by
  refine Met.ofW (cc := cX5_fold) (maxL := 4) (ret := (some .int)) (by decide) rfl ?_
  intro p e s m args below meth c s₁ B hml hv
  obtain ⟨rfl, hP, hK⟩ := hv
  have hx := B.exec
  have hb := B.bytes
  have hr := B.returns
  have hts := atoms_spec (ws := wsX5_fold) B.pre
  have hown : s.vm.findClass RX5 = some m.cls := findClass_of_methodNamed B.named
  have hlocks := B.notSynchronized
  have S : CallFix p m c cX5_fold 4 s ([.ref (Ad 0), .int a, .int b]).toArray wsX5_fold RX5 := ⟨hx, hb, hml, hown, hts⟩
  change W p l e (k2_rm 2 45) s m _ below meth c s.heap [] 0 0 _ _
  have hl := lv_entry ([.ref (Ad 0), .int a, .int b]) (n := 4) (Nat.le_of_ble_eq_true rfl)
  rw [lg_entry_eq]
  generalize (lg_sl ([.ref (Ad 0), .int a, .int b]) ++ List.replicate (4 - (lg_sl ([.ref (Ad 0), .int a, .int b])).length) Slot.unset).toArray = ls at hl ⊢
  have hl : lv_has ls 4 [(0, .ref (Ad 0)), (1, .int a), (2, .int b)] := hl
  have hS : va_S (pw_fr Ad shM) s.heap s.heap [] := va_S.rf
  obtain ⟨⟨pk, tr, hF⟩, hN, hM, hE, hA, hT⟩ := id hX
  refine lv_iload_n hx hb dX5_fold_0 rfl (lv_at hl 2 rfl) ?_
  refine pw_cs S 1 (c_X5_isLong l b) gX5_fold_X5_isLong rfl rfl rfl (by decide +kernel) ⟨Nat.le_of_ble_eq_true rfl, Nat.le_of_ble_eq_true rfl⟩ rfl hl.1 rfl (Nat.le_of_ble_eq_true rfl) dX5_fold_1 ⟨Nat.le_refl _, Nat.le_refl _⟩ ?_
  refine pn_ifne_b (tgt := 9) hx hb dX5_fold_4 (by decide) (fun c_4 => ?_) (fun c_4 => ?_)
  · obtain ⟨most, hl_most, hh_most, rfl⟩ := wi_ex (by omega) c_4
    have ix_most : ix (nI most) = most := nI_clamp (by omega)
    refine lv_aload_n hx hb dX5_fold_9 rfl (lv_at hl 0 rfl) ?_
    refine pw_cvW S hK hP 0 5 rfl rfl 0 (c_X5_begin l D cy Ad n mm pk tr C hI hn hF ) gX5_fold_X5_begin rfl rfl rfl (by decide +kernel) ⟨Nat.le_of_ble_eq_true rfl, Nat.le_of_ble_eq_true rfl⟩ rfl hl.1 rfl (Nat.le_of_ble_eq_true rfl) dX5_fold_10 ⟨Nat.le_refl _, Nat.le_refl _⟩ hS (fun _ h9 => h9) (fun r9 C10 H locs hR hP _ _ hS => ?_)
    obtain ⟨rfl, hR⟩ := hR
    change W p l e _ s m _ below meth c H locs 0 0 _ (F0 m 13 ls [])
    have hB := hR.1.mono (ks2 := fun k => k = 6 ∨ k = 7) (fun _ h => Or.inl h)
    refine lv_iconst (v := nI 1) hx hb dX5_fold_13 (by decide) ?_
    refine lv_istore_n (lv' := [(3, .int (nI 1)), (0, .ref (Ad 0)), (1, .int a), (2, .int (nI most))]) hx hb dX5_fold_14 rfl hl (by decide) rfl (fun ls hl => ?_)
    have ef : f_fold n nx a (nI most) = oi (fstT (fun t => mtF (thr nx a t) n) most 1) := by unfold f_fold; simp [c_4, ix_most]
    rw [ef]
    exact L5_fold S hK hI hF hn hN a most (by omega) _ (fun pc9 C9 H9 locs9 ls9 hd9 hP9 hS9 hR9 => W.iret hx hb hr (fun t ht _ => ⟨⟨_, C9, rfl, ⟨rfl, MI_B hX hR9 (fun k h => by have h8 : k = 6 ∨ k = 7 := h; omega)⟩, by rw [ht]; exact hP9⟩, hS9.F ht⟩) hS9.2.2 hd9) (most + 1) C10 H locs 1 ls (by omega) hP hS hB (by omega) (by omega) hR.2 rfl (lv_sub hl [0, 1, 2, 3] rfl)
  · refine lv_iconst (v := (-1)) hx hb dX5_fold_7 (by decide) ?_
    refine pw_topi (y := f_fold n nx a b) (by unfold f_fold; simp [c_4]) ?_
    exact W.iret hx hb hr (fun t ht _ => ⟨⟨_, C, rfl, ⟨rfl, hX⟩, by rw [ht]; exact hP⟩, hS.F ht⟩) hS.2.2 dX5_fold_8

set_option maxHeartbeats 4000000 in
set_option maxRecDepth 100000 in
theorem L5_past {p : Program} {l : Launch} {e : Env} {s : State} {m : MethodId} {args : Array Value} {below : List Frame} {meth : Method} {c : Code} {Q : State → Prop} (S : CallFix p m c cX5_past 5 s args wsX5_past RX5) {D : va_G} {cy : Nat → ClassId} {Ad : Nat → Nat} {n mm : Nat} {pk : Int64} {tr : Int32} {C0 : pw_C} (hK : pw_K D cy s) (hI : pw_I Ad shM) (hF0 : fM n mm pk tr Ad C0) (hn : 1 ≤ n ∧ n ≤ 12) {nx : Nat → Nat → Nat} (hN0 : rN n nx C0) (a : Int32) (most : Nat) (hmo : most ≤ 4096) (r : Int32) (hq : ∀ (pc9 : Nat) (C : pw_C) (H : Heap) (locs : List Loc) (ls : Array Slot), decode cX5_past pc9 = .ok (.ireturn, 1) → pw_P D cy Ad shM C H → va_S (pw_fr Ad shM) s.heap H locs → (pw_B (fun k => k = 6 ∨ k = 7) C0 C) → W p l e (k2_rm 2 45) s m args below meth c H locs 0 0 Q (F0 m pc9 ls [.int r])) : ∀ (f : Nat) (C : pw_C) (H : Heap) (locs : List Loc) (t : Nat) (j : Nat) (ls : Array Slot), most + 1 - t < f → (pw_P D cy Ad shM C H) → (va_S (pw_fr Ad shM) s.heap H locs) → (pw_B (fun k => k = 6 ∨ k = 7) C0 C) → (1 ≤ t) → (t ≤ most + 1) → (j ≤ 13) → (t ≤ 2 ^ j) → (∀ y, y < n → C.1 6 y = nI (thr nx a (t - 1) y)) → (∀ i, i < j → mtF (thr nx a (2 ^ i)) n = false) → (pst n nx a most = r) → lv_has ls 5 [(4, .int (nI t)), (3, .int (nI (2 ^ j))), (0, .ref (Ad 0)), (1, .int a), (2, .int (nI most))] → W p l e (k2_rm 2 45) s m args below meth c H locs 0 0 Q (F0 m 18 ls []) := by
  have hx := S.1
  have hb := S.2.1
  have hml := S.2.2.1
  have hown := S.2.2.2.1
  have hts := S.2.2.2.2
  intro f
  induction f with
  | zero => intro C H locs t j ls hf; exact absurd hf (Nat.not_lt_zero _)
  | succ f ih =>
    intro C H locs t j ls hf hP hS hB ht ht2 hj htj hv hb0 hr0 hl
    have hF := fM_B hF0 hB
    have hN := rN_B hN0 hB (by omega)
    have hd9 : 2 ^ j ≤ 8192 := by
      have := Nat.pow_le_pow_right (show 0 < 2 by decide) hj
      omega
    refine lv_iload hx hb dX5_past_18 (lv_at hl 0 rfl) ?_
    refine lv_iload_n hx hb dX5_past_20 rfl (lv_at hl 4 rfl) ?_
    refine pn_icmp_gt (tgt := 65) hx hb (by omega) (by omega) dX5_past_21 (by decide) (fun c_21 => ?_) (fun c_21 => ?_)
    · have hz : (-2 : Int32) = r := by
        rw [← hr0]
        exact (pst_miss hN hn.1 hmo (fun i hi => hb0 i (by
          rcases Nat.lt_or_ge i j with q | q
          · exact q
          · have := Nat.pow_le_pow_right (show 0 < 2 by decide) q
            omega))).symm
      refine lv_bipush (v := (-2)) hx hb dX5_past_65 (by decide) ?_
      refine pw_topi (y := r) hz ?_
      exact hq _ C H locs ls dX5_past_67 hP hS hB
    · refine lv_aload_n hx hb dX5_past_24 rfl (lv_at hl 2 rfl) ?_
      refine lv_aload_n hx hb dX5_past_25 rfl (lv_at hl 2 rfl) ?_
      refine lv_iload_n hx hb dX5_past_26 rfl (lv_at hl 3 rfl) ?_
      refine lv_iload hx hb dX5_past_27 (lv_at hl 0 rfl) ?_
      refine pw_cv S hK hP 0 5 rfl rfl 2 (c_X5_sign l D cy Ad n mm pk tr C hn hF a (nI t)) gX5_past_X5_sign rfl rfl rfl (by decide +kernel) ⟨Nat.le_of_ble_eq_true rfl, Nat.le_of_ble_eq_true rfl⟩ rfl hl.1 rfl (Nat.le_of_ble_eq_true rfl) dX5_past_29 ⟨Nat.le_refl _, Nat.le_refl _⟩ ?_
      refine pw_cvW S hK hP 0 5 rfl rfl 1 (c_X5_ahead l D cy Ad n mm pk tr C hI hn hF nx hN (sgn a (nI t)) (sgn_lt _ _) (thr nx a (t - 1)) hv) gX5_past_X5_ahead rfl rfl rfl (by decide +kernel) ⟨Nat.le_of_ble_eq_true rfl, Nat.le_of_ble_eq_true rfl⟩ rfl hl.1 rfl (Nat.le_of_ble_eq_true rfl) dX5_past_32 ⟨Nat.le_refl _, Nat.le_refl _⟩ hS (fun _ h9 => h9) (fun r9 C32 H locs hR hP _ _ hS => ?_)
      obtain ⟨rfl, hR⟩ := hR
      change W p l e _ s m _ below meth c H locs 0 0 _ (F0 m 35 ls [])
      have hB := hB.tr hR.1
      have hF := fM_B hF0 hB
      have hN := rN_B hN0 hB (by omega)
      have hv2 : ∀ y, y < n → C32.1 6 y = nI (thr nx a t y) := fun y hy => by
        obtain ⟨t9, rfl⟩ : ∃ t9, t = t9 + 1 := ⟨t - 1, by omega⟩
        exact hR.2 y hy
      refine lv_iload hx hb dX5_past_35 (lv_at hl 0 rfl) ?_
      refine lv_iload_n hx hb dX5_past_37 rfl (lv_at hl 1 rfl) ?_
      refine pn_icmp_ne (tgt := 59) hx hb (by omega) (by omega) dX5_past_38 (by decide) (fun c_38 => ?_) (fun c_38 => ?_)
      · refine lv_iinc (v := nI (t + 1)) (lv' := [(4, .int (nI (t + 1))), (3, .int (nI (2 ^ j))), (0, .ref (Ad 0)), (1, .int a), (2, .int (nI most))]) hx hb dX5_past_59 hl (k := 0) rfl (nI_add _ 1) (by decide) rfl (fun ls hl => ?_)
        refine lv_goto (tgt := 18) hx hb dX5_past_62 (by decide) ?_
        exact ih C32 H locs (t + 1) j ls (by omega) hP hS hB (by omega) (by omega) hj (by omega) hv2 hb0 hr0 (lv_sub hl [0, 1, 2, 3, 4] rfl)
      · refine lv_aload_n hx hb dX5_past_41 rfl (lv_at hl 2 rfl) ?_
        refine pw_cv S hK hP 0 5 rfl rfl 0 (c_X5_meets l D cy Ad n mm pk tr C32 hn hF (thr nx a t) (fun y hy => ⟨thr_ltM hN t y hy, hv2 y hy⟩)) gX5_past_X5_meets rfl rfl rfl (by decide +kernel) ⟨Nat.le_of_ble_eq_true rfl, Nat.le_of_ble_eq_true rfl⟩ rfl hl.1 rfl (Nat.le_of_ble_eq_true rfl) dX5_past_42 ⟨Nat.le_refl _, Nat.le_refl _⟩ ?_
        refine pn_ifeq_b (tgt := 55) hx hb dX5_past_45 (by decide) (fun c_45 => ?_) (fun c_45 => ?_)
        · refine lv_iload_n hx hb dX5_past_55 rfl (lv_at hl 1 rfl) ?_
          refine lv_iconst (v := nI 2) hx hb dX5_past_56 (by decide) ?_
          refine lv_imul hx hb dX5_past_57 ?_
          refine pw_topi (y := nI (2 ^ (j + 1))) (by rw [pk_mul, Nat.pow_succ]) ?_
          refine lv_istore_n (lv' := [(3, .int (nI (2 ^ (j + 1)))), (4, .int (nI t)), (0, .ref (Ad 0)), (1, .int a), (2, .int (nI most))]) hx hb dX5_past_58 rfl hl (by decide) rfl (fun ls hl => ?_)
          refine lv_iinc (v := nI (t + 1)) (lv' := [(4, .int (nI (t + 1))), (3, .int (nI (2 ^ (j + 1)))), (0, .ref (Ad 0)), (1, .int a), (2, .int (nI most))]) hx hb dX5_past_59 hl (k := 1) rfl (nI_add _ 1) (by decide) rfl (fun ls hl => ?_)
          refine lv_goto (tgt := 18) hx hb dX5_past_62 (by decide) ?_
          exact ih C32 H locs (t + 1) (j + 1) ls (by omega) hP hS hB (by omega) (by omega) (by
            rcases Nat.lt_or_ge j 13 with q | q
            · exact q
            · have := Nat.pow_le_pow_right (show 0 < 2 by decide) q
              omega) (by rw [Nat.pow_succ]; omega) hv2 (fun i hi => by
            rcases Nat.lt_or_ge i j with q | q
            · exact hb0 i q
            · obtain rfl : i = j := by omega
              rw [← c_38]; exact c_45) hr0 (lv_sub hl [0, 1, 2, 3, 4] rfl)
        · have hz : nI (thr nx a t 0) = r := by
            rw [← hr0]
            have c9 := c_45
            rw [c_38] at c9 ⊢
            exact (pst_hit hN hn.1 hmo (by omega) c9 hb0).symm
          refine lv_aload_n hx hb dX5_past_48 rfl (lv_at hl 2 rfl) ?_
          refine pw_get hx hb hts (fun _ h9 => List.mem_cons_of_mem _ (List.mem_append_right _ h9)) hown hK hP 0 rfl rfl 9 (by decide) hF rfl (hts (.fieldLink RX5 30 "PastDrawsModel" "whole" "[I") (List.mem_of_getElem? (i := 1) rfl)) dX5_past_49 ?_
          refine lv_iconst (v := nI 0) hx hb dX5_past_52 (by decide) ?_
          refine pw_iald hx hb hK hP 6 rfl (by omega) (by decide) (v := nI (thr nx a t 0)) (hv2 0 (by omega)) dX5_past_53 ?_
          refine pw_topi (y := r) hz ?_
          exact hq _ C32 H locs ls dX5_past_54 hP hS hB

set_option maxHeartbeats 4000000 in
set_option maxRecDepth 100000 in
theorem c_X5_past (l : Launch) (D : va_G) (cy : Nat → ClassId) (Ad : Nat → Nat) (n mm : Nat) (C : pw_C) (hI : pw_I Ad shM) (hn : 1 ≤ n ∧ n ≤ 12) (hmm : 1 ≤ mm ∧ mm ≤ 16) (nx : Nat → Nat → Nat) (mx : Nat → Nat → Option Nat) (en : Nat → Bool) (am wt : Nat → Nat) (hX : MI n mm nx mx en am wt Ad C) (a b : Int32) : Met l yX5_past wsX5_past (k2_rm 2 45) (pw_Pre ([.ref (Ad 0), .int a, .int b]) D cy Ad shM C) (pw_Post (fun r9 C' => r9 = some (.int (f_past n nx a b)) ∧ (MI n mm nx mx en am wt Ad C')) D cy Ad shM) 0 0 (pw_fr Ad shM) := by
  refine Met.ofW (cc := cX5_past) (maxL := 5) (ret := (some .int)) (by decide) rfl ?_
  intro p e s m args below meth c s₁ B hml hv
  obtain ⟨rfl, hP, hK⟩ := hv
  have hx := B.exec
  have hb := B.bytes
  have hr := B.returns
  have hts := atoms_spec (ws := wsX5_past) B.pre
  have hown : s.vm.findClass RX5 = some m.cls := findClass_of_methodNamed B.named
  have hlocks := B.notSynchronized
  have S : CallFix p m c cX5_past 5 s ([.ref (Ad 0), .int a, .int b]).toArray wsX5_past RX5 := ⟨hx, hb, hml, hown, hts⟩
  change W p l e (k2_rm 2 45) s m _ below meth c s.heap [] 0 0 _ _
  have hl := lv_entry ([.ref (Ad 0), .int a, .int b]) (n := 5) (Nat.le_of_ble_eq_true rfl)
  rw [lg_entry_eq]
  generalize (lg_sl ([.ref (Ad 0), .int a, .int b]) ++ List.replicate (5 - (lg_sl ([.ref (Ad 0), .int a, .int b])).length) Slot.unset).toArray = ls at hl ⊢
  have hl : lv_has ls 5 [(0, .ref (Ad 0)), (1, .int a), (2, .int b)] := hl
  have hS : va_S (pw_fr Ad shM) s.heap s.heap [] := va_S.rf
  obtain ⟨⟨pk, tr, hF⟩, hN, hM, hE, hA, hT⟩ := id hX
  refine lv_iload_n hx hb dX5_past_0 rfl (lv_at hl 2 rfl) ?_
  refine pw_cs S 1 (c_X5_isLong l b) gX5_past_X5_isLong rfl rfl rfl (by decide +kernel) ⟨Nat.le_of_ble_eq_true rfl, Nat.le_of_ble_eq_true rfl⟩ rfl hl.1 rfl (Nat.le_of_ble_eq_true rfl) dX5_past_1 ⟨Nat.le_refl _, Nat.le_refl _⟩ ?_
  refine pn_ifne_b (tgt := 9) hx hb dX5_past_4 (by decide) (fun c_4 => ?_) (fun c_4 => ?_)
  · obtain ⟨most, hl_most, hh_most, rfl⟩ := wi_ex (by omega) c_4
    have ix_most : ix (nI most) = most := nI_clamp (by omega)
    refine lv_aload_n hx hb dX5_past_9 rfl (lv_at hl 0 rfl) ?_
    refine pw_cvW S hK hP 0 5 rfl rfl 0 (c_X5_begin l D cy Ad n mm pk tr C hI hn hF ) gX5_past_X5_begin rfl rfl rfl (by decide +kernel) ⟨Nat.le_of_ble_eq_true rfl, Nat.le_of_ble_eq_true rfl⟩ rfl hl.1 rfl (Nat.le_of_ble_eq_true rfl) dX5_past_10 ⟨Nat.le_refl _, Nat.le_refl _⟩ hS (fun _ h9 => h9) (fun r9 C10 H locs hR hP _ _ hS => ?_)
    obtain ⟨rfl, hR⟩ := hR
    change W p l e _ s m _ below meth c H locs 0 0 _ (F0 m 13 ls [])
    have hB := hR.1.mono (ks2 := fun k => k = 6 ∨ k = 7) (fun _ h => Or.inl h)
    refine lv_iconst (v := nI 1) hx hb dX5_past_13 (by decide) ?_
    refine lv_istore_n (lv' := [(3, .int (nI 1)), (0, .ref (Ad 0)), (1, .int a), (2, .int (nI most))]) hx hb dX5_past_14 rfl hl (by decide) rfl (fun ls hl => ?_)
    refine lv_iconst (v := nI 1) hx hb dX5_past_15 (by decide) ?_
    refine lv_istore (lv' := [(4, .int (nI 1)), (3, .int (nI 1)), (0, .ref (Ad 0)), (1, .int a), (2, .int (nI most))]) hx hb dX5_past_16 hl (by decide) rfl (fun ls hl => ?_)
    have ef : f_past n nx a (nI most) = pst n nx a most := by unfold f_past; simp [c_4, ix_most]
    rw [ef]
    exact L5_past S hK hI hF hn hN a most (by omega) _ (fun pc9 C9 H9 locs9 ls9 hd9 hP9 hS9 hR9 => W.iret hx hb hr (fun t ht _ => ⟨⟨_, C9, rfl, ⟨rfl, MI_B hX hR9 (fun k h => by have h8 : k = 6 ∨ k = 7 := h; omega)⟩, by rw [ht]; exact hP9⟩, hS9.F ht⟩) hS9.2.2 hd9) (most + 1) C10 H locs 1 0 ls (by omega) hP hS hB (by omega) (by omega) (by omega) (by omega) hR.2 (fun i hi => by omega) rfl (lv_sub hl [0, 1, 2, 3, 4] rfl)
  · refine lv_iconst (v := (-1)) hx hb dX5_past_7 (by decide) ?_
    refine pw_topi (y := f_past n nx a b) (by unfold f_past; simp [c_4]) ?_
    exact W.iret hx hb hr (fun t ht _ => ⟨⟨_, C, rfl, ⟨rfl, hX⟩, by rw [ht]; exact hP⟩, hS.F ht⟩) hS.2.2 dX5_past_8
