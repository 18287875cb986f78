theorem a64 {x y : Int64} (h : -(2 ^ 62) ≤ x.toInt ∧ x.toInt ≤ 2 ^ 62) (h2 : -(2 ^ 61) ≤ y.toInt ∧ y.toInt ≤ 2 ^ 61) : (x + y).toInt = x.toInt + y.toInt := by
  rw [Int64.toInt_add]; exact bm64 (by omega)
theorem s64 {x y : Int64} (h : -(2 ^ 62) ≤ x.toInt ∧ x.toInt ≤ 2 ^ 62) (h2 : -(2 ^ 61) ≤ y.toInt ∧ y.toInt ≤ 2 ^ 61) : (x - y).toInt = x.toInt - y.toInt := by
  rw [Int64.toInt_sub]; exact bm64 (by omega)
theorem cb_b {mx : Nat → Nat → Option Nat} {g : Nat → Int64} {B : Int} (hB : 0 ≤ B ∧ B ≤ 2 ^ 58) (hg : ∀ y, 0 ≤ (g y).toInt ∧ (g y).toInt ≤ B) (x : Nat) : ∀ k, k ≤ 4 → 0 ≤ (cbS mx g x k).toInt ∧ (cbS mx g x k).toInt ≤ k * B ∧ 0 ≤ (wv mx g x k).toInt ∧ (wv mx g x k).toInt ≤ B ∧ (cbS mx g x (k + 1)).toInt = (cbS mx g x k).toInt + (wv mx g x k).toInt := by
  have hw : ∀ k, 0 ≤ (wv mx g x k).toInt ∧ (wv mx g x k).toInt ≤ B := fun k => by
    unfold wv
    split
    · have : (0 : Int64).toInt = 0 := by decide
      omega
    · exact hg _
  have h : ∀ k, k ≤ 4 → 0 ≤ (cbS mx g x k).toInt ∧ (cbS mx g x k).toInt ≤ k * B := by
    intro k
    induction k with
    | zero => intro _; have : (cbS mx g x 0).toInt = 0 := (by decide : (0 : Int64).toInt = 0); rw [this]; omega
    | succ k ih =>
      intro hk
      have h1 := ih (by omega)
      have h2 := hw k
      have h3 : (k : Int) * B ≤ 4 * B := Int.mul_le_mul_of_nonneg_right (by omega) hB.1
      show 0 ≤ (cbS mx g x k + wv mx g x k).toInt ∧ (cbS mx g x k + wv mx g x k).toInt ≤ _
      rw [a64 (by omega) (by omega), Int.natCast_succ, Int.add_mul]
      omega
  intro k hk
  have h1 := h k hk
  have h2 := hw k
  have h3 : (k : Int) * B ≤ 4 * B := Int.mul_le_mul_of_nonneg_right (by omega) hB.1
  refine ⟨h1.1, h1.2, h2.1, h2.2, ?_⟩
  show (cbS mx g x k + wv mx g x k).toInt = _
  rw [a64 (by omega) (by omega)]
theorem p4 {l : Nat} (h : l ≤ 25) : 0 ≤ (4 : Int) ^ l ∧ (4 : Int) ^ l ≤ 2 ^ 50 := by
  have h1 : (4 : Nat) ^ l ≤ 4 ^ 25 := Nat.pow_le_pow_right (by decide) h
  have h2 : (4 : Nat) ^ 25 = 2 ^ 50 := by decide
  have h3 : (4 : Int) ^ l = ((4 ^ l : Nat) : Int) := by push_cast; rfl
  rw [h3]
  exact ⟨Int.natCast_nonneg _, by omega⟩
theorem cn_b (mx : Nat → Nat → Option Nat) (en : Nat → Bool) : ∀ l, l ≤ 25 → ∀ y, 0 ≤ (cnW mx en l y).toInt ∧ (cnW mx en l y).toInt ≤ 4 ^ l := by
  intro l
  induction l with
  | zero =>
    intro _ y
    show 0 ≤ (if en y = true then (1 : Int64) else 0).toInt ∧ (if en y = true then (1 : Int64) else 0).toInt ≤ 4 ^ 0
    have e1 : (1 : Int64).toInt = 1 := by decide
    have e0 : (0 : Int64).toInt = 0 := by decide
    split
    · rw [e1]; omega
    · rw [e0]; omega
  | succ l ih =>
    intro hl y
    have h4 := p4 (l := l) (by omega)
    have h := cb_b (mx := mx) (B := 4 ^ l) ⟨h4.1, by omega⟩ (ih (by omega)) y 4 (Nat.le_refl _)
    show 0 ≤ (cbS mx (cnW mx en l) y 4).toInt ∧ (cbS mx (cnW mx en l) y 4).toInt ≤ 4 ^ (l + 1)
    rw [Int.pow_succ]
    have h5 := h.2.1
    have e4 : ((4 : Nat) : Int) = 4 := rfl
    rw [e4] at h5
    omega
theorem wl_lt {v K : Int64} (h : 0 ≤ K.toInt ∧ K.toInt ≤ 2 ^ 50) : wl v 0 (K - 1) = decide (0 ≤ v ∧ v < K) := by
  unfold wl
  apply decide_eq_decide.mpr
  have e1 : (1 : Int64).toInt = 1 := by decide
  rw [Int64.le_iff_toInt_le, Int64.le_iff_toInt_le, Int64.lt_iff_toInt_lt, s64 (by omega) (by omega), e1]
  have e0 : (0 : Int64).toInt = 0 := by decide
  rw [e0]
  omega
theorem ltr_s (w : Int64) {k : Nat} (hk : k ≤ 24) : (w >>> ((nI (2 * k)).toInt64 &&& 63) &&& 3).toInt32 = nI (ltr w k) := by
  have e : w >>> ((nI (2 * k)).toInt64 &&& 63) &&& 3 = lN (ltr w k) := by
    apply wb_inj
    rw [wb_c (2 * k) (by omega), Int64.toBitVec_and, Int64.toBitVec_shiftRight, wb_tb, wb_tb, wb_sm (2 * k) (by omega)]
    apply BitVec.eq_of_getLsbD_eq
    intro i hi
    have e3 : (3 : Int64).toBitVec = BitVec.ofNat 64 3 := rfl
    have e4 : (3 : Nat).testBit i = decide (i < 2) := by
      rw [show (3 : Nat) = 2 ^ 2 - 1 from rfl, Nat.testBit_two_pow_sub_one]
    have e5 : (BitVec.ofNat 64 (2 * k)).toNat = 2 * k := by rw [BitVec.toNat_ofNat, Nat.mod_eq_of_lt (by omega)]
    have e6 : (ltr w k).testBit i = (decide (i < 2) && w.toBitVec.getLsbD (2 * k + i)) := by
      unfold ltr
      rw [show (4 : Nat) = 2 ^ 2 from rfl, Nat.testBit_mod_two_pow, Nat.testBit_div_two_pow, Nat.add_comm i]
      rfl
    rw [BitVec.getLsbD_and, e3, BitVec.sshiftRight_eq', e5, BitVec.getLsbD_sshiftRight, BitVec.getLsbD_ofNat, BitVec.getLsbD_ofNat, e4, e6]
    by_cases h2 : i < 2
    · simp [h2, hi, show 2 * k + i < 64 by omega]
    · simp [h2]
  rw [e, lN_i]
theorem la_stop {cb : Nat → Int64} {num : Int64} {f ch : Nat} (h : ¬ cb (ch + 1) ≤ num) : laF cb num f ch = ch := by
  cases f with
  | zero => rfl
  | succ f => show (if cb (ch + 1) ≤ num then laF cb num f (ch + 1) else ch) = ch; rw [if_neg h]
theorem la_go {cb : Nat → Int64} {num : Int64} {f ch : Nat} (h : cb (ch + 1) ≤ num) : laF cb num (f + 1) ch = laF cb num f (ch + 1) := if_pos h

set_option maxHeartbeats 4000000 in
set_option maxRecDepth 100000 in
theorem L5_word_in {p : Program} {l : Launch} {e : Env} {s : State} {m : MethodId} {args : Array Value} {below : List Frame} {meth : Method} {c : Code} {H : Heap} {locs : List Loc} {Q : State → Prop} (S : CallFix p m c cX5_word 10 s args wsX5_word RX5) {D : va_G} {cy : Nat → ClassId} {Ad : Nat → Nat} {n mm : Nat} {pk : Int64} {tr : Int32} {C : pw_C} (hK : pw_K D cy s) (hP : pw_P D cy Ad shM C H) (hF : fM n mm pk tr Ad C) (hn : 1 ≤ n ∧ n ≤ 12) {mx : Nat → Nat → Option Nat} (hM : mM n mx C) {en : Nat → Bool} (len : Nat) (hle : len ≤ 25) (hW : ∀ l9, l9 ≤ len → ∀ y, y < n → C.2.1 11 (12 * l9 + y) = cnW mx en l9 y)  (i j x : Nat) (hj : j < len) (hi : i < 25) (hx0 : x < n) (v9 : Int64) (hv0 : 0 ≤ v9.toInt) (hv4 : v9.toInt < (cbS mx (cnW mx en (len - j - 1)) x 4).toInt) (hk : ∀ (ch : Nat) (ls : Array Slot), ch < 4 → laF (cbS mx (cnW mx en (len - j - 1)) x) v9 3 0 = ch → (cbS mx (cnW mx en (len - j - 1)) x ch).toInt ≤ v9.toInt → v9.toInt < (cbS mx (cnW mx en (len - j - 1)) x (ch + 1)).toInt → lv_has ls 10 [(8, .int (nI ch)), (6, .long (v9 - cbS mx (cnW mx en (len - j - 1)) x ch)), (5, .int (nI x)), (9, .int (nI j)), (0, .ref (Ad 0)), (1, .int (nI len)), (4, .int (nI i))] → W p l e (k2_rm 1 25) s m args below meth c H locs 0 0 Q (F0 m 121 ls [])) : ∀ (f : Nat) (ch : Nat) (ls : Array Slot), 4 - ch < f → (ch < 4) → (laF (cbS mx (cnW mx en (len - j - 1)) x) v9 3 0 = laF (cbS mx (cnW mx en (len - j - 1)) x) v9 (3 - ch) ch) → ((cbS mx (cnW mx en (len - j - 1)) x ch).toInt ≤ v9.toInt) → lv_has ls 10 [(8, .int (nI ch)), (6, .long (v9 - cbS mx (cnW mx en (len - j - 1)) x ch)), (5, .int (nI x)), (9, .int (nI j)), (0, .ref (Ad 0)), (1, .int (nI len)), (4, .int (nI i))] → W p l e (k2_rm 1 25) s m args below meth c H locs 0 0 Q (F0 m 76 ls []) := by
  have hx := S.1
  have hb := S.2.1
  have hml := S.2.2.1
  have hown := S.2.2.2.1
  have hts := S.2.2.2.2
  intro f
  induction f with
  | zero => intro ch ls hf; exact absurd hf (Nat.not_lt_zero _)
  | succ f ih =>
    intro ch ls hf hc9 hla hle9 hl
    have h4 := p4 (l := len - j - 1) (by omega)
    have hcb := cb_b (mx := mx) (B := 4 ^ (len - j - 1)) ⟨h4.1, by omega⟩ (cn_b mx en (len - j - 1) (by omega)) x
    have hlt4 := (hcb 4 (Nat.le_refl _)).2.1
    have e4 : ((4 : Nat) : Int) = 4 := rfl
    rw [e4] at hlt4
    refine lv_lload hx hb dX5_word_76 (lv_at hl 1 rfl) ?_
    refine lv_aload_n hx hb dX5_word_78 rfl (lv_at hl 4 rfl) ?_
    refine lv_iload hx hb dX5_word_79 (lv_at hl 2 rfl) ?_
    refine lv_iload hx hb dX5_word_81 (lv_at hl 0 rfl) ?_
    refine lv_iload_n hx hb dX5_word_83 rfl (lv_at hl 5 rfl) ?_
    refine lv_iload hx hb dX5_word_84 (lv_at hl 3 rfl) ?_
    refine lv_isub hx hb dX5_word_86 ?_
    refine pw_topi (pk_sub (by omega)) ?_
    refine lv_iconst (v := nI 1) hx hb dX5_word_87 (by decide) ?_
    refine lv_isub hx hb dX5_word_88 ?_
    refine pw_topi (pk_sub (by omega)) ?_
    refine pw_cv S hK hP 0 5 rfl rfl 3 (c_X5_goesOn l D cy Ad n mm pk tr C hn hF mx hM en len hle hW x ch ((len - j) - 1) (by omega) (by omega) (by omega)) gX5_word_X5_goesOn rfl rfl rfl (by decide +kernel) ⟨Nat.le_of_ble_eq_true rfl, Nat.le_of_ble_eq_true rfl⟩ rfl hl.1 rfl (Nat.le_of_ble_eq_true rfl) dX5_word_89 ⟨Nat.le_refl _, Nat.le_refl _⟩ ?_
    refine W.lcmp hx hb dX5_word_92 ?_
    have f1 := hcb ch (by omega)
    have k4 : (ch : Int) * 4 ^ (len - j - 1) ≤ 4 * 4 ^ (len - j - 1) := Int.mul_le_mul_of_nonneg_right (by omega) h4.1
    have f2 : (v9 - cbS mx (cnW mx en (len - j - 1)) x ch).toInt = v9.toInt - (cbS mx (cnW mx en (len - j - 1)) x ch).toInt := s64 (by omega) (by omega)
    have f3 : (cbS mx (cnW mx en (len - j - 1)) x (ch + 1) ≤ v9) ↔ (cbS mx (cnW mx en (len - j - 1)) x (ch + 1)).toInt ≤ v9.toInt := Int64.le_iff_toInt_le
    have f4 : (v9 - cbS mx (cnW mx en (len - j - 1)) x ch < wv mx (cnW mx en (len - j - 1)) x ch) ↔ (v9 - cbS mx (cnW mx en (len - j - 1)) x ch).toInt < (wv mx (cnW mx en (len - j - 1)) x ch).toInt := Int64.lt_iff_toInt_lt
    refine pn_lif_lt (tgt := 121) hx hb dX5_word_93 (by decide) (fun c_93 => ?_) (fun c_93 => ?_)
    · have g1 : ¬ cbS mx (cnW mx en (len - j - 1)) x (ch + 1) ≤ v9 := fun q => by
        have g8 := f4.mp c_93
        have g9 := f3.mp q
        omega
      rw [la_stop g1] at hla
      exact hk ch ls (by omega) hla hle9 (by have g8 := f4.mp c_93; omega) (lv_sub hl [0, 1, 2, 3, 4, 5, 6] rfl)
    · refine lv_lload hx hb dX5_word_96 (lv_at hl 1 rfl) ?_
      refine lv_aload_n hx hb dX5_word_98 rfl (lv_at hl 4 rfl) ?_
      refine lv_iload hx hb dX5_word_99 (lv_at hl 2 rfl) ?_
      refine lv_iload hx hb dX5_word_101 (lv_at hl 0 rfl) ?_
      refine lv_iload_n hx hb dX5_word_103 rfl (lv_at hl 5 rfl) ?_
      refine lv_iload hx hb dX5_word_104 (lv_at hl 3 rfl) ?_
      refine lv_isub hx hb dX5_word_106 ?_
      refine pw_topi (pk_sub (by omega)) ?_
      refine lv_iconst (v := nI 1) hx hb dX5_word_107 (by decide) ?_
      refine lv_isub hx hb dX5_word_108 ?_
      refine pw_topi (pk_sub (by omega)) ?_
      refine pw_cv S hK hP 0 5 rfl rfl 3 (c_X5_goesOn l D cy Ad n mm pk tr C hn hF mx hM en len hle hW x ch ((len - j) - 1) (by omega) (by omega) (by omega)) gX5_word_X5_goesOn rfl rfl rfl (by decide +kernel) ⟨Nat.le_of_ble_eq_true rfl, Nat.le_of_ble_eq_true rfl⟩ rfl hl.1 rfl (Nat.le_of_ble_eq_true rfl) dX5_word_109 ⟨Nat.le_refl _, Nat.le_refl _⟩ ?_
      refine lv_lsub hx hb dX5_word_112 ?_
      refine pw_topl (y := v9 - cbS mx (cnW mx en (len - j - 1)) x (ch + 1)) (by show v9 - cbS mx (cnW mx en (len - j - 1)) x ch - wv mx (cnW mx en (len - j - 1)) x ch = v9 - (cbS mx (cnW mx en (len - j - 1)) x ch + wv mx (cnW mx en (len - j - 1)) x ch); rw [Int64.sub_eq_add_neg, Int64.sub_eq_add_neg, Int64.sub_eq_add_neg, Int64.neg_add, Int64.add_assoc, Int64.sub_eq_add_neg]) ?_
      refine lv_lstore (lv' := [(6, .long (v9 - cbS mx (cnW mx en (len - j - 1)) x (ch + 1))), (8, .int (nI ch)), (5, .int (nI x)), (9, .int (nI j)), (0, .ref (Ad 0)), (1, .int (nI len)), (4, .int (nI i))]) hx hb dX5_word_113 hl (by decide) rfl (fun ls hl => ?_)
      refine lv_iinc (v := nI (ch + 1)) (lv' := [(8, .int (nI (ch + 1))), (6, .long (v9 - cbS mx (cnW mx en (len - j - 1)) x (ch + 1))), (5, .int (nI x)), (9, .int (nI j)), (0, .ref (Ad 0)), (1, .int (nI len)), (4, .int (nI i))]) hx hb dX5_word_115 hl (k := 1) rfl (nI_add _ 1) (by decide) rfl (fun ls hl => ?_)
      refine lv_goto (tgt := 76) hx hb dX5_word_118 (by decide) ?_
      have g1 : cbS mx (cnW mx en (len - j - 1)) x (ch + 1) ≤ v9 := f3.mpr (by have := mt f4.mpr c_93; omega)
      have g2 : ch < 3 := by
        rcases Nat.lt_or_ge ch 3 with q | q
        · exact q
        · obtain rfl : ch = 3 := by omega
          have := f3.mp g1
          have h9 : v9.toInt < (cbS mx (cnW mx en (len - j - 1)) x (3 + 1)).toInt := hv4
          omega
      obtain ⟨z, hz⟩ : ∃ z, 3 - ch = z + 1 := ⟨3 - ch - 1, by omega⟩
      rw [hz, la_go g1] at hla
      have hz2 : z = 3 - (ch + 1) := by omega
      exact ih (ch + 1) ls (by omega) (by omega) (by rw [← hz2]; exact hla) (f3.mp g1) (lv_sub hl [0, 1, 2, 3, 4, 5, 6] rfl)

set_option maxHeartbeats 4000000 in
set_option maxRecDepth 100000 in
theorem L5_word {p : Program} {l : Launch} {e : Env} {s : State} {m : MethodId} {args : Array Value} {below : List Frame} {meth : Method} {c : Code} {H : Heap} {locs : List Loc} {Q : State → Prop} (S : CallFix p m c cX5_word 10 s args wsX5_word RX5) {D : va_G} {cy : Nat → ClassId} {Ad : Nat → Nat} {n mm : Nat} {pk : Int64} {tr : Int32} {C : pw_C} (hK : pw_K D cy s) (hP : pw_P D cy Ad shM C H) (hF : fM n mm pk tr Ad C) (hn : 1 ≤ n ∧ n ≤ 12) {mx : Nat → Nat → Option Nat} (hM : mM n mx C) {en : Nat → Bool} (len : Nat) (hle : len ≤ 25) (hW : ∀ l9, l9 ≤ len → ∀ y, y < n → C.2.1 11 (12 * l9 + y) = cnW mx en l9 y)  (i : Nat) (hi : i < len) (r : Int32) (hq : ∀ (pc9 : Nat) (ls : Array Slot), decode cX5_word pc9 = .ok (.ireturn, 1) → W p l e (k2_rm 1 25) s m args below meth c H locs 0 0 Q (F0 m pc9 ls [.int r])) : ∀ (f : Nat) (j : Nat) (x : Nat) (v9 : Int64) (c8 : Int32) (ls : Array Slot), len - j < f → (j ≤ i) → (x < n) → (0 ≤ v9.toInt) → (v9.toInt < (cnW mx en (len - j) x).toInt) → (loF mx en len i (len - j) j (some x) v9 = r) → lv_has ls 10 [(8, .int c8), (6, .long v9), (5, .int (nI x)), (9, .int (nI j)), (0, .ref (Ad 0)), (1, .int (nI len)), (4, .int (nI i))] → W p l e (k2_rm 1 25) s m args below meth c H locs 0 0 Q (F0 m 66 ls []) := by
  have hx := S.1
  have hb := S.2.1
  have hml := S.2.2.1
  have hown := S.2.2.2.1
  have hts := S.2.2.2.2
  intro f
  induction f with
  | zero => intro j x v9 c8 ls hf; exact absurd hf (Nat.not_lt_zero _)
  | succ f ih =>
    intro j x v9 c8 ls hf hj hx0 hv0 hvb hr0 hl
    refine lv_iload hx hb dX5_word_66 (lv_at hl 3 rfl) ?_
    refine lv_iload hx hb dX5_word_68 (lv_at hl 6 rfl) ?_
    refine pn_icmp_gt (tgt := 141) hx hb (by omega) (by omega) dX5_word_70 (by decide) (fun c_70 => absurd c_70 (by omega)) (fun c_70 => ?_)
    refine lv_iconst (v := nI 0) hx hb dX5_word_73 (by decide) ?_
    refine lv_istore (lv' := [(8, .int (nI 0)), (6, .long v9), (5, .int (nI x)), (9, .int (nI j)), (0, .ref (Ad 0)), (1, .int (nI len)), (4, .int (nI i))]) hx hb dX5_word_74 hl (by decide) rfl (fun ls hl => ?_)
    have h4 := p4 (l := len - j - 1) (by omega)
    have hcb := cb_b (mx := mx) (B := 4 ^ (len - j - 1)) ⟨h4.1, by omega⟩ (cn_b mx en (len - j - 1) (by omega)) x
    have hv4 : v9.toInt < (cbS mx (cnW mx en (len - j - 1)) x 4).toInt := by
      have h9 := hvb
      rw [show len - j = (len - j - 1) + 1 by omega] at h9
      exact h9
    refine L5_word_in S hK hP hF hn hM len hle hW i j x (by omega) (by omega) hx0 v9 hv0 hv4 (fun ch ls hch hla hc1 hc2 hl => ?_) 5 0 ls (by omega) (by omega) rfl (by have : (cbS mx (cnW mx en (len - j - 1)) x 0).toInt = 0 := (by decide : (0 : Int64).toInt = 0); omega) (by rw [show cbS mx (cnW mx en (len - j - 1)) x 0 = 0 from rfl, Int64.sub_zero]; exact (lv_sub hl [0, 1, 2, 3, 4, 5, 6] rfl))
    have f1 := hcb ch (by omega)
    have k4 : (ch : Int) * 4 ^ (len - j - 1) ≤ 4 * 4 ^ (len - j - 1) := Int.mul_le_mul_of_nonneg_right (by omega) h4.1
    have hlt4 := (hcb 4 (Nat.le_refl _)).2.1
    have e4 : ((4 : Nat) : Int) = 4 := rfl
    rw [e4] at hlt4
    have f2 : (v9 - cbS mx (cnW mx en (len - j - 1)) x ch).toInt = v9.toInt - (cbS mx (cnW mx en (len - j - 1)) x ch).toInt := s64 (by omega) (by omega)
    obtain ⟨y, hy⟩ : ∃ y, mx x ch = some y := by
      cases hm : mx x ch with
      | some y => exact ⟨y, rfl⟩
      | none =>
        have h0 : (wv mx (cnW mx en (len - j - 1)) x ch).toInt = 0 := by unfold wv; rw [hm]; show (0 : Int64).toInt = 0; decide
        omega
    have hyn := (hM x hx0 ch hch).1 y hy
    have hwy : wv mx (cnW mx en (len - j - 1)) x ch = cnW mx en (len - j - 1) y := by unfold wv; rw [hy]
    rw [hwy] at f1
    obtain ⟨z, hz⟩ : ∃ z, len - j = z + 1 := ⟨len - j - 1, by omega⟩
    rw [hz, loF, show len - 1 - j = len - j - 1 by omega, hla, hy] at hr0
    refine lv_aload_n hx hb dX5_word_121 rfl (lv_at hl 4 rfl) ?_
    refine pw_get hx hb hts (fun _ h9 => List.mem_cons_of_mem _ (List.mem_append_right _ h9)) hown hK hP 0 rfl rfl 2 (by decide) hF rfl (hts (.fieldLink RX5 13 "PastDrawsModel" "leads" "[I") (List.mem_of_getElem? (i := 3) rfl)) dX5_word_122 ?_
    refine lv_iconst (v := nI 4) hx hb dX5_word_125 (by decide) ?_
    refine lv_iload hx hb dX5_word_126 (lv_at hl 2 rfl) ?_
    refine lv_imul hx hb dX5_word_128 ?_
    refine pw_topi (pk_mul _ _) ?_
    refine lv_iload hx hb dX5_word_129 (lv_at hl 0 rfl) ?_
    refine lv_iadd hx hb dX5_word_131 ?_
    refine pw_topi (nI_add _ _) ?_
    refine pw_iald hx hb hK hP 2 rfl (by omega) (by decide) (v := nI y) (by rw [(hM x hx0 ch hch).2, hy]; rfl) dX5_word_132 ?_
    refine lv_istore (lv' := [(5, .int (nI y)), (8, .int (nI ch)), (6, .long (v9 - cbS mx (cnW mx en (len - j - 1)) x ch)), (9, .int (nI j)), (0, .ref (Ad 0)), (1, .int (nI len)), (4, .int (nI i))]) hx hb dX5_word_133 hl (by decide) rfl (fun ls hl => ?_)
    refine lv_iinc (v := nI (j + 1)) (lv' := [(9, .int (nI (j + 1))), (5, .int (nI y)), (8, .int (nI ch)), (6, .long (v9 - cbS mx (cnW mx en (len - j - 1)) x ch)), (0, .ref (Ad 0)), (1, .int (nI len)), (4, .int (nI i))]) hx hb dX5_word_135 hl (k := 3) rfl (nI_add _ 1) (by decide) rfl (fun ls hl => ?_)
    refine lv_goto (tgt := 66) hx hb dX5_word_138 (by decide) ?_
    by_cases hji : j = i
    · rw [if_pos hji] at hr0
      refine lv_iload hx hb dX5_word_66 (lv_at hl 0 rfl) ?_
      refine lv_iload hx hb dX5_word_68 (lv_at hl 6 rfl) ?_
      refine pn_icmp_gt (tgt := 141) hx hb (by omega) (by omega) dX5_word_70 (by decide) (fun c_70 => ?_) (fun c_70 => absurd c_70 (by omega))
      refine lv_iload hx hb dX5_word_141 (lv_at hl 2 rfl) ?_
      refine pw_topi (y := r) hr0 ?_
      exact hq _ ls dX5_word_143
    · rw [if_neg hji] at hr0
      exact ih (j + 1) y (v9 - cbS mx (cnW mx en (len - j - 1)) x ch) (nI ch) ls (by omega) (by omega) hyn (by omega) (by rw [show len - (j + 1) = len - j - 1 by omega]; omega) (by rw [show len - (j + 1) = z by omega]; exact hr0) (lv_sub hl [2, 3, 1, 0, 4, 5, 6] rfl)

set_option maxHeartbeats 4000000 in
set_option maxRecDepth 100000 in
theorem c_X5_word (l : Launch) (D : va_G) (cy : Nat → ClassId) (Ad : Nat → Nat) (n mm : Nat) (C : pw_C) (hI : pw_I Ad shM) (hn : 1 ≤ n ∧ n ≤ 12) (hmm : 1 ≤ mm ∧ mm ≤ 16) (nx : Nat → Nat → Nat) (mx : Nat → Nat → Option Nat) (en : Nat → Bool) (am wt : Nat → Nat) (hX : MI n mm nx mx en am wt Ad C) (a : Int32) (v : Int64) (d : Int32) : Met l yX5_word wsX5_word (k2_rm 1 25) (pw_Pre ([.ref (Ad 0), .int a, .long v, .int d]) D cy Ad shM C) (pw_Post (fun r9 C' => r9 = some (.int (f_word mx en a v d)) ∧ (MI n mm nx mx en am wt Ad C')) D cy Ad shM) 0 0 (pw_fr Ad shM) := by
  refine Met.ofW (cc := cX5_word) (maxL := 10) (ret := (some .int)) (by decide) rfl ?_
  intro p e s m args below meth c s₁ B hml hv
  obtain ⟨rfl, hP, hK⟩ := hv
  have hx := B.exec
  have hb := B.bytes
  have hr := B.returns
  have hts := atoms_spec (ws := wsX5_word) B.pre
  have hown : s.vm.findClass RX5 = some m.cls := findClass_of_methodNamed B.named
  have hlocks := B.notSynchronized
  have S : CallFix p m c cX5_word 10 s ([.ref (Ad 0), .int a, .long v, .int d]).toArray wsX5_word RX5 := ⟨hx, hb, hml, hown, hts⟩
  change W p l e (k2_rm 1 25) s m _ below meth c s.heap [] 0 0 _ _
  have hl := lv_entry ([.ref (Ad 0), .int a, .long v, .int d]) (n := 10) (Nat.le_of_ble_eq_true rfl)
  rw [lg_entry_eq]
  generalize (lg_sl ([.ref (Ad 0), .int a, .long v, .int d]) ++ List.replicate (10 - (lg_sl ([.ref (Ad 0), .int a, .long v, .int d])).length) Slot.unset).toArray = ls at hl ⊢
  have hl : lv_has ls 10 [(0, .ref (Ad 0)), (1, .int a), (2, .long v), (4, .int d)] := hl
  have hS : va_S (pw_fr Ad shM) s.heap s.heap [] := va_S.rf
  obtain ⟨⟨pk, tr, hF⟩, hN, hM, hE, hA, hT⟩ := id hX
  refine lv_iload_n hx hb dX5_word_0 rfl (lv_at hl 1 rfl) ?_
  refine lv_i2l hx hb dX5_word_1 rfl ?_
  refine lv_lconst (v := 0) hx hb dX5_word_2 (by decide) ?_
  refine lv_ldc2 hx hb hown (hts (.constantLong RX5 146 (25)) (List.mem_of_getElem? (i := 1) rfl)) dX5_word_3 ?_
  refine pw_cs S 3 (c_X5_in l a.toInt64 0 (25)) gX5_word_X5_in rfl rfl rfl (by decide +kernel) ⟨Nat.le_of_ble_eq_true rfl, Nat.le_of_ble_eq_true rfl⟩ rfl hl.1 rfl (Nat.le_of_ble_eq_true rfl) dX5_word_6 ⟨Nat.le_refl _, Nat.le_refl _⟩ ?_
  refine pw_topi (y := pb (wi a (nI 0) (nI 25))) (congrArg pb (wl_wi _ (nI 0) (nI 25) (by first | rfl | decide) (by first | rfl | decide))) ?_
  refine pn_ifeq_b (tgt := 26) hx hb dX5_word_9 (by decide) (fun c_9 => ?_) (fun c_9 => ?_)
  · refine lv_iconst (v := (-1)) hx hb dX5_word_26 (by decide) ?_
    refine pw_topi (y := f_word mx en a v d) (by unfold f_word; first | simp [c_9, c_23] | simp [c_9]) ?_
    exact W.iret hx hb hr (fun t ht _ => ⟨⟨_, C, rfl, ⟨rfl, hX⟩, by rw [ht]; exact hP⟩, hS.F ht⟩) hS.2.2 dX5_word_27
  · refine lv_iload hx hb dX5_word_12 (lv_at hl 3 rfl) ?_
    refine lv_i2l hx hb dX5_word_14 rfl ?_
    refine lv_lconst (v := 0) hx hb dX5_word_15 (by decide) ?_
    refine lv_iload_n hx hb dX5_word_16 rfl (lv_at hl 1 rfl) ?_
    refine lv_iconst (v := nI 1) hx hb dX5_word_17 (by decide) ?_
    refine lv_isub hx hb dX5_word_18 ?_
    refine lv_i2l hx hb dX5_word_19 rfl ?_
    refine pw_cs S 3 (c_X5_in l d.toInt64 0 ((a - (nI 1)).toInt64)) gX5_word_X5_in rfl rfl rfl (by decide +kernel) ⟨Nat.le_of_ble_eq_true rfl, Nat.le_of_ble_eq_true rfl⟩ rfl hl.1 rfl (Nat.le_of_ble_eq_true rfl) dX5_word_20 ⟨Nat.le_refl _, Nat.le_refl _⟩ ?_
    refine pw_topi (y := pb (wi d (nI 0) (a - nI 1))) (congrArg pb (wl_wi _ (nI 0) (a - nI 1) (by first | rfl | decide) (by first | rfl | decide))) ?_
    refine pn_ifne_b (tgt := 28) hx hb dX5_word_23 (by decide) (fun c_23 => ?_) (fun c_23 => ?_)
    · obtain ⟨len, hl_len, hh_len, rfl⟩ := wi_ex (by omega) c_9
      have ix_len : ix (nI len) = len := nI_clamp (by omega)
      obtain ⟨i, hi1, rfl⟩ := wi_ex1 (by omega) c_23
      have ix_i : ix (nI i) = i := nI_clamp (by omega)
      refine lv_aload_n hx hb dX5_word_28 rfl (lv_at hl 0 rfl) ?_
      refine lv_iload_n hx hb dX5_word_29 rfl (lv_at hl 1 rfl) ?_
      refine pw_cvW S hK hP 0 5 rfl rfl 1 (c_X5_countWords l D cy Ad n mm pk tr C hI hn hF mx hM en hE len (by omega)) gX5_word_X5_countWords rfl rfl rfl (by decide +kernel) ⟨Nat.le_of_ble_eq_true rfl, Nat.le_of_ble_eq_true rfl⟩ rfl hl.1 rfl (Nat.le_of_ble_eq_true rfl) dX5_word_30 ⟨Nat.le_refl _, Nat.le_refl _⟩ hS (fun _ h9 => h9) (fun r9 C30 H locs hR hP _ _ hS => ?_)
      obtain ⟨rfl, hR⟩ := hR
      change W p l e _ s m _ below meth c H locs 0 0 _ (F0 m 33 ls [])
      have hX := MI_B hX hR.1 (fun k h => by have h8 : k = 11 := h; omega)
      have hF := fM_B hF hR.1
      have hM := mM_B hM hR.1 (by omega)
      have hE := mE_B hE hR.1 (by omega)
      have hW := hR.2
      refine lv_lload_n hx hb dX5_word_33 rfl (lv_at hl 2 rfl) ?_
      refine lv_lconst (v := 0) hx hb dX5_word_34 (by decide) ?_
      refine lv_aload_n hx hb dX5_word_35 rfl (lv_at hl 0 rfl) ?_
      refine pw_get hx hb hts (fun _ h9 => List.mem_cons_of_mem _ (List.mem_append_right _ h9)) hown hK hP 0 rfl rfl 14 (by decide) hF rfl (hts (.fieldLink RX5 46 "PastDrawsModel" "from" "[J") (List.mem_of_getElem? (i := 2) rfl)) dX5_word_36 ?_
      refine lv_bipush (v := nI 12) hx hb dX5_word_39 (by decide) ?_
      refine lv_iload_n hx hb dX5_word_41 rfl (lv_at hl 1 rfl) ?_
      refine lv_imul hx hb dX5_word_42 ?_
      refine pw_topi (pk_mul _ _) ?_
      refine pw_lald hx hb hK hP 11 rfl (by omega) (by decide) (v := cnW mx en len 0) (hW len (Nat.le_refl _) 0 (by omega)) dX5_word_43 ?_
      refine lv_lconst (v := 1) hx hb dX5_word_44 (by decide) ?_
      refine lv_lsub hx hb dX5_word_45 ?_
      have hK0 := cn_b mx en len (by omega) 0
      have hK4 := p4 (l := len) (by omega)
      refine pw_cs S 3 (c_X5_in l v 0 ((cnW mx en len 0) - 1)) gX5_word_X5_in rfl rfl rfl (by decide +kernel) ⟨Nat.le_of_ble_eq_true rfl, Nat.le_of_ble_eq_true rfl⟩ rfl hl.1 rfl (Nat.le_of_ble_eq_true rfl) dX5_word_46 ⟨Nat.le_refl _, Nat.le_refl _⟩ ?_
      refine pw_topi (y := pb (decide (0 ≤ v ∧ v < cnW mx en len 0))) (congrArg pb (wl_lt ⟨hK0.1, by omega⟩)) ?_
      refine pn_ifne_b (tgt := 54) hx hb dX5_word_49 (by decide) (fun c_49 => ?_) (fun c_49 => ?_)
      · refine lv_iconst (v := nI 0) hx hb dX5_word_54 (by decide) ?_
        refine lv_istore (lv' := [(5, .int (nI 0)), (0, .ref (Ad 0)), (1, .int (nI len)), (2, .long v), (4, .int (nI i))]) hx hb dX5_word_55 hl (by decide) rfl (fun ls hl => ?_)
        refine lv_lload_n hx hb dX5_word_57 rfl (lv_at hl 3 rfl) ?_
        refine lv_lstore (lv' := [(6, .long v), (5, .int (nI 0)), (0, .ref (Ad 0)), (1, .int (nI len)), (2, .long v), (4, .int (nI i))]) hx hb dX5_word_58 hl (by decide) rfl (fun ls hl => ?_)
        refine lv_iconst (v := nI 0) hx hb dX5_word_60 (by decide) ?_
        refine lv_istore (lv' := [(8, .int (nI 0)), (6, .long v), (5, .int (nI 0)), (0, .ref (Ad 0)), (1, .int (nI len)), (2, .long v), (4, .int (nI i))]) hx hb dX5_word_61 hl (by decide) rfl (fun ls hl => ?_)
        refine lv_iconst (v := nI 0) hx hb dX5_word_63 (by decide) ?_
        refine lv_istore (lv' := [(9, .int (nI 0)), (8, .int (nI 0)), (6, .long v), (5, .int (nI 0)), (0, .ref (Ad 0)), (1, .int (nI len)), (2, .long v), (4, .int (nI i))]) hx hb dX5_word_64 hl (by decide) rfl (fun ls hl => ?_)
        have c49 := of_decide_eq_true c_49
        rw [Int64.le_iff_toInt_le, Int64.lt_iff_toInt_lt] at c49
        have z0 : (0 : Int64).toInt = 0 := by decide
        have ef : f_word mx en (nI len) v (nI i) = loF mx en len i len 0 (some 0) v := by unfold f_word; rw [c_9, c_23, ix_len, ix_i, c_49]; rfl
        rw [ef]
        exact L5_word S hK hP hF hn hM len (by omega) hW i (by omega) _ (fun pc9 ls9 hd9 => W.iret hx hb hr (fun t ht _ => ⟨⟨_, C30, rfl, ⟨rfl, hX⟩, by rw [ht]; exact hP⟩, hS.F ht⟩) hS.2.2 hd9) (len + 1) 0 0 v (nI 0) ls (by omega) (by omega) (by omega) (by omega) (by rw [Nat.sub_zero]; omega) rfl (lv_sub hl [1, 2, 3, 0, 4, 5, 7] rfl)
      · refine lv_iconst (v := (-1)) hx hb dX5_word_52 (by decide) ?_
        refine pw_topi (y := f_word mx en (nI len) v (nI i)) (by unfold f_word; rw [c_9, c_23, ix_len, ix_i, c_49]; rfl) ?_
        exact W.iret hx hb hr (fun t ht _ => ⟨⟨_, C30, rfl, ⟨rfl, hX⟩, by rw [ht]; exact hP⟩, hS.F ht⟩) hS.2.2 dX5_word_53
    · refine lv_iconst (v := (-1)) hx hb dX5_word_26 (by decide) ?_
      refine pw_topi (y := f_word mx en a v d) (by unfold f_word; first | simp [c_9, c_23] | simp [c_9]) ?_
      exact W.iret hx hb hr (fun t ht _ => ⟨⟨_, C, rfl, ⟨rfl, hX⟩, by rw [ht]; exact hP⟩, hS.F ht⟩) hS.2.2 dX5_word_27

set_option maxHeartbeats 4000000 in
set_option maxRecDepth 100000 in
theorem L5_rank_in {p : Program} {l : Launch} {e : Env} {s : State} {m : MethodId} {args : Array Value} {below : List Frame} {meth : Method} {c : Code} {H : Heap} {locs : List Loc} {Q : State → Prop} (S : CallFix p m c cX5_rank 10 s args wsX5_rank RX5) {D : va_G} {cy : Nat → ClassId} {Ad : Nat → Nat} {n mm : Nat} {pk : Int64} {tr : Int32} {C : pw_C} (hK : pw_K D cy s) (hP : pw_P D cy Ad shM C H) (hF : fM n mm pk tr Ad C) (hn : 1 ≤ n ∧ n ≤ 12) {mx : Nat → Nat → Option Nat} (hM : mM n mx C) {en : Nat → Bool} (len : Nat) (hle : len ≤ 25) (hW : ∀ l9, l9 ≤ len → ∀ y, y < n → C.2.1 11 (12 * l9 + y) = cnW mx en l9 y)  (v : Int64) (j x : Nat) (hj : j < len) (hx0 : x < n) (nu : Int64) (hk : ∀ (ls : Array Slot), lv_has ls 10 [(5, .long (nu + cbS mx (cnW mx en (len - j - 1)) x (ltr v j))), (1, .int (nI len)), (2, .long v), (4, .int (nI x)), (7, .int (nI j)), (8, .int (nI (ltr v j))), (0, .ref (Ad 0))] → W p l e (k2_rm 1 25) s m args below meth c H locs 0 0 Q (F0 m 84 ls [])) : ∀ (f : Nat) (ch : Nat) (ls : Array Slot), 4 - ch < f → (ch ≤ ltr v j) → lv_has ls 10 [(9, .int (nI ch)), (5, .long (nu + cbS mx (cnW mx en (len - j - 1)) x ch)), (1, .int (nI len)), (2, .long v), (4, .int (nI x)), (7, .int (nI j)), (8, .int (nI (ltr v j))), (0, .ref (Ad 0))] → W p l e (k2_rm 1 25) s m args below meth c H locs 0 0 Q (F0 m 52 ls []) := by
  have hx := S.1
  have hb := S.2.1
  have hml := S.2.2.1
  have hown := S.2.2.2.1
  have hts := S.2.2.2.2
  intro f
  induction f with
  | zero => intro ch ls hf; exact absurd hf (Nat.not_lt_zero _)
  | succ f ih =>
    intro ch ls hf hc9 hl
    have hlt := ltr_lt v j
    refine lv_iload hx hb dX5_rank_52 (lv_at hl 0 rfl) ?_
    refine lv_iload hx hb dX5_rank_54 (lv_at hl 6 rfl) ?_
    refine pn_icmp_ge (tgt := 84) hx hb (by omega) (by omega) dX5_rank_56 (by decide) (fun c_56 => ?_) (fun c_56 => ?_)
    · obtain rfl : ch = ltr v j := by omega
      exact hk ls (lv_sub hl [1, 2, 3, 4, 5, 6, 7] rfl)
    · refine lv_lload hx hb dX5_rank_59 (lv_at hl 1 rfl) ?_
      refine lv_aload_n hx hb dX5_rank_61 rfl (lv_at hl 7 rfl) ?_
      refine lv_iload hx hb dX5_rank_62 (lv_at hl 4 rfl) ?_
      refine lv_iload hx hb dX5_rank_64 (lv_at hl 0 rfl) ?_
      refine lv_iload_n hx hb dX5_rank_66 rfl (lv_at hl 2 rfl) ?_
      refine lv_iload hx hb dX5_rank_67 (lv_at hl 5 rfl) ?_
      refine lv_isub hx hb dX5_rank_69 ?_
      refine pw_topi (pk_sub (by omega)) ?_
      refine lv_iconst (v := nI 1) hx hb dX5_rank_70 (by decide) ?_
      refine lv_isub hx hb dX5_rank_71 ?_
      refine pw_topi (pk_sub (by omega)) ?_
      refine pw_cv S hK hP 0 5 rfl rfl 3 (c_X5_goesOn l D cy Ad n mm pk tr C hn hF mx hM en len hle hW x ch ((len - j) - 1) (by omega) (by omega) (by omega)) gX5_rank_X5_goesOn rfl rfl rfl (by decide +kernel) ⟨Nat.le_of_ble_eq_true rfl, Nat.le_of_ble_eq_true rfl⟩ rfl hl.1 rfl (Nat.le_of_ble_eq_true rfl) dX5_rank_72 ⟨Nat.le_refl _, Nat.le_refl _⟩ ?_
      refine lv_ladd hx hb dX5_rank_75 ?_
      refine pw_topl (y := nu + cbS mx (cnW mx en (len - j - 1)) x (ch + 1)) (Int64.add_assoc _ _ _) ?_
      refine lv_lstore (lv' := [(5, .long (nu + cbS mx (cnW mx en (len - j - 1)) x (ch + 1))), (9, .int (nI ch)), (1, .int (nI len)), (2, .long v), (4, .int (nI x)), (7, .int (nI j)), (8, .int (nI (ltr v j))), (0, .ref (Ad 0))]) hx hb dX5_rank_76 hl (by decide) rfl (fun ls hl => ?_)
      refine lv_iinc (v := nI (ch + 1)) (lv' := [(9, .int (nI (ch + 1))), (5, .long (nu + cbS mx (cnW mx en (len - j - 1)) x (ch + 1))), (1, .int (nI len)), (2, .long v), (4, .int (nI x)), (7, .int (nI j)), (8, .int (nI (ltr v j))), (0, .ref (Ad 0))]) hx hb dX5_rank_78 hl (k := 1) rfl (nI_add _ 1) (by decide) rfl (fun ls hl => ?_)
      refine lv_goto (tgt := 52) hx hb dX5_rank_81 (by decide) ?_
      exact ih (ch + 1) ls (by omega) (by omega) (lv_sub hl [0, 1, 2, 3, 4, 5, 6, 7] rfl)

set_option maxHeartbeats 4000000 in
set_option maxRecDepth 100000 in
theorem L5_rank {p : Program} {l : Launch} {e : Env} {s : State} {m : MethodId} {args : Array Value} {below : List Frame} {meth : Method} {c : Code} {H : Heap} {locs : List Loc} {Q : State → Prop} (S : CallFix p m c cX5_rank 10 s args wsX5_rank RX5) {D : va_G} {cy : Nat → ClassId} {Ad : Nat → Nat} {n mm : Nat} {pk : Int64} {tr : Int32} {C : pw_C} (hK : pw_K D cy s) (hP : pw_P D cy Ad shM C H) (hF : fM n mm pk tr Ad C) (hn : 1 ≤ n ∧ n ≤ 12) {mx : Nat → Nat → Option Nat} (hM : mM n mx C) {en : Nat → Bool} (len : Nat) (hle : len ≤ 25) (hW : ∀ l9, l9 ≤ len → ∀ y, y < n → C.2.1 11 (12 * l9 + y) = cnW mx en l9 y)  (hE : mE n en C) (v : Int64) (r : Int64) (hq : ∀ (pc9 : Nat) (ls : Array Slot), decode cX5_rank pc9 = .ok (.lreturn, 1) → W p l e (k2_rm 1 25) s m args below meth c H locs 0 0 Q (F0 m pc9 ls [.long r])) : ∀ (f : Nat) (j : Nat) (x : Nat) (nu : Int64) (ls : Array Slot), len - j < f → (j ≤ len) → (x < n) → (noF mx en len v (len - j) j x nu = r) → lv_has ls 10 [(5, .long nu), (1, .int (nI len)), (2, .long v), (4, .int (nI x)), (7, .int (nI j)), (0, .ref (Ad 0))] → W p l e (k2_rm 1 25) s m args below meth c H locs 0 0 Q (F0 m 30 ls []) := by
  have hx := S.1
  have hb := S.2.1
  have hml := S.2.2.1
  have hown := S.2.2.2.1
  have hts := S.2.2.2.2
  intro f
  induction f with
  | zero => intro j x nu ls hf; exact absurd hf (Nat.not_lt_zero _)
  | succ f ih =>
    intro j x nu ls hf hj hx0 hr0 hl
    refine lv_iload hx hb dX5_rank_30 (lv_at hl 4 rfl) ?_
    refine lv_iload_n hx hb dX5_rank_32 rfl (lv_at hl 1 rfl) ?_
    refine pn_icmp_ge (tgt := 113) hx hb (by omega) (by omega) dX5_rank_33 (by decide) (fun c_33 => ?_) (fun c_33 => ?_)
    · have hz : len - j = 0 := by omega
      rw [hz] at hr0
      refine lv_aload_n hx hb dX5_rank_113 rfl (lv_at hl 5 rfl) ?_
      refine pw_get hx hb hts (fun _ h9 => List.mem_cons_of_mem _ (List.mem_append_right _ h9)) hown hK hP 0 rfl rfl 3 (by decide) hF rfl (hts (.fieldLink RX5 16 "PastDrawsModel" "isEnd" "[Z") (List.mem_of_getElem? (i := 6) rfl)) dX5_rank_114 ?_
      refine lv_iload hx hb dX5_rank_117 (lv_at hl 3 rfl) ?_
      refine pw_zald hx hb hK hP 3 rfl (by omega) (by decide) (v := pb (en x)) (hE x hx0) dX5_rank_119 ?_
      refine pn_ifeq_b (tgt := 128) hx hb dX5_rank_120 (by decide) (fun c_120 => ?_) (fun c_120 => ?_)
      · refine lv_ldc2 hx hb hown (hts (.constantLong RX5 155 (-2)) (List.mem_of_getElem? (i := 5) rfl)) dX5_rank_128 ?_
        refine pw_topl (y := r) (by rw [← hr0]; show _ = if en x = true then nu else (-2); rw [c_120]; rfl) ?_
        exact hq _ ls dX5_rank_131
      · refine lv_lload hx hb dX5_rank_123 (lv_at hl 0 rfl) ?_
        refine lv_goto (tgt := 131) hx hb dX5_rank_125 (by decide) ?_
        refine pw_topl (y := r) (by rw [← hr0]; show _ = if en x = true then nu else (-2); rw [c_120]; rfl) ?_
        exact hq _ ls dX5_rank_131
    · obtain ⟨z, hz⟩ : ∃ z, len - j = z + 1 := ⟨len - j - 1, by omega⟩
      rw [hz, noF, show len - 1 - j = len - j - 1 by omega] at hr0
      refine lv_lload_n hx hb dX5_rank_36 rfl (lv_at hl 2 rfl) ?_
      refine lv_iconst (v := nI 2) hx hb dX5_rank_37 (by decide) ?_
      refine lv_iload hx hb dX5_rank_38 (lv_at hl 4 rfl) ?_
      refine lv_imul hx hb dX5_rank_40 ?_
      refine pw_topi (pk_mul _ _) ?_
      refine lv_lshr hx hb dX5_rank_41 rfl ?_
      refine lv_ldc2 hx hb hown (hts (.constantLong RX5 144 (3)) (List.mem_of_getElem? (i := 3) rfl)) dX5_rank_42 ?_
      refine lv_land hx hb dX5_rank_45 ?_
      refine lv_l2i hx hb dX5_rank_46 rfl ?_
      refine pw_topi (y := nI (ltr v j)) (ltr_s v (by omega)) ?_
      refine lv_istore (lv' := [(8, .int (nI (ltr v j))), (5, .long nu), (1, .int (nI len)), (2, .long v), (4, .int (nI x)), (7, .int (nI j)), (0, .ref (Ad 0))]) hx hb dX5_rank_47 hl (by decide) rfl (fun ls hl => ?_)
      refine lv_iconst (v := nI 0) hx hb dX5_rank_49 (by decide) ?_
      refine lv_istore (lv' := [(9, .int (nI 0)), (8, .int (nI (ltr v j))), (5, .long nu), (1, .int (nI len)), (2, .long v), (4, .int (nI x)), (7, .int (nI j)), (0, .ref (Ad 0))]) hx hb dX5_rank_50 hl (by decide) rfl (fun ls hl => ?_)
      have hlt := ltr_lt v j
      refine L5_rank_in S hK hP hF hn hM len hle hW v j x (by omega) hx0 nu (fun ls hl => ?_) 5 0 ls (by omega) (by omega) (by rw [show cbS mx (cnW mx en (len - j - 1)) x 0 = 0 from rfl, Int64.add_zero]; exact (lv_sub hl [0, 2, 3, 4, 5, 6, 1, 7] rfl))
      refine lv_aload_n hx hb dX5_rank_84 rfl (lv_at hl 6 rfl) ?_
      refine pw_get hx hb hts (fun _ h9 => List.mem_cons_of_mem _ (List.mem_append_right _ h9)) hown hK hP 0 rfl rfl 2 (by decide) hF rfl (hts (.fieldLink RX5 13 "PastDrawsModel" "leads" "[I") (List.mem_of_getElem? (i := 4) rfl)) dX5_rank_85 ?_
      refine lv_iconst (v := nI 4) hx hb dX5_rank_88 (by decide) ?_
      refine lv_iload hx hb dX5_rank_89 (lv_at hl 3 rfl) ?_
      refine lv_imul hx hb dX5_rank_91 ?_
      refine pw_topi (pk_mul _ _) ?_
      refine lv_iload hx hb dX5_rank_92 (lv_at hl 5 rfl) ?_
      refine lv_iadd hx hb dX5_rank_94 ?_
      refine pw_topi (nI_add _ _) ?_
      have hu_95 : (ltr v j) < 4 := (by first | exact sgn_lt _ _ | omega)
      have hx_95 : x < n := (by first | exact sgn_lt _ _ | omega)
      refine pw_iald hx hb hK hP 2 rfl (by omega) (by decide) (v := oi (mx x (ltr v j))) (hM _ hx_95 _ hu_95).2 dX5_rank_95 ?_
      rcases ho_96 : mx x (ltr v j) with _ | y_96
      · refine pw_topi (y := (-2)) rfl ?_
        refine lv_istore (lv' := [(4, .int (-2)), (5, .long (nu + cbS mx (cnW mx en (len - j - 1)) x (ltr v j))), (1, .int (nI len)), (2, .long v), (7, .int (nI j)), (8, .int (nI (ltr v j))), (0, .ref (Ad 0))]) hx hb dX5_rank_96 hl (by decide) rfl (fun ls hl => ?_)
        refine lv_iload hx hb dX5_rank_98 (lv_at hl 0 rfl) ?_
        refine lv_if_ge (tgt := 107) hx hb dX5_rank_100 (by decide) (fun c_100 => absurd c_100 (by decide)) (fun c_100 => ?_)
        refine lv_ldc2 hx hb hown (hts (.constantLong RX5 155 (-2)) (List.mem_of_getElem? (i := 5) rfl)) dX5_rank_103 ?_
        refine pw_topl (y := r) (by rw [← hr0, ho_96]) ?_
        exact hq _ ls dX5_rank_106
      · have hy_96 : y_96 < n := (hM x hx0 (ltr v j) hlt).1 y_96 ho_96
        refine pw_topi (y := nI y_96) rfl ?_
        refine lv_istore (lv' := [(4, .int (nI y_96)), (5, .long (nu + cbS mx (cnW mx en (len - j - 1)) x (ltr v j))), (1, .int (nI len)), (2, .long v), (7, .int (nI j)), (8, .int (nI (ltr v j))), (0, .ref (Ad 0))]) hx hb dX5_rank_96 hl (by decide) rfl (fun ls hl => ?_)
        refine lv_iload hx hb dX5_rank_98 (lv_at hl 0 rfl) ?_
        refine lv_if_ge (tgt := 107) hx hb dX5_rank_100 (by decide) (fun _ => ?_) (fun h9 => absurd (nI_pos' (by omega)) h9)
        refine lv_iinc (v := nI (j + 1)) (lv' := [(7, .int (nI (j + 1))), (4, .int (nI y_96)), (5, .long (nu + cbS mx (cnW mx en (len - j - 1)) x (ltr v j))), (1, .int (nI len)), (2, .long v), (8, .int (nI (ltr v j))), (0, .ref (Ad 0))]) hx hb dX5_rank_107 hl (k := 4) rfl (nI_add _ 1) (by decide) rfl (fun ls hl => ?_)
        refine lv_goto (tgt := 30) hx hb dX5_rank_110 (by decide) ?_
        rw [ho_96] at hr0
        exact ih (j + 1) y_96 (nu + cbS mx (cnW mx en (len - j - 1)) x (ltr v j)) ls (by omega) (by omega) hy_96 (by rw [show len - (j + 1) = z by omega]; exact hr0) (lv_sub hl [2, 3, 4, 1, 0, 6] rfl)

set_option maxHeartbeats 4000000 in
set_option maxRecDepth 100000 in
theorem c_X5_rank (l : Launch) (D : va_G) (cy : Nat → ClassId) (Ad : Nat → Nat) (n mm : Nat) (C : pw_C) (hI : pw_I Ad shM) (hn : 1 ≤ n ∧ n ≤ 12) (hmm : 1 ≤ mm ∧ mm ≤ 16) (nx : Nat → Nat → Nat) (mx : Nat → Nat → Option Nat) (en : Nat → Bool) (am wt : Nat → Nat) (hX : MI n mm nx mx en am wt Ad C) (a : Int32) (v : Int64) : Met l yX5_rank wsX5_rank (k2_rm 1 25) (pw_Pre ([.ref (Ad 0), .int a, .long v]) D cy Ad shM C) (pw_Post (fun r9 C' => r9 = some (.long (f_rank mx en a v)) ∧ (MI n mm nx mx en am wt Ad C')) D cy Ad shM) 0 0 (pw_fr Ad shM) := by
  refine Met.ofW (cc := cX5_rank) (maxL := 10) (ret := (some .long)) (by decide) rfl ?_
  intro p e s m args below meth c s₁ B hml hv
  obtain ⟨rfl, hP, hK⟩ := hv
  have hx := B.exec
  have hb := B.bytes
  have hr := B.returns
  have hts := atoms_spec (ws := wsX5_rank) B.pre
  have hown : s.vm.findClass RX5 = some m.cls := findClass_of_methodNamed B.named
  have hlocks := B.notSynchronized
  have S : CallFix p m c cX5_rank 10 s ([.ref (Ad 0), .int a, .long v]).toArray wsX5_rank RX5 := ⟨hx, hb, hml, hown, hts⟩
  change W p l e (k2_rm 1 25) s m _ below meth c s.heap [] 0 0 _ _
  have hl := lv_entry ([.ref (Ad 0), .int a, .long v]) (n := 10) (Nat.le_of_ble_eq_true rfl)
  rw [lg_entry_eq]
  generalize (lg_sl ([.ref (Ad 0), .int a, .long v]) ++ List.replicate (10 - (lg_sl ([.ref (Ad 0), .int a, .long v])).length) Slot.unset).toArray = ls at hl ⊢
  have hl : lv_has ls 10 [(0, .ref (Ad 0)), (1, .int a), (2, .long v)] := hl
  have hS : va_S (pw_fr Ad shM) s.heap s.heap [] := va_S.rf
  obtain ⟨⟨pk, tr, hF⟩, hN, hM, hE, hA, hT⟩ := id hX
  refine lv_iload_n hx hb dX5_rank_0 rfl (lv_at hl 1 rfl) ?_
  refine lv_i2l hx hb dX5_rank_1 rfl ?_
  refine lv_lconst (v := 0) hx hb dX5_rank_2 (by decide) ?_
  refine lv_ldc2 hx hb hown (hts (.constantLong RX5 146 (25)) (List.mem_of_getElem? (i := 1) rfl)) dX5_rank_3 ?_
  refine pw_cs S 3 (c_X5_in l a.toInt64 0 (25)) gX5_rank_X5_in rfl rfl rfl (by decide +kernel) ⟨Nat.le_of_ble_eq_true rfl, Nat.le_of_ble_eq_true rfl⟩ rfl hl.1 rfl (Nat.le_of_ble_eq_true rfl) dX5_rank_6 ⟨Nat.le_refl _, Nat.le_refl _⟩ ?_
  refine pw_topi (y := pb (wi a (nI 0) (nI 25))) (congrArg pb (wl_wi _ (nI 0) (nI 25) (by first | rfl | decide) (by first | rfl | decide))) ?_
  refine pn_ifne_b (tgt := 16) hx hb dX5_rank_9 (by decide) (fun c_9 => ?_) (fun c_9 => ?_)
  · obtain ⟨len, hl_len, hh_len, rfl⟩ := wi_ex (by omega) c_9
    have ix_len : ix (nI len) = len := nI_clamp (by omega)
    refine lv_aload_n hx hb dX5_rank_16 rfl (lv_at hl 0 rfl) ?_
    refine lv_iload_n hx hb dX5_rank_17 rfl (lv_at hl 1 rfl) ?_
    refine pw_cvW S hK hP 0 5 rfl rfl 1 (c_X5_countWords l D cy Ad n mm pk tr C hI hn hF mx hM en hE len (by omega)) gX5_rank_X5_countWords rfl rfl rfl (by decide +kernel) ⟨Nat.le_of_ble_eq_true rfl, Nat.le_of_ble_eq_true rfl⟩ rfl hl.1 rfl (Nat.le_of_ble_eq_true rfl) dX5_rank_18 ⟨Nat.le_refl _, Nat.le_refl _⟩ hS (fun _ h9 => h9) (fun r9 C18 H locs hR hP _ _ hS => ?_)
    obtain ⟨rfl, hR⟩ := hR
    change W p l e _ s m _ below meth c H locs 0 0 _ (F0 m 21 ls [])
    have hX := MI_B hX hR.1 (fun k h => by have h8 : k = 11 := h; omega)
    have hF := fM_B hF hR.1
    have hM := mM_B hM hR.1 (by omega)
    have hE := mE_B hE hR.1 (by omega)
    have hW := hR.2
    refine lv_iconst (v := nI 0) hx hb dX5_rank_21 (by decide) ?_
    refine lv_istore (lv' := [(4, .int (nI 0)), (0, .ref (Ad 0)), (1, .int (nI len)), (2, .long v)]) hx hb dX5_rank_22 hl (by decide) rfl (fun ls hl => ?_)
    refine lv_lconst (v := 0) hx hb dX5_rank_24 (by decide) ?_
    refine lv_lstore (lv' := [(5, .long 0), (4, .int (nI 0)), (0, .ref (Ad 0)), (1, .int (nI len)), (2, .long v)]) hx hb dX5_rank_25 hl (by decide) rfl (fun ls hl => ?_)
    refine lv_iconst (v := nI 0) hx hb dX5_rank_27 (by decide) ?_
    refine lv_istore (lv' := [(7, .int (nI 0)), (5, .long 0), (4, .int (nI 0)), (0, .ref (Ad 0)), (1, .int (nI len)), (2, .long v)]) hx hb dX5_rank_28 hl (by decide) rfl (fun ls hl => ?_)
    have ef : f_rank mx en (nI len) v = noF mx en len v len 0 0 0 := by unfold f_rank; rw [if_pos c_9, ix_len]
    rw [ef]
    exact L5_rank S hK hP hF hn hM len (by omega) hW hE v _ (fun pc9 ls9 hd9 => W.lret hx hb hr (fun t ht _ => ⟨⟨_, C18, rfl, ⟨rfl, hX⟩, by rw [ht]; exact hP⟩, hS.F ht⟩) hS.2.2 hd9) (len + 1) 0 0 0 ls (by omega) (by omega) (by omega) rfl (lv_sub hl [1, 4, 5, 2, 0, 3] rfl)
  · refine lv_ldc2 hx hb hown (hts (.constantLong RX5 89 (-1)) (List.mem_of_getElem? (i := 2) rfl)) dX5_rank_12 ?_
    refine pw_topl (y := f_rank mx en a v) (by unfold f_rank; rw [c_9]; rfl) ?_
    exact W.lret hx hb hr (fun t ht _ => ⟨⟨_, C, rfl, ⟨rfl, hX⟩, by rw [ht]; exact hP⟩, hS.F ht⟩) hS.2.2 dX5_rank_15
