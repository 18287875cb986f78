theorem ps_min {a b : Nat} (ha : a < 2 ^ 31) (hb : b < 2 ^ 31) : (if nI b < nI a then nI b else nI a) = nI (min a b) := by
  by_cases h : b < a
  · rw [if_pos ((nI_ltI hb ha).mpr h), Nat.min_eq_right (by omega)]
  · rw [if_neg (fun q => h ((nI_ltI hb ha).mp q)), Nat.min_eq_left (by omega)]
theorem ps_max {a b : Nat} (ha : a < 2 ^ 31) (hb : b < 2 ^ 31) : (if nI a < nI b then nI b else nI a) = nI (max a b) := by
  by_cases h : a < b
  · rw [if_pos ((nI_ltI ha hb).mpr h), Nat.max_eq_right (by omega)]
  · rw [if_neg (fun q => h ((nI_ltI ha hb).mp q)), Nat.max_eq_left (by omega)]
def mnF (nx : Nat → Nat → Nat) (u lo : Nat) : Nat → Nat
  | 0 => nx u lo
  | k + 1 => min (mnF nx u lo k) (nx u (lo + k + 1))
def mxF (nx : Nat → Nat → Nat) (u lo : Nat) : Nat → Nat
  | 0 => nx u lo
  | k + 1 => max (mxF nx u lo k) (nx u (lo + k + 1))
theorem mn_mx (nx : Nat → Nat → Nat) (u lo : Nat) : ∀ k, mnF nx u lo k ≤ mxF nx u lo k := by
  intro k
  induction k with
  | zero => exact Nat.le_refl _
  | succ k ih => unfold mnF mxF; omega
theorem mx_lt {n : Nat} {nx : Nat → Nat → Nat} {u lo : Nat} (h : ∀ x, x < n → nx u x < n) : ∀ k, lo + k < n → mxF nx u lo k < n := by
  intro k
  induction k with
  | zero => intro hk; exact h _ (by omega)
  | succ k ih =>
    intro hk
    have h1 := ih (by omega)
    have h2 := h (lo + k + 1) (by omega)
    unfold mxF
    omega
/-- the bounds of a row -/
def bnd (nx : Nat → Nat → Nat) (a : Int32) : Nat → Nat → Nat → Nat × Nat
  | 0, lo, hi => (lo, hi)
  | t + 1, lo, hi => bnd nx a t (mnF nx (sgn a (nI (t + 1))) lo (hi - lo)) (mxF nx (sgn a (nI (t + 1))) lo (hi - lo))
def bmt (nx : Nat → Nat → Nat) (n : Nat) (a : Int32) (t : Nat) : Bool := decide ((bnd nx a t 0 (n - 1)).1 = (bnd nx a t 0 (n - 1)).2)
def oi : Option Nat → Int32
  | none => (-2)
  | some x => nI x
def fstT (P : Nat → Bool) : Nat → Nat → Option Nat
  | 0, _ => none
  | f + 1, t => if P t = true then some t else fstT P f (t + 1)
def ko (n : Nat) (nx : Nat → Nat → Nat) : Bool := (List.range 8).all fun u => (List.range (n - 1)).all fun x => decide (nx u x ≤ nx u (x + 1))
theorem ko_iff {n : Nat} {nx : Nat → Nat → Nat} : ko n nx = true ↔ ∀ u, u < 8 → ∀ x, x < n - 1 → nx u x ≤ nx u (x + 1) := by
  simp [ko, List.all_eq_true, List.mem_range]
theorem ko_f {n : Nat} {nx : Nat → Nat → Nat} (h : ¬ ∀ u, u < 8 → ∀ x, x < n - 1 → nx u x ≤ nx u (x + 1)) : ko n nx = false := by
  cases hb : ko n nx
  · rfl
  · exact absurd (ko_iff.mp hb) h
def tbF (nx : Nat → Nat → Nat) (a : Int32) (bf : Nat) : Nat → Nat → Nat
  | 0, x => x
  | i + 1, x => nx (sgn a (nI (bf + (i + 1)))) (tbF nx a bf i x)
/-- whether a block meets, with the early end -/
def bmF (nx : Nat → Nat → Nat) (n : Nat) (a : Int32) (bf : Nat) : Nat → Nat → Nat → Bool
  | 0, _, Z => sng Z
  | f + 1, i, Z => if sng Z = true then true else bmF nx n a bf f (i + 1) (imgF nx Z (sgn a (nI (bf + i))) n)
def drF (nx : Nat → Nat → Nat) (n : Nat) (a : Int32) (len k : Nat) : Nat → Nat → Bool → Nat → Nat → Option Nat
  | 0, _, _, _, _ => none
  | f + 1, b, hm, dr, st => if (bmF nx n a (len * b) len 1 (2 ^ n - 1) && hm && decide (dr = k)) = true then some st
    else drF nx n a len k f (b + 1) (hm || bmF nx n a (len * b) len 1 (2 ^ n - 1)) (if (bmF nx n a (len * b) len 1 (2 ^ n - 1) && hm) = true then dr + 1 else dr) (tbF nx a (len * b) len st)

set_option maxHeartbeats 4000000 in
set_option maxRecDepth 100000 in
theorem L_boundsMeet_in {p : Program} {l : Launch} {e : Env} {s : State} {m : MethodId} {args : Array Value} {below : List Frame} {meth : Method} {c : Code} {H : Heap} {locs : List Loc} {Q : State → Prop} (S : CallFix p m c cX0_boundsMeet 10 s args wsX0_boundsMeet RX0) {D : va_G} {cy : Nat → ClassId} {Ad : Nat → Nat} {n mm : Nat} {C : pw_C} (hK : pw_K D cy s) (hP : pw_P D cy Ad (shX n) C H) (hF : fX n mm Ad C) (hn : 1 ≤ n ∧ n ≤ 12) {nx : Nat → Nat → Nat} (hN : gN n nx C) (a : Int32) (t u lo hi : Nat) (hu : u < 8) (hlo : lo ≤ hi) (hhi : hi < n) (hk : ∀ ls, lv_has ls 10 [(8, .int (nI (mxF nx u lo (hi - lo)))), (7, .int (nI (mnF nx u lo (hi - lo)))), (0, .ref (Ad 1)), (1, .int a), (5, .int (nI t))] → W p l e (k2_rm 2 43) s m args below meth c H locs 0 0 Q (F0 m 86 ls [])) : ∀ (f : Nat) (k : Nat) (ls : Array Slot), hi - lo - k < f → (k ≤ hi - lo) → lv_has ls 10 [(9, .int (nI (lo + k + 1))), (8, .int (nI (mxF nx u lo k))), (7, .int (nI (mnF nx u lo k))), (6, .ref (Ad (21 + u))), (0, .ref (Ad 1)), (1, .int a), (5, .int (nI t)), (3, .int (nI lo)), (4, .int (nI hi))] → W p l e (k2_rm 2 43) s m args below meth c H locs 0 0 Q (F0 m 49 ls []) := by
  have hx := S.1
  have hb := S.2.1
  have hml := S.2.2.1
  have hown := S.2.2.2.1
  have hts := S.2.2.2.2
  intro f
  induction f with
  | zero => intro k ls hf; exact absurd hf (Nat.not_lt_zero _)
  | succ f ih =>
    intro k ls hf hk0 hl
    refine lv_iload hx hb dX0_boundsMeet_49 (lv_at hl 0 rfl) ?_
    refine lv_iload hx hb dX0_boundsMeet_51 (lv_at hl 8 rfl) ?_
    refine pn_icmp_gt (tgt := 86) hx hb (by omega) (by omega) dX0_boundsMeet_53 (by decide) (fun c_53 => ?_) (fun c_53 => ?_)
    · obtain rfl : k = hi - lo := by omega
      exact hk ls (lv_sub hl [1, 2, 4, 5, 6] rfl)
    · have hb1 := mn_mx nx u lo k
      have hb2 := mx_lt (lo := lo) (fun x h => (hN u hu x h).1) k (by omega)
      refine lv_iload hx hb dX0_boundsMeet_56 (lv_at hl 2 rfl) ?_
      refine lv_aload hx hb dX0_boundsMeet_58 (lv_at hl 3 rfl) ?_
      refine lv_iload hx hb dX0_boundsMeet_60 (lv_at hl 0 rfl) ?_
      have hu_62 : u < 8 := (by first | exact sgn_lt _ _ | omega)
      have hx_62 : lo + k + 1 < n := (by first | exact sgn_lt _ _ | omega)
      have q_62 : nx u (lo + k + 1) < n := (hN _ hu_62 _ hx_62).1
      refine pw_iald hx hb hK hP (21 + u) (shX_nx hu_62) hx_62 (by omega) (hN _ hu_62 _ hx_62).2 dX0_boundsMeet_62 ?_
      refine va_mmin hx hb (hml.trans hl.1.symm) hown (hts (.methodLink RX0 60 Lib.Math.min.name) (List.mem_of_getElem? (i := 3) rfl)) (hts (.static Lib.Math.min.name) (List.mem_of_getElem? (i := 4) rfl)) (hts (.initialized "java/lang/Math") (List.mem_of_getElem? (i := 5) rfl)) (hts (.code Lib.Math.min.name Lib.Math.min.code 2 (some .int)) (List.mem_of_getElem? (i := 6) rfl)) (Nat.le_of_ble_eq_true rfl) (Nat.le_of_ble_eq_true rfl) (Nat.le_refl _) (Nat.le_refl _) dX0_boundsMeet_63 ?_
      refine pw_topi (ps_min (by omega) (by omega)) ?_
      refine lv_istore (lv' := [(7, .int (nI (min (mnF nx u lo k) (nx u (lo + k + 1))))), (9, .int (nI (lo + k + 1))), (8, .int (nI (mxF nx u lo k))), (6, .ref (Ad (21 + u))), (0, .ref (Ad 1)), (1, .int a), (5, .int (nI t)), (3, .int (nI lo)), (4, .int (nI hi))]) hx hb dX0_boundsMeet_66 hl (by decide) rfl (fun ls hl => ?_)
      refine lv_iload hx hb dX0_boundsMeet_68 (lv_at hl 2 rfl) ?_
      refine lv_aload hx hb dX0_boundsMeet_70 (lv_at hl 3 rfl) ?_
      refine lv_iload hx hb dX0_boundsMeet_72 (lv_at hl 1 rfl) ?_
      have hu_74 : u < 8 := (by first | exact sgn_lt _ _ | omega)
      have hx_74 : lo + k + 1 < n := (by first | exact sgn_lt _ _ | omega)
      have q_74 : nx u (lo + k + 1) < n := (hN _ hu_74 _ hx_74).1
      refine pw_iald hx hb hK hP (21 + u) (shX_nx hu_74) hx_74 (by omega) (hN _ hu_74 _ hx_74).2 dX0_boundsMeet_74 ?_
      refine va_mmax hx hb (hml.trans hl.1.symm) hown (hts (.methodLink RX0 65 Lib.Math.max.name) (List.mem_of_getElem? (i := 7) rfl)) (hts (.static Lib.Math.max.name) (List.mem_of_getElem? (i := 8) rfl)) (hts (.initialized "java/lang/Math") (List.mem_of_getElem? (i := 5) rfl)) (hts (.code Lib.Math.max.name Lib.Math.max.code 2 (some .int)) (List.mem_of_getElem? (i := 9) rfl)) (Nat.le_of_ble_eq_true rfl) (Nat.le_of_ble_eq_true rfl) (Nat.le_refl _) (Nat.le_refl _) dX0_boundsMeet_75 ?_
      refine pw_topi (ps_max (by omega) (by omega)) ?_
      refine lv_istore (lv' := [(8, .int (nI (max (mxF nx u lo k) (nx u (lo + k + 1))))), (7, .int (nI (min (mnF nx u lo k) (nx u (lo + k + 1))))), (9, .int (nI (lo + k + 1))), (6, .ref (Ad (21 + u))), (0, .ref (Ad 1)), (1, .int a), (5, .int (nI t)), (3, .int (nI lo)), (4, .int (nI hi))]) hx hb dX0_boundsMeet_78 hl (by decide) rfl (fun ls hl => ?_)
      refine lv_iinc (v := nI ((lo + k + 1) + 1)) (lv' := [(9, .int (nI ((lo + k + 1) + 1))), (8, .int (nI (max (mxF nx u lo k) (nx u (lo + k + 1))))), (7, .int (nI (min (mnF nx u lo k) (nx u (lo + k + 1))))), (6, .ref (Ad (21 + u))), (0, .ref (Ad 1)), (1, .int a), (5, .int (nI t)), (3, .int (nI lo)), (4, .int (nI hi))]) hx hb dX0_boundsMeet_80 hl (k := 2) rfl (nI_add _ 1) (by decide) rfl (fun ls hl => ?_)
      refine lv_goto (tgt := 49) hx hb dX0_boundsMeet_83 (by decide) ?_
      exact ih (k + 1) ls (by omega) (by omega) (lv_sub hl [0, 1, 2, 3, 4, 5, 6, 7, 8] rfl)

set_option maxHeartbeats 4000000 in
set_option maxRecDepth 100000 in
theorem L_boundsMeet {p : Program} {l : Launch} {e : Env} {s : State} {m : MethodId} {args : Array Value} {below : List Frame} {meth : Method} {c : Code} {H : Heap} {locs : List Loc} {Q : State → Prop} (S : CallFix p m c cX0_boundsMeet 10 s args wsX0_boundsMeet RX0) {D : va_G} {cy : Nat → ClassId} {Ad : Nat → Nat} {n mm : Nat} {C : pw_C} (hK : pw_K D cy s) (hP : pw_P D cy Ad (shX n) C H) (hF : fX n mm Ad C) (hn : 1 ≤ n ∧ n ≤ 12) {nx : Nat → Nat → Nat} (hN : gN n nx C) (a : Int32) (r : Bool) (hq : ∀ (pc9 : Nat) (ls : Array Slot), decode cX0_boundsMeet pc9 = .ok (.ireturn, 1) → W p l e (k2_rm 2 43) s m args below meth c H locs 0 0 Q (F0 m pc9 ls [.int (pb r)])) : ∀ (f : Nat) (t : Nat) (lo : Nat) (hi : Nat) (ls : Array Slot), t < f → (t ≤ 4096) → (lo ≤ hi) → (hi < n) → (decide ((bnd nx a t lo hi).1 = (bnd nx a t lo hi).2) = r) → lv_has ls 10 [(5, .int (nI t)), (3, .int (nI lo)), (4, .int (nI hi)), (0, .ref (Ad 1)), (1, .int a)] → W p l e (k2_rm 2 43) s m args below meth c H locs 0 0 Q (F0 m 13 ls []) := by
  have hx := S.1
  have hb := S.2.1
  have hml := S.2.2.1
  have hown := S.2.2.2.1
  have hts := S.2.2.2.2
  intro f
  induction f with
  | zero => intro t lo hi ls hf; exact absurd hf (Nat.not_lt_zero _)
  | succ f ih =>
    intro t lo hi ls hf ht hlo hhi hr0 hl
    refine lv_iload hx hb dX0_boundsMeet_13 (lv_at hl 0 rfl) ?_
    refine lv_iconst (v := nI 1) hx hb dX0_boundsMeet_15 (by decide) ?_
    refine pn_icmp_lt (tgt := 99) hx hb (by omega) (by omega) dX0_boundsMeet_16 (by decide) (fun c_16 => ?_) (fun c_16 => ?_)
    · obtain rfl : t = 0 := by omega
      have hr0 : decide (lo = hi) = r := hr0
      refine lv_iload_n hx hb dX0_boundsMeet_99 rfl (lv_at hl 1 rfl) ?_
      refine lv_iload hx hb dX0_boundsMeet_100 (lv_at hl 2 rfl) ?_
      refine pn_icmp_ne (tgt := 109) hx hb (by omega) (by omega) dX0_boundsMeet_102 (by decide) (fun c_102 => ?_) (fun c_102 => ?_)
      · refine lv_iconst (v := nI 0) hx hb dX0_boundsMeet_109 (by decide) ?_
        refine pw_topi (y := pb r) (by first | (rw [← hr0, show decide (lo = hi) = true from decide_eq_true c_102]; rfl) | (rw [← hr0, show decide (lo = hi) = false from decide_eq_false c_102]; rfl)) ?_
        exact hq _ ls dX0_boundsMeet_110
      · refine lv_iconst (v := nI 1) hx hb dX0_boundsMeet_105 (by decide) ?_
        refine lv_goto (tgt := 110) hx hb dX0_boundsMeet_106 (by decide) ?_
        refine pw_topi (y := pb r) (by first | (rw [← hr0, show decide (lo = hi) = true from decide_eq_true c_102]; rfl) | (rw [← hr0, show decide (lo = hi) = false from decide_eq_false c_102]; rfl)) ?_
        exact hq _ ls dX0_boundsMeet_110
    · obtain ⟨t, rfl⟩ : ∃ t9, t = t9 + 1 := ⟨t - 1, by omega⟩
      refine lv_aload_n hx hb dX0_boundsMeet_19 rfl (lv_at hl 3 rfl) ?_
      refine pw_get hx hb hts (fun _ h9 => List.mem_cons_of_mem _ (List.mem_append_right _ h9)) hown hK hP 1 rfl rfl 1 (by decide) hF.2.1 rfl (hts (.fieldLink RX0 17 "PastDraws$Chain" "next" "[[I") (List.mem_of_getElem? (i := 2) rfl)) dX0_boundsMeet_20 ?_
      refine lv_iload_n hx hb dX0_boundsMeet_23 rfl (lv_at hl 4 rfl) ?_
      refine lv_iload hx hb dX0_boundsMeet_24 (lv_at hl 0 rfl) ?_
      refine pw_cn S hK.2 (hts (.initialized RX4) (List.mem_of_getElem? (i := 11) rfl)) (hts (.static yX4_signAt) (List.mem_of_getElem? (i := 10) rfl)) 2 (c_X4_signAt l a (nI (t + 1))) gX0_boundsMeet_X4_signAt_n38 rfl rfl rfl (by decide +kernel) ⟨Nat.le_of_ble_eq_true rfl, Nat.le_of_ble_eq_true rfl⟩ rfl hl.1 rfl (Nat.le_of_ble_eq_true rfl) dX0_boundsMeet_26 ⟨Nat.le_refl _, Nat.le_refl _⟩ ?_
      refine pw_aald4 hx hb hK hP 5 rfl (by first | exact sgn_lt _ _ | omega) (by decide) dX0_boundsMeet_29 ?_
      refine lv_astore (lv' := [(6, .ref (Ad (21 + (sgn a (nI (t + 1)))))), (5, .int (nI (t + 1))), (3, .int (nI lo)), (4, .int (nI hi)), (0, .ref (Ad 1)), (1, .int a)]) hx hb dX0_boundsMeet_30 hl (by decide) rfl (fun ls hl => ?_)
      refine lv_aload hx hb dX0_boundsMeet_32 (lv_at hl 0 rfl) ?_
      refine lv_iload_n hx hb dX0_boundsMeet_34 rfl (lv_at hl 2 rfl) ?_
      have hu_35 : (sgn a (nI (t + 1))) < 8 := (by first | exact sgn_lt _ _ | omega)
      have hx_35 : lo < n := (by first | exact sgn_lt _ _ | omega)
      have q_35 : nx (sgn a (nI (t + 1))) lo < n := (hN _ hu_35 _ hx_35).1
      refine pw_iald hx hb hK hP (21 + (sgn a (nI (t + 1)))) (shX_nx hu_35) hx_35 (by omega) (hN _ hu_35 _ hx_35).2 dX0_boundsMeet_35 ?_
      refine lv_istore (lv' := [(7, .int (nI (nx (sgn a (nI (t + 1))) lo))), (6, .ref (Ad (21 + (sgn a (nI (t + 1)))))), (5, .int (nI (t + 1))), (3, .int (nI lo)), (4, .int (nI hi)), (0, .ref (Ad 1)), (1, .int a)]) hx hb dX0_boundsMeet_36 hl (by decide) rfl (fun ls hl => ?_)
      refine lv_aload hx hb dX0_boundsMeet_38 (lv_at hl 1 rfl) ?_
      refine lv_iload_n hx hb dX0_boundsMeet_40 rfl (lv_at hl 3 rfl) ?_
      have hu_41 : (sgn a (nI (t + 1))) < 8 := (by first | exact sgn_lt _ _ | omega)
      have hx_41 : lo < n := (by first | exact sgn_lt _ _ | omega)
      have q_41 : nx (sgn a (nI (t + 1))) lo < n := (hN _ hu_41 _ hx_41).1
      refine pw_iald hx hb hK hP (21 + (sgn a (nI (t + 1)))) (shX_nx hu_41) hx_41 (by omega) (hN _ hu_41 _ hx_41).2 dX0_boundsMeet_41 ?_
      refine lv_istore (lv' := [(8, .int (nI (nx (sgn a (nI (t + 1))) lo))), (7, .int (nI (nx (sgn a (nI (t + 1))) lo))), (6, .ref (Ad (21 + (sgn a (nI (t + 1)))))), (5, .int (nI (t + 1))), (3, .int (nI lo)), (4, .int (nI hi)), (0, .ref (Ad 1)), (1, .int a)]) hx hb dX0_boundsMeet_42 hl (by decide) rfl (fun ls hl => ?_)
      refine lv_iload_n hx hb dX0_boundsMeet_44 rfl (lv_at hl 4 rfl) ?_
      refine lv_iconst (v := nI 1) hx hb dX0_boundsMeet_45 (by decide) ?_
      refine lv_iadd hx hb dX0_boundsMeet_46 ?_
      refine pw_topi (nI_add _ _) ?_
      refine lv_istore (lv' := [(9, .int (nI (lo + 1))), (8, .int (nI (nx (sgn a (nI (t + 1))) lo))), (7, .int (nI (nx (sgn a (nI (t + 1))) lo))), (6, .ref (Ad (21 + (sgn a (nI (t + 1)))))), (5, .int (nI (t + 1))), (3, .int (nI lo)), (4, .int (nI hi)), (0, .ref (Ad 1)), (1, .int a)]) hx hb dX0_boundsMeet_47 hl (by decide) rfl (fun ls hl => ?_)
      have hlt := mx_lt (lo := lo) (fun x h => (hN (sgn a (nI (t + 1))) (sgn_lt _ _) x h).1) (hi - lo) (by omega)
      have hle := mn_mx nx (sgn a (nI (t + 1))) lo (hi - lo)
      refine L_boundsMeet_in S hK hP hF hn hN a (t + 1) (sgn a (nI (t + 1))) lo hi (sgn_lt _ _) hlo hhi (fun ls hl => ?_) (hi - lo + 1) 0 ls (by omega) (by omega) (lv_sub hl [0, 1, 2, 3, 7, 8, 4, 5, 6] rfl)
      refine lv_iload hx hb dX0_boundsMeet_86 (lv_at hl 1 rfl) ?_
      refine lv_istore_n (lv' := [(3, .int (nI (mnF nx (sgn a (nI (t + 1))) lo (hi - lo)))), (8, .int (nI (mxF nx (sgn a (nI (t + 1))) lo (hi - lo)))), (7, .int (nI (mnF nx (sgn a (nI (t + 1))) lo (hi - lo)))), (0, .ref (Ad 1)), (1, .int a), (5, .int (nI (t + 1)))]) hx hb dX0_boundsMeet_88 rfl hl (by decide) rfl (fun ls hl => ?_)
      refine lv_iload hx hb dX0_boundsMeet_89 (lv_at hl 1 rfl) ?_
      refine lv_istore (lv' := [(4, .int (nI (mxF nx (sgn a (nI (t + 1))) lo (hi - lo)))), (3, .int (nI (mnF nx (sgn a (nI (t + 1))) lo (hi - lo)))), (8, .int (nI (mxF nx (sgn a (nI (t + 1))) lo (hi - lo)))), (7, .int (nI (mnF nx (sgn a (nI (t + 1))) lo (hi - lo)))), (0, .ref (Ad 1)), (1, .int a), (5, .int (nI (t + 1)))]) hx hb dX0_boundsMeet_91 hl (by decide) rfl (fun ls hl => ?_)
      refine lv_iinc (v := nI t) (lv' := [(5, .int (nI t)), (4, .int (nI (mxF nx (sgn a (nI (t + 1))) lo (hi - lo)))), (3, .int (nI (mnF nx (sgn a (nI (t + 1))) lo (hi - lo)))), (8, .int (nI (mxF nx (sgn a (nI (t + 1))) lo (hi - lo)))), (7, .int (nI (mnF nx (sgn a (nI (t + 1))) lo (hi - lo)))), (0, .ref (Ad 1)), (1, .int a)]) hx hb dX0_boundsMeet_93 hl (k := 6) rfl (pk_m1 _) (by decide) rfl (fun ls hl => ?_)
      refine lv_goto (tgt := 13) hx hb dX0_boundsMeet_96 (by decide) ?_
      exact ih t _ _ ls (by omega) (by omega) hle hlt hr0 (lv_sub hl [0, 2, 1, 5, 6] rfl)

set_option maxHeartbeats 4000000 in
set_option maxRecDepth 100000 in
theorem c_X0_boundsMeet (l : Launch) (D : va_G) (cy : Nat → ClassId) (Ad : Nat → Nat) (n mm : Nat) (C : pw_C) (hn : 1 ≤ n ∧ n ≤ 12) (hF : fX n mm Ad C) (nx : Nat → Nat → Nat) (hN : gN n nx C) (a : Int32) (t : Nat) (ht : t ≤ 4096) : Met l yX0_boundsMeet wsX0_boundsMeet (k2_rm 2 43) (pw_Pre ([.ref (Ad 1), .int a, .int (nI t)]) D cy Ad (shX n) C) (k2_QcV (.int (pb (bmt nx n a t)))) 0 0 (fun _ => False) := by
  refine Met.ofW (cc := cX0_boundsMeet) (maxL := 10) (ret := (some .boolean)) (by decide) rfl ?_
  intro p e s m args below meth c s₁ B hml hv
  obtain ⟨rfl, hP, hK⟩ := hv
  have hx := B.exec
  have hb := B.bytes
  have hr := B.returns
  have hts := atoms_spec (ws := wsX0_boundsMeet) B.pre
  have hown : s.vm.findClass RX0 = some m.cls := findClass_of_methodNamed B.named
  have hlocks := B.notSynchronized
  have S : CallFix p m c cX0_boundsMeet 10 s ([.ref (Ad 1), .int a, .int (nI t)]).toArray wsX0_boundsMeet RX0 := ⟨hx, hb, hml, hown, hts⟩
  change W p l e (k2_rm 2 43) s m _ below meth c s.heap [] 0 0 _ _
  have hl := lv_entry ([.ref (Ad 1), .int a, .int (nI t)]) (n := 10) (Nat.le_of_ble_eq_true rfl)
  rw [lg_entry_eq]
  generalize (lg_sl ([.ref (Ad 1), .int a, .int (nI t)]) ++ List.replicate (10 - (lg_sl ([.ref (Ad 1), .int a, .int (nI t)])).length) Slot.unset).toArray = ls at hl ⊢
  have hl : lv_has ls 10 [(0, .ref (Ad 1)), (1, .int a), (2, .int (nI t))] := hl
  refine lv_iconst (v := nI 0) hx hb dX0_boundsMeet_0 (by decide) ?_
  refine lv_istore_n (lv' := [(3, .int (nI 0)), (0, .ref (Ad 1)), (1, .int a), (2, .int (nI t))]) hx hb dX0_boundsMeet_1 rfl hl (by decide) rfl (fun ls hl => ?_)
  refine lv_aload_n hx hb dX0_boundsMeet_2 rfl (lv_at hl 1 rfl) ?_
  refine pw_get hx hb hts (fun _ h9 => List.mem_cons_of_mem _ (List.mem_append_right _ h9)) hown hK hP 1 rfl rfl 0 (by decide) hF.2.1 rfl (hts (.fieldLink RX0 9 "PastDraws$Chain" "n" "I") (List.mem_of_getElem? (i := 1) rfl)) dX0_boundsMeet_3 ?_
  refine lv_iconst (v := nI 1) hx hb dX0_boundsMeet_6 (by decide) ?_
  refine lv_isub hx hb dX0_boundsMeet_7 ?_
  refine pw_topi (pk_sub (by omega)) ?_
  refine lv_istore (lv' := [(4, .int (nI (n - 1))), (3, .int (nI 0)), (0, .ref (Ad 1)), (1, .int a), (2, .int (nI t))]) hx hb dX0_boundsMeet_8 hl (by decide) rfl (fun ls hl => ?_)
  refine lv_iload_n hx hb dX0_boundsMeet_10 rfl (lv_at hl 4 rfl) ?_
  refine lv_istore (lv' := [(5, .int (nI t)), (4, .int (nI (n - 1))), (3, .int (nI 0)), (0, .ref (Ad 1)), (1, .int a), (2, .int (nI t))]) hx hb dX0_boundsMeet_11 hl (by decide) rfl (fun ls hl => ?_)
  exact L_boundsMeet S hK hP hF hn hN a _ (fun pc9 ls hd9 => W.zret hx hb hr (pb_nar _) (fun t ht _ => ⟨rfl, ht⟩) (fun q h => by cases h) hd9) (t + 1) t 0 (n - 1) ls (by omega) ht (by omega) (by omega) rfl (lv_sub hl [0, 2, 1, 3, 4] rfl)

set_option maxHeartbeats 4000000 in
set_option maxRecDepth 100000 in
theorem L_leastBounded {p : Program} {l : Launch} {e : Env} {s : State} {m : MethodId} {args : Array Value} {below : List Frame} {meth : Method} {c : Code} {H : Heap} {locs : List Loc} {Q : State → Prop} (S : CallFix p m c cX0_leastBounded 4 s args wsX0_leastBounded RX0) {D : va_G} {cy : Nat → ClassId} {Ad : Nat → Nat} {n mm : Nat} {C : pw_C} (hK : pw_K D cy s) (hP : pw_P D cy Ad (shX n) C H) (hF : fX n mm Ad C) (hn : 1 ≤ n ∧ n ≤ 12) {nx : Nat → Nat → Nat} (hN : gN n nx C) (a : Int32) (most : Nat) (hmo : most ≤ 64) (r : Option Nat) (hq : ∀ (pc9 : Nat) (ls : Array Slot), decode cX0_leastBounded pc9 = .ok (.ireturn, 1) → W p l e (k2_rm 3 72) s m args below meth c H locs 0 0 Q (F0 m pc9 ls [.int (oi r)])) : ∀ (f : Nat) (t : Nat) (ls : Array Slot), most + 1 - t < f → (t ≤ 65) → (fstT (fun t => bmt nx n a t) (most + 1 - t) t = r) → lv_has ls 4 [(3, .int (nI t)), (2, .int (nI most)), (0, .ref (Ad 1)), (1, .int a)] → W p l e (k2_rm 3 72) s m args below meth c H locs 0 0 Q (F0 m 2 ls []) := by
  have hx := S.1
  have hb := S.2.1
  have hml := S.2.2.1
  have hown := S.2.2.2.1
  have hts := S.2.2.2.2
  intro f
  induction f with
  | zero => intro t ls hf; exact absurd hf (Nat.not_lt_zero _)
  | succ f ih =>
    intro t ls hf ht hr0 hl
    refine lv_iload_n hx hb dX0_leastBounded_2 rfl (lv_at hl 0 rfl) ?_
    refine lv_iload_n hx hb dX0_leastBounded_3 rfl (lv_at hl 1 rfl) ?_
    refine pn_icmp_gt (tgt := 24) hx hb (by omega) (by omega) dX0_leastBounded_4 (by decide) (fun c_4 => ?_) (fun c_4 => ?_)
    · obtain hz : most + 1 - t = 0 := by omega
      rw [hz] at hr0
      refine lv_bipush (v := (-2)) hx hb dX0_leastBounded_24 (by decide) ?_
      refine pw_topi (y := oi r) (by rw [← hr0]; try rfl) ?_
      exact hq _ ls dX0_leastBounded_26
    · obtain ⟨z, hz⟩ : ∃ z, most + 1 - t = z + 1 := ⟨most - t, by omega⟩
      rw [hz, fstT] at hr0
      refine lv_aload_n hx hb dX0_leastBounded_7 rfl (lv_at hl 2 rfl) ?_
      refine lv_iload_n hx hb dX0_leastBounded_8 rfl (lv_at hl 3 rfl) ?_
      refine lv_iload_n hx hb dX0_leastBounded_9 rfl (lv_at hl 0 rfl) ?_
      refine pw_cv S hK hP 1 0 rfl rfl 2 (c_X0_boundsMeet l D cy Ad n mm C hn hF nx hN a t (by omega)) gX0_leastBounded_X0_boundsMeet rfl rfl rfl (by decide +kernel) ⟨Nat.le_of_ble_eq_true rfl, Nat.le_of_ble_eq_true rfl⟩ rfl hl.1 rfl (Nat.le_of_ble_eq_true rfl) dX0_leastBounded_10 ⟨Nat.le_refl _, Nat.le_refl _⟩ ?_
      refine pn_ifeq_b (tgt := 18) hx hb dX0_leastBounded_13 (by decide) (fun c_13 => ?_) (fun c_13 => ?_)
      · rw [if_neg (by rw [c_13]; decide)] at hr0
        have hz2 : z = most + 1 - (t + 1) := by omega
        refine lv_iinc (v := nI (t + 1)) (lv' := [(3, .int (nI (t + 1))), (2, .int (nI most)), (0, .ref (Ad 1)), (1, .int a)]) hx hb dX0_leastBounded_18 hl (k := 0) rfl (nI_add _ 1) (by decide) rfl (fun ls hl => ?_)
        refine lv_goto (tgt := 2) hx hb dX0_leastBounded_21 (by decide) ?_
        exact ih (t + 1) ls (by omega) (by omega) (by rw [← hz2]; exact hr0) (lv_sub hl [0, 1, 2, 3] rfl)
      · rw [if_pos c_13] at hr0
        refine lv_iload_n hx hb dX0_leastBounded_16 rfl (lv_at hl 0 rfl) ?_
        refine pw_topi (y := oi r) (by rw [← hr0]; try rfl) ?_
        exact hq _ ls dX0_leastBounded_17

set_option maxHeartbeats 4000000 in
set_option maxRecDepth 100000 in
theorem c_X0_leastBounded (l : Launch) (D : va_G) (cy : Nat → ClassId) (Ad : Nat → Nat) (n mm : Nat) (C : pw_C) (hn : 1 ≤ n ∧ n ≤ 12) (hF : fX n mm Ad C) (nx : Nat → Nat → Nat) (hN : gN n nx C) (a : Int32) (most : Nat) (hmo : most ≤ 64) : Met l yX0_leastBounded wsX0_leastBounded (k2_rm 3 72) (pw_Pre ([.ref (Ad 1), .int a, .int (nI most)]) D cy Ad (shX n) C) (k2_QcV (.int (oi (fstT (fun t => bmt nx n a t) most 1)))) 0 0 (fun _ => False) := by
  refine Met.ofW (cc := cX0_leastBounded) (maxL := 4) (ret := (some .int)) (by decide) rfl ?_
  intro p e s m args below meth c s₁ B hml hv
  obtain ⟨rfl, hP, hK⟩ := hv
  have hx := B.exec
  have hb := B.bytes
  have hr := B.returns
  have hts := atoms_spec (ws := wsX0_leastBounded) B.pre
  have hown : s.vm.findClass RX0 = some m.cls := findClass_of_methodNamed B.named
  have hlocks := B.notSynchronized
  have S : CallFix p m c cX0_leastBounded 4 s ([.ref (Ad 1), .int a, .int (nI most)]).toArray wsX0_leastBounded RX0 := ⟨hx, hb, hml, hown, hts⟩
  change W p l e (k2_rm 3 72) s m _ below meth c s.heap [] 0 0 _ _
  have hl := lv_entry ([.ref (Ad 1), .int a, .int (nI most)]) (n := 4) (Nat.le_of_ble_eq_true rfl)
  rw [lg_entry_eq]
  generalize (lg_sl ([.ref (Ad 1), .int a, .int (nI most)]) ++ List.replicate (4 - (lg_sl ([.ref (Ad 1), .int a, .int (nI most)])).length) Slot.unset).toArray = ls at hl ⊢
  have hl : lv_has ls 4 [(0, .ref (Ad 1)), (1, .int a), (2, .int (nI most))] := hl
  refine lv_iconst (v := nI 1) hx hb dX0_leastBounded_0 (by decide) ?_
  refine lv_istore_n (lv' := [(3, .int (nI 1)), (0, .ref (Ad 1)), (1, .int a), (2, .int (nI most))]) hx hb dX0_leastBounded_1 rfl hl (by decide) rfl (fun ls hl => ?_)
  exact L_leastBounded S hK hP hF hn hN a most hmo _ (fun pc9 ls hd9 => W.iret hx hb hr (fun t ht _ => ⟨rfl, ht⟩) (fun q h => by cases h) hd9) (most + 1) 1 ls (by omega) (by omega) rfl (lv_sub hl [0, 3, 1, 2] rfl)

set_option maxHeartbeats 4000000 in
set_option maxRecDepth 100000 in
theorem L_keepsOrder_in {p : Program} {l : Launch} {e : Env} {s : State} {m : MethodId} {args : Array Value} {below : List Frame} {meth : Method} {c : Code} {H : Heap} {locs : List Loc} {Q : State → Prop} (S : CallFix p m c cX0_keepsOrder 3 s args wsX0_keepsOrder RX0) {D : va_G} {cy : Nat → ClassId} {Ad : Nat → Nat} {n mm : Nat} {C : pw_C} (hK : pw_K D cy s) (hP : pw_P D cy Ad (shX n) C H) (hF : fX n mm Ad C) (hn : 1 ≤ n ∧ n ≤ 12) {nx : Nat → Nat → Nat} (hN : gN n nx C) (u : Nat) (hu : u < 8) (hk : ∀ ls, (∀ y, y < n - 1 → nx u y ≤ nx u (y + 1)) → lv_has ls 3 [(1, .int (nI u)), (0, .ref (Ad 1))] → W p l e (k2_rm 0 0) s m args below meth c H locs 0 0 Q (F0 m 47 ls [])) (hq : ∀ (pc9 : Nat) (ls : Array Slot), decode cX0_keepsOrder pc9 = .ok (.ireturn, 1) → W p l e (k2_rm 0 0) s m args below meth c H locs 0 0 Q (F0 m pc9 ls [.int (pb (ko n nx))])) : ∀ (f : Nat) (x : Nat) (ls : Array Slot), n - x < f → (1 ≤ x) → (x ≤ n) → (∀ y, y + 1 < x → nx u y ≤ nx u (y + 1)) → lv_has ls 3 [(2, .int (nI x)), (1, .int (nI u)), (0, .ref (Ad 1))] → W p l e (k2_rm 0 0) s m args below meth c H locs 0 0 Q (F0 m 10 ls []) := by
  have hx := S.1
  have hb := S.2.1
  have hml := S.2.2.1
  have hown := S.2.2.2.1
  have hts := S.2.2.2.2
  intro f
  induction f with
  | zero => intro x ls hf; exact absurd hf (Nat.not_lt_zero _)
  | succ f ih =>
    intro x ls hf hx1 hx2 hr0 hl
    refine lv_iload_n hx hb dX0_keepsOrder_10 rfl (lv_at hl 0 rfl) ?_
    refine lv_aload_n hx hb dX0_keepsOrder_11 rfl (lv_at hl 2 rfl) ?_
    refine pw_get hx hb hts (fun _ h9 => List.mem_cons_of_mem _ (List.mem_append_right _ h9)) hown hK hP 1 rfl rfl 0 (by decide) hF.2.1 rfl (hts (.fieldLink RX0 9 "PastDraws$Chain" "n" "I") (List.mem_of_getElem? (i := 1) rfl)) dX0_keepsOrder_12 ?_
    refine pn_icmp_ge (tgt := 47) hx hb (by omega) (by omega) dX0_keepsOrder_15 (by decide) (fun c_15 => ?_) (fun c_15 => ?_)
    · have hz : ∀ y, y < n - 1 → nx u y ≤ nx u (y + 1) := fun y hy => hr0 y (by omega)
      exact hk ls hz (lv_sub hl [1, 2] rfl)
    · refine lv_aload_n hx hb dX0_keepsOrder_18 rfl (lv_at hl 2 rfl) ?_
      refine pw_get hx hb hts (fun _ h9 => List.mem_cons_of_mem _ (List.mem_append_right _ h9)) hown hK hP 1 rfl rfl 1 (by decide) hF.2.1 rfl (hts (.fieldLink RX0 17 "PastDraws$Chain" "next" "[[I") (List.mem_of_getElem? (i := 2) rfl)) dX0_keepsOrder_19 ?_
      refine lv_iload_n hx hb dX0_keepsOrder_22 rfl (lv_at hl 1 rfl) ?_
      refine pw_aald4 hx hb hK hP 5 rfl (by first | exact sgn_lt _ _ | omega) (by decide) dX0_keepsOrder_23 ?_
      refine lv_iload_n hx hb dX0_keepsOrder_24 rfl (lv_at hl 0 rfl) ?_
      refine lv_iconst (v := nI 1) hx hb dX0_keepsOrder_25 (by decide) ?_
      refine lv_isub hx hb dX0_keepsOrder_26 ?_
      refine pw_topi (pk_sub (by omega)) ?_
      have hu_27 : u < 8 := (by first | exact sgn_lt _ _ | omega)
      have hx_27 : x - 1 < n := (by first | exact sgn_lt _ _ | omega)
      have q_27 : nx u (x - 1) < n := (hN _ hu_27 _ hx_27).1
      refine pw_iald hx hb hK hP (21 + u) (shX_nx hu_27) hx_27 (by omega) (hN _ hu_27 _ hx_27).2 dX0_keepsOrder_27 ?_
      refine lv_aload_n hx hb dX0_keepsOrder_28 rfl (lv_at hl 2 rfl) ?_
      refine pw_get hx hb hts (fun _ h9 => List.mem_cons_of_mem _ (List.mem_append_right _ h9)) hown hK hP 1 rfl rfl 1 (by decide) hF.2.1 rfl (hts (.fieldLink RX0 17 "PastDraws$Chain" "next" "[[I") (List.mem_of_getElem? (i := 2) rfl)) dX0_keepsOrder_29 ?_
      refine lv_iload_n hx hb dX0_keepsOrder_32 rfl (lv_at hl 1 rfl) ?_
      refine pw_aald4 hx hb hK hP 5 rfl (by first | exact sgn_lt _ _ | omega) (by decide) dX0_keepsOrder_33 ?_
      refine lv_iload_n hx hb dX0_keepsOrder_34 rfl (lv_at hl 0 rfl) ?_
      have hu_35 : u < 8 := (by first | exact sgn_lt _ _ | omega)
      have hx_35 : x < n := (by first | exact sgn_lt _ _ | omega)
      have q_35 : nx u x < n := (hN _ hu_35 _ hx_35).1
      refine pw_iald hx hb hK hP (21 + u) (shX_nx hu_35) hx_35 (by omega) (hN _ hu_35 _ hx_35).2 dX0_keepsOrder_35 ?_
      refine pn_icmp_le (tgt := 41) hx hb (by omega) (by omega) dX0_keepsOrder_36 (by decide) (fun c_36 => ?_) (fun c_36 => ?_)
      · have hz : ∀ y, y + 1 < x + 1 → nx u y ≤ nx u (y + 1) := fun y hy => by
          rcases Nat.lt_or_ge (y + 1) x with q | q
          · exact hr0 y q
          · have e9 : y = x - 1 := by omega
            subst e9
            have e8 : x - 1 + 1 = x := by omega
            rw [e8]; exact c_36
        refine lv_iinc (v := nI (x + 1)) (lv' := [(2, .int (nI (x + 1))), (1, .int (nI u)), (0, .ref (Ad 1))]) hx hb dX0_keepsOrder_41 hl (k := 0) rfl (nI_add _ 1) (by decide) rfl (fun ls hl => ?_)
        refine lv_goto (tgt := 10) hx hb dX0_keepsOrder_44 (by decide) ?_
        exact ih (x + 1) ls (by omega) (by omega) (by omega) hz (lv_sub hl [0, 1, 2] rfl)
      · refine lv_iconst (v := nI 0) hx hb dX0_keepsOrder_39 (by decide) ?_
        refine pw_topi (y := pb (ko n nx)) (by rw [show ko n nx = false from ko_f (fun q => by have q9 := q u hu (x - 1) (by omega); have e8 : x - 1 + 1 = x := (by omega); rw [e8] at q9; omega)]; rfl) ?_
        exact hq _ ls dX0_keepsOrder_40

set_option maxHeartbeats 4000000 in
set_option maxRecDepth 100000 in
theorem L_keepsOrder {p : Program} {l : Launch} {e : Env} {s : State} {m : MethodId} {args : Array Value} {below : List Frame} {meth : Method} {c : Code} {H : Heap} {locs : List Loc} {Q : State → Prop} (S : CallFix p m c cX0_keepsOrder 3 s args wsX0_keepsOrder RX0) {D : va_G} {cy : Nat → ClassId} {Ad : Nat → Nat} {n mm : Nat} {C : pw_C} (hK : pw_K D cy s) (hP : pw_P D cy Ad (shX n) C H) (hF : fX n mm Ad C) (hn : 1 ≤ n ∧ n ≤ 12) {nx : Nat → Nat → Nat} (hN : gN n nx C)  (hq : ∀ (pc9 : Nat) (ls : Array Slot), decode cX0_keepsOrder pc9 = .ok (.ireturn, 1) → W p l e (k2_rm 0 0) s m args below meth c H locs 0 0 Q (F0 m pc9 ls [.int (pb (ko n nx))])) : ∀ (f : Nat) (u : Nat) (ls : Array Slot), 8 - u < f → (u ≤ 8) → (∀ v, v < u → ∀ y, y < n - 1 → nx v y ≤ nx v (y + 1)) → lv_has ls 3 [(1, .int (nI u)), (0, .ref (Ad 1))] → W p l e (k2_rm 0 0) s m args below meth c H locs 0 0 Q (F0 m 2 ls []) := by
  have hx := S.1
  have hb := S.2.1
  have hml := S.2.2.1
  have hown := S.2.2.2.1
  have hts := S.2.2.2.2
  intro f
  induction f with
  | zero => intro u ls hf; exact absurd hf (Nat.not_lt_zero _)
  | succ f ih =>
    intro u ls hf hu0 hr0 hl
    refine lv_iload_n hx hb dX0_keepsOrder_2 rfl (lv_at hl 0 rfl) ?_
    refine lv_bipush (v := nI 8) hx hb dX0_keepsOrder_3 (by decide) ?_
    refine pn_icmp_ge (tgt := 53) hx hb (by omega) (by omega) dX0_keepsOrder_5 (by decide) (fun c_5 => ?_) (fun c_5 => ?_)
    · have hz : ∀ v, v < 8 → ∀ y, y < n - 1 → nx v y ≤ nx v (y + 1) := fun v hv => hr0 v (by omega)
      refine lv_iconst (v := nI 1) hx hb dX0_keepsOrder_53 (by decide) ?_
      refine pw_topi (y := pb (ko n nx)) (by rw [show ko n nx = true from ko_iff.mpr hz]; rfl) ?_
      exact hq _ ls dX0_keepsOrder_54
    · refine lv_iconst (v := nI 1) hx hb dX0_keepsOrder_8 (by decide) ?_
      refine lv_istore_n (lv' := [(2, .int (nI 1)), (1, .int (nI u)), (0, .ref (Ad 1))]) hx hb dX0_keepsOrder_9 rfl hl (by decide) rfl (fun ls hl => ?_)
      refine L_keepsOrder_in S hK hP hF hn hN u c_5 (fun ls hz hl => ?_) hq n 1 ls (by omega) (by omega) (by omega) (fun y hy => by omega) (lv_sub hl [0, 1, 2] rfl)
      refine lv_iinc (v := nI (u + 1)) (lv' := [(1, .int (nI (u + 1))), (0, .ref (Ad 1))]) hx hb dX0_keepsOrder_47 hl (k := 0) rfl (nI_add _ 1) (by decide) rfl (fun ls hl => ?_)
      refine lv_goto (tgt := 2) hx hb dX0_keepsOrder_50 (by decide) ?_
      exact ih (u + 1) ls (by omega) (by omega) (fun v hv => by
        rcases Nat.lt_or_ge v u with q | q
        · exact hr0 v q
        · obtain rfl : v = u := by omega
          exact hz) (lv_sub hl [0, 1] rfl)

set_option maxHeartbeats 4000000 in
set_option maxRecDepth 100000 in
theorem c_X0_keepsOrder (l : Launch) (D : va_G) (cy : Nat → ClassId) (Ad : Nat → Nat) (n mm : Nat) (C : pw_C) (hn : 1 ≤ n ∧ n ≤ 12) (hF : fX n mm Ad C) (nx : Nat → Nat → Nat) (hN : gN n nx C) : Met l yX0_keepsOrder wsX0_keepsOrder (k2_rm 0 0) (pw_Pre ([.ref (Ad 1)]) D cy Ad (shX n) C) (k2_QcV (.int (pb (ko n nx)))) 0 0 (fun _ => False) := by
  refine Met.ofW (cc := cX0_keepsOrder) (maxL := 3) (ret := (some .boolean)) (by decide) rfl ?_
  intro p e s m args below meth c s₁ B hml hv
  obtain ⟨rfl, hP, hK⟩ := hv
  have hx := B.exec
  have hb := B.bytes
  have hr := B.returns
  have hts := atoms_spec (ws := wsX0_keepsOrder) B.pre
  have hown : s.vm.findClass RX0 = some m.cls := findClass_of_methodNamed B.named
  have hlocks := B.notSynchronized
  have S : CallFix p m c cX0_keepsOrder 3 s ([.ref (Ad 1)]).toArray wsX0_keepsOrder RX0 := ⟨hx, hb, hml, hown, hts⟩
  change W p l e (k2_rm 0 0) s m _ below meth c s.heap [] 0 0 _ _
  have hl := lv_entry ([.ref (Ad 1)]) (n := 3) (Nat.le_of_ble_eq_true rfl)
  rw [lg_entry_eq]
  generalize (lg_sl ([.ref (Ad 1)]) ++ List.replicate (3 - (lg_sl ([.ref (Ad 1)])).length) Slot.unset).toArray = ls at hl ⊢
  have hl : lv_has ls 3 [(0, .ref (Ad 1))] := hl
  refine lv_iconst (v := nI 0) hx hb dX0_keepsOrder_0 (by decide) ?_
  refine lv_istore_n (lv' := [(1, .int (nI 0)), (0, .ref (Ad 1))]) hx hb dX0_keepsOrder_1 rfl hl (by decide) rfl (fun ls hl => ?_)
  exact L_keepsOrder S hK hP hF hn hN (fun pc9 ls hd9 => W.zret hx hb hr (pb_nar _) (fun t ht _ => ⟨rfl, ht⟩) (fun q h => by cases h) hd9) 9 0 ls (by omega) (by omega) (fun v hv => by omega) (lv_sub hl [0, 1] rfl)

set_option maxHeartbeats 4000000 in
set_option maxRecDepth 100000 in
theorem L_throughBlock {p : Program} {l : Launch} {e : Env} {s : State} {m : MethodId} {args : Array Value} {below : List Frame} {meth : Method} {c : Code} {H : Heap} {locs : List Loc} {Q : State → Prop} (S : CallFix p m c cX0_throughBlock 7 s args wsX0_throughBlock RX0) {D : va_G} {cy : Nat → ClassId} {Ad : Nat → Nat} {n mm : Nat} {C : pw_C} (hK : pw_K D cy s) (hP : pw_P D cy Ad (shX n) C H) (hF : fX n mm Ad C) (hn : 1 ≤ n ∧ n ≤ 12) {nx : Nat → Nat → Nat} (hN : gN n nx C) (a : Int32) (bf len x : Nat) (hbf : bf ≤ 100000) (hle : len ≤ 64) (hq : ∀ (pc9 : Nat) (ls : Array Slot), decode cX0_throughBlock pc9 = .ok (.ireturn, 1) → W p l e (k2_rm 2 43) s m args below meth c H locs 0 0 Q (F0 m pc9 ls [.int (nI (tbF nx a bf len x))])) : ∀ (f : Nat) (i : Nat) (ls : Array Slot), len - i < f → (i ≤ len) → (tbF nx a bf i x < n) → lv_has ls 7 [(6, .int (nI (i + 1))), (5, .int (nI (tbF nx a bf i x))), (3, .int (nI len)), (0, .ref (Ad 1)), (1, .int a), (2, .int (nI bf))] → W p l e (k2_rm 2 43) s m args below meth c H locs 0 0 Q (F0 m 7 ls []) := by
  have hx := S.1
  have hb := S.2.1
  have hml := S.2.2.1
  have hown := S.2.2.2.1
  have hts := S.2.2.2.2
  intro f
  induction f with
  | zero => intro i ls hf; exact absurd hf (Nat.not_lt_zero _)
  | succ f ih =>
    intro i ls hf hi0 hx0 hl
    refine lv_iload hx hb dX0_throughBlock_7 (lv_at hl 0 rfl) ?_
    refine lv_iload_n hx hb dX0_throughBlock_9 rfl (lv_at hl 2 rfl) ?_
    refine pn_icmp_gt (tgt := 37) hx hb (by omega) (by omega) dX0_throughBlock_10 (by decide) (fun c_10 => ?_) (fun c_10 => ?_)
    · have hie : i = len := by omega
      refine lv_iload hx hb dX0_throughBlock_37 (lv_at hl 1 rfl) ?_
      refine pw_topi (y := nI (tbF nx a bf len x)) (by rw [hie]) ?_
      exact hq _ ls dX0_throughBlock_39
    · refine lv_aload_n hx hb dX0_throughBlock_13 rfl (lv_at hl 3 rfl) ?_
      refine pw_get hx hb hts (fun _ h9 => List.mem_cons_of_mem _ (List.mem_append_right _ h9)) hown hK hP 1 rfl rfl 1 (by decide) hF.2.1 rfl (hts (.fieldLink RX0 17 "PastDraws$Chain" "next" "[[I") (List.mem_of_getElem? (i := 1) rfl)) dX0_throughBlock_14 ?_
      refine lv_iload_n hx hb dX0_throughBlock_17 rfl (lv_at hl 4 rfl) ?_
      refine lv_iload_n hx hb dX0_throughBlock_18 rfl (lv_at hl 5 rfl) ?_
      refine lv_iload hx hb dX0_throughBlock_19 (lv_at hl 0 rfl) ?_
      refine lv_iadd hx hb dX0_throughBlock_21 ?_
      refine pw_topi (nI_add _ _) ?_
      refine pw_cn S hK.2 (hts (.initialized RX4) (List.mem_of_getElem? (i := 3) rfl)) (hts (.static yX4_signAt) (List.mem_of_getElem? (i := 2) rfl)) 2 (c_X4_signAt l a (nI (bf + (i + 1)))) gX0_throughBlock_X4_signAt_n38 rfl rfl rfl (by decide +kernel) ⟨Nat.le_of_ble_eq_true rfl, Nat.le_of_ble_eq_true rfl⟩ rfl hl.1 rfl (Nat.le_of_ble_eq_true rfl) dX0_throughBlock_22 ⟨Nat.le_refl _, Nat.le_refl _⟩ ?_
      refine pw_aald4 hx hb hK hP 5 rfl (by first | exact sgn_lt _ _ | omega) (by decide) dX0_throughBlock_25 ?_
      refine lv_iload hx hb dX0_throughBlock_26 (lv_at hl 1 rfl) ?_
      have hu_28 : (sgn a (nI (bf + (i + 1)))) < 8 := (by first | exact sgn_lt _ _ | omega)
      have hx_28 : tbF nx a bf i x < n := (by first | exact sgn_lt _ _ | omega)
      have q_28 : nx (sgn a (nI (bf + (i + 1)))) (tbF nx a bf i x) < n := (hN _ hu_28 _ hx_28).1
      refine pw_iald hx hb hK hP (21 + (sgn a (nI (bf + (i + 1))))) (shX_nx hu_28) hx_28 (by omega) (hN _ hu_28 _ hx_28).2 dX0_throughBlock_28 ?_
      refine lv_istore (lv' := [(5, .int (nI (nx (sgn a (nI (bf + (i + 1)))) (tbF nx a bf i x)))), (6, .int (nI (i + 1))), (3, .int (nI len)), (0, .ref (Ad 1)), (1, .int a), (2, .int (nI bf))]) hx hb dX0_throughBlock_29 hl (by decide) rfl (fun ls hl => ?_)
      refine lv_iinc (v := nI ((i + 1) + 1)) (lv' := [(6, .int (nI ((i + 1) + 1))), (5, .int (nI (nx (sgn a (nI (bf + (i + 1)))) (tbF nx a bf i x)))), (3, .int (nI len)), (0, .ref (Ad 1)), (1, .int a), (2, .int (nI bf))]) hx hb dX0_throughBlock_31 hl (k := 1) rfl (nI_add _ 1) (by decide) rfl (fun ls hl => ?_)
      refine lv_goto (tgt := 7) hx hb dX0_throughBlock_34 (by decide) ?_
      exact ih (i + 1) ls (by omega) (by omega) q_28 (lv_sub hl [0, 1, 2, 3, 4, 5] rfl)

set_option maxHeartbeats 4000000 in
set_option maxRecDepth 100000 in
theorem c_X0_throughBlock (l : Launch) (D : va_G) (cy : Nat → ClassId) (Ad : Nat → Nat) (n mm : Nat) (C : pw_C) (hn : 1 ≤ n ∧ n ≤ 12) (hF : fX n mm Ad C) (nx : Nat → Nat → Nat) (hN : gN n nx C) (a : Int32) (bf len x : Nat) (hbf : bf ≤ 100000) (hle : len ≤ 64) (hx0 : x < n) : Met l yX0_throughBlock wsX0_throughBlock (k2_rm 2 43) (pw_Pre ([.ref (Ad 1), .int a, .int (nI bf), .int (nI len), .int (nI x)]) D cy Ad (shX n) C) (k2_QcV (.int (nI (tbF nx a bf len x)))) 0 0 (fun _ => False) := by
  refine Met.ofW (cc := cX0_throughBlock) (maxL := 7) (ret := (some .int)) (by decide) rfl ?_
  intro p e s m args below meth c s₁ B hml hv
  obtain ⟨rfl, hP, hK⟩ := hv
  have hx := B.exec
  have hb := B.bytes
  have hr := B.returns
  have hts := atoms_spec (ws := wsX0_throughBlock) B.pre
  have hown : s.vm.findClass RX0 = some m.cls := findClass_of_methodNamed B.named
  have hlocks := B.notSynchronized
  have S : CallFix p m c cX0_throughBlock 7 s ([.ref (Ad 1), .int a, .int (nI bf), .int (nI len), .int (nI x)]).toArray wsX0_throughBlock RX0 := ⟨hx, hb, hml, hown, hts⟩
  change W p l e (k2_rm 2 43) s m _ below meth c s.heap [] 0 0 _ _
  have hl := lv_entry ([.ref (Ad 1), .int a, .int (nI bf), .int (nI len), .int (nI x)]) (n := 7) (Nat.le_of_ble_eq_true rfl)
  rw [lg_entry_eq]
  generalize (lg_sl ([.ref (Ad 1), .int a, .int (nI bf), .int (nI len), .int (nI x)]) ++ List.replicate (7 - (lg_sl ([.ref (Ad 1), .int a, .int (nI bf), .int (nI len), .int (nI x)])).length) Slot.unset).toArray = ls at hl ⊢
  have hl : lv_has ls 7 [(0, .ref (Ad 1)), (1, .int a), (2, .int (nI bf)), (3, .int (nI len)), (4, .int (nI x))] := hl
  refine lv_iload hx hb dX0_throughBlock_0 (lv_at hl 4 rfl) ?_
  refine lv_istore (lv' := [(5, .int (nI x)), (0, .ref (Ad 1)), (1, .int a), (2, .int (nI bf)), (3, .int (nI len)), (4, .int (nI x))]) hx hb dX0_throughBlock_2 hl (by decide) rfl (fun ls hl => ?_)
  refine lv_iconst (v := nI 1) hx hb dX0_throughBlock_4 (by decide) ?_
  refine lv_istore (lv' := [(6, .int (nI 1)), (5, .int (nI x)), (0, .ref (Ad 1)), (1, .int a), (2, .int (nI bf)), (3, .int (nI len)), (4, .int (nI x))]) hx hb dX0_throughBlock_5 hl (by decide) rfl (fun ls hl => ?_)
  exact L_throughBlock S hK hP hF hn hN a bf len x hbf hle (fun pc9 ls hd9 => W.iret hx hb hr (fun t ht _ => ⟨rfl, ht⟩) (fun q h => by cases h) hd9) (len + 1) 0 ls (by omega) (by omega) hx0 (lv_sub hl [0, 1, 5, 2, 3, 4] rfl)

set_option maxHeartbeats 4000000 in
set_option maxRecDepth 100000 in
theorem L_blockMeets {p : Program} {l : Launch} {e : Env} {s : State} {m : MethodId} {args : Array Value} {below : List Frame} {meth : Method} {c : Code} {H : Heap} {locs : List Loc} {Q : State → Prop} (S : CallFix p m c cX0_blockMeets 6 s args wsX0_blockMeets RX0) {D : va_G} {cy : Nat → ClassId} {Ad : Nat → Nat} {n mm : Nat} {C : pw_C} (hK : pw_K D cy s) (hP : pw_P D cy Ad (shX n) C H) (hF : fX n mm Ad C) (hn : 1 ≤ n ∧ n ≤ 12) {nx : Nat → Nat → Nat} (hN : gN n nx C) (a : Int32) (bf len : Nat) (hbf : bf ≤ 100000) (hle : len ≤ 64) (r : Bool) (hq : ∀ (pc9 : Nat) (ls : Array Slot), decode cX0_blockMeets pc9 = .ok (.ireturn, 1) → W p l e (k2_rm 2 43) s m args below meth c H locs 0 0 Q (F0 m pc9 ls [.int (pb r)])) : ∀ (f : Nat) (i : Nat) (Z : Nat) (ls : Array Slot), len + 1 - i < f → (i ≤ 65) → (Z < 2 ^ n) → (bmF nx n a bf (len + 1 - i) i Z = r) → lv_has ls 6 [(5, .int (nI i)), (4, .int (nI Z)), (3, .int (nI len)), (0, .ref (Ad 1)), (1, .int a), (2, .int (nI bf))] → W p l e (k2_rm 2 43) s m args below meth c H locs 0 0 Q (F0 m 9 ls []) := by
  have hx := S.1
  have hb := S.2.1
  have hml := S.2.2.1
  have hown := S.2.2.2.1
  have hts := S.2.2.2.2
  intro f
  induction f with
  | zero => intro i Z ls hf; exact absurd hf (Nat.not_lt_zero _)
  | succ f ih =>
    intro i Z ls hf hi0 hZ hr0 hl
    have hpw := pow12 hn.2
    refine lv_iload hx hb dX0_blockMeets_9 (lv_at hl 0 rfl) ?_
    refine lv_iload_n hx hb dX0_blockMeets_11 rfl (lv_at hl 2 rfl) ?_
    refine pn_icmp_gt (tgt := 45) hx hb (by omega) (by omega) dX0_blockMeets_12 (by decide) (fun c_12 => ?_) (fun c_12 => ?_)
    · have hz : len + 1 - i = 0 := by omega
      rw [hz] at hr0
      refine lv_iload hx hb dX0_blockMeets_45 (lv_at hl 1 rfl) ?_
      refine pw_cs S 1 (c_X0_isSingle l Z (by omega)) gX0_blockMeets_X0_isSingle rfl rfl rfl (by decide +kernel) ⟨Nat.le_of_ble_eq_true rfl, Nat.le_of_ble_eq_true rfl⟩ rfl hl.1 rfl (Nat.le_of_ble_eq_true rfl) dX0_blockMeets_47 ⟨Nat.le_refl _, Nat.le_refl _⟩ ?_
      refine pw_topi (y := pb r) (by rw [← hr0]; try rfl) ?_
      exact hq _ ls dX0_blockMeets_50
    · obtain ⟨z, hz⟩ : ∃ z, len + 1 - i = z + 1 := ⟨len - i, by omega⟩
      rw [hz, bmF] at hr0
      refine lv_iload hx hb dX0_blockMeets_15 (lv_at hl 1 rfl) ?_
      refine pw_cs S 1 (c_X0_isSingle l Z (by omega)) gX0_blockMeets_X0_isSingle rfl rfl rfl (by decide +kernel) ⟨Nat.le_of_ble_eq_true rfl, Nat.le_of_ble_eq_true rfl⟩ rfl hl.1 rfl (Nat.le_of_ble_eq_true rfl) dX0_blockMeets_17 ⟨Nat.le_refl _, Nat.le_refl _⟩ ?_
      refine pn_ifne_b (tgt := 45) hx hb dX0_blockMeets_20 (by decide) (fun c_20 => ?_) (fun c_20 => ?_)
      · rw [if_pos c_20] at hr0
        have hr0 : sng Z = r := by rw [c_20]; exact hr0
        refine lv_iload hx hb dX0_blockMeets_45 (lv_at hl 1 rfl) ?_
        refine pw_cs S 1 (c_X0_isSingle l Z (by omega)) gX0_blockMeets_X0_isSingle rfl rfl rfl (by decide +kernel) ⟨Nat.le_of_ble_eq_true rfl, Nat.le_of_ble_eq_true rfl⟩ rfl hl.1 rfl (Nat.le_of_ble_eq_true rfl) dX0_blockMeets_47 ⟨Nat.le_refl _, Nat.le_refl _⟩ ?_
        refine pw_topi (y := pb r) (by rw [← hr0]; try rfl) ?_
        exact hq _ ls dX0_blockMeets_50
      · rw [if_neg (by rw [c_20]; decide)] at hr0
        have hz2 : z = len + 1 - (i + 1) := by omega
        have hZ2 : imgF nx Z (sgn a (nI (bf + i))) n < 2 ^ n := imgF_lt (fun x h => (hN _ (sgn_lt _ _) x h).1) n (Nat.le_refl _)
        refine lv_aload_n hx hb dX0_blockMeets_23 rfl (lv_at hl 3 rfl) ?_
        refine lv_iload hx hb dX0_blockMeets_24 (lv_at hl 1 rfl) ?_
        refine lv_iload_n hx hb dX0_blockMeets_26 rfl (lv_at hl 4 rfl) ?_
        refine lv_iload_n hx hb dX0_blockMeets_27 rfl (lv_at hl 5 rfl) ?_
        refine lv_iload hx hb dX0_blockMeets_28 (lv_at hl 0 rfl) ?_
        refine lv_iadd hx hb dX0_blockMeets_30 ?_
        refine pw_topi (nI_add _ _) ?_
        refine pw_cn S hK.2 (hts (.initialized RX4) (List.mem_of_getElem? (i := 11) rfl)) (hts (.static yX4_signAt) (List.mem_of_getElem? (i := 10) rfl)) 2 (c_X4_signAt l a (nI (bf + i))) gX0_blockMeets_X4_signAt_n38 rfl rfl rfl (by decide +kernel) ⟨Nat.le_of_ble_eq_true rfl, Nat.le_of_ble_eq_true rfl⟩ rfl hl.1 rfl (Nat.le_of_ble_eq_true rfl) dX0_blockMeets_31 ⟨Nat.le_refl _, Nat.le_refl _⟩ ?_
        refine pw_cv S hK hP 1 0 rfl rfl 2 (c_X0_imageOf l D cy Ad n mm C hn hF nx hN Z (sgn a (nI (bf + i))) (by omega) (sgn_lt _ _)) gX0_blockMeets_X0_imageOf rfl rfl rfl (by decide +kernel) ⟨Nat.le_of_ble_eq_true rfl, Nat.le_of_ble_eq_true rfl⟩ rfl hl.1 rfl (Nat.le_of_ble_eq_true rfl) dX0_blockMeets_34 ⟨Nat.le_refl _, Nat.le_refl _⟩ ?_
        refine lv_istore (lv' := [(4, .int (nI (imgF nx Z (sgn a (nI (bf + i))) n))), (5, .int (nI i)), (3, .int (nI len)), (0, .ref (Ad 1)), (1, .int a), (2, .int (nI bf))]) hx hb dX0_blockMeets_37 hl (by decide) rfl (fun ls hl => ?_)
        refine lv_iinc (v := nI (i + 1)) (lv' := [(5, .int (nI (i + 1))), (4, .int (nI (imgF nx Z (sgn a (nI (bf + i))) n))), (3, .int (nI len)), (0, .ref (Ad 1)), (1, .int a), (2, .int (nI bf))]) hx hb dX0_blockMeets_39 hl (k := 1) rfl (nI_add _ 1) (by decide) rfl (fun ls hl => ?_)
        refine lv_goto (tgt := 9) hx hb dX0_blockMeets_42 (by decide) ?_
        exact ih (i + 1) _ ls (by omega) (by omega) hZ2 (by rw [← hz2]; exact hr0) (lv_sub hl [0, 1, 2, 3, 4, 5] rfl)

set_option maxHeartbeats 4000000 in
set_option maxRecDepth 100000 in
theorem c_X0_blockMeets (l : Launch) (D : va_G) (cy : Nat → ClassId) (Ad : Nat → Nat) (n mm : Nat) (C : pw_C) (hn : 1 ≤ n ∧ n ≤ 12) (hF : fX n mm Ad C) (nx : Nat → Nat → Nat) (hN : gN n nx C) (a : Int32) (bf len : Nat) (hbf : bf ≤ 100000) (hle : len ≤ 64) : Met l yX0_blockMeets wsX0_blockMeets (k2_rm 2 43) (pw_Pre ([.ref (Ad 1), .int a, .int (nI bf), .int (nI len)]) D cy Ad (shX n) C) (k2_QcV (.int (pb (bmF nx n a bf len 1 (2 ^ n - 1))))) 0 0 (fun _ => False) := by
  refine Met.ofW (cc := cX0_blockMeets) (maxL := 6) (ret := (some .boolean)) (by decide) rfl ?_
  intro p e s m args below meth c s₁ B hml hv
  obtain ⟨rfl, hP, hK⟩ := hv
  have hx := B.exec
  have hb := B.bytes
  have hr := B.returns
  have hts := atoms_spec (ws := wsX0_blockMeets) B.pre
  have hown : s.vm.findClass RX0 = some m.cls := findClass_of_methodNamed B.named
  have hlocks := B.notSynchronized
  have S : CallFix p m c cX0_blockMeets 6 s ([.ref (Ad 1), .int a, .int (nI bf), .int (nI len)]).toArray wsX0_blockMeets RX0 := ⟨hx, hb, hml, hown, hts⟩
  change W p l e (k2_rm 2 43) s m _ below meth c s.heap [] 0 0 _ _
  have hl := lv_entry ([.ref (Ad 1), .int a, .int (nI bf), .int (nI len)]) (n := 6) (Nat.le_of_ble_eq_true rfl)
  rw [lg_entry_eq]
  generalize (lg_sl ([.ref (Ad 1), .int a, .int (nI bf), .int (nI len)]) ++ List.replicate (6 - (lg_sl ([.ref (Ad 1), .int a, .int (nI bf), .int (nI len)])).length) Slot.unset).toArray = ls at hl ⊢
  have hl : lv_has ls 6 [(0, .ref (Ad 1)), (1, .int a), (2, .int (nI bf)), (3, .int (nI len))] := hl
  refine lv_aload_n hx hb dX0_blockMeets_0 rfl (lv_at hl 0 rfl) ?_
  refine pw_cv S hK hP 1 0 rfl rfl 0 (c_X0_allStates l D cy Ad n mm C hn hF ) gX0_blockMeets_X0_allStates rfl rfl rfl (by decide +kernel) ⟨Nat.le_of_ble_eq_true rfl, Nat.le_of_ble_eq_true rfl⟩ rfl hl.1 rfl (Nat.le_of_ble_eq_true rfl) dX0_blockMeets_1 ⟨Nat.le_refl _, Nat.le_refl _⟩ ?_
  refine lv_istore (lv' := [(4, .int (nI (2 ^ n - 1))), (0, .ref (Ad 1)), (1, .int a), (2, .int (nI bf)), (3, .int (nI len))]) hx hb dX0_blockMeets_4 hl (by decide) rfl (fun ls hl => ?_)
  refine lv_iconst (v := nI 1) hx hb dX0_blockMeets_6 (by decide) ?_
  refine lv_istore (lv' := [(5, .int (nI 1)), (4, .int (nI (2 ^ n - 1))), (0, .ref (Ad 1)), (1, .int a), (2, .int (nI bf)), (3, .int (nI len))]) hx hb dX0_blockMeets_7 hl (by decide) rfl (fun ls hl => ?_)
  exact L_blockMeets S hK hP hF hn hN a bf len hbf hle _ (fun pc9 ls hd9 => W.zret hx hb hr (pb_nar _) (fun t ht _ => ⟨rfl, ht⟩) (fun q h => by cases h) hd9) (len + 1) 1 (2 ^ n - 1) ls (by omega) (by omega) (Nat.sub_lt (Nat.pow_pos (by decide)) (by decide)) rfl (lv_sub hl [0, 1, 5, 2, 3, 4] rfl)
