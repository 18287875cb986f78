def laF (cb : Nat → Int64) (num : Int64) : Nat → Nat → Nat
  | 0, ch => ch
  | f + 1, ch => if cb (ch + 1) ≤ num then laF cb num f (ch + 1) else ch
theorem laF_lt (cb : Nat → Int64) (num : Int64) : ∀ f ch, laF cb num f ch ≤ ch + f := by
  intro f
  induction f with
  | zero => intro ch; exact Nat.le_refl _
  | succ f ih =>
    intro ch
    unfold laF
    split
    · have := ih (ch + 1); omega
    · omega
def loF (mx : Nat → Nat → Option Nat) (en : Nat → Bool) (len i : Nat) : Nat → Nat → Option Nat → Int64 → Int32
  | 0, _, _, _ => (-1)
  | _ + 1, _, none, _ => (-1)
  | f + 1, j, some x, left => if j = i then nI (laF (cbS mx (cnW mx en (len - 1 - j)) x) left 3 0)
    else loF mx en len i f (j + 1) (mx x (laF (cbS mx (cnW mx en (len - 1 - j)) x) left 3 0)) (left - cbS mx (cnW mx en (len - 1 - j)) x (laF (cbS mx (cnW mx en (len - 1 - j)) x) left 3 0))
/-- letter j of a word given by its bits -/
def ltr (w : Int64) (j : Nat) : Nat := w.toBitVec.toNat / 2 ^ (2 * j) % 4
theorem ltr_lt (w : Int64) (j : Nat) : ltr w j < 4 := Nat.mod_lt _ (by decide)
theorem ltr_c (w : Int64) {j : Nat} (hj : 2 * j < 64) : ((w.toUInt64 >>> ((nI (2 * j)).toInt64.toUInt64 &&& Int64.toUInt64 63)).toInt64).toInt32 &&& nI 3 = nI (ltr w j) := by
  obtain ⟨v, hv, rfl⟩ := wb_of w
  rw [wb_shr hv hj]
  have e := pk_and ((lN (v / 2 ^ (2 * j))).toInt32) (m := nI 3) 2 (by decide)
  rw [e, lN_i]
  have hq : v / 2 ^ (2 * j) < 2 ^ 64 := Nat.lt_of_le_of_lt (Nat.div_le_self _ _) hv
  have e2 : (nI (v / 2 ^ (2 * j))).toBitVec.toNat = v / 2 ^ (2 * j) % 2 ^ 32 := by
    show (Int32.ofNat _).toBitVec.toNat = _
    simp
  rw [e2]
  unfold ltr
  rw [wb_tn hv]
  congr 1
  omega
def noF (mx : Nat → Nat → Option Nat) (en : Nat → Bool) (len : Nat) (w : Int64) : Nat → Nat → Nat → Int64 → Int64
  | 0, _, x, num => if en x = true then num else (-2)
  | f + 1, j, x, num => match mx x (ltr w j) with
    | none => (-2)
    | some y => noF mx en len w f (j + 1) y (num + cbS mx (cnW mx en (len - 1 - j)) x (ltr w j))

set_option maxHeartbeats 4000000 in
set_option maxRecDepth 100000 in
theorem L_letterAt {p : Program} {l : Launch} {e : Env} {s : State} {m : MethodId} {args : Array Value} {below : List Frame} {meth : Method} {c : Code} {H : Heap} {locs : List Loc} {Q : State → Prop} (S : CallFix p m c cX1_letterAt 6 s args wsX1_letterAt RX1) {D : va_G} {cy : Nat → ClassId} {Ad : Nat → Nat} {n mm : Nat} {C : pw_C} (hK : pw_K D cy s) (hP : pw_P D cy Ad (shX n) C H) (hF : fX n mm Ad C) (hn : 1 ≤ n ∧ n ≤ 12) {mx : Nat → Nat → Option Nat} (hM : gM n mx C) (g : Nat → Int64) (b : Nat) (hb0 : b < 26) (hg : ∀ y, y < n → C.2.1 (53 + b) y = g y) (x : Nat) (num : Int64) (hx0 : x < n) (r : Nat) (hq : ∀ (pc9 : Nat) (ls : Array Slot), decode cX1_letterAt pc9 = .ok (.ireturn, 1) → W p l e (k2_rm 2 50) s m args below meth c H locs 0 0 Q (F0 m pc9 ls [.int (nI r)])) : ∀ (f : Nat) (ch : Nat) (ls : Array Slot), 3 - ch < f → (ch ≤ 3) → (laF (cbS mx g x) num (3 - ch) ch = r) → lv_has ls 6 [(5, .int (nI ch)), (0, .ref (Ad 2)), (1, .int (nI x)), (2, .long num), (4, .int (nI b))] → W p l e (k2_rm 2 50) s m args below meth c H locs 0 0 Q (F0 m 3 ls []) := by
  have hx := S.1
  have hb := S.2.1
  have hml := S.2.2.1
  have hown := S.2.2.2.1
  have hts := S.2.2.2.2
  intro f
  induction f with
  | zero => intro ch ls hf; exact absurd hf (Nat.not_lt_zero _)
  | succ f ih =>
    intro ch ls hf hc hr0 hl
    refine lv_iload hx hb dX1_letterAt_3 (lv_at hl 0 rfl) ?_
    refine lv_iconst (v := nI 3) hx hb dX1_letterAt_5 (by decide) ?_
    refine pn_icmp_ge (tgt := 31) hx hb (by omega) (by omega) dX1_letterAt_6 (by decide) (fun c_6 => ?_) (fun c_6 => ?_)
    · have hz : 3 - ch = 0 := by omega
      rw [hz, laF] at hr0
      refine lv_iload hx hb dX1_letterAt_31 (lv_at hl 0 rfl) ?_
      refine pw_topi (y := nI r) (by rw [← hr0]) ?_
      exact hq _ ls dX1_letterAt_33
    · obtain ⟨z, hz⟩ : ∃ z, 3 - ch = z + 1 := ⟨2 - ch, by omega⟩
      rw [hz, laF] at hr0
      refine lv_lload_n hx hb dX1_letterAt_9 rfl (lv_at hl 3 rfl) ?_
      refine lv_aload_n hx hb dX1_letterAt_10 rfl (lv_at hl 1 rfl) ?_
      refine lv_iload_n hx hb dX1_letterAt_11 rfl (lv_at hl 2 rfl) ?_
      refine lv_iload hx hb dX1_letterAt_12 (lv_at hl 0 rfl) ?_
      refine lv_iconst (v := nI 1) hx hb dX1_letterAt_14 (by decide) ?_
      refine lv_iadd hx hb dX1_letterAt_15 ?_
      refine pw_topi (nI_add _ _) ?_
      refine lv_iload hx hb dX1_letterAt_16 (lv_at hl 4 rfl) ?_
      refine pw_cv S hK hP 2 1 rfl rfl 3 (c_X1_countBefore l D cy Ad n mm C hn hF mx hM g b hb0 hg x (ch + 1) hx0 (by omega)) gX1_letterAt_X1_countBefore rfl rfl rfl (by decide +kernel) ⟨Nat.le_of_ble_eq_true rfl, Nat.le_of_ble_eq_true rfl⟩ rfl hl.1 rfl (Nat.le_of_ble_eq_true rfl) dX1_letterAt_18 ⟨Nat.le_refl _, Nat.le_refl _⟩ ?_
      refine W.lcmp hx hb dX1_letterAt_21 ?_
      refine pn_lif_lt (tgt := 31) hx hb dX1_letterAt_22 (by decide) (fun c_22 => ?_) (fun c_22 => ?_)
      · rw [if_neg (Int64.not_le.mpr c_22)] at hr0
        refine lv_iload hx hb dX1_letterAt_31 (lv_at hl 0 rfl) ?_
        refine pw_topi (y := nI r) (by rw [← hr0]) ?_
        exact hq _ ls dX1_letterAt_33
      · rw [if_pos (Int64.not_lt.mp c_22)] at hr0
        have hz2 : z = 3 - (ch + 1) := by omega
        refine lv_iinc (v := nI (ch + 1)) (lv' := [(5, .int (nI (ch + 1))), (0, .ref (Ad 2)), (1, .int (nI x)), (2, .long num), (4, .int (nI b))]) hx hb dX1_letterAt_25 hl (k := 0) rfl (nI_add _ 1) (by decide) rfl (fun ls hl => ?_)
        refine lv_goto (tgt := 3) hx hb dX1_letterAt_28 (by decide) ?_
        exact ih (ch + 1) ls (by omega) (by omega) (by rw [← hz2]; exact hr0) (lv_sub hl [0, 1, 2, 3, 4] rfl)

set_option maxHeartbeats 4000000 in
set_option maxRecDepth 100000 in
theorem c_X1_letterAt (l : Launch) (D : va_G) (cy : Nat → ClassId) (Ad : Nat → Nat) (n mm : Nat) (C : pw_C) (hn : 1 ≤ n ∧ n ≤ 12) (hF : fX n mm Ad C) (mx : Nat → Nat → Option Nat) (hM : gM n mx C) (g : Nat → Int64) (b : Nat) (hb0 : b < 26) (hg : ∀ y, y < n → C.2.1 (53 + b) y = g y) (x : Nat) (num : Int64) (hx0 : x < n) : Met l yX1_letterAt wsX1_letterAt (k2_rm 2 50) (pw_Pre ([.ref (Ad 2), .int (nI x), .long num, .int (nI b)]) D cy Ad (shX n) C) (k2_QcV (.int (nI (laF (cbS mx g x) num 3 0)))) 0 0 (fun _ => False) := by
  refine Met.ofW (cc := cX1_letterAt) (maxL := 6) (ret := (some .int)) (by decide) rfl ?_
  intro p e s m args below meth c s₁ B hml hv
  obtain ⟨rfl, hP, hK⟩ := hv
  have hx := B.exec
  have hb := B.bytes
  have hr := B.returns
  have hts := atoms_spec (ws := wsX1_letterAt) B.pre
  have hown : s.vm.findClass RX1 = some m.cls := findClass_of_methodNamed B.named
  have hlocks := B.notSynchronized
  have S : CallFix p m c cX1_letterAt 6 s ([.ref (Ad 2), .int (nI x), .long num, .int (nI b)]).toArray wsX1_letterAt RX1 := ⟨hx, hb, hml, hown, hts⟩
  change W p l e (k2_rm 2 50) s m _ below meth c s.heap [] 0 0 _ _
  have hl := lv_entry ([.ref (Ad 2), .int (nI x), .long num, .int (nI b)]) (n := 6) (Nat.le_of_ble_eq_true rfl)
  rw [lg_entry_eq]
  generalize (lg_sl ([.ref (Ad 2), .int (nI x), .long num, .int (nI b)]) ++ List.replicate (6 - (lg_sl ([.ref (Ad 2), .int (nI x), .long num, .int (nI b)])).length) Slot.unset).toArray = ls at hl ⊢
  have hl : lv_has ls 6 [(0, .ref (Ad 2)), (1, .int (nI x)), (2, .long num), (4, .int (nI b))] := hl
  refine lv_iconst (v := nI 0) hx hb dX1_letterAt_0 (by decide) ?_
  refine lv_istore (lv' := [(5, .int (nI 0)), (0, .ref (Ad 2)), (1, .int (nI x)), (2, .long num), (4, .int (nI b))]) hx hb dX1_letterAt_1 hl (by decide) rfl (fun ls hl => ?_)
  exact L_letterAt S hK hP hF hn hM g b hb0 hg x num hx0 _ (fun pc9 ls hd9 => W.iret hx hb hr (fun t ht _ => ⟨rfl, ht⟩) (fun q h => by cases h) hd9) 4 0 ls (by omega) (by omega) rfl (lv_sub hl [0, 1, 2, 3, 4] rfl)

set_option maxHeartbeats 4000000 in
set_option maxRecDepth 100000 in
theorem L_letterOf {p : Program} {l : Launch} {e : Env} {s : State} {m : MethodId} {args : Array Value} {below : List Frame} {meth : Method} {c : Code} {H : Heap} {locs : List Loc} {Q : State → Prop} (S : CallFix p m c cX1_letterOf 11 s args wsX1_letterOf RX1) {D : va_G} {cy : Nat → ClassId} {Ad : Nat → Nat} {n mm : Nat} {C : pw_C} (hK : pw_K D cy s) (hP : pw_P D cy Ad (shX n) C H) (hF : fX n mm Ad C) (hn : 1 ≤ n ∧ n ≤ 12) {mx : Nat → Nat → Option Nat} (hM : gM n mx C) {en : Nat → Bool} (len : Nat) (hle : len ≤ 25) (hrr : ∀ l, l ≤ len → ∀ y, y < n → C.2.1 (53 + l) y = cnW mx en l y) (i : Nat) (hi0 : i ≤ 25) (r : Int32) (hq : ∀ (pc9 : Nat) (ls : Array Slot), decode cX1_letterOf pc9 = .ok (.ireturn, 1) → W p l e (k2_rm 3 75) s m args below meth c H locs 0 0 Q (F0 m pc9 ls [.int r])) : ∀ (f : Nat) (j : Nat) (st : Option Nat) (left : Int64) (ls : Array Slot), len - j < f → (j ≤ len) → (∀ y, st = some y → y < n) → (loF mx en len i (len - j) j st left = r) → lv_has ls 11 [(8, .int (nI j)), (5, .int (oi st)), (6, .long left), (0, .ref (Ad 2)), (1, .int (nI len)), (4, .int (nI i))] → W p l e (k2_rm 3 75) s m args below meth c H locs 0 0 Q (F0 m 9 ls []) := by
  have hx := S.1
  have hb := S.2.1
  have hml := S.2.2.1
  have hown := S.2.2.2.1
  have hts := S.2.2.2.2
  intro f
  induction f with
  | zero => intro j st left ls hf; exact absurd hf (Nat.not_lt_zero _)
  | succ f ih =>
    intro j st left ls hf hj hst hr0 hl
    refine lv_iload hx hb dX1_letterOf_9 (lv_at hl 0 rfl) ?_
    refine lv_iload_n hx hb dX1_letterOf_11 rfl (lv_at hl 4 rfl) ?_
    refine pn_icmp_ge (tgt := 85) hx hb (by omega) (by omega) dX1_letterOf_12 (by decide) (fun c_12 => ?_) (fun c_12 => ?_)
    · have hz : len - j = 0 := by omega
      rw [hz, loF] at hr0
      refine lv_iconst (v := (-1)) hx hb dX1_letterOf_85 (by decide) ?_
      refine pw_topi (y := r) (by first | (rw [← hr0]; try rfl) | exact hr0) ?_
      exact hq _ ls dX1_letterOf_86
    · obtain ⟨z, hz⟩ : ∃ z, len - j = z + 1 := ⟨len - j - 1, by omega⟩
      rw [hz] at hr0
      have hz2 : z = len - (j + 1) := by omega
      refine lv_iload hx hb dX1_letterOf_15 (lv_at hl 1 rfl) ?_
      rcases ho_17 : st with _ | y_17
      · subst ho_17
        have hl : lv_has ls 11 [(8, .int (nI j)), (5, .int (-2)), (6, .long left), (0, .ref (Ad 2)), (1, .int (nI len)), (4, .int (nI i))] := hl
        refine pw_topi (y := (-2)) rfl ?_
        refine lv_bipush (v := (-2)) hx hb dX1_letterOf_17 (by decide) ?_
        refine lv_icmp_eq (tgt := 85) hx hb dX1_letterOf_19 (by decide) (fun c_19 => ?_) (fun c_19 => absurd rfl c_19)
        refine lv_iconst (v := (-1)) hx hb dX1_letterOf_85 (by decide) ?_
        refine pw_topi (y := r) (by first | (rw [← hr0]; try rfl) | exact hr0) ?_
        exact hq _ ls dX1_letterOf_86
      · subst ho_17
        have hl : lv_has ls 11 [(8, .int (nI j)), (5, .int (nI y_17)), (6, .long left), (0, .ref (Ad 2)), (1, .int (nI len)), (4, .int (nI i))] := hl
        have hy_17 : y_17 < n := hst _ rfl
        refine pw_topi (y := nI y_17) rfl ?_
        refine lv_bipush (v := (-2)) hx hb dX1_letterOf_17 (by decide) ?_
        refine lv_icmp_eq (tgt := 85) hx hb dX1_letterOf_19 (by decide) (fun c_19 => absurd c_19 (ni_m2 (by omega))) (fun c_19 => ?_)
        refine lv_iload_n hx hb dX1_letterOf_22 rfl (lv_at hl 4 rfl) ?_
        refine lv_iconst (v := nI 1) hx hb dX1_letterOf_23 (by decide) ?_
        refine lv_isub hx hb dX1_letterOf_24 ?_
        refine pw_topi (pk_sub (by omega)) ?_
        refine lv_iload hx hb dX1_letterOf_25 (lv_at hl 0 rfl) ?_
        refine lv_isub hx hb dX1_letterOf_27 ?_
        refine pw_topi (pk_sub (by omega)) ?_
        refine lv_istore (lv' := [(9, .int (nI ((len - 1) - j))), (8, .int (nI j)), (5, .int (nI y_17)), (6, .long left), (0, .ref (Ad 2)), (1, .int (nI len)), (4, .int (nI i))]) hx hb dX1_letterOf_28 hl (by decide) rfl (fun ls hl => ?_)
        refine lv_aload_n hx hb dX1_letterOf_30 rfl (lv_at hl 4 rfl) ?_
        refine lv_iload hx hb dX1_letterOf_31 (lv_at hl 2 rfl) ?_
        refine lv_lload hx hb dX1_letterOf_33 (lv_at hl 3 rfl) ?_
        refine lv_iload hx hb dX1_letterOf_35 (lv_at hl 0 rfl) ?_
        refine pw_cv S hK hP 2 1 rfl rfl 3 (c_X1_letterAt l D cy Ad n mm C hn hF mx hM (cnW mx en (len - 1 - j)) (len - 1 - j) (by omega) (hrr _ (by omega)) y_17 left hy_17) gX1_letterOf_X1_letterAt rfl rfl rfl (by decide +kernel) ⟨Nat.le_of_ble_eq_true rfl, Nat.le_of_ble_eq_true rfl⟩ rfl hl.1 rfl (Nat.le_of_ble_eq_true rfl) dX1_letterOf_37 ⟨Nat.le_refl _, Nat.le_refl _⟩ ?_
        refine lv_istore (lv' := [(10, .int (nI (laF (cbS mx (cnW mx en (len - 1 - j)) y_17) left 3 0))), (9, .int (nI ((len - 1) - j))), (8, .int (nI j)), (5, .int (nI y_17)), (6, .long left), (0, .ref (Ad 2)), (1, .int (nI len)), (4, .int (nI i))]) hx hb dX1_letterOf_40 hl (by decide) rfl (fun ls hl => ?_)
        have hla := laF_lt (cbS mx (cnW mx en (len - 1 - j)) y_17) left 3 0
        refine lv_iload hx hb dX1_letterOf_42 (lv_at hl 2 rfl) ?_
        refine lv_iload hx hb dX1_letterOf_44 (lv_at hl 7 rfl) ?_
        refine pn_icmp_ne (tgt := 52) hx hb (by omega) (by omega) dX1_letterOf_46 (by decide) (fun c_46 => ?_) (fun c_46 => ?_)
        · rw [loF, if_neg c_46] at hr0
          refine lv_lload hx hb dX1_letterOf_52 (lv_at hl 4 rfl) ?_
          refine lv_aload_n hx hb dX1_letterOf_54 rfl (lv_at hl 5 rfl) ?_
          refine lv_iload hx hb dX1_letterOf_55 (lv_at hl 3 rfl) ?_
          refine lv_iload hx hb dX1_letterOf_57 (lv_at hl 0 rfl) ?_
          refine lv_iload hx hb dX1_letterOf_59 (lv_at hl 1 rfl) ?_
          refine pw_cv S hK hP 2 1 rfl rfl 3 (c_X1_countBefore l D cy Ad n mm C hn hF mx hM (cnW mx en (len - 1 - j)) (len - 1 - j) (by omega) (hrr _ (by omega)) y_17 (laF (cbS mx (cnW mx en (len - 1 - j)) y_17) left 3 0) hy_17 (by omega)) gX1_letterOf_X1_countBefore rfl rfl rfl (by decide +kernel) ⟨Nat.le_of_ble_eq_true rfl, Nat.le_of_ble_eq_true rfl⟩ rfl hl.1 rfl (Nat.le_of_ble_eq_true rfl) dX1_letterOf_61 ⟨Nat.le_refl _, Nat.le_refl _⟩ ?_
          refine lv_lsub hx hb dX1_letterOf_64 ?_
          refine lv_topl (fun x6_65 ex6_65 => ?_)
          refine lv_lstore (lv' := [(6, .long x6_65), (10, .int (nI (laF (cbS mx (cnW mx en (len - 1 - j)) y_17) left 3 0))), (9, .int (nI ((len - 1) - j))), (8, .int (nI j)), (5, .int (nI y_17)), (0, .ref (Ad 2)), (1, .int (nI len)), (4, .int (nI i))]) hx hb dX1_letterOf_65 hl (by decide) rfl (fun ls hl => ?_)
          refine lv_aload_n hx hb dX1_letterOf_67 rfl (lv_at hl 5 rfl) ?_
          refine pw_get hx hb hts (fun _ h9 => List.mem_cons_of_mem _ (List.mem_append_right _ h9)) hown hK hP 2 rfl rfl 1 (by decide) hF.2.2.1 rfl (hts (.fieldLink RX1 17 "PastDraws$Machine" "next" "[[I") (List.mem_of_getElem? (i := 1) rfl)) dX1_letterOf_68 ?_
          refine lv_iload hx hb dX1_letterOf_71 (lv_at hl 4 rfl) ?_
          refine pw_aald4 hx hb hK hP 11 rfl (by first | exact sgn_lt _ _ | omega) (by omega) dX1_letterOf_73 ?_
          refine lv_iload hx hb dX1_letterOf_74 (lv_at hl 1 rfl) ?_
          have hu_76 : y_17 < n := hy_17
          have hx_76 : laF (cbS mx (cnW mx en (len - 1 - j)) y_17) left 3 0 < 4 := (by omega)
          refine pw_iald hx hb hK hP (41 + y_17) (shX_mx hu_76 (by omega)) hx_76 (by decide) (hM _ hu_76 _ hx_76).2 dX1_letterOf_76 ?_
          refine lv_istore (lv' := [(5, .int (oi (mx y_17 (laF (cbS mx (cnW mx en (len - 1 - j)) y_17) left 3 0)))), (6, .long x6_65), (10, .int (nI (laF (cbS mx (cnW mx en (len - 1 - j)) y_17) left 3 0))), (9, .int (nI ((len - 1) - j))), (8, .int (nI j)), (0, .ref (Ad 2)), (1, .int (nI len)), (4, .int (nI i))]) hx hb dX1_letterOf_77 hl (by decide) rfl (fun ls hl => ?_)
          refine lv_iinc (v := nI (j + 1)) (lv' := [(8, .int (nI (j + 1))), (5, .int (oi (mx y_17 (laF (cbS mx (cnW mx en (len - 1 - j)) y_17) left 3 0)))), (6, .long x6_65), (10, .int (nI (laF (cbS mx (cnW mx en (len - 1 - j)) y_17) left 3 0))), (9, .int (nI ((len - 1) - j))), (0, .ref (Ad 2)), (1, .int (nI len)), (4, .int (nI i))]) hx hb dX1_letterOf_79 hl (k := 4) rfl (nI_add _ 1) (by decide) rfl (fun ls hl => ?_)
          refine lv_goto (tgt := 9) hx hb dX1_letterOf_82 (by decide) ?_
          exact ih (j + 1) _ x6_65 ls (by omega) (by omega) (fun y hy => (hM _ hy_17 _ (by omega)).1 y hy) (by rw [← hz2, ex6_65]; exact hr0) (lv_sub hl [0, 1, 2, 5, 6, 7] rfl)
        · rw [loF, if_pos c_46] at hr0
          refine lv_iload hx hb dX1_letterOf_49 (lv_at hl 0 rfl) ?_
          refine pw_topi (y := r) (by first | (rw [← hr0]; try rfl) | exact hr0) ?_
          exact hq _ ls dX1_letterOf_51

set_option maxHeartbeats 4000000 in
set_option maxRecDepth 100000 in
theorem c_X1_letterOf (l : Launch) (D : va_G) (cy : Nat → ClassId) (Ad : Nat → Nat) (n mm : Nat) (C : pw_C) (hn : 1 ≤ n ∧ n ≤ 12) (hF : fX n mm Ad C) (mx : Nat → Nat → Option Nat) (hM : gM n mx C) (en : Nat → Bool) (len : Nat) (hle : len ≤ 25) (hrr : ∀ l, l ≤ len → ∀ y, y < n → C.2.1 (53 + l) y = cnW mx en l y) (num : Int64) (i : Nat) (hi0 : i ≤ 25) : Met l yX1_letterOf wsX1_letterOf (k2_rm 3 75) (pw_Pre ([.ref (Ad 2), .int (nI len), .long num, .int (nI i)]) D cy Ad (shX n) C) (k2_QcV (.int (loF mx en len i len 0 (some 0) num))) 0 0 (fun _ => False) := by
  refine Met.ofW (cc := cX1_letterOf) (maxL := 11) (ret := (some .int)) (by decide) rfl ?_
  intro p e s m args below meth c s₁ B hml hv
  obtain ⟨rfl, hP, hK⟩ := hv
  have hx := B.exec
  have hb := B.bytes
  have hr := B.returns
  have hts := atoms_spec (ws := wsX1_letterOf) B.pre
  have hown : s.vm.findClass RX1 = some m.cls := findClass_of_methodNamed B.named
  have hlocks := B.notSynchronized
  have S : CallFix p m c cX1_letterOf 11 s ([.ref (Ad 2), .int (nI len), .long num, .int (nI i)]).toArray wsX1_letterOf RX1 := ⟨hx, hb, hml, hown, hts⟩
  change W p l e (k2_rm 3 75) s m _ below meth c s.heap [] 0 0 _ _
  have hl := lv_entry ([.ref (Ad 2), .int (nI len), .long num, .int (nI i)]) (n := 11) (Nat.le_of_ble_eq_true rfl)
  rw [lg_entry_eq]
  generalize (lg_sl ([.ref (Ad 2), .int (nI len), .long num, .int (nI i)]) ++ List.replicate (11 - (lg_sl ([.ref (Ad 2), .int (nI len), .long num, .int (nI i)])).length) Slot.unset).toArray = ls at hl ⊢
  have hl : lv_has ls 11 [(0, .ref (Ad 2)), (1, .int (nI len)), (2, .long num), (4, .int (nI i))] := hl
  refine lv_iconst (v := nI 0) hx hb dX1_letterOf_0 (by decide) ?_
  refine lv_istore (lv' := [(5, .int (nI 0)), (0, .ref (Ad 2)), (1, .int (nI len)), (2, .long num), (4, .int (nI i))]) hx hb dX1_letterOf_1 hl (by decide) rfl (fun ls hl => ?_)
  refine lv_lload_n hx hb dX1_letterOf_3 rfl (lv_at hl 3 rfl) ?_
  refine lv_lstore (lv' := [(6, .long num), (5, .int (nI 0)), (0, .ref (Ad 2)), (1, .int (nI len)), (2, .long num), (4, .int (nI i))]) hx hb dX1_letterOf_4 hl (by decide) rfl (fun ls hl => ?_)
  refine lv_iconst (v := nI 0) hx hb dX1_letterOf_6 (by decide) ?_
  refine lv_istore (lv' := [(8, .int (nI 0)), (6, .long num), (5, .int (nI 0)), (0, .ref (Ad 2)), (1, .int (nI len)), (2, .long num), (4, .int (nI i))]) hx hb dX1_letterOf_7 hl (by decide) rfl (fun ls hl => ?_)
  exact L_letterOf S hK hP hF hn hM len hle hrr i hi0 _ (fun pc9 ls hd9 => W.iret hx hb hr (fun t ht _ => ⟨rfl, ht⟩) (fun q h => by cases h) hd9) (len + 1) 0 (some 0) num ls (by omega) (by omega) (fun y hy => by cases hy; omega) rfl (lv_sub hl [0, 2, 1, 3, 4, 6] rfl)

set_option maxHeartbeats 4000000 in
set_option maxRecDepth 100000 in
theorem L_numberOf {p : Program} {l : Launch} {e : Env} {s : State} {m : MethodId} {args : Array Value} {below : List Frame} {meth : Method} {c : Code} {H : Heap} {locs : List Loc} {Q : State → Prop} (S : CallFix p m c cX1_numberOf 9 s args wsX1_numberOf RX1) {D : va_G} {cy : Nat → ClassId} {Ad : Nat → Nat} {n mm : Nat} {C : pw_C} (hK : pw_K D cy s) (hP : pw_P D cy Ad (shX n) C H) (hF : fX n mm Ad C) (hn : 1 ≤ n ∧ n ≤ 12) {mx : Nat → Nat → Option Nat} (hM : gM n mx C) {en : Nat → Bool} (len : Nat) (hle : len ≤ 25) (hrr : ∀ l, l ≤ len → ∀ y, y < n → C.2.1 (53 + l) y = cnW mx en l y) (hE : gE n en C) (w : Int64) (r : Int64) (hq : ∀ (pc9 : Nat) (ls : Array Slot), decode cX1_numberOf pc9 = .ok (.lreturn, 1) → W p l e (k2_rm 2 50) s m args below meth c H locs 0 0 Q (F0 m pc9 ls [.long r])) : ∀ (f : Nat) (j : Nat) (x : Nat) (num : Int64) (ls : Array Slot), len - j < f → (j ≤ len) → (x < n) → (noF mx en len w (len - j) j x num = r) → lv_has ls 9 [(7, .int (nI j)), (4, .int (nI x)), (5, .long num), (0, .ref (Ad 2)), (1, .int (nI len)), (2, .long w)] → W p l e (k2_rm 2 50) s m args below meth c H locs 0 0 Q (F0 m 9 ls []) := by
  have hx := S.1
  have hb := S.2.1
  have hml := S.2.2.1
  have hown := S.2.2.2.1
  have hts := S.2.2.2.2
  intro f
  induction f with
  | zero => intro j x num ls hf; exact absurd hf (Nat.not_lt_zero _)
  | succ f ih =>
    intro j x num ls hf hj hx0 hr0 hl
    refine lv_iload hx hb dX1_numberOf_9 (lv_at hl 0 rfl) ?_
    refine lv_iload_n hx hb dX1_numberOf_11 rfl (lv_at hl 4 rfl) ?_
    refine pn_icmp_ge (tgt := 74) hx hb (by omega) (by omega) dX1_numberOf_12 (by decide) (fun c_12 => ?_) (fun c_12 => ?_)
    · have hz : len - j = 0 := by omega
      rw [hz, noF] at hr0
      refine lv_aload_n hx hb dX1_numberOf_74 rfl (lv_at hl 3 rfl) ?_
      refine pw_get hx hb hts (fun _ h9 => List.mem_cons_of_mem _ (List.mem_append_right _ h9)) hown hK hP 2 rfl rfl 2 (by decide) hF.2.2.1 rfl (hts (.fieldLink RX1 20 "PastDraws$Machine" "ends" "[Z") (List.mem_of_getElem? (i := 3) rfl)) dX1_numberOf_75 ?_
      refine lv_iload hx hb dX1_numberOf_78 (lv_at hl 1 rfl) ?_
      refine pw_zald hx hb hK hP 12 rfl (by first | exact sgn_lt _ _ | omega) (by first | decide | omega) (v := pb (en x)) (hE x hx0) dX1_numberOf_80 ?_
      refine pn_ifeq_b (tgt := 89) hx hb dX1_numberOf_81 (by decide) (fun c_81 => ?_) (fun c_81 => ?_)
      · rw [if_neg (by rw [c_81]; decide)] at hr0
        refine lv_ldc2 hx hb hown (hts (.constantLong RX1 46 (-2)) (List.mem_of_getElem? (i := 2) rfl)) dX1_numberOf_89 ?_
        refine pw_topl (y := r) (by first | exact hr0 | (rw [ho_55] at hr0; exact hr0)) ?_
        exact hq _ ls dX1_numberOf_92
      · rw [if_pos c_81] at hr0
        refine lv_lload hx hb dX1_numberOf_84 (lv_at hl 2 rfl) ?_
        refine lv_goto (tgt := 92) hx hb dX1_numberOf_86 (by decide) ?_
        refine pw_topl (y := r) (by first | exact hr0 | (rw [ho_55] at hr0; exact hr0)) ?_
        exact hq _ ls dX1_numberOf_92
    · obtain ⟨z, hz⟩ : ∃ z, len - j = z + 1 := ⟨len - j - 1, by omega⟩
      rw [hz, noF] at hr0
      have hz2 : z = len - (j + 1) := by omega
      refine lv_lload_n hx hb dX1_numberOf_15 rfl (lv_at hl 5 rfl) ?_
      refine lv_iconst (v := nI 2) hx hb dX1_numberOf_16 (by decide) ?_
      refine lv_iload hx hb dX1_numberOf_17 (lv_at hl 0 rfl) ?_
      refine lv_imul hx hb dX1_numberOf_19 ?_
      refine pw_topi (pk_mul _ _) ?_
      refine lv_lushr hx hb dX1_numberOf_20 rfl ?_
      refine lv_l2i hx hb dX1_numberOf_21 rfl ?_
      refine lv_iconst (v := nI 3) hx hb dX1_numberOf_22 (by decide) ?_
      refine lv_iand hx hb dX1_numberOf_23 ?_
      refine pw_topi (y := nI (ltr w j)) (ltr_c w (by omega)) ?_
      refine lv_istore (lv' := [(8, .int (nI (ltr w j))), (7, .int (nI j)), (4, .int (nI x)), (5, .long num), (0, .ref (Ad 2)), (1, .int (nI len)), (2, .long w)]) hx hb dX1_numberOf_24 hl (by decide) rfl (fun ls hl => ?_)
      have hlt := ltr_lt w j
      refine lv_lload hx hb dX1_numberOf_26 (lv_at hl 3 rfl) ?_
      refine lv_aload_n hx hb dX1_numberOf_28 rfl (lv_at hl 4 rfl) ?_
      refine lv_iload hx hb dX1_numberOf_29 (lv_at hl 2 rfl) ?_
      refine lv_iload hx hb dX1_numberOf_31 (lv_at hl 0 rfl) ?_
      refine lv_iload_n hx hb dX1_numberOf_33 rfl (lv_at hl 5 rfl) ?_
      refine lv_iconst (v := nI 1) hx hb dX1_numberOf_34 (by decide) ?_
      refine lv_isub hx hb dX1_numberOf_35 ?_
      refine pw_topi (pk_sub (by omega)) ?_
      refine lv_iload hx hb dX1_numberOf_36 (lv_at hl 1 rfl) ?_
      refine lv_isub hx hb dX1_numberOf_38 ?_
      refine pw_topi (pk_sub (by omega)) ?_
      refine pw_cv S hK hP 2 1 rfl rfl 3 (c_X1_countBefore l D cy Ad n mm C hn hF mx hM (cnW mx en (len - 1 - j)) (len - 1 - j) (by omega) (hrr _ (by omega)) x (ltr w j) hx0 (by omega)) gX1_numberOf_X1_countBefore rfl rfl rfl (by decide +kernel) ⟨Nat.le_of_ble_eq_true rfl, Nat.le_of_ble_eq_true rfl⟩ rfl hl.1 rfl (Nat.le_of_ble_eq_true rfl) dX1_numberOf_39 ⟨Nat.le_refl _, Nat.le_refl _⟩ ?_
      refine lv_ladd hx hb dX1_numberOf_42 ?_
      refine lv_topl (fun x5_43 ex5_43 => ?_)
      refine lv_lstore (lv' := [(5, .long x5_43), (8, .int (nI (ltr w j))), (7, .int (nI j)), (4, .int (nI x)), (0, .ref (Ad 2)), (1, .int (nI len)), (2, .long w)]) hx hb dX1_numberOf_43 hl (by decide) rfl (fun ls hl => ?_)
      refine lv_aload_n hx hb dX1_numberOf_45 rfl (lv_at hl 4 rfl) ?_
      refine pw_get hx hb hts (fun _ h9 => List.mem_cons_of_mem _ (List.mem_append_right _ h9)) hown hK hP 2 rfl rfl 1 (by decide) hF.2.2.1 rfl (hts (.fieldLink RX1 17 "PastDraws$Machine" "next" "[[I") (List.mem_of_getElem? (i := 1) rfl)) dX1_numberOf_46 ?_
      refine lv_iload hx hb dX1_numberOf_49 (lv_at hl 3 rfl) ?_
      refine pw_aald4 hx hb hK hP 11 rfl (by first | exact sgn_lt _ _ | omega) (by omega) dX1_numberOf_51 ?_
      refine lv_iload hx hb dX1_numberOf_52 (lv_at hl 1 rfl) ?_
      have hu_54 : x < n := (by first | exact sgn_lt _ _ | omega)
      have hx_54 : ltr w j < 4 := (by omega)
      refine pw_iald hx hb hK hP (41 + x) (shX_mx hu_54 (by omega)) hx_54 (by decide) (hM _ hu_54 _ hx_54).2 dX1_numberOf_54 ?_
      rcases ho_55 : mx x (ltr w j) with _ | y_55
      · refine pw_topi (y := (-2)) rfl ?_
        refine lv_istore (lv' := [(4, .int (-2)), (5, .long x5_43), (8, .int (nI (ltr w j))), (7, .int (nI j)), (0, .ref (Ad 2)), (1, .int (nI len)), (2, .long w)]) hx hb dX1_numberOf_55 hl (by decide) rfl (fun ls hl => ?_)
        refine lv_iload hx hb dX1_numberOf_57 (lv_at hl 0 rfl) ?_
        refine lv_bipush (v := (-2)) hx hb dX1_numberOf_59 (by decide) ?_
        refine lv_icmp_ne (tgt := 68) hx hb dX1_numberOf_61 (by decide) (fun c_61 => absurd rfl c_61) (fun c_61 => ?_)
        refine lv_ldc2 hx hb hown (hts (.constantLong RX1 46 (-2)) (List.mem_of_getElem? (i := 2) rfl)) dX1_numberOf_64 ?_
        refine pw_topl (y := r) (by first | exact hr0 | (rw [ho_55] at hr0; exact hr0)) ?_
        exact hq _ ls dX1_numberOf_67
      · have hy_55 : y_55 < n := (hM x hx0 _ hlt).1 y_55 ho_55
        refine pw_topi (y := nI y_55) rfl ?_
        refine lv_istore (lv' := [(4, .int (nI y_55)), (5, .long x5_43), (8, .int (nI (ltr w j))), (7, .int (nI j)), (0, .ref (Ad 2)), (1, .int (nI len)), (2, .long w)]) hx hb dX1_numberOf_55 hl (by decide) rfl (fun ls hl => ?_)
        refine lv_iload hx hb dX1_numberOf_57 (lv_at hl 0 rfl) ?_
        refine lv_bipush (v := (-2)) hx hb dX1_numberOf_59 (by decide) ?_
        refine lv_icmp_ne (tgt := 68) hx hb dX1_numberOf_61 (by decide) (fun c_61 => ?_) (fun c_61 => absurd c_61 (ni_m2 (by omega)))
        refine lv_iinc (v := nI (j + 1)) (lv' := [(7, .int (nI (j + 1))), (4, .int (nI y_55)), (5, .long x5_43), (8, .int (nI (ltr w j))), (0, .ref (Ad 2)), (1, .int (nI len)), (2, .long w)]) hx hb dX1_numberOf_68 hl (k := 3) rfl (nI_add _ 1) (by decide) rfl (fun ls hl => ?_)
        refine lv_goto (tgt := 9) hx hb dX1_numberOf_71 (by decide) ?_
        exact ih (j + 1) _ x5_43 ls (by omega) (by omega) hy_55 (by rw [← hz2, ex5_43]; rw [ho_55] at hr0; exact hr0) (lv_sub hl [0, 1, 2, 4, 5, 6] rfl)

set_option maxHeartbeats 4000000 in
set_option maxRecDepth 100000 in
theorem c_X1_numberOf (l : Launch) (D : va_G) (cy : Nat → ClassId) (Ad : Nat → Nat) (n mm : Nat) (C : pw_C) (hn : 1 ≤ n ∧ n ≤ 12) (hF : fX n mm Ad C) (mx : Nat → Nat → Option Nat) (hM : gM n mx C) (en : Nat → Bool) (len : Nat) (hle : len ≤ 25) (hrr : ∀ l, l ≤ len → ∀ y, y < n → C.2.1 (53 + l) y = cnW mx en l y) (hE : gE n en C) (w : Int64) : Met l yX1_numberOf wsX1_numberOf (k2_rm 2 50) (pw_Pre ([.ref (Ad 2), .int (nI len), .long w]) D cy Ad (shX n) C) (k2_QcV (.long (noF mx en len w len 0 0 0))) 0 0 (fun _ => False) := by
  refine Met.ofW (cc := cX1_numberOf) (maxL := 9) (ret := (some .long)) (by decide) rfl ?_
  intro p e s m args below meth c s₁ B hml hv
  obtain ⟨rfl, hP, hK⟩ := hv
  have hx := B.exec
  have hb := B.bytes
  have hr := B.returns
  have hts := atoms_spec (ws := wsX1_numberOf) B.pre
  have hown : s.vm.findClass RX1 = some m.cls := findClass_of_methodNamed B.named
  have hlocks := B.notSynchronized
  have S : CallFix p m c cX1_numberOf 9 s ([.ref (Ad 2), .int (nI len), .long w]).toArray wsX1_numberOf RX1 := ⟨hx, hb, hml, hown, hts⟩
  change W p l e (k2_rm 2 50) s m _ below meth c s.heap [] 0 0 _ _
  have hl := lv_entry ([.ref (Ad 2), .int (nI len), .long w]) (n := 9) (Nat.le_of_ble_eq_true rfl)
  rw [lg_entry_eq]
  generalize (lg_sl ([.ref (Ad 2), .int (nI len), .long w]) ++ List.replicate (9 - (lg_sl ([.ref (Ad 2), .int (nI len), .long w])).length) Slot.unset).toArray = ls at hl ⊢
  have hl : lv_has ls 9 [(0, .ref (Ad 2)), (1, .int (nI len)), (2, .long w)] := hl
  refine lv_iconst (v := nI 0) hx hb dX1_numberOf_0 (by decide) ?_
  refine lv_istore (lv' := [(4, .int (nI 0)), (0, .ref (Ad 2)), (1, .int (nI len)), (2, .long w)]) hx hb dX1_numberOf_1 hl (by decide) rfl (fun ls hl => ?_)
  refine lv_lconst (v := 0) hx hb dX1_numberOf_3 (by decide) ?_
  refine lv_lstore (lv' := [(5, .long 0), (4, .int (nI 0)), (0, .ref (Ad 2)), (1, .int (nI len)), (2, .long w)]) hx hb dX1_numberOf_4 hl (by decide) rfl (fun ls hl => ?_)
  refine lv_iconst (v := nI 0) hx hb dX1_numberOf_6 (by decide) ?_
  refine lv_istore (lv' := [(7, .int (nI 0)), (5, .long 0), (4, .int (nI 0)), (0, .ref (Ad 2)), (1, .int (nI len)), (2, .long w)]) hx hb dX1_numberOf_7 hl (by decide) rfl (fun ls hl => ?_)
  exact L_numberOf S hK hP hF hn hM len hle hrr hE w _ (fun pc9 ls hd9 => W.lret hx hb hr (fun t ht _ => ⟨rfl, ht⟩) (fun q h => by cases h) hd9) (len + 1) 0 0 0 ls (by omega) (by omega) (by omega) rfl (lv_sub hl [0, 2, 1, 3, 4, 5] rfl)
