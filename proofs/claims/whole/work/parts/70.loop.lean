section LWR
variable {p : Program} {l : Launch} {e : Env} {R : Room} {s : State} {m : MethodId} {args : Array Value} {below : List Frame} {meth : Method} {c : Code} {H : Heap} {locs : List Loc} {cells slots : Nat} {Q : State → Prop}
variable {cc bytes : ByteArray} {pc nL maxL index : Nat} {ls : Array Slot} {rest As st0 : List Value} {D : va_G} {cy : Nat → ClassId} {Ad : Nat → Nat} {sh sh' : Nat → Nat × Nat × Nat} {H0 : Heap} {own : String} {y : MethodName} {Ts ws ws' : List Cond} {rm : Room}
/-- a constructor's call beside other worlds -/
theorem pw_ciL (S : CallFix p m c cc nL s args Ts own) (hK : pw_K D cy s) (hO : pw_O cy s) {A0 : Nat → Prop} (hS : va_S A0 H0 H locs) (k : Nat) {ci b : Nat} (hs : sh k = (6, ci, b)) {fs : List Value} (hN : va_at D vwCl (Ad k, .inr (ci, fs)) H) {z zz mc ms : Nat} (hz : H.size = z) {Rel : pw_C → Prop} (n : Nat)
    (hM : Met l y ws rm (pw_PreN (.ref (Ad k) :: As) z D cy Ad (shR (fun j => j == k) sh) (zC fs)) (pw_PostN Rel zz D cy Ad sh') mc ms (pw_fr Ad sh')) (hA : ∀ q, pw_fr Ad sh' q → A0 q) (hG : GoodIn Ts ws) (hw : ws = Cond.code y bytes maxL none :: ws') (hrc : rm.cells = mc) (hrs : rm.slots = ms)
    (hini : (Cond.initialized y.cls).before args s = true) (hl0 : (Cond.methodLink own index y).before args s = true) (hin : (Cond.instanceMethod y).before args s = true) (hy1 : y.name = "<init>")
    (hd : y.cls ≠ "java/lang/invoke/MethodHandle" ∧ y.cls ≠ "java/lang/invoke/VarHandle" ∧ (parseMethodDescriptor y.desc).map (fun d => d.parameters.length) = some n) (hR : rm.frames + 1 ≤ R.frames ∧ 8 + (maxL + 11) + rm.locals ≤ R.locals)
    (hn : As.length = n) (hl : ls.size = nL) (hst : st0 = As.reverse ++ .ref (Ad k) :: rest) (hro : (rest.map fun v => v.category).sum ≤ 8) (hdg : decode cc pc = .ok (.invokespecial index, 3)) (hf : cells + mc ≤ R.cells ∧ slots + ms ≤ R.slots)
    (kk : ∀ (C1 : pw_C) (H1 : Heap) (locs1 : List Loc), Rel C1 → pw_P D cy Ad sh' C1 H1 → (∀ q : Nat, q < H.size → ¬ pw_fr Ad sh' q → H1[q]? = H[q]?) → va_S A0 H0 H1 locs1 → H1.size = zz → W p l e R s m args below meth c H1 locs1 (cells + mc) (slots + ms) Q (F0 m (pc + 3) ls rest)) : W p l e R s m args below meth c H locs cells slots Q (F0 m pc ls st0) := by
  intro T hT X
  obtain ⟨v, st₀, t, T', L, h0, X', hL, e1, e2, ⟨⟨C1, hv, hr, hb, hzz⟩, hz1, hk1⟩, st⟩ := va_runI (As := As) (rest := rest) S hM (cwI n S.2.2.2.2 hG hw hrc hrs hini hl0 hin hy1 hd hR) ⟨pw_blindN, fun U hU hW => ⟨rfl, by rw [hU]; exact hz, by rw [hU]; exact pw_P.single hs hN, hK.moved hW, hO.moved hW.alike⟩⟩ rfl hn hl hst (lv_room hro) hdg hf T hT X
  cases hv
  rw [h0] at hz1 hk1
  obtain ⟨t2, a1, b1⟩ := kk C1 T'.heap (locs ++ L) hr (by rw [e1]; exact hb) (fun q h1 h2 => by rw [e1]; exact hk1 q h1 h2)
    ⟨Nat.le_trans hS.1 (by rw [e1]; exact hz1), fun q h1 h2 => by rw [e1, hk1 q (Nat.lt_of_lt_of_le h1 hS.1) (fun z9 => h2 (hA q z9))]; exact hS.2.1 q h1 h2, fun q hq => by
      rcases List.mem_append.mp hq with h | h
      · exact hS.2.2 q h
      · exact hA _ (hL q h)⟩ (by rw [e1]; exact hzz) T' rfl X'
  exact ⟨t2, st t2 a1, b1⟩
end LWR
/-- the script's first int, or 0 -/
def lc (L : Nat) (xs : Nat → Int32) : Int32 := if 0 < L then xs 0 else 0
theorem lc_blind {b L : Nat} {xs : Nat → Int32} {av : List Value} : FrameBlind (va_Pc av (fun U => va_X b L xs U U.heap)) := fun a U g mk h => ⟨h.1, va_X.moved (u := U) (U := U.calling g mk a) (Vm.Alike.refl U.vm) h.2⟩
set_option maxHeartbeats 4000000 in
set_option maxRecDepth 100000 in
theorem c_L_cell (l : Launch) (b L : Nat) (xs : Nat → Int32) (hL : L ≤ 2561) : Met l yL_cell wsL_cell (k2_rm 0 0) (va_Pc [.ref b, .int (nI 0)] (fun U => va_X b L xs U U.heap)) (k2_QcV (.int (lc L xs))) 0 0 (fun _ => False) := by
  refine Met.ofW (cc := cL_cell) (maxL := 2) (ret := (some .int)) (by decide) rfl ?_
  intro p e s m args below meth c s₁ B hml hv
  obtain ⟨rfl, hX⟩ := hv
  have hx := B.exec
  have hb := B.bytes
  have hr := B.returns
  have hts := atoms_spec (ws := wsL_cell) B.pre
  have hown : s.vm.findClass RL = some m.cls := findClass_of_methodNamed B.named
  change W p l e (k2_rm 0 0) s m _ below meth c s.heap [] 0 0 _ _
  have hl := lv_entry ([.ref b, .int (nI 0)]) (n := 2) (Nat.le_of_ble_eq_true rfl)
  rw [lg_entry_eq]
  generalize (lg_sl ([.ref b, .int (nI 0)]) ++ List.replicate (2 - (lg_sl ([.ref b, .int (nI 0)])).length) Slot.unset).toArray = ls at hl ⊢
  have hl : lv_has ls 2 [(0, .ref b), (1, .int (nI 0))] := hl
  have hbl : b < s.heap.size := by
    obtain ⟨scr, h1, -⟩ := hX
    exact (Array.getElem?_eq_some_iff.mp h1).1
  have hS : va_S (fun _ => False) s.heap s.heap [] := va_S.rf
  have hbA : ¬ (fun _ : Nat => False) b := fun h => h
  refine lv_iload_n hx hb dL_cell_0 rfl (lv_at hl 1 rfl) ?_
  refine lv_aload_n hx hb dL_cell_1 rfl (lv_at hl 0 rfl) ?_
  refine va_slen hx hb hX hbl hbA hS dL_cell_2 ?_
  refine pw_topi (y := nI L) rfl ?_
  refine pn_icmp_ge (tgt := 12) hx hb (by decide) (by omega) dL_cell_3 (by decide) (fun c_3 => ?_) (fun c_3 => ?_)
  · refine lv_iconst (v := 0) hx hb dL_cell_12 (by decide) ?_
    refine pw_topi (y := lc L xs) (by unfold lc; rw [if_neg (by omega)]) ?_
    exact W.iret hx hb hr (fun t ht _ => ⟨rfl, ht⟩) (fun q h => by cases h) dL_cell_13
  · refine lv_aload_n hx hb dL_cell_6 rfl (lv_at hl 0 rfl) ?_
    refine lv_iload_n hx hb dL_cell_7 rfl (lv_at hl 1 rfl) ?_
    refine va_sld hx hb hX hbl hbA hS (vp_in_nI (by omega) (by omega)) dL_cell_8 ?_
    refine lv_goto (tgt := 13) hx hb dL_cell_9 (by decide) ?_
    refine pw_topi (y := lc L xs) (by unfold lc; rw [if_pos (by omega)]; rfl) ?_
    exact W.iret hx hb hr (fun t ht _ => ⟨rfl, ht⟩) (fun q h => by cases h) dL_cell_13
theorem lw_lt {i L : Nat} (hL : L ≤ 2561) (hi : i ≤ 3000) (h : ¬ (Int32.ofNat L - nI 5) < nI i) : i + 5 ≤ L := by
  have e5 : (nI 5).toInt = 5 := by decide
  have eL : (Int32.ofNat L).toInt = L := nI_toInt (by omega)
  rw [Int32.lt_iff_toInt_lt, Int32.toInt_sub, eL, e5, nI_toInt (by omega), bm32 (by omega)] at h
  omega
theorem and31 (x : Int32) : ∃ j, j < 32 ∧ x &&& nI 31 = nI j := by
  refine ⟨(x &&& nI 31).toBitVec.toNat, ?_, (nI_bv _).symm⟩
  have h : (x &&& nI 31).toBitVec.toNat ≤ 31 := by
    rw [Int32.toBitVec_and, BitVec.toNat_and]
    exact Nat.and_le_right
  omega

set_option maxHeartbeats 4000000 in
set_option maxRecDepth 100000 in
theorem law_loop {p : Program} {l : Launch} {e : Env} {s : State} {m : MethodId} {below : List Frame} {meth : Method} {c : Code} {b L : Nat} {xs : Nat → Int32} {D : va_G} {cy : Nat → ClassId} {Ad Ad2 : Nat → Nat} {n : Nat} (E : lw_E p s m c b L xs D cy Ad Ad2 n) (hL : L ≤ 2561) (hr : meth.sig.returnType = ret) (hlocks : meth.locks = false) : ∀ (f i : Nat) (mm : Nat) (nx : Nat → Nat → Nat) (mx : Nat → Nat → Option Nat) (en : Nat → Bool) (am wt : Nat → Nat) (C C2 : pw_C) (H : Heap) (locs : List Loc) (ls : Array Slot), L + 5 - i < f → i ≤ L + 5 → lw_I s D cy Ad Ad2 n mm nx mx en am wt C C2 H locs → lv_has ls 4 [(3, .int (nI i)), (2, .ref (Ad2 0)), (1, .ref (Ad 0)), (0, .ref b)] → W p l e room_1 s m #[Value.ref b] below meth c H locs 600000 7302250 (lw_Z below #[Value.ref b] s) (F0 m 28 ls []) := by
  intro f
  induction f with
  | zero => intro i mm nx mx en am wt C C2 H locs ls hf; exact absurd hf (Nat.not_lt_zero _)
  | succ f ih =>
    intro i mm nx mx en am wt C C2 H locs ls hf hi Iv hl
    obtain ⟨S, hX0, hbl, hK, hI, hI2, hn, hd12, hd21, hge, hge2⟩ := id E
    obtain ⟨hmm, hP, hP2, hX, hM, hS⟩ := id Iv
    have hbA : ¬ (fun q : Nat => s.heap.size ≤ q) b := Nat.not_le.mpr hbl
    have hx := S.1
    have hb := S.2.1
    refine lv_iload_n hx hb dL_law_28 rfl (lv_at hl 0 rfl) ?_
    refine lv_aload_n hx hb dL_law_29 rfl (lv_at hl 3 rfl) ?_
    refine va_slen hx hb hX0 hbl hbA hS dL_law_30 ?_
    refine lv_iconst (v := nI 5) hx hb dL_law_31 (by decide) ?_
    refine lv_isub hx hb dL_law_32 ?_
    refine lv_icmp_gt (tgt := 1143) hx hb dL_law_33 (by decide) (fun c_33 => ?_) (fun c_33 => ?_)
    · refine lv_iconst (v := 1) hx hb dL_law_1143 (by decide) ?_
      refine va_forget (fun q hq => hS.2.2 q hq) ?_
      exact lw_ret hx hb hr hlocks dL_law_1144
    · have hlt : i + 5 ≤ L := lw_lt hL (by omega) c_33
      have hi4 : i + 4 < L := by omega
      refine lv_aload_n hx hb dL_law_36 rfl (lv_at hl 3 rfl) ?_
      refine lv_iload_n hx hb dL_law_37 rfl (lv_at hl 0 rfl) ?_
      refine va_sld hx hb hX0 hbl hbA hS (vp_in_nI (by omega) (by omega)) dL_law_38 ?_
      refine lv_bipush (v := nI 31) hx hb dL_law_39 (by decide) ?_
      refine lv_iand hx hb dL_law_41 ?_
      obtain ⟨j, hj, ej⟩ := and31 (xs (nI i).toNatClampNeg)
      refine pw_topi (y := nI j) ej ?_
      clear ej
      have hq : ∀ (mm : Nat) (nx : Nat → Nat → Nat) (mx : Nat → Nat → Option Nat) (en : Nat → Bool) (am wt : Nat → Nat) (C C2 : pw_C) (H : Heap) (locs : List Loc) (ls : Array Slot), lw_I s D cy Ad Ad2 n mm nx mx en am wt C C2 H locs → lv_has ls 4 [(3, .int (nI i)), (2, .ref (Ad2 0)), (1, .ref (Ad 0)), (0, .ref b)] → W p l e room_1 s m #[Value.ref b] below meth c H locs 600000 7302250 (lw_Z below #[Value.ref b] s) (F0 m 1137 ls []) := by
        intro mm nx mx en am wt C C2 H locs ls Iv hl
        refine lv_iinc (v := nI (i + 5)) (lv' := [(3, .int (nI (i + 5))), (2, .ref (Ad2 0)), (1, .ref (Ad 0)), (0, .ref b)]) hx hb dL_law_1137 hl (k := 0) rfl (nI_add _ 5) (by decide) rfl (fun ls hl => ?_)
        refine lv_goto (tgt := 28) hx hb dL_law_1140 (by decide) ?_
        exact ih (i + 5) mm nx mx en am wt C C2 H locs ls (by omega) (by omega) Iv hl
      have hj9 : j = 0 ∨ j = 1 ∨ j = 2 ∨ j = 3 ∨ j = 4 ∨ j = 5 ∨ j = 6 ∨ j = 7 ∨ j = 8 ∨ j = 9 ∨ j = 10 ∨ j = 11 ∨ j = 12 ∨ j = 13 ∨ j = 14 ∨ j = 15 ∨ j = 16 ∨ j = 17 ∨ j = 18 ∨ j = 19 ∨ j = 20 ∨ j = 21 ∨ j = 22 ∨ j = 23 ∨ j = 24 ∨ 25 ≤ j := by omega
      rcases hj9 with rfl | rfl | rfl | rfl | rfl | rfl | rfl | rfl | rfl | rfl | rfl | rfl | rfl | rfl | rfl | rfl | rfl | rfl | rfl | rfl | rfl | rfl | rfl | rfl | rfl | hj9
      · refine lv_tableIn (tgt := 156) (off := 114) hx hb dL_law_42 (by decide) (by decide) (by decide) (by decide) ?_
        exact K_hash E hL hi4 Iv hl hq
      · refine lv_tableIn (tgt := 189) (off := 147) hx hb dL_law_42 (by decide) (by decide) (by decide) (by decide) ?_
        exact K_pick E hL hi4 Iv hl hq
      · refine lv_tableIn (tgt := 253) (off := 211) hx hb dL_law_42 (by decide) (by decide) (by decide) (by decide) ?_
        exact K_tries E hL hi4 Iv hl hq
      · refine lv_tableIn (tgt := 316) (off := 274) hx hb dL_law_42 (by decide) (by decide) (by decide) (by decide) ?_
        exact K_rule E hL hi4 Iv hl hq
      · refine lv_tableIn (tgt := 359) (off := 317) hx hb dL_law_42 (by decide) (by decide) (by decide) (by decide) ?_
        exact K_taken E hL hi4 Iv hl hq
      · refine lv_tableIn (tgt := 402) (off := 360) hx hb dL_law_42 (by decide) (by decide) (by decide) (by decide) ?_
        exact K_past E hL hi4 Iv hl hq
      · refine lv_tableIn (tgt := 435) (off := 393) hx hb dL_law_42 (by decide) (by decide) (by decide) (by decide) ?_
        exact K_fold E hL hi4 Iv hl hq
      · refine lv_tableIn (tgt := 468) (off := 426) hx hb dL_law_42 (by decide) (by decide) (by decide) (by decide) ?_
        exact K_bounding E hL hi4 Iv hl hq
      · refine lv_tableIn (tgt := 501) (off := 459) hx hb dL_law_42 (by decide) (by decide) (by decide) (by decide) ?_
        exact K_monotone E hL hi4 Iv hl hq
      · refine lv_tableIn (tgt := 514) (off := 472) hx hb dL_law_42 (by decide) (by decide) (by decide) (by decide) ?_
        exact K_counted E hL hi4 Iv hl hq
      · refine lv_tableIn (tgt := 547) (off := 505) hx hb dL_law_42 (by decide) (by decide) (by decide) (by decide) ?_
        exact K_trees E hL hi4 Iv hl hq
      · refine lv_tableIn (tgt := 571) (off := 529) hx hb dL_law_42 (by decide) (by decide) (by decide) (by decide) ?_
        exact K_once E hL hi4 Iv hl hq
      · refine lv_tableIn (tgt := 614) (off := 572) hx hb dL_law_42 (by decide) (by decide) (by decide) (by decide) ?_
        exact K_lead E hL hi4 Iv hl hq
      · refine lv_tableIn (tgt := 657) (off := 615) hx hb dL_law_42 (by decide) (by decide) (by decide) (by decide) ?_
        exact K_end E hL hi4 Iv hl hq
      · refine lv_tableIn (tgt := 706) (off := 664) hx hb dL_law_42 (by decide) (by decide) (by decide) (by decide) ?_
        exact K_words E hL hi4 Iv hl hq
      · refine lv_tableIn (tgt := 730) (off := 688) hx hb dL_law_42 (by decide) (by decide) (by decide) (by decide) ?_
        exact K_word E hL hi4 Iv hl hq
      · refine lv_tableIn (tgt := 803) (off := 761) hx hb dL_law_42 (by decide) (by decide) (by decide) (by decide) ?_
        exact K_rank E hL hi4 Iv hl hq
      · refine lv_tableIn (tgt := 867) (off := 825) hx hb dL_law_42 (by decide) (by decide) (by decide) (by decide) ?_
        exact K_allow E hL hi4 Iv hl hq
      · refine lv_tableIn (tgt := 926) (off := 884) hx hb dL_law_42 (by decide) (by decide) (by decide) (by decide) ?_
        exact K_permutations E hL hi4 Iv hl hq
      · refine lv_tableIn (tgt := 949) (off := 907) hx hb dL_law_42 (by decide) (by decide) (by decide) (by decide) ?_
        exact K_permutation E hL hi4 Iv hl hq
      · refine lv_tableIn (tgt := 992) (off := 950) hx hb dL_law_42 (by decide) (by decide) (by decide) (by decide) ?_
        exact K_place E hL hi4 Iv hl hq
      · refine lv_tableIn (tgt := 1025) (off := 983) hx hb dL_law_42 (by decide) (by decide) (by decide) (by decide) ?_
        exact K_things E hL hi4 Iv hl hq
      · refine lv_tableIn (tgt := 1048) (off := 1006) hx hb dL_law_42 (by decide) (by decide) (by decide) (by decide) ?_
        exact K_weight E hL hi4 Iv hl hq
      · refine lv_tableIn (tgt := 1081) (off := 1039) hx hb dL_law_42 (by decide) (by decide) (by decide) (by decide) ?_
        exact K_cell E hL hi4 Iv hl hq
      · refine lv_tableIn (tgt := 1114) (off := 1072) hx hb dL_law_42 (by decide) (by decide) (by decide) (by decide) ?_
        exact K_tell E hL hi4 Iv hl hq
      · refine lv_tableOut (tgt := 1137) hx hb dL_law_42 (Or.inr (by rw [nI_toInt (by omega)]; omega)) (by decide) ?_
        exact hq mm nx mx en am wt C C2 H locs ls Iv hl
