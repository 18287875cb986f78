theorem wl_wi (x y z : Int32) {lo hi : Int64} (h1 : y.toInt64 = lo) (h2 : z.toInt64 = hi) : wl x.toInt64 lo hi = wi x y z := by
  subst h1
  subst h2
  unfold wl wi
  apply decide_eq_decide.mpr
  rw [Int64.le_iff_toInt_le, Int64.le_iff_toInt_le, Int32.le_iff_toInt_le, Int32.le_iff_toInt_le, Int32.toInt_toInt64, Int32.toInt_toInt64, Int32.toInt_toInt64]
theorem fM_B {ks : Nat → Prop} {C C' : pw_C} {n mm : Nat} {pk : Int64} {tr : Int32} {Ad : Nat → Nat} (h : fM n mm pk tr Ad C) (hB : pw_B ks C C') : fM n mm pk tr Ad C' := by
  unfold fM at h ⊢
  rw [hB.2]; exact h
def rN (n : Nat) (nx : Nat → Nat → Nat) (C : pw_C) : Prop := ∀ u, u < 8 → ∀ x, x < n → nx u x < n ∧ C.1 1 (8 * x + u) = nI (nx u x)
theorem rN_B {n : Nat} {nx : Nat → Nat → Nat} {ks : Nat → Prop} {C C' : pw_C} (h : rN n nx C) (hB : pw_B ks C C') (hk : ¬ ks 1) : rN n nx C' := fun u hu x hx => by
  rw [(hB.1 _ hk).1]; exact h u hu x hx
def pkv (a : Int32) (b Z : Nat) : Nat → Int64
  | 0 => lN Z
  | k + 1 => tb a k b

set_option maxHeartbeats 4000000 in
set_option maxRecDepth 100000 in
theorem c_X5_in (l : Launch) (x lo hi : Int64) : Met l yX5_in wsX5_in (k2_rm 0 0) (fun v _ => v = ([.long x, .long lo, .long hi]).toArray) (k2_QcV (.int (pb (wl x lo hi)))) 0 0 (fun _ => False) := by
  refine Met.ofW (cc := cX5_in) (maxL := 6) (ret := (some .boolean)) (by decide) rfl ?_
  intro p e s m args below meth c s₁ B hml hv
  obtain rfl := hv
  have hx := B.exec
  have hb := B.bytes
  have hr := B.returns
  have hts := atoms_spec (ws := wsX5_in) B.pre
  have hown : s.vm.findClass RX5 = some m.cls := findClass_of_methodNamed B.named
  have hlocks := B.notSynchronized
  have S : CallFix p m c cX5_in 6 s ([.long x, .long lo, .long hi]).toArray wsX5_in RX5 := ⟨hx, hb, hml, hown, hts⟩
  change W p l e (k2_rm 0 0) s m _ below meth c s.heap [] 0 0 _ _
  have hl := lv_entry ([.long x, .long lo, .long hi]) (n := 6) (Nat.le_of_ble_eq_true rfl)
  rw [lg_entry_eq]
  generalize (lg_sl ([.long x, .long lo, .long hi]) ++ List.replicate (6 - (lg_sl ([.long x, .long lo, .long hi])).length) Slot.unset).toArray = ls at hl ⊢
  have hl : lv_has ls 6 [(0, .long x), (2, .long lo), (4, .long hi)] := hl
  refine lv_lload_n hx hb dX5_in_0 rfl (lv_at hl 0 rfl) ?_
  refine lv_lload_n hx hb dX5_in_1 rfl (lv_at hl 1 rfl) ?_
  refine W.lcmp hx hb dX5_in_2 ?_
  refine pn_lif_lt (tgt := 17) hx hb dX5_in_3 (by decide) (fun c_3 => ?_) (fun c_3 => ?_)
  · refine lv_iconst (v := nI 0) hx hb dX5_in_17 (by decide) ?_
    refine pw_topi (y := pb (wl x lo hi)) (by first | exact wl_f1 (Int64.not_le.mpr c_3) | exact wl_f2 (Int64.not_le.mpr c_10) | exact wl_t (Int64.not_lt.mp c_3) (Int64.not_lt.mp c_10)) ?_
    exact W.zret hx hb hr (pb_nar _) (fun t ht _ => ⟨rfl, ht⟩) (fun q h => by cases h) dX5_in_18
  · refine lv_lload_n hx hb dX5_in_6 rfl (lv_at hl 0 rfl) ?_
    refine lv_lload hx hb dX5_in_7 (lv_at hl 2 rfl) ?_
    refine W.lcmp hx hb dX5_in_9 ?_
    refine pn_lif_gt (tgt := 17) hx hb dX5_in_10 (by decide) (fun c_10 => ?_) (fun c_10 => ?_)
    · refine lv_iconst (v := nI 0) hx hb dX5_in_17 (by decide) ?_
      refine pw_topi (y := pb (wl x lo hi)) (by first | exact wl_f1 (Int64.not_le.mpr c_3) | exact wl_f2 (Int64.not_le.mpr c_10) | exact wl_t (Int64.not_lt.mp c_3) (Int64.not_lt.mp c_10)) ?_
      exact W.zret hx hb hr (pb_nar _) (fun t ht _ => ⟨rfl, ht⟩) (fun q h => by cases h) dX5_in_18
    · refine lv_iconst (v := nI 1) hx hb dX5_in_13 (by decide) ?_
      refine lv_goto (tgt := 18) hx hb dX5_in_14 (by decide) ?_
      refine pw_topi (y := pb (wl x lo hi)) (by first | exact wl_f1 (Int64.not_le.mpr c_3) | exact wl_f2 (Int64.not_le.mpr c_10) | exact wl_t (Int64.not_lt.mp c_3) (Int64.not_lt.mp c_10)) ?_
      exact W.zret hx hb hr (pb_nar _) (fun t ht _ => ⟨rfl, ht⟩) (fun q h => by cases h) dX5_in_18

set_option maxHeartbeats 4000000 in
set_option maxRecDepth 100000 in
theorem c_X5_isState (l : Launch) (D : va_G) (cy : Nat → ClassId) (Ad : Nat → Nat) (n mm : Nat) (pk : Int64) (tr : Int32) (C : pw_C) (hn : 1 ≤ n ∧ n ≤ 12) (hF : fM n mm pk tr Ad C) (x : Int32) : Met l yX5_isState wsX5_isState (k2_rm 1 25) (pw_Pre ([.ref (Ad 0), .int x]) D cy Ad shM C) (k2_QcV (.int (pb (wi x (nI 0) (nI (n - 1)))))) 0 0 (fun _ => False) := by
  refine Met.ofW (cc := cX5_isState) (maxL := 2) (ret := (some .boolean)) (by decide) rfl ?_
  intro p e s m args below meth c s₁ B hml hv
  obtain ⟨rfl, hP, hK⟩ := hv
  have hx := B.exec
  have hb := B.bytes
  have hr := B.returns
  have hts := atoms_spec (ws := wsX5_isState) B.pre
  have hown : s.vm.findClass RX5 = some m.cls := findClass_of_methodNamed B.named
  have hlocks := B.notSynchronized
  have S : CallFix p m c cX5_isState 2 s ([.ref (Ad 0), .int x]).toArray wsX5_isState RX5 := ⟨hx, hb, hml, hown, hts⟩
  change W p l e (k2_rm 1 25) s m _ below meth c s.heap [] 0 0 _ _
  have hl := lv_entry ([.ref (Ad 0), .int x]) (n := 2) (Nat.le_of_ble_eq_true rfl)
  rw [lg_entry_eq]
  generalize (lg_sl ([.ref (Ad 0), .int x]) ++ List.replicate (2 - (lg_sl ([.ref (Ad 0), .int x])).length) Slot.unset).toArray = ls at hl ⊢
  have hl : lv_has ls 2 [(0, .ref (Ad 0)), (1, .int x)] := hl
  refine lv_iload_n hx hb dX5_isState_0 rfl (lv_at hl 1 rfl) ?_
  refine lv_i2l hx hb dX5_isState_1 rfl ?_
  refine lv_lconst (v := 0) hx hb dX5_isState_2 (by decide) ?_
  refine lv_aload_n hx hb dX5_isState_3 rfl (lv_at hl 0 rfl) ?_
  refine pw_get hx hb hts (fun _ h9 => List.mem_cons_of_mem _ (List.mem_append_right _ h9)) hown hK hP 0 rfl rfl 0 (by decide) hF rfl (hts (.fieldLink RX5 64 "PastDrawsModel" "n" "I") (List.mem_of_getElem? (i := 1) rfl)) dX5_isState_4 ?_
  refine lv_iconst (v := nI 1) hx hb dX5_isState_7 (by decide) ?_
  refine lv_isub hx hb dX5_isState_8 ?_
  refine pw_topi (pk_sub (by omega)) ?_
  refine lv_i2l hx hb dX5_isState_9 rfl ?_
  refine pw_cs S 3 (c_X5_in l x.toInt64 0 ((nI (n - 1)).toInt64)) gX5_isState_X5_in rfl rfl rfl (by decide +kernel) ⟨Nat.le_of_ble_eq_true rfl, Nat.le_of_ble_eq_true rfl⟩ rfl hl.1 rfl (Nat.le_of_ble_eq_true rfl) dX5_isState_10 ⟨Nat.le_refl _, Nat.le_refl _⟩ ?_
  refine pw_topi (y := pb (wi x (nI 0) (nI (n - 1)))) (congrArg pb (wl_wi _ (nI 0) (nI (n - 1)) (by first | rfl | decide) (by first | rfl | decide))) ?_
  exact W.zret hx hb hr (pb_nar _) (fun t ht _ => ⟨rfl, ht⟩) (fun q h => by cases h) dX5_isState_13

set_option maxHeartbeats 4000000 in
set_option maxRecDepth 100000 in
theorem c_X5_hash (l : Launch) (D : va_G) (cy : Nat → ClassId) (Ad : Nat → Nat) (n mm : Nat) (pk : Int64) (tr : Int32) (C : pw_C) (hn : 1 ≤ n ∧ n ≤ 12) (hF : fM n mm pk tr Ad C) (a t : Int32) : Met l yX5_hash wsX5_hash (k2_rm 0 0) (pw_Pre ([.ref (Ad 0), .int a, .int t]) D cy Ad shM C) (k2_QcV (.int (hsh a t))) 0 0 (fun _ => False) := by
  refine Met.ofW (cc := cX5_hash) (maxL := 4) (ret := (some .int)) (by decide) rfl ?_
  intro p e s m args below meth c s₁ B hml hv
  obtain ⟨rfl, hP, hK⟩ := hv
  have hx := B.exec
  have hb := B.bytes
  have hr := B.returns
  have hts := atoms_spec (ws := wsX5_hash) B.pre
  have hown : s.vm.findClass RX5 = some m.cls := findClass_of_methodNamed B.named
  have hlocks := B.notSynchronized
  have S : CallFix p m c cX5_hash 4 s ([.ref (Ad 0), .int a, .int t]).toArray wsX5_hash RX5 := ⟨hx, hb, hml, hown, hts⟩
  change W p l e (k2_rm 0 0) s m _ below meth c s.heap [] 0 0 _ _
  have hl := lv_entry ([.ref (Ad 0), .int a, .int t]) (n := 4) (Nat.le_of_ble_eq_true rfl)
  rw [lg_entry_eq]
  generalize (lg_sl ([.ref (Ad 0), .int a, .int t]) ++ List.replicate (4 - (lg_sl ([.ref (Ad 0), .int a, .int t])).length) Slot.unset).toArray = ls at hl ⊢
  have hl : lv_has ls 4 [(0, .ref (Ad 0)), (1, .int a), (2, .int t)] := hl
  refine lv_iload_n hx hb dX5_hash_0 rfl (lv_at hl 1 rfl) ?_
  refine lv_iload_n hx hb dX5_hash_1 rfl (lv_at hl 2 rfl) ?_
  refine lv_ldc hx hb hown (hts (.constant RX5 71 (-1640531527)) (List.mem_of_getElem? (i := 1) rfl)) dX5_hash_2 ?_
  refine lv_imul hx hb dX5_hash_4 ?_
  refine lv_iadd hx hb dX5_hash_5 ?_
  refine lv_topi (fun x3_6 ex3_6 => ?_)
  refine lv_istore_n (lv' := [(3, .int x3_6), (0, .ref (Ad 0)), (1, .int a), (2, .int t)]) hx hb dX5_hash_6 rfl hl (by decide) rfl (fun ls hl => ?_)
  refine lv_iload_n hx hb dX5_hash_7 rfl (lv_at hl 0 rfl) ?_
  refine lv_iload_n hx hb dX5_hash_8 rfl (lv_at hl 0 rfl) ?_
  refine lv_bipush (v := nI 16) hx hb dX5_hash_9 (by decide) ?_
  refine lv_iushr (v := hs_u x3_6 (nI 16)) hx hb dX5_hash_11 rfl ?_
  refine lv_ixor hx hb dX5_hash_12 ?_
  refine lv_ldc hx hb hown (hts (.constant RX5 72 (-2048144789)) (List.mem_of_getElem? (i := 2) rfl)) dX5_hash_13 ?_
  refine lv_imul hx hb dX5_hash_15 ?_
  refine lv_topi (fun x3_16 ex3_16 => ?_)
  refine lv_istore_n (lv' := [(3, .int x3_16), (0, .ref (Ad 0)), (1, .int a), (2, .int t)]) hx hb dX5_hash_16 rfl hl (by decide) rfl (fun ls hl => ?_)
  refine lv_iload_n hx hb dX5_hash_17 rfl (lv_at hl 0 rfl) ?_
  refine lv_iload_n hx hb dX5_hash_18 rfl (lv_at hl 0 rfl) ?_
  refine lv_bipush (v := nI 13) hx hb dX5_hash_19 (by decide) ?_
  refine lv_iushr (v := hs_u x3_16 (nI 13)) hx hb dX5_hash_21 rfl ?_
  refine lv_ixor hx hb dX5_hash_22 ?_
  refine lv_ldc hx hb hown (hts (.constant RX5 73 (-1028477387)) (List.mem_of_getElem? (i := 3) rfl)) dX5_hash_23 ?_
  refine lv_imul hx hb dX5_hash_25 ?_
  refine lv_topi (fun x3_26 ex3_26 => ?_)
  refine lv_istore_n (lv' := [(3, .int x3_26), (0, .ref (Ad 0)), (1, .int a), (2, .int t)]) hx hb dX5_hash_26 rfl hl (by decide) rfl (fun ls hl => ?_)
  refine lv_iload_n hx hb dX5_hash_27 rfl (lv_at hl 0 rfl) ?_
  refine lv_iload_n hx hb dX5_hash_28 rfl (lv_at hl 0 rfl) ?_
  refine lv_bipush (v := nI 16) hx hb dX5_hash_29 (by decide) ?_
  refine lv_iushr (v := hs_u x3_26 (nI 16)) hx hb dX5_hash_31 rfl ?_
  refine lv_ixor hx hb dX5_hash_32 ?_
  refine pw_topi (y := hsh a t) (by subst ex3_26 ex3_16 ex3_6; rfl) ?_
  exact W.iret hx hb hr (fun t ht _ => ⟨rfl, ht⟩) (fun q h => by cases h) dX5_hash_33

set_option maxHeartbeats 4000000 in
set_option maxRecDepth 100000 in
theorem c_X5_sign (l : Launch) (D : va_G) (cy : Nat → ClassId) (Ad : Nat → Nat) (n mm : Nat) (pk : Int64) (tr : Int32) (C : pw_C) (hn : 1 ≤ n ∧ n ≤ 12) (hF : fM n mm pk tr Ad C) (a t : Int32) : Met l yX5_sign wsX5_sign (k2_rm 1 23) (pw_Pre ([.ref (Ad 0), .int a, .int t]) D cy Ad shM C) (k2_QcV (.int (nI (sgn a t)))) 0 0 (fun _ => False) := by
  refine Met.ofW (cc := cX5_sign) (maxL := 3) (ret := (some .int)) (by decide) rfl ?_
  intro p e s m args below meth c s₁ B hml hv
  obtain ⟨rfl, hP, hK⟩ := hv
  have hx := B.exec
  have hb := B.bytes
  have hr := B.returns
  have hts := atoms_spec (ws := wsX5_sign) B.pre
  have hown : s.vm.findClass RX5 = some m.cls := findClass_of_methodNamed B.named
  have hlocks := B.notSynchronized
  have S : CallFix p m c cX5_sign 3 s ([.ref (Ad 0), .int a, .int t]).toArray wsX5_sign RX5 := ⟨hx, hb, hml, hown, hts⟩
  change W p l e (k2_rm 1 23) s m _ below meth c s.heap [] 0 0 _ _
  have hl := lv_entry ([.ref (Ad 0), .int a, .int t]) (n := 3) (Nat.le_of_ble_eq_true rfl)
  rw [lg_entry_eq]
  generalize (lg_sl ([.ref (Ad 0), .int a, .int t]) ++ List.replicate (3 - (lg_sl ([.ref (Ad 0), .int a, .int t])).length) Slot.unset).toArray = ls at hl ⊢
  have hl : lv_has ls 3 [(0, .ref (Ad 0)), (1, .int a), (2, .int t)] := hl
  refine lv_aload_n hx hb dX5_sign_0 rfl (lv_at hl 0 rfl) ?_
  refine lv_iload_n hx hb dX5_sign_1 rfl (lv_at hl 1 rfl) ?_
  refine lv_iload_n hx hb dX5_sign_2 rfl (lv_at hl 2 rfl) ?_
  refine pw_cv S hK hP 0 5 rfl rfl 2 (c_X5_hash l D cy Ad n mm pk tr C hn hF a t) gX5_sign_X5_hash rfl rfl rfl (by decide +kernel) ⟨Nat.le_of_ble_eq_true rfl, Nat.le_of_ble_eq_true rfl⟩ rfl hl.1 rfl (Nat.le_of_ble_eq_true rfl) dX5_sign_3 ⟨Nat.le_refl _, Nat.le_refl _⟩ ?_
  refine lv_bipush (v := nI 29) hx hb dX5_sign_6 (by decide) ?_
  refine lv_iushr (v := hs_u (hsh a t) (nI 29)) hx hb dX5_sign_8 rfl ?_
  refine pw_topi (y := nI (sgn a t)) (sgn_eq _ _) ?_
  exact W.iret hx hb hr (fun t ht _ => ⟨rfl, ht⟩) (fun q h => by cases h) dX5_sign_9

set_option maxHeartbeats 4000000 in
set_option maxRecDepth 100000 in
theorem c_X5_isLong (l : Launch) (x : Int32) : Met l yX5_isLong wsX5_isLong (k2_rm 1 25) (fun v _ => v = ([.int x]).toArray) (k2_QcV (.int (pb (wi x (nI 1) (nI 4096))))) 0 0 (fun _ => False) := by
  refine Met.ofW (cc := cX5_isLong) (maxL := 1) (ret := (some .boolean)) (by decide) rfl ?_
  intro p e s m args below meth c s₁ B hml hv
  obtain rfl := hv
  have hx := B.exec
  have hb := B.bytes
  have hr := B.returns
  have hts := atoms_spec (ws := wsX5_isLong) B.pre
  have hown : s.vm.findClass RX5 = some m.cls := findClass_of_methodNamed B.named
  have hlocks := B.notSynchronized
  have S : CallFix p m c cX5_isLong 1 s ([.int x]).toArray wsX5_isLong RX5 := ⟨hx, hb, hml, hown, hts⟩
  change W p l e (k2_rm 1 25) s m _ below meth c s.heap [] 0 0 _ _
  have hl := lv_entry ([.int x]) (n := 1) (Nat.le_of_ble_eq_true rfl)
  rw [lg_entry_eq]
  generalize (lg_sl ([.int x]) ++ List.replicate (1 - (lg_sl ([.int x])).length) Slot.unset).toArray = ls at hl ⊢
  have hl : lv_has ls 1 [(0, .int x)] := hl
  refine lv_iload_n hx hb dX5_isLong_0 rfl (lv_at hl 0 rfl) ?_
  refine lv_i2l hx hb dX5_isLong_1 rfl ?_
  refine lv_lconst (v := 1) hx hb dX5_isLong_2 (by decide) ?_
  refine lv_ldc2 hx hb hown (hts (.constantLong RX5 101 (4096)) (List.mem_of_getElem? (i := 1) rfl)) dX5_isLong_3 ?_
  refine pw_cs S 3 (c_X5_in l x.toInt64 1 (4096)) gX5_isLong_X5_in rfl rfl rfl (by decide +kernel) ⟨Nat.le_of_ble_eq_true rfl, Nat.le_of_ble_eq_true rfl⟩ rfl hl.1 rfl (Nat.le_of_ble_eq_true rfl) dX5_isLong_6 ⟨Nat.le_refl _, Nat.le_refl _⟩ ?_
  refine pw_topi (y := pb (wi x (nI 1) (nI 4096))) (congrArg pb (wl_wi _ (nI 1) (nI 4096) (by first | rfl | decide) (by first | rfl | decide))) ?_
  exact W.zret hx hb hr (pb_nar _) (fun t ht _ => ⟨rfl, ht⟩) (fun q h => by cases h) dX5_isLong_9

set_option maxHeartbeats 4000000 in
set_option maxRecDepth 100000 in
theorem L_find_b {p : Program} {l : Launch} {e : Env} {s : State} {m : MethodId} {args : Array Value} {below : List Frame} {meth : Method} {c : Code} {H : Heap} {locs : List Loc} {Q : State → Prop} (S : CallFix p m c cX5_find 7 s args wsX5_find RX5)  (Ad0 : Nat) (a : Int32) (Z b : Nat) (hN : Z ≤ 2 ^ 62) (hb0 : b ≤ 62) (hb1 : Z ≤ 2 ^ b) (hb2 : ∀ j, j < b → 2 ^ j < Z) (hk : ∀ ls, lv_has ls 7 [(4, .int (nI b)), (0, .ref Ad0), (1, .int a), (2, .long (lN Z))] → W p l e (k2_rm 1 23) s m args below meth c H locs 0 0 Q (F0 m 18 ls [])) : ∀ (f : Nat) (j : Nat) (ls : Array Slot), b - j < f → (j ≤ b) → lv_has ls 7 [(4, .int (nI j)), (0, .ref Ad0), (1, .int a), (2, .long (lN Z))] → W p l e (k2_rm 1 23) s m args below meth c H locs 0 0 Q (F0 m 3 ls []) := by
  have hx := S.1
  have hb := S.2.1
  have hml := S.2.2.1
  have hown := S.2.2.2.1
  have hts := S.2.2.2.2
  intro f
  induction f with
  | zero => intro j ls hf; exact absurd hf (Nat.not_lt_zero _)
  | succ f ih =>
    intro j ls hf hj hl
    refine lv_lconst (v := 1) hx hb dX5_find_3 (by decide) ?_
    refine lv_iload hx hb dX5_find_4 (lv_at hl 0 rfl) ?_
    refine lv_lshl hx hb dX5_find_6 rfl ?_
    refine pw_topl (y := lN (2 ^ j)) (pl_shl1 (by omega)) ?_
    refine lv_lload_n hx hb dX5_find_7 rfl (lv_at hl 3 rfl) ?_
    refine W.lcmp hx hb dX5_find_8 ?_
    refine pn_lif_ge (tgt := 18) hx hb dX5_find_9 (by decide) (fun c_9 => ?_) (fun c_9 => ?_)
    · rw [pk_lLE (by omega) (pow62 (by omega))] at c_9
      have hjb : j = b := by
        rcases Nat.lt_or_ge j b with q | q
        · have := hb2 j q; omega
        · omega
      subst hjb
      exact hk ls (lv_sub hl [0, 1, 2, 3] rfl)
    · rw [pk_lLE (by omega) (pow62 (by omega))] at c_9
      have hjb : j < b := by
        rcases Nat.lt_or_ge j b with q | q
        · exact q
        · have : j = b := by omega
          subst this; omega
      refine lv_iinc (v := nI (j + 1)) (lv' := [(4, .int (nI (j + 1))), (0, .ref Ad0), (1, .int a), (2, .long (lN Z))]) hx hb dX5_find_12 hl (k := 0) rfl (nI_add _ 1) (by decide) rfl (fun ls hl => ?_)
      refine lv_goto (tgt := 3) hx hb dX5_find_15 (by decide) ?_
      exact ih (j + 1) ls (by omega) (by omega) (lv_sub hl [0, 1, 2, 3] rfl)

set_option maxHeartbeats 4000000 in
set_option maxRecDepth 100000 in
theorem L_find {p : Program} {l : Launch} {e : Env} {s : State} {m : MethodId} {args : Array Value} {below : List Frame} {meth : Method} {c : Code} {Q : State → Prop} (S : CallFix p m c cX5_find 7 s args wsX5_find RX5) {D : va_G} {cy : Nat → ClassId} {Ad : Nat → Nat} {n mm : Nat} {C0 : pw_C} (hK : pw_K D cy s) (hI : pw_I Ad shM) (hn : 1 ≤ n ∧ n ≤ 12) (a : Int32) (Z b k1 : Nat) (hb0 : b ≤ 62) (hk1 : k1 < 1000000) (hk2 : tb a k1 b < lN Z) (hk3 : ∀ j, j < k1 → ¬ tb a j b < lN Z) (hq : ∀ (pc9 : Nat) (C : pw_C) (H : Heap) (locs : List Loc) (ls : Array Slot), decode cX5_find pc9 = .ok (.return_, 1) → pw_P D cy Ad shM C H → va_S (pw_fr Ad shM) s.heap H locs → (fM n mm (tb a k1 b) (nI (k1 + 1)) Ad C ∧ C.1 = C0.1 ∧ C.2.1 = C0.2.1) → W p l e (k2_rm 1 23) s m args below meth c H locs 0 0 Q (F0 m pc9 ls [])) : ∀ (f : Nat) (C : pw_C) (H : Heap) (locs : List Loc) (k : Nat) (ls : Array Slot), k1 + 1 - k < f → (pw_P D cy Ad shM C H) → (va_S (pw_fr Ad shM) s.heap H locs) → (fM n mm (pkv a b Z k) (nI k) Ad C) → (C.1 = C0.1 ∧ C.2.1 = C0.2.1) → (k ≤ k1 + 1) → lv_has ls 7 [(4, .int (nI b)), (0, .ref (Ad 0)), (1, .int a), (2, .long (lN Z))] → W p l e (k2_rm 1 23) s m args below meth c H locs 0 0 Q (F0 m 28 ls []) := by
  have hx := S.1
  have hb := S.2.1
  have hml := S.2.2.1
  have hown := S.2.2.2.1
  have hts := S.2.2.2.2
  intro f
  induction f with
  | zero => intro C H locs k ls hf; exact absurd hf (Nat.not_lt_zero _)
  | succ f ih =>
    intro C H locs k ls hf hP hS hF hC hk0 hl
    refine lv_aload_n hx hb dX5_find_28 rfl (lv_at hl 1 rfl) ?_
    refine pw_get hx hb hts (fun _ h9 => List.mem_cons_of_mem _ (List.mem_append_right _ h9)) hown hK hP 0 rfl rfl 7 (by decide) hF rfl (hts (.fieldLink RX5 81 "PastDrawsModel" "picked" "J") (List.mem_of_getElem? (i := 2) rfl)) dX5_find_29 ?_
    refine lv_lload_n hx hb dX5_find_32 rfl (lv_at hl 3 rfl) ?_
    refine W.lcmp hx hb dX5_find_33 ?_
    refine pn_lif_lt (tgt := 109) hx hb dX5_find_34 (by decide) (fun c_34 => ?_) (fun c_34 => ?_)
    · obtain ⟨k, rfl⟩ : ∃ k9, k = k9 + 1 := by
        cases k with
        | zero => exact absurd c_34 Int64.lt_irrefl
        | succ k9 => exact ⟨k9, rfl⟩
      have hkk : k = k1 := by
        rcases Nat.lt_or_ge k k1 with q | q
        · exact absurd c_34 (hk3 k q)
        · omega
      subst hkk
      exact hq _ C H locs ls dX5_find_109 hP hS ⟨hF, hC⟩
    · have hkk : k ≤ k1 := by
        rcases Nat.lt_or_ge k (k1 + 1) with q | q
        · omega
        · obtain rfl : k = k1 + 1 := by omega
          exact absurd hk2 c_34
      refine lv_aload_n hx hb dX5_find_37 rfl (lv_at hl 1 rfl) ?_
      refine lv_iload_n hx hb dX5_find_38 rfl (lv_at hl 2 rfl) ?_
      refine lv_iconst (v := nI 2) hx hb dX5_find_39 (by decide) ?_
      refine lv_aload_n hx hb dX5_find_40 rfl (lv_at hl 1 rfl) ?_
      refine pw_get hx hb hts (fun _ h9 => List.mem_cons_of_mem _ (List.mem_append_right _ h9)) hown hK hP 0 rfl rfl 8 (by decide) hF rfl (hts (.fieldLink RX5 78 "PastDrawsModel" "tried" "I") (List.mem_of_getElem? (i := 1) rfl)) dX5_find_41 ?_
      refine lv_imul hx hb dX5_find_44 ?_
      refine pw_topi (pk_mul _ _) ?_
      refine lv_iconst (v := nI 1) hx hb dX5_find_45 (by decide) ?_
      refine lv_iadd hx hb dX5_find_46 ?_
      refine pw_topi (nI_add _ _) ?_
      refine pw_cv S hK hP 0 5 rfl rfl 2 (c_X5_hash l D cy Ad n mm _ _ C hn hF a (nI ((2 * k) + 1))) gX5_find_X5_hash rfl rfl rfl (by decide +kernel) ⟨Nat.le_of_ble_eq_true rfl, Nat.le_of_ble_eq_true rfl⟩ rfl hl.1 rfl (Nat.le_of_ble_eq_true rfl) dX5_find_47 ⟨Nat.le_refl _, Nat.le_refl _⟩ ?_
      refine lv_i2l hx hb dX5_find_50 rfl ?_
      refine lv_bipush (v := nI 32) hx hb dX5_find_51 (by decide) ?_
      refine lv_lshl hx hb dX5_find_53 rfl ?_
      refine lv_aload_n hx hb dX5_find_54 rfl (lv_at hl 1 rfl) ?_
      refine lv_iload_n hx hb dX5_find_55 rfl (lv_at hl 2 rfl) ?_
      refine lv_iconst (v := nI 2) hx hb dX5_find_56 (by decide) ?_
      refine lv_aload_n hx hb dX5_find_57 rfl (lv_at hl 1 rfl) ?_
      refine pw_get hx hb hts (fun _ h9 => List.mem_cons_of_mem _ (List.mem_append_right _ h9)) hown hK hP 0 rfl rfl 8 (by decide) hF rfl (hts (.fieldLink RX5 78 "PastDrawsModel" "tried" "I") (List.mem_of_getElem? (i := 1) rfl)) dX5_find_58 ?_
      refine lv_imul hx hb dX5_find_61 ?_
      refine pw_topi (pk_mul _ _) ?_
      refine lv_iconst (v := nI 2) hx hb dX5_find_62 (by decide) ?_
      refine lv_iadd hx hb dX5_find_63 ?_
      refine pw_topi (nI_add _ _) ?_
      refine pw_cv S hK hP 0 5 rfl rfl 2 (c_X5_hash l D cy Ad n mm _ _ C hn hF a (nI ((2 * k) + 2))) gX5_find_X5_hash rfl rfl rfl (by decide +kernel) ⟨Nat.le_of_ble_eq_true rfl, Nat.le_of_ble_eq_true rfl⟩ rfl hl.1 rfl (Nat.le_of_ble_eq_true rfl) dX5_find_64 ⟨Nat.le_refl _, Nat.le_refl _⟩ ?_
      refine lv_i2l hx hb dX5_find_67 rfl ?_
      refine lv_ldc2 hx hb hown (hts (.constantLong RX5 85 (4294967295)) (List.mem_of_getElem? (i := 3) rfl)) dX5_find_68 ?_
      refine lv_land hx hb dX5_find_71 ?_
      refine lv_lor hx hb dX5_find_72 ?_
      refine lv_topl (fun x5_73 ex5_73 => ?_)
      refine lv_lstore (lv' := [(5, .long x5_73), (4, .int (nI b)), (0, .ref (Ad 0)), (1, .int a), (2, .long (lN Z))]) hx hb dX5_find_73 hl (by decide) rfl (fun ls hl => ?_)
      refine lv_aload_n hx hb dX5_find_75 rfl (lv_at hl 2 rfl) ?_
      refine lv_iload hx hb dX5_find_76 (lv_at hl 1 rfl) ?_
      refine pn_ifne_n (tgt := 85) hx hb (by omega) dX5_find_78 (by decide) (fun c_78 => ?_) (fun c_78 => ?_)
      · refine lv_lload hx hb dX5_find_85 (lv_at hl 0 rfl) ?_
        refine lv_bipush (v := nI 64) hx hb dX5_find_87 (by decide) ?_
        refine lv_iload hx hb dX5_find_89 (lv_at hl 1 rfl) ?_
        refine lv_isub hx hb dX5_find_91 ?_
        refine pw_topi (pk_sub (by omega)) ?_
        refine lv_lushr hx hb dX5_find_92 rfl ?_
        refine pw_topl (y := tb a k b) (by unfold tb; rw [if_neg c_78, ex5_73]) ?_
        refine pw_put hx hb hts (fun _ h9 => List.mem_cons_of_mem _ (List.mem_append_right _ h9)) tyX5 tyX5_ok nmX5 hown hK hP hI hS 0 rfl rfl 7 (by decide) hF (hts (.fieldLink RX5 81 "PastDrawsModel" "picked" "J") (List.mem_of_getElem? (i := 2) rfl)) rfl (ty := .long) (by decide +kernel) rfl rfl (Nat.le_of_ble_eq_true rfl) dX5_find_93 (fun H locs hP hS => ?_)
        obtain ⟨C93, hC93⟩ : ∃ z9, z9 = pw_setF C 0 ([.int (nI n), .ref (Ad 1), .ref (Ad 2), .ref (Ad 3), .ref (Ad 4), .int (nI mm), .ref (Ad 5), .long (tb a k b), .int (nI k), .ref (Ad 6), .ref (Ad 7), .ref (Ad 8), .ref (Ad 9), .ref (Ad 10), .ref (Ad 11), .ref (Ad 12), .ref (Ad 13), .ref (Ad 14), .ref (Ad 15), .ref (Ad 16)] : List Value) := ⟨_, rfl⟩
        have hP : pw_P D cy Ad shM C93 H := by rw [hC93]; exact hP
        have hF : fM n mm (tb a k b) (nI k) Ad C93 := by rw [hC93]; exact rfl
        have hC : C93.1 = C0.1 ∧ C93.2.1 = C0.2.1 := by rw [hC93]; exact hC
        refine lv_aload_n hx hb dX5_find_96 rfl (lv_at hl 2 rfl) ?_
        refine lv_dup hx hb dX5_find_97 rfl ?_
        refine pw_get hx hb hts (fun _ h9 => List.mem_cons_of_mem _ (List.mem_append_right _ h9)) hown hK hP 0 rfl rfl 8 (by decide) hF rfl (hts (.fieldLink RX5 78 "PastDrawsModel" "tried" "I") (List.mem_of_getElem? (i := 1) rfl)) dX5_find_98 ?_
        refine lv_iconst (v := nI 1) hx hb dX5_find_101 (by decide) ?_
        refine lv_iadd hx hb dX5_find_102 ?_
        refine pw_topi (nI_add _ _) ?_
        refine pw_put hx hb hts (fun _ h9 => List.mem_cons_of_mem _ (List.mem_append_right _ h9)) tyX5 tyX5_ok nmX5 hown hK hP hI hS 0 rfl rfl 8 (by decide) hF (hts (.fieldLink RX5 78 "PastDrawsModel" "tried" "I") (List.mem_of_getElem? (i := 1) rfl)) rfl (ty := .int) (by decide +kernel) rfl rfl (Nat.le_of_ble_eq_true rfl) dX5_find_103 (fun H locs hP hS => ?_)
        obtain ⟨C103, hC103⟩ : ∃ z9, z9 = pw_setF C93 0 ([.int (nI n), .ref (Ad 1), .ref (Ad 2), .ref (Ad 3), .ref (Ad 4), .int (nI mm), .ref (Ad 5), .long (tb a k b), .int (nI (k + 1)), .ref (Ad 6), .ref (Ad 7), .ref (Ad 8), .ref (Ad 9), .ref (Ad 10), .ref (Ad 11), .ref (Ad 12), .ref (Ad 13), .ref (Ad 14), .ref (Ad 15), .ref (Ad 16)] : List Value) := ⟨_, rfl⟩
        have hP : pw_P D cy Ad shM C103 H := by rw [hC103]; exact hP
        have hF : fM n mm (tb a k b) (nI (k + 1)) Ad C103 := by rw [hC103]; exact rfl
        have hC : C103.1 = C0.1 ∧ C103.2.1 = C0.2.1 := by rw [hC103]; exact hC
        refine lv_goto (tgt := 28) hx hb dX5_find_106 (by decide) ?_
        exact ih C103 H locs (k + 1) ls (by omega) hP hS hF hC (by omega) (lv_sub hl [1, 2, 3, 4] rfl)
      · refine lv_lconst (v := 0) hx hb dX5_find_81 (by decide) ?_
        refine pw_topl (y := tb a k b) (by unfold tb; rw [if_pos c_78]) ?_
        refine lv_goto (tgt := 93) hx hb dX5_find_82 (by decide) ?_
        refine pw_put hx hb hts (fun _ h9 => List.mem_cons_of_mem _ (List.mem_append_right _ h9)) tyX5 tyX5_ok nmX5 hown hK hP hI hS 0 rfl rfl 7 (by decide) hF (hts (.fieldLink RX5 81 "PastDrawsModel" "picked" "J") (List.mem_of_getElem? (i := 2) rfl)) rfl (ty := .long) (by decide +kernel) rfl rfl (Nat.le_of_ble_eq_true rfl) dX5_find_93 (fun H locs hP hS => ?_)
        obtain ⟨C93, hC93⟩ : ∃ z9, z9 = pw_setF C 0 ([.int (nI n), .ref (Ad 1), .ref (Ad 2), .ref (Ad 3), .ref (Ad 4), .int (nI mm), .ref (Ad 5), .long (tb a k b), .int (nI k), .ref (Ad 6), .ref (Ad 7), .ref (Ad 8), .ref (Ad 9), .ref (Ad 10), .ref (Ad 11), .ref (Ad 12), .ref (Ad 13), .ref (Ad 14), .ref (Ad 15), .ref (Ad 16)] : List Value) := ⟨_, rfl⟩
        have hP : pw_P D cy Ad shM C93 H := by rw [hC93]; exact hP
        have hF : fM n mm (tb a k b) (nI k) Ad C93 := by rw [hC93]; exact rfl
        have hC : C93.1 = C0.1 ∧ C93.2.1 = C0.2.1 := by rw [hC93]; exact hC
        refine lv_aload_n hx hb dX5_find_96 rfl (lv_at hl 2 rfl) ?_
        refine lv_dup hx hb dX5_find_97 rfl ?_
        refine pw_get hx hb hts (fun _ h9 => List.mem_cons_of_mem _ (List.mem_append_right _ h9)) hown hK hP 0 rfl rfl 8 (by decide) hF rfl (hts (.fieldLink RX5 78 "PastDrawsModel" "tried" "I") (List.mem_of_getElem? (i := 1) rfl)) dX5_find_98 ?_
        refine lv_iconst (v := nI 1) hx hb dX5_find_101 (by decide) ?_
        refine lv_iadd hx hb dX5_find_102 ?_
        refine pw_topi (nI_add _ _) ?_
        refine pw_put hx hb hts (fun _ h9 => List.mem_cons_of_mem _ (List.mem_append_right _ h9)) tyX5 tyX5_ok nmX5 hown hK hP hI hS 0 rfl rfl 8 (by decide) hF (hts (.fieldLink RX5 78 "PastDrawsModel" "tried" "I") (List.mem_of_getElem? (i := 1) rfl)) rfl (ty := .int) (by decide +kernel) rfl rfl (Nat.le_of_ble_eq_true rfl) dX5_find_103 (fun H locs hP hS => ?_)
        obtain ⟨C103, hC103⟩ : ∃ z9, z9 = pw_setF C93 0 ([.int (nI n), .ref (Ad 1), .ref (Ad 2), .ref (Ad 3), .ref (Ad 4), .int (nI mm), .ref (Ad 5), .long (tb a k b), .int (nI (k + 1)), .ref (Ad 6), .ref (Ad 7), .ref (Ad 8), .ref (Ad 9), .ref (Ad 10), .ref (Ad 11), .ref (Ad 12), .ref (Ad 13), .ref (Ad 14), .ref (Ad 15), .ref (Ad 16)] : List Value) := ⟨_, rfl⟩
        have hP : pw_P D cy Ad shM C103 H := by rw [hC103]; exact hP
        have hF : fM n mm (tb a k b) (nI (k + 1)) Ad C103 := by rw [hC103]; exact rfl
        have hC : C103.1 = C0.1 ∧ C103.2.1 = C0.2.1 := by rw [hC103]; exact hC
        refine lv_goto (tgt := 28) hx hb dX5_find_106 (by decide) ?_
        exact ih C103 H locs (k + 1) ls (by omega) hP hS hF hC (by omega) (lv_sub hl [1, 2, 3, 4] rfl)

set_option maxHeartbeats 4000000 in
set_option maxRecDepth 100000 in
theorem c_X5_find (l : Launch) (D : va_G) (cy : Nat → ClassId) (Ad : Nat → Nat) (n mm : Nat) (pk : Int64) (tr : Int32) (C : pw_C) (hI : pw_I Ad shM) (hn : 1 ≤ n ∧ n ≤ 12) (hF : fM n mm pk tr Ad C) (a : Int32) (Z b k1 : Nat) (hZ : Z ≤ 2 ^ 62) (hb0 : b ≤ 62) (hb1 : Z ≤ 2 ^ b) (hb2 : ∀ j, j < b → 2 ^ j < Z) (hk1 : k1 < 1000000) (hk2 : tb a k1 b < lN Z) (hk3 : ∀ j, j < k1 → ¬ tb a j b < lN Z) : Met l yX5_find wsX5_find (k2_rm 1 23) (pw_Pre ([.ref (Ad 0), .int a, .long (lN Z)]) D cy Ad shM C) (pw_Post (fun r9 C' => r9 = none ∧ (fM n mm (tb a k1 b) (nI (k1 + 1)) Ad C' ∧ C'.1 = C.1 ∧ C'.2.1 = C.2.1)) D cy Ad shM) 0 0 (pw_fr Ad shM) := by
  refine Met.ofW (cc := cX5_find) (maxL := 7) (ret := none) (by decide) rfl ?_
  intro p e s m args below meth c s₁ B hml hv
  obtain ⟨rfl, hP, hK⟩ := hv
  have hx := B.exec
  have hb := B.bytes
  have hr := B.returns
  have hts := atoms_spec (ws := wsX5_find) B.pre
  have hown : s.vm.findClass RX5 = some m.cls := findClass_of_methodNamed B.named
  have hlocks := B.notSynchronized
  have S : CallFix p m c cX5_find 7 s ([.ref (Ad 0), .int a, .long (lN Z)]).toArray wsX5_find RX5 := ⟨hx, hb, hml, hown, hts⟩
  change W p l e (k2_rm 1 23) s m _ below meth c s.heap [] 0 0 _ _
  have hl := lv_entry ([.ref (Ad 0), .int a, .long (lN Z)]) (n := 7) (Nat.le_of_ble_eq_true rfl)
  rw [lg_entry_eq]
  generalize (lg_sl ([.ref (Ad 0), .int a, .long (lN Z)]) ++ List.replicate (7 - (lg_sl ([.ref (Ad 0), .int a, .long (lN Z)])).length) Slot.unset).toArray = ls at hl ⊢
  have hl : lv_has ls 7 [(0, .ref (Ad 0)), (1, .int a), (2, .long (lN Z))] := hl
  have hS : va_S (pw_fr Ad shM) s.heap s.heap [] := va_S.rf
  refine lv_iconst (v := nI 0) hx hb dX5_find_0 (by decide) ?_
  refine lv_istore (lv' := [(4, .int (nI 0)), (0, .ref (Ad 0)), (1, .int a), (2, .long (lN Z))]) hx hb dX5_find_1 hl (by decide) rfl (fun ls hl => ?_)
  refine L_find_b S _ a Z b hZ hb0 hb1 hb2 (fun ls hl => ?_) (b + 1) 0 ls (by omega) (by omega) (lv_sub hl [0, 1, 2, 3] rfl)
  have hC : C.1 = C.1 ∧ C.2.1 = C.2.1 := ⟨rfl, rfl⟩
  refine lv_aload_n hx hb dX5_find_18 rfl (lv_at hl 1 rfl) ?_
  refine lv_iconst (v := nI 0) hx hb dX5_find_19 (by decide) ?_
  refine pw_put hx hb hts (fun _ h9 => List.mem_cons_of_mem _ (List.mem_append_right _ h9)) tyX5 tyX5_ok nmX5 hown hK hP hI hS 0 rfl rfl 8 (by decide) hF (hts (.fieldLink RX5 78 "PastDrawsModel" "tried" "I") (List.mem_of_getElem? (i := 1) rfl)) rfl (ty := .int) (by decide +kernel) rfl rfl (Nat.le_of_ble_eq_true rfl) dX5_find_20 (fun H locs hP hS => ?_)
  obtain ⟨C20, hC20⟩ : ∃ z9, z9 = pw_setF C 0 ([.int (nI n), .ref (Ad 1), .ref (Ad 2), .ref (Ad 3), .ref (Ad 4), .int (nI mm), .ref (Ad 5), .long pk, .int (nI 0), .ref (Ad 6), .ref (Ad 7), .ref (Ad 8), .ref (Ad 9), .ref (Ad 10), .ref (Ad 11), .ref (Ad 12), .ref (Ad 13), .ref (Ad 14), .ref (Ad 15), .ref (Ad 16)] : List Value) := ⟨_, rfl⟩
  have hP : pw_P D cy Ad shM C20 H := by rw [hC20]; exact hP
  have hF : fM n mm pk (nI 0) Ad C20 := by rw [hC20]; exact rfl
  have hC : C20.1 = C.1 ∧ C20.2.1 = C.2.1 := by rw [hC20]; exact hC
  refine lv_aload_n hx hb dX5_find_23 rfl (lv_at hl 1 rfl) ?_
  refine lv_lload_n hx hb dX5_find_24 rfl (lv_at hl 3 rfl) ?_
  refine pw_put hx hb hts (fun _ h9 => List.mem_cons_of_mem _ (List.mem_append_right _ h9)) tyX5 tyX5_ok nmX5 hown hK hP hI hS 0 rfl rfl 7 (by decide) hF (hts (.fieldLink RX5 81 "PastDrawsModel" "picked" "J") (List.mem_of_getElem? (i := 2) rfl)) rfl (ty := .long) (by decide +kernel) rfl rfl (Nat.le_of_ble_eq_true rfl) dX5_find_25 (fun H locs hP hS => ?_)
  obtain ⟨C25, hC25⟩ : ∃ z9, z9 = pw_setF C20 0 ([.int (nI n), .ref (Ad 1), .ref (Ad 2), .ref (Ad 3), .ref (Ad 4), .int (nI mm), .ref (Ad 5), .long (lN Z), .int (nI 0), .ref (Ad 6), .ref (Ad 7), .ref (Ad 8), .ref (Ad 9), .ref (Ad 10), .ref (Ad 11), .ref (Ad 12), .ref (Ad 13), .ref (Ad 14), .ref (Ad 15), .ref (Ad 16)] : List Value) := ⟨_, rfl⟩
  have hP : pw_P D cy Ad shM C25 H := by rw [hC25]; exact hP
  have hF : fM n mm (lN Z) (nI 0) Ad C25 := by rw [hC25]; exact rfl
  have hC : C25.1 = C.1 ∧ C25.2.1 = C.2.1 := by rw [hC25]; exact hC
  exact L_find S hK hI hn a Z b k1 hb0 hk1 hk2 hk3 (fun pc9 C9 H9 locs9 ls9 hd9 hP9 hS9 hR9 => W.vret hx hb hr (fun t ht _ => ⟨⟨none, C9, rfl, ⟨rfl, hR9⟩, by rw [ht]; exact hP9⟩, hS9.F ht⟩) hS9.2.2 hd9) (k1 + 2) C25 H locs 0 ls (by omega) hP hS hF hC (by omega) (lv_sub hl [0, 1, 2, 3] rfl)
