def hs_u (x k : Int32) : Int32 := (x.toUInt32 >>> (k.toUInt32 &&& Int32.toUInt32 31)).toInt32
def hs_1 (s t : Int32) : Int32 := s + t * (-1640531527)
def hs_2 (x : Int32) : Int32 := (x ^^^ hs_u x (nI 16)) * (-2048144789)
def hs_3 (x : Int32) : Int32 := (x ^^^ hs_u x (nI 13)) * (-1028477387)
def hs_4 (x : Int32) : Int32 := x ^^^ hs_u x (nI 16)
/-- HASH -/
def hsh (s t : Int32) : Int32 := hs_4 (hs_3 (hs_2 (hs_1 s t)))
/-- the sign of a HASH, as a number -/
def sgn (s t : Int32) : Nat := (hsh s t).toBitVec.toNat / 2 ^ 29
theorem nI_bv (x : Int32) : nI x.toBitVec.toNat = x := by
  apply Int32.toBitVec_inj.mp
  show (Int32.ofNat _).toBitVec = _
  simp
theorem sgn_lt (s t : Int32) : sgn s t < 8 := by
  have h : (hsh s t).toBitVec.toNat < 2 ^ 32 := (hsh s t).toBitVec.isLt
  unfold sgn
  omega
theorem sgn_eq (s t : Int32) : hs_u (hsh s t) (nI 29) = nI (sgn s t) := by
  rw [← nI_bv (hs_u (hsh s t) (nI 29))]
  unfold hs_u sgn
  rw [pk_ushr (hsh s t) (nI 29) 29 (by decide)]
def wi (x lo hi : Int32) : Bool := decide (lo ≤ x ∧ x ≤ hi)
theorem wi_f1 {x lo hi : Int32} (h : x < lo) : nI 0 = pb (wi x lo hi) := by
  have e : wi x lo hi = false := by
    unfold wi
    rw [decide_eq_false_iff_not]
    exact fun q => absurd h (Int32.not_lt.mpr q.1)
  rw [e]; rfl
theorem wi_f2 {x lo hi : Int32} (h : hi < x) : nI 0 = pb (wi x lo hi) := by
  have e : wi x lo hi = false := by
    unfold wi
    rw [decide_eq_false_iff_not]
    exact fun q => absurd h (Int32.not_lt.mpr q.2)
  rw [e]; rfl
theorem wi_t {x lo hi : Int32} (h : ¬ x < lo) (h2 : ¬ hi < x) : nI 1 = pb (wi x lo hi) := by
  have e : wi x lo hi = true := by
    unfold wi
    rw [decide_eq_true_iff]
    exact ⟨Int32.not_lt.mp h, Int32.not_lt.mp h2⟩
  rw [e]; rfl
def wl (x lo hi : Int64) : Bool := decide (lo ≤ x ∧ x ≤ hi)
theorem wl_f1 {x lo hi : Int64} (h : ¬ lo ≤ x) : nI 0 = pb (wl x lo hi) := by
  have e : wl x lo hi = false := by
    unfold wl
    rw [decide_eq_false_iff_not]
    exact fun q => absurd q.1 h
  rw [e]; rfl
theorem wl_f2 {x lo hi : Int64} (h : ¬ x ≤ hi) : nI 0 = pb (wl x lo hi) := by
  have e : wl x lo hi = false := by
    unfold wl
    rw [decide_eq_false_iff_not]
    exact fun q => absurd q.2 h
  rw [e]; rfl
theorem wl_t {x lo hi : Int64} (h : lo ≤ x) (h2 : x ≤ hi) : nI 1 = pb (wl x lo hi) := by
  have e : wl x lo hi = true := by
    unfold wl
    rw [decide_eq_true_iff]
    exact ⟨h, h2⟩
  rw [e]; rfl

set_option maxHeartbeats 4000000 in
set_option maxRecDepth 100000 in
theorem c_X4_mixed (l : Launch) (a t : Int32) : Met l yX4_mixed wsX4_mixed (k2_rm 0 0) (fun v _ => v = ([.int a, .int t]).toArray) (k2_QcV (.int (hsh a t))) 0 0 (fun _ => False) := by
  refine Met.ofW (cc := cX4_mixed) (maxL := 3) (ret := (some .int)) (by decide) rfl ?_
  intro p e s m args below meth c s₁ B hml hv
  obtain rfl := hv
  have hx := B.exec
  have hb := B.bytes
  have hr := B.returns
  have hts := atoms_spec (ws := wsX4_mixed) B.pre
  have hown : s.vm.findClass RX4 = some m.cls := findClass_of_methodNamed B.named
  have hlocks := B.notSynchronized
  have S : CallFix p m c cX4_mixed 3 s ([.int a, .int t]).toArray wsX4_mixed RX4 := ⟨hx, hb, hml, hown, hts⟩
  change W p l e (k2_rm 0 0) s m _ below meth c s.heap [] 0 0 _ _
  have hl := lv_entry ([.int a, .int t]) (n := 3) (Nat.le_of_ble_eq_true rfl)
  rw [lg_entry_eq]
  generalize (lg_sl ([.int a, .int t]) ++ List.replicate (3 - (lg_sl ([.int a, .int t])).length) Slot.unset).toArray = ls at hl ⊢
  have hl : lv_has ls 3 [(0, .int a), (1, .int t)] := hl
  refine lv_iload_n hx hb dX4_mixed_0 rfl (lv_at hl 0 rfl) ?_
  refine lv_iload_n hx hb dX4_mixed_1 rfl (lv_at hl 1 rfl) ?_
  refine lv_ldc hx hb hown (hts (.constant RX4 172 (-1640531527)) (List.mem_of_getElem? (i := 1) rfl)) dX4_mixed_2 ?_
  refine lv_imul hx hb dX4_mixed_4 ?_
  refine lv_iadd hx hb dX4_mixed_5 ?_
  refine lv_topi (fun x2_6 ex2_6 => ?_)
  refine lv_istore_n (lv' := [(2, .int x2_6), (0, .int a), (1, .int t)]) hx hb dX4_mixed_6 rfl hl (by decide) rfl (fun ls hl => ?_)
  refine lv_iload_n hx hb dX4_mixed_7 rfl (lv_at hl 0 rfl) ?_
  refine lv_iload_n hx hb dX4_mixed_8 rfl (lv_at hl 0 rfl) ?_
  refine lv_bipush (v := nI 16) hx hb dX4_mixed_9 (by decide) ?_
  refine lv_iushr (v := hs_u x2_6 (nI 16)) hx hb dX4_mixed_11 rfl ?_
  refine lv_ixor hx hb dX4_mixed_12 ?_
  refine lv_ldc hx hb hown (hts (.constant RX4 173 (-2048144789)) (List.mem_of_getElem? (i := 2) rfl)) dX4_mixed_13 ?_
  refine lv_imul hx hb dX4_mixed_15 ?_
  refine lv_topi (fun x2_16 ex2_16 => ?_)
  refine lv_istore_n (lv' := [(2, .int x2_16), (0, .int a), (1, .int t)]) hx hb dX4_mixed_16 rfl hl (by decide) rfl (fun ls hl => ?_)
  refine lv_iload_n hx hb dX4_mixed_17 rfl (lv_at hl 0 rfl) ?_
  refine lv_iload_n hx hb dX4_mixed_18 rfl (lv_at hl 0 rfl) ?_
  refine lv_bipush (v := nI 13) hx hb dX4_mixed_19 (by decide) ?_
  refine lv_iushr (v := hs_u x2_16 (nI 13)) hx hb dX4_mixed_21 rfl ?_
  refine lv_ixor hx hb dX4_mixed_22 ?_
  refine lv_ldc hx hb hown (hts (.constant RX4 174 (-1028477387)) (List.mem_of_getElem? (i := 3) rfl)) dX4_mixed_23 ?_
  refine lv_imul hx hb dX4_mixed_25 ?_
  refine lv_topi (fun x2_26 ex2_26 => ?_)
  refine lv_istore_n (lv' := [(2, .int x2_26), (0, .int a), (1, .int t)]) hx hb dX4_mixed_26 rfl hl (by decide) rfl (fun ls hl => ?_)
  refine lv_iload_n hx hb dX4_mixed_27 rfl (lv_at hl 0 rfl) ?_
  refine lv_iload_n hx hb dX4_mixed_28 rfl (lv_at hl 0 rfl) ?_
  refine lv_bipush (v := nI 16) hx hb dX4_mixed_29 (by decide) ?_
  refine lv_iushr (v := hs_u x2_26 (nI 16)) hx hb dX4_mixed_31 rfl ?_
  refine lv_ixor hx hb dX4_mixed_32 ?_
  refine pw_topi (y := hsh a t) (by subst ex2_26 ex2_16 ex2_6; rfl) ?_
  exact W.iret hx hb hr (fun t ht _ => ⟨rfl, ht⟩) (fun q h => by cases h) dX4_mixed_33

set_option maxHeartbeats 4000000 in
set_option maxRecDepth 100000 in
theorem c_X4_signAt (l : Launch) (a t : Int32) : Met l yX4_signAt wsX4_signAt (k2_rm 1 22) (fun v _ => v = ([.int a, .int t]).toArray) (k2_QcV (.int (nI (sgn a t)))) 0 0 (fun _ => False) := by
  refine Met.ofW (cc := cX4_signAt) (maxL := 2) (ret := (some .int)) (by decide) rfl ?_
  intro p e s m args below meth c s₁ B hml hv
  obtain rfl := hv
  have hx := B.exec
  have hb := B.bytes
  have hr := B.returns
  have hts := atoms_spec (ws := wsX4_signAt) B.pre
  have hown : s.vm.findClass RX4 = some m.cls := findClass_of_methodNamed B.named
  have hlocks := B.notSynchronized
  have S : CallFix p m c cX4_signAt 2 s ([.int a, .int t]).toArray wsX4_signAt RX4 := ⟨hx, hb, hml, hown, hts⟩
  change W p l e (k2_rm 1 22) s m _ below meth c s.heap [] 0 0 _ _
  have hl := lv_entry ([.int a, .int t]) (n := 2) (Nat.le_of_ble_eq_true rfl)
  rw [lg_entry_eq]
  generalize (lg_sl ([.int a, .int t]) ++ List.replicate (2 - (lg_sl ([.int a, .int t])).length) Slot.unset).toArray = ls at hl ⊢
  have hl : lv_has ls 2 [(0, .int a), (1, .int t)] := hl
  refine lv_iload_n hx hb dX4_signAt_0 rfl (lv_at hl 0 rfl) ?_
  refine lv_iload_n hx hb dX4_signAt_1 rfl (lv_at hl 1 rfl) ?_
  refine pw_cs S 2 (c_X4_mixed l a t) gX4_signAt_X4_mixed rfl rfl rfl (by decide +kernel) ⟨Nat.le_of_ble_eq_true rfl, Nat.le_of_ble_eq_true rfl⟩ rfl hl.1 rfl (Nat.le_of_ble_eq_true rfl) dX4_signAt_2 ⟨Nat.le_refl _, Nat.le_refl _⟩ ?_
  refine lv_bipush (v := nI 29) hx hb dX4_signAt_5 (by decide) ?_
  refine lv_iushr (v := hs_u (hsh a t) (nI 29)) hx hb dX4_signAt_7 rfl ?_
  refine pw_topi (y := nI (sgn a t)) (sgn_eq _ _) ?_
  exact W.iret hx hb hr (fun t ht _ => ⟨rfl, ht⟩) (fun q h => by cases h) dX4_signAt_8

set_option maxHeartbeats 4000000 in
set_option maxRecDepth 100000 in
theorem c_X4_isWithin (l : Launch) (x lo hi : Int32) : Met l yX4_isWithin wsX4_isWithin (k2_rm 0 0) (fun v _ => v = ([.int x, .int lo, .int hi]).toArray) (k2_QcV (.int (pb (wi x lo hi)))) 0 0 (fun _ => False) := by
  refine Met.ofW (cc := cX4_isWithin) (maxL := 3) (ret := (some .boolean)) (by decide) rfl ?_
  intro p e s m args below meth c s₁ B hml hv
  obtain rfl := hv
  have hx := B.exec
  have hb := B.bytes
  have hr := B.returns
  have hts := atoms_spec (ws := wsX4_isWithin) B.pre
  have hown : s.vm.findClass RX4 = some m.cls := findClass_of_methodNamed B.named
  have hlocks := B.notSynchronized
  have S : CallFix p m c cX4_isWithin 3 s ([.int x, .int lo, .int hi]).toArray wsX4_isWithin RX4 := ⟨hx, hb, hml, hown, hts⟩
  change W p l e (k2_rm 0 0) s m _ below meth c s.heap [] 0 0 _ _
  have hl := lv_entry ([.int x, .int lo, .int hi]) (n := 3) (Nat.le_of_ble_eq_true rfl)
  rw [lg_entry_eq]
  generalize (lg_sl ([.int x, .int lo, .int hi]) ++ List.replicate (3 - (lg_sl ([.int x, .int lo, .int hi])).length) Slot.unset).toArray = ls at hl ⊢
  have hl : lv_has ls 3 [(0, .int x), (1, .int lo), (2, .int hi)] := hl
  refine lv_iload_n hx hb dX4_isWithin_0 rfl (lv_at hl 0 rfl) ?_
  refine lv_iload_n hx hb dX4_isWithin_1 rfl (lv_at hl 1 rfl) ?_
  refine lv_icmp_lt (tgt := 14) hx hb dX4_isWithin_2 (by decide) (fun c_2 => ?_) (fun c_2 => ?_)
  · refine lv_iconst (v := nI 0) hx hb dX4_isWithin_14 (by decide) ?_
    refine pw_topi (y := pb (wi x lo hi)) (by first | exact wi_f1 c_2 | exact wi_f2 c_7 | exact wi_t c_2 c_7) ?_
    exact W.zret hx hb hr (pb_nar _) (fun t ht _ => ⟨rfl, ht⟩) (fun q h => by cases h) dX4_isWithin_15
  · refine lv_iload_n hx hb dX4_isWithin_5 rfl (lv_at hl 0 rfl) ?_
    refine lv_iload_n hx hb dX4_isWithin_6 rfl (lv_at hl 2 rfl) ?_
    refine lv_icmp_gt (tgt := 14) hx hb dX4_isWithin_7 (by decide) (fun c_7 => ?_) (fun c_7 => ?_)
    · refine lv_iconst (v := nI 0) hx hb dX4_isWithin_14 (by decide) ?_
      refine pw_topi (y := pb (wi x lo hi)) (by first | exact wi_f1 c_2 | exact wi_f2 c_7 | exact wi_t c_2 c_7) ?_
      exact W.zret hx hb hr (pb_nar _) (fun t ht _ => ⟨rfl, ht⟩) (fun q h => by cases h) dX4_isWithin_15
    · refine lv_iconst (v := nI 1) hx hb dX4_isWithin_10 (by decide) ?_
      refine lv_goto (tgt := 15) hx hb dX4_isWithin_11 (by decide) ?_
      refine pw_topi (y := pb (wi x lo hi)) (by first | exact wi_f1 c_2 | exact wi_f2 c_7 | exact wi_t c_2 c_7) ?_
      exact W.zret hx hb hr (pb_nar _) (fun t ht _ => ⟨rfl, ht⟩) (fun q h => by cases h) dX4_isWithin_15

set_option maxHeartbeats 4000000 in
set_option maxRecDepth 100000 in
theorem c_X4_isBound (l : Launch) (x : Int64) : Met l yX4_isBound wsX4_isBound (k2_rm 0 0) (fun v _ => v = ([.long x]).toArray) (k2_QcV (.int (pb (wl x 1 4611686018427387904)))) 0 0 (fun _ => False) := by
  refine Met.ofW (cc := cX4_isBound) (maxL := 2) (ret := (some .boolean)) (by decide) rfl ?_
  intro p e s m args below meth c s₁ B hml hv
  obtain rfl := hv
  have hx := B.exec
  have hb := B.bytes
  have hr := B.returns
  have hts := atoms_spec (ws := wsX4_isBound) B.pre
  have hown : s.vm.findClass RX4 = some m.cls := findClass_of_methodNamed B.named
  have hlocks := B.notSynchronized
  have S : CallFix p m c cX4_isBound 2 s ([.long x]).toArray wsX4_isBound RX4 := ⟨hx, hb, hml, hown, hts⟩
  change W p l e (k2_rm 0 0) s m _ below meth c s.heap [] 0 0 _ _
  have hl := lv_entry ([.long x]) (n := 2) (Nat.le_of_ble_eq_true rfl)
  rw [lg_entry_eq]
  generalize (lg_sl ([.long x]) ++ List.replicate (2 - (lg_sl ([.long x])).length) Slot.unset).toArray = ls at hl ⊢
  have hl : lv_has ls 2 [(0, .long x)] := hl
  refine lv_lload_n hx hb dX4_isBound_0 rfl (lv_at hl 0 rfl) ?_
  refine lv_lconst (v := 1) hx hb dX4_isBound_1 (by decide) ?_
  refine W.lcmp hx hb dX4_isBound_2 ?_
  refine pn_lif_lt (tgt := 18) hx hb dX4_isBound_3 (by decide) (fun c_3 => ?_) (fun c_3 => ?_)
  · refine lv_iconst (v := nI 0) hx hb dX4_isBound_18 (by decide) ?_
    refine pw_topi (y := pb (wl x 1 4611686018427387904)) (by first | exact wl_f1 (Int64.not_le.mpr c_3) | exact wl_f2 (Int64.not_le.mpr c_11) | exact wl_t (Int64.not_lt.mp c_3) (Int64.not_lt.mp c_11)) ?_
    exact W.zret hx hb hr (pb_nar _) (fun t ht _ => ⟨rfl, ht⟩) (fun q h => by cases h) dX4_isBound_19
  · refine lv_lload_n hx hb dX4_isBound_6 rfl (lv_at hl 0 rfl) ?_
    refine lv_ldc2 hx hb hown (hts (.constantLong RX4 170 (4611686018427387904)) (List.mem_of_getElem? (i := 1) rfl)) dX4_isBound_7 ?_
    refine W.lcmp hx hb dX4_isBound_10 ?_
    refine pn_lif_gt (tgt := 18) hx hb dX4_isBound_11 (by decide) (fun c_11 => ?_) (fun c_11 => ?_)
    · refine lv_iconst (v := nI 0) hx hb dX4_isBound_18 (by decide) ?_
      refine pw_topi (y := pb (wl x 1 4611686018427387904)) (by first | exact wl_f1 (Int64.not_le.mpr c_3) | exact wl_f2 (Int64.not_le.mpr c_11) | exact wl_t (Int64.not_lt.mp c_3) (Int64.not_lt.mp c_11)) ?_
      exact W.zret hx hb hr (pb_nar _) (fun t ht _ => ⟨rfl, ht⟩) (fun q h => by cases h) dX4_isBound_19
    · refine lv_iconst (v := nI 1) hx hb dX4_isBound_14 (by decide) ?_
      refine lv_goto (tgt := 19) hx hb dX4_isBound_15 (by decide) ?_
      refine pw_topi (y := pb (wl x 1 4611686018427387904)) (by first | exact wl_f1 (Int64.not_le.mpr c_3) | exact wl_f2 (Int64.not_le.mpr c_11) | exact wl_t (Int64.not_lt.mp c_3) (Int64.not_lt.mp c_11)) ?_
      exact W.zret hx hb hr (pb_nar _) (fun t ht _ => ⟨rfl, ht⟩) (fun q h => by cases h) dX4_isBound_19
