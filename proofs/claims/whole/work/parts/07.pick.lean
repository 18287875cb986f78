theorem pl_1 : (1 : Int64) = lN 1 := by decide
theorem pl_shl1 {j : Nat} (hj : j < 64) : (1 : Int64) <<< ((nI j).toInt64 &&& 63) = lN (2 ^ j) := by
  rw [pl_1, wb_shl 1 hj, Nat.one_mul]
theorem pow62 {j : Nat} (h : j ≤ 62) : 2 ^ j < 2 ^ 63 := Nat.pow_lt_pow_right (by decide) (by omega)

set_option maxHeartbeats 4000000 in
set_option maxRecDepth 100000 in
theorem L_bitsFor {p : Program} {l : Launch} {e : Env} {s : State} {m : MethodId} {args : Array Value} {below : List Frame} {meth : Method} {c : Code} {H : Heap} {locs : List Loc} {Q : State → Prop} (S : CallFix p m c cX4_bitsFor 3 s args wsX4_bitsFor RX4)  (N b : Nat) (hN : N ≤ 2 ^ 62) (hb0 : b ≤ 62) (hb1 : N ≤ 2 ^ b) (hb2 : ∀ j, j < b → 2 ^ j < N) (hk : ∀ ls, lv_has ls 3 [(2, .int (nI b)), (0, .long (lN N))] → W p l e (k2_rm 0 0) s m args below meth c H locs 0 0 Q (F0 m 22 ls [])) : ∀ (f : Nat) (j : Nat) (ls : Array Slot), b - j < f → j ≤ b → lv_has ls 3 [(2, .int (nI j)), (0, .long (lN N))] → W p l e (k2_rm 0 0) s m args below meth c H locs 0 0 Q (F0 m 2 ls []) := by
  have hx := S.1
  have hb := S.2.1
  have hml := S.2.2.1
  have hown := S.2.2.2.1
  have hts := S.2.2.2.2
  intro f
  induction f with
  | zero => intro j ls hf; exact absurd hf (Nat.not_lt_zero _)
  | succ f ih =>
    intro j ls hf hj hl
    refine lv_iload_n hx hb dX4_bitsFor_2 rfl (lv_at hl 0 rfl) ?_
    refine lv_bipush (v := nI 62) hx hb dX4_bitsFor_3 (by decide) ?_
    refine pn_icmp_ge (tgt := 22) hx hb (by omega) (by omega) dX4_bitsFor_5 (by decide) (fun c_5 => ?_) (fun c_5 => ?_)
    · obtain rfl : j = b := by omega
      exact hk ls (lv_sub hl [0, 1] rfl)
    · have hp := pow62 (j := j) (by omega)
      refine lv_lconst (v := 1) hx hb dX4_bitsFor_8 (by decide) ?_
      refine lv_iload_n hx hb dX4_bitsFor_9 rfl (lv_at hl 0 rfl) ?_
      refine lv_lshl hx hb dX4_bitsFor_10 rfl ?_
      refine pw_topl (y := lN (2 ^ j)) (pl_shl1 (by omega)) ?_
      refine lv_lload_n hx hb dX4_bitsFor_11 rfl (lv_at hl 1 rfl) ?_
      refine W.lcmp hx hb dX4_bitsFor_12 ?_
      refine pn_lif_ge (tgt := 22) hx hb dX4_bitsFor_13 (by decide) (fun c_13 => ?_) (fun c_13 => ?_)
      · rw [pk_lLE (by omega) hp] at c_13
        have hjb : j = b := by
          rcases Nat.lt_or_ge j b with q | q
          · have := hb2 j q; omega
          · omega
        subst hjb
        exact hk ls (lv_sub hl [0, 1] rfl)
      · rw [pk_lLE (by omega) hp] at c_13
        have hjb : j < b := by
          rcases Nat.lt_or_ge j b with q | q
          · exact q
          · have : j = b := by omega
            subst this; omega
        refine lv_iinc (v := nI (j + 1)) (lv' := [(2, .int (nI (j + 1))), (0, .long (lN N))]) hx hb dX4_bitsFor_16 hl (k := 0) rfl (nI_add _ 1) (by decide) rfl (fun ls hl => ?_)
        refine lv_goto (tgt := 2) hx hb dX4_bitsFor_19 (by decide) ?_
        exact ih (j + 1) ls (by omega) (by omega) (lv_sub hl [0, 1] rfl)

set_option maxHeartbeats 4000000 in
set_option maxRecDepth 100000 in
theorem c_X4_bitsFor (l : Launch) (N b : Nat) (hN : N ≤ 2 ^ 62) (hb0 : b ≤ 62) (hb1 : N ≤ 2 ^ b) (hb2 : ∀ j, j < b → 2 ^ j < N) : Met l yX4_bitsFor wsX4_bitsFor (k2_rm 0 0) (fun v _ => v = ([.long (lN N)]).toArray) (k2_QcV (.int (nI b))) 0 0 (fun _ => False) := by
  refine Met.ofW (cc := cX4_bitsFor) (maxL := 3) (ret := (some .int)) (by decide) rfl ?_
  intro p e s m args below meth c s₁ B hml hv
  obtain rfl := hv
  have hx := B.exec
  have hb := B.bytes
  have hr := B.returns
  have hts := atoms_spec (ws := wsX4_bitsFor) B.pre
  have hown : s.vm.findClass RX4 = some m.cls := findClass_of_methodNamed B.named
  have hlocks := B.notSynchronized
  have S : CallFix p m c cX4_bitsFor 3 s ([.long (lN N)]).toArray wsX4_bitsFor RX4 := ⟨hx, hb, hml, hown, hts⟩
  change W p l e (k2_rm 0 0) s m _ below meth c s.heap [] 0 0 _ _
  have hl := lv_entry ([.long (lN N)]) (n := 3) (Nat.le_of_ble_eq_true rfl)
  rw [lg_entry_eq]
  generalize (lg_sl ([.long (lN N)]) ++ List.replicate (3 - (lg_sl ([.long (lN N)])).length) Slot.unset).toArray = ls at hl ⊢
  have hl : lv_has ls 3 [(0, .long (lN N))] := hl
  refine lv_iconst (v := nI 0) hx hb dX4_bitsFor_0 (by decide) ?_
  refine lv_istore_n (lv' := [(2, .int (nI 0)), (0, .long (lN N))]) hx hb dX4_bitsFor_1 rfl hl (by decide) rfl (fun ls hl => ?_)
  refine L_bitsFor S N b hN hb0 hb1 hb2 (fun ls hl => ?_) (b + 1) 0 ls (by omega) (by omega) (lv_sub hl [0, 1] rfl)
  refine lv_iload_n hx hb dX4_bitsFor_22 rfl (lv_at hl 0 rfl) ?_
  exact W.iret hx hb hr (fun t ht _ => ⟨rfl, ht⟩) (fun q h => by cases h) dX4_bitsFor_23

/-- the highest b bits of the long that two HASHES make -/
def tb (a : Int32) (k b : Nat) : Int64 := if b = 0 then 0 else ((((hsh a (nI (2 * k + 1))).toInt64 <<< ((nI 32).toInt64 &&& 63)) ||| ((hsh a (nI (2 * k + 2))).toInt64 &&& 4294967295)).toUInt64 >>> ((nI (64 - b)).toInt64.toUInt64 &&& Int64.toUInt64 63)).toInt64

set_option maxHeartbeats 4000000 in
set_option maxRecDepth 100000 in
theorem c_X4_topBits (l : Launch) (a : Int32) (k b : Nat) (hb0 : b ≤ 62) : Met l yX4_topBits wsX4_topBits (k2_rm 1 22) (fun v _ => v = ([.int a, .int (nI k), .int (nI b)]).toArray) (k2_QcV (.long (tb a k b))) 0 0 (fun _ => False) := by
  refine Met.ofW (cc := cX4_topBits) (maxL := 7) (ret := (some .long)) (by decide) rfl ?_
  intro p e s m args below meth c s₁ B hml hv
  obtain rfl := hv
  have hx := B.exec
  have hb := B.bytes
  have hr := B.returns
  have hts := atoms_spec (ws := wsX4_topBits) B.pre
  have hown : s.vm.findClass RX4 = some m.cls := findClass_of_methodNamed B.named
  have hlocks := B.notSynchronized
  have S : CallFix p m c cX4_topBits 7 s ([.int a, .int (nI k), .int (nI b)]).toArray wsX4_topBits RX4 := ⟨hx, hb, hml, hown, hts⟩
  change W p l e (k2_rm 1 22) s m _ below meth c s.heap [] 0 0 _ _
  have hl := lv_entry ([.int a, .int (nI k), .int (nI b)]) (n := 7) (Nat.le_of_ble_eq_true rfl)
  rw [lg_entry_eq]
  generalize (lg_sl ([.int a, .int (nI k), .int (nI b)]) ++ List.replicate (7 - (lg_sl ([.int a, .int (nI k), .int (nI b)])).length) Slot.unset).toArray = ls at hl ⊢
  have hl : lv_has ls 7 [(0, .int a), (1, .int (nI k)), (2, .int (nI b))] := hl
  refine lv_iload_n hx hb dX4_topBits_0 rfl (lv_at hl 2 rfl) ?_
  refine pn_ifne_n (tgt := 6) hx hb (by omega) dX4_topBits_1 (by decide) (fun c_1 => ?_) (fun c_1 => ?_)
  · refine lv_iload_n hx hb dX4_topBits_6 rfl (lv_at hl 0 rfl) ?_
    refine lv_iconst (v := nI 2) hx hb dX4_topBits_7 (by decide) ?_
    refine lv_iload_n hx hb dX4_topBits_8 rfl (lv_at hl 1 rfl) ?_
    refine lv_imul hx hb dX4_topBits_9 ?_
    refine pw_topi (pk_mul _ _) ?_
    refine lv_iconst (v := nI 1) hx hb dX4_topBits_10 (by decide) ?_
    refine lv_iadd hx hb dX4_topBits_11 ?_
    refine pw_topi (nI_add _ _) ?_
    refine pw_cs S 2 (c_X4_mixed l a (nI ((2 * k) + 1))) gX4_topBits_X4_mixed rfl rfl rfl (by decide +kernel) ⟨Nat.le_of_ble_eq_true rfl, Nat.le_of_ble_eq_true rfl⟩ rfl hl.1 rfl (Nat.le_of_ble_eq_true rfl) dX4_topBits_12 ⟨Nat.le_refl _, Nat.le_refl _⟩ ?_
    refine lv_i2l hx hb dX4_topBits_15 rfl ?_
    refine lv_bipush (v := nI 32) hx hb dX4_topBits_16 (by decide) ?_
    refine lv_lshl hx hb dX4_topBits_18 rfl ?_
    refine lv_topl (fun x3_19 ex3_19 => ?_)
    refine lv_lstore_n (lv' := [(3, .long x3_19), (0, .int a), (1, .int (nI k)), (2, .int (nI b))]) hx hb dX4_topBits_19 rfl hl (by decide) rfl (fun ls hl => ?_)
    refine lv_iload_n hx hb dX4_topBits_20 rfl (lv_at hl 1 rfl) ?_
    refine lv_iconst (v := nI 2) hx hb dX4_topBits_21 (by decide) ?_
    refine lv_iload_n hx hb dX4_topBits_22 rfl (lv_at hl 2 rfl) ?_
    refine lv_imul hx hb dX4_topBits_23 ?_
    refine pw_topi (pk_mul _ _) ?_
    refine lv_iconst (v := nI 2) hx hb dX4_topBits_24 (by decide) ?_
    refine lv_iadd hx hb dX4_topBits_25 ?_
    refine pw_topi (nI_add _ _) ?_
    refine pw_cs S 2 (c_X4_mixed l a (nI ((2 * k) + 2))) gX4_topBits_X4_mixed rfl rfl rfl (by decide +kernel) ⟨Nat.le_of_ble_eq_true rfl, Nat.le_of_ble_eq_true rfl⟩ rfl hl.1 rfl (Nat.le_of_ble_eq_true rfl) dX4_topBits_26 ⟨Nat.le_refl _, Nat.le_refl _⟩ ?_
    refine lv_i2l hx hb dX4_topBits_29 rfl ?_
    refine lv_ldc2 hx hb hown (hts (.constantLong RX4 175 (4294967295)) (List.mem_of_getElem? (i := 1) rfl)) dX4_topBits_30 ?_
    refine lv_land hx hb dX4_topBits_33 ?_
    refine lv_topl (fun x5_34 ex5_34 => ?_)
    refine lv_lstore (lv' := [(5, .long x5_34), (3, .long x3_19), (0, .int a), (1, .int (nI k)), (2, .int (nI b))]) hx hb dX4_topBits_34 hl (by decide) rfl (fun ls hl => ?_)
    refine lv_lload_n hx hb dX4_topBits_36 rfl (lv_at hl 1 rfl) ?_
    refine lv_lload hx hb dX4_topBits_37 (lv_at hl 0 rfl) ?_
    refine lv_lor hx hb dX4_topBits_39 ?_
    refine lv_bipush (v := nI 64) hx hb dX4_topBits_40 (by decide) ?_
    refine lv_iload_n hx hb dX4_topBits_42 rfl (lv_at hl 4 rfl) ?_
    refine lv_isub hx hb dX4_topBits_43 ?_
    refine pw_topi (pk_sub (by omega)) ?_
    refine lv_lushr hx hb dX4_topBits_44 rfl ?_
    refine pw_topl (y := tb a k b) (by first | (subst c_1; rfl) | (unfold tb; rw [if_neg c_1]; subst ex3_19 ex5_34; rfl)) ?_
    exact W.lret hx hb hr (fun t ht _ => ⟨rfl, ht⟩) (fun q h => by cases h) dX4_topBits_45
  · refine lv_lconst (v := 0) hx hb dX4_topBits_4 (by decide) ?_
    refine pw_topl (y := tb a k b) (by first | (subst c_1; rfl) | (unfold tb; rw [if_neg c_1]; subst ex3_19 ex5_34; rfl)) ?_
    exact W.lret hx hb hr (fun t ht _ => ⟨rfl, ht⟩) (fun q h => by cases h) dX4_topBits_5

set_option maxHeartbeats 4000000 in
set_option maxRecDepth 100000 in
theorem L_firstBelow {p : Program} {l : Launch} {e : Env} {s : State} {m : MethodId} {args : Array Value} {below : List Frame} {meth : Method} {c : Code} {H : Heap} {locs : List Loc} {Q : State → Prop} (S : CallFix p m c cX4_firstBelow 5 s args wsX4_firstBelow RX4)  (a : Int32) (n : Int64) (k b : Nat) (hb0 : b ≤ 62) (hk0 : k < 1000000) (hk1 : tb a k b < n) (hk2 : ∀ j, j < k → ¬ tb a j b < n) (hk : ∀ ls, lv_has ls 5 [(4, .int (nI k))] → W p l e (k2_rm 2 48) s m args below meth c H locs 0 0 Q (F0 m 28 ls [])) : ∀ (f : Nat) (j : Nat) (ls : Array Slot), k - j < f → j ≤ k → lv_has ls 5 [(4, .int (nI j)), (0, .int a), (1, .long n), (3, .int (nI b))] → W p l e (k2_rm 2 48) s m args below meth c H locs 0 0 Q (F0 m 3 ls []) := by
  have hx := S.1
  have hb := S.2.1
  have hml := S.2.2.1
  have hown := S.2.2.2.1
  have hts := S.2.2.2.2
  intro f
  induction f with
  | zero => intro j ls hf; exact absurd hf (Nat.not_lt_zero _)
  | succ f ih =>
    intro j ls hf hj hl
    refine lv_iload hx hb dX4_firstBelow_3 (lv_at hl 0 rfl) ?_
    refine lv_ldc hx hb hown (hts (.constant RX4 177 (1000000)) (List.mem_of_getElem? (i := 1) rfl)) dX4_firstBelow_5 ?_
    refine pw_topi (y := nI 1000000) (by decide) ?_
    refine pn_icmp_ge (tgt := 28) hx hb (by omega) (by omega) dX4_firstBelow_7 (by decide) (fun c_7 => absurd c_7 (by omega)) (fun c_7 => ?_)
    refine lv_iload_n hx hb dX4_firstBelow_10 rfl (lv_at hl 1 rfl) ?_
    refine lv_iload hx hb dX4_firstBelow_11 (lv_at hl 0 rfl) ?_
    refine lv_iload_n hx hb dX4_firstBelow_13 rfl (lv_at hl 3 rfl) ?_
    refine pw_cs S 3 (c_X4_topBits l a j b hb0) gX4_firstBelow_X4_topBits rfl rfl rfl (by decide +kernel) ⟨Nat.le_of_ble_eq_true rfl, Nat.le_of_ble_eq_true rfl⟩ rfl hl.1 rfl (Nat.le_of_ble_eq_true rfl) dX4_firstBelow_14 ⟨Nat.le_refl _, Nat.le_refl _⟩ ?_
    refine lv_lload_n hx hb dX4_firstBelow_17 rfl (lv_at hl 2 rfl) ?_
    refine W.lcmp hx hb dX4_firstBelow_18 ?_
    refine pn_lif_lt (tgt := 28) hx hb dX4_firstBelow_19 (by decide) (fun c_19 => ?_) (fun c_19 => ?_)
    · have hjk : j = k := by
        rcases Nat.lt_or_ge j k with q | q
        · exact absurd c_19 (hk2 j q)
        · omega
      subst hjk
      exact hk ls (lv_sub hl [0] rfl)
    · have hjk : j < k := by
        rcases Nat.lt_or_ge j k with q | q
        · exact q
        · have : j = k := by omega
          subst this; exact absurd hk1 c_19
      refine lv_iinc (v := nI (j + 1)) (lv' := [(4, .int (nI (j + 1))), (0, .int a), (1, .long n), (3, .int (nI b))]) hx hb dX4_firstBelow_22 hl (k := 0) rfl (nI_add _ 1) (by decide) rfl (fun ls hl => ?_)
      refine lv_goto (tgt := 3) hx hb dX4_firstBelow_25 (by decide) ?_
      exact ih (j + 1) ls (by omega) (by omega) (lv_sub hl [0, 1, 2, 3] rfl)

set_option maxHeartbeats 4000000 in
set_option maxRecDepth 100000 in
theorem c_X4_firstBelow (l : Launch) (a : Int32) (n : Int64) (k b : Nat) (hb0 : b ≤ 62) (hk0 : k < 1000000) (hk1 : tb a k b < n) (hk2 : ∀ j, j < k → ¬ tb a j b < n) : Met l yX4_firstBelow wsX4_firstBelow (k2_rm 2 48) (fun v _ => v = ([.int a, .long n, .int (nI b)]).toArray) (k2_QcV (.int (nI k))) 0 0 (fun _ => False) := by
  refine Met.ofW (cc := cX4_firstBelow) (maxL := 5) (ret := (some .int)) (by decide) rfl ?_
  intro p e s m args below meth c s₁ B hml hv
  obtain rfl := hv
  have hx := B.exec
  have hb := B.bytes
  have hr := B.returns
  have hts := atoms_spec (ws := wsX4_firstBelow) B.pre
  have hown : s.vm.findClass RX4 = some m.cls := findClass_of_methodNamed B.named
  have hlocks := B.notSynchronized
  have S : CallFix p m c cX4_firstBelow 5 s ([.int a, .long n, .int (nI b)]).toArray wsX4_firstBelow RX4 := ⟨hx, hb, hml, hown, hts⟩
  change W p l e (k2_rm 2 48) s m _ below meth c s.heap [] 0 0 _ _
  have hl := lv_entry ([.int a, .long n, .int (nI b)]) (n := 5) (Nat.le_of_ble_eq_true rfl)
  rw [lg_entry_eq]
  generalize (lg_sl ([.int a, .long n, .int (nI b)]) ++ List.replicate (5 - (lg_sl ([.int a, .long n, .int (nI b)])).length) Slot.unset).toArray = ls at hl ⊢
  have hl : lv_has ls 5 [(0, .int a), (1, .long n), (3, .int (nI b))] := hl
  refine lv_iconst (v := nI 0) hx hb dX4_firstBelow_0 (by decide) ?_
  refine lv_istore (lv' := [(4, .int (nI 0)), (0, .int a), (1, .long n), (3, .int (nI b))]) hx hb dX4_firstBelow_1 hl (by decide) rfl (fun ls hl => ?_)
  refine L_firstBelow S a n k b hb0 hk0 hk1 hk2 (fun ls hl => ?_) (k + 1) 0 ls (by omega) (by omega) (lv_sub hl [0, 1, 2, 3] rfl)
  refine lv_iload hx hb dX4_firstBelow_28 (lv_at hl 0 rfl) ?_
  exact W.iret hx hb hr (fun t ht _ => ⟨rfl, ht⟩) (fun q h => by cases h) dX4_firstBelow_30

/-- the first of 1, 2, 4, .. from p on that is x or more, or 4096 or more -/
def pwF : Nat → Nat → Nat → Nat
  | 0, p, _ => p
  | f + 1, p, x => if p < x ∧ p < 4096 then pwF f (p * 2) x else p
def pw2 (x : Nat) : Nat := pwF 13 1 x

set_option maxHeartbeats 4000000 in
set_option maxRecDepth 100000 in
theorem L_powerFrom {p : Program} {l : Launch} {e : Env} {s : State} {m : MethodId} {args : Array Value} {below : List Frame} {meth : Method} {c : Code} {H : Heap} {locs : List Loc} {Q : State → Prop} (S : CallFix p m c cX4_powerFrom 2 s args wsX4_powerFrom RX4) (x : Nat) (hx0 : x ≤ 4096) : ∀ (f q : Nat) (ls : Array Slot), (∀ ls, lv_has ls 2 [(1, .int (nI (pwF f q x)))] → W p l e (k2_rm 0 0) s m args below meth c H locs 0 0 Q (F0 m 21 ls [])) → q < 8192 → 8192 ≤ q * 2 ^ f → lv_has ls 2 [(1, .int (nI q)), (0, .int (nI x))] → W p l e (k2_rm 0 0) s m args below meth c H locs 0 0 Q (F0 m 2 ls []) := by
  have hx := S.1
  have hb := S.2.1
  intro f
  induction f with
  | zero => intro q ls hk h1 h2 hl; omega
  | succ f ih =>
    intro q ls hk h1 h2 hl
    rw [Nat.pow_succ, Nat.mul_comm (2 ^ f), ← Nat.mul_assoc] at h2
    refine lv_iload_n hx hb dX4_powerFrom_2 rfl (lv_at hl 0 rfl) ?_
    refine lv_iload_n hx hb dX4_powerFrom_3 rfl (lv_at hl 1 rfl) ?_
    refine pn_icmp_ge (tgt := 21) hx hb (by omega) (by omega) dX4_powerFrom_4 (by decide) (fun c_4 => ?_) (fun c_4 => ?_)
    · rw [pwF, if_neg (by omega)] at hk
      exact hk ls (lv_sub hl [0] rfl)
    · refine lv_iload_n hx hb dX4_powerFrom_7 rfl (lv_at hl 0 rfl) ?_
      refine lv_sipush (v := nI 4096) hx hb dX4_powerFrom_8 (by decide) ?_
      refine pn_icmp_ge (tgt := 21) hx hb (by omega) (by omega) dX4_powerFrom_11 (by decide) (fun c_11 => ?_) (fun c_11 => ?_)
      · rw [pwF, if_neg (by omega)] at hk
        exact hk ls (lv_sub hl [0] rfl)
      · rw [pwF, if_pos (by omega)] at hk
        refine lv_iload_n hx hb dX4_powerFrom_14 rfl (lv_at hl 0 rfl) ?_
        refine lv_iconst (v := nI 2) hx hb dX4_powerFrom_15 (by decide) ?_
        refine lv_imul hx hb dX4_powerFrom_16 ?_
        refine pw_topi (pk_mul _ _) ?_
        refine lv_istore_n (lv' := [(1, .int (nI (q * 2))), (0, .int (nI x))]) hx hb dX4_powerFrom_17 rfl hl (by decide) rfl (fun ls hl => ?_)
        refine lv_goto (tgt := 2) hx hb dX4_powerFrom_18 (by decide) ?_
        exact ih (q * 2) ls hk (by omega) h2 (lv_sub hl [0, 1] rfl)

set_option maxHeartbeats 4000000 in
set_option maxRecDepth 100000 in
theorem c_X4_powerFrom (l : Launch) (x : Nat) (hx0 : x ≤ 4096) : Met l yX4_powerFrom wsX4_powerFrom (k2_rm 0 0) (fun v _ => v = ([.int (nI x)]).toArray) (k2_QcV (.int (nI (pw2 x)))) 0 0 (fun _ => False) := by
  refine Met.ofW (cc := cX4_powerFrom) (maxL := 2) (ret := (some .int)) (by decide) rfl ?_
  intro p e s m args below meth c s₁ B hml hv
  obtain rfl := hv
  have hx := B.exec
  have hb := B.bytes
  have hr := B.returns
  have hts := atoms_spec (ws := wsX4_powerFrom) B.pre
  have hown : s.vm.findClass RX4 = some m.cls := findClass_of_methodNamed B.named
  have hlocks := B.notSynchronized
  have S : CallFix p m c cX4_powerFrom 2 s ([.int (nI x)]).toArray wsX4_powerFrom RX4 := ⟨hx, hb, hml, hown, hts⟩
  change W p l e (k2_rm 0 0) s m _ below meth c s.heap [] 0 0 _ _
  have hl := lv_entry ([.int (nI x)]) (n := 2) (Nat.le_of_ble_eq_true rfl)
  rw [lg_entry_eq]
  generalize (lg_sl ([.int (nI x)]) ++ List.replicate (2 - (lg_sl ([.int (nI x)])).length) Slot.unset).toArray = ls at hl ⊢
  have hl : lv_has ls 2 [(0, .int (nI x))] := hl
  refine lv_iconst (v := nI 1) hx hb dX4_powerFrom_0 (by decide) ?_
  refine lv_istore_n (lv' := [(1, .int (nI 1)), (0, .int (nI x))]) hx hb dX4_powerFrom_1 rfl hl (by decide) rfl (fun ls hl => ?_)
  refine L_powerFrom S x hx0 13 1 ls (fun ls hl => ?_) (by decide) (by decide) (lv_sub hl [0, 1] rfl)
  refine lv_iload_n hx hb dX4_powerFrom_21 rfl (lv_at hl 0 rfl) ?_
  refine pw_topi (y := nI (pw2 x)) rfl ?_
  exact W.iret hx hb hr (fun t ht _ => ⟨rfl, ht⟩) (fun q h => by cases h) dX4_powerFrom_22
