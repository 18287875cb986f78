theorem nI_nm1 {x : Nat} (h : x < 2 ^ 31) : ¬ nI x ≤ (-1) := fun q => by
  rw [Int32.le_iff_toInt_le, nI_toInt h] at q
  have : (-1 : Int32).toInt = -1 := by decide
  omega
theorem mn_lt {n : Nat} {nx : Nat → Nat → Nat} {u lo : Nat} (h : ∀ x, x < n → nx u x < n) (k : Nat) (hk : lo + k < n) : mnF nx u lo k < n := Nat.lt_of_le_of_lt (mn_mx nx u lo k) (mx_lt h k hk)
theorem bnd_lt {n : Nat} {nx : Nat → Nat → Nat} {C : pw_C} (hN : rN n nx C) {a : Int32} : ∀ t lo hi, lo ≤ hi → hi < n → (bnd nx a t lo hi).1 ≤ (bnd nx a t lo hi).2 ∧ (bnd nx a t lo hi).2 < n := by
  intro t
  induction t with
  | zero => intro lo hi h1 h2; exact ⟨h1, h2⟩
  | succ t ih =>
    intro lo hi h1 h2
    unfold bnd
    exact ih _ _ (mn_mx _ _ _ _) (mx_lt (fun x hx => (hN _ (sgn_lt _ _) x hx).1) _ (by omega))

set_option maxHeartbeats 4000000 in
set_option maxRecDepth 100000 in
theorem L5_bound {p : Program} {l : Launch} {e : Env} {s : State} {m : MethodId} {args : Array Value} {below : List Frame} {meth : Method} {c : Code} {H : Heap} {locs : List Loc} {Q : State → Prop} (S : CallFix p m c cX5_bound 8 s args wsX5_bound RX5) {D : va_G} {cy : Nat → ClassId} {Ad : Nat → Nat} {n mm : Nat} {pk : Int64} {tr : Int32} {C : pw_C} (hK : pw_K D cy s) (hP : pw_P D cy Ad shM C H) (hF : fM n mm pk tr Ad C) (hn : 1 ≤ n ∧ n ≤ 12) {nx : Nat → Nat → Nat} (hN : rN n nx C) (u lo g : Nat) (hu : u < 8) (hg : lo + g < n) (hq : ∀ (pc9 : Nat) (ls : Array Slot), decode cX5_bound pc9 = .ok (.ireturn, 1) → W p l e (k2_rm 0 0) s m args below meth c H locs 0 0 Q (F0 m pc9 ls [.int (nI (12 * mnF nx u lo g + mxF nx u lo g))])) : ∀ (f : Nat) (k : Nat) (ls : Array Slot), g - k < f → (k ≤ g) → lv_has ls 8 [(6, .int (nI (lo + k + 1))), (5, .int (nI (mxF nx u lo k))), (4, .int (nI (mnF nx u lo k))), (0, .ref (Ad 0)), (2, .int (nI (lo + g))), (3, .int (nI u))] → W p l e (k2_rm 0 0) s m args below meth c H locs 0 0 Q (F0 m 12 ls []) := by
  have hx := S.1
  have hb := S.2.1
  have hml := S.2.2.1
  have hown := S.2.2.2.1
  have hts := S.2.2.2.2
  intro f
  induction f with
  | zero => intro k ls hf; exact absurd hf (Nat.not_lt_zero _)
  | succ f ih =>
    intro k ls hf hk0 hl
    have m1 := mn_mx nx u lo k
    have m2 := mx_lt (fun x hx => (hN u hu x hx).1) k (show lo + k < n by omega)
    refine lv_iload hx hb dX5_bound_12 (lv_at hl 0 rfl) ?_
    refine lv_iload_n hx hb dX5_bound_14 rfl (lv_at hl 4 rfl) ?_
    refine pn_icmp_gt (tgt := 70) hx hb (by omega) (by omega) dX5_bound_15 (by decide) (fun c_15 => ?_) (fun c_15 => ?_)
    · obtain rfl : k = g := by omega
      refine lv_bipush (v := nI 12) hx hb dX5_bound_70 (by decide) ?_
      refine lv_iload hx hb dX5_bound_72 (lv_at hl 2 rfl) ?_
      refine lv_imul hx hb dX5_bound_74 ?_
      refine pw_topi (pk_mul _ _) ?_
      refine lv_iload hx hb dX5_bound_75 (lv_at hl 1 rfl) ?_
      refine lv_iadd hx hb dX5_bound_77 ?_
      refine pw_topi (nI_add _ _) ?_
      exact hq _ ls dX5_bound_78
    · refine lv_aload_n hx hb dX5_bound_18 rfl (lv_at hl 3 rfl) ?_
      refine pw_get hx hb hts (fun _ h9 => List.mem_cons_of_mem _ (List.mem_append_right _ h9)) hown hK hP 0 rfl rfl 1 (by decide) hF rfl (hts (.fieldLink RX5 7 "PastDrawsModel" "rules" "[I") (List.mem_of_getElem? (i := 2) rfl)) dX5_bound_19 ?_
      refine lv_bipush (v := nI 8) hx hb dX5_bound_22 (by decide) ?_
      refine lv_iload hx hb dX5_bound_24 (lv_at hl 0 rfl) ?_
      refine lv_imul hx hb dX5_bound_26 ?_
      refine pw_topi (pk_mul _ _) ?_
      refine lv_iload_n hx hb dX5_bound_27 rfl (lv_at hl 5 rfl) ?_
      refine lv_iadd hx hb dX5_bound_28 ?_
      refine pw_topi (nI_add _ _) ?_
      have hu_29 : u < 8 := (by first | exact sgn_lt _ _ | omega)
      have hx_29 : (lo + k + 1) < n := (by first | exact sgn_lt _ _ | omega)
      have q_29 : nx u (lo + k + 1) < n := (hN _ hu_29 _ hx_29).1
      refine pw_iald hx hb hK hP 1 rfl (by omega) (by decide) (v := nI (nx u (lo + k + 1))) (hN _ hu_29 _ hx_29).2 dX5_bound_29 ?_
      refine lv_istore (lv' := [(7, .int (nI (nx u (lo + k + 1)))), (6, .int (nI (lo + k + 1))), (5, .int (nI (mxF nx u lo k))), (4, .int (nI (mnF nx u lo k))), (0, .ref (Ad 0)), (2, .int (nI (lo + g))), (3, .int (nI u))]) hx hb dX5_bound_30 hl (by decide) rfl (fun ls hl => ?_)
      refine lv_iload hx hb dX5_bound_32 (lv_at hl 0 rfl) ?_
      refine lv_iload hx hb dX5_bound_34 (lv_at hl 3 rfl) ?_
      refine pn_icmp_ge (tgt := 44) hx hb (by omega) (by omega) dX5_bound_36 (by decide) (fun c_36 => ?_) (fun c_36 => ?_)
      · refine lv_iload hx hb dX5_bound_44 (lv_at hl 3 rfl) ?_
        refine lv_istore (lv' := [(4, .int (nI (mnF nx u lo k))), (7, .int (nI (nx u (lo + k + 1)))), (6, .int (nI (lo + k + 1))), (5, .int (nI (mxF nx u lo k))), (0, .ref (Ad 0)), (2, .int (nI (lo + g))), (3, .int (nI u))]) hx hb dX5_bound_46 hl (by decide) rfl (fun ls hl => ?_)
        refine lv_iload hx hb dX5_bound_48 (lv_at hl 1 rfl) ?_
        refine lv_iload hx hb dX5_bound_50 (lv_at hl 3 rfl) ?_
        refine pn_icmp_le (tgt := 60) hx hb (by omega) (by omega) dX5_bound_52 (by decide) (fun c_52 => ?_) (fun c_52 => ?_)
        · refine lv_iload hx hb dX5_bound_60 (lv_at hl 3 rfl) ?_
          refine lv_istore (lv' := [(5, .int (nI (mxF nx u lo k))), (4, .int (nI (mnF nx u lo k))), (7, .int (nI (nx u (lo + k + 1)))), (6, .int (nI (lo + k + 1))), (0, .ref (Ad 0)), (2, .int (nI (lo + g))), (3, .int (nI u))]) hx hb dX5_bound_62 hl (by decide) rfl (fun ls hl => ?_)
          refine lv_iinc (v := nI ((lo + k + 1) + 1)) (lv' := [(6, .int (nI ((lo + k + 1) + 1))), (5, .int (nI (mxF nx u lo k))), (4, .int (nI (mnF nx u lo k))), (7, .int (nI (nx u (lo + k + 1)))), (0, .ref (Ad 0)), (2, .int (nI (lo + g))), (3, .int (nI u))]) hx hb dX5_bound_64 hl (k := 3) rfl (nI_add _ 1) (by decide) rfl (fun ls hl => ?_)
          refine lv_goto (tgt := 12) hx hb dX5_bound_67 (by decide) ?_
          have e4 : mnF nx u lo (k + 1) = mnF nx u lo k := by
            show min (mnF nx u lo k) (nx u (lo + k + 1)) = _
            omega
          have e5 : mxF nx u lo (k + 1) = mxF nx u lo k := by
            show max (mxF nx u lo k) (nx u (lo + k + 1)) = _
            omega
          exact ih (k + 1) ls (by omega) (by omega) (by rw [e4, e5]; exact (lv_sub hl [0, 1, 2, 4, 5, 6] rfl))
        · refine lv_iload hx hb dX5_bound_55 (lv_at hl 1 rfl) ?_
          refine lv_goto (tgt := 62) hx hb dX5_bound_57 (by decide) ?_
          refine lv_istore (lv' := [(5, .int (nI (nx u (lo + k + 1)))), (4, .int (nI (mnF nx u lo k))), (7, .int (nI (nx u (lo + k + 1)))), (6, .int (nI (lo + k + 1))), (0, .ref (Ad 0)), (2, .int (nI (lo + g))), (3, .int (nI u))]) hx hb dX5_bound_62 hl (by decide) rfl (fun ls hl => ?_)
          refine lv_iinc (v := nI ((lo + k + 1) + 1)) (lv' := [(6, .int (nI ((lo + k + 1) + 1))), (5, .int (nI (nx u (lo + k + 1)))), (4, .int (nI (mnF nx u lo k))), (7, .int (nI (nx u (lo + k + 1)))), (0, .ref (Ad 0)), (2, .int (nI (lo + g))), (3, .int (nI u))]) hx hb dX5_bound_64 hl (k := 3) rfl (nI_add _ 1) (by decide) rfl (fun ls hl => ?_)
          refine lv_goto (tgt := 12) hx hb dX5_bound_67 (by decide) ?_
          have e4 : mnF nx u lo (k + 1) = mnF nx u lo k := by
            show min (mnF nx u lo k) (nx u (lo + k + 1)) = _
            omega
          have e5 : mxF nx u lo (k + 1) = nx u (lo + k + 1) := by
            show max (mxF nx u lo k) (nx u (lo + k + 1)) = _
            omega
          exact ih (k + 1) ls (by omega) (by omega) (by rw [e4, e5]; exact (lv_sub hl [0, 1, 2, 4, 5, 6] rfl))
      · refine lv_iload hx hb dX5_bound_39 (lv_at hl 0 rfl) ?_
        refine lv_goto (tgt := 46) hx hb dX5_bound_41 (by decide) ?_
        refine lv_istore (lv' := [(4, .int (nI (nx u (lo + k + 1)))), (7, .int (nI (nx u (lo + k + 1)))), (6, .int (nI (lo + k + 1))), (5, .int (nI (mxF nx u lo k))), (0, .ref (Ad 0)), (2, .int (nI (lo + g))), (3, .int (nI u))]) hx hb dX5_bound_46 hl (by decide) rfl (fun ls hl => ?_)
        refine lv_iload hx hb dX5_bound_48 (lv_at hl 1 rfl) ?_
        refine lv_iload hx hb dX5_bound_50 (lv_at hl 3 rfl) ?_
        refine pn_icmp_le (tgt := 60) hx hb (by omega) (by omega) dX5_bound_52 (by decide) (fun c_52 => ?_) (fun c_52 => ?_)
        · refine lv_iload hx hb dX5_bound_60 (lv_at hl 3 rfl) ?_
          refine lv_istore (lv' := [(5, .int (nI (mxF nx u lo k))), (4, .int (nI (nx u (lo + k + 1)))), (7, .int (nI (nx u (lo + k + 1)))), (6, .int (nI (lo + k + 1))), (0, .ref (Ad 0)), (2, .int (nI (lo + g))), (3, .int (nI u))]) hx hb dX5_bound_62 hl (by decide) rfl (fun ls hl => ?_)
          refine lv_iinc (v := nI ((lo + k + 1) + 1)) (lv' := [(6, .int (nI ((lo + k + 1) + 1))), (5, .int (nI (mxF nx u lo k))), (4, .int (nI (nx u (lo + k + 1)))), (7, .int (nI (nx u (lo + k + 1)))), (0, .ref (Ad 0)), (2, .int (nI (lo + g))), (3, .int (nI u))]) hx hb dX5_bound_64 hl (k := 3) rfl (nI_add _ 1) (by decide) rfl (fun ls hl => ?_)
          refine lv_goto (tgt := 12) hx hb dX5_bound_67 (by decide) ?_
          have e4 : mnF nx u lo (k + 1) = nx u (lo + k + 1) := by
            show min (mnF nx u lo k) (nx u (lo + k + 1)) = _
            omega
          have e5 : mxF nx u lo (k + 1) = mxF nx u lo k := by
            show max (mxF nx u lo k) (nx u (lo + k + 1)) = _
            omega
          exact ih (k + 1) ls (by omega) (by omega) (by rw [e4, e5]; exact (lv_sub hl [0, 1, 2, 4, 5, 6] rfl))
        · refine lv_iload hx hb dX5_bound_55 (lv_at hl 1 rfl) ?_
          refine lv_goto (tgt := 62) hx hb dX5_bound_57 (by decide) ?_
          refine lv_istore (lv' := [(5, .int (nI (nx u (lo + k + 1)))), (4, .int (nI (nx u (lo + k + 1)))), (7, .int (nI (nx u (lo + k + 1)))), (6, .int (nI (lo + k + 1))), (0, .ref (Ad 0)), (2, .int (nI (lo + g))), (3, .int (nI u))]) hx hb dX5_bound_62 hl (by decide) rfl (fun ls hl => ?_)
          refine lv_iinc (v := nI ((lo + k + 1) + 1)) (lv' := [(6, .int (nI ((lo + k + 1) + 1))), (5, .int (nI (nx u (lo + k + 1)))), (4, .int (nI (nx u (lo + k + 1)))), (7, .int (nI (nx u (lo + k + 1)))), (0, .ref (Ad 0)), (2, .int (nI (lo + g))), (3, .int (nI u))]) hx hb dX5_bound_64 hl (k := 3) rfl (nI_add _ 1) (by decide) rfl (fun ls hl => ?_)
          refine lv_goto (tgt := 12) hx hb dX5_bound_67 (by decide) ?_
          have e4 : mnF nx u lo (k + 1) = nx u (lo + k + 1) := by
            show min (mnF nx u lo k) (nx u (lo + k + 1)) = _
            omega
          have e5 : mxF nx u lo (k + 1) = nx u (lo + k + 1) := by
            show max (mxF nx u lo k) (nx u (lo + k + 1)) = _
            omega
          exact ih (k + 1) ls (by omega) (by omega) (by rw [e4, e5]; exact (lv_sub hl [0, 1, 2, 4, 5, 6] rfl))

set_option maxHeartbeats 4000000 in
set_option maxRecDepth 100000 in
theorem c_X5_bound (l : Launch) (D : va_G) (cy : Nat → ClassId) (Ad : Nat → Nat) (n mm : Nat) (pk : Int64) (tr : Int32) (C : pw_C) (hn : 1 ≤ n ∧ n ≤ 12) (hF : fM n mm pk tr Ad C) (nx : Nat → Nat → Nat) (hN : rN n nx C) (lo g u : Nat) (hu : u < 8) (hg : lo + g < n) : Met l yX5_bound wsX5_bound (k2_rm 0 0) (pw_Pre ([.ref (Ad 0), .int (nI lo), .int (nI (lo + g)), .int (nI u)]) D cy Ad shM C) (k2_QcV (.int (nI (12 * mnF nx u lo g + mxF nx u lo g)))) 0 0 (fun _ => False) := by
  refine Met.ofW (cc := cX5_bound) (maxL := 8) (ret := (some .int)) (by decide) rfl ?_
  intro p e s m args below meth c s₁ B hml hv
  obtain ⟨rfl, hP, hK⟩ := hv
  have hx := B.exec
  have hb := B.bytes
  have hr := B.returns
  have hts := atoms_spec (ws := wsX5_bound) B.pre
  have hown : s.vm.findClass RX5 = some m.cls := findClass_of_methodNamed B.named
  have hlocks := B.notSynchronized
  have S : CallFix p m c cX5_bound 8 s ([.ref (Ad 0), .int (nI lo), .int (nI (lo + g)), .int (nI u)]).toArray wsX5_bound RX5 := ⟨hx, hb, hml, hown, hts⟩
  change W p l e (k2_rm 0 0) s m _ below meth c s.heap [] 0 0 _ _
  have hl := lv_entry ([.ref (Ad 0), .int (nI lo), .int (nI (lo + g)), .int (nI u)]) (n := 8) (Nat.le_of_ble_eq_true rfl)
  rw [lg_entry_eq]
  generalize (lg_sl ([.ref (Ad 0), .int (nI lo), .int (nI (lo + g)), .int (nI u)]) ++ List.replicate (8 - (lg_sl ([.ref (Ad 0), .int (nI lo), .int (nI (lo + g)), .int (nI u)])).length) Slot.unset).toArray = ls at hl ⊢
  have hl : lv_has ls 8 [(0, .ref (Ad 0)), (1, .int (nI lo)), (2, .int (nI (lo + g))), (3, .int (nI u))] := hl
  refine lv_aload_n hx hb dX5_bound_0 rfl (lv_at hl 0 rfl) ?_
  refine pw_get hx hb hts (fun _ h9 => List.mem_cons_of_mem _ (List.mem_append_right _ h9)) hown hK hP 0 rfl rfl 0 (by decide) hF rfl (hts (.fieldLink RX5 64 "PastDrawsModel" "n" "I") (List.mem_of_getElem? (i := 1) rfl)) dX5_bound_1 ?_
  refine lv_istore (lv' := [(4, .int (nI n)), (0, .ref (Ad 0)), (1, .int (nI lo)), (2, .int (nI (lo + g))), (3, .int (nI u))]) hx hb dX5_bound_4 hl (by decide) rfl (fun ls hl => ?_)
  refine lv_iconst (v := (-1)) hx hb dX5_bound_6 (by decide) ?_
  refine lv_istore (lv' := [(5, .int (-1)), (4, .int (nI n)), (0, .ref (Ad 0)), (1, .int (nI lo)), (2, .int (nI (lo + g))), (3, .int (nI u))]) hx hb dX5_bound_7 hl (by decide) rfl (fun ls hl => ?_)
  refine lv_iload_n hx hb dX5_bound_9 rfl (lv_at hl 3 rfl) ?_
  refine lv_istore (lv' := [(6, .int (nI lo)), (5, .int (-1)), (4, .int (nI n)), (0, .ref (Ad 0)), (1, .int (nI lo)), (2, .int (nI (lo + g))), (3, .int (nI u))]) hx hb dX5_bound_10 hl (by decide) rfl (fun ls hl => ?_)
  refine lv_iload hx hb dX5_bound_12 (lv_at hl 0 rfl) ?_
  refine lv_iload_n hx hb dX5_bound_14 rfl (lv_at hl 5 rfl) ?_
  refine pn_icmp_gt (tgt := 70) hx hb (by omega) (by omega) dX5_bound_15 (by decide) (fun c_15 => absurd c_15 (by omega)) (fun c_15 => ?_)
  refine lv_aload_n hx hb dX5_bound_18 rfl (lv_at hl 3 rfl) ?_
  refine pw_get hx hb hts (fun _ h9 => List.mem_cons_of_mem _ (List.mem_append_right _ h9)) hown hK hP 0 rfl rfl 1 (by decide) hF rfl (hts (.fieldLink RX5 7 "PastDrawsModel" "rules" "[I") (List.mem_of_getElem? (i := 2) rfl)) dX5_bound_19 ?_
  refine lv_bipush (v := nI 8) hx hb dX5_bound_22 (by decide) ?_
  refine lv_iload hx hb dX5_bound_24 (lv_at hl 0 rfl) ?_
  refine lv_imul hx hb dX5_bound_26 ?_
  refine pw_topi (pk_mul _ _) ?_
  refine lv_iload_n hx hb dX5_bound_27 rfl (lv_at hl 6 rfl) ?_
  refine lv_iadd hx hb dX5_bound_28 ?_
  refine pw_topi (nI_add _ _) ?_
  have hu_29 : u < 8 := (by first | exact sgn_lt _ _ | omega)
  have hx_29 : lo < n := (by first | exact sgn_lt _ _ | omega)
  have q_29 : nx u lo < n := (hN _ hu_29 _ hx_29).1
  refine pw_iald hx hb hK hP 1 rfl (by omega) (by decide) (v := nI (nx u lo)) (hN _ hu_29 _ hx_29).2 dX5_bound_29 ?_
  refine lv_istore (lv' := [(7, .int (nI (nx u lo))), (6, .int (nI lo)), (5, .int (-1)), (4, .int (nI n)), (0, .ref (Ad 0)), (1, .int (nI lo)), (2, .int (nI (lo + g))), (3, .int (nI u))]) hx hb dX5_bound_30 hl (by decide) rfl (fun ls hl => ?_)
  refine lv_iload hx hb dX5_bound_32 (lv_at hl 0 rfl) ?_
  refine lv_iload hx hb dX5_bound_34 (lv_at hl 3 rfl) ?_
  refine pn_icmp_ge (tgt := 44) hx hb (by omega) (by omega) dX5_bound_36 (by decide) (fun c_36 => absurd c_36 (by omega)) (fun c_36 => ?_)
  refine lv_iload hx hb dX5_bound_39 (lv_at hl 0 rfl) ?_
  refine lv_goto (tgt := 46) hx hb dX5_bound_41 (by decide) ?_
  refine lv_istore (lv' := [(4, .int (nI (nx u lo))), (7, .int (nI (nx u lo))), (6, .int (nI lo)), (5, .int (-1)), (0, .ref (Ad 0)), (1, .int (nI lo)), (2, .int (nI (lo + g))), (3, .int (nI u))]) hx hb dX5_bound_46 hl (by decide) rfl (fun ls hl => ?_)
  refine lv_iload hx hb dX5_bound_48 (lv_at hl 1 rfl) ?_
  refine lv_iload hx hb dX5_bound_50 (lv_at hl 3 rfl) ?_
  refine lv_icmp_le (tgt := 60) hx hb dX5_bound_52 (by decide) (fun c_52 => absurd c_52 (nI_nm1 (by omega))) (fun c_52 => ?_)
  refine lv_iload hx hb dX5_bound_55 (lv_at hl 1 rfl) ?_
  refine lv_goto (tgt := 62) hx hb dX5_bound_57 (by decide) ?_
  refine lv_istore (lv' := [(5, .int (nI (nx u lo))), (4, .int (nI (nx u lo))), (7, .int (nI (nx u lo))), (6, .int (nI lo)), (0, .ref (Ad 0)), (1, .int (nI lo)), (2, .int (nI (lo + g))), (3, .int (nI u))]) hx hb dX5_bound_62 hl (by decide) rfl (fun ls hl => ?_)
  refine lv_iinc (v := nI (lo + 1)) (lv' := [(6, .int (nI (lo + 1))), (5, .int (nI (nx u lo))), (4, .int (nI (nx u lo))), (7, .int (nI (nx u lo))), (0, .ref (Ad 0)), (1, .int (nI lo)), (2, .int (nI (lo + g))), (3, .int (nI u))]) hx hb dX5_bound_64 hl (k := 3) rfl (nI_add _ 1) (by decide) rfl (fun ls hl => ?_)
  refine lv_goto (tgt := 12) hx hb dX5_bound_67 (by decide) ?_
  exact L5_bound S hK hP hF hn hN u lo g hu hg (fun pc9 ls hd9 => W.iret hx hb hr (fun t ht _ => ⟨rfl, ht⟩) (fun q h => by cases h) hd9) (g + 1) 0 ls (by omega) (by omega) (lv_sub hl [0, 1, 2, 4, 6, 7] rfl)

set_option maxHeartbeats 4000000 in
set_option maxRecDepth 100000 in
theorem L5_mono_in {p : Program} {l : Launch} {e : Env} {s : State} {m : MethodId} {args : Array Value} {below : List Frame} {meth : Method} {c : Code} {H : Heap} {locs : List Loc} {Q : State → Prop} (S : CallFix p m c cX5_monotone 4 s args wsX5_monotone RX5) {D : va_G} {cy : Nat → ClassId} {Ad : Nat → Nat} {n mm : Nat} {pk : Int64} {tr : Int32} {C : pw_C} (hK : pw_K D cy s) (hP : pw_P D cy Ad shM C H) (hF : fM n mm pk tr Ad C) (hn : 1 ≤ n ∧ n ≤ 12) {nx : Nat → Nat → Nat} (hN : rN n nx C) (u : Nat) (hu : u < 8) (hk : ∀ (bb : Bool) (ls : Array Slot), (bb = true ↔ ∀ u9, u9 < u + 1 → ∀ x9, x9 < n - 1 → nx u9 x9 ≤ nx u9 (x9 + 1)) → lv_has ls 4 [(1, .int (pb bb)), (2, .int (nI u)), (0, .ref (Ad 0))] → W p l e (k2_rm 0 0) s m args below meth c H locs 0 0 Q (F0 m 64 ls [])) : ∀ (f : Nat) (x : Nat) (bb : Bool) (ls : Array Slot), n - x < f → (x ≤ n ∧ 1 ≤ x) → (bb = true ↔ (∀ u9, u9 < u → ∀ x9, x9 < n - 1 → nx u9 x9 ≤ nx u9 (x9 + 1)) ∧ (∀ x9, x9 + 1 < x → nx u x9 ≤ nx u (x9 + 1))) → lv_has ls 4 [(1, .int (pb bb)), (3, .int (nI x)), (2, .int (nI u)), (0, .ref (Ad 0))] → W p l e (k2_rm 0 0) s m args below meth c H locs 0 0 Q (F0 m 12 ls []) := by
  have hx := S.1
  have hb := S.2.1
  have hml := S.2.2.1
  have hown := S.2.2.2.1
  have hts := S.2.2.2.2
  intro f
  induction f with
  | zero => intro x bb ls hf; exact absurd hf (Nat.not_lt_zero _)
  | succ f ih =>
    intro x bb ls hf hx0 hb9 hl
    refine lv_iload_n hx hb dX5_monotone_12 rfl (lv_at hl 1 rfl) ?_
    refine lv_aload_n hx hb dX5_monotone_13 rfl (lv_at hl 3 rfl) ?_
    refine pw_get hx hb hts (fun _ h9 => List.mem_cons_of_mem _ (List.mem_append_right _ h9)) hown hK hP 0 rfl rfl 0 (by decide) hF rfl (hts (.fieldLink RX5 64 "PastDrawsModel" "n" "I") (List.mem_of_getElem? (i := 1) rfl)) dX5_monotone_14 ?_
    refine pn_icmp_ge (tgt := 64) hx hb (by omega) (by omega) dX5_monotone_17 (by decide) (fun c_17 => ?_) (fun c_17 => ?_)
    · exact hk bb ls (hb9.trans ⟨fun h => fun u9 h9 => by
        rcases Nat.lt_or_ge u9 u with q | q
        · exact h.1 u9 q
        · obtain rfl : u9 = u := by omega
          exact fun x9 hx9 => h.2 x9 (by omega), fun h => ⟨fun u9 h9 => h u9 (by omega), fun x9 h9 => h u (by omega) x9 (by omega)⟩⟩) (lv_sub hl [0, 2, 3] rfl)
    · refine lv_iload_n hx hb dX5_monotone_20 rfl (lv_at hl 0 rfl) ?_
      refine pn_ifeq_b (tgt := 56) hx hb dX5_monotone_21 (by decide) (fun c_21 => ?_) (fun c_21 => ?_)
      · refine lv_iconst (v := nI 0) hx hb dX5_monotone_56 (by decide) ?_
        refine lv_istore_n (lv' := [(1, .int (nI 0)), (3, .int (nI x)), (2, .int (nI u)), (0, .ref (Ad 0))]) hx hb dX5_monotone_57 rfl hl (by decide) rfl (fun ls hl => ?_)
        refine lv_iinc (v := nI (x + 1)) (lv' := [(3, .int (nI (x + 1))), (1, .int (nI 0)), (2, .int (nI u)), (0, .ref (Ad 0))]) hx hb dX5_monotone_58 hl (k := 1) rfl (nI_add _ 1) (by decide) rfl (fun ls hl => ?_)
        refine lv_goto (tgt := 12) hx hb dX5_monotone_61 (by decide) ?_
        exact ih (x + 1) false ls (by omega) (by omega) (by
          rw [c_21] at hb9
          have h8 := mt hb9.mpr (by decide)
          exact ⟨fun h => (by cases h), fun h => absurd ⟨h.1, fun x9 h9 => h.2 x9 (by omega)⟩ h8⟩) (lv_sub hl [1, 0, 2, 3] rfl)
      · refine lv_aload_n hx hb dX5_monotone_24 rfl (lv_at hl 3 rfl) ?_
        refine pw_get hx hb hts (fun _ h9 => List.mem_cons_of_mem _ (List.mem_append_right _ h9)) hown hK hP 0 rfl rfl 1 (by decide) hF rfl (hts (.fieldLink RX5 7 "PastDrawsModel" "rules" "[I") (List.mem_of_getElem? (i := 2) rfl)) dX5_monotone_25 ?_
        refine lv_bipush (v := nI 8) hx hb dX5_monotone_28 (by decide) ?_
        refine lv_iload_n hx hb dX5_monotone_30 rfl (lv_at hl 1 rfl) ?_
        refine lv_imul hx hb dX5_monotone_31 ?_
        refine pw_topi (pk_mul _ _) ?_
        refine lv_bipush (v := nI 8) hx hb dX5_monotone_32 (by decide) ?_
        refine lv_isub hx hb dX5_monotone_34 ?_
        refine pw_topi (pk_sub (by omega)) ?_
        refine lv_iload_n hx hb dX5_monotone_35 rfl (lv_at hl 2 rfl) ?_
        refine lv_iadd hx hb dX5_monotone_36 ?_
        refine pw_topi (nI_add _ _) ?_
        have q8 := (hN u (by omega) (x - 1) (by omega)).1
        refine pw_iald hx hb hK hP 1 rfl (by omega) (by decide) (v := nI (nx u (x - 1))) (by have h9 := (hN u (by omega) (x - 1) (by omega)).2; rw [show 8 * (x - 1) + u = 8 * x - 8 + u by omega] at h9; exact h9) dX5_monotone_37 ?_
        refine lv_aload_n hx hb dX5_monotone_38 rfl (lv_at hl 3 rfl) ?_
        refine pw_get hx hb hts (fun _ h9 => List.mem_cons_of_mem _ (List.mem_append_right _ h9)) hown hK hP 0 rfl rfl 1 (by decide) hF rfl (hts (.fieldLink RX5 7 "PastDrawsModel" "rules" "[I") (List.mem_of_getElem? (i := 2) rfl)) dX5_monotone_39 ?_
        refine lv_bipush (v := nI 8) hx hb dX5_monotone_42 (by decide) ?_
        refine lv_iload_n hx hb dX5_monotone_44 rfl (lv_at hl 1 rfl) ?_
        refine lv_imul hx hb dX5_monotone_45 ?_
        refine pw_topi (pk_mul _ _) ?_
        refine lv_iload_n hx hb dX5_monotone_46 rfl (lv_at hl 2 rfl) ?_
        refine lv_iadd hx hb dX5_monotone_47 ?_
        refine pw_topi (nI_add _ _) ?_
        have hu_48 : u < 8 := (by first | exact sgn_lt _ _ | omega)
        have hx_48 : x < n := (by first | exact sgn_lt _ _ | omega)
        have q_48 : nx u x < n := (hN _ hu_48 _ hx_48).1
        refine pw_iald hx hb hK hP 1 rfl (by omega) (by decide) (v := nI (nx u x)) (hN _ hu_48 _ hx_48).2 dX5_monotone_48 ?_
        refine pn_icmp_gt (tgt := 56) hx hb (by omega) (by omega) dX5_monotone_49 (by decide) (fun c_49 => ?_) (fun c_49 => ?_)
        · refine lv_iconst (v := nI 0) hx hb dX5_monotone_56 (by decide) ?_
          refine lv_istore_n (lv' := [(1, .int (nI 0)), (3, .int (nI x)), (2, .int (nI u)), (0, .ref (Ad 0))]) hx hb dX5_monotone_57 rfl hl (by decide) rfl (fun ls hl => ?_)
          refine lv_iinc (v := nI (x + 1)) (lv' := [(3, .int (nI (x + 1))), (1, .int (nI 0)), (2, .int (nI u)), (0, .ref (Ad 0))]) hx hb dX5_monotone_58 hl (k := 1) rfl (nI_add _ 1) (by decide) rfl (fun ls hl => ?_)
          refine lv_goto (tgt := 12) hx hb dX5_monotone_61 (by decide) ?_
          exact ih (x + 1) false ls (by omega) (by omega) ⟨fun h => (by cases h), fun h => by
            have h8 := h.2 (x - 1) (by omega)
            rw [show x - 1 + 1 = x by omega] at h8
            omega⟩ (lv_sub hl [1, 0, 2, 3] rfl)
        · refine lv_iconst (v := nI 1) hx hb dX5_monotone_52 (by decide) ?_
          refine lv_goto (tgt := 57) hx hb dX5_monotone_53 (by decide) ?_
          refine lv_istore_n (lv' := [(1, .int (nI 1)), (3, .int (nI x)), (2, .int (nI u)), (0, .ref (Ad 0))]) hx hb dX5_monotone_57 rfl hl (by decide) rfl (fun ls hl => ?_)
          refine lv_iinc (v := nI (x + 1)) (lv' := [(3, .int (nI (x + 1))), (1, .int (nI 1)), (2, .int (nI u)), (0, .ref (Ad 0))]) hx hb dX5_monotone_58 hl (k := 1) rfl (nI_add _ 1) (by decide) rfl (fun ls hl => ?_)
          refine lv_goto (tgt := 12) hx hb dX5_monotone_61 (by decide) ?_
          exact ih (x + 1) true ls (by omega) (by omega) ⟨fun _ => ⟨(hb9.mp c_21).1, fun x9 h9 => by
            rcases Nat.lt_or_ge (x9 + 1) x with q | q
            · exact (hb9.mp c_21).2 x9 q
            · obtain rfl : x = x9 + 1 := by omega
              exact c_49⟩, fun _ => rfl⟩ (lv_sub hl [1, 0, 2, 3] rfl)

set_option maxHeartbeats 4000000 in
set_option maxRecDepth 100000 in
theorem L5_mono {p : Program} {l : Launch} {e : Env} {s : State} {m : MethodId} {args : Array Value} {below : List Frame} {meth : Method} {c : Code} {H : Heap} {locs : List Loc} {Q : State → Prop} (S : CallFix p m c cX5_monotone 4 s args wsX5_monotone RX5) {D : va_G} {cy : Nat → ClassId} {Ad : Nat → Nat} {n mm : Nat} {pk : Int64} {tr : Int32} {C : pw_C} (hK : pw_K D cy s) (hP : pw_P D cy Ad shM C H) (hF : fM n mm pk tr Ad C) (hn : 1 ≤ n ∧ n ≤ 12) {nx : Nat → Nat → Nat} (hN : rN n nx C)  (hq : ∀ (pc9 : Nat) (ls : Array Slot), decode cX5_monotone pc9 = .ok (.ireturn, 1) → W p l e (k2_rm 0 0) s m args below meth c H locs 0 0 Q (F0 m pc9 ls [.int (pb (ko n nx))])) : ∀ (f : Nat) (u : Nat) (bb : Bool) (ls : Array Slot), 8 - u < f → (u ≤ 8) → (bb = true ↔ ∀ u9, u9 < u → ∀ x9, x9 < n - 1 → nx u9 x9 ≤ nx u9 (x9 + 1)) → lv_has ls 4 [(1, .int (pb bb)), (2, .int (nI u)), (0, .ref (Ad 0))] → W p l e (k2_rm 0 0) s m args below meth c H locs 0 0 Q (F0 m 4 ls []) := by
  have hx := S.1
  have hb := S.2.1
  have hml := S.2.2.1
  have hown := S.2.2.2.1
  have hts := S.2.2.2.2
  intro f
  induction f with
  | zero => intro u bb ls hf; exact absurd hf (Nat.not_lt_zero _)
  | succ f ih =>
    intro u bb ls hf hu hb9 hl
    refine lv_iload_n hx hb dX5_monotone_4 rfl (lv_at hl 1 rfl) ?_
    refine lv_bipush (v := nI 8) hx hb dX5_monotone_5 (by decide) ?_
    refine pn_icmp_ge (tgt := 70) hx hb (by omega) (by omega) dX5_monotone_7 (by decide) (fun c_7 => ?_) (fun c_7 => ?_)
    · have ez : ko n nx = bb := by
        cases hz : bb with
        | true => exact ko_iff.mpr (fun u9 h9 => (hb9.mp hz) u9 (by omega))
        | false => exact ko_f (fun h => by
            have := hb9.mpr (fun u9 h9 => h u9 (by omega))
            rw [hz] at this; cases this)
      refine lv_iload_n hx hb dX5_monotone_70 rfl (lv_at hl 0 rfl) ?_
      refine pn_ifeq_b (tgt := 78) hx hb dX5_monotone_71 (by decide) (fun c_71 => ?_) (fun c_71 => ?_)
      · refine lv_iconst (v := nI 0) hx hb dX5_monotone_78 (by decide) ?_
        refine pw_topi (y := pb (ko n nx)) (by rw [ez, c_71]; rfl) ?_
        exact hq _ ls dX5_monotone_79
      · refine lv_iconst (v := nI 1) hx hb dX5_monotone_74 (by decide) ?_
        refine lv_goto (tgt := 79) hx hb dX5_monotone_75 (by decide) ?_
        refine pw_topi (y := pb (ko n nx)) (by rw [ez, c_71]; rfl) ?_
        exact hq _ ls dX5_monotone_79
    · refine lv_iconst (v := nI 1) hx hb dX5_monotone_10 (by decide) ?_
      refine lv_istore_n (lv' := [(3, .int (nI 1)), (1, .int (pb bb)), (2, .int (nI u)), (0, .ref (Ad 0))]) hx hb dX5_monotone_11 rfl hl (by decide) rfl (fun ls hl => ?_)
      refine L5_mono_in S hK hP hF hn hN u (by omega) (fun bb ls hb8 hl => ?_) n 1 bb ls (by omega) (by omega) (hb9.trans ⟨fun h => ⟨h, fun x9 h9 => by omega⟩, fun h => h.1⟩) (lv_sub hl [1, 0, 2, 3] rfl)
      refine lv_iinc (v := nI (u + 1)) (lv' := [(2, .int (nI (u + 1))), (1, .int (pb bb)), (0, .ref (Ad 0))]) hx hb dX5_monotone_64 hl (k := 1) rfl (nI_add _ 1) (by decide) rfl (fun ls hl => ?_)
      refine lv_goto (tgt := 4) hx hb dX5_monotone_67 (by decide) ?_
      exact ih (u + 1) bb ls (by omega) (by omega) hb8 (lv_sub hl [1, 0, 2] rfl)

set_option maxHeartbeats 4000000 in
set_option maxRecDepth 100000 in
theorem c_X5_monotone (l : Launch) (D : va_G) (cy : Nat → ClassId) (Ad : Nat → Nat) (n mm : Nat) (C : pw_C) (hI : pw_I Ad shM) (hn : 1 ≤ n ∧ n ≤ 12) (hmm : 1 ≤ mm ∧ mm ≤ 16) (nx : Nat → Nat → Nat) (mx : Nat → Nat → Option Nat) (en : Nat → Bool) (am wt : Nat → Nat) (hX : MI n mm nx mx en am wt Ad C)  : Met l yX5_monotone wsX5_monotone (k2_rm 0 0) (pw_Pre ([.ref (Ad 0)]) D cy Ad shM C) (k2_QcV (.int (pb (ko n nx)))) 0 0 (fun _ => False) := by
  refine Met.ofW (cc := cX5_monotone) (maxL := 4) (ret := (some .int)) (by decide) rfl ?_
  intro p e s m args below meth c s₁ B hml hv
  obtain ⟨rfl, hP, hK⟩ := hv
  have hx := B.exec
  have hb := B.bytes
  have hr := B.returns
  have hts := atoms_spec (ws := wsX5_monotone) B.pre
  have hown : s.vm.findClass RX5 = some m.cls := findClass_of_methodNamed B.named
  have hlocks := B.notSynchronized
  have S : CallFix p m c cX5_monotone 4 s ([.ref (Ad 0)]).toArray wsX5_monotone RX5 := ⟨hx, hb, hml, hown, hts⟩
  change W p l e (k2_rm 0 0) s m _ below meth c s.heap [] 0 0 _ _
  have hl := lv_entry ([.ref (Ad 0)]) (n := 4) (Nat.le_of_ble_eq_true rfl)
  rw [lg_entry_eq]
  obtain ⟨⟨pk, tr, hF⟩, hN, hM, hE, hA, hT⟩ := id hX
  generalize (lg_sl ([.ref (Ad 0)]) ++ List.replicate (4 - (lg_sl ([.ref (Ad 0)])).length) Slot.unset).toArray = ls at hl ⊢
  have hl : lv_has ls 4 [(0, .ref (Ad 0))] := hl
  refine lv_iconst (v := nI 1) hx hb dX5_monotone_0 (by decide) ?_
  refine lv_istore_n (lv' := [(1, .int (nI 1)), (0, .ref (Ad 0))]) hx hb dX5_monotone_1 rfl hl (by decide) rfl (fun ls hl => ?_)
  refine lv_iconst (v := nI 0) hx hb dX5_monotone_2 (by decide) ?_
  refine lv_istore_n (lv' := [(2, .int (nI 0)), (1, .int (nI 1)), (0, .ref (Ad 0))]) hx hb dX5_monotone_3 rfl hl (by decide) rfl (fun ls hl => ?_)
  exact L5_mono S hK hP hF hn hN (fun pc9 ls hd9 => W.iret hx hb hr (fun t ht _ => ⟨rfl, ht⟩) (fun q h => by cases h) hd9) 9 0 true ls (by omega) (by omega) ⟨fun _ u9 h9 => by omega, fun _ => rfl⟩ (lv_sub hl [1, 0, 2] rfl)

set_option maxHeartbeats 4000000 in
set_option maxRecDepth 100000 in
theorem L5_bding_a {p : Program} {l : Launch} {e : Env} {s : State} {m : MethodId} {args : Array Value} {below : List Frame} {meth : Method} {c : Code} {Q : State → Prop} (S : CallFix p m c cX5_bounding 7 s args wsX5_bounding RX5) {D : va_G} {cy : Nat → ClassId} {Ad : Nat → Nat} {n mm : Nat} {pk : Int64} {tr : Int32} {C0 : pw_C} (hK : pw_K D cy s) (hI : pw_I Ad shM) (hF0 : fM n mm pk tr Ad C0) (hn : 1 ≤ n ∧ n ≤ 12) {nx : Nat → Nat → Nat} (hN0 : rN n nx C0) (a : Int32) (most : Nat) (hmo : most ≤ 64) (hk : ∀ (C : pw_C) (H : Heap) (locs : List Loc) (ls : Array Slot), pw_P D cy Ad shM C H → va_S (pw_fr Ad shM) s.heap H locs → (pw_B (fun k => k = 8 ∨ k = 9) C0 C ∧ ∀ y, y < 144 → C.1 8 y = nI y) → lv_has ls 7 [(0, .ref (Ad 0)), (1, .int a), (2, .int (nI most))] → W p l e (k2_rm 2 45) s m args below meth c H locs 0 0 Q (F0 m 36 ls [])) : ∀ (f : Nat) (C : pw_C) (H : Heap) (locs : List Loc) (x : Nat) (ls : Array Slot), 144 - x < f → (pw_P D cy Ad shM C H) → (va_S (pw_fr Ad shM) s.heap H locs) → (pw_B (fun k => k = 8 ∨ k = 9) C0 C) → (x ≤ 144) → (∀ y, y < x → C.1 8 y = nI y) → lv_has ls 7 [(3, .int (nI x)), (0, .ref (Ad 0)), (1, .int a), (2, .int (nI most))] → W p l e (k2_rm 2 45) s m args below meth c H locs 0 0 Q (F0 m 16 ls []) := by
  have hx := S.1
  have hb := S.2.1
  have hml := S.2.2.1
  have hown := S.2.2.2.1
  have hts := S.2.2.2.2
  intro f
  induction f with
  | zero => intro C H locs x ls hf; exact absurd hf (Nat.not_lt_zero _)
  | succ f ih =>
    intro C H locs x ls hf hP hS hB hx0 hv hl
    have hF := fM_B hF0 hB
    have hN := rN_B hN0 hB (by omega)
    refine lv_iload_n hx hb dX5_bounding_16 rfl (lv_at hl 0 rfl) ?_
    refine lv_sipush (v := nI 144) hx hb dX5_bounding_17 (by decide) ?_
    refine pn_icmp_ge (tgt := 36) hx hb (by omega) (by omega) dX5_bounding_20 (by decide) (fun c_20 => ?_) (fun c_20 => ?_)
    · exact hk C H locs ls hP hS ⟨hB, fun y hy => hv y (by omega)⟩ (lv_sub hl [1, 2, 3] rfl)
    · refine lv_aload_n hx hb dX5_bounding_23 rfl (lv_at hl 1 rfl) ?_
      refine pw_get hx hb hts (fun _ h9 => List.mem_cons_of_mem _ (List.mem_append_right _ h9)) hown hK hP 0 rfl rfl 11 (by decide) hF rfl (hts (.fieldLink RX5 36 "PastDrawsModel" "bounds" "[I") (List.mem_of_getElem? (i := 2) rfl)) dX5_bounding_24 ?_
      refine lv_iload_n hx hb dX5_bounding_27 rfl (lv_at hl 0 rfl) ?_
      refine lv_iload_n hx hb dX5_bounding_28 rfl (lv_at hl 0 rfl) ?_
      refine pw_iast hx hb hK hP hI hS 8 rfl (by omega) (by decide) dX5_bounding_29 (fun H locs hP hS => ?_)
      obtain ⟨C29, hC29⟩ : ∃ z9, z9 = pw_setI C 8 x (nI x) := ⟨_, rfl⟩
      rw [← hC29] at hP
      have hB := by have hB9 := hB; exact (show pw_B (fun k => k = 8 ∨ k = 9) C0 C29 by rw [hC29]; exact hB9.setI (by show 8 = 8 ∨ 8 = 9; first | trivial | omega))
      have hF := fM_B hF0 hB
      have hN := rN_B hN0 hB (by omega)
      refine lv_iinc (v := nI (x + 1)) (lv' := [(3, .int (nI (x + 1))), (0, .ref (Ad 0)), (1, .int a), (2, .int (nI most))]) hx hb dX5_bounding_30 hl (k := 0) rfl (nI_add _ 1) (by decide) rfl (fun ls hl => ?_)
      refine lv_goto (tgt := 16) hx hb dX5_bounding_33 (by decide) ?_
      exact ih C29 H locs (x + 1) ls (by omega) hP hS hB (by omega) (fun y hy => by
        rw [hC29, si_at]
        by_cases q : y = x
        · rw [if_pos q, q]
        · rw [if_neg q]; exact hv y (by omega)) (lv_sub hl [0, 1, 2, 3] rfl)

theorem pw_eq2 {p : Program} {l : Launch} {e : Env} {R : Room} {s : State} {m : MethodId} {args : Array Value} {below : List Frame} {meth : Method} {c : Code} {H : Heap} {locs : List Loc} {cells slots : Nat} {Q : State → Prop} {pc : Nat} {ls : Array Slot} {rest : List Value} {z : Value} {x y : Int32} (h : x = y) (kk : W p l e R s m args below meth c H locs cells slots Q (F0 m pc ls (z :: .int y :: rest))) : W p l e R s m args below meth c H locs cells slots Q (F0 m pc ls (z :: .int x :: rest)) := by
  subst h; exact kk

set_option maxHeartbeats 4000000 in
set_option maxRecDepth 100000 in
theorem L5_bding_hi {p : Program} {l : Launch} {e : Env} {s : State} {m : MethodId} {args : Array Value} {below : List Frame} {meth : Method} {c : Code} {Q : State → Prop} (S : CallFix p m c cX5_bounding 7 s args wsX5_bounding RX5) {D : va_G} {cy : Nat → ClassId} {Ad : Nat → Nat} {n mm : Nat} {pk : Int64} {tr : Int32} {C0 : pw_C} (hK : pw_K D cy s) (hI : pw_I Ad shM) (hF0 : fM n mm pk tr Ad C0) (hn : 1 ≤ n ∧ n ≤ 12) {nx : Nat → Nat → Nat} (hN0 : rN n nx C0) (a : Int32) (most : Nat) (hmo : most ≤ 64) (t u : Nat) (hu : sgn a (nI (t + 1)) = u) (ht9 : t + 1 ≤ 64) (lo : Nat) (hlo : lo < n) (hk : ∀ (C : pw_C) (H : Heap) (locs : List Loc) (ls : Array Slot), pw_P D cy Ad shM C H → va_S (pw_fr Ad shM) s.heap H locs → (pw_B (fun k => k = 8 ∨ k = 9) C0 C ∧ (∀ lo9 hi9, lo9 ≤ hi9 → hi9 < n → C.1 8 (12 * lo9 + hi9) = nI (12 * (bnd nx a t lo9 hi9).1 + (bnd nx a t lo9 hi9).2)) ∧ (∀ lo9 hi9, lo9 ≤ hi9 → hi9 < n → lo9 < lo + 1 → C.1 9 (12 * lo9 + hi9) = nI (12 * (bnd nx a (t + 1) lo9 hi9).1 + (bnd nx a (t + 1) lo9 hi9).2))) → lv_has ls 7 [(5, .int (nI lo)), (3, .int (nI (t + 1))), (4, .int (nI u)), (0, .ref (Ad 0)), (1, .int a), (2, .int (nI most))] → W p l e (k2_rm 2 45) s m args below meth c H locs 0 0 Q (F0 m 110 ls [])) : ∀ (f : Nat) (C : pw_C) (H : Heap) (locs : List Loc) (hi : Nat) (ls : Array Slot), n - hi < f → (pw_P D cy Ad shM C H) → (va_S (pw_fr Ad shM) s.heap H locs) → (pw_B (fun k => k = 8 ∨ k = 9) C0 C) → (lo ≤ hi ∧ hi ≤ n) → (∀ lo9 hi9, lo9 ≤ hi9 → hi9 < n → C.1 8 (12 * lo9 + hi9) = nI (12 * (bnd nx a t lo9 hi9).1 + (bnd nx a t lo9 hi9).2)) → (∀ lo9 hi9, lo9 ≤ hi9 → hi9 < n → lo9 < lo → C.1 9 (12 * lo9 + hi9) = nI (12 * (bnd nx a (t + 1) lo9 hi9).1 + (bnd nx a (t + 1) lo9 hi9).2)) → (∀ hi9, lo ≤ hi9 → hi9 < hi → C.1 9 (12 * lo + hi9) = nI (12 * (bnd nx a (t + 1) lo hi9).1 + (bnd nx a (t + 1) lo hi9).2)) → lv_has ls 7 [(6, .int (nI hi)), (5, .int (nI lo)), (3, .int (nI (t + 1))), (4, .int (nI u)), (0, .ref (Ad 0)), (1, .int a), (2, .int (nI most))] → W p l e (k2_rm 2 45) s m args below meth c H locs 0 0 Q (F0 m 67 ls []) := by
  have hx := S.1
  have hb := S.2.1
  have hml := S.2.2.1
  have hown := S.2.2.2.1
  have hts := S.2.2.2.2
  intro f
  induction f with
  | zero => intro C H locs hi ls hf; exact absurd hf (Nat.not_lt_zero _)
  | succ f ih =>
    intro C H locs hi ls hf hP hS hB hx0 h8 h9 hv hl
    have hF := fM_B hF0 hB
    have hN := rN_B hN0 hB (by omega)
    have hu8 : u < 8 := by rw [← hu]; exact sgn_lt _ _
    refine lv_iload hx hb dX5_bounding_67 (lv_at hl 0 rfl) ?_
    refine lv_aload_n hx hb dX5_bounding_69 rfl (lv_at hl 4 rfl) ?_
    refine pw_get hx hb hts (fun _ h9 => List.mem_cons_of_mem _ (List.mem_append_right _ h9)) hown hK hP 0 rfl rfl 0 (by decide) hF rfl (hts (.fieldLink RX5 64 "PastDrawsModel" "n" "I") (List.mem_of_getElem? (i := 3) rfl)) dX5_bounding_70 ?_
    refine pn_icmp_ge (tgt := 110) hx hb (by omega) (by omega) dX5_bounding_73 (by decide) (fun c_73 => ?_) (fun c_73 => ?_)
    · obtain rfl : hi = n := by omega
      exact hk C H locs ls hP hS ⟨hB, h8, fun lo9 hi9 g1 g2 g3 => by
        rcases Nat.lt_or_ge lo9 lo with q | q
        · exact h9 lo9 hi9 g1 g2 q
        · obtain rfl : lo9 = lo := by omega
          exact hv hi9 g1 g2⟩ (lv_sub hl [1, 2, 3, 4, 5, 6] rfl)
    · refine lv_aload_n hx hb dX5_bounding_76 rfl (lv_at hl 4 rfl) ?_
      refine pw_get hx hb hts (fun _ h9 => List.mem_cons_of_mem _ (List.mem_append_right _ h9)) hown hK hP 0 rfl rfl 12 (by decide) hF rfl (hts (.fieldLink RX5 39 "PastDrawsModel" "nextBounds" "[I") (List.mem_of_getElem? (i := 4) rfl)) dX5_bounding_77 ?_
      refine lv_bipush (v := nI 12) hx hb dX5_bounding_80 (by decide) ?_
      refine lv_iload hx hb dX5_bounding_82 (lv_at hl 1 rfl) ?_
      refine lv_imul hx hb dX5_bounding_84 ?_
      refine pw_topi (pk_mul _ _) ?_
      refine lv_iload hx hb dX5_bounding_85 (lv_at hl 0 rfl) ?_
      refine lv_iadd hx hb dX5_bounding_87 ?_
      refine pw_topi (nI_add _ _) ?_
      refine lv_aload_n hx hb dX5_bounding_88 rfl (lv_at hl 4 rfl) ?_
      refine pw_get hx hb hts (fun _ h9 => List.mem_cons_of_mem _ (List.mem_append_right _ h9)) hown hK hP 0 rfl rfl 11 (by decide) hF rfl (hts (.fieldLink RX5 36 "PastDrawsModel" "bounds" "[I") (List.mem_of_getElem? (i := 2) rfl)) dX5_bounding_89 ?_
      refine lv_aload_n hx hb dX5_bounding_92 rfl (lv_at hl 4 rfl) ?_
      refine lv_iload hx hb dX5_bounding_93 (lv_at hl 1 rfl) ?_
      refine lv_iload hx hb dX5_bounding_95 (lv_at hl 0 rfl) ?_
      refine lv_iload hx hb dX5_bounding_97 (lv_at hl 3 rfl) ?_
      have e2 : lo + (hi - lo) = hi := by omega
      refine pw_eq2 (congrArg (fun z => nI z) e2.symm) ?_
      refine pw_cv S hK hP 0 5 rfl rfl 3 (c_X5_bound l D cy Ad n mm pk tr C hn hF nx hN lo (hi - lo) u (by omega) (by omega)) gX5_bounding_X5_bound rfl rfl rfl (by decide +kernel) ⟨Nat.le_of_ble_eq_true rfl, Nat.le_of_ble_eq_true rfl⟩ rfl hl.1 rfl (Nat.le_of_ble_eq_true rfl) dX5_bounding_99 ⟨Nat.le_refl _, Nat.le_refl _⟩ ?_
      have m1 := mn_mx nx u lo (hi - lo)
      have m2 := mx_lt (fun x hx => (hN u (by omega) x hx).1) (hi - lo) (show lo + (hi - lo) < n by omega)
      refine pw_iald hx hb hK hP 8 rfl (by omega) (by decide) (v := nI (12 * (bnd nx a (t + 1) lo hi).1 + (bnd nx a (t + 1) lo hi).2)) (by rw [h8 _ _ m1 m2]; subst hu; rfl) dX5_bounding_102 ?_
      refine pw_iast hx hb hK hP hI hS 9 rfl (by omega) (by decide) dX5_bounding_103 (fun H locs hP hS => ?_)
      obtain ⟨C103, hC103⟩ : ∃ z9, z9 = pw_setI C 9 ((12 * lo) + hi) (nI (12 * (bnd nx a (t + 1) lo hi).1 + (bnd nx a (t + 1) lo hi).2)) := ⟨_, rfl⟩
      rw [← hC103] at hP
      have hB := by have hB9 := hB; exact (show pw_B (fun k => k = 8 ∨ k = 9) C0 C103 by rw [hC103]; exact hB9.setI (by show 9 = 8 ∨ 9 = 9; first | trivial | omega))
      have hF := fM_B hF0 hB
      have hN := rN_B hN0 hB (by omega)
      refine lv_iinc (v := nI (hi + 1)) (lv' := [(6, .int (nI (hi + 1))), (5, .int (nI lo)), (3, .int (nI (t + 1))), (4, .int (nI u)), (0, .ref (Ad 0)), (1, .int a), (2, .int (nI most))]) hx hb dX5_bounding_104 hl (k := 0) rfl (nI_add _ 1) (by decide) rfl (fun ls hl => ?_)
      refine lv_goto (tgt := 67) hx hb dX5_bounding_107 (by decide) ?_
      have e8 : C103.1 8 = C.1 8 := by rw [hC103]; exact si_ne (by decide)
      exact ih C103 H locs (hi + 1) ls (by omega) hP hS hB (by omega) (fun lo9 hi9 g1 g2 => by rw [e8]; exact h8 lo9 hi9 g1 g2) (fun lo9 hi9 g1 g2 g3 => by
        rw [hC103, si_at, if_neg (by omega)]; exact h9 lo9 hi9 g1 g2 g3) (fun hi9 g1 g2 => by
        rw [hC103, si_at]
        by_cases q : hi9 = hi
        · rw [if_pos (by omega), q]
        · rw [if_neg (by omega)]; exact hv hi9 g1 (by omega)) (lv_sub hl [0, 1, 2, 3, 4, 5, 6] rfl)

set_option maxHeartbeats 4000000 in
set_option maxRecDepth 100000 in
theorem L5_bding_lo {p : Program} {l : Launch} {e : Env} {s : State} {m : MethodId} {args : Array Value} {below : List Frame} {meth : Method} {c : Code} {Q : State → Prop} (S : CallFix p m c cX5_bounding 7 s args wsX5_bounding RX5) {D : va_G} {cy : Nat → ClassId} {Ad : Nat → Nat} {n mm : Nat} {pk : Int64} {tr : Int32} {C0 : pw_C} (hK : pw_K D cy s) (hI : pw_I Ad shM) (hF0 : fM n mm pk tr Ad C0) (hn : 1 ≤ n ∧ n ≤ 12) {nx : Nat → Nat → Nat} (hN0 : rN n nx C0) (a : Int32) (most : Nat) (hmo : most ≤ 64) (t u : Nat) (hu : sgn a (nI (t + 1)) = u) (ht9 : t + 1 ≤ 64) (hk : ∀ (C : pw_C) (H : Heap) (locs : List Loc) (ls : Array Slot), pw_P D cy Ad shM C H → va_S (pw_fr Ad shM) s.heap H locs → (pw_B (fun k => k = 8 ∨ k = 9) C0 C ∧ (∀ lo9 hi9, lo9 ≤ hi9 → hi9 < n → C.1 9 (12 * lo9 + hi9) = nI (12 * (bnd nx a (t + 1) lo9 hi9).1 + (bnd nx a (t + 1) lo9 hi9).2))) → lv_has ls 7 [(3, .int (nI (t + 1))), (4, .int (nI u)), (0, .ref (Ad 0)), (1, .int a), (2, .int (nI most))] → W p l e (k2_rm 2 45) s m args below meth c H locs 0 0 Q (F0 m 116 ls [])) : ∀ (f : Nat) (C : pw_C) (H : Heap) (locs : List Loc) (lo : Nat) (ls : Array Slot), n - lo < f → (pw_P D cy Ad shM C H) → (va_S (pw_fr Ad shM) s.heap H locs) → (pw_B (fun k => k = 8 ∨ k = 9) C0 C) → (lo ≤ n) → (∀ lo9 hi9, lo9 ≤ hi9 → hi9 < n → C.1 8 (12 * lo9 + hi9) = nI (12 * (bnd nx a t lo9 hi9).1 + (bnd nx a t lo9 hi9).2)) → (∀ lo9 hi9, lo9 ≤ hi9 → hi9 < n → lo9 < lo → C.1 9 (12 * lo9 + hi9) = nI (12 * (bnd nx a (t + 1) lo9 hi9).1 + (bnd nx a (t + 1) lo9 hi9).2)) → lv_has ls 7 [(5, .int (nI lo)), (3, .int (nI (t + 1))), (4, .int (nI u)), (0, .ref (Ad 0)), (1, .int a), (2, .int (nI most))] → W p l e (k2_rm 2 45) s m args below meth c H locs 0 0 Q (F0 m 54 ls []) := by
  have hx := S.1
  have hb := S.2.1
  have hml := S.2.2.1
  have hown := S.2.2.2.1
  have hts := S.2.2.2.2
  intro f
  induction f with
  | zero => intro C H locs lo ls hf; exact absurd hf (Nat.not_lt_zero _)
  | succ f ih =>
    intro C H locs lo ls hf hP hS hB hx0 h8 h9 hl
    have hF := fM_B hF0 hB
    have hN := rN_B hN0 hB (by omega)
    refine lv_iload hx hb dX5_bounding_54 (lv_at hl 0 rfl) ?_
    refine lv_aload_n hx hb dX5_bounding_56 rfl (lv_at hl 3 rfl) ?_
    refine pw_get hx hb hts (fun _ h9 => List.mem_cons_of_mem _ (List.mem_append_right _ h9)) hown hK hP 0 rfl rfl 0 (by decide) hF rfl (hts (.fieldLink RX5 64 "PastDrawsModel" "n" "I") (List.mem_of_getElem? (i := 3) rfl)) dX5_bounding_57 ?_
    refine pn_icmp_ge (tgt := 116) hx hb (by omega) (by omega) dX5_bounding_60 (by decide) (fun c_60 => ?_) (fun c_60 => ?_)
    · exact hk C H locs ls hP hS ⟨hB, fun lo9 hi9 g1 g2 => h9 lo9 hi9 g1 g2 (by omega)⟩ (lv_sub hl [1, 2, 3, 4, 5] rfl)
    · refine lv_iload hx hb dX5_bounding_63 (lv_at hl 0 rfl) ?_
      refine lv_istore (lv' := [(6, .int (nI lo)), (5, .int (nI lo)), (3, .int (nI (t + 1))), (4, .int (nI u)), (0, .ref (Ad 0)), (1, .int a), (2, .int (nI most))]) hx hb dX5_bounding_65 hl (by decide) rfl (fun ls hl => ?_)
      refine L5_bding_hi S hK hI hF0 hn hN0 a most hmo t u hu ht9 lo (by omega) (fun C H locs ls hP hS hR hl => ?_) (n + 1) C H locs lo ls (by omega) hP hS hB (by omega) h8 h9 (fun hi9 g1 g2 => by omega) (lv_sub hl [0, 1, 2, 3, 4, 5, 6] rfl)
      refine lv_iinc (v := nI (lo + 1)) (lv' := [(5, .int (nI (lo + 1))), (3, .int (nI (t + 1))), (4, .int (nI u)), (0, .ref (Ad 0)), (1, .int a), (2, .int (nI most))]) hx hb dX5_bounding_110 hl (k := 0) rfl (nI_add _ 1) (by decide) rfl (fun ls hl => ?_)
      refine lv_goto (tgt := 54) hx hb dX5_bounding_113 (by decide) ?_
      exact ih C H locs (lo + 1) ls (by omega) hP hS hR.1 (by omega) hR.2.1 hR.2.2 (lv_sub hl [0, 1, 2, 3, 4, 5] rfl)

set_option maxHeartbeats 4000000 in
set_option maxRecDepth 100000 in
theorem L5_bding_c {p : Program} {l : Launch} {e : Env} {s : State} {m : MethodId} {args : Array Value} {below : List Frame} {meth : Method} {c : Code} {Q : State → Prop} (S : CallFix p m c cX5_bounding 7 s args wsX5_bounding RX5) {D : va_G} {cy : Nat → ClassId} {Ad : Nat → Nat} {n mm : Nat} {pk : Int64} {tr : Int32} {C0 : pw_C} (hK : pw_K D cy s) (hI : pw_I Ad shM) (hF0 : fM n mm pk tr Ad C0) (hn : 1 ≤ n ∧ n ≤ 12) {nx : Nat → Nat → Nat} (hN0 : rN n nx C0) (a : Int32) (most : Nat) (hmo : most ≤ 64) (t u : Nat) (gz : Nat → Int32) (hk : ∀ (C : pw_C) (H : Heap) (locs : List Loc) (ls : Array Slot), pw_P D cy Ad shM C H → va_S (pw_fr Ad shM) s.heap H locs → (pw_B (fun k => k = 8 ∨ k = 9) C0 C ∧ (∀ y, y < 144 → C.1 8 y = gz y)) → lv_has ls 7 [(3, .int (nI (t + 1))), (4, .int (nI u)), (0, .ref (Ad 0)), (1, .int a), (2, .int (nI most))] → W p l e (k2_rm 2 45) s m args below meth c H locs 0 0 Q (F0 m 147 ls [])) : ∀ (f : Nat) (C : pw_C) (H : Heap) (locs : List Loc) (x : Nat) (ls : Array Slot), 144 - x < f → (pw_P D cy Ad shM C H) → (va_S (pw_fr Ad shM) s.heap H locs) → (pw_B (fun k => k = 8 ∨ k = 9) C0 C) → (x ≤ 144) → (∀ y, y < 144 → C.1 9 y = gz y) → (∀ y, y < x → C.1 8 y = gz y) → lv_has ls 7 [(5, .int (nI x)), (3, .int (nI (t + 1))), (4, .int (nI u)), (0, .ref (Ad 0)), (1, .int a), (2, .int (nI most))] → W p l e (k2_rm 2 45) s m args below meth c H locs 0 0 Q (F0 m 119 ls []) := by
  have hx := S.1
  have hb := S.2.1
  have hml := S.2.2.1
  have hown := S.2.2.2.1
  have hts := S.2.2.2.2
  intro f
  induction f with
  | zero => intro C H locs x ls hf; exact absurd hf (Nat.not_lt_zero _)
  | succ f ih =>
    intro C H locs x ls hf hP hS hB hx0 h7 hv hl
    have hF := fM_B hF0 hB
    have hN := rN_B hN0 hB (by omega)
    refine lv_iload hx hb dX5_bounding_119 (lv_at hl 0 rfl) ?_
    refine lv_sipush (v := nI 144) hx hb dX5_bounding_121 (by decide) ?_
    refine pn_icmp_ge (tgt := 147) hx hb (by omega) (by omega) dX5_bounding_124 (by decide) (fun c_124 => ?_) (fun c_124 => ?_)
    · exact hk C H locs ls hP hS ⟨hB, fun y hy => hv y (by omega)⟩ (lv_sub hl [1, 2, 3, 4, 5] rfl)
    · refine lv_aload_n hx hb dX5_bounding_127 rfl (lv_at hl 3 rfl) ?_
      refine pw_get hx hb hts (fun _ h9 => List.mem_cons_of_mem _ (List.mem_append_right _ h9)) hown hK hP 0 rfl rfl 11 (by decide) hF rfl (hts (.fieldLink RX5 36 "PastDrawsModel" "bounds" "[I") (List.mem_of_getElem? (i := 2) rfl)) dX5_bounding_128 ?_
      refine lv_iload hx hb dX5_bounding_131 (lv_at hl 0 rfl) ?_
      refine lv_aload_n hx hb dX5_bounding_133 rfl (lv_at hl 3 rfl) ?_
      refine pw_get hx hb hts (fun _ h9 => List.mem_cons_of_mem _ (List.mem_append_right _ h9)) hown hK hP 0 rfl rfl 12 (by decide) hF rfl (hts (.fieldLink RX5 39 "PastDrawsModel" "nextBounds" "[I") (List.mem_of_getElem? (i := 4) rfl)) dX5_bounding_134 ?_
      refine lv_iload hx hb dX5_bounding_137 (lv_at hl 0 rfl) ?_
      refine pw_iald hx hb hK hP 9 rfl (by omega) (by decide) (v := gz x) (h7 x (by omega)) dX5_bounding_139 ?_
      refine pw_iast hx hb hK hP hI hS 8 rfl (by omega) (by decide) dX5_bounding_140 (fun H locs hP hS => ?_)
      obtain ⟨C140, hC140⟩ : ∃ z9, z9 = pw_setI C 8 x (gz x) := ⟨_, rfl⟩
      rw [← hC140] at hP
      have hB := by have hB9 := hB; exact (show pw_B (fun k => k = 8 ∨ k = 9) C0 C140 by rw [hC140]; exact hB9.setI (by show 8 = 8 ∨ 8 = 9; first | trivial | omega))
      have hF := fM_B hF0 hB
      have hN := rN_B hN0 hB (by omega)
      refine lv_iinc (v := nI (x + 1)) (lv' := [(5, .int (nI (x + 1))), (3, .int (nI (t + 1))), (4, .int (nI u)), (0, .ref (Ad 0)), (1, .int a), (2, .int (nI most))]) hx hb dX5_bounding_141 hl (k := 0) rfl (nI_add _ 1) (by decide) rfl (fun ls hl => ?_)
      refine lv_goto (tgt := 119) hx hb dX5_bounding_144 (by decide) ?_
      have e7 : C140.1 9 = C.1 9 := by rw [hC140]; exact si_ne (by decide)
      exact ih C140 H locs (x + 1) ls (by omega) hP hS hB (by omega) (fun y hy => by rw [e7]; exact h7 y hy) (fun y hy => by
        rw [hC140, si_at]
        by_cases q : y = x
        · rw [if_pos q, q]
        · rw [if_neg q]; exact hv y (by omega)) (lv_sub hl [0, 1, 2, 3, 4, 5] rfl)

set_option maxHeartbeats 4000000 in
set_option maxRecDepth 100000 in
theorem L5_bding {p : Program} {l : Launch} {e : Env} {s : State} {m : MethodId} {args : Array Value} {below : List Frame} {meth : Method} {c : Code} {Q : State → Prop} (S : CallFix p m c cX5_bounding 7 s args wsX5_bounding RX5) {D : va_G} {cy : Nat → ClassId} {Ad : Nat → Nat} {n mm : Nat} {pk : Int64} {tr : Int32} {C0 : pw_C} (hK : pw_K D cy s) (hI : pw_I Ad shM) (hF0 : fM n mm pk tr Ad C0) (hn : 1 ≤ n ∧ n ≤ 12) {nx : Nat → Nat → Nat} (hN0 : rN n nx C0) (a : Int32) (most : Nat) (hmo : most ≤ 64) (r : Option Nat) (hq : ∀ (pc9 : Nat) (C : pw_C) (H : Heap) (locs : List Loc) (ls : Array Slot), decode cX5_bounding pc9 = .ok (.ireturn, 1) → pw_P D cy Ad shM C H → va_S (pw_fr Ad shM) s.heap H locs → (pw_B (fun k => k = 8 ∨ k = 9) C0 C) → W p l e (k2_rm 2 45) s m args below meth c H locs 0 0 Q (F0 m pc9 ls [.int (oi r)])) : ∀ (f : Nat) (C : pw_C) (H : Heap) (locs : List Loc) (t : Nat) (ls : Array Slot), most - t < f → (pw_P D cy Ad shM C H) → (va_S (pw_fr Ad shM) s.heap H locs) → (pw_B (fun k => k = 8 ∨ k = 9) C0 C) → (t ≤ most) → (∀ lo9 hi9, lo9 ≤ hi9 → hi9 < n → C.1 8 (12 * lo9 + hi9) = nI (12 * (bnd nx a t lo9 hi9).1 + (bnd nx a t lo9 hi9).2)) → (fstT (fun t => bmt nx n a t) (most - t) (t + 1) = r) → lv_has ls 7 [(3, .int (nI (t + 1))), (0, .ref (Ad 0)), (1, .int a), (2, .int (nI most))] → W p l e (k2_rm 2 45) s m args below meth c H locs 0 0 Q (F0 m 38 ls []) := by
  have hx := S.1
  have hb := S.2.1
  have hml := S.2.2.1
  have hown := S.2.2.2.1
  have hts := S.2.2.2.2
  intro f
  induction f with
  | zero => intro C H locs t ls hf; exact absurd hf (Nat.not_lt_zero _)
  | succ f ih =>
    intro C H locs t ls hf hP hS hB ht h8 hr0 hl
    have hF := fM_B hF0 hB
    have hN := rN_B hN0 hB (by omega)
    refine lv_iload_n hx hb dX5_bounding_38 rfl (lv_at hl 0 rfl) ?_
    refine lv_iload_n hx hb dX5_bounding_39 rfl (lv_at hl 3 rfl) ?_
    refine pn_icmp_gt (tgt := 186) hx hb (by omega) (by omega) dX5_bounding_40 (by decide) (fun c_40 => ?_) (fun c_40 => ?_)
    · have hz : most - t = 0 := by omega
      rw [hz] at hr0
      refine lv_bipush (v := (-2)) hx hb dX5_bounding_186 (by decide) ?_
      refine pw_topi (y := oi r) (by rw [← hr0]; try rfl) ?_
      exact hq _ C H locs ls dX5_bounding_188 hP hS hB
    · obtain ⟨z, hz⟩ : ∃ z, most - t = z + 1 := ⟨most - t - 1, by omega⟩
      rw [hz, fstT] at hr0
      refine lv_aload_n hx hb dX5_bounding_43 rfl (lv_at hl 1 rfl) ?_
      refine lv_iload_n hx hb dX5_bounding_44 rfl (lv_at hl 2 rfl) ?_
      refine lv_iload_n hx hb dX5_bounding_45 rfl (lv_at hl 0 rfl) ?_
      refine pw_cv S hK hP 0 5 rfl rfl 2 (c_X5_sign l D cy Ad n mm pk tr C hn hF a (nI (t + 1))) gX5_bounding_X5_sign rfl rfl rfl (by decide +kernel) ⟨Nat.le_of_ble_eq_true rfl, Nat.le_of_ble_eq_true rfl⟩ rfl hl.1 rfl (Nat.le_of_ble_eq_true rfl) dX5_bounding_46 ⟨Nat.le_refl _, Nat.le_refl _⟩ ?_
      refine lv_istore (lv' := [(4, .int (nI (sgn a (nI (t + 1))))), (3, .int (nI (t + 1))), (0, .ref (Ad 0)), (1, .int a), (2, .int (nI most))]) hx hb dX5_bounding_49 hl (by decide) rfl (fun ls hl => ?_)
      refine lv_iconst (v := nI 0) hx hb dX5_bounding_51 (by decide) ?_
      refine lv_istore (lv' := [(5, .int (nI 0)), (4, .int (nI (sgn a (nI (t + 1))))), (3, .int (nI (t + 1))), (0, .ref (Ad 0)), (1, .int a), (2, .int (nI most))]) hx hb dX5_bounding_52 hl (by decide) rfl (fun ls hl => ?_)
      refine L5_bding_lo S hK hI hF0 hn hN0 a most hmo t _ rfl (by omega) (fun C H locs ls hP hS hR hl => ?_) (n + 1) C H locs 0 ls (by omega) hP hS hB (by omega) h8 (fun lo9 hi9 g1 g2 g3 => by omega) (lv_sub hl [0, 2, 1, 3, 4, 5] rfl)
      have hB := hR.1
      have hF := fM_B hF0 hB
      refine lv_iconst (v := nI 0) hx hb dX5_bounding_116 (by decide) ?_
      refine lv_istore (lv' := [(5, .int (nI 0)), (3, .int (nI (t + 1))), (4, .int (nI (sgn a (nI (t + 1))))), (0, .ref (Ad 0)), (1, .int a), (2, .int (nI most))]) hx hb dX5_bounding_117 hl (by decide) rfl (fun ls hl => ?_)
      refine L5_bding_c S hK hI hF0 hn hN0 a most hmo t _ (C.1 9) (fun C2 H locs ls hP hS hR2 hl => ?_) 145 C H locs 0 ls (by omega) hP hS hB (by omega) (fun y hy => rfl) (fun y hy => by omega) (lv_sub hl [0, 1, 2, 3, 4, 5] rfl)
      have hB := hR2.1
      have hF := fM_B hF0 hB
      have h8n : ∀ lo9 hi9, lo9 ≤ hi9 → hi9 < n → C2.1 8 (12 * lo9 + hi9) = nI (12 * (bnd nx a (t + 1) lo9 hi9).1 + (bnd nx a (t + 1) lo9 hi9).2) := fun lo9 hi9 g1 g2 => by rw [hR2.2 _ (by omega)]; exact hR.2 lo9 hi9 g1 g2
      have hbl := bnd_lt hN0 (a := a) (t + 1) 0 (n - 1) (by omega) (by omega)
      obtain ⟨A9, B9, hA9, hB9, hAB⟩ : ∃ A9 B9, A9 = (bnd nx a (t + 1) 0 (n - 1)).1 ∧ B9 = (bnd nx a (t + 1) 0 (n - 1)).2 ∧ A9 ≤ B9 ∧ B9 < n := ⟨_, _, rfl, rfl, hbl⟩
      have hv9 : C2.1 8 (n - 1) = nI (12 * A9 + B9) := by
        have h9 := h8n 0 (n - 1) (by omega) (by omega)
        rw [← hA9, ← hB9, Nat.mul_zero, Nat.zero_add] at h9; exact h9
      have hbm : bmt nx n a (t + 1) = decide (A9 = B9) := by rw [hA9, hB9]; rfl
      refine lv_aload_n hx hb dX5_bounding_147 rfl (lv_at hl 2 rfl) ?_
      refine pw_get hx hb hts (fun _ h9 => List.mem_cons_of_mem _ (List.mem_append_right _ h9)) hown hK hP 0 rfl rfl 11 (by decide) hF rfl (hts (.fieldLink RX5 36 "PastDrawsModel" "bounds" "[I") (List.mem_of_getElem? (i := 2) rfl)) dX5_bounding_148 ?_
      refine lv_aload_n hx hb dX5_bounding_151 rfl (lv_at hl 2 rfl) ?_
      refine pw_get hx hb hts (fun _ h9 => List.mem_cons_of_mem _ (List.mem_append_right _ h9)) hown hK hP 0 rfl rfl 0 (by decide) hF rfl (hts (.fieldLink RX5 64 "PastDrawsModel" "n" "I") (List.mem_of_getElem? (i := 3) rfl)) dX5_bounding_152 ?_
      refine lv_iconst (v := nI 1) hx hb dX5_bounding_155 (by decide) ?_
      refine lv_isub hx hb dX5_bounding_156 ?_
      refine pw_topi (pk_sub (by omega)) ?_
      refine pw_iald hx hb hK hP 8 rfl (by omega) (by decide) (v := nI (12 * A9 + B9)) hv9 dX5_bounding_157 ?_
      refine lv_bipush (v := nI 12) hx hb dX5_bounding_158 (by decide) ?_
      refine lv_idiv hx hb dX5_bounding_160 (by decide) ?_
      refine pw_topi (y := nI A9) (by rw [pk_div (by omega) (by decide) (by decide)]; congr 1; omega) ?_
      refine lv_aload_n hx hb dX5_bounding_161 rfl (lv_at hl 2 rfl) ?_
      refine pw_get hx hb hts (fun _ h9 => List.mem_cons_of_mem _ (List.mem_append_right _ h9)) hown hK hP 0 rfl rfl 11 (by decide) hF rfl (hts (.fieldLink RX5 36 "PastDrawsModel" "bounds" "[I") (List.mem_of_getElem? (i := 2) rfl)) dX5_bounding_162 ?_
      refine lv_aload_n hx hb dX5_bounding_165 rfl (lv_at hl 2 rfl) ?_
      refine pw_get hx hb hts (fun _ h9 => List.mem_cons_of_mem _ (List.mem_append_right _ h9)) hown hK hP 0 rfl rfl 0 (by decide) hF rfl (hts (.fieldLink RX5 64 "PastDrawsModel" "n" "I") (List.mem_of_getElem? (i := 3) rfl)) dX5_bounding_166 ?_
      refine lv_iconst (v := nI 1) hx hb dX5_bounding_169 (by decide) ?_
      refine lv_isub hx hb dX5_bounding_170 ?_
      refine pw_topi (pk_sub (by omega)) ?_
      refine pw_iald hx hb hK hP 8 rfl (by omega) (by decide) (v := nI (12 * A9 + B9)) hv9 dX5_bounding_171 ?_
      refine lv_bipush (v := nI 12) hx hb dX5_bounding_172 (by decide) ?_
      refine lv_irem hx hb dX5_bounding_174 (by decide) ?_
      refine pw_topi (y := nI B9) (by rw [pk_rem (by omega) (by decide) (by decide)]; congr 1; omega) ?_
      refine pn_icmp_ne (tgt := 180) hx hb (by omega) (by omega) dX5_bounding_175 (by decide) (fun c_175 => ?_) (fun c_175 => ?_)
      · rw [if_neg (by rw [hbm, decide_eq_false c_175]; decide)] at hr0
        have hz2 : z = most - (t + 1) := by omega
        refine lv_iinc (v := nI ((t + 1) + 1)) (lv' := [(3, .int (nI ((t + 1) + 1))), (4, .int (nI (sgn a (nI (t + 1))))), (0, .ref (Ad 0)), (1, .int a), (2, .int (nI most))]) hx hb dX5_bounding_180 hl (k := 0) rfl (nI_add _ 1) (by decide) rfl (fun ls hl => ?_)
        refine lv_goto (tgt := 38) hx hb dX5_bounding_183 (by decide) ?_
        exact ih C2 H locs (t + 1) ls (by omega) hP hS hB (by omega) h8n (by rw [← hz2]; exact hr0) (lv_sub hl [0, 2, 3, 4] rfl)
      · rw [if_pos (by rw [hbm, decide_eq_true c_175])] at hr0
        refine lv_iload_n hx hb dX5_bounding_178 rfl (lv_at hl 0 rfl) ?_
        refine pw_topi (y := oi r) (by rw [← hr0]; try rfl) ?_
        exact hq _ C2 H locs ls dX5_bounding_179 hP hS hB

set_option maxHeartbeats 4000000 in
set_option maxRecDepth 100000 in
theorem c_X5_bounding (l : Launch) (D : va_G) (cy : Nat → ClassId) (Ad : Nat → Nat) (n mm : Nat) (C : pw_C) (hI : pw_I Ad shM) (hn : 1 ≤ n ∧ n ≤ 12) (hmm : 1 ≤ mm ∧ mm ≤ 16) (nx : Nat → Nat → Nat) (mx : Nat → Nat → Option Nat) (en : Nat → Bool) (am wt : Nat → Nat) (hX : MI n mm nx mx en am wt Ad C) (a b : Int32) : Met l yX5_bounding wsX5_bounding (k2_rm 2 45) (pw_Pre ([.ref (Ad 0), .int a, .int b]) D cy Ad shM C) (pw_Post (fun r9 C' => r9 = some (.int (f_bounding n nx a b)) ∧ (MI n mm nx mx en am wt Ad C')) D cy Ad shM) 0 0 (pw_fr Ad shM) := by
  refine Met.ofW (cc := cX5_bounding) (maxL := 7) (ret := (some .int)) (by decide) rfl ?_
  intro p e s m args below meth c s₁ B hml hv
  obtain ⟨rfl, hP, hK⟩ := hv
  have hx := B.exec
  have hb := B.bytes
  have hr := B.returns
  have hts := atoms_spec (ws := wsX5_bounding) B.pre
  have hown : s.vm.findClass RX5 = some m.cls := findClass_of_methodNamed B.named
  have hlocks := B.notSynchronized
  have S : CallFix p m c cX5_bounding 7 s ([.ref (Ad 0), .int a, .int b]).toArray wsX5_bounding RX5 := ⟨hx, hb, hml, hown, hts⟩
  change W p l e (k2_rm 2 45) s m _ below meth c s.heap [] 0 0 _ _
  have hl := lv_entry ([.ref (Ad 0), .int a, .int b]) (n := 7) (Nat.le_of_ble_eq_true rfl)
  rw [lg_entry_eq]
  generalize (lg_sl ([.ref (Ad 0), .int a, .int b]) ++ List.replicate (7 - (lg_sl ([.ref (Ad 0), .int a, .int b])).length) Slot.unset).toArray = ls at hl ⊢
  have hl : lv_has ls 7 [(0, .ref (Ad 0)), (1, .int a), (2, .int b)] := hl
  have hS : va_S (pw_fr Ad shM) s.heap s.heap [] := va_S.rf
  obtain ⟨⟨pk, tr, hF⟩, hN, hM, hE, hA, hT⟩ := id hX
  refine lv_iload_n hx hb dX5_bounding_0 rfl (lv_at hl 2 rfl) ?_
  refine lv_i2l hx hb dX5_bounding_1 rfl ?_
  refine lv_lconst (v := 1) hx hb dX5_bounding_2 (by decide) ?_
  refine lv_ldc2 hx hb hown (hts (.constantLong RX5 120 (64)) (List.mem_of_getElem? (i := 1) rfl)) dX5_bounding_3 ?_
  refine pw_cs S 3 (c_X5_in l b.toInt64 1 (64)) gX5_bounding_X5_in rfl rfl rfl (by decide +kernel) ⟨Nat.le_of_ble_eq_true rfl, Nat.le_of_ble_eq_true rfl⟩ rfl hl.1 rfl (Nat.le_of_ble_eq_true rfl) dX5_bounding_6 ⟨Nat.le_refl _, Nat.le_refl _⟩ ?_
  refine pw_topi (y := pb (wi b (nI 1) (nI 64))) (congrArg pb (wl_wi _ (nI 1) (nI 64) (by first | rfl | decide) (by first | rfl | decide))) ?_
  refine pn_ifne_b (tgt := 14) hx hb dX5_bounding_9 (by decide) (fun c_9 => ?_) (fun c_9 => ?_)
  · obtain ⟨most, hl_most, hh_most, rfl⟩ := wi_ex (by omega) c_9
    have ix_most : ix (nI most) = most := nI_clamp (by omega)
    refine lv_iconst (v := nI 0) hx hb dX5_bounding_14 (by decide) ?_
    refine lv_istore_n (lv' := [(3, .int (nI 0)), (0, .ref (Ad 0)), (1, .int a), (2, .int (nI most))]) hx hb dX5_bounding_15 rfl hl (by decide) rfl (fun ls hl => ?_)
    have ef : f_bounding n nx a (nI most) = oi (fstT (fun t => bmt nx n a t) most 1) := by unfold f_bounding; simp [c_9, ix_most]
    rw [ef]
    refine L5_bding_a S hK hI hF hn hN a most (by omega) (fun C1 H locs ls hP hS hR hl => ?_) 145 C s.heap [] 0 ls (by omega) hP hS pw_B.rf (by omega) (fun y hy => by omega) (lv_sub hl [0, 1, 2, 3] rfl)
    refine lv_iconst (v := nI 1) hx hb dX5_bounding_36 (by decide) ?_
    refine lv_istore_n (lv' := [(3, .int (nI 1)), (0, .ref (Ad 0)), (1, .int a), (2, .int (nI most))]) hx hb dX5_bounding_37 rfl hl (by decide) rfl (fun ls hl => ?_)
    exact L5_bding S hK hI hF hn hN a most (by omega) _ (fun pc9 C9 H9 locs9 ls9 hd9 hP9 hS9 hR9 => W.iret hx hb hr (fun t ht _ => ⟨⟨_, C9, rfl, ⟨rfl, MI_B hX hR9 (fun k h => by have h8 : k = 8 ∨ k = 9 := h; omega)⟩, by rw [ht]; exact hP9⟩, hS9.F ht⟩) hS9.2.2 hd9) (most + 1) C1 H locs 0 ls (by omega) hP hS hR.1 (by omega) (fun lo9 hi9 g1 g2 => hR.2 _ (by omega)) rfl (lv_sub hl [0, 1, 2, 3] rfl)
  · refine lv_iconst (v := (-1)) hx hb dX5_bounding_12 (by decide) ?_
    refine pw_topi (y := f_bounding n nx a b) (by unfold f_bounding; simp [c_9]) ?_
    exact W.iret hx hb hr (fun t ht _ => ⟨⟨_, C, rfl, ⟨rfl, hX⟩, by rw [ht]; exact hP⟩, hS.F ht⟩) hS.2.2 dX5_bounding_13
