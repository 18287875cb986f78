def iw (x r : Nat) : Nat := if x < r then x else x - 1
set_option maxHeartbeats 4000000 in
set_option maxRecDepth 100000 in
theorem c_X0_indexWithout (l : Launch) (x r : Nat) (hx0 : x < 2 ^ 31) (hr0 : r < 2 ^ 31) (hne : ¬ x = r) : Met l yX0_indexWithout wsX0_indexWithout (k2_rm 0 0) (fun v _ => v = ([.int (nI x), .int (nI r)]).toArray) (k2_QcV (.int (nI (iw x r)))) 0 0 (fun _ => False) := by
  refine Met.ofW (cc := cX0_indexWithout) (maxL := 2) (ret := (some .int)) (by decide) rfl ?_
  intro p e s m args below meth c s₁ B hml hv
  obtain rfl := hv
  have hx := B.exec
  have hb := B.bytes
  have hr := B.returns
  have hts := atoms_spec (ws := wsX0_indexWithout) B.pre
  have hown : s.vm.findClass RX0 = some m.cls := findClass_of_methodNamed B.named
  have hlocks := B.notSynchronized
  have S : CallFix p m c cX0_indexWithout 2 s ([.int (nI x), .int (nI r)]).toArray wsX0_indexWithout RX0 := ⟨hx, hb, hml, hown, hts⟩
  change W p l e (k2_rm 0 0) s m _ below meth c s.heap [] 0 0 _ _
  have hl := lv_entry ([.int (nI x), .int (nI r)]) (n := 2) (Nat.le_of_ble_eq_true rfl)
  rw [lg_entry_eq]
  generalize (lg_sl ([.int (nI x), .int (nI r)]) ++ List.replicate (2 - (lg_sl ([.int (nI x), .int (nI r)])).length) Slot.unset).toArray = ls at hl ⊢
  have hl : lv_has ls 2 [(0, .int (nI x)), (1, .int (nI r))] := hl
  refine lv_iload_n hx hb dX0_indexWithout_0 rfl (lv_at hl 0 rfl) ?_
  refine lv_iload_n hx hb dX0_indexWithout_1 rfl (lv_at hl 1 rfl) ?_
  refine pn_icmp_ge (tgt := 9) hx hb (by omega) (by omega) dX0_indexWithout_2 (by decide) (fun c_2 => ?_) (fun c_2 => ?_)
  · refine lv_iload_n hx hb dX0_indexWithout_9 rfl (lv_at hl 0 rfl) ?_
    refine lv_iconst (v := nI 1) hx hb dX0_indexWithout_10 (by decide) ?_
    refine lv_isub hx hb dX0_indexWithout_11 ?_
    refine pw_topi (pk_sub (by omega)) ?_
    refine pw_topi (y := nI (iw x r)) (by unfold iw; first | rw [if_neg (by omega)] | rw [if_pos (by omega)]) ?_
    exact W.iret hx hb hr (fun t ht _ => ⟨rfl, ht⟩) (fun q h => by cases h) dX0_indexWithout_12
  · refine lv_iload_n hx hb dX0_indexWithout_5 rfl (lv_at hl 0 rfl) ?_
    refine lv_goto (tgt := 12) hx hb dX0_indexWithout_6 (by decide) ?_
    refine pw_topi (y := nI (iw x r)) (by unfold iw; first | rw [if_neg (by omega)] | rw [if_pos (by omega)]) ?_
    exact W.iret hx hb hr (fun t ht _ => ⟨rfl, ht⟩) (fun q h => by cases h) dX0_indexWithout_12

theorem tb_lt {n : Nat} {nx : Nat → Nat → Nat} {C : pw_C} (hN : gN n nx C) {a : Int32} {bf x : Nat} : ∀ i, x < n → tbF nx a bf i x < n := by
  intro i
  induction i with
  | zero => intro h; exact h
  | succ i ih => intro h; exact (hN _ (sgn_lt _ _) _ (ih h)).1

set_option maxHeartbeats 4000000 in
set_option maxRecDepth 100000 in
theorem L_drawOf {p : Program} {l : Launch} {e : Env} {s : State} {m : MethodId} {args : Array Value} {below : List Frame} {meth : Method} {c : Code} {H : Heap} {locs : List Loc} {Q : State → Prop} (S : CallFix p m c cX0_drawOf 10 s args wsX0_drawOf RX0) {D : va_G} {cy : Nat → ClassId} {Ad : Nat → Nat} {n mm : Nat} {C : pw_C} (hK : pw_K D cy s) (hP : pw_P D cy Ad (shX n) C H) (hF : fX n mm Ad C) (hn : 1 ≤ n ∧ n ≤ 12) {nx : Nat → Nat → Nat} (hN : gN n nx C) (a : Int32) (len k : Nat) (hle : len ≤ 64) (hk0 : k ≤ 99) (r : Option Nat) (hq : ∀ (pc9 : Nat) (ls : Array Slot), decode cX0_drawOf pc9 = .ok (.ireturn, 1) → W p l e (k2_rm 3 69) s m args below meth c H locs 0 0 Q (F0 m pc9 ls [.int (oi r)])) : ∀ (f : Nat) (b : Nat) (hm : Bool) (dr : Nat) (st : Nat) (ls : Array Slot), 500 - b < f → (b ≤ 500) → (dr ≤ b) → (st < n) → (drF nx n a len k (500 - b) b hm dr st = r) → lv_has ls 10 [(7, .int (nI b)), (6, .int (nI st)), (5, .int (nI dr)), (4, .int (pb hm)), (0, .ref (Ad 1)), (1, .int a), (2, .int (nI len)), (3, .int (nI k))] → W p l e (k2_rm 3 69) s m args below meth c H locs 0 0 Q (F0 m 12 ls []) := by
  have hx := S.1
  have hb := S.2.1
  have hml := S.2.2.1
  have hown := S.2.2.2.1
  have hts := S.2.2.2.2
  intro f
  induction f with
  | zero => intro b hm dr st ls hf; exact absurd hf (Nat.not_lt_zero _)
  | succ f ih =>
    intro b hm dr st ls hf hb9 hdr hst hr0 hl
    refine lv_iload hx hb dX0_drawOf_12 (lv_at hl 0 rfl) ?_
    refine lv_sipush (v := nI 500) hx hb dX0_drawOf_14 (by decide) ?_
    refine pn_icmp_ge (tgt := 93) hx hb (by omega) (by omega) dX0_drawOf_17 (by decide) (fun c_17 => ?_) (fun c_17 => ?_)
    · have hz : 500 - b = 0 := by omega
      rw [hz] at hr0
      refine lv_bipush (v := (-2)) hx hb dX0_drawOf_93 (by decide) ?_
      refine pw_topi (y := oi r) (by rw [← hr0]; try rfl) ?_
      exact hq _ ls dX0_drawOf_95
    · obtain ⟨z, hz⟩ : ∃ z, 500 - b = z + 1 := ⟨499 - b, by omega⟩
      rw [hz, drF] at hr0
      have hz2 : z = 500 - (b + 1) := by omega
      have hbf : len * b ≤ 100000 := Nat.le_trans (Nat.mul_le_mul hle (show b ≤ 499 by omega)) (by decide)
      have htb : tbF nx a (len * b) len st < n := tb_lt hN len hst
      refine lv_iload_n hx hb dX0_drawOf_20 rfl (lv_at hl 6 rfl) ?_
      refine lv_iload hx hb dX0_drawOf_21 (lv_at hl 0 rfl) ?_
      refine lv_imul hx hb dX0_drawOf_23 ?_
      refine pw_topi (pk_mul _ _) ?_
      refine lv_istore (lv' := [(8, .int (nI (len * b))), (7, .int (nI b)), (6, .int (nI st)), (5, .int (nI dr)), (4, .int (pb hm)), (0, .ref (Ad 1)), (1, .int a), (2, .int (nI len)), (3, .int (nI k))]) hx hb dX0_drawOf_24 hl (by decide) rfl (fun ls hl => ?_)
      refine lv_aload_n hx hb dX0_drawOf_26 rfl (lv_at hl 5 rfl) ?_
      refine lv_iload_n hx hb dX0_drawOf_27 rfl (lv_at hl 6 rfl) ?_
      refine lv_iload hx hb dX0_drawOf_28 (lv_at hl 0 rfl) ?_
      refine lv_iload_n hx hb dX0_drawOf_30 rfl (lv_at hl 7 rfl) ?_
      refine pw_cv S hK hP 1 0 rfl rfl 3 (c_X0_blockMeets l D cy Ad n mm C hn hF nx hN a (len * b) len hbf (by omega)) gX0_drawOf_X0_blockMeets rfl rfl rfl (by decide +kernel) ⟨Nat.le_of_ble_eq_true rfl, Nat.le_of_ble_eq_true rfl⟩ rfl hl.1 rfl (Nat.le_of_ble_eq_true rfl) dX0_drawOf_31 ⟨Nat.le_refl _, Nat.le_refl _⟩ ?_
      refine lv_istore (lv' := [(9, .int (pb (bmF nx n a (len * b) len 1 (2 ^ n - 1)))), (8, .int (nI (len * b))), (7, .int (nI b)), (6, .int (nI st)), (5, .int (nI dr)), (4, .int (pb hm)), (0, .ref (Ad 1)), (1, .int a), (2, .int (nI len)), (3, .int (nI k))]) hx hb dX0_drawOf_34 hl (by decide) rfl (fun ls hl => ?_)
      generalize hmt : bmF nx n a (len * b) len 1 (2 ^ n - 1) = mt at hl hr0 ⊢
      rcases hm with _ | _ <;> rcases mt with _ | _
      · have hl : lv_has ls 10 [(9, .int (pb false)), (8, .int (nI (len * b))), (7, .int (nI b)), (6, .int (nI st)), (5, .int (nI dr)), (4, .int (pb false)), (0, .ref (Ad 1)), (1, .int a), (2, .int (nI len)), (3, .int (nI k))] := hl
        refine lv_iload hx hb dX0_drawOf_36 (lv_at hl 0 rfl) ?_
        refine pn_ifeq_b (tgt := 58) hx hb dX0_drawOf_38 (by decide) (fun _ => ?_) (fun h9 => absurd h9 (by decide))
        refine lv_iload hx hb dX0_drawOf_58 (lv_at hl 5 rfl) ?_
        refine pn_ifne_b (tgt := 68) hx hb dX0_drawOf_60 (by decide) (fun h9 => absurd h9 (by decide)) (fun _ => ?_)
        refine lv_iload hx hb dX0_drawOf_63 (lv_at hl 0 rfl) ?_
        refine pn_ifeq_b (tgt := 72) hx hb dX0_drawOf_65 (by decide) (fun _ => ?_) (fun h9 => absurd h9 (by decide))
        refine lv_iconst (v := nI 0) hx hb dX0_drawOf_72 (by decide) ?_
        refine pw_topi (y := pb false) rfl ?_
        refine lv_istore (lv' := [(4, .int (pb false)), (9, .int (pb false)), (8, .int (nI (len * b))), (7, .int (nI b)), (6, .int (nI st)), (5, .int (nI dr)), (0, .ref (Ad 1)), (1, .int a), (2, .int (nI len)), (3, .int (nI k))]) hx hb dX0_drawOf_73 hl (by decide) rfl (fun ls hl => ?_)
        refine lv_aload_n hx hb dX0_drawOf_75 rfl (lv_at hl 6 rfl) ?_
        refine lv_iload_n hx hb dX0_drawOf_76 rfl (lv_at hl 7 rfl) ?_
        refine lv_iload hx hb dX0_drawOf_77 (lv_at hl 2 rfl) ?_
        refine lv_iload_n hx hb dX0_drawOf_79 rfl (lv_at hl 8 rfl) ?_
        refine lv_iload hx hb dX0_drawOf_80 (lv_at hl 4 rfl) ?_
        refine pw_cv S hK hP 1 0 rfl rfl 4 (c_X0_throughBlock l D cy Ad n mm C hn hF nx hN a (len * b) len st hbf (by omega) hst) gX0_drawOf_X0_throughBlock rfl rfl rfl (by decide +kernel) ⟨Nat.le_of_ble_eq_true rfl, Nat.le_of_ble_eq_true rfl⟩ rfl hl.1 rfl (Nat.le_of_ble_eq_true rfl) dX0_drawOf_82 ⟨Nat.le_refl _, Nat.le_refl _⟩ ?_
        refine lv_istore (lv' := [(6, .int (nI (tbF nx a (len * b) len st))), (4, .int (pb false)), (9, .int (pb false)), (8, .int (nI (len * b))), (7, .int (nI b)), (5, .int (nI dr)), (0, .ref (Ad 1)), (1, .int a), (2, .int (nI len)), (3, .int (nI k))]) hx hb dX0_drawOf_85 hl (by decide) rfl (fun ls hl => ?_)
        refine lv_iinc (v := nI (b + 1)) (lv' := [(7, .int (nI (b + 1))), (6, .int (nI (tbF nx a (len * b) len st))), (4, .int (pb false)), (9, .int (pb false)), (8, .int (nI (len * b))), (5, .int (nI dr)), (0, .ref (Ad 1)), (1, .int a), (2, .int (nI len)), (3, .int (nI k))]) hx hb dX0_drawOf_87 hl (k := 4) rfl (nI_add _ 1) (by decide) rfl (fun ls hl => ?_)
        refine lv_goto (tgt := 12) hx hb dX0_drawOf_90 (by decide) ?_
        exact ih (b + 1) false (dr) _ ls (by omega) (by omega) (by omega) htb (by rw [← hz2]; exact hr0) (lv_sub hl [0, 1, 5, 2, 6, 7, 8, 9] rfl)
      · have hl : lv_has ls 10 [(9, .int (pb true)), (8, .int (nI (len * b))), (7, .int (nI b)), (6, .int (nI st)), (5, .int (nI dr)), (4, .int (pb false)), (0, .ref (Ad 1)), (1, .int a), (2, .int (nI len)), (3, .int (nI k))] := hl
        refine lv_iload hx hb dX0_drawOf_36 (lv_at hl 0 rfl) ?_
        refine pn_ifeq_b (tgt := 58) hx hb dX0_drawOf_38 (by decide) (fun h9 => absurd h9 (by decide)) (fun _ => ?_)
        refine lv_iload hx hb dX0_drawOf_41 (lv_at hl 5 rfl) ?_
        refine pn_ifeq_b (tgt := 58) hx hb dX0_drawOf_43 (by decide) (fun _ => ?_) (fun h9 => absurd h9 (by decide))
        refine lv_iload hx hb dX0_drawOf_58 (lv_at hl 5 rfl) ?_
        refine pn_ifne_b (tgt := 68) hx hb dX0_drawOf_60 (by decide) (fun h9 => absurd h9 (by decide)) (fun _ => ?_)
        refine lv_iload hx hb dX0_drawOf_63 (lv_at hl 0 rfl) ?_
        refine pn_ifeq_b (tgt := 72) hx hb dX0_drawOf_65 (by decide) (fun h9 => absurd h9 (by decide)) (fun _ => ?_)
        refine lv_iconst (v := nI 1) hx hb dX0_drawOf_68 (by decide) ?_
        refine pw_topi (y := pb true) rfl ?_
        refine lv_goto (tgt := 73) hx hb dX0_drawOf_69 (by decide) ?_
        refine lv_istore (lv' := [(4, .int (pb true)), (9, .int (pb true)), (8, .int (nI (len * b))), (7, .int (nI b)), (6, .int (nI st)), (5, .int (nI dr)), (0, .ref (Ad 1)), (1, .int a), (2, .int (nI len)), (3, .int (nI k))]) hx hb dX0_drawOf_73 hl (by decide) rfl (fun ls hl => ?_)
        refine lv_aload_n hx hb dX0_drawOf_75 rfl (lv_at hl 6 rfl) ?_
        refine lv_iload_n hx hb dX0_drawOf_76 rfl (lv_at hl 7 rfl) ?_
        refine lv_iload hx hb dX0_drawOf_77 (lv_at hl 2 rfl) ?_
        refine lv_iload_n hx hb dX0_drawOf_79 rfl (lv_at hl 8 rfl) ?_
        refine lv_iload hx hb dX0_drawOf_80 (lv_at hl 4 rfl) ?_
        refine pw_cv S hK hP 1 0 rfl rfl 4 (c_X0_throughBlock l D cy Ad n mm C hn hF nx hN a (len * b) len st hbf (by omega) hst) gX0_drawOf_X0_throughBlock rfl rfl rfl (by decide +kernel) ⟨Nat.le_of_ble_eq_true rfl, Nat.le_of_ble_eq_true rfl⟩ rfl hl.1 rfl (Nat.le_of_ble_eq_true rfl) dX0_drawOf_82 ⟨Nat.le_refl _, Nat.le_refl _⟩ ?_
        refine lv_istore (lv' := [(6, .int (nI (tbF nx a (len * b) len st))), (4, .int (pb true)), (9, .int (pb true)), (8, .int (nI (len * b))), (7, .int (nI b)), (5, .int (nI dr)), (0, .ref (Ad 1)), (1, .int a), (2, .int (nI len)), (3, .int (nI k))]) hx hb dX0_drawOf_85 hl (by decide) rfl (fun ls hl => ?_)
        refine lv_iinc (v := nI (b + 1)) (lv' := [(7, .int (nI (b + 1))), (6, .int (nI (tbF nx a (len * b) len st))), (4, .int (pb true)), (9, .int (pb true)), (8, .int (nI (len * b))), (5, .int (nI dr)), (0, .ref (Ad 1)), (1, .int a), (2, .int (nI len)), (3, .int (nI k))]) hx hb dX0_drawOf_87 hl (k := 4) rfl (nI_add _ 1) (by decide) rfl (fun ls hl => ?_)
        refine lv_goto (tgt := 12) hx hb dX0_drawOf_90 (by decide) ?_
        exact ih (b + 1) true (dr) _ ls (by omega) (by omega) (by omega) htb (by rw [← hz2]; exact hr0) (lv_sub hl [0, 1, 5, 2, 6, 7, 8, 9] rfl)
      · have hl : lv_has ls 10 [(9, .int (pb false)), (8, .int (nI (len * b))), (7, .int (nI b)), (6, .int (nI st)), (5, .int (nI dr)), (4, .int (pb true)), (0, .ref (Ad 1)), (1, .int a), (2, .int (nI len)), (3, .int (nI k))] := hl
        refine lv_iload hx hb dX0_drawOf_36 (lv_at hl 0 rfl) ?_
        refine pn_ifeq_b (tgt := 58) hx hb dX0_drawOf_38 (by decide) (fun _ => ?_) (fun h9 => absurd h9 (by decide))
        refine lv_iload hx hb dX0_drawOf_58 (lv_at hl 5 rfl) ?_
        refine pn_ifne_b (tgt := 68) hx hb dX0_drawOf_60 (by decide) (fun _ => ?_) (fun h9 => absurd h9 (by decide))
        refine lv_iconst (v := nI 1) hx hb dX0_drawOf_68 (by decide) ?_
        refine pw_topi (y := pb true) rfl ?_
        refine lv_goto (tgt := 73) hx hb dX0_drawOf_69 (by decide) ?_
        refine lv_istore (lv' := [(4, .int (pb true)), (9, .int (pb false)), (8, .int (nI (len * b))), (7, .int (nI b)), (6, .int (nI st)), (5, .int (nI dr)), (0, .ref (Ad 1)), (1, .int a), (2, .int (nI len)), (3, .int (nI k))]) hx hb dX0_drawOf_73 hl (by decide) rfl (fun ls hl => ?_)
        refine lv_aload_n hx hb dX0_drawOf_75 rfl (lv_at hl 6 rfl) ?_
        refine lv_iload_n hx hb dX0_drawOf_76 rfl (lv_at hl 7 rfl) ?_
        refine lv_iload hx hb dX0_drawOf_77 (lv_at hl 2 rfl) ?_
        refine lv_iload_n hx hb dX0_drawOf_79 rfl (lv_at hl 8 rfl) ?_
        refine lv_iload hx hb dX0_drawOf_80 (lv_at hl 4 rfl) ?_
        refine pw_cv S hK hP 1 0 rfl rfl 4 (c_X0_throughBlock l D cy Ad n mm C hn hF nx hN a (len * b) len st hbf (by omega) hst) gX0_drawOf_X0_throughBlock rfl rfl rfl (by decide +kernel) ⟨Nat.le_of_ble_eq_true rfl, Nat.le_of_ble_eq_true rfl⟩ rfl hl.1 rfl (Nat.le_of_ble_eq_true rfl) dX0_drawOf_82 ⟨Nat.le_refl _, Nat.le_refl _⟩ ?_
        refine lv_istore (lv' := [(6, .int (nI (tbF nx a (len * b) len st))), (4, .int (pb true)), (9, .int (pb false)), (8, .int (nI (len * b))), (7, .int (nI b)), (5, .int (nI dr)), (0, .ref (Ad 1)), (1, .int a), (2, .int (nI len)), (3, .int (nI k))]) hx hb dX0_drawOf_85 hl (by decide) rfl (fun ls hl => ?_)
        refine lv_iinc (v := nI (b + 1)) (lv' := [(7, .int (nI (b + 1))), (6, .int (nI (tbF nx a (len * b) len st))), (4, .int (pb true)), (9, .int (pb false)), (8, .int (nI (len * b))), (5, .int (nI dr)), (0, .ref (Ad 1)), (1, .int a), (2, .int (nI len)), (3, .int (nI k))]) hx hb dX0_drawOf_87 hl (k := 4) rfl (nI_add _ 1) (by decide) rfl (fun ls hl => ?_)
        refine lv_goto (tgt := 12) hx hb dX0_drawOf_90 (by decide) ?_
        exact ih (b + 1) true (dr) _ ls (by omega) (by omega) (by omega) htb (by rw [← hz2]; exact hr0) (lv_sub hl [0, 1, 5, 2, 6, 7, 8, 9] rfl)
      · have hl : lv_has ls 10 [(9, .int (pb true)), (8, .int (nI (len * b))), (7, .int (nI b)), (6, .int (nI st)), (5, .int (nI dr)), (4, .int (pb true)), (0, .ref (Ad 1)), (1, .int a), (2, .int (nI len)), (3, .int (nI k))] := hl
        refine lv_iload hx hb dX0_drawOf_36 (lv_at hl 0 rfl) ?_
        refine pn_ifeq_b (tgt := 58) hx hb dX0_drawOf_38 (by decide) (fun h9 => absurd h9 (by decide)) (fun _ => ?_)
        refine lv_iload hx hb dX0_drawOf_41 (lv_at hl 5 rfl) ?_
        refine pn_ifeq_b (tgt := 58) hx hb dX0_drawOf_43 (by decide) (fun h9 => absurd h9 (by decide)) (fun _ => ?_)
        refine lv_iload hx hb dX0_drawOf_46 (lv_at hl 4 rfl) ?_
        refine lv_iload_n hx hb dX0_drawOf_48 rfl (lv_at hl 9 rfl) ?_
        refine pn_icmp_ne (tgt := 55) hx hb (by omega) (by omega) dX0_drawOf_49 (by decide) (fun c_49 => ?_) (fun c_49 => ?_)
        · refine lv_iinc (v := nI (dr + 1)) (lv' := [(5, .int (nI (dr + 1))), (9, .int (pb true)), (8, .int (nI (len * b))), (7, .int (nI b)), (6, .int (nI st)), (4, .int (pb true)), (0, .ref (Ad 1)), (1, .int a), (2, .int (nI len)), (3, .int (nI k))]) hx hb dX0_drawOf_55 hl (k := 4) rfl (nI_add _ 1) (by decide) rfl (fun ls hl => ?_)
          refine lv_iload hx hb dX0_drawOf_58 (lv_at hl 5 rfl) ?_
          refine pn_ifne_b (tgt := 68) hx hb dX0_drawOf_60 (by decide) (fun _ => ?_) (fun h9 => absurd h9 (by decide))
          refine lv_iconst (v := nI 1) hx hb dX0_drawOf_68 (by decide) ?_
          refine pw_topi (y := pb true) rfl ?_
          refine lv_goto (tgt := 73) hx hb dX0_drawOf_69 (by decide) ?_
          refine lv_istore (lv' := [(4, .int (pb true)), (5, .int (nI (dr + 1))), (9, .int (pb true)), (8, .int (nI (len * b))), (7, .int (nI b)), (6, .int (nI st)), (0, .ref (Ad 1)), (1, .int a), (2, .int (nI len)), (3, .int (nI k))]) hx hb dX0_drawOf_73 hl (by decide) rfl (fun ls hl => ?_)
          refine lv_aload_n hx hb dX0_drawOf_75 rfl (lv_at hl 6 rfl) ?_
          refine lv_iload_n hx hb dX0_drawOf_76 rfl (lv_at hl 7 rfl) ?_
          refine lv_iload hx hb dX0_drawOf_77 (lv_at hl 3 rfl) ?_
          refine lv_iload_n hx hb dX0_drawOf_79 rfl (lv_at hl 8 rfl) ?_
          refine lv_iload hx hb dX0_drawOf_80 (lv_at hl 5 rfl) ?_
          refine pw_cv S hK hP 1 0 rfl rfl 4 (c_X0_throughBlock l D cy Ad n mm C hn hF nx hN a (len * b) len st hbf (by omega) hst) gX0_drawOf_X0_throughBlock rfl rfl rfl (by decide +kernel) ⟨Nat.le_of_ble_eq_true rfl, Nat.le_of_ble_eq_true rfl⟩ rfl hl.1 rfl (Nat.le_of_ble_eq_true rfl) dX0_drawOf_82 ⟨Nat.le_refl _, Nat.le_refl _⟩ ?_
          refine lv_istore (lv' := [(6, .int (nI (tbF nx a (len * b) len st))), (4, .int (pb true)), (5, .int (nI (dr + 1))), (9, .int (pb true)), (8, .int (nI (len * b))), (7, .int (nI b)), (0, .ref (Ad 1)), (1, .int a), (2, .int (nI len)), (3, .int (nI k))]) hx hb dX0_drawOf_85 hl (by decide) rfl (fun ls hl => ?_)
          refine lv_iinc (v := nI (b + 1)) (lv' := [(7, .int (nI (b + 1))), (6, .int (nI (tbF nx a (len * b) len st))), (4, .int (pb true)), (5, .int (nI (dr + 1))), (9, .int (pb true)), (8, .int (nI (len * b))), (0, .ref (Ad 1)), (1, .int a), (2, .int (nI len)), (3, .int (nI k))]) hx hb dX0_drawOf_87 hl (k := 5) rfl (nI_add _ 1) (by decide) rfl (fun ls hl => ?_)
          refine lv_goto (tgt := 12) hx hb dX0_drawOf_90 (by decide) ?_
          exact ih (b + 1) true (dr + 1) _ ls (by omega) (by omega) (by omega) htb (by rw [← hz2]; (rw [if_neg (by simpa using c_49)] at hr0; exact hr0)) (lv_sub hl [0, 1, 3, 2, 6, 7, 8, 9] rfl)
        · rw [if_pos (by simp [c_49])] at hr0
          refine lv_iload hx hb dX0_drawOf_52 (lv_at hl 3 rfl) ?_
          refine pw_topi (y := oi r) (by rw [← hr0]; try rfl) ?_
          exact hq _ ls dX0_drawOf_54

set_option maxHeartbeats 4000000 in
set_option maxRecDepth 100000 in
theorem c_X0_drawOf (l : Launch) (D : va_G) (cy : Nat → ClassId) (Ad : Nat → Nat) (n mm : Nat) (C : pw_C) (hn : 1 ≤ n ∧ n ≤ 12) (hF : fX n mm Ad C) (nx : Nat → Nat → Nat) (hN : gN n nx C) (a : Int32) (len k : Nat) (hle : len ≤ 64) (hk0 : k ≤ 99) : Met l yX0_drawOf wsX0_drawOf (k2_rm 3 69) (pw_Pre ([.ref (Ad 1), .int a, .int (nI len), .int (nI k)]) D cy Ad (shX n) C) (k2_QcV (.int (oi (drF nx n a len k 500 0 false 0 0)))) 0 0 (fun _ => False) := by
  refine Met.ofW (cc := cX0_drawOf) (maxL := 10) (ret := (some .int)) (by decide) rfl ?_
  intro p e s m args below meth c s₁ B hml hv
  obtain ⟨rfl, hP, hK⟩ := hv
  have hx := B.exec
  have hb := B.bytes
  have hr := B.returns
  have hts := atoms_spec (ws := wsX0_drawOf) B.pre
  have hown : s.vm.findClass RX0 = some m.cls := findClass_of_methodNamed B.named
  have hlocks := B.notSynchronized
  have S : CallFix p m c cX0_drawOf 10 s ([.ref (Ad 1), .int a, .int (nI len), .int (nI k)]).toArray wsX0_drawOf RX0 := ⟨hx, hb, hml, hown, hts⟩
  change W p l e (k2_rm 3 69) s m _ below meth c s.heap [] 0 0 _ _
  have hl := lv_entry ([.ref (Ad 1), .int a, .int (nI len), .int (nI k)]) (n := 10) (Nat.le_of_ble_eq_true rfl)
  rw [lg_entry_eq]
  generalize (lg_sl ([.ref (Ad 1), .int a, .int (nI len), .int (nI k)]) ++ List.replicate (10 - (lg_sl ([.ref (Ad 1), .int a, .int (nI len), .int (nI k)])).length) Slot.unset).toArray = ls at hl ⊢
  have hl : lv_has ls 10 [(0, .ref (Ad 1)), (1, .int a), (2, .int (nI len)), (3, .int (nI k))] := hl
  refine lv_iconst (v := nI 0) hx hb dX0_drawOf_0 (by decide) ?_
  refine pw_topi (y := pb false) rfl ?_
  refine lv_istore (lv' := [(4, .int (pb false)), (0, .ref (Ad 1)), (1, .int a), (2, .int (nI len)), (3, .int (nI k))]) hx hb dX0_drawOf_1 hl (by decide) rfl (fun ls hl => ?_)
  refine lv_iconst (v := nI 0) hx hb dX0_drawOf_3 (by decide) ?_
  refine lv_istore (lv' := [(5, .int (nI 0)), (4, .int (pb false)), (0, .ref (Ad 1)), (1, .int a), (2, .int (nI len)), (3, .int (nI k))]) hx hb dX0_drawOf_4 hl (by decide) rfl (fun ls hl => ?_)
  refine lv_iconst (v := nI 0) hx hb dX0_drawOf_6 (by decide) ?_
  refine lv_istore (lv' := [(6, .int (nI 0)), (5, .int (nI 0)), (4, .int (pb false)), (0, .ref (Ad 1)), (1, .int a), (2, .int (nI len)), (3, .int (nI k))]) hx hb dX0_drawOf_7 hl (by decide) rfl (fun ls hl => ?_)
  refine lv_iconst (v := nI 0) hx hb dX0_drawOf_9 (by decide) ?_
  refine lv_istore (lv' := [(7, .int (nI 0)), (6, .int (nI 0)), (5, .int (nI 0)), (4, .int (pb false)), (0, .ref (Ad 1)), (1, .int a), (2, .int (nI len)), (3, .int (nI k))]) hx hb dX0_drawOf_10 hl (by decide) rfl (fun ls hl => ?_)
  exact L_drawOf S hK hP hF hn hN a len k hle hk0 _ (fun pc9 ls hd9 => W.iret hx hb hr (fun t ht _ => ⟨rfl, ht⟩) (fun q h => by cases h) hd9) 501 0 false 0 0 ls (by omega) (by omega) (by omega) (by omega) rfl (lv_sub hl [0, 1, 2, 3, 4, 5, 6, 7] rfl)
