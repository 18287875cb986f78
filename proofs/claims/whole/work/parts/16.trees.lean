theorem iw_lt {x r n : Nat} (hx : x < n) (hr : r < n) (h : ¬ x = r) : iw x r < n - 1 := by
  unfold iw; split <;> omega
theorem iw_inj {x y r : Nat} (hx : ¬ x = r) (hy : ¬ y = r) (h : iw x r = iw y r) : x = y := by
  unfold iw at h; split at h <;> split at h <;> omega
def frF (nx : Nat → Nat → Nat) (x r : Nat) : Nat → Nat → Int64
  | 0 => fun _ => 0
  | u + 1 => fun j =>
    (if nx u x = x then frF nx x r u j else if nx u x = r then (if j = iw x r then frF nx x r u j + 1 else frF nx x r u j)
     else (if j = iw (nx u x) r then (if j = iw x r then frF nx x r u j + 1 else frF nx x r u j) - 1 else (if j = iw x r then frF nx x r u j + 1 else frF nx x r u j)))
/-- a step of the elimination, up to row i and column j -/
def el2 (z k : Nat) (M : Nat → Nat → Int64) (dv : Int64) (i j a b : Nat) : Int64 := if k < a ∧ k < b ∧ a < z ∧ b < z ∧ (a < i ∨ (a = i ∧ b < j)) then (M a b * M k k - M a k * M k b) / dv else M a b
def elim (z k : Nat) (M : Nat → Nat → Int64) (dv : Int64) (a b : Nat) : Int64 := if k < a ∧ k < b ∧ a < z ∧ b < z then (M a b * M k k - M a k * M k b) / dv else M a b
def detF (z : Nat) : Nat → Nat → (Nat → Nat → Int64) → Int64 → Int64
  | 0, _, _, pv => pv
  | f + 1, k, M, pv => if M k k = 0 then 0 else detF z f (k + 1) (elim z k M pv) (M k k)
theorem elim_congr {z k : Nat} {M M' : Nat → Nat → Int64} {dv : Int64} (hk : k < z) (h : ∀ a b, a < z → b < z → M a b = M' a b) : ∀ a b, a < z → b < z → elim z k M dv a b = elim z k M' dv a b := by
  intro a b ha hb
  unfold elim
  rw [h a b ha hb, h k k hk hk, h a k ha hk, h k b hk hb]
theorem detF_congr {z : Nat} : ∀ (f k : Nat) (M M' : Nat → Nat → Int64) (dv : Int64), k + f = z → (∀ a b, a < z → b < z → M a b = M' a b) → detF z f k M dv = detF z f k M' dv := by
  intro f
  induction f with
  | zero => intro k M M' dv _ _; rfl
  | succ f ih =>
    intro k M M' dv hk h
    unfold detF
    rw [h k k (by omega) (by omega), ih (k + 1) (elim z k M dv) (elim z k M' dv) _ (by omega) (elim_congr (by omega) h)]
/-- the matrix whose minor counts the trees -/
def tmx (nx : Nat → Nat → Nat) (r a b : Nat) : Int64 := frF nx (if a < r then a else a + 1) r 8 b
def trF (nx : Nat → Nat → Nat) (n r : Nat) : Int64 := detF (n - 1) (n - 1) 0 (tmx nx r) 1
def trS (nx : Nat → Nat → Nat) (n : Nat) : Nat → Int64
  | 0 => 0
  | k + 1 => trS nx n k + trF nx n k

set_option maxHeartbeats 4000000 in
set_option maxRecDepth 100000 in
theorem L_fillMinorRow {p : Program} {l : Launch} {e : Env} {s : State} {m : MethodId} {args : Array Value} {below : List Frame} {meth : Method} {c : Code} {Q : State → Prop} (S : CallFix p m c cX0_fillMinorRow 7 s args wsX0_fillMinorRow RX0) {D : va_G} {cy : Nat → ClassId} {Ad : Nat → Nat} {n mm : Nat} {C0 : pw_C} (hK : pw_K D cy s) (hI : pw_I Ad (shX n)) (hF0 : fX n mm Ad C0) (hn : 1 ≤ n ∧ n ≤ 12) {nx : Nat → Nat → Nat} (hN0 : gN n nx C0) (x r : Nat) (hx0 : x < n) (hr0 : r < n) (hne : ¬ x = r) (hq : ∀ (pc9 : Nat) (C : pw_C) (H : Heap) (locs : List Loc) (ls : Array Slot), decode cX0_fillMinorRow pc9 = .ok (.return_, 1) → pw_P D cy Ad (shX n) C H → va_S (pw_fr Ad (shX n)) s.heap H locs → (pw_B (fun k => k = 29 + iw x r) C0 C ∧ ∀ j, j < n → C.2.1 (29 + iw x r) j = frF nx x r 8 j) → W p l e (k2_rm 1 24) s m args below meth c H locs 0 0 Q (F0 m pc9 ls [])) : ∀ (f : Nat) (C : pw_C) (H : Heap) (locs : List Loc) (u : Nat) (ls : Array Slot), 8 - u < f → (pw_P D cy Ad (shX n) C H) → (va_S (pw_fr Ad (shX n)) s.heap H locs) → (pw_B (fun k => k = 29 + iw x r) C0 C) → (u ≤ 8) → (∀ j, j < n → C.2.1 (29 + iw x r) j = frF nx x r u j) → lv_has ls 7 [(5, .int (nI u)), (0, .ref (Ad 1)), (1, .int (nI x)), (2, .int (nI r)), (3, .int (nI (iw x r))), (4, .ref (Ad (29 + iw x r)))] → W p l e (k2_rm 1 24) s m args below meth c H locs 0 0 Q (F0 m 23 ls []) := by
  have hx := S.1
  have hb := S.2.1
  have hml := S.2.2.1
  have hown := S.2.2.2.1
  have hts := S.2.2.2.2
  intro f
  induction f with
  | zero => intro C H locs u ls hf; exact absurd hf (Nat.not_lt_zero _)
  | succ f ih =>
    intro C H locs u ls hf hP hS hB hu0 hv hl
    have hF := fX_B hF0 hB
    have hN := gN_B hN0 hB (fun u9 hu9 h9 => by have h8 : 21 + u9 = 29 + iw x r := h9; omega)
    have hiw := iw_lt hx0 hr0 hne
    refine lv_iload hx hb dX0_fillMinorRow_23 (lv_at hl 0 rfl) ?_
    refine lv_bipush (v := nI 8) hx hb dX0_fillMinorRow_25 (by decide) ?_
    refine pn_icmp_ge (tgt := 86) hx hb (by omega) (by omega) dX0_fillMinorRow_27 (by decide) (fun c_27 => ?_) (fun c_27 => ?_)
    · obtain rfl : u = 8 := by omega
      exact hq _ C H locs ls dX0_fillMinorRow_86 hP hS ⟨hB, hv⟩
    · refine lv_aload_n hx hb dX0_fillMinorRow_30 rfl (lv_at hl 1 rfl) ?_
      refine pw_get hx hb hts (fun _ h9 => List.mem_cons_of_mem _ (List.mem_append_right _ h9)) hown hK hP 1 rfl rfl 1 (by decide) hF.2.1 rfl (hts (.fieldLink RX0 17 "PastDraws$Chain" "next" "[[I") (List.mem_of_getElem? (i := 2) rfl)) dX0_fillMinorRow_31 ?_
      refine lv_iload hx hb dX0_fillMinorRow_34 (lv_at hl 0 rfl) ?_
      refine pw_aald4 hx hb hK hP 5 rfl (by first | exact sgn_lt _ _ | omega) (by decide) dX0_fillMinorRow_36 ?_
      refine lv_iload_n hx hb dX0_fillMinorRow_37 rfl (lv_at hl 2 rfl) ?_
      have hu_38 : u < 8 := (by omega)
      have hx_38 : x < n := (by first | exact sgn_lt _ _ | omega)
      have q_38 : nx u x < n := (hN _ hu_38 _ hx_38).1
      refine pw_iald hx hb hK hP (21 + u) (shX_nx hu_38) hx_38 (by omega) (hN _ hu_38 _ hx_38).2 dX0_fillMinorRow_38 ?_
      refine lv_istore (lv' := [(6, .int (nI (nx u x))), (5, .int (nI u)), (0, .ref (Ad 1)), (1, .int (nI x)), (2, .int (nI r)), (3, .int (nI (iw x r))), (4, .ref (Ad (29 + iw x r)))]) hx hb dX0_fillMinorRow_39 hl (by decide) rfl (fun ls hl => ?_)
      refine lv_iload hx hb dX0_fillMinorRow_41 (lv_at hl 0 rfl) ?_
      refine lv_iload_n hx hb dX0_fillMinorRow_43 rfl (lv_at hl 3 rfl) ?_
      refine pn_icmp_eq (tgt := 55) hx hb (by omega) (by omega) dX0_fillMinorRow_44 (by decide) (fun c_44 => ?_) (fun c_44 => ?_)
      · have hv : ∀ j, j < n → C.2.1 (29 + iw x r) j = frF nx x r (u + 1) j := fun j hj => by
          show _ = if nx u x = x then _ else _
          rw [if_pos c_44]; exact hv j hj
        refine lv_iload hx hb dX0_fillMinorRow_55 (lv_at hl 0 rfl) ?_
        refine lv_iload_n hx hb dX0_fillMinorRow_57 rfl (lv_at hl 3 rfl) ?_
        refine pn_icmp_eq (tgt := 80) hx hb (by omega) (by omega) dX0_fillMinorRow_58 (by decide) (fun c_58 => ?_) (fun c_58 => absurd c_44 c_58)
        refine lv_iinc (v := nI (u + 1)) (lv' := [(5, .int (nI (u + 1))), (6, .int (nI (nx u x))), (0, .ref (Ad 1)), (1, .int (nI x)), (2, .int (nI r)), (3, .int (nI (iw x r))), (4, .ref (Ad (29 + iw x r)))]) hx hb dX0_fillMinorRow_80 hl (k := 1) rfl (nI_add _ 1) (by decide) rfl (fun ls hl => ?_)
        refine lv_goto (tgt := 23) hx hb dX0_fillMinorRow_83 (by decide) ?_
        exact ih C H locs (u + 1) ls (by omega) hP hS hB (by omega) hv (lv_sub hl [0, 2, 3, 4, 5, 6] rfl)
      · refine lv_aload hx hb dX0_fillMinorRow_47 (lv_at hl 6 rfl) ?_
        refine lv_iload_n hx hb dX0_fillMinorRow_49 rfl (lv_at hl 5 rfl) ?_
        refine lv_dup2_11 hx hb dX0_fillMinorRow_50 rfl rfl ?_
        refine pw_lald hx hb hK hP (29 + (iw x r)) (shX_mi (by omega) (by omega)) (by omega) (by omega) (v := frF nx x r u (iw x r)) (hv _ (by omega)) dX0_fillMinorRow_51 ?_
        refine lv_lconst (v := 1) hx hb dX0_fillMinorRow_52 (by decide) ?_
        refine lv_ladd hx hb dX0_fillMinorRow_53 ?_
        refine pw_last hx hb hK hP hI hS (29 + iw x r) (shX_mi (by omega) (by omega)) (by omega) (by first | decide | omega) dX0_fillMinorRow_54 (fun H locs hP hS => ?_)
        obtain ⟨C54, hC54⟩ : ∃ z9, z9 = pw_setL C (29 + iw x r) (iw x r) ((frF nx x r u (iw x r)) + 1) := ⟨_, rfl⟩
        rw [← hC54] at hP
        have hB := by have hB9 := hB; exact (show pw_B (fun k => k = 29 + iw x r) C0 C54 by rw [hC54]; exact hB9.setL (by show (29 + iw x r) = 29 + iw x r; first | trivial | omega))
        have hF := fX_B hF0 hB
        have hN := gN_B hN0 hB (fun u9 hu9 h9 => by have h8 : 21 + u9 = 29 + iw x r := h9; omega)
        refine lv_iload hx hb dX0_fillMinorRow_55 (lv_at hl 0 rfl) ?_
        refine lv_iload_n hx hb dX0_fillMinorRow_57 rfl (lv_at hl 3 rfl) ?_
        refine pn_icmp_eq (tgt := 80) hx hb (by omega) (by omega) dX0_fillMinorRow_58 (by decide) (fun c_58 => absurd c_58 c_44) (fun c_58 => ?_)
        refine lv_iload hx hb dX0_fillMinorRow_61 (lv_at hl 0 rfl) ?_
        refine lv_iload_n hx hb dX0_fillMinorRow_63 rfl (lv_at hl 4 rfl) ?_
        refine pn_icmp_eq (tgt := 80) hx hb (by omega) (by omega) dX0_fillMinorRow_64 (by decide) (fun c_64 => ?_) (fun c_64 => ?_)
        · have hv : ∀ j, j < n → C54.2.1 (29 + iw x r) j = frF nx x r (u + 1) j := fun j hj => by
            show _ = if nx u x = x then _ else if nx u x = r then _ else _
            rw [if_neg c_44, if_pos c_64, hC54, sl_at]
            split <;> rename_i q
            · rw [q]
            · exact hv j hj
          refine lv_iinc (v := nI (u + 1)) (lv' := [(5, .int (nI (u + 1))), (6, .int (nI (nx u x))), (0, .ref (Ad 1)), (1, .int (nI x)), (2, .int (nI r)), (3, .int (nI (iw x r))), (4, .ref (Ad (29 + iw x r)))]) hx hb dX0_fillMinorRow_80 hl (k := 1) rfl (nI_add _ 1) (by decide) rfl (fun ls hl => ?_)
          refine lv_goto (tgt := 23) hx hb dX0_fillMinorRow_83 (by decide) ?_
          exact ih C54 H locs (u + 1) ls (by omega) hP hS hB (by omega) hv (lv_sub hl [0, 2, 3, 4, 5, 6] rfl)
        · have hto : iw (nx u x) r < n := Nat.lt_of_lt_of_le (iw_lt q_38 (by omega) c_64) (Nat.sub_le _ _)
          refine lv_aload hx hb dX0_fillMinorRow_67 (lv_at hl 6 rfl) ?_
          refine lv_iload hx hb dX0_fillMinorRow_69 (lv_at hl 0 rfl) ?_
          refine lv_iload_n hx hb dX0_fillMinorRow_71 rfl (lv_at hl 4 rfl) ?_
          refine pw_cs S 2 (c_X0_indexWithout l (nx u x) r (by omega) (by omega) (by assumption)) gX0_fillMinorRow_X0_indexWithout rfl rfl rfl (by decide +kernel) ⟨Nat.le_of_ble_eq_true rfl, Nat.le_of_ble_eq_true rfl⟩ rfl hl.1 rfl (Nat.le_of_ble_eq_true rfl) dX0_fillMinorRow_72 ⟨Nat.le_refl _, Nat.le_refl _⟩ ?_
          refine lv_dup2_11 hx hb dX0_fillMinorRow_75 rfl rfl ?_
          refine pw_lald hx hb hK hP (29 + (iw x r)) (shX_mi (by omega) (by omega)) hto (by omega) (v := (if iw (nx u x) r = iw x r then frF nx x r u (iw (nx u x) r) + 1 else frF nx x r u (iw (nx u x) r))) (by rw [hC54, sl_at]; split <;> rename_i q; exact congrArg (fun z => frF nx x r u z + 1) q.symm; exact hv _ hto) dX0_fillMinorRow_76 ?_
          refine lv_lconst (v := 1) hx hb dX0_fillMinorRow_77 (by decide) ?_
          refine lv_lsub hx hb dX0_fillMinorRow_78 ?_
          refine pw_last hx hb hK hP hI hS (29 + iw x r) (shX_mi (by omega) (by omega)) hto (by first | decide | omega) dX0_fillMinorRow_79 (fun H locs hP hS => ?_)
          obtain ⟨C79, hC79⟩ : ∃ z9, z9 = pw_setL C54 (29 + iw x r) (iw (nx u x) r) ((if iw (nx u x) r = iw x r then frF nx x r u (iw (nx u x) r) + 1 else frF nx x r u (iw (nx u x) r)) - 1) := ⟨_, rfl⟩
          rw [← hC79] at hP
          have hB := by have hB9 := hB; exact (show pw_B (fun k => k = 29 + iw x r) C0 C79 by rw [hC79]; exact hB9.setL (by show (29 + iw x r) = 29 + iw x r; first | trivial | omega))
          have hF := fX_B hF0 hB
          have hN := gN_B hN0 hB (fun u9 hu9 h9 => by have h8 : 21 + u9 = 29 + iw x r := h9; omega)
          refine lv_iinc (v := nI (u + 1)) (lv' := [(5, .int (nI (u + 1))), (6, .int (nI (nx u x))), (0, .ref (Ad 1)), (1, .int (nI x)), (2, .int (nI r)), (3, .int (nI (iw x r))), (4, .ref (Ad (29 + iw x r)))]) hx hb dX0_fillMinorRow_80 hl (k := 1) rfl (nI_add _ 1) (by decide) rfl (fun ls hl => ?_)
          refine lv_goto (tgt := 23) hx hb dX0_fillMinorRow_83 (by decide) ?_
          have hv : ∀ j, j < n → C79.2.1 (29 + iw x r) j = frF nx x r (u + 1) j := fun j hj => by
            show _ = if nx u x = x then _ else if nx u x = r then _ else _
            rw [if_neg c_44, if_neg c_64, hC79, sl_at]
            by_cases q : j = iw (nx u x) r
            · rw [if_pos q, if_pos q, q]
            · rw [if_neg q, if_neg q, hC54, sl_at]
              split <;> rename_i q2
              · rw [q2]
              · exact hv j hj
          exact ih C79 H locs (u + 1) ls (by omega) hP hS hB (by omega) hv (lv_sub hl [0, 2, 3, 4, 5, 6] rfl)

set_option maxHeartbeats 4000000 in
set_option maxRecDepth 100000 in
theorem c_X0_fillMinorRow (l : Launch) (D : va_G) (cy : Nat → ClassId) (Ad : Nat → Nat) (n mm : Nat) (C : pw_C) (hI : pw_I Ad (shX n)) (hn : 1 ≤ n ∧ n ≤ 12) (hF : fX n mm Ad C) (nx : Nat → Nat → Nat) (hN : gN n nx C) (x r : Nat) (hx0 : x < n) (hr0 : r < n) (hne : ¬ x = r) : Met l yX0_fillMinorRow wsX0_fillMinorRow (k2_rm 1 24) (pw_Pre ([.ref (Ad 1), .int (nI x), .int (nI r)]) D cy Ad (shX n) C) (pw_Post (fun r9 C' => r9 = none ∧ (pw_B (fun k => k = 29 + iw x r) C C' ∧ ∀ j, j < n → C'.2.1 (29 + iw x r) j = frF nx x r 8 j)) D cy Ad (shX n)) 0 0 (pw_fr Ad (shX n)) := by
  refine Met.ofW (cc := cX0_fillMinorRow) (maxL := 7) (ret := none) (by decide) rfl ?_
  intro p e s m args below meth c s₁ B hml hv
  obtain ⟨rfl, hP, hK⟩ := hv
  have hx := B.exec
  have hb := B.bytes
  have hr := B.returns
  have hts := atoms_spec (ws := wsX0_fillMinorRow) B.pre
  have hown : s.vm.findClass RX0 = some m.cls := findClass_of_methodNamed B.named
  have hlocks := B.notSynchronized
  have S : CallFix p m c cX0_fillMinorRow 7 s ([.ref (Ad 1), .int (nI x), .int (nI r)]).toArray wsX0_fillMinorRow RX0 := ⟨hx, hb, hml, hown, hts⟩
  change W p l e (k2_rm 1 24) s m _ below meth c s.heap [] 0 0 _ _
  have hl := lv_entry ([.ref (Ad 1), .int (nI x), .int (nI r)]) (n := 7) (Nat.le_of_ble_eq_true rfl)
  rw [lg_entry_eq]
  generalize (lg_sl ([.ref (Ad 1), .int (nI x), .int (nI r)]) ++ List.replicate (7 - (lg_sl ([.ref (Ad 1), .int (nI x), .int (nI r)])).length) Slot.unset).toArray = ls at hl ⊢
  have hl : lv_has ls 7 [(0, .ref (Ad 1)), (1, .int (nI x)), (2, .int (nI r))] := hl
  have hS : va_S (pw_fr Ad (shX n)) s.heap s.heap [] := va_S.rf
  have hiw := iw_lt hx0 hr0 hne
  refine lv_iload_n hx hb dX0_fillMinorRow_0 rfl (lv_at hl 1 rfl) ?_
  refine lv_iload_n hx hb dX0_fillMinorRow_1 rfl (lv_at hl 2 rfl) ?_
  refine pw_cs S 2 (c_X0_indexWithout l x r (by omega) (by omega) (by assumption)) gX0_fillMinorRow_X0_indexWithout rfl rfl rfl (by decide +kernel) ⟨Nat.le_of_ble_eq_true rfl, Nat.le_of_ble_eq_true rfl⟩ rfl hl.1 rfl (Nat.le_of_ble_eq_true rfl) dX0_fillMinorRow_2 ⟨Nat.le_refl _, Nat.le_refl _⟩ ?_
  refine lv_istore_n (lv' := [(3, .int (nI (iw x r))), (0, .ref (Ad 1)), (1, .int (nI x)), (2, .int (nI r))]) hx hb dX0_fillMinorRow_5 rfl hl (by decide) rfl (fun ls hl => ?_)
  refine lv_aload_n hx hb dX0_fillMinorRow_6 rfl (lv_at hl 1 rfl) ?_
  refine pw_get hx hb hts (fun _ h9 => List.mem_cons_of_mem _ (List.mem_append_right _ h9)) hown hK hP 1 rfl rfl 6 (by decide) hF.2.1 rfl (hts (.fieldLink RX0 35 "PastDraws$Chain" "minor" "[[J") (List.mem_of_getElem? (i := 1) rfl)) dX0_fillMinorRow_7 ?_
  refine lv_iload_n hx hb dX0_fillMinorRow_10 rfl (lv_at hl 0 rfl) ?_
  refine pw_aald5 hx hb hK hP 10 rfl (by omega) (by omega) dX0_fillMinorRow_11 ?_
  refine lv_astore (lv' := [(4, .ref (Ad (29 + (iw x r)))), (3, .int (nI (iw x r))), (0, .ref (Ad 1)), (1, .int (nI x)), (2, .int (nI r))]) hx hb dX0_fillMinorRow_12 hl (by decide) rfl (fun ls hl => ?_)
  refine lv_aload hx hb dX0_fillMinorRow_14 (lv_at hl 0 rfl) ?_
  refine lv_lconst (v := 0) hx hb dX0_fillMinorRow_16 (by decide) ?_
  refine pw_csW S hK hP 2 (c_J7_fill_d0a16 l D cy Ad (shX n) C hI (29 + iw x r) n 0 (shX_mi (by omega) hn.2) (by omega) 0) gX0_fillMinorRow_J7_fill_d0a16 rfl rfl rfl (by decide +kernel) ⟨Nat.le_of_ble_eq_true rfl, Nat.le_of_ble_eq_true rfl⟩ rfl hl.1 rfl (Nat.le_of_ble_eq_true rfl) dX0_fillMinorRow_17 ⟨Nat.le_refl _, Nat.le_refl _⟩ hS (fun _ h9 => h9) (fun r9 C17 H locs hR hP _ _ hS => ?_)
  obtain ⟨rfl, hR⟩ := hR
  change W p l e _ s m _ below meth c H locs 0 0 _ (F0 m 20 ls [])
  have hB : pw_B (fun k => k = 29 + iw x r) C C17 := hR.1
  refine lv_iconst (v := nI 0) hx hb dX0_fillMinorRow_20 (by decide) ?_
  refine lv_istore (lv' := [(5, .int (nI 0)), (4, .ref (Ad (29 + (iw x r)))), (3, .int (nI (iw x r))), (0, .ref (Ad 1)), (1, .int (nI x)), (2, .int (nI r))]) hx hb dX0_fillMinorRow_21 hl (by decide) rfl (fun ls hl => ?_)
  exact L_fillMinorRow S hK hI hF hn hN x r hx0 hr0 hne (fun pc9 C9 H9 locs9 ls9 hd9 hP9 hS9 hR9 => W.vret hx hb hr (fun t ht _ => ⟨⟨none, C9, rfl, ⟨rfl, hR9⟩, by rw [ht]; exact hP9⟩, hS9.F ht⟩) hS9.2.2 hd9) 9 C17 H locs 0 ls (by omega) hP hS hB (by omega) (fun j hj => hR.2 j hj) (lv_sub hl [0, 3, 4, 5, 2, 1] rfl)

set_option maxHeartbeats 4000000 in
set_option maxRecDepth 100000 in
theorem L_determinant_c {p : Program} {l : Launch} {e : Env} {s : State} {m : MethodId} {args : Array Value} {below : List Frame} {meth : Method} {c : Code} {Q : State → Prop} (S : CallFix p m c cX0_determinant 11 s args wsX0_determinant RX0) {D : va_G} {cy : Nat → ClassId} {Ad : Nat → Nat} {n mm : Nat} {C0 : pw_C} (hK : pw_K D cy s) (hI : pw_I Ad (shX n)) (hF0 : fX n mm Ad C0) (hn : 1 ≤ n ∧ n ≤ 12) (z k : Nat) (hz : z ≤ n) (hkz : k < z) (M : Nat → Nat → Int64) (dv : Int64) (hdv : ¬ dv = 0) (i : Nat) (hik : k < i) (hiz : i < z) (hk : ∀ (C : pw_C) (H : Heap) (locs : List Loc) (ls : Array Slot), pw_P D cy Ad (shX n) C H → va_S (pw_fr Ad (shX n)) s.heap H locs → (pw_B (fun k => 29 ≤ k ∧ k < 41) C0 C ∧ ∀ a b, a < n → b < n → C.2.1 (29 + a) b = el2 z k M dv i z a b) → lv_has ls 11 [(7, .int (nI i)), (0, .ref (Ad 1)), (1, .int (nI z)), (2, .long (M k k)), (4, .int (nI k)), (5, .long dv)] → W p l e (k2_rm 0 0) s m args below meth c H locs 0 0 Q (F0 m 114 ls [])) : ∀ (f : Nat) (C : pw_C) (H : Heap) (locs : List Loc) (j : Nat) (ls : Array Slot), z - j < f → (pw_P D cy Ad (shX n) C H) → (va_S (pw_fr Ad (shX n)) s.heap H locs) → (pw_B (fun k => 29 ≤ k ∧ k < 41) C0 C) → (k < j) → (j ≤ z) → (∀ a b, a < n → b < n → C.2.1 (29 + a) b = el2 z k M dv i j a b) → lv_has ls 11 [(8, .int (nI j)), (7, .int (nI i)), (0, .ref (Ad 1)), (1, .int (nI z)), (2, .long (M k k)), (4, .int (nI k)), (5, .long dv)] → W p l e (k2_rm 0 0) s m args below meth c H locs 0 0 Q (F0 m 51 ls []) := by
  have hx := S.1
  have hb := S.2.1
  have hml := S.2.2.1
  have hown := S.2.2.2.1
  have hts := S.2.2.2.2
  intro f
  induction f with
  | zero => intro C H locs j ls hf; exact absurd hf (Nat.not_lt_zero _)
  | succ f ih =>
    intro C H locs j ls hf hP hS hB hjk hjz hv hl
    have hF := fX_B hF0 hB
    refine lv_iload hx hb dX0_determinant_51 (lv_at hl 0 rfl) ?_
    refine lv_iload_n hx hb dX0_determinant_53 rfl (lv_at hl 3 rfl) ?_
    refine pn_icmp_ge (tgt := 114) hx hb (by omega) (by omega) dX0_determinant_54 (by decide) (fun c_54 => ?_) (fun c_54 => ?_)
    · obtain rfl : j = z := by omega
      exact hk C H locs ls hP hS ⟨hB, hv⟩ (lv_sub hl [1, 2, 3, 4, 5, 6] rfl)
    · refine lv_aload_n hx hb dX0_determinant_57 rfl (lv_at hl 2 rfl) ?_
      refine pw_get hx hb hts (fun _ h9 => List.mem_cons_of_mem _ (List.mem_append_right _ h9)) hown hK hP 1 rfl rfl 6 (by decide) hF.2.1 rfl (hts (.fieldLink RX0 35 "PastDraws$Chain" "minor" "[[J") (List.mem_of_getElem? (i := 1) rfl)) dX0_determinant_58 ?_
      refine lv_iload hx hb dX0_determinant_61 (lv_at hl 1 rfl) ?_
      refine pw_aald5 hx hb hK hP 10 rfl (by first | exact sgn_lt _ _ | omega) (by omega) dX0_determinant_63 ?_
      refine lv_iload hx hb dX0_determinant_64 (lv_at hl 0 rfl) ?_
      refine pw_lald hx hb hK hP (29 + i) (shX_mi (by first | exact sgn_lt _ _ | omega) (by omega)) (by first | exact sgn_lt _ _ | omega) (by omega) (v := M i j) (by rw [hv _ _ (by omega) (by omega)]; unfold el2; rw [if_neg (by omega)]) dX0_determinant_66 ?_
      refine lv_lload_n hx hb dX0_determinant_67 rfl (lv_at hl 4 rfl) ?_
      refine lv_lmul hx hb dX0_determinant_68 ?_
      refine lv_aload_n hx hb dX0_determinant_69 rfl (lv_at hl 2 rfl) ?_
      refine pw_get hx hb hts (fun _ h9 => List.mem_cons_of_mem _ (List.mem_append_right _ h9)) hown hK hP 1 rfl rfl 6 (by decide) hF.2.1 rfl (hts (.fieldLink RX0 35 "PastDraws$Chain" "minor" "[[J") (List.mem_of_getElem? (i := 1) rfl)) dX0_determinant_70 ?_
      refine lv_iload hx hb dX0_determinant_73 (lv_at hl 1 rfl) ?_
      refine pw_aald5 hx hb hK hP 10 rfl (by first | exact sgn_lt _ _ | omega) (by omega) dX0_determinant_75 ?_
      refine lv_iload hx hb dX0_determinant_76 (lv_at hl 5 rfl) ?_
      refine pw_lald hx hb hK hP (29 + i) (shX_mi (by first | exact sgn_lt _ _ | omega) (by omega)) (by first | exact sgn_lt _ _ | omega) (by omega) (v := M i k) (by rw [hv _ _ (by omega) (by omega)]; unfold el2; rw [if_neg (by omega)]) dX0_determinant_78 ?_
      refine lv_aload_n hx hb dX0_determinant_79 rfl (lv_at hl 2 rfl) ?_
      refine pw_get hx hb hts (fun _ h9 => List.mem_cons_of_mem _ (List.mem_append_right _ h9)) hown hK hP 1 rfl rfl 6 (by decide) hF.2.1 rfl (hts (.fieldLink RX0 35 "PastDraws$Chain" "minor" "[[J") (List.mem_of_getElem? (i := 1) rfl)) dX0_determinant_80 ?_
      refine lv_iload hx hb dX0_determinant_83 (lv_at hl 5 rfl) ?_
      refine pw_aald5 hx hb hK hP 10 rfl (by first | exact sgn_lt _ _ | omega) (by omega) dX0_determinant_85 ?_
      refine lv_iload hx hb dX0_determinant_86 (lv_at hl 0 rfl) ?_
      refine pw_lald hx hb hK hP (29 + k) (shX_mi (by first | exact sgn_lt _ _ | omega) (by omega)) (by first | exact sgn_lt _ _ | omega) (by omega) (v := M k j) (by rw [hv _ _ (by omega) (by omega)]; unfold el2; rw [if_neg (by omega)]) dX0_determinant_88 ?_
      refine lv_lmul hx hb dX0_determinant_89 ?_
      refine lv_lsub hx hb dX0_determinant_90 ?_
      refine lv_topl (fun x9_91 ex9_91 => ?_)
      refine lv_lstore (lv' := [(9, .long x9_91), (8, .int (nI j)), (7, .int (nI i)), (0, .ref (Ad 1)), (1, .int (nI z)), (2, .long (M k k)), (4, .int (nI k)), (5, .long dv)]) hx hb dX0_determinant_91 hl (by decide) rfl (fun ls hl => ?_)
      refine lv_aload_n hx hb dX0_determinant_93 rfl (lv_at hl 3 rfl) ?_
      refine pw_get hx hb hts (fun _ h9 => List.mem_cons_of_mem _ (List.mem_append_right _ h9)) hown hK hP 1 rfl rfl 6 (by decide) hF.2.1 rfl (hts (.fieldLink RX0 35 "PastDraws$Chain" "minor" "[[J") (List.mem_of_getElem? (i := 1) rfl)) dX0_determinant_94 ?_
      refine lv_iload hx hb dX0_determinant_97 (lv_at hl 2 rfl) ?_
      refine pw_aald5 hx hb hK hP 10 rfl (by first | exact sgn_lt _ _ | omega) (by omega) dX0_determinant_99 ?_
      refine lv_iload hx hb dX0_determinant_100 (lv_at hl 1 rfl) ?_
      refine lv_lload hx hb dX0_determinant_102 (lv_at hl 0 rfl) ?_
      refine lv_lload hx hb dX0_determinant_104 (lv_at hl 7 rfl) ?_
      refine lv_ldiv hx hb dX0_determinant_106 hdv ?_
      refine pw_last hx hb hK hP hI hS (29 + i) (shX_mi (by first | exact sgn_lt _ _ | omega) (by omega)) (by first | exact sgn_lt _ _ | omega) (by first | decide | omega) dX0_determinant_107 (fun H locs hP hS => ?_)
      obtain ⟨C107, hC107⟩ : ∃ z9, z9 = pw_setL C (29 + i) j (x9_91 / dv) := ⟨_, rfl⟩
      rw [← hC107] at hP
      have hB := by have hB9 := hB; exact (show pw_B (fun k => 29 ≤ k ∧ k < 41) C0 C107 by rw [hC107]; exact hB9.setL (by show 29 ≤ (29 + i) ∧ (29 + i) < 41; first | trivial | omega))
      have hF := fX_B hF0 hB
      refine lv_iinc (v := nI (j + 1)) (lv' := [(8, .int (nI (j + 1))), (9, .long x9_91), (7, .int (nI i)), (0, .ref (Ad 1)), (1, .int (nI z)), (2, .long (M k k)), (4, .int (nI k)), (5, .long dv)]) hx hb dX0_determinant_108 hl (k := 1) rfl (nI_add _ 1) (by decide) rfl (fun ls hl => ?_)
      refine lv_goto (tgt := 51) hx hb dX0_determinant_111 (by decide) ?_
      exact ih C107 H locs (j + 1) ls (by omega) hP hS hB (by omega) (by omega) (fun a b ha hb9 => by
        rw [hC107]
        by_cases qa : a = i
        · subst qa
          rw [sl_at]
          by_cases qb : b = j
          · subst qb
            rw [if_pos rfl, ex9_91]
            unfold el2
            rw [if_pos (by omega)]
          · rw [if_neg qb, hv _ _ ha hb9]
            unfold el2
            by_cases q : k < b ∧ b < j
            · rw [if_pos (by omega), if_pos (by omega)]
            · rw [if_neg (by omega), if_neg (by omega)]
        · rw [sl_ne (by omega), hv _ _ ha hb9]
          unfold el2
          by_cases q : k < a ∧ k < b ∧ a < z ∧ b < z ∧ a < i
          · rw [if_pos (by omega), if_pos (by omega)]
          · rw [if_neg (by omega), if_neg (by omega)]) (lv_sub hl [0, 2, 3, 4, 5, 6, 7] rfl)

set_option maxHeartbeats 4000000 in
set_option maxRecDepth 100000 in
theorem L_determinant_r {p : Program} {l : Launch} {e : Env} {s : State} {m : MethodId} {args : Array Value} {below : List Frame} {meth : Method} {c : Code} {Q : State → Prop} (S : CallFix p m c cX0_determinant 11 s args wsX0_determinant RX0) {D : va_G} {cy : Nat → ClassId} {Ad : Nat → Nat} {n mm : Nat} {C0 : pw_C} (hK : pw_K D cy s) (hI : pw_I Ad (shX n)) (hF0 : fX n mm Ad C0) (hn : 1 ≤ n ∧ n ≤ 12) (z k : Nat) (hz : z ≤ n) (hkz : k < z) (M : Nat → Nat → Int64) (dv : Int64) (hdv : ¬ dv = 0) (hk : ∀ (C : pw_C) (H : Heap) (locs : List Loc) (ls : Array Slot), pw_P D cy Ad (shX n) C H → va_S (pw_fr Ad (shX n)) s.heap H locs → (pw_B (fun k => 29 ≤ k ∧ k < 41) C0 C ∧ ∀ a b, a < n → b < n → C.2.1 (29 + a) b = elim z k M dv a b) → lv_has ls 11 [(0, .ref (Ad 1)), (1, .int (nI z)), (2, .long (M k k)), (4, .int (nI k))] → W p l e (k2_rm 0 0) s m args below meth c H locs 0 0 Q (F0 m 120 ls [])) : ∀ (f : Nat) (C : pw_C) (H : Heap) (locs : List Loc) (i : Nat) (ls : Array Slot), z - i < f → (pw_P D cy Ad (shX n) C H) → (va_S (pw_fr Ad (shX n)) s.heap H locs) → (pw_B (fun k => 29 ≤ k ∧ k < 41) C0 C) → (k < i) → (i ≤ z) → (∀ a b, a < n → b < n → C.2.1 (29 + a) b = el2 z k M dv i 0 a b) → lv_has ls 11 [(7, .int (nI i)), (0, .ref (Ad 1)), (1, .int (nI z)), (2, .long (M k k)), (4, .int (nI k)), (5, .long dv)] → W p l e (k2_rm 0 0) s m args below meth c H locs 0 0 Q (F0 m 39 ls []) := by
  have hx := S.1
  have hb := S.2.1
  have hml := S.2.2.1
  have hown := S.2.2.2.1
  have hts := S.2.2.2.2
  intro f
  induction f with
  | zero => intro C H locs i ls hf; exact absurd hf (Nat.not_lt_zero _)
  | succ f ih =>
    intro C H locs i ls hf hP hS hB hik hiz hv hl
    refine lv_iload hx hb dX0_determinant_39 (lv_at hl 0 rfl) ?_
    refine lv_iload_n hx hb dX0_determinant_41 rfl (lv_at hl 2 rfl) ?_
    refine pn_icmp_ge (tgt := 120) hx hb (by omega) (by omega) dX0_determinant_42 (by decide) (fun c_42 => ?_) (fun c_42 => ?_)
    · obtain rfl : i = z := by omega
      exact hk C H locs ls hP hS ⟨hB, fun a b ha hb9 => by
        rw [hv _ _ ha hb9]
        unfold el2 elim
        by_cases q : k < a ∧ k < b ∧ a < i ∧ b < i
        · rw [if_pos (by omega), if_pos q]
        · rw [if_neg (by omega), if_neg q]⟩ (lv_sub hl [1, 2, 3, 4] rfl)
    · refine lv_iload hx hb dX0_determinant_45 (lv_at hl 4 rfl) ?_
      refine lv_iconst (v := nI 1) hx hb dX0_determinant_47 (by decide) ?_
      refine lv_iadd hx hb dX0_determinant_48 ?_
      refine pw_topi (nI_add _ _) ?_
      refine lv_istore (lv' := [(8, .int (nI (k + 1))), (7, .int (nI i)), (0, .ref (Ad 1)), (1, .int (nI z)), (2, .long (M k k)), (4, .int (nI k)), (5, .long dv)]) hx hb dX0_determinant_49 hl (by decide) rfl (fun ls hl => ?_)
      refine L_determinant_c S hK hI hF0 hn z k hz hkz M dv hdv i (by omega) (by omega) (fun C H locs ls hP hS hR hl => ?_) (z + 1) C H locs (k + 1) ls (by omega) hP hS hB (by omega) (by omega) (fun a b ha hb9 => by
        rw [hv _ _ ha hb9]
        unfold el2
        by_cases q : k < a ∧ k < b ∧ a < z ∧ b < z ∧ a < i
        · rw [if_pos (by omega), if_pos (by omega)]
        · rw [if_neg (by omega), if_neg (by omega)]) (lv_sub hl [0, 1, 2, 3, 4, 5, 6] rfl)
      obtain ⟨hB, hv⟩ := hR
      refine lv_iinc (v := nI (i + 1)) (lv' := [(7, .int (nI (i + 1))), (0, .ref (Ad 1)), (1, .int (nI z)), (2, .long (M k k)), (4, .int (nI k)), (5, .long dv)]) hx hb dX0_determinant_114 hl (k := 0) rfl (nI_add _ 1) (by decide) rfl (fun ls hl => ?_)
      refine lv_goto (tgt := 39) hx hb dX0_determinant_117 (by decide) ?_
      exact ih C H locs (i + 1) ls (by omega) hP hS hB (by omega) (by omega) (fun a b ha hb9 => by
        rw [hv _ _ ha hb9]
        unfold el2
        by_cases q : k < a ∧ k < b ∧ a < z ∧ b < z ∧ a < i + 1
        · rw [if_pos (by omega), if_pos (by omega)]
        · rw [if_neg (by omega), if_neg (by omega)]) (lv_sub hl [0, 1, 2, 3, 4, 5] rfl)

set_option maxHeartbeats 4000000 in
set_option maxRecDepth 100000 in
theorem L_determinant {p : Program} {l : Launch} {e : Env} {s : State} {m : MethodId} {args : Array Value} {below : List Frame} {meth : Method} {c : Code} {Q : State → Prop} (S : CallFix p m c cX0_determinant 11 s args wsX0_determinant RX0) {D : va_G} {cy : Nat → ClassId} {Ad : Nat → Nat} {n mm : Nat} {C0 : pw_C} (hK : pw_K D cy s) (hI : pw_I Ad (shX n)) (hF0 : fX n mm Ad C0) (hn : 1 ≤ n ∧ n ≤ 12) (z : Nat) (hz : z ≤ n) (r : Int64) (hq : ∀ (pc9 : Nat) (C : pw_C) (H : Heap) (locs : List Loc) (ls : Array Slot), decode cX0_determinant pc9 = .ok (.lreturn, 1) → pw_P D cy Ad (shX n) C H → va_S (pw_fr Ad (shX n)) s.heap H locs → (pw_B (fun k => 29 ≤ k ∧ k < 41) C0 C) → W p l e (k2_rm 0 0) s m args below meth c H locs 0 0 Q (F0 m pc9 ls [.long r])) : ∀ (f : Nat) (C : pw_C) (H : Heap) (locs : List Loc) (k : Nat) (M : Nat → Nat → Int64) (pv : Int64) (ls : Array Slot), z - k < f → (pw_P D cy Ad (shX n) C H) → (va_S (pw_fr Ad (shX n)) s.heap H locs) → (pw_B (fun k => 29 ≤ k ∧ k < 41) C0 C) → (k ≤ z) → (¬ pv = 0) → (∀ a b, a < n → b < n → C.2.1 (29 + a) b = M a b) → (detF z (z - k) k M pv = r) → lv_has ls 11 [(4, .int (nI k)), (0, .ref (Ad 1)), (1, .int (nI z)), (2, .long pv)] → W p l e (k2_rm 0 0) s m args below meth c H locs 0 0 Q (F0 m 5 ls []) := by
  have hx := S.1
  have hb := S.2.1
  have hml := S.2.2.1
  have hown := S.2.2.2.1
  have hts := S.2.2.2.2
  intro f
  induction f with
  | zero => intro C H locs k M pv ls hf; exact absurd hf (Nat.not_lt_zero _)
  | succ f ih =>
    intro C H locs k M pv ls hf hP hS hB hkz hpv hv hr0 hl
    have hF := fX_B hF0 hB
    refine lv_iload hx hb dX0_determinant_5 (lv_at hl 0 rfl) ?_
    refine lv_iload_n hx hb dX0_determinant_7 rfl (lv_at hl 2 rfl) ?_
    refine pn_icmp_ge (tgt := 126) hx hb (by omega) (by omega) dX0_determinant_8 (by decide) (fun c_8 => ?_) (fun c_8 => ?_)
    · have e9 : z - k = 0 := by omega
      rw [e9] at hr0
      refine lv_lload_n hx hb dX0_determinant_126 rfl (lv_at hl 3 rfl) ?_
      refine pw_topl (y := r) (by rw [← hr0]; try rfl) ?_
      exact hq _ C H locs ls dX0_determinant_127 hP hS hB
    · obtain ⟨y, hy⟩ : ∃ y, z - k = y + 1 := ⟨z - k - 1, by omega⟩
      rw [hy, detF] at hr0
      have hy2 : y = z - (k + 1) := by omega
      refine lv_lload_n hx hb dX0_determinant_11 rfl (lv_at hl 3 rfl) ?_
      refine lv_lstore (lv' := [(5, .long pv), (4, .int (nI k)), (0, .ref (Ad 1)), (1, .int (nI z)), (2, .long pv)]) hx hb dX0_determinant_12 hl (by decide) rfl (fun ls hl => ?_)
      refine lv_aload_n hx hb dX0_determinant_14 rfl (lv_at hl 2 rfl) ?_
      refine pw_get hx hb hts (fun _ h9 => List.mem_cons_of_mem _ (List.mem_append_right _ h9)) hown hK hP 1 rfl rfl 6 (by decide) hF.2.1 rfl (hts (.fieldLink RX0 35 "PastDraws$Chain" "minor" "[[J") (List.mem_of_getElem? (i := 1) rfl)) dX0_determinant_15 ?_
      refine lv_iload hx hb dX0_determinant_18 (lv_at hl 1 rfl) ?_
      refine pw_aald5 hx hb hK hP 10 rfl (by first | exact sgn_lt _ _ | omega) (by omega) dX0_determinant_20 ?_
      refine lv_iload hx hb dX0_determinant_21 (lv_at hl 1 rfl) ?_
      refine pw_lald hx hb hK hP (29 + k) (shX_mi (by first | exact sgn_lt _ _ | omega) (by omega)) (by first | exact sgn_lt _ _ | omega) (by omega) (v := M k k) (hv _ _ (by omega) (by omega)) dX0_determinant_23 ?_
      refine lv_lstore_n (lv' := [(2, .long (M k k)), (5, .long pv), (4, .int (nI k)), (0, .ref (Ad 1)), (1, .int (nI z))]) hx hb dX0_determinant_24 rfl hl (by decide) rfl (fun ls hl => ?_)
      refine lv_lload_n hx hb dX0_determinant_25 rfl (lv_at hl 0 rfl) ?_
      refine lv_lconst (v := 0) hx hb dX0_determinant_26 (by decide) ?_
      refine W.lcmp hx hb dX0_determinant_27 ?_
      refine pn_lif_ne (tgt := 33) hx hb dX0_determinant_28 (by decide) (fun c_28 => ?_) (fun c_28 => ?_)
      · rw [if_neg c_28] at hr0
        refine lv_iload hx hb dX0_determinant_33 (lv_at hl 2 rfl) ?_
        refine lv_iconst (v := nI 1) hx hb dX0_determinant_35 (by decide) ?_
        refine lv_iadd hx hb dX0_determinant_36 ?_
        refine pw_topi (nI_add _ _) ?_
        refine lv_istore (lv' := [(7, .int (nI (k + 1))), (2, .long (M k k)), (5, .long pv), (4, .int (nI k)), (0, .ref (Ad 1)), (1, .int (nI z))]) hx hb dX0_determinant_37 hl (by decide) rfl (fun ls hl => ?_)
        refine L_determinant_r S hK hI hF0 hn z k hz (by omega) M pv hpv (fun C H locs ls hP hS hR hl => ?_) (z + 1) C H locs (k + 1) ls (by omega) hP hS hB (by omega) (by omega) (fun a b ha hb9 => by
          rw [hv _ _ ha hb9]
          unfold el2
          rw [if_neg (by omega)]) (lv_sub hl [0, 4, 5, 1, 3, 2] rfl)
        obtain ⟨hB, hv⟩ := hR
        refine lv_iinc (v := nI (k + 1)) (lv' := [(4, .int (nI (k + 1))), (0, .ref (Ad 1)), (1, .int (nI z)), (2, .long (M k k))]) hx hb dX0_determinant_120 hl (k := 3) rfl (nI_add _ 1) (by decide) rfl (fun ls hl => ?_)
        refine lv_goto (tgt := 5) hx hb dX0_determinant_123 (by decide) ?_
        exact ih C H locs (k + 1) _ _ ls (by omega) hP hS hB (by omega) c_28 hv (by rw [← hy2]; exact hr0) (lv_sub hl [0, 1, 2, 3] rfl)
      · rw [if_pos c_28] at hr0
        refine lv_lconst (v := 0) hx hb dX0_determinant_31 (by decide) ?_
        refine pw_topl (y := r) (by rw [← hr0]; try rfl) ?_
        exact hq _ C H locs ls dX0_determinant_32 hP hS hB

set_option maxHeartbeats 4000000 in
set_option maxRecDepth 100000 in
theorem c_X0_determinant (l : Launch) (D : va_G) (cy : Nat → ClassId) (Ad : Nat → Nat) (n mm : Nat) (C : pw_C) (hI : pw_I Ad (shX n)) (hn : 1 ≤ n ∧ n ≤ 12) (hF : fX n mm Ad C) (z : Nat) (hz : z ≤ n) (M : Nat → Nat → Int64) (hv : ∀ a b, a < n → b < n → C.2.1 (29 + a) b = M a b) : Met l yX0_determinant wsX0_determinant (k2_rm 0 0) (pw_Pre ([.ref (Ad 1), .int (nI z)]) D cy Ad (shX n) C) (pw_Post (fun r9 C' => r9 = some (.long (detF z z 0 M 1)) ∧ (pw_B (fun k => 29 ≤ k ∧ k < 41) C C')) D cy Ad (shX n)) 0 0 (pw_fr Ad (shX n)) := by
  refine Met.ofW (cc := cX0_determinant) (maxL := 11) (ret := (some .long)) (by decide) rfl ?_
  intro p e s m args below meth c s₁ B hml hv
  obtain ⟨rfl, hP, hK⟩ := hv
  have hx := B.exec
  have hb := B.bytes
  have hr := B.returns
  have hts := atoms_spec (ws := wsX0_determinant) B.pre
  have hown : s.vm.findClass RX0 = some m.cls := findClass_of_methodNamed B.named
  have hlocks := B.notSynchronized
  have S : CallFix p m c cX0_determinant 11 s ([.ref (Ad 1), .int (nI z)]).toArray wsX0_determinant RX0 := ⟨hx, hb, hml, hown, hts⟩
  change W p l e (k2_rm 0 0) s m _ below meth c s.heap [] 0 0 _ _
  have hl := lv_entry ([.ref (Ad 1), .int (nI z)]) (n := 11) (Nat.le_of_ble_eq_true rfl)
  rw [lg_entry_eq]
  generalize (lg_sl ([.ref (Ad 1), .int (nI z)]) ++ List.replicate (11 - (lg_sl ([.ref (Ad 1), .int (nI z)])).length) Slot.unset).toArray = ls at hl ⊢
  have hl : lv_has ls 11 [(0, .ref (Ad 1)), (1, .int (nI z))] := hl
  have hS : va_S (pw_fr Ad (shX n)) s.heap s.heap [] := va_S.rf
  refine lv_lconst (v := 1) hx hb dX0_determinant_0 (by decide) ?_
  refine lv_lstore_n (lv' := [(2, .long 1), (0, .ref (Ad 1)), (1, .int (nI z))]) hx hb dX0_determinant_1 rfl hl (by decide) rfl (fun ls hl => ?_)
  refine lv_iconst (v := nI 0) hx hb dX0_determinant_2 (by decide) ?_
  refine lv_istore (lv' := [(4, .int (nI 0)), (2, .long 1), (0, .ref (Ad 1)), (1, .int (nI z))]) hx hb dX0_determinant_3 hl (by decide) rfl (fun ls hl => ?_)
  exact L_determinant S hK hI hF hn z hz _ (fun pc9 C9 H9 locs9 ls9 hd9 hP9 hS9 hR9 => W.lret hx hb hr (fun t ht _ => ⟨⟨(some (.long (detF z z 0 M 1))), C9, rfl, ⟨rfl, hR9⟩, by rw [ht]; exact hP9⟩, hS9.F ht⟩) hS9.2.2 hd9) (z + 1) C s.heap [] 0 M 1 ls (by omega) hP hS pw_B.rf (by omega) (by decide) hv rfl (lv_sub hl [0, 2, 3, 1] rfl)

set_option maxHeartbeats 4000000 in
set_option maxRecDepth 100000 in
theorem L_treesTo {p : Program} {l : Launch} {e : Env} {s : State} {m : MethodId} {args : Array Value} {below : List Frame} {meth : Method} {c : Code} {Q : State → Prop} (S : CallFix p m c cX0_treesTo 3 s args wsX0_treesTo RX0) {D : va_G} {cy : Nat → ClassId} {Ad : Nat → Nat} {n mm : Nat} {C0 : pw_C} (hK : pw_K D cy s) (hI : pw_I Ad (shX n)) (hF0 : fX n mm Ad C0) (hn : 1 ≤ n ∧ n ≤ 12) {nx : Nat → Nat → Nat} (hN0 : gN n nx C0) (r : Nat) (hr0 : r < n) (hk : ∀ (C : pw_C) (H : Heap) (locs : List Loc) (ls : Array Slot), pw_P D cy Ad (shX n) C H → va_S (pw_fr Ad (shX n)) s.heap H locs → (pw_B (fun k => 29 ≤ k ∧ k < 41) C0 C ∧ ∀ y, y < n → ¬ y = r → ∀ j, j < n → C.2.1 (29 + iw y r) j = frF nx y r 8 j) → lv_has ls 3 [(0, .ref (Ad 1))] → W p l e (k2_rm 2 50) s m args below meth c H locs 0 0 Q (F0 m 27 ls [])) : ∀ (f : Nat) (C : pw_C) (H : Heap) (locs : List Loc) (x : Nat) (ls : Array Slot), n - x < f → (pw_P D cy Ad (shX n) C H) → (va_S (pw_fr Ad (shX n)) s.heap H locs) → (pw_B (fun k => 29 ≤ k ∧ k < 41) C0 C) → (x ≤ n) → (∀ y, y < x → ¬ y = r → ∀ j, j < n → C.2.1 (29 + iw y r) j = frF nx y r 8 j) → lv_has ls 3 [(2, .int (nI x)), (0, .ref (Ad 1)), (1, .int (nI r))] → W p l e (k2_rm 2 50) s m args below meth c H locs 0 0 Q (F0 m 2 ls []) := by
  have hx := S.1
  have hb := S.2.1
  have hml := S.2.2.1
  have hown := S.2.2.2.1
  have hts := S.2.2.2.2
  intro f
  induction f with
  | zero => intro C H locs x ls hf; exact absurd hf (Nat.not_lt_zero _)
  | succ f ih =>
    intro C H locs x ls hf hP hS hB hx0 hv hl
    have hF := fX_B hF0 hB
    have hN := gN_B hN0 hB (fun u9 hu9 h9 => by have h8 : 29 ≤ 21 + u9 ∧ 21 + u9 < 41 := h9; omega)
    refine lv_iload_n hx hb dX0_treesTo_2 rfl (lv_at hl 0 rfl) ?_
    refine lv_aload_n hx hb dX0_treesTo_3 rfl (lv_at hl 1 rfl) ?_
    refine pw_get hx hb hts (fun _ h9 => List.mem_cons_of_mem _ (List.mem_append_right _ h9)) hown hK hP 1 rfl rfl 0 (by decide) hF.2.1 rfl (hts (.fieldLink RX0 9 "PastDraws$Chain" "n" "I") (List.mem_of_getElem? (i := 1) rfl)) dX0_treesTo_4 ?_
    refine pn_icmp_ge (tgt := 27) hx hb (by omega) (by omega) dX0_treesTo_7 (by decide) (fun c_7 => ?_) (fun c_7 => ?_)
    · obtain rfl : x = n := by omega
      exact hk C H locs ls hP hS ⟨hB, hv⟩ (lv_sub hl [1] rfl)
    · refine lv_iload_n hx hb dX0_treesTo_10 rfl (lv_at hl 0 rfl) ?_
      refine lv_iload_n hx hb dX0_treesTo_11 rfl (lv_at hl 2 rfl) ?_
      refine pn_icmp_eq (tgt := 21) hx hb (by omega) (by omega) dX0_treesTo_12 (by decide) (fun c_12 => ?_) (fun c_12 => ?_)
      · have hv : ∀ y, y < x + 1 → ¬ y = r → ∀ j, j < n → C.2.1 (29 + iw y r) j = frF nx y r 8 j := fun y hy hyr j hj => hv y (by omega) hyr j hj
        refine lv_iinc (v := nI (x + 1)) (lv' := [(2, .int (nI (x + 1))), (0, .ref (Ad 1)), (1, .int (nI r))]) hx hb dX0_treesTo_21 hl (k := 0) rfl (nI_add _ 1) (by decide) rfl (fun ls hl => ?_)
        refine lv_goto (tgt := 2) hx hb dX0_treesTo_24 (by decide) ?_
        exact ih C H locs (x + 1) ls (by omega) hP hS hB (by omega) hv (lv_sub hl [0, 1, 2] rfl)
      · refine lv_aload_n hx hb dX0_treesTo_15 rfl (lv_at hl 1 rfl) ?_
        refine lv_iload_n hx hb dX0_treesTo_16 rfl (lv_at hl 0 rfl) ?_
        refine lv_iload_n hx hb dX0_treesTo_17 rfl (lv_at hl 2 rfl) ?_
        refine pw_cvW S hK hP 1 0 rfl rfl 2 (c_X0_fillMinorRow l D cy Ad n mm C hI hn hF nx hN x r c_7 hr0 c_12) gX0_treesTo_X0_fillMinorRow rfl rfl rfl (by decide +kernel) ⟨Nat.le_of_ble_eq_true rfl, Nat.le_of_ble_eq_true rfl⟩ rfl hl.1 rfl (Nat.le_of_ble_eq_true rfl) dX0_treesTo_18 ⟨Nat.le_refl _, Nat.le_refl _⟩ hS (fun _ h9 => h9) (fun r9 C18 H locs hR hP _ _ hS => ?_)
        obtain ⟨rfl, hR⟩ := hR
        change W p l e _ s m _ below meth c H locs 0 0 _ (F0 m 21 ls [])
        have hiw := iw_lt c_7 hr0 c_12
        have hB := hB.tr (hR.1.mono (fun k9 h9 => by have h8 : k9 = 29 + iw x r := h9; show 29 ≤ k9 ∧ k9 < 41; omega))
        have hF := fX_B hF0 hB
        have hN := gN_B hN0 hB (fun u9 hu9 h9 => by have h8 : 29 ≤ 21 + u9 ∧ 21 + u9 < 41 := h9; omega)
        have hv : ∀ y, y < x + 1 → ¬ y = r → ∀ j, j < n → C18.2.1 (29 + iw y r) j = frF nx y r 8 j := fun y hy hyr j hj => by
          rcases Nat.lt_or_ge y x with q | q
          · have hne9 : ¬ iw y r = iw x r := fun q9 => by have := iw_inj hyr c_12 q9; omega
            rw [(hR.1.1 (29 + iw y r) (fun q8 => by have q7 : 29 + iw y r = 29 + iw x r := q8; omega)).2]
            exact hv y q hyr j hj
          · obtain rfl : y = x := by omega
            exact hR.2 j hj
        refine lv_iinc (v := nI (x + 1)) (lv' := [(2, .int (nI (x + 1))), (0, .ref (Ad 1)), (1, .int (nI r))]) hx hb dX0_treesTo_21 hl (k := 0) rfl (nI_add _ 1) (by decide) rfl (fun ls hl => ?_)
        refine lv_goto (tgt := 2) hx hb dX0_treesTo_24 (by decide) ?_
        exact ih C18 H locs (x + 1) ls (by omega) hP hS hB (by omega) hv (lv_sub hl [0, 1, 2] rfl)

set_option maxHeartbeats 4000000 in
set_option maxRecDepth 100000 in
theorem c_X0_treesTo (l : Launch) (D : va_G) (cy : Nat → ClassId) (Ad : Nat → Nat) (n mm : Nat) (C : pw_C) (hI : pw_I Ad (shX n)) (hn : 1 ≤ n ∧ n ≤ 12) (hF : fX n mm Ad C) (nx : Nat → Nat → Nat) (hN : gN n nx C) (r : Nat) (hr0 : r < n) : Met l yX0_treesTo wsX0_treesTo (k2_rm 2 50) (pw_Pre ([.ref (Ad 1), .int (nI r)]) D cy Ad (shX n) C) (pw_Post (fun r9 C' => r9 = some (.long (trF nx n r)) ∧ (pw_B (fun k => 29 ≤ k ∧ k < 41) C C')) D cy Ad (shX n)) 0 0 (pw_fr Ad (shX n)) := by
  refine Met.ofW (cc := cX0_treesTo) (maxL := 3) (ret := (some .long)) (by decide) rfl ?_
  intro p e s m args below meth c s₁ B hml hv
  obtain ⟨rfl, hP, hK⟩ := hv
  have hx := B.exec
  have hb := B.bytes
  have hr := B.returns
  have hts := atoms_spec (ws := wsX0_treesTo) B.pre
  have hown : s.vm.findClass RX0 = some m.cls := findClass_of_methodNamed B.named
  have hlocks := B.notSynchronized
  have S : CallFix p m c cX0_treesTo 3 s ([.ref (Ad 1), .int (nI r)]).toArray wsX0_treesTo RX0 := ⟨hx, hb, hml, hown, hts⟩
  change W p l e (k2_rm 2 50) s m _ below meth c s.heap [] 0 0 _ _
  have hl := lv_entry ([.ref (Ad 1), .int (nI r)]) (n := 3) (Nat.le_of_ble_eq_true rfl)
  rw [lg_entry_eq]
  generalize (lg_sl ([.ref (Ad 1), .int (nI r)]) ++ List.replicate (3 - (lg_sl ([.ref (Ad 1), .int (nI r)])).length) Slot.unset).toArray = ls at hl ⊢
  have hl : lv_has ls 3 [(0, .ref (Ad 1)), (1, .int (nI r))] := hl
  have hS : va_S (pw_fr Ad (shX n)) s.heap s.heap [] := va_S.rf
  refine lv_iconst (v := nI 0) hx hb dX0_treesTo_0 (by decide) ?_
  refine lv_istore_n (lv' := [(2, .int (nI 0)), (0, .ref (Ad 1)), (1, .int (nI r))]) hx hb dX0_treesTo_1 rfl hl (by decide) rfl (fun ls hl => ?_)
  refine L_treesTo S hK hI hF hn hN r hr0 (fun C1 H locs ls hP hS hR hl => ?_) (n + 1) C s.heap [] 0 ls (by omega) hP hS pw_B.rf (by omega) (fun y hy => by omega) (lv_sub hl [0, 1, 2] rfl)
  obtain ⟨hB, hv⟩ := hR
  have hF := fX_B hF hB
  have hde : detF (n - 1) (n - 1) 0 (fun a b => C1.2.1 (29 + a) b) 1 = trF nx n r := detF_congr (n - 1) 0 _ _ 1 (by omega) (fun a b ha hb9 => by
    have h9 := hv (if a < r then a else a + 1) (by split <;> omega) (by split <;> omega) b (by omega)
    have e9 : iw (if a < r then a else a + 1) r = a := by
      unfold iw
      by_cases q : a < r
      · rw [if_pos q, if_pos q]
      · rw [if_neg q, if_neg (by omega)]; omega
    rw [e9] at h9
    exact h9)
  refine lv_aload_n hx hb dX0_treesTo_27 rfl (lv_at hl 0 rfl) ?_
  refine lv_aload_n hx hb dX0_treesTo_28 rfl (lv_at hl 0 rfl) ?_
  refine pw_get hx hb hts (fun _ h9 => List.mem_cons_of_mem _ (List.mem_append_right _ h9)) hown hK hP 1 rfl rfl 0 (by decide) hF.2.1 rfl (hts (.fieldLink RX0 9 "PastDraws$Chain" "n" "I") (List.mem_of_getElem? (i := 1) rfl)) dX0_treesTo_29 ?_
  refine lv_iconst (v := nI 1) hx hb dX0_treesTo_32 (by decide) ?_
  refine lv_isub hx hb dX0_treesTo_33 ?_
  refine pw_topi (pk_sub (by omega)) ?_
  refine pw_cvW S hK hP 1 0 rfl rfl 1 (c_X0_determinant l D cy Ad n mm C1 hI hn hF (n - 1) (Nat.sub_le _ _) (fun a b => C1.2.1 (29 + a) b) (fun _ _ _ _ => rfl)) gX0_treesTo_X0_determinant rfl rfl rfl (by decide +kernel) ⟨Nat.le_of_ble_eq_true rfl, Nat.le_of_ble_eq_true rfl⟩ rfl hl.1 rfl (Nat.le_of_ble_eq_true rfl) dX0_treesTo_34 ⟨Nat.le_refl _, Nat.le_refl _⟩ hS (fun _ h9 => h9) (fun r9 C34 H locs hR hP _ _ hS => ?_)
  obtain ⟨rfl, hR⟩ := hR
  change W p l e _ s m _ below meth c H locs 0 0 _ (F0 m 37 ls [.long (detF (n - 1) (n - 1) 0 (fun a b => C1.2.1 (29 + a) b) 1)])
  have hB := hB.tr hR
  refine pw_topl (y := (trF nx n r)) hde ?_
  exact W.lret hx hb hr (fun t ht _ => ⟨⟨(some (.long (trF nx n r))), C34, rfl, ⟨rfl, hB⟩, by rw [ht]; exact hP⟩, hS.F ht⟩) hS.2.2 dX0_treesTo_37

set_option maxHeartbeats 4000000 in
set_option maxRecDepth 100000 in
theorem L_allTrees {p : Program} {l : Launch} {e : Env} {s : State} {m : MethodId} {args : Array Value} {below : List Frame} {meth : Method} {c : Code} {Q : State → Prop} (S : CallFix p m c cX0_allTrees 4 s args wsX0_allTrees RX0) {D : va_G} {cy : Nat → ClassId} {Ad : Nat → Nat} {n mm : Nat} {C0 : pw_C} (hK : pw_K D cy s) (hI : pw_I Ad (shX n)) (hF0 : fX n mm Ad C0) (hn : 1 ≤ n ∧ n ≤ 12) {nx : Nat → Nat → Nat} (hN0 : gN n nx C0) (hq : ∀ (pc9 : Nat) (C : pw_C) (H : Heap) (locs : List Loc) (ls : Array Slot), decode cX0_allTrees pc9 = .ok (.lreturn, 1) → pw_P D cy Ad (shX n) C H → va_S (pw_fr Ad (shX n)) s.heap H locs → (pw_B (fun k => 29 ≤ k ∧ k < 41) C0 C) → W p l e (k2_rm 3 72) s m args below meth c H locs 0 0 Q (F0 m pc9 ls [.long (trS nx n n)])) : ∀ (f : Nat) (C : pw_C) (H : Heap) (locs : List Loc) (x : Nat) (ls : Array Slot), n - x < f → (pw_P D cy Ad (shX n) C H) → (va_S (pw_fr Ad (shX n)) s.heap H locs) → (pw_B (fun k => 29 ≤ k ∧ k < 41) C0 C) → (x ≤ n) → lv_has ls 4 [(3, .int (nI x)), (0, .ref (Ad 1)), (1, .long (trS nx n x))] → W p l e (k2_rm 3 72) s m args below meth c H locs 0 0 Q (F0 m 4 ls []) := by
  have hx := S.1
  have hb := S.2.1
  have hml := S.2.2.1
  have hown := S.2.2.2.1
  have hts := S.2.2.2.2
  intro f
  induction f with
  | zero => intro C H locs x ls hf; exact absurd hf (Nat.not_lt_zero _)
  | succ f ih =>
    intro C H locs x ls hf hP hS hB hx0 hl
    have hF := fX_B hF0 hB
    have hN := gN_B hN0 hB (fun u9 hu9 h9 => by have h8 : 29 ≤ 21 + u9 ∧ 21 + u9 < 41 := h9; omega)
    refine lv_iload_n hx hb dX0_allTrees_4 rfl (lv_at hl 0 rfl) ?_
    refine lv_aload_n hx hb dX0_allTrees_5 rfl (lv_at hl 1 rfl) ?_
    refine pw_get hx hb hts (fun _ h9 => List.mem_cons_of_mem _ (List.mem_append_right _ h9)) hown hK hP 1 rfl rfl 0 (by decide) hF.2.1 rfl (hts (.fieldLink RX0 9 "PastDraws$Chain" "n" "I") (List.mem_of_getElem? (i := 1) rfl)) dX0_allTrees_6 ?_
    refine pn_icmp_ge (tgt := 26) hx hb (by omega) (by omega) dX0_allTrees_9 (by decide) (fun c_9 => ?_) (fun c_9 => ?_)
    · have hxe : x = n := by omega
      refine lv_lload_n hx hb dX0_allTrees_26 rfl (lv_at hl 2 rfl) ?_
      refine pw_topl (y := trS nx n n) (by rw [hxe]) ?_
      exact hq _ C H locs ls dX0_allTrees_27 hP hS hB
    · refine lv_lload_n hx hb dX0_allTrees_12 rfl (lv_at hl 2 rfl) ?_
      refine lv_aload_n hx hb dX0_allTrees_13 rfl (lv_at hl 1 rfl) ?_
      refine lv_iload_n hx hb dX0_allTrees_14 rfl (lv_at hl 0 rfl) ?_
      refine pw_cvW S hK hP 1 0 rfl rfl 1 (c_X0_treesTo l D cy Ad n mm C hI hn hF nx hN x c_9) gX0_allTrees_X0_treesTo rfl rfl rfl (by decide +kernel) ⟨Nat.le_of_ble_eq_true rfl, Nat.le_of_ble_eq_true rfl⟩ rfl hl.1 rfl (Nat.le_of_ble_eq_true rfl) dX0_allTrees_15 ⟨Nat.le_refl _, Nat.le_refl _⟩ hS (fun _ h9 => h9) (fun r9 C15 H locs hR hP _ _ hS => ?_)
      obtain ⟨rfl, hR⟩ := hR
      change W p l e _ s m _ below meth c H locs 0 0 _ (F0 m 18 ls [.long (trF nx n x), .long (trS nx n x)])
      have hB := hB.tr hR
      have hF := fX_B hF0 hB
      refine lv_ladd hx hb dX0_allTrees_18 ?_
      refine pw_topl (y := trS nx n (x + 1)) rfl ?_
      refine lv_topl (fun x1_19 ex1_19 => ?_)
      refine lv_lstore_n (lv' := [(1, .long x1_19), (3, .int (nI x)), (0, .ref (Ad 1))]) hx hb dX0_allTrees_19 rfl hl (by decide) rfl (fun ls hl => ?_)
      refine lv_iinc (v := nI (x + 1)) (lv' := [(3, .int (nI (x + 1))), (1, .long x1_19), (0, .ref (Ad 1))]) hx hb dX0_allTrees_20 hl (k := 1) rfl (nI_add _ 1) (by decide) rfl (fun ls hl => ?_)
      refine lv_goto (tgt := 4) hx hb dX0_allTrees_23 (by decide) ?_
      exact ih C15 H locs (x + 1) ls (by omega) hP hS hB (by omega) (by rw [← ex1_19]; exact (lv_sub hl [0, 2, 1] rfl))

set_option maxHeartbeats 4000000 in
set_option maxRecDepth 100000 in
theorem c_X0_allTrees (l : Launch) (D : va_G) (cy : Nat → ClassId) (Ad : Nat → Nat) (n mm : Nat) (C : pw_C) (hI : pw_I Ad (shX n)) (hn : 1 ≤ n ∧ n ≤ 12) (hF : fX n mm Ad C) (nx : Nat → Nat → Nat) (hN : gN n nx C) : Met l yX0_allTrees wsX0_allTrees (k2_rm 3 72) (pw_Pre ([.ref (Ad 1)]) D cy Ad (shX n) C) (pw_Post (fun r9 C' => r9 = some (.long (trS nx n n)) ∧ (pw_B (fun k => 29 ≤ k ∧ k < 41) C C')) D cy Ad (shX n)) 0 0 (pw_fr Ad (shX n)) := by
  refine Met.ofW (cc := cX0_allTrees) (maxL := 4) (ret := (some .long)) (by decide) rfl ?_
  intro p e s m args below meth c s₁ B hml hv
  obtain ⟨rfl, hP, hK⟩ := hv
  have hx := B.exec
  have hb := B.bytes
  have hr := B.returns
  have hts := atoms_spec (ws := wsX0_allTrees) B.pre
  have hown : s.vm.findClass RX0 = some m.cls := findClass_of_methodNamed B.named
  have hlocks := B.notSynchronized
  have S : CallFix p m c cX0_allTrees 4 s ([.ref (Ad 1)]).toArray wsX0_allTrees RX0 := ⟨hx, hb, hml, hown, hts⟩
  change W p l e (k2_rm 3 72) s m _ below meth c s.heap [] 0 0 _ _
  have hl := lv_entry ([.ref (Ad 1)]) (n := 4) (Nat.le_of_ble_eq_true rfl)
  rw [lg_entry_eq]
  generalize (lg_sl ([.ref (Ad 1)]) ++ List.replicate (4 - (lg_sl ([.ref (Ad 1)])).length) Slot.unset).toArray = ls at hl ⊢
  have hl : lv_has ls 4 [(0, .ref (Ad 1))] := hl
  have hS : va_S (pw_fr Ad (shX n)) s.heap s.heap [] := va_S.rf
  refine lv_lconst (v := 0) hx hb dX0_allTrees_0 (by decide) ?_
  refine lv_lstore_n (lv' := [(1, .long 0), (0, .ref (Ad 1))]) hx hb dX0_allTrees_1 rfl hl (by decide) rfl (fun ls hl => ?_)
  refine lv_iconst (v := nI 0) hx hb dX0_allTrees_2 (by decide) ?_
  refine lv_istore_n (lv' := [(3, .int (nI 0)), (1, .long 0), (0, .ref (Ad 1))]) hx hb dX0_allTrees_3 rfl hl (by decide) rfl (fun ls hl => ?_)
  exact L_allTrees S hK hI hF hn hN (fun pc9 C9 H9 locs9 ls9 hd9 hP9 hS9 hR9 => W.lret hx hb hr (fun t ht _ => ⟨⟨(some (.long (trS nx n n))), C9, rfl, ⟨rfl, hR9⟩, by rw [ht]; exact hP9⟩, hS9.F ht⟩) hS9.2.2 hd9) (n + 1) C s.heap [] 0 ls (by omega) hP hS pw_B.rf (by omega) (lv_sub hl [0, 2, 1] rfl)
