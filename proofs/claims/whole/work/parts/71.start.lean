theorem aov {args : Array Value} {s : State} {t : FieldType} (h : (Cond.arrayOver (.array t)).before args s = true) : ∃ comp c k, s.vm.findClass (FieldType.array t).toString = some comp ∧ s.vm.classes[c]? = some k ∧ k.kind = .array comp (.array t) ∧ s.vm.findClass ("[" ++ (FieldType.array t).toString) = some c := by
  unfold Cond.before at h
  simp only [Cond.holds, Cond.value, beq_iff_eq] at h
  rcases hc : s.vm.findClass (FieldType.array t).toString with _ | comp
  · simp [hc] at h
  · simp only [hc, Option.bind_some, Option.bind_eq_some_iff, Option.map_eq_some_iff] at h
    obtain ⟨c, hi, k, hk, hb⟩ := h
    have hp := (Array.findIdx?_eq_some_iff_getElem.mp hi).2.1
    rw [(Array.getElem?_eq_some_iff.mp hk).2] at hp
    rcases hkd : k.kind with _ | _ | _ <;> rw [hkd] at hb hp <;> simp at hb hp
    exact ⟨comp, c, k, rfl, hk, by rw [hkd, hp, hb.1], hb.2⟩
theorem arrT {s : State} {c comp : ClassId} {k : Class} {ty : FieldType} (h1 : s.vm.classes[c]? = some k) (h2 : k.kind = .array comp ty) : ArrOfT s c ty := fun _ _ => ⟨fun _ => (by intro h; cases h), k, h1, comp, h2⟩
/-- what the tables say of the classes and the arrays -/
theorem lw_K {s : State} {b : Nat} (hts0 : ∀ w ∈ lw_tbl, w.before #[Value.ref b] s = true) : ∃ (D : va_G) (cy : Nat → ClassId), pw_K D cy s ∧ pw_O cy s := by
  have hts : ∀ w ∈ wsL_law, w.before #[Value.ref b] s = true := fun w h => hts0 w (wsL_law_in w h)
  obtain ⟨c0, iS0, hKn0⟩ := u_known (C := RX0) (T := TX0) (N := 7) (n := 7) hts inlX0 (hts (.instantiable RX0 7) (List.mem_append_left _ (List.mem_append_left _ (List.mem_append_left _ (List.mem_append_left _ (List.mem_append_left _ (List.mem_append_left _ (List.mem_append_left _ (List.mem_append_right _ (List.mem_append_left _ (List.mem_of_getElem? (i := 2) rfl)))))))))))
  obtain ⟨c1, iS1, hKn1⟩ := u_known (C := RX1) (T := TX1) (N := 4) (n := 4) hts inlX1 (hts (.instantiable RX1 4) (List.mem_append_left _ (List.mem_append_left _ (List.mem_append_left _ (List.mem_append_left _ (List.mem_append_left _ (List.mem_append_left _ (List.mem_append_left _ (List.mem_append_right _ (List.mem_append_left _ (List.mem_of_getElem? (i := 6) rfl)))))))))))
  obtain ⟨c2, iS2, hKn2⟩ := u_known (C := RX2) (T := TX2) (N := 2) (n := 2) hts inlX2 (hts (.instantiable RX2 2) (List.mem_append_left _ (List.mem_append_left _ (List.mem_append_left _ (List.mem_append_left _ (List.mem_append_left _ (List.mem_append_left _ (List.mem_append_left _ (List.mem_append_right _ (List.mem_append_left _ (List.mem_of_getElem? (i := 10) rfl)))))))))))
  obtain ⟨c3, iS3, hKn3⟩ := u_known (C := RX3) (T := TX3) (N := 6) (n := 6) hts inlX3 (hts (.instantiable RX3 6) (List.mem_append_left _ (List.mem_append_left _ (List.mem_append_left _ (List.mem_append_left _ (List.mem_append_left _ (List.mem_append_left _ (List.mem_append_left _ (List.mem_append_right _ (List.mem_append_left _ (List.mem_of_getElem? (i := 14) rfl)))))))))))
  obtain ⟨c4, iS4, hKn4⟩ := u_known (C := RX4) (T := TX4) (N := 5) (n := 5) hts inlX4 (hts (.instantiable RX4 5) (List.mem_append_left _ (List.mem_append_left _ (List.mem_append_left _ (List.mem_append_left _ (List.mem_append_left _ (List.mem_append_left _ (List.mem_append_left _ (List.mem_append_left _ (List.mem_of_getElem? (i := 1) rfl))))))))))
  obtain ⟨c5, iS5, hKn5⟩ := u_known (C := RX5) (T := TX5) (N := 20) (n := 20) hts inlX5 (hts (.instantiable RX5 20) (List.mem_append_left _ (List.mem_append_left _ (List.mem_append_left _ (List.mem_append_left _ (List.mem_append_left _ (List.mem_append_left _ (List.mem_append_left _ (List.mem_append_left _ (List.mem_of_getElem? (i := 4) rfl))))))))))
  obtain ⟨dC, dI, hKc⟩ : ∃ (dC : Nat → ClassId) (dI : Nat → Nat → Nat), ∀ (k : Nat) (q : vw_C), vwCl[k]? = some q → u_Kn s q.1 q.2.1 q.2.2 (dC k) (dI k) := by
    refine ⟨fun k => if k = 0 then c0 else if k = 1 then c1 else if k = 2 then c2 else if k = 3 then c3 else if k = 4 then c4 else c5, fun k => if k = 0 then iS0 else if k = 1 then iS1 else if k = 2 then iS2 else if k = 3 then iS3 else if k = 4 then iS4 else iS5, ?_⟩
    intro k q hq
    match k, hq with
    | 0, hq => cases hq; exact hKn0
    | 1, hq => cases hq; exact hKn1
    | 2, hq => cases hq; exact hKn2
    | 3, hq => cases hq; exact hKn3
    | 4, hq => cases hq; exact hKn4
    | 5, hq => cases hq; exact hKn5
    | k + 6, hq => simp [vwCl] at hq
  have hq : ∀ (i : Nat) (w : Cond), lw_tbl[i]? = some w → w.before #[Value.ref b] s = true := fun i w h => hts0 w (List.mem_of_getElem? h)
  obtain ⟨a0, k0, p0, e0, f0, g0⟩ := Cond.arrayClass_spec (hq 95 (Cond.arrayClass .int) (by decide +kernel))
  obtain ⟨a1, k1, p1, e1, f1, g1⟩ := Cond.arrayClass_spec (hq 96 (Cond.arrayClass .long) (by decide +kernel))
  obtain ⟨a2, k2, p2, e2, f2, g2⟩ := Cond.arrayClass_spec (hq 121 (Cond.arrayClass .boolean) (by decide +kernel))
  obtain ⟨m0, a3, k3, e3, f3, g3, h3⟩ := aov (hq 70 (Cond.arrayOver (.array .int)) (by decide +kernel))
  obtain ⟨m1, a4, k4, e4, f4, g4, h4⟩ := aov (hq 72 (Cond.arrayOver (.array .long)) (by decide +kernel))
  have e3' : s.vm.findClass ("[" ++ FieldType.int.toString) = some m0 := e3
  have e4' : s.vm.findClass ("[" ++ FieldType.long.toString) = some m1 := e4
  have q0 : m0 = a0 := Option.some.inj (e3'.symm.trans e0)
  have q1 : m1 = a1 := Option.some.inj (e4'.symm.trans e1)
  subst q0 q1
  refine ⟨(dC, dI), fun k => if k = 0 then m0 else if k = 1 then m1 else if k = 2 then a2 else if k = 3 then a3 else a4, ⟨⟨hKc, ?_⟩, ?_⟩, ⟨⟨k3, f3, g3⟩, k0, p0, f0, g0⟩, ⟨k4, f4, g4⟩, k1, p1, f1, g1⟩
  · intro k q hk
    match k, hk with
    | 0, hk => cases hk; exact ⟨arrT f0 g0, e0⟩
    | 1, hk => cases hk; exact ⟨arrT f1 g1, e1⟩
    | 2, hk => cases hk; exact ⟨arrT f2 g2, e2⟩
    | 3, hk => cases hk; exact ⟨arrT f3 g3, h3⟩
    | 4, hk => cases hk; exact ⟨arrT f4 g4, h4⟩
    | k + 5, hk => simp [pw_tys] at hk
  · exact va_tabs (by decide +kernel) rfl (hq 235 pw_nest (by decide +kernel))
theorem df4 : ∀ j, j < 5 → defaultValue (tyX4 j) = vp_V [.int 0, .null, .null, .null, .null] j := fun j hj => by
  match j, hj with
  | 0, _ => rfl
  | 1, _ => rfl
  | 2, _ => rfl
  | 3, _ => rfl
  | 4, _ => rfl
theorem df5 : ∀ j, j < 20 → defaultValue (tyX5 j) = vp_V [.int 0, .null, .null, .null, .null, .int 0, .null, .long 0, .int 0, .null, .null, .null, .null, .null, .null, .null, .null, .null, .null, .null] j := fun j hj => by
  match j, hj with
  | 0, _ => rfl
  | 1, _ => rfl
  | 2, _ => rfl
  | 3, _ => rfl
  | 4, _ => rfl
  | 5, _ => rfl
  | 6, _ => rfl
  | 7, _ => rfl
  | 8, _ => rfl
  | 9, _ => rfl
  | 10, _ => rfl
  | 11, _ => rfl
  | 12, _ => rfl
  | 13, _ => rfl
  | 14, _ => rfl
  | 15, _ => rfl
  | 16, _ => rfl
  | 17, _ => rfl
  | 18, _ => rfl
  | 19, _ => rfl
  | j + 20, hj => exact absurd hj (by omega)
def AdM (h k : Nat) : Nat := h + k
theorem AdM_I {h : Nat} : pw_I (AdM h) shM := fun j k _ _ e => by unfold AdM at e; omega
section LWC
variable {p : Program} {l : Launch} {e : Env} {R : Room} {s : State} {m : MethodId} {args : Array Value} {below : List Frame} {meth : Method} {c : Code} {H : Heap} {locs : List Loc} {cells slots : Nat} {Q : State → Prop} {cc : ByteArray} {pc nL index : Nat} {ls : Array Slot} {rest : List Value} {Ts : List Cond} {own : String}
theorem lc_call (S : CallFix p m c cc nL s args Ts own) {b L : Nat} {xs : Nat → Int32} (hL : L ≤ 2561) (hX : va_X b L xs s s.heap) (hbl : b < s.heap.size) (hS : va_S (fun q : Nat => s.heap.size ≤ q) s.heap H locs) (hG : GoodIn Ts (va_wsS own index yL_cell wsL_cell)) (hR : 0 + 1 ≤ R.frames ∧ 8 + (2 + 11) + 0 ≤ R.locals) (hl : ls.size = nL) (hro : (rest.map fun v => v.category).sum ≤ 8) (hdg : decode cc pc = .ok (.invokestatic index, 3)) (hf : cells ≤ R.cells ∧ slots ≤ R.slots)
    (kk : W p l e R s m args below meth c H locs cells slots Q (F0 m (pc + 3) ls (.int (lc L xs) :: rest))) : W p l e R s m args below meth c H locs cells slots Q (F0 m pc ls (.int (nI 0) :: .ref b :: rest)) :=
  pw_callR (va_runS (As := [.ref b, .int (nI 0)]) (rest := rest) S (c_L_cell l b L xs hL) (va_cwS 2 S.2.2.2.2 hG rfl rfl rfl (by decide +kernel) hR) ⟨lc_blind, fun U hU hW => ⟨rfl, va_X.moved hW.alike (by rw [hU]; exact hX.kept (hS.2.1 b hbl (Nat.not_le.mpr hbl)))⟩⟩ rfl rfl hl rfl (lv_room hro) hdg hf) kk
end LWC

set_option maxHeartbeats 4000000 in
set_option maxRecDepth 100000 in
theorem whole_start {p : Program} {e : Env} {s : State} {m : MethodId} {below : List Frame} {meth : Method} {c : Code} (l : Launch) {b L : Nat} {xs : Nat → Int32} (hL : L ≤ 2561) (C0 : lw_At p s m meth c b L xs) : W p l e room_1 s m #[Value.ref b] below meth c s.heap [] 0 0 (lw_Z below #[Value.ref b] s) (entryFrame m ([Value.ref b] : List Value).toArray 4) := by
  obtain ⟨hx, hb, hr, hml, hown, hts0, hX, hbl, hlocks, hgv⟩ := id C0
  have hts : ∀ w ∈ wsL_law, w.before #[Value.ref b] s = true := fun w h => hts0 w (wsL_law_in w h)
  have S : CallFix p m c cL_law 4 s #[Value.ref b] wsL_law RL := ⟨hx, hb, hml, hown, hts⟩
  obtain ⟨D, cy, hK, hO⟩ := lw_K hts0
  have hl := lv_entry ([.ref b]) (n := 4) (Nat.le_of_ble_eq_true rfl)
  rw [lg_entry_eq]
  generalize (lg_sl ([.ref b]) ++ List.replicate (4 - (lg_sl ([.ref b])).length) Slot.unset).toArray = ls at hl ⊢
  have hl : lv_has ls 4 [(0, .ref b)] := hl
  obtain ⟨h, hh⟩ : ∃ h, h = s.heap.size := ⟨_, rfl⟩
  obtain ⟨n, hn9⟩ : ∃ n, nOf (lc L xs) = n := ⟨_, rfl⟩
  have hn : 1 ≤ n ∧ n ≤ 12 := hn9 ▸ nOf_b _
  obtain ⟨Ad, hAd⟩ : ∃ Ad, Ad = AdX h n := ⟨_, rfl⟩
  have hAd0 : Ad 0 = h := by rw [hAd]; rfl
  have hS : va_S (fun q : Nat => s.heap.size ≤ q) s.heap s.heap [] := va_S.rf
  refine pw_newo (b := 0) hx hb hts inlX4 tyX4 tyX4_ok hown (hts (.classLink RL 7 RX4) (List.mem_append_left _ (List.mem_append_left _ (List.mem_append_left _ (List.mem_append_left _ (List.mem_append_left _ (List.mem_append_left _ (List.mem_append_left _ (List.mem_append_left _ (List.mem_of_getElem? (i := 0) rfl)))))))))) (hts (.instantiable RX4 5) (List.mem_append_left _ (List.mem_append_left _ (List.mem_append_left _ (List.mem_append_left _ (List.mem_append_left _ (List.mem_append_left _ (List.mem_append_left _ (List.mem_append_left _ (List.mem_of_getElem? (i := 1) rfl)))))))))) (hts (.initialized RX4) (List.mem_append_left _ (List.mem_append_left _ (List.mem_append_left _ (List.mem_append_left _ (List.mem_append_left _ (List.mem_append_left _ (List.mem_append_left _ (List.mem_append_left _ (List.mem_of_getElem? (i := 2) rfl)))))))))) hK (ci := 4) rfl (fs := [.int 0, .null, .null, .null, .null]) df4 (Nat.le_of_ble_eq_true rfl) (Nat.le_of_ble_eq_true rfl) dL_law_0 (fun H hN hz o9 => ?_)
  have hS := va_S.mem_grow hS hz o9
  rw [← hh, ← hAd0] at hN ⊢
  have hz : H.size = h + 1 := by rw [hz, hh]
  refine lv_dup hx hb dL_law_3 rfl ?_
  refine lv_aload_n hx hb dL_law_4 rfl (lv_at hl 0 rfl) ?_
  refine lv_iconst (v := nI 0) hx hb dL_law_5 (by decide) ?_
  refine lc_call S hL hX hbl hS gL_law_L_cell ⟨Nat.le_of_ble_eq_true rfl, Nat.le_of_ble_eq_true rfl⟩ hl.1 (Nat.le_of_ble_eq_true rfl) dL_law_6 ⟨Nat.le_of_ble_eq_true rfl, Nat.le_of_ble_eq_true rfl⟩ ?_
  have hge : ∀ q, pw_fr Ad (shX n) q → s.heap.size ≤ q := fun q hq => by
    obtain ⟨k, h1, h2⟩ := hq
    have := AdX_lt (h := h) hn h1
    rw [hAd] at h2; omega
  refine pw_ciL (As := [.int (lc L xs)]) S hK hO hS 0 rfl hN hz 1 (c_X4_init l D cy Ad (h + 1) h n (lc L xs) hn9 rfl hAd) hge gL_law_X4_init rfl rfl rfl (hts (.initialized RX4) (List.mem_append_left _ (List.mem_append_left _ (List.mem_append_left _ (List.mem_append_left _ (List.mem_append_left _ (List.mem_append_left _ (List.mem_append_left _ (List.mem_append_left _ (List.mem_of_getElem? (i := 2) rfl)))))))))) (hts (.methodLink RL 15 yX4_init) (List.mem_append_left _ (List.mem_append_left _ (List.mem_append_left _ (List.mem_append_left _ (List.mem_append_left _ (List.mem_append_left _ (List.mem_append_left _ (List.mem_append_left _ (List.mem_of_getElem? (i := 11) rfl)))))))))) (hts (.instanceMethod yX4_init) (List.mem_append_left _ (List.mem_append_left _ (List.mem_append_left _ (List.mem_append_left _ (List.mem_append_left _ (List.mem_append_left _ (List.mem_append_left _ (List.mem_append_left _ (List.mem_of_getElem? (i := 12) rfl)))))))))) rfl (by decide +kernel) ⟨Nat.le_of_ble_eq_true rfl, Nat.le_of_ble_eq_true rfl⟩ rfl hl.1 rfl (Nat.le_of_ble_eq_true rfl) dL_law_9 ⟨Nat.le_of_ble_eq_true rfl, Nat.le_of_ble_eq_true rfl⟩ (fun C H locs hXI hP hk9 hS hz => ?_)
  refine lv_astore_n (lv' := [(1, .ref (Ad 0)), (0, .ref b)]) hx hb dL_law_12 rfl hl (by decide) rfl (fun ls hl => ?_)
  obtain ⟨h2, hh2⟩ : ∃ h2, h2 = h + (55 + 2 * n) := ⟨_, rfl⟩
  rw [← hh2] at hz
  obtain ⟨Ad2, hAd2⟩ : ∃ Ad2, Ad2 = AdM h2 := ⟨_, rfl⟩
  have hAd20 : Ad2 0 = h2 := by rw [hAd2]; rfl
  refine pw_newo (b := 0) hx hb hts inlX5 tyX5 tyX5_ok hown (hts (.classLink RL 18 RX5) (List.mem_append_left _ (List.mem_append_left _ (List.mem_append_left _ (List.mem_append_left _ (List.mem_append_left _ (List.mem_append_left _ (List.mem_append_left _ (List.mem_append_left _ (List.mem_of_getElem? (i := 3) rfl)))))))))) (hts (.instantiable RX5 20) (List.mem_append_left _ (List.mem_append_left _ (List.mem_append_left _ (List.mem_append_left _ (List.mem_append_left _ (List.mem_append_left _ (List.mem_append_left _ (List.mem_append_left _ (List.mem_of_getElem? (i := 4) rfl)))))))))) (hts (.initialized RX5) (List.mem_append_left _ (List.mem_append_left _ (List.mem_append_left _ (List.mem_append_left _ (List.mem_append_left _ (List.mem_append_left _ (List.mem_append_left _ (List.mem_append_left _ (List.mem_of_getElem? (i := 5) rfl)))))))))) hK (ci := 5) rfl (fs := [.int 0, .null, .null, .null, .null, .int 0, .null, .long 0, .int 0, .null, .null, .null, .null, .null, .null, .null, .null, .null, .null, .null]) df5 (Nat.le_of_ble_eq_true rfl) (Nat.le_of_ble_eq_true rfl) dL_law_13 (fun H3 hN hz3 o9 => ?_)
  have hS := va_S.mem_grow hS hz3 o9
  have hP : pw_P D cy Ad (shX n) C H3 := fun k e9 he => (hP k e9 he).kept (o9 _ (hP k e9 he).lt)
  rw [hz, ← hAd20] at hN ⊢
  have hz : H3.size = h2 + 1 := by rw [hz3, hz]
  refine lv_dup hx hb dL_law_16 rfl ?_
  refine lv_aload_n hx hb dL_law_17 rfl (lv_at hl 1 rfl) ?_
  refine lv_iconst (v := nI 0) hx hb dL_law_18 (by decide) ?_
  refine lc_call S hL hX hbl hS gL_law_L_cell ⟨Nat.le_of_ble_eq_true rfl, Nat.le_of_ble_eq_true rfl⟩ hl.1 (Nat.le_of_ble_eq_true rfl) dL_law_19 ⟨Nat.le_of_ble_eq_true rfl, Nat.le_of_ble_eq_true rfl⟩ ?_
  have hI2 : pw_I Ad2 shM := hAd2 ▸ AdM_I
  have hge2 : ∀ q, pw_fr Ad2 shM q → s.heap.size ≤ q := fun q hq => by
    obtain ⟨k, h1, h9⟩ := hq
    rw [hAd2] at h9; unfold AdM at h9; omega
  have hI : pw_I Ad (shX n) := hAd ▸ AdX_I hn
  have hd12 : ∀ k, pw_L shM k → ¬ pw_fr Ad (shX n) (Ad2 k) := fun k hk q => by
    obtain ⟨j, h1, h9⟩ := q
    have := AdX_lt (h := h) hn h1
    rw [hAd2, hAd] at h9; unfold AdM at h9; omega
  have hd21 : ∀ k, pw_L (shX n) k → ¬ pw_fr Ad2 shM (Ad k) := fun k hk q => by
    obtain ⟨j, h1, h9⟩ := q
    exact hd12 j h1 ⟨k, hk, h9.symm⟩
  have hM5 := c_X5_init l D cy Ad2 (h2 + 1) hI2 (fun k h1 h9 => by rw [hAd2]; unfold AdM; omega) (lc L xs)
  rw [shM_R] at hM5
  refine pw_ciL (As := [.int (lc L xs)]) S hK hO hS 0 rfl hN hz 1 hM5 hge2 gL_law_X5_init rfl rfl rfl (hts (.initialized RX5) (List.mem_append_left _ (List.mem_append_left _ (List.mem_append_left _ (List.mem_append_left _ (List.mem_append_left _ (List.mem_append_left _ (List.mem_append_left _ (List.mem_append_left _ (List.mem_of_getElem? (i := 5) rfl)))))))))) (hts (.methodLink RL 20 yX5_init) (List.mem_append_left _ (List.mem_append_left _ (List.mem_append_left _ (List.mem_append_left _ (List.mem_append_left _ (List.mem_append_left _ (List.mem_append_left _ (List.mem_append_right _ (List.mem_append_right _ (List.mem_append_right _ (List.mem_append_left _ (List.mem_of_getElem? (i := 17) rfl))))))))))))) (hts (.instanceMethod yX5_init) (List.mem_append_left _ (List.mem_append_left _ (List.mem_append_left _ (List.mem_append_left _ (List.mem_append_left _ (List.mem_append_left _ (List.mem_append_left _ (List.mem_append_right _ (List.mem_append_right _ (List.mem_append_right _ (List.mem_append_left _ (List.mem_of_getElem? (i := 18) rfl))))))))))))) rfl (by decide +kernel) ⟨Nat.le_of_ble_eq_true rfl, Nat.le_of_ble_eq_true rfl⟩ rfl hl.1 rfl (Nat.le_of_ble_eq_true rfl) dL_law_22 ⟨Nat.le_of_ble_eq_true rfl, Nat.le_of_ble_eq_true rfl⟩ (fun C2 H locs hMI hP2 hk9 hS hz => ?_)
  have hP := hP.kp hk9 hd21
  refine lv_astore_n (lv' := [(2, .ref (Ad2 0)), (1, .ref (Ad 0)), (0, .ref b)]) hx hb dL_law_25 rfl hl (by decide) rfl (fun ls hl => ?_)
  refine lv_iconst (v := nI 1) hx hb dL_law_26 (by decide) ?_
  refine lv_istore_n (lv' := [(3, .int (nI 1)), (2, .ref (Ad2 0)), (1, .ref (Ad 0)), (0, .ref b)]) hx hb dL_law_27 rfl hl (by decide) rfl (fun ls hl => ?_)
  refine W.widen (k := 600000) (n := 7302250) (Nat.le_of_ble_eq_true rfl) (Nat.le_of_ble_eq_true rfl) ?_
  rw [hn9] at hMI
  exact law_loop ⟨S, hX, hbl, hK, hI, hI2, hn, hd12, hd21, hge, hge2⟩ hL hr hlocks (L + 6) 1 1 (fun _ x => x) (fun _ _ => none) (fun _ => false) (fun _ => 255) (fun _ => 1) C C2 H locs ls (by omega) (by omega) ⟨⟨by decide, by decide⟩, hP, hP2, hXI, hMI, hS⟩ hl
