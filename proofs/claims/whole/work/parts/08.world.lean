section PW4
variable {p : Program} {l : Launch} {e : Env} {R : Room} {s : State} {m : MethodId} {args : Array Value} {below : List Frame} {meth : Method} {c : Code} {H : Heap} {locs : List Loc} {cells slots : Nat} {Q : State → Prop}
variable {cc : ByteArray} {pc : Nat} {ls : Array Slot} {rest : List Value} {D : va_G} {cy : Nat → ClassId} {Ad : Nat → Nat} {sh : Nat → Nat × Nat × Nat} {C : pw_C} {H0 : Heap}
theorem pw_get (hexec : p.tables.exec = Jvm.exec) (hb : c.code = cc) {own Cn : String} {T : u_T} {N ci index b : Nat} {Ts : List Cond} (hts : ∀ w ∈ Ts, w.before args s = true) (hin : ∀ w ∈ u_ws Cn T N, w ∈ Ts) (hown : s.vm.findClass own = some m.cls) (hK : pw_K D cy s) (hP : pw_P D cy Ad sh C H) (k : Nat) (hs : sh k = (6, ci, b)) (hc : vwCl[ci]? = some (Cn, T, N)) (j : Nat) (hj : j < N) {fs : List Value} (hf : C.2.2 k = fs) {v : Value} (hv : fs[j]? = some v)
    (hlink : (Cond.fieldLink own index (T j).1 (T j).2.1 (T j).2.2.1).before args s = true) (hdg : decode cc pc = .ok (.getfield index, 3))
    (kk : W p l e R s m args below meth c H locs cells slots Q (F0 m (pc + 3) ls (v :: rest))) : W p l e R s m args below meth c H locs cells slots Q (F0 m pc ls (.ref (Ad k) :: rest)) := by
  have h1 : va_P D vwCl [(Ad k, .inr (ci, fs))] H := pw_one (hP k _ (by simp [pw_E, hs, hf]))
  exact va_get (D := D) hexec hb hts hin hown hK.1 h1 0 rfl hc j hj hlink (fun _ h9 => h9) hv hdg kk
theorem pw_put (hexec : p.tables.exec = Jvm.exec) (hb : c.code = cc) {own Cn : String} {T : u_T} {N ci index b : Nat} {Ts : List Cond} (hts : ∀ w ∈ Ts, w.before args s = true) (hin : ∀ w ∈ u_ws Cn T N, w ∈ Ts) (ty0 : Nat → FieldType) (hty : ∀ k, k < N → parseFieldDescriptor (T k).2.2.1 = some (ty0 k)) (hnm : ∀ a, a < N → ∀ b, b < N → a ≠ b → (T a).2.1 ≠ (T b).2.1) (hown : s.vm.findClass own = some m.cls) (hK : pw_K D cy s) (hP : pw_P D cy Ad sh C H) (hI : pw_I Ad sh) (hS0 : va_S (pw_fr Ad sh) H0 H locs) (k : Nat) (hs : sh k = (6, ci, b)) (hc : vwCl[ci]? = some (Cn, T, N)) (j : Nat) (hj : j < N) {fs : List Value} (hf : C.2.2 k = fs)
    (hlink : (Cond.fieldLink own index (T j).1 (T j).2.1 (T j).2.2.1).before args s = true) (hfin : (T j).2.2.2 = false) {ty : FieldType} {v : Value} (hd : parseFieldDescriptor (T j).2.2.1 = some ty) (hn : narrow ty v = v) (hfit : fits ty v = true) (hl : j < fs.length) (hdg : decode cc pc = .ok (.putfield index, 3))
    (kk : ∀ (H1 : Heap) (locs1 : List Loc), pw_P D cy Ad sh (pw_setF C k (fs.set j v)) H1 → va_S (pw_fr Ad sh) H0 H1 locs1 → W p l e R s m args below meth c H1 locs1 cells slots Q (F0 m (pc + 3) ls rest)) : W p l e R s m args below meth c H locs cells slots Q (F0 m pc ls (v :: .ref (Ad k) :: rest)) := by
  have h0 : pw_E cy Ad sh C k = some (.inr (ci, fs)) := by simp [pw_E, hs, hf]
  have hap := va_apart (own := own) hts hin ty0 hty hnm hK.1 hc
  obtain ⟨r, h1, cell, q1, q2, q3, q4⟩ := hP k _ h0
  have hr : r = (Cn, T, N) := Option.some.inj (h1.symm.trans hc)
  subst hr
  obtain ⟨hS, hfc, kC, hkC, hkind⟩ := hK.1.1 ci _ hc
  obtain ⟨cf, kf, fi, f, hi, hsl⟩ := hS j hj
  have hlay := hts _ (hin _ (u_in_lay hj))
  unfold u_lay at hlay
  rw [if_neg (by rw [hfin]; decide)] at hlay
  have hst := (u_facts hfc hkC (u_lays hts hin hj) hi).1
  have h6 := u_store hfc hkC hkind hlay hi hd hn hfit
  refine W.putK hexec hb (f := f) ⟨hown, hlink, ⟨_, _, _, hi⟩, hst⟩ (by rw [q2]; exact h6) q1 q3 (by rw [hsl]; exact k2_hasslot (q4 j hj)) rfl rfl hdg fun H' e1 e2 e3 => ?_
  rw [hsl] at e1 ⊢
  refine kk H' _ (pw_store hP hI h0 (pw_setF C k (fs.set j v)) (e1 := .inr (ci, fs.set j v)) (by simp [pw_E, hs, pw_setF]) (fun i hi => by simp [pw_E, pw_setF, hi]) ?_ e3) (hS0.put e2 e3 ⟨k, pw_E_L h0, rfl⟩)
  exact ⟨_, hc, t_OB.to (V := updV (vp_V fs) j v) ⟨_, e1, q2, q3, t_set q4 hap hj v⟩ (fun i _ => vp_updV_set hl v i)⟩
def pw_setR (C : pw_C) (k : Nat) (f : Nat → Int32) : pw_C := (fun j => if j = k then f else C.1 j, C.2)
def pw_setRL (C : pw_C) (k : Nat) (f : Nat → Int64) : pw_C := (C.1, fun j => if j = k then f else C.2.1 j, C.2.2)
theorem pw_copy (hexec : p.tables.exec = Jvm.exec) (hb : c.code = cc) (hml : c.maxLocals = ls.size) {own : String} {index : Nat} (hown : s.vm.findClass own = some m.cls) (hlink : (Cond.methodLink own index arraycopyName).before args s = true) (hnat : (Cond.native arraycopyName).before args s = true) (hstat : (Cond.static arraycopyName).before args s = true) (hini : (Cond.initialized "java/lang/System").before args s = true)
    (hK : pw_K D cy s) (hP : pw_P D cy Ad sh C H) (hI : pw_I Ad sh) (hS : va_S (pw_fr Ad sh) H0 H locs) (k0 k1 : Nat) {n0 n1 b0 b1 n : Nat} (hs0 : sh k0 = (1, n0, b0)) (hs1 : sh k1 = (1, n1, b1)) (h0 : n ≤ n0) (h1 : n ≤ n1) (hn : n < 2 ^ 31)
    (hframes : 1 ≤ R.frames) (hlocals : (rest.map fun v => v.category).sum + (nativeFrameWords "java/lang/System" "arraycopy" 5 + 11) ≤ R.locals) (hdg : decode cc pc = .ok (.invokestatic index, 3))
    (kk : ∀ (H1 : Heap) (locs1 : List Loc), pw_P D cy Ad sh (pw_setR C k1 (fun j => if j < n then C.1 k0 j else C.1 k1 j)) H1 → va_S (pw_fr Ad sh) H0 H1 locs1 → W p l e R s m args below meth c H1 locs1 cells slots Q (F0 m (pc + 3) ls rest)) : W p l e R s m args below meth c H locs cells slots Q (F0 m pc ls (.int (nI n) :: .int (nI 0) :: .ref (Ad k1) :: .int (nI 0) :: .ref (Ad k0) :: rest)) := by
  have e0 : pw_E cy Ad sh C k0 = some (.inl (cy 0, n0, .inl (C.1 k0))) := by simp [pw_E, hs0]
  have e1 : pw_E cy Ad sh C k1 = some (.inl (cy 0, n1, .inl (C.1 k1))) := by simp [pw_E, hs1]
  have hc0 : H[Ad k0]? = some (vp_cell (cy 0) (n0, .inl (C.1 k0))) := hP k0 _ e0
  have hc1 : H[Ad k1]? = some (vp_cell (cy 0) (n1, .inl (C.1 k1))) := hP k1 _ e1
  intro T hT X
  obtain ⟨-, q0, hk0, cm0, hkk0⟩ := (hK.1.2 0 _ rfl).1 n0 (fun j => .int (C.1 k0 j))
  obtain ⟨-, q1, hk1, cm1, hkk1⟩ := (hK.1.2 0 _ rfl).1 n1 (fun j => .int (C.1 k1 j))
  have ez : (nI 0).toNatClampNeg = 0 := by decide
  have en : (nI n).toNatClampNeg = n := nI_clamp hn
  have ti0 : (nI 0).toInt = 0 := by decide
  have tin : (nI n).toInt = (n : Int) := nI_toInt hn
  obtain ⟨vm', X', step⟩ := X.arraycopy hexec hown hlink hnat hstat hini (src := Ad k0) (dst := Ad k1) (cs := vp_cell (cy 0) (n0, .inl (C.1 k0))) (cd := vp_cell (cy 0) (n1, .inl (C.1 k1))) (srcPos := nI 0) (destPos := nI 0) (n := nI n) (by rw [hT]; exact hc0) (by rw [hT]; exact hc1)
    (fun _ h => by cases h) (fun _ h => by cases h) (fun h => by cases h) (fun h => by cases h) hk0 hk1 hkk0 hkk1 (by rfl) (by decide) (by decide) (nI_pos hn)
    (by rw [ti0, tin]; show ¬ _ > ((arrV (cy 0) n0 (fun j => .int (C.1 k0 j))).slots.size : Int); rw [arrV_size]; omega)
    (by rw [ti0, tin]; show ¬ _ > ((arrV (cy 0) n1 (fun j => .int (C.1 k1 j))).slots.size : Int); rw [arrV_size]; omega)
    (fun vm₁ _ i hi => by
      rw [en] at hi
      have e : (vp_cell (cy 0) (n0, .inl (C.1 k0))).slots.getD ((nI 0).toNatClampNeg + i) .null = .int (C.1 k0 i) := by
        show (arrV (cy 0) n0 (fun j => .int (C.1 k0 j))).slots.getD _ _ = _
        rw [ez, Nat.zero_add, Array.getD_eq_getD_getElem?, arrV_read _ _ (by omega)]
        rfl
      refine ⟨?_, ?_⟩
      · rw [e]
        rfl
      · rw [e]
        exact trivial)
    (g := F0 m pc ls (.int (nI n) :: .int (nI 0) :: .ref (Ad k1) :: .int (nI 0) :: .ref (Ad k0) :: rest)) rfl (by rw [hml]) (rest := rest) rfl (by rw [hb]; exact hdg) hframes (by show 2 * 0 + _ + _ ≤ _; omega)
  have ec : copied (vp_cell (cy 0) (n0, .inl (C.1 k0))) (vp_cell (cy 0) (n1, .inl (C.1 k1))) (nI 0) (nI 0) (nI n) = vp_cell (cy 0) (n1, .inl (fun j => if j < n then C.1 k0 j else C.1 k1 j)) := by
    have h4 : (nI 0).toNatClampNeg + (nI n).toNatClampNeg ≤ n0 := by rw [ez, en]; omega
    have h9 : copied (vp_cell (cy 0) (n0, .inl (C.1 k0))) (vp_cell (cy 0) (n1, .inl (C.1 k1))) (nI 0) (nI 0) (nI n) = vp_cell (cy 0) (n1, .inl (va_cpy (C.1 k0) (C.1 k1) (nI 0).toNatClampNeg (nI 0).toNatClampNeg (nI n).toNatClampNeg)) := va_copied (fun z => .int z) (cy 0) (cy 0) (C.1 k0) (C.1 k1) h4
    refine h9.trans ?_
    rw [ez, en, vp_cell_i, vp_cell_i]
    refine congrArg (arrV (cy 0) n1) (funext fun j => ?_)
    unfold va_cpy
    by_cases hj : j < n
    · rw [if_pos ⟨Nat.zero_le _, by omega⟩, if_pos hj]
      simp
    · rw [if_neg (by omega), if_neg hj]
  rw [ec] at X' step
  have hl : Ad k1 < H.size := (Array.getElem?_eq_some_iff.mp hc1).1
  have hheap : ((T.setVm vm').setCell (Ad k1) (vp_cell (cy 0) (n1, .inl (fun j => if j < n then C.1 k0 j else C.1 k1 j)))).heap = H.setIfInBounds (Ad k1) (vp_cell (cy 0) (n1, .inl (fun j => if j < n then C.1 k0 j else C.1 k1 j))) := by rw [← hT]; rfl
  have oq : ∀ q : Nat, q ≠ Ad k1 → (H.setIfInBounds (Ad k1) (vp_cell (cy 0) (n1, .inl (fun j => if j < n then C.1 k0 j else C.1 k1 j))))[q]? = H[q]? := fun q hq => by simp [Array.getElem?_setIfInBounds, Ne.symm hq]
  have hfr : pw_fr Ad sh (Ad k1) := ⟨k1, pw_E_L e1, rfl⟩
  obtain ⟨t, a1, b1⟩ := kk _ _ (pw_store hP hI e1 (pw_setR C k1 (fun j => if j < n then C.1 k0 j else C.1 k1 j)) (e1 := .inl (cy 0, n1, .inl (fun j => if j < n then C.1 k0 j else C.1 k1 j))) (by simp [pw_E, hs1, pw_setR]) (fun i hi => by simp [pw_E, pw_setR, hi]) (show (H.setIfInBounds (Ad k1) _)[Ad k1]? = some _ by simp [Array.getElem?_setIfInBounds, hl]) oq) ⟨by simp; exact hS.1, fun q g1 g2 => by
      rw [oq q (fun e => g2 (by rw [e]; exact hfr))]
      exact hS.2.1 q g1 g2, fun q hq => by
      rcases List.mem_append.mp hq with h | h
      · exact hS.2.2 q h
      · obtain ⟨z, -, hz⟩ := List.mem_map.mp h
        rw [← hz]
        exact hfr⟩ _ hheap X'
  exact ⟨t, step t a1, b1⟩
end PW4
/-- the cells of a PastDraws of n states -/
def shX (n k : Nat) : Nat × Nat × Nat :=
  if k < 21 then ([(6, 4, 0), (6, 0, 0), (6, 1, 0), (6, 2, 0), (6, 3, 0), (4, 8, 21), (1, n, 0), (1, n, 0), (1, 2 ^ n, 0), (1, 2 ^ n, 0), (5, n, 29), (4, n, 41), (3, n, 0), (5, 26, 53), (1, 8, 0), (1, 256, 0), (1, 16, 0), (1, 16, 0), (1, 16, 0), (1, 16, 0), (3, 16, 0)] : List (Nat × Nat × Nat)).getD k (0, 0, 0)
  else if k < 29 then (1, n, 0)
  else if k < 41 then (if k - 29 < n then (2, n, 0) else (0, 0, 0))
  else if k < 53 then (if k - 41 < n then (1, 4, 0) else (0, 0, 0))
  else if k < 79 then (2, n, 0) else (0, 0, 0)
theorem shX_nx {n u : Nat} (h : u < 8) : shX n (21 + u) = (1, n, 0) := by
  unfold shX; rw [if_neg (by omega), if_pos (by omega)]
theorem shX_mi {n u : Nat} (h : u < n) (hn : n ≤ 12) : shX n (29 + u) = (2, n, 0) := by
  unfold shX; rw [if_neg (by omega), if_neg (by omega), if_pos (by omega), if_pos (by omega)]
theorem shX_mx {n u : Nat} (h : u < n) (hn : n ≤ 12) : shX n (41 + u) = (1, 4, 0) := by
  unfold shX; rw [if_neg (by omega), if_neg (by omega), if_neg (by omega), if_pos (by omega), if_pos (by omega)]
theorem shX_co {n u : Nat} (h : u < 26) : shX n (53 + u) = (2, n, 0) := by
  unfold shX; rw [if_neg (by omega), if_neg (by omega), if_neg (by omega), if_neg (by omega), if_pos (by omega)]
def fX (n mm : Nat) (Ad : Nat → Nat) (C : pw_C) : Prop :=
  C.2.2 0 = [.int (nI n), .ref (Ad 1), .ref (Ad 2), .ref (Ad 3), .ref (Ad 4)] ∧
  C.2.2 1 = [.int (nI n), .ref (Ad 5), .ref (Ad 6), .ref (Ad 7), .ref (Ad 8), .ref (Ad 9), .ref (Ad 10)] ∧
  C.2.2 2 = [.int (nI n), .ref (Ad 11), .ref (Ad 12), .ref (Ad 13)] ∧
  C.2.2 3 = [.ref (Ad 14), .ref (Ad 15)] ∧
  C.2.2 4 = [.ref (Ad 16), .ref (Ad 17), .ref (Ad 18), .ref (Ad 19), .ref (Ad 20), .int (nI mm)]
/-- the cells of the reference -/
def shM (k : Nat) : Nat × Nat × Nat := ([(6, 5, 0), (1, 96, 0), (1, 48, 0), (3, 12, 0), (3, 64, 0), (1, 16, 0), (1, 12, 0), (1, 12, 0), (1, 144, 0), (1, 144, 0), (2, 144, 0), (2, 312, 0), (1, 256, 0), (1, 16, 0), (1, 16, 0), (1, 16, 0), (3, 16, 0)] : List (Nat × Nat × Nat)).getD k (0, 0, 0)
def fM (n th : Nat) (pk : Int64) (tr : Int32) (Ad : Nat → Nat) (C : pw_C) : Prop :=
  C.2.2 0 = [.int (nI n), .ref (Ad 1), .ref (Ad 2), .ref (Ad 3), .ref (Ad 4), .int (nI th), .ref (Ad 5), .long pk, .int tr, .ref (Ad 6), .ref (Ad 7), .ref (Ad 8), .ref (Ad 9), .ref (Ad 10), .ref (Ad 11), .ref (Ad 12), .ref (Ad 13), .ref (Ad 14), .ref (Ad 15), .ref (Ad 16)]
/-- the chain, as a function of sign and state -/
def gN (n : Nat) (nx : Nat → Nat → Nat) (C : pw_C) : Prop := ∀ u, u < 8 → ∀ x, x < n → nx u x < n ∧ C.1 (21 + u) x = nI (nx u x)
theorem sh_t1 : shX 3 5 = (4, 8, 21) := rfl
theorem sh_t2 (n : Nat) : shX n 8 = (1, 2 ^ n, 0) := rfl
theorem sh_t3 : shM 11 = (2, 312, 0) := rfl
