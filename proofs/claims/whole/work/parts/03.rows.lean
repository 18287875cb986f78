/-! the world of one object: its cells by number; ints, longs and fields by number and place -/
abbrev pw_C : Type := (Nat → Nat → Int32) × (Nat → Nat → Int64) × (Nat → List Value)
def pw_E (cy : Nat → ClassId) (Ad : Nat → Nat) (sh : Nat → Nat × Nat × Nat) (C : pw_C) (k : Nat) : Option va_E :=
  if (sh k).1 = 1 then some (.inl (cy 0, (sh k).2.1, .inl (C.1 k)))
  else if (sh k).1 = 2 then some (.inl (cy 1, (sh k).2.1, .inr (.inl (C.2.1 k))))
  else if (sh k).1 = 3 then some (.inl (cy 2, (sh k).2.1, .inl (C.1 k)))
  else if (sh k).1 = 4 then some (.inl (cy 3, (sh k).2.1, .inr (.inr (.inr (.inr (fun i => some (Ad ((sh k).2.2 + i))))))))
  else if (sh k).1 = 5 then some (.inl (cy 4, (sh k).2.1, .inr (.inr (.inr (.inr (fun i => some (Ad ((sh k).2.2 + i))))))))
  else if (sh k).1 = 6 then some (.inr ((sh k).2.1, C.2.2 k))
  else none
def pw_P (D : va_G) (cy : Nat → ClassId) (Ad : Nat → Nat) (sh : Nat → Nat × Nat × Nat) (C : pw_C) (H : Heap) : Prop := ∀ (k : Nat) (e : va_E), pw_E cy Ad sh C k = some e → va_at D vwCl (Ad k, e) H
def pw_L (sh : Nat → Nat × Nat × Nat) (k : Nat) : Prop := 1 ≤ (sh k).1 ∧ (sh k).1 ≤ 6
def pw_I (Ad : Nat → Nat) (sh : Nat → Nat × Nat × Nat) : Prop := ∀ j k : Nat, pw_L sh j → pw_L sh k → Ad j = Ad k → j = k
def pw_fr (Ad : Nat → Nat) (sh : Nat → Nat × Nat × Nat) : Nat → Prop := fun q => ∃ k : Nat, pw_L sh k ∧ q = Ad k
def pw_tys (cy : Nat → ClassId) : List (ClassId × FieldType) := [(cy 0, .int), (cy 1, .long), (cy 2, .boolean), (cy 3, .array .int), (cy 4, .array .long)]
def pw_nest : Cond := .methodLinkNest RX0 38 yX4_signAt "PastDraws"
def pw_K (D : va_G) (cy : Nat → ClassId) (U : State) : Prop := va_K D vwCl (pw_tys cy) U ∧ va_Nw pw_nest U
def pw_Pre (av : List Value) (D : va_G) (cy : Nat → ClassId) (Ad : Nat → Nat) (sh : Nat → Nat × Nat × Nat) (C : pw_C) : Array Value → State → Prop := fun v U => v = av.toArray ∧ pw_P D cy Ad sh C U.heap ∧ pw_K D cy U
def pw_Post (Rel : Option Value → pw_C → Prop) (D : va_G) (cy : Nat → ClassId) (Ad : Nat → Nat) (sh : Nat → Nat × Nat × Nat) : Array Value → State → Outcome → State → Prop := fun _ st o t => (∃ (r : Option Value) (C' : pw_C), o = .returned r ∧ Rel r C' ∧ pw_P D cy Ad sh C' t.heap) ∧ va_F (pw_fr Ad sh) st t
def pw_setI (C : pw_C) (k i : Nat) (x : Int32) : pw_C := (fun j => if j = k then upd (C.1 k) i x else C.1 j, C.2)
def pw_setL (C : pw_C) (k i : Nat) (x : Int64) : pw_C := (C.1, fun j => if j = k then vp_updL (C.2.1 k) i x else C.2.1 j, C.2.2)
def pw_setF (C : pw_C) (k : Nat) (fs : List Value) : pw_C := (C.1, C.2.1, fun j => if j = k then fs else C.2.2 j)
/-- a truth as an int -/
def pb (b : Bool) : Int32 := if b then 1 else 0
section PW1
variable {D : va_G} {cy : Nat → ClassId} {Ad : Nat → Nat} {sh : Nat → Nat × Nat × Nat} {C : pw_C} {H H1 : Heap} {k : Nat}
theorem pw_E_L {e : va_E} (h : pw_E cy Ad sh C k = some e) : pw_L sh k := by
  unfold pw_E at h
  unfold pw_L
  repeat' (split at h)
  all_goals first | omega | cases h
theorem pw_one {q : Nat × va_E} (h : va_at D vwCl q H) : va_P D vwCl [q] H := fun j x hx => by
  cases j with
  | zero => simp at hx; subst hx; exact h
  | succ j => simp at hx
theorem pw_store {e0 e1 : va_E} (hP : pw_P D cy Ad sh C H) (hI : pw_I Ad sh) (h0 : pw_E cy Ad sh C k = some e0) (C' : pw_C) (h1 : pw_E cy Ad sh C' k = some e1) (hne : ∀ j, j ≠ k → pw_E cy Ad sh C' j = pw_E cy Ad sh C j) (he : va_at D vwCl (Ad k, e1) H1) (oq : ∀ q : Nat, q ≠ Ad k → H1[q]? = H[q]?) : pw_P D cy Ad sh C' H1 := by
  intro j e hj
  by_cases hjk : j = k
  · subst hjk
    rw [h1] at hj
    cases hj
    exact he
  · rw [hne j hjk] at hj
    exact (hP j e hj).kept (oq _ (fun h => hjk (hI j k (pw_E_L hj) (pw_E_L h0) h)))
theorem pw_K.moved {u U : State} (hW : u.WarmedH U.vm) (h : pw_K D cy u) : pw_K D cy U := ⟨va_K.moved hW.alike h.1, va_Nw.warmM hW h.2⟩
theorem pw_blind {av : List Value} : FrameBlind (pw_Pre av D cy Ad sh C) := fun a U g mk h => ⟨h.1, h.2.1, va_K.moved (u := U) (U := U.calling g mk a) (Vm.Alike.refl U.vm) h.2.2.1, va_Nw.same rfl rfl h.2.2.2⟩
theorem pw_kept {fr : Nat → Prop} (hP : pw_P D cy Ad sh C H) (hk : ∀ q : Nat, q < H.size → ¬ fr q → H1[q]? = H[q]?) (hd : ∀ k, pw_L sh k → ¬ fr (Ad k)) : pw_P D cy Ad sh C H1 := fun j e hj => (hP j e hj).kept (hk _ (hP j e hj).lt (hd j (pw_E_L hj)))
end PW1
section PW2
variable {p : Program} {l : Launch} {e : Env} {R : Room} {s : State} {m : MethodId} {args : Array Value} {below : List Frame} {meth : Method} {c : Code} {H : Heap} {locs : List Loc} {cells slots : Nat} {Q : State → Prop}
variable {cc : ByteArray} {pc : Nat} {ls : Array Slot} {rest : List Value} {D : va_G} {cy : Nat → ClassId} {Ad : Nat → Nat} {sh : Nat → Nat × Nat × Nat} {C : pw_C} {H0 : Heap}
theorem pw_top {x y : Value} (h : x = y) (kk : W p l e R s m args below meth c H locs cells slots Q (F0 m pc ls (y :: rest))) : W p l e R s m args below meth c H locs cells slots Q (F0 m pc ls (x :: rest)) := by
  subst h; exact kk
theorem pw_topi {x y : Int32} (h : x = y) (kk : W p l e R s m args below meth c H locs cells slots Q (F0 m pc ls (.int y :: rest))) : W p l e R s m args below meth c H locs cells slots Q (F0 m pc ls (.int x :: rest)) := by
  subst h; exact kk
theorem pw_topl {x y : Int64} (h : x = y) (kk : W p l e R s m args below meth c H locs cells slots Q (F0 m pc ls (.long y :: rest))) : W p l e R s m args below meth c H locs cells slots Q (F0 m pc ls (.long x :: rest)) := by
  subst h; exact kk
theorem pw_iald (hexec : p.tables.exec = Jvm.exec) (hb : c.code = cc) (hK : pw_K D cy s) (hP : pw_P D cy Ad sh C H) (k : Nat) {len b : Nat} (hs : sh k = (1, len, b)) {i : Nat} (hi : i < len) (hl : len < 2 ^ 31) {v : Int32} (hv : C.1 k i = v) (hdg : decode cc pc = .ok (.iaload, 1))
    (kk : W p l e R s m args below meth c H locs cells slots Q (F0 m (pc + 1) ls (.int v :: rest))) : W p l e R s m args below meth c H locs cells slots Q (F0 m pc ls (.int (nI i) :: .ref (Ad k) :: rest)) := by
  have h1 : va_P D vwCl [(Ad k, .inl (cy 0, len, .inl (C.1 k)))] H := pw_one (hP k _ (by simp [pw_E, hs]))
  refine va_iald hexec hb hK.1 h1 0 0 rfl rfl (vp_in_nI hi hl) hdg ?_
  rw [nI_clamp (by omega), hv]
  exact kk
theorem pw_zald (hexec : p.tables.exec = Jvm.exec) (hb : c.code = cc) (hK : pw_K D cy s) (hP : pw_P D cy Ad sh C H) (k : Nat) {len b : Nat} (hs : sh k = (3, len, b)) {i : Nat} (hi : i < len) (hl : len < 2 ^ 31) {v : Int32} (hv : C.1 k i = v) (hdg : decode cc pc = .ok (.baload, 1))
    (kk : W p l e R s m args below meth c H locs cells slots Q (F0 m (pc + 1) ls (.int v :: rest))) : W p l e R s m args below meth c H locs cells slots Q (F0 m pc ls (.int (nI i) :: .ref (Ad k) :: rest)) := by
  have h1 : va_P D vwCl [(Ad k, .inl (cy 2, len, .inl (C.1 k)))] H := pw_one (hP k _ (by simp [pw_E, hs]))
  refine va_zald hexec hb hK.1 h1 0 2 rfl rfl (vp_in_nI hi hl) hdg ?_
  rw [nI_clamp (by omega), hv]
  exact kk
theorem pw_lald (hexec : p.tables.exec = Jvm.exec) (hb : c.code = cc) (hK : pw_K D cy s) (hP : pw_P D cy Ad sh C H) (k : Nat) {len b : Nat} (hs : sh k = (2, len, b)) {i : Nat} (hi : i < len) (hl : len < 2 ^ 31) {v : Int64} (hv : C.2.1 k i = v) (hdg : decode cc pc = .ok (.laload, 1))
    (kk : W p l e R s m args below meth c H locs cells slots Q (F0 m (pc + 1) ls (.long v :: rest))) : W p l e R s m args below meth c H locs cells slots Q (F0 m pc ls (.int (nI i) :: .ref (Ad k) :: rest)) := by
  have h1 : va_P D vwCl [(Ad k, .inl (cy 1, len, .inr (.inl (C.2.1 k))))] H := pw_one (hP k _ (by simp [pw_E, hs]))
  refine va_lald hexec hb hK.1 h1 0 1 rfl rfl (vp_in_nI hi hl) hdg ?_
  rw [nI_clamp (by omega), hv]
  exact kk
theorem pw_aald4 (hexec : p.tables.exec = Jvm.exec) (hb : c.code = cc) (hK : pw_K D cy s) (hP : pw_P D cy Ad sh C H) (k : Nat) {len b : Nat} (hs : sh k = (4, len, b)) {i : Nat} (hi : i < len) (hl : len < 2 ^ 31) (hdg : decode cc pc = .ok (.aaload, 1))
    (kk : W p l e R s m args below meth c H locs cells slots Q (F0 m (pc + 1) ls (.ref (Ad (b + i)) :: rest))) : W p l e R s m args below meth c H locs cells slots Q (F0 m pc ls (.int (nI i) :: .ref (Ad k) :: rest)) := by
  have h1 : va_P D vwCl [(Ad k, .inl (cy 3, len, .inr (.inr (.inr (.inr (fun i => some (Ad (b + i))))))))] H := pw_one (hP k _ (by simp [pw_E, hs]))
  have hin : vp_in (nI i) len := vp_in_nI hi hl
  have hc : (nI i).toNatClampNeg = i := nI_clamp (by omega)
  refine W.aald (v := .ref (Ad (b + i))) (ty := .array .int) hexec hb (h1 0 _ rfl) ((hK.1.2 3 _ rfl).1 len (fun j => va_rf (some (Ad (b + j))))) rfl (fun q => by cases q) (by show ¬ (nI i < 0 ∨ (arrV _ _ _).slots.size ≤ _); rw [arrV_size]; exact hin) (by show (arrV _ _ _).slots[_]? = _; rw [hc, arrV_read _ _ hi]; rfl) rfl rfl hdg kk
theorem pw_aald5 (hexec : p.tables.exec = Jvm.exec) (hb : c.code = cc) (hK : pw_K D cy s) (hP : pw_P D cy Ad sh C H) (k : Nat) {len b : Nat} (hs : sh k = (5, len, b)) {i : Nat} (hi : i < len) (hl : len < 2 ^ 31) (hdg : decode cc pc = .ok (.aaload, 1))
    (kk : W p l e R s m args below meth c H locs cells slots Q (F0 m (pc + 1) ls (.ref (Ad (b + i)) :: rest))) : W p l e R s m args below meth c H locs cells slots Q (F0 m pc ls (.int (nI i) :: .ref (Ad k) :: rest)) := by
  have h1 : va_P D vwCl [(Ad k, .inl (cy 4, len, .inr (.inr (.inr (.inr (fun i => some (Ad (b + i))))))))] H := pw_one (hP k _ (by simp [pw_E, hs]))
  have hin : vp_in (nI i) len := vp_in_nI hi hl
  have hc : (nI i).toNatClampNeg = i := nI_clamp (by omega)
  refine W.aald (v := .ref (Ad (b + i))) (ty := .array .long) hexec hb (h1 0 _ rfl) ((hK.1.2 4 _ rfl).1 len (fun j => va_rf (some (Ad (b + j))))) rfl (fun q => by cases q) (by show ¬ (nI i < 0 ∨ (arrV _ _ _).slots.size ≤ _); rw [arrV_size]; exact hin) (by show (arrV _ _ _).slots[_]? = _; rw [hc, arrV_read _ _ hi]; rfl) rfl rfl hdg kk
theorem pw_alen1 (hexec : p.tables.exec = Jvm.exec) (hb : c.code = cc) (hK : pw_K D cy s) (hP : pw_P D cy Ad sh C H) (k : Nat) {len b : Nat} (hs : sh k = (1, len, b)) (hdg : decode cc pc = .ok (.arraylength, 1))
    (kk : W p l e R s m args below meth c H locs cells slots Q (F0 m (pc + 1) ls (.int (nI len) :: rest))) : W p l e R s m args below meth c H locs cells slots Q (F0 m pc ls (.ref (Ad k) :: rest)) := by
  have h1 : va_P D vwCl [(Ad k, .inl (cy 0, len, .inl (C.1 k)))] H := pw_one (hP k _ (by simp [pw_E, hs]))
  exact va_alen hexec hb hK.1 h1 0 0 rfl rfl rfl hdg kk
theorem pw_alen2 (hexec : p.tables.exec = Jvm.exec) (hb : c.code = cc) (hK : pw_K D cy s) (hP : pw_P D cy Ad sh C H) (k : Nat) {len b : Nat} (hs : sh k = (2, len, b)) (hdg : decode cc pc = .ok (.arraylength, 1))
    (kk : W p l e R s m args below meth c H locs cells slots Q (F0 m (pc + 1) ls (.int (nI len) :: rest))) : W p l e R s m args below meth c H locs cells slots Q (F0 m pc ls (.ref (Ad k) :: rest)) := by
  have h1 : va_P D vwCl [(Ad k, .inl (cy 1, len, .inr (.inl (C.2.1 k))))] H := pw_one (hP k _ (by simp [pw_E, hs]))
  exact va_alen hexec hb hK.1 h1 0 1 rfl rfl rfl hdg kk
theorem pw_iast (hexec : p.tables.exec = Jvm.exec) (hb : c.code = cc) (hK : pw_K D cy s) (hP : pw_P D cy Ad sh C H) (hI : pw_I Ad sh) (hS : va_S (pw_fr Ad sh) H0 H locs) (k : Nat) {len b : Nat} (hs : sh k = (1, len, b)) {i : Nat} (hi : i < len) (hl : len < 2 ^ 31) {x : Int32} (hdg : decode cc pc = .ok (.iastore, 1))
    (kk : ∀ (H1 : Heap) (locs1 : List Loc), pw_P D cy Ad sh (pw_setI C k i x) H1 → va_S (pw_fr Ad sh) H0 H1 locs1 → W p l e R s m args below meth c H1 locs1 cells slots Q (F0 m (pc + 1) ls rest)) : W p l e R s m args below meth c H locs cells slots Q (F0 m pc ls (.int x :: .int (nI i) :: .ref (Ad k) :: rest)) := by
  have h0 : pw_E cy Ad sh C k = some (.inl (cy 0, len, .inl (C.1 k))) := by simp [pw_E, hs]
  have hc : H[Ad k]? = some (vp_cell (cy 0) (len, .inl (C.1 k))) := hP k _ h0
  have hin : vp_in (nI i) len := vp_in_nI hi hl
  have hcl : (nI i).toNatClampNeg = i := nI_clamp (by omega)
  refine W.iast hexec hb hc ((hK.1.2 0 _ rfl).1 len (fun j => .int (C.1 k j))) (fun q => by cases q) (by show ¬ (nI i < 0 ∨ (arrV _ _ _).slots.size ≤ _); rw [arrV_size]; exact hin) rfl rfl hdg fun H1 e1 z oq => ?_
  refine kk H1 _ (pw_store hP hI h0 (pw_setI C k i x) (e1 := .inl (cy 0, len, .inl (upd (C.1 k) i x))) (by simp [pw_E, hs, pw_setI]) (fun j hj => by simp [pw_E, pw_setI, hj]) ?_ oq) (hS.put z oq ⟨k, pw_E_L h0, rfl⟩)
  show H1[Ad k]? = some (vp_cell _ _)
  rw [e1, hcl]
  rw [vp_cell_i, vp_cell_i, arrV_store]
  congr 2
  funext q
  by_cases hq : q = i
  · subst hq
    simp [updV, upd]
  · simp [updV, upd, hq]
theorem pw_last (hexec : p.tables.exec = Jvm.exec) (hb : c.code = cc) (hK : pw_K D cy s) (hP : pw_P D cy Ad sh C H) (hI : pw_I Ad sh) (hS : va_S (pw_fr Ad sh) H0 H locs) (k : Nat) {len b : Nat} (hs : sh k = (2, len, b)) {i : Nat} (hi : i < len) (hl : len < 2 ^ 31) {x : Int64} (hdg : decode cc pc = .ok (.lastore, 1))
    (kk : ∀ (H1 : Heap) (locs1 : List Loc), pw_P D cy Ad sh (pw_setL C k i x) H1 → va_S (pw_fr Ad sh) H0 H1 locs1 → W p l e R s m args below meth c H1 locs1 cells slots Q (F0 m (pc + 1) ls rest)) : W p l e R s m args below meth c H locs cells slots Q (F0 m pc ls (.long x :: .int (nI i) :: .ref (Ad k) :: rest)) := by
  have h0 : pw_E cy Ad sh C k = some (.inl (cy 1, len, .inr (.inl (C.2.1 k)))) := by simp [pw_E, hs]
  have hc : H[Ad k]? = some (vp_cell (cy 1) (len, .inr (.inl (C.2.1 k)))) := hP k _ h0
  have hin : vp_in (nI i) len := vp_in_nI hi hl
  have hcl : (nI i).toNatClampNeg = i := nI_clamp (by omega)
  refine W.last hexec hb hc ((hK.1.2 1 _ rfl).1 len (fun j => .long (C.2.1 k j))) (fun q => by cases q) (by show ¬ (nI i < 0 ∨ (arrV _ _ _).slots.size ≤ _); rw [arrV_size]; exact hin) rfl rfl hdg fun H1 e1 z oq => ?_
  refine kk H1 _ (pw_store hP hI h0 (pw_setL C k i x) (e1 := .inl (cy 1, len, .inr (.inl (vp_updL (C.2.1 k) i x)))) (by simp [pw_E, hs, pw_setL]) (fun j hj => by simp [pw_E, pw_setL, hj]) ?_ oq) (hS.put z oq ⟨k, pw_E_L h0, rfl⟩)
  show H1[Ad k]? = some (vp_cell _ _)
  rw [e1, hcl]
  rw [vp_cell_l, vp_cell_l, arrV_store]
  congr 2
  funext q
  by_cases hq : q = i
  · subst hq
    simp [updV, vp_updL]
  · simp [updV, vp_updL, hq]
theorem pw_zast (hexec : p.tables.exec = Jvm.exec) (hb : c.code = cc) (hK : pw_K D cy s) (hP : pw_P D cy Ad sh C H) (hI : pw_I Ad sh) (hS : va_S (pw_fr Ad sh) H0 H locs) (k : Nat) {len b : Nat} (hs : sh k = (3, len, b)) {i : Nat} (hi : i < len) (hl : len < 2 ^ 31) {x : Int32} (hx : narrow .boolean (.int x) = .int x) (hdg : decode cc pc = .ok (.bastore, 1))
    (kk : ∀ (H1 : Heap) (locs1 : List Loc), pw_P D cy Ad sh (pw_setI C k i x) H1 → va_S (pw_fr Ad sh) H0 H1 locs1 → W p l e R s m args below meth c H1 locs1 cells slots Q (F0 m (pc + 1) ls rest)) : W p l e R s m args below meth c H locs cells slots Q (F0 m pc ls (.int x :: .int (nI i) :: .ref (Ad k) :: rest)) := by
  have h0 : pw_E cy Ad sh C k = some (.inl (cy 2, len, .inl (C.1 k))) := by simp [pw_E, hs]
  have hc : H[Ad k]? = some (vp_cell (cy 2) (len, .inl (C.1 k))) := hP k _ h0
  have hin : vp_in (nI i) len := vp_in_nI hi hl
  have hcl : (nI i).toNatClampNeg = i := nI_clamp (by omega)
  refine W.zast hexec hb hc ((hK.1.2 2 _ rfl).1 len (fun j => .int (C.1 k j))) (fun q => by cases q) (by show ¬ (nI i < 0 ∨ (arrV _ _ _).slots.size ≤ _); rw [arrV_size]; exact hin) rfl rfl hdg fun H1 e1 z oq => ?_
  refine kk H1 _ (pw_store hP hI h0 (pw_setI C k i x) (e1 := .inl (cy 2, len, .inl (upd (C.1 k) i x))) (by simp [pw_E, hs, pw_setI]) (fun j hj => by simp [pw_E, pw_setI, hj]) ?_ oq) (hS.put z oq ⟨k, pw_E_L h0, rfl⟩)
  show H1[Ad k]? = some (vp_cell _ _)
  rw [e1, hcl, hx]
  rw [vp_cell_i, vp_cell_i, arrV_store]
  congr 2
  funext q
  by_cases hq : q = i
  · subst hq
    simp [updV, upd]
  · simp [updV, upd, hq]
theorem pb_nar (b : Bool) : narrow .boolean (.int (pb b)) = .int (pb b) := by cases b <;> rfl
theorem pw_callR {r : Value} {st0 : List Value} {a : Array Value} (hr : va_Run p l e R s m args below meth c H locs cells slots 0 0 (F0 m pc ls st0) rest (k2_QcV r a) (fun _ => False)) (kk : W p l e R s m args below meth c H locs cells slots Q (F0 m (pc + 3) ls (r :: rest))) : W p l e R s m args below meth c H locs cells slots Q (F0 m pc ls st0) := by
  intro T hT X
  obtain ⟨v, st₀, t, T', L, h0, X', hL, e1, e2, ⟨hv, hh⟩, st⟩ := hr T hT X
  cases hv
  obtain ⟨t2, a1, b1⟩ := kk T' (by rw [e1, hh, h0]) (Stand.forget X' (fun q h => (hL q h).elim))
  exact ⟨t2, st t2 a1, b1⟩
theorem pw_callW {Rel : Option Value → pw_C → Prop} {st0 : List Value} {a : Array Value} {A0 : Nat → Prop} (hr : va_Run p l e R s m args below meth c H locs cells slots 0 0 (F0 m pc ls st0) rest (pw_Post Rel D cy Ad sh a) (pw_fr Ad sh)) (hS : va_S A0 H0 H locs) (hA : ∀ q, pw_fr Ad sh q → A0 q)
    (kk : ∀ (r : Option Value) (C' : pw_C) (H1 : Heap) (locs1 : List Loc), Rel r C' → pw_P D cy Ad sh C' H1 → H.size ≤ H1.size → (∀ q : Nat, q < H.size → ¬ pw_fr Ad sh q → H1[q]? = H[q]?) → va_S A0 H0 H1 locs1 → W p l e R s m args below meth c H1 locs1 cells slots Q (F0 m (pc + 3) ls (r.toList ++ rest))) : W p l e R s m args below meth c H locs cells slots Q (F0 m pc ls st0) := by
  intro T hT X
  obtain ⟨v, st₀, t, T', L, h0, X', hL, e1, e2, ⟨⟨r, C', hv, hp, hb⟩, hz, hk⟩, st⟩ := hr T hT X
  cases hv
  rw [h0] at hz hk
  obtain ⟨t2, a1, b1⟩ := kk v C' T'.heap (locs ++ L) hp (by rw [e1]; exact hb) (by rw [e1]; exact hz) (fun q h1 h2 => by rw [e1]; exact hk q h1 h2)
    ⟨Nat.le_trans hS.1 (by rw [e1]; exact hz), fun q h1 h2 => by rw [e1, hk q (Nat.lt_of_lt_of_le h1 hS.1) (fun z => h2 (hA q z))]; exact hS.2.1 q h1 h2, fun q hq => by
      rcases List.mem_append.mp hq with h | h
      · exact hS.2.2 q h
      · exact hA _ (hL q h)⟩ T' rfl X'
  exact ⟨t2, st t2 a1, b1⟩
end PW2
section PW3
variable {p : Program} {l : Launch} {e : Env} {R : Room} {s : State} {m : MethodId} {args : Array Value} {below : List Frame} {meth : Method} {c : Code} {H : Heap} {locs : List Loc} {cells slots : Nat} {Q : State → Prop}
variable {cc bytes : ByteArray} {pc nL maxL index : Nat} {ls : Array Slot} {rest As st0 : List Value} {D : va_G} {cy : Nat → ClassId} {Ad : Nat → Nat} {sh : Nat → Nat × Nat × Nat} {C : pw_C} {H0 : Heap} {own Cn : String} {y : MethodName} {Ts ws ws' : List Cond} {rm : Room} {ret : Option FieldType} {Pc : Array Value → State → Prop} {r : Value} {Rel : Option Value → pw_C → Prop}
theorem pw_cv (S : CallFix p m c cc nL s args Ts own) (hK : pw_K D cy s) (hP : pw_P D cy Ad sh C H) (k ci : Nat) {b N : Nat} {T : u_T} (hs : sh k = (6, ci, b)) (hc : vwCl[ci]? = some (Cn, T, N)) (n : Nat)
    (hM : Met l y ws rm (pw_Pre (.ref (Ad k) :: As) D cy Ad sh C) (k2_QcV r) 0 0 (fun _ => False)) (hG : GoodIn Ts (wsV own index Cn y ws)) (hw : ws = Cond.code y bytes maxL ret :: ws') (hrc : rm.cells = 0) (hrs : rm.slots = 0)
    (hd : y.cls = Cn ∧ y.cls ≠ "java/lang/invoke/MethodHandle" ∧ y.cls ≠ "java/lang/invoke/VarHandle" ∧ (parseMethodDescriptor y.desc).map (fun d => d.parameters.length) = some n) (hR : rm.frames + 1 ≤ R.frames ∧ 8 + (maxL + 11) + rm.locals ≤ R.locals)
    (hn : As.length = n) (hl : ls.size = nL) (hst : st0 = As.reverse ++ .ref (Ad k) :: rest) (hro : (rest.map fun v => v.category).sum ≤ 8) (hdg : decode cc pc = .ok (.invokevirtual index, 3)) (hf : cells ≤ R.cells ∧ slots ≤ R.slots)
    (kk : W p l e R s m args below meth c H locs cells slots Q (F0 m (pc + 3) ls (r :: rest))) : W p l e R s m args below meth c H locs cells slots Q (F0 m pc ls st0) := by
  have h1 : va_P D vwCl [(Ad k, .inr (ci, C.2.2 k))] H := pw_one (hP k _ (by simp [pw_E, hs]))
  exact pw_callR (va_runV (As := As) (rest := rest) S hM (cwV n S.2.2.2.2 hG hw hrc hrs hd hR) ⟨pw_blind, va_recv hK.1 h1 hc (q0 := 0) rfl, fun U hU hW => ⟨rfl, by rw [hU]; exact hP, hK.moved hW⟩⟩ rfl hn hl hst (lv_room hro) hdg hf) kk
theorem pw_cvW (S : CallFix p m c cc nL s args Ts own) (hK : pw_K D cy s) (hP : pw_P D cy Ad sh C H) (k ci : Nat) {b N : Nat} {T : u_T} (hs : sh k = (6, ci, b)) (hc : vwCl[ci]? = some (Cn, T, N)) (n : Nat) {A0 : Nat → Prop}
    (hM : Met l y ws rm (pw_Pre (.ref (Ad k) :: As) D cy Ad sh C) (pw_Post Rel D cy Ad sh) 0 0 (pw_fr Ad sh)) (hG : GoodIn Ts (wsV own index Cn y ws)) (hw : ws = Cond.code y bytes maxL ret :: ws') (hrc : rm.cells = 0) (hrs : rm.slots = 0)
    (hd : y.cls = Cn ∧ y.cls ≠ "java/lang/invoke/MethodHandle" ∧ y.cls ≠ "java/lang/invoke/VarHandle" ∧ (parseMethodDescriptor y.desc).map (fun d => d.parameters.length) = some n) (hR : rm.frames + 1 ≤ R.frames ∧ 8 + (maxL + 11) + rm.locals ≤ R.locals)
    (hn : As.length = n) (hl : ls.size = nL) (hst : st0 = As.reverse ++ .ref (Ad k) :: rest) (hro : (rest.map fun v => v.category).sum ≤ 8) (hdg : decode cc pc = .ok (.invokevirtual index, 3)) (hf : cells ≤ R.cells ∧ slots ≤ R.slots) (hS : va_S A0 H0 H locs) (hA : ∀ q, pw_fr Ad sh q → A0 q)
    (kk : ∀ (r : Option Value) (C' : pw_C) (H1 : Heap) (locs1 : List Loc), Rel r C' → pw_P D cy Ad sh C' H1 → H.size ≤ H1.size → (∀ q : Nat, q < H.size → ¬ pw_fr Ad sh q → H1[q]? = H[q]?) → va_S A0 H0 H1 locs1 → W p l e R s m args below meth c H1 locs1 cells slots Q (F0 m (pc + 3) ls (r.toList ++ rest))) : W p l e R s m args below meth c H locs cells slots Q (F0 m pc ls st0) := by
  have h1 : va_P D vwCl [(Ad k, .inr (ci, C.2.2 k))] H := pw_one (hP k _ (by simp [pw_E, hs]))
  exact pw_callW (va_runV (As := As) (rest := rest) S hM (cwV n S.2.2.2.2 hG hw hrc hrs hd hR) ⟨pw_blind, va_recv hK.1 h1 hc (q0 := 0) rfl, fun U hU hW => ⟨rfl, by rw [hU]; exact hP, hK.moved hW⟩⟩ rfl hn hl hst (lv_room hro) hdg hf) hS hA kk
theorem pw_cs (S : CallFix p m c cc nL s args Ts own) (n : Nat)
    (hM : Met l y ws rm (fun v _ => v = As.toArray) (k2_QcV r) 0 0 (fun _ => False)) (hG : GoodIn Ts (va_wsS own index y ws)) (hw : ws = Cond.code y bytes maxL ret :: ws') (hrc : rm.cells = 0) (hrs : rm.slots = 0)
    (hd : y.cls ≠ "java/lang/invoke/MethodHandle" ∧ y.cls ≠ "java/lang/invoke/VarHandle" ∧ (parseMethodDescriptor y.desc).map (fun d => d.parameters.length) = some n) (hR : rm.frames + 1 ≤ R.frames ∧ 8 + (maxL + 11) + rm.locals ≤ R.locals)
    (hn : As.length = n) (hl : ls.size = nL) (hst : st0 = As.reverse ++ rest) (hro : (rest.map fun v => v.category).sum ≤ 8) (hdg : decode cc pc = .ok (.invokestatic index, 3)) (hf : cells ≤ R.cells ∧ slots ≤ R.slots)
    (kk : W p l e R s m args below meth c H locs cells slots Q (F0 m (pc + 3) ls (r :: rest))) : W p l e R s m args below meth c H locs cells slots Q (F0 m pc ls st0) :=
  pw_callR (va_runS (As := As) (rest := rest) S hM (va_cwS n S.2.2.2.2 hG hw hrc hrs hd hR) preEq rfl hn hl hst (lv_room hro) hdg hf) kk
theorem pw_csW (S : CallFix p m c cc nL s args Ts own) (hK : pw_K D cy s) (hP : pw_P D cy Ad sh C H) (n : Nat) {A0 : Nat → Prop}
    (hM : Met l y ws rm (pw_Pre As D cy Ad sh C) (pw_Post Rel D cy Ad sh) 0 0 (pw_fr Ad sh)) (hG : GoodIn Ts (va_wsS own index y ws)) (hw : ws = Cond.code y bytes maxL ret :: ws') (hrc : rm.cells = 0) (hrs : rm.slots = 0)
    (hd : y.cls ≠ "java/lang/invoke/MethodHandle" ∧ y.cls ≠ "java/lang/invoke/VarHandle" ∧ (parseMethodDescriptor y.desc).map (fun d => d.parameters.length) = some n) (hR : rm.frames + 1 ≤ R.frames ∧ 8 + (maxL + 11) + rm.locals ≤ R.locals)
    (hn : As.length = n) (hl : ls.size = nL) (hst : st0 = As.reverse ++ rest) (hro : (rest.map fun v => v.category).sum ≤ 8) (hdg : decode cc pc = .ok (.invokestatic index, 3)) (hf : cells ≤ R.cells ∧ slots ≤ R.slots) (hS : va_S A0 H0 H locs) (hA : ∀ q, pw_fr Ad sh q → A0 q)
    (kk : ∀ (r : Option Value) (C' : pw_C) (H1 : Heap) (locs1 : List Loc), Rel r C' → pw_P D cy Ad sh C' H1 → H.size ≤ H1.size → (∀ q : Nat, q < H.size → ¬ pw_fr Ad sh q → H1[q]? = H[q]?) → va_S A0 H0 H1 locs1 → W p l e R s m args below meth c H1 locs1 cells slots Q (F0 m (pc + 3) ls (r.toList ++ rest))) : W p l e R s m args below meth c H locs cells slots Q (F0 m pc ls st0) :=
  pw_callW (va_runS (As := As) (rest := rest) S hM (va_cwS n S.2.2.2.2 hG hw hrc hrs hd hR) ⟨pw_blind, fun U hU hW => ⟨rfl, by rw [hU]; exact hP, hK.moved hW⟩⟩ rfl hn hl hst (lv_room hro) hdg hf) hS hA kk
theorem pw_cn (S : CallFix p m c cc nL s args Ts own) {host : String} (hl0 : va_Nw (.methodLinkNest own index y host) s) (hini : (Cond.initialized y.cls).before args s = true) (hst0 : (Cond.static y).before args s = true) (n : Nat)
    (hM : Met l y ws rm (fun v _ => v = As.toArray) (k2_QcV r) 0 0 (fun _ => False)) (hG : GoodIn Ts ws) (hw : ws = Cond.code y bytes maxL ret :: ws') (hrc : rm.cells = 0) (hrs : rm.slots = 0)
    (hd : y.cls ≠ "java/lang/invoke/MethodHandle" ∧ y.cls ≠ "java/lang/invoke/VarHandle" ∧ (parseMethodDescriptor y.desc).map (fun d => d.parameters.length) = some n) (hR : rm.frames + 1 ≤ R.frames ∧ 8 + (maxL + 11) + rm.locals ≤ R.locals)
    (hn : As.length = n) (hl : ls.size = nL) (hst : st0 = As.reverse ++ rest) (hro : (rest.map fun v => v.category).sum ≤ 8) (hdg : decode cc pc = .ok (.invokestatic index, 3)) (hf : cells ≤ R.cells ∧ slots ≤ R.slots)
    (kk : W p l e R s m args below meth c H locs cells slots Q (F0 m (pc + 3) ls (r :: rest))) : W p l e R s m args below meth c H locs cells slots Q (F0 m pc ls st0) :=
  pw_callR (va_runSN (As := As) (rest := rest) S hM ⟨va_cnB n S.2.2.2.2 hG hw hrc hrs hl0 hini hd hR, hst0, trivial⟩ preEq rfl hn hl hst (lv_room hro) hdg hf) kk
end PW3
