/-! an array of arrays, made by one instruction: the outer cell, then a row a place -/
def mn_O (cA : ClassId) (N h i : Nat) : Cell := arrV cA N (fun j => if j < i then .ref (h + 1 + j) else .null)
def mn_S (u : State) (cA cC : ClassId) (N M : Nat) (dv : Value) : Nat → State
  | 0 => u.pushCell (mn_O cA N u.heap.size 0)
  | i + 1 => ((mn_S u cA cC N M dv i).pushCell (arrV cC M (fun _ => dv))).setCell u.heap.size (mn_O cA N u.heap.size (i + 1))
theorem mn_O_s (cA : ClassId) (N h i : Nat) : (mn_O cA N h i).setSlot i (.ref (h + 1 + i)) = mn_O cA N h (i + 1) := by
  unfold mn_O
  rw [arrV_store]
  refine congrArg (arrV cA N) (funext fun j => ?_)
  show (if j = i then Value.ref (h + 1 + i) else if j < i then .ref (h + 1 + j) else .null) = _
  by_cases q : j = i
  · rw [if_pos q, if_pos (by omega), q]
  · rw [if_neg q]
    by_cases q2 : j < i
    · rw [if_pos q2, if_pos (by omega)]
    · rw [if_neg q2, if_neg (by omega)]
theorem mn_S_ok (u : State) (cA cC : ClassId) (N M : Nat) (dv : Value) : ∀ i, (mn_S u cA cC N M dv i).heap.size = u.heap.size + 1 + i ∧ (mn_S u cA cC N M dv i).heap[u.heap.size]? = some (mn_O cA N u.heap.size i) ∧ (mn_S u cA cC N M dv i).vm = u.vm ∧ (mn_S u cA cC N M dv i).slotsUsed = u.slotsUsed + N + i * M ∧ (∀ q, q < u.heap.size → (mn_S u cA cC N M dv i).heap[q]? = u.heap[q]?) ∧ ∀ j, j < i → (mn_S u cA cC N M dv i).heap[u.heap.size + 1 + j]? = some (arrV cC M (fun _ => dv)) := by
  intro i
  induction i with
  | zero =>
    refine ⟨by simp [mn_S], by simp [mn_S], rfl, by simp [mn_S, mn_O, arrV_size], fun q hq => State.heap_pushCell_of_lt _ _ hq, fun j hj => absurd hj (Nat.not_lt_zero _)⟩
  | succ i ih =>
    obtain ⟨a1, a2, a3, a4, a5, a6⟩ := ih
    have hlt : u.heap.size < (mn_S u cA cC N M dv i).heap.size := by omega
    have b2 : ((mn_S u cA cC N M dv i).pushCell (arrV cC M (fun _ => dv))).heap[u.heap.size]? = some (mn_O cA N u.heap.size i) := by
      rw [State.heap_pushCell_of_lt (h := hlt)]; exact a2
    refine ⟨?_, State.heap_setCell_self b2, by simp [mn_S, a3], ?_, fun q hq => ?_, fun j hj => ?_⟩
    · simp [mn_S, State.setCell, a1]; omega
    · simp [mn_S, a4, arrV_size, Nat.succ_mul]; omega
    · show (((mn_S u cA cC N M dv i).pushCell _).setCell u.heap.size _).heap[q]? = _
      have hlt2 : q < (mn_S u cA cC N M dv i).heap.size := by omega
      rw [State.heap_setCell_other (Nat.ne_of_gt hq), State.heap_pushCell_of_lt (h := hlt2)]
      exact a5 q hq
    · show (((mn_S u cA cC N M dv i).pushCell _).setCell u.heap.size _).heap[u.heap.size + 1 + j]? = _
      rw [State.heap_setCell_other (show u.heap.size ≠ u.heap.size + 1 + j by omega)]
      rcases Nat.lt_or_ge j i with q | q
      · have hlt2 : u.heap.size + 1 + j < (mn_S u cA cC N M dv i).heap.size := by omega
        rw [State.heap_pushCell_of_lt (h := hlt2)]; exact a6 j q
      · obtain rfl : j = i := by omega
        rw [← a1]
        exact State.heap_pushCell_size _ _
theorem mn_S_top (u : State) (g : JFrame) (cA cC : ClassId) (N M : Nat) (dv : Value) : ∀ i, mn_S (u.setTop g) cA cC N M dv i = (mn_S u cA cC N M dv i).setTop g := by
  intro i
  induction i with
  | zero => rfl
  | succ i ih => simp only [mn_S, ih, State.heap_setTop, State.pushCell_setTop, State.setCell_setTop]
section MN1
variable {E : CtlPost} {e : Env} {d : Bool} {acts : List Action} {s : State}
theorem mn_fit {t : FieldType} (h : t.isReference = true) {v : Value} (hv : v = .null ∨ ∃ a, v = .ref a) : fits t v = true := by
  rcases hv with rfl | ⟨a, rfl⟩ <;> cases t <;> simp [FieldType.isReference] at h <;> rfl
theorem mn_row {cC cc : ClassId} {kC : Class} {ty : FieldType} {x : Int32} (hkC : s.vm.classes[cC]? = some kC) (hkind : kC.kind = .array cc ty) (hx : ¬ x < 0)
    (hl : ¬ x.toNatClampNeg > e.platform.arrayLengthLimit) (hh : ¬ x.toNatClampNeg * componentBytes ty > e.platform.maxHeapBytes) (hdf : fits ty (defaultValue ty) = true)
    (h1 : s.heap.size < e.platform.maxCells) (h2 : s.slotsUsed + x.toNatClampNeg ≤ e.platform.maxSlots)
    {Q : Addr → Pre} (hq : ∀ acts', Q s.heap.size d acts' (s.pushCell (arrV cC x.toNatClampNeg (fun _ => defaultValue ty)))) : wp (multianewarray.make cC [x]) Q E e d acts s := by
  rw [multianewarray.make]
  simp only [wp_bind', W.ite, hx, if_false, wp_pure', W.theClass, hkC, hkind, Option.some.injEq, exists_eq_left']
  refine W.newArray_of hkC hkind hl hh h1 h2 hdf (fun acts' => ?_)
  have := hq acts'
  rw [← arrV_new] at this
  exact this
theorem mn_make {cA cC cc : ClassId} {kA kC : Class} {t0 ty : FieldType} {x y : Int32} (hkA : s.vm.classes[cA]? = some kA) (hkindA : kA.kind = .array cC t0) (href : t0.isReference = true)
    (hkC : s.vm.classes[cC]? = some kC) (hkindC : kC.kind = .array cc ty) (hx : ¬ x < 0) (hy : ¬ y < 0)
    (hl1 : ¬ x.toNatClampNeg > e.platform.arrayLengthLimit) (hh1 : ¬ x.toNatClampNeg * componentBytes t0 > e.platform.maxHeapBytes)
    (hl2 : ¬ y.toNatClampNeg > e.platform.arrayLengthLimit) (hh2 : ¬ y.toNatClampNeg * componentBytes ty > e.platform.maxHeapBytes) (hdf : fits ty (defaultValue ty) = true)
    (hcl : s.heap.size + 1 + x.toNatClampNeg ≤ e.platform.maxCells) (hsl : s.slotsUsed + x.toNatClampNeg + x.toNatClampNeg * y.toNatClampNeg ≤ e.platform.maxSlots)
    {Q : Addr → Pre} (hq : ∀ d' acts', Q s.heap.size d' acts' (mn_S s cA cC x.toNatClampNeg y.toNatClampNeg (defaultValue ty) x.toNatClampNeg)) :
    wp (multianewarray.make cA [x, y]) Q E e d acts s := by
  have hno : ([y].find? (· < 0)) = none := by simp [hy]
  rw [multianewarray.make]
  simp only [wp_bind', W.ite, hx, if_false, wp_pure', W.theClass, hkA, hkindA, Option.some.injEq, exists_eq_left']
  refine W.newArray_of hkA hkindA hl1 hh1 (by omega) (by have := Nat.zero_le (x.toNatClampNeg * y.toNatClampNeg); omega) (mn_fit href (Or.inl rfl)) (fun acts0 => ?_)
  simp only [hno]
  rw [ite_self, wp_bind', Std.Legacy.Range.forIn_eq_forIn_range']
  have hsz : ([:x.toNatClampNeg] : Std.Legacy.Range).size = x.toNatClampNeg := by simp [Std.Legacy.Range.size]
  rw [hsz]
  generalize hN : x.toNatClampNeg = N at *
  show wp (forIn (List.range' 0 N 1) PUnit.unit _) _ E e d acts0 _
  refine wp_forIn_inv (fun rs s' => ∃ i, i ≤ N ∧ rs = List.range' i (N - i) ∧ s' = mn_S s cA cC N y.toNatClampNeg (defaultValue ty) i) _ _ ⟨0, Nat.zero_le _, rfl, ?_⟩ ?_ ?_
  · show s.pushCell _ = s.pushCell _
    rw [arrV_new]
    rfl
  · rintro z rs s' d' acts' Q' ⟨i, hi, hl, rfl⟩ hnext
    have hlt : i < N := by
      rcases Nat.lt_or_ge i N with q | q
      · exact q
      · rw [show N - i = 0 by omega] at hl; cases hl
    rw [show N - i = (N - (i + 1)) + 1 by omega, List.range'_succ] at hl
    obtain ⟨rfl, hrs⟩ := List.cons.inj hl
    obtain ⟨a1, a2, a3, a4, -, -⟩ := mn_S_ok s cA cC N y.toNatClampNeg (defaultValue ty) z
    have hmul : z * y.toNatClampNeg + y.toNatClampNeg ≤ N * y.toNatClampNeg := by
      have := Nat.mul_le_mul_right y.toNatClampNeg (show z + 1 ≤ N from hlt)
      rw [Nat.succ_mul] at this; exact this
    simp only [wp_bind']
    refine mn_row (by rw [a3]; exact hkC) hkindC hy hl2 hh2 hdf (by rw [a1]; omega) (by rw [a4]; omega) (fun acts2 => ?_)
    have hlt0 : s.heap.size < (mn_S s cA cC N y.toNatClampNeg (defaultValue ty) z).heap.size := by omega
    simp only [wp_bind', W.writeLoc, wp_pure']
    refine ⟨mn_O cA N s.heap.size z, by rw [State.heap_pushCell_of_lt (h := hlt0)]; exact a2, (fun q => by cases q), by show z < (arrV _ _ _).slots.size; rw [arrV_size]; exact hlt, ?_, hnext _ _ _ ⟨z + 1, hlt, hrs, ?_⟩⟩
    · show State.fitsSlot _ cA .none z (.ref _) = true
      simp [State.fitsSlot, State.slotType?, a3, hkA, hkindA, mn_fit href (Or.inr ⟨_, rfl⟩)]
    · rw [a1, mn_O_s]; rfl
  · rintro s' d' acts' ⟨i, hi, hl, rfl⟩
    have hiN : i = N := by
      rcases Nat.lt_or_ge i N with q | q
      · rw [show N - i = (N - (i + 1)) + 1 by omega, List.range'_succ] at hl; cases hl
      · omega
    subst hiN
    simp only [wp_pure']
    exact hq _ _
end MN1
section MN2
variable {p : Program} {l : Launch} {e : Env} {R : Room} {s : State} {m : MethodId} {args : Array Value} {below : List Frame} {meth : Method} {c : Code} {T : State} {locs : List Loc} {cells slots : Nat}
theorem mn_stand (X : Stand p l e R s m args below meth c T locs cells slots) (cA cC : ClassId) (N M : Nat) (dv : Value) : ∀ i, Stand p l e R s m args below meth c (mn_S T cA cC N M dv i) (locs ++ (List.range i).map fun j => ⟨T.heap.size, j⟩) (cells + 1 + i) (slots + N + i * M) := by
  intro i
  induction i with
  | zero =>
    have h := X.pushed (mn_O cA N T.heap.size 0)
    have e1 : (mn_O cA N T.heap.size 0).slots.size = N := arrV_size _ _ _
    rw [e1] at h
    simpa [mn_S] using h
  | succ i ih =>
    obtain ⟨a1, a2, -, -, -, -⟩ := mn_S_ok T cA cC N M dv i
    have hlt : T.heap.size < (mn_S T cA cC N M dv i).heap.size := by omega
    have b2 : ((mn_S T cA cC N M dv i).pushCell (arrV cC M (fun _ => dv))).heap[T.heap.size]? = some (mn_O cA N T.heap.size i) := by
      rw [State.heap_pushCell_of_lt (h := hlt)]; exact a2
    have h := (ih.pushed (arrV cC M (fun _ => dv))).stored b2 i (.ref (T.heap.size + 1 + i))
    rw [arrV_size, mn_O_s] at h
    have e2 : (locs ++ (List.range (i + 1)).map fun j => (⟨T.heap.size, j⟩ : Loc)) = (locs ++ (List.range i).map fun j => (⟨T.heap.size, j⟩ : Loc)) ++ [⟨T.heap.size, i⟩] := by simp [List.range_succ, List.append_assoc]
    have e3 : slots + N + (i + 1) * M = slots + N + i * M + M := by rw [Nat.succ_mul]; omega
    rw [e2, e3]
    exact h
/-- what is known of the class of an array of arrays -/
def mn_K (cA cC : ClassId) (ty : FieldType) (U : State) : Prop := (∃ kA, U.vm.classes[cA]? = some kA ∧ kA.kind = .array cC (.array ty)) ∧ ∃ kC cc, U.vm.classes[cC]? = some kC ∧ kC.kind = .array cc ty
theorem mn_K.moved {cA cC : ClassId} {ty : FieldType} {u U : State} (hvm : u.vm.Alike U.vm) (h : mn_K cA cC ty u) : mn_K cA cC ty U := by
  obtain ⟨⟨kA, h1, h2⟩, kC, cc, h3, h4⟩ := h
  obtain ⟨kA', g1, e1⟩ := hvm.2.2 _ _ h1
  obtain ⟨kC', g2, e2⟩ := hvm.2.2 _ _ h3
  exact ⟨⟨kA', g1, by rw [e1]; exact h2⟩, kC', cc, g2, by rw [e2]; exact h4⟩
theorem mn_step (X : Stand p l e R s m args below meth c T locs cells slots) (hexec : p.tables.exec = Jvm.exec) {own name : String} {index : Nat} {ty : FieldType} {cA cC : ClassId}
    (hown : s.vm.findClass own = some m.cls) (hclink : (Cond.classLink own index name).before args s = true) (hcA : s.vm.findClass name = some cA) (hKn : mn_K cA cC ty s)
    {g : JFrame} (hg : g.method = m) (hdg : decode c.code g.pc = .ok (.multianewarray index 2, 4)) {x y : Int32} {rest : List Value} (hstack : g.stack = .int y :: .int x :: rest)
    (hx : ¬ x < 0) (hy : ¬ y < 0) (hb1 : x.toNatClampNeg * 4 ≤ 536870912) (hb2 : y.toNatClampNeg * componentBytes ty ≤ 536870912) (hb3 : y.toNatClampNeg ≤ 536870912)
    (hdf : fits ty (defaultValue ty) = true)
    (hcells : cells + (1 + x.toNatClampNeg) ≤ R.cells) (hslots : slots + (x.toNatClampNeg + x.toNatClampNeg * y.toNatClampNeg) ≤ R.slots) :
    ∃ vm₁ : Vm, Stand p l e R s m args below meth c (mn_S (T.setVm vm₁) cA cC x.toNatClampNeg y.toNatClampNeg (defaultValue ty) x.toNatClampNeg) (locs ++ (List.range x.toNatClampNeg).map fun j => ⟨T.heap.size, j⟩) (cells + 1 + x.toNatClampNeg) (slots + x.toNatClampNeg + x.toNatClampNeg * y.toNatClampNeg) ∧
      ∀ target, Steps p.tables e below ((mn_S (T.setVm vm₁) cA cC x.toNatClampNeg y.toNatClampNeg (defaultValue ty) x.toNatClampNeg).setTop { g with pc := g.pc + 4, stack := .ref T.heap.size :: rest }) target → Steps p.tables e below (T.setTop g) target := by
  subst hg
  have hpl : e.platform.magicAccessors = ({} : Platform).magicAccessors := by rw [X.admits.platform]
  obtain ⟨c0, hfc0, hcl⟩ := Cond.classLink_spec hown hclink e.platform hpl
  cases hcA.symm.trans hfc0
  obtain ⟨hg₁, hwarm₁, hready₁⟩ := State.classEntry (e := e) X.warmed hcl
  generalize T.vm.noted g.method.cls index (.cls cA) = vm₁ at hg₁ hwarm₁ hready₁
  obtain ⟨⟨kA, q1, q2⟩, kC, cc, q3, q4⟩ := hKn.moved (U := T.setVm vm₁) hwarm₁.alike
  have q1 : vm₁.classes[cA]? = some kA := q1
  have q3 : vm₁.classes[cC]? = some kC := q3
  have X₁ := X.noted hwarm₁
  obtain ⟨hr1, hr2⟩ := X.roomAbove hcells hslots
  refine ⟨vm₁, mn_stand X₁ cA cC _ _ _ _, fun target hrest => ?_⟩
  have hl1 : ¬ x.toNatClampNeg > e.platform.arrayLengthLimit := by rw [Launch.admits_arrayLengthLimit X.admits]; omega
  have hh1 : ¬ x.toNatClampNeg * componentBytes (.array ty) > e.platform.maxHeapBytes := by
    rw [Launch.admits_maxHeapBytes X.admits]; show ¬ x.toNatClampNeg * 4 > 536870912; omega
  have hl2 : ¬ y.toNatClampNeg > e.platform.arrayLengthLimit := by rw [Launch.admits_arrayLengthLimit X.admits]; omega
  have hh2 : ¬ y.toNatClampNeg * componentBytes ty > e.platform.maxHeapBytes := by rw [Launch.admits_maxHeapBytes X.admits]; omega
  jvm_step X.here [hexec, hdg]
  simp only [multianewarray.sem, wp_bind', W.resolveClassAt_links (State.method?_setTop g X.here.top) hg₁]
  rw [W.popN, if_neg (by decide)]
  refine ⟨g, State.topJava?_setTop' (s := T.setVm vm₁) g X.here.top, [.int x, .int y], rest, rfl, hstack, ?_⟩
  simp only [List.mapM_cons, List.mapM_nil, wp_bind', wp_pure']
  refine mn_make (kA := kA) (kC := kC) (cC := cC) (cc := cc) (t0 := .array ty) (ty := ty) q1 q2 rfl q3 q4 hx hy hl1 hh1 hl2 hh2 hdf (by show T.heap.size + 1 + _ ≤ _; omega) (by show T.slotsUsed + _ + _ ≤ _; omega) (fun d' acts' => ?_)
  have XF := mn_stand X₁ cA cC x.toNatClampNeg y.toNatClampNeg (defaultValue ty) x.toNatClampNeg
  have eS : ((T.setTop g).setVm vm₁).setTop { g with stack := rest } = (T.setVm vm₁).setTop { g with stack := rest } := by
    show ((T.setVm vm₁).setTop g).setTop _ = _
    rw [State.setTop_setTop]
  rw [eS, mn_S_top]
  simp only [wp_bind', W.mark, W.pushRef, State.topJava?_setTop' _ XF.here.top, Option.some.injEq, exists_eq_left', State.setTop_setTop, State.heap_setTop]
  intro acts
  simp [jvm, XF.here.top]
  exact hrest
end MN2
