/-! THE CLAIM OUT OF ONE WALK OF THE LAW'S BODY. Your part is whole_start (and what it stands on); all else here is the same for every law, but numbers. -/
def R_law : String := "PastDrawsLaw"
def lw_P (b : Addr) (xs : List Int32) (args : Array Value) (s : State) : Prop := args = #[.ref b] ∧ s.IntsAt b xs ∧ xs.length ≤ 2561 ∧ (Jvm.Cond.and given_1 narrow_1).before args s = true
def lw_Q (_ : Array Value) (s : State) (o : Outcome) (t : State) : Prop := o = .returned (some (.int 1)) ∧ Framed s o t [] 600000 7302250
def lw_Z (below : List Frame) (a : Array Value) (s : State) : State → Prop := fun t => ∃ o, t.status = .running ∧ Ended t below o ∧ lw_Q a s o t
/-- the law's own end, with 1 on the stack, nothing written that was there before, its room as the claim has it -/
theorem lw_ret {p : Program} {l : Launch} {e : Env} {s : State} {m : MethodId} {below : List Frame} {meth : Method} {c : Code} {b : Nat} (hx : p.tables.exec = Jvm.exec) (hb : c.code = code) (hr : meth.sig.returnType = ret) (hlocks : meth.locks = false) {pc : Nat} {H : Heap} {ls : Array Slot} (hdg : decode code pc = .ok (.ireturn, 1)) : W p l e room_1 s m #[Value.ref b] below meth c H [] 600000 7302250 (lw_Z below #[Value.ref b] s) (F0 m pc ls [.int 1]) := by
  intro T hT X
  obtain ⟨fs, hret, hrun, hended, hW, hframe⟩ := X.leave (v := some (.int 1)) (hlocks := hlocks) (fun h => by rw [hr] at h; cases h)
  have hmeth' : T.vm.method? m = some meth := X.method'
  refine ⟨T.setFrames fs, ?_, .returned (some (.int 1)), hrun, hended, rfl, ⟨_, rfl⟩, hW, hframe⟩
  jvm_step X.here [X.here.top, hx, hb, hdg, hmeth', hr, ret, narrow_b1]
  (try refine ⟨rfl, ?_⟩); (try refine ⟨rfl, ?_⟩)
  first | (intro acts; rw [hret _ acts rfl rfl rfl]) | rw [hret _ _ rfl rfl rfl]
  exact Steps.refl _
/-- what holds at the law's entry: the machine, the code, the tables' words (any of lw_tbl by 'hts w (by decide +kernel)'), the script of L ints xs at the cell b, what the Statement gives of the start (any of its parts by flat_of_before) -/
def lw_At (p : Program) (s : State) (m : MethodId) (meth : Method) (c : Code) (b L : Nat) (xs : Nat → Int32) : Prop :=
  p.tables.exec = Jvm.exec ∧ c.code = code ∧ meth.sig.returnType = ret ∧ c.maxLocals = 4 ∧ s.vm.findClass R_law = some m.cls ∧ (∀ w ∈ lw_tbl, w.before #[Value.ref b] s = true) ∧ va_X b L xs s s.heap ∧ b < s.heap.size ∧ meth.locks = false ∧ (Jvm.Cond.and given_1 narrow_1).before #[Value.ref b] s = true

/-- cells elsewhere stay -/
theorem pw_P.kp {D : va_G} {cy : Nat → ClassId} {Ad Ad2 : Nat → Nat} {sh sh2 : Nat → Nat × Nat × Nat} {C2 : pw_C} {H H1 : Heap} (h : pw_P D cy Ad2 sh2 C2 H) (hk : ∀ q : Nat, q < H.size → ¬ pw_fr Ad sh q → H1[q]? = H[q]?) (hd : ∀ k, pw_L sh2 k → ¬ pw_fr Ad sh (Ad2 k)) : pw_P D cy Ad2 sh2 C2 H1 := fun k e he => (h k e he).kept (hk _ (h k e he).lt (hd k (pw_E_L he)))
/-- what stays over the whole law -/
def lw_E (p : Program) (s : State) (m : MethodId) (c : Code) (b L : Nat) (xs : Nat → Int32) (D : va_G) (cy : Nat → ClassId) (Ad Ad2 : Nat → Nat) (n : Nat) : Prop :=
  CallFix p m c cL_law 4 s #[Value.ref b] wsL_law RL ∧ va_X b L xs s s.heap ∧ b < s.heap.size ∧ pw_K D cy s ∧ pw_I Ad (shX n) ∧ pw_I Ad2 shM ∧ (1 ≤ n ∧ n ≤ 12) ∧ (∀ k, pw_L shM k → ¬ pw_fr Ad (shX n) (Ad2 k)) ∧ (∀ k, pw_L (shX n) k → ¬ pw_fr Ad2 shM (Ad k)) ∧ (∀ q, pw_fr Ad (shX n) q → s.heap.size ≤ q) ∧ (∀ q, pw_fr Ad2 shM q → s.heap.size ≤ q)
/-- what holds between two calls -/
def lw_I (s : State) (D : va_G) (cy : Nat → ClassId) (Ad Ad2 : Nat → Nat) (n mm : Nat) (nx : Nat → Nat → Nat) (mx : Nat → Nat → Option Nat) (en : Nat → Bool) (am wt : Nat → Nat) (C C2 : pw_C) (H : Heap) (locs : List Loc) : Prop :=
  (1 ≤ mm ∧ mm ≤ 16) ∧ pw_P D cy Ad (shX n) C H ∧ pw_P D cy Ad2 shM C2 H ∧ XI n mm nx mx en am wt Ad C ∧ MI n mm nx mx en am wt Ad2 C2 ∧ va_S (fun q : Nat => s.heap.size ≤ q) s.heap H locs
theorem u_things_b {mm : Nat} {a : Int32} (h : 1 ≤ mm ∧ mm ≤ 16) : 1 ≤ u_things mm a ∧ u_things mm a ≤ 16 := by
  unfold u_things
  by_cases q : wi a (nI 1) (nI 16) = true
  · rw [if_pos q]
    obtain ⟨j, h1, h2, rfl⟩ := wi_ex ⟨by decide, by decide⟩ q
    have e : ix (nI j) = j := nI_clamp (by omega)
    rw [e]; exact ⟨h1, h2⟩
  · rw [if_neg q]; exact h
theorem lw_c26 : Cond.constantLong RL 26 (4294967295) ∈ wsL_law := List.mem_append_left _ (List.mem_append_left _ (List.mem_append_left _ (List.mem_append_left _ (List.mem_append_left _ (List.mem_append_left _ (List.mem_append_left _ (List.mem_append_left _ (List.mem_of_getElem? (i := 6) rfl))))))))
