def zC (fs : List Value) : pw_C := (fun _ _ => 0, fun _ _ => 0, fun _ => fs)
def mixC (f : Nat → Bool) (A B : pw_C) : pw_C := (fun k => if f k = true then A.1 k else B.1 k, fun k => if f k = true then A.2.1 k else B.2.1 k, fun k => if f k = true then A.2.2 k else B.2.2 k)
def pw_PreN (av : List Value) (z : Nat) (D : va_G) (cy : Nat → ClassId) (Ad : Nat → Nat) (sh : Nat → Nat × Nat × Nat) (C : pw_C) : Array Value → State → Prop := fun v U => v = av.toArray ∧ U.heap.size = z ∧ pw_P D cy Ad sh C U.heap ∧ pw_K D cy U ∧ pw_O cy U
def pw_PostN (Rel : pw_C → Prop) (zz : Nat) (D : va_G) (cy : Nat → ClassId) (Ad : Nat → Nat) (sh : Nat → Nat × Nat × Nat) : Array Value → State → Outcome → State → Prop := fun _ st o t => (∃ C' : pw_C, o = .returned none ∧ Rel C' ∧ pw_P D cy Ad sh C' t.heap ∧ t.heap.size = zz) ∧ va_F (pw_fr Ad sh) st t
theorem pw_blindN {av : List Value} {z : Nat} {D : va_G} {cy : Nat → ClassId} {Ad : Nat → Nat} {sh : Nat → Nat × Nat × Nat} {C : pw_C} : FrameBlind (pw_PreN av z D cy Ad sh C) := fun a U g mk h => ⟨h.1, h.2.1, h.2.2.1, ⟨va_K.moved (u := U) (U := U.calling g mk a) (Vm.Alike.refl U.vm) h.2.2.2.1.1, va_Nw.same rfl rfl h.2.2.2.1.2⟩, h.2.2.2.2.moved (u := U) (U := U.calling g mk a) (Vm.Alike.refl U.vm)⟩
section MX1
variable {D : va_G} {cy : Nat → ClassId} {Ad : Nat → Nat} {sh : Nat → Nat × Nat × Nat} {C C1 : pw_C} {H H1 : Heap} {k : Nat} {f f1 : Nat → Bool}
theorem mixE_t (h : f1 k = true) : pw_E cy Ad sh (mixC f1 C1 C) k = pw_E cy Ad sh C1 k := by
  unfold pw_E mixC
  simp only [h, if_true]
theorem mixE_f (h : f1 k = false) : pw_E cy Ad sh (mixC f1 C1 C) k = pw_E cy Ad sh C k := by
  unfold pw_E mixC
  simp [h]
theorem pw_P.mix (hP : pw_P D cy Ad (shR f sh) C H) (hP1 : pw_P D cy Ad (shR f1 sh) C1 H1) (hI : pw_I Ad sh) (hdj : ∀ j, f j = true → f1 j = false) (hk : ∀ q, q < H.size → ¬ pw_fr Ad (shR f1 sh) q → H1[q]? = H[q]?) : pw_P D cy Ad (shR (fun j => f j || f1 j) sh) (mixC f1 C1 C) H1 := fun k e hk0 => by
  have hL := shR_L.mp (pw_E_L hk0)
  rw [pw_E_R, if_pos hL.1] at hk0
  cases h1 : f1 k with
  | true =>
    rw [mixE_t h1] at hk0
    exact hP1 k e (by rw [pw_E_R, if_pos h1]; exact hk0)
  | false =>
    rw [mixE_f h1] at hk0
    have hfk : f k = true := by
      have h9 : (f k || f1 k) = true := hL.1
      rw [h1, Bool.or_false] at h9; exact h9
    have h0 := hP k e (by rw [pw_E_R, if_pos hfk]; exact hk0)
    refine h0.kept (hk _ h0.lt (fun hfr => ?_))
    obtain ⟨j, g1, g2⟩ := hfr
    have g2 : Ad k = Ad j := g2
    have := hI k j hL.2 (shR_L.mp g1).2 g2
    subst this
    have g3 := (shR_L.mp g1).1
    rw [h1] at g3; cases g3
theorem pw_P.single {ci b : Nat} {fs : List Value} (hs : sh k = (6, ci, b)) (h : va_at D vwCl (Ad k, .inr (ci, fs)) H) : pw_P D cy Ad (shR (fun j => j == k) sh) (zC fs) H := fun j e hj => by
  have hL := shR_L.mp (pw_E_L hj)
  have hjk : j = k := by have h9 : (j == k) = true := hL.1; rw [beq_iff_eq] at h9; exact h9
  subst hjk
  rw [pw_E_R, if_pos hL.1] at hj
  have h9 : pw_E cy Ad sh (zC fs) j = some (.inr (ci, fs)) := by simp [pw_E, hs, zC]
  rw [h9] at hj
  cases hj
  exact h
end MX1
section PW6
variable {p : Program} {l : Launch} {e : Env} {R : Room} {s : State} {m : MethodId} {args : Array Value} {below : List Frame} {meth : Method} {c : Code} {H : Heap} {locs : List Loc} {cells slots : Nat} {Q : State → Prop}
variable {cc bytes : ByteArray} {pc nL maxL index : Nat} {ls : Array Slot} {rest As st0 : List Value} {D : va_G} {cy : Nat → ClassId} {Ad : Nat → Nat} {sh : Nat → Nat × Nat × Nat} {C : pw_C} {H0 : Heap} {own : String} {y : MethodName} {Ts ws ws' : List Cond} {rm : Room}
theorem pw_sz {g : JFrame} (kk : H.size ≤ s.heap.size + cells → W p l e R s m args below meth c H locs cells slots Q g) : W p l e R s m args below meth c H locs cells slots Q g := fun T hT X => kk (by rw [← hT]; exact X.heapSize) T hT X
theorem pw_ci (S : CallFix p m c cc nL s args Ts own) (hK : pw_K D cy s) (hO : pw_O cy s) {f f1 : Nat → Bool} (hP : pw_P D cy Ad (shR f sh) C H) (hI : pw_I Ad sh) (hS : va_S (pw_fr Ad (shR f sh)) H0 H locs) (k : Nat) {ci b : Nat} (hs : sh k = (6, ci, b)) {fs : List Value} (hN : va_at D vwCl (Ad k, .inr (ci, fs)) H) {z zz mc ms : Nat} (hz : H.size = z) (hdj : ∀ j, f j = true → f1 j = false) {Rel : pw_C → Prop} (n : Nat)
    (hM : Met l y ws rm (pw_PreN (.ref (Ad k) :: As) z D cy Ad (shR (fun j => j == k) sh) (zC fs)) (pw_PostN Rel zz D cy Ad (shR f1 sh)) mc ms (pw_fr Ad (shR f1 sh))) (hG : GoodIn Ts ws) (hw : ws = Cond.code y bytes maxL none :: ws') (hrc : rm.cells = mc) (hrs : rm.slots = ms)
    (hini : (Cond.initialized y.cls).before args s = true) (hl0 : (Cond.methodLink own index y).before args s = true) (hin : (Cond.instanceMethod y).before args s = true) (hy1 : y.name = "<init>")
    (hd : y.cls ≠ "java/lang/invoke/MethodHandle" ∧ y.cls ≠ "java/lang/invoke/VarHandle" ∧ (parseMethodDescriptor y.desc).map (fun d => d.parameters.length) = some n) (hR : rm.frames + 1 ≤ R.frames ∧ 8 + (maxL + 11) + rm.locals ≤ R.locals)
    (hn : As.length = n) (hl : ls.size = nL) (hst : st0 = As.reverse ++ .ref (Ad k) :: rest) (hro : (rest.map fun v => v.category).sum ≤ 8) (hdg : decode cc pc = .ok (.invokespecial index, 3)) (hf : cells + mc ≤ R.cells ∧ slots + ms ≤ R.slots)
    (kk : ∀ (C1 : pw_C) (H1 : Heap) (locs1 : List Loc), Rel C1 → pw_P D cy Ad (shR (fun j => f j || f1 j) sh) (mixC f1 C1 C) H1 → pw_I Ad (shR (fun j => f j || f1 j) sh) → va_S (pw_fr Ad (shR (fun j => f j || f1 j) sh)) H0 H1 locs1 → H1.size = zz → W p l e R s m args below meth c H1 locs1 (cells + mc) (slots + ms) Q (F0 m (pc + 3) ls rest)) : W p l e R s m args below meth c H locs cells slots Q (F0 m pc ls st0) := by
  intro T hT X
  obtain ⟨v, st₀, t, T', L, h0, X', hL, e1, e2, ⟨⟨C1, hv, hr, hb, hzz⟩, hz1, hk1⟩, st⟩ := va_runI (As := As) (rest := rest) S hM (cwI n S.2.2.2.2 hG hw hrc hrs hini hl0 hin hy1 hd hR) ⟨pw_blindN, fun U hU hW => ⟨rfl, by rw [hU]; exact hz, by rw [hU]; exact pw_P.single hs hN, hK.moved hW, hO.moved hW.alike⟩⟩ rfl hn hl hst (lv_room hro) hdg hf T hT X
  cases hv
  rw [h0] at hz1 hk1
  have hS1 : va_S (pw_fr Ad (shR (fun j => f j || f1 j) sh)) H0 H locs := hS.mono (pw_fr.R (fun j hj => by simp [hj]))
  have hm1 : ∀ q, pw_fr Ad (shR f1 sh) q → pw_fr Ad (shR (fun j => f j || f1 j) sh) q := pw_fr.R (fun j hj => by simp [hj])
  obtain ⟨t2, a1, b1⟩ := kk C1 T'.heap (locs ++ L) hr (by rw [e1]; exact hP.mix hb hI hdj hk1) hI.R
    ⟨Nat.le_trans hS1.1 (by rw [e1]; exact hz1), fun q h1 h2 => by rw [e1, hk1 q (Nat.lt_of_lt_of_le h1 hS1.1) (fun z9 => h2 (hm1 q z9))]; exact hS1.2.1 q h1 h2, fun q hq => by
      rcases List.mem_append.mp hq with h | h
      · exact hS1.2.2 q h
      · exact hm1 _ (hL q h)⟩ (by rw [e1]; exact hzz) T' rfl X'
  exact ⟨t2, st t2 a1, b1⟩
end PW6
