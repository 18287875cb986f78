theorem arrV_congr {cA : ClassId} {N : Nat} {f g : Nat → Value} (h : ∀ i, i < N → f i = g i) : arrV cA N f = arrV cA N g := by
  unfold arrV
  congr 1
  apply Array.ext
  · simp
  · intro i h1 h2
    simp
    exact h i (by simpa using h1)
theorem va_S.mem_grow {A : Nat → Prop} {H0 H H1 : Heap} {locs : List Loc} (h : va_S A H0 H locs) {n : Nat} (z1 : H1.size = H.size + n) (o1 : ∀ q, q < H.size → H1[q]? = H[q]?) : va_S A H0 H1 locs := ⟨Nat.le_trans h.1 (by omega), fun q h1 h2 => (o1 q (Nat.lt_of_lt_of_le h1 h.1)).trans (h.2.1 q h1 h2), h.2.2⟩
/-! objects in the making: the cells that live already are those that f names -/
def shR (f : Nat → Bool) (sh : Nat → Nat × Nat × Nat) (k : Nat) : Nat × Nat × Nat := if f k = true then sh k else (0, 0, 0)
def pw_rm (f n mc ms : Nat) : Room := { frames := f, cells := mc, slots := ms, locals := n }
/-- what is known of the classes of arrays of arrays -/
def pw_O (cy : Nat → ClassId) (U : State) : Prop := mn_K (cy 3) (cy 0) .int U ∧ mn_K (cy 4) (cy 1) .long U
theorem pw_O.moved {cy : Nat → ClassId} {u U : State} (hvm : u.vm.Alike U.vm) (h : pw_O cy u) : pw_O cy U := ⟨h.1.moved hvm, h.2.moved hvm⟩
section SR
variable {D : va_G} {cy : Nat → ClassId} {Ad : Nat → Nat} {sh : Nat → Nat × Nat × Nat} {C : pw_C} {H H1 : Heap} {k : Nat} {f f1 : Nat → Bool}
theorem shR_t (h : f k = true) : shR f sh k = sh k := if_pos h
theorem shR_L : pw_L (shR f sh) k ↔ f k = true ∧ pw_L sh k := by
  unfold pw_L
  by_cases h : f k = true
  · rw [shR_t h]; exact ⟨fun q => ⟨h, q⟩, fun q => q.2⟩
  · have e0 : shR f sh k = (0, 0, 0) := if_neg h
    rw [e0]; exact ⟨fun q => absurd q.1 (by decide), fun q => absurd q.1 h⟩
theorem pw_E_R : pw_E cy Ad (shR f sh) C k = if f k = true then pw_E cy Ad sh C k else none := by
  by_cases h : f k = true
  · rw [if_pos h]; unfold pw_E; rw [shR_t h]
  · rw [if_neg h]; unfold pw_E shR; rw [if_neg h]; rfl
theorem pw_I.R (h : pw_I Ad sh) : pw_I Ad (shR f sh) := fun j k hj hk e => h j k (shR_L.mp hj).2 (shR_L.mp hk).2 e
theorem va_S.mono {A A1 : Nat → Prop} {H0 : Heap} {locs : List Loc} (h : va_S A H0 H locs) (hm : ∀ q, A q → A1 q) : va_S A1 H0 H locs := ⟨h.1, fun q h1 h2 => h.2.1 q h1 (fun z => h2 (hm q z)), fun q hq => hm _ (h.2.2 q hq)⟩
theorem pw_fr.R (hm : ∀ k, f k = true → f1 k = true) (q : Nat) (h : pw_fr Ad (shR f sh) q) : pw_fr Ad (shR f1 sh) q := by
  obtain ⟨k, h1, h2⟩ := h
  exact ⟨k, shR_L.mpr ⟨hm k (shR_L.mp h1).1, (shR_L.mp h1).2⟩, h2⟩
theorem pw_P.R (h : pw_P D cy Ad (shR f sh) C H) (hm : ∀ k, pw_L sh k → f1 k = true → f k = true) : pw_P D cy Ad (shR f1 sh) C H := fun k e hk => by
  have hL := shR_L.mp (pw_E_L hk)
  rw [pw_E_R, if_pos hL.1] at hk
  exact h k e (by rw [pw_E_R, if_pos (hm k hL.2 hL.1)]; exact hk)
theorem pw_live (hP : pw_P D cy Ad (shR f sh) C H) (o1 : ∀ q, q < H.size → H1[q]? = H[q]?) (hf : ∀ k, f1 k = true → f k = true ∨ ∀ e, pw_E cy Ad sh C k = some e → va_at D vwCl (Ad k, e) H1) : pw_P D cy Ad (shR f1 sh) C H1 := fun k e hk => by
  have hL := shR_L.mp (pw_E_L hk)
  rw [pw_E_R, if_pos hL.1] at hk
  rcases hf k hL.1 with h | h
  · have h0 := hP k e (by rw [pw_E_R, if_pos h]; exact hk)
    exact h0.kept (o1 _ h0.lt)
  · exact h e hk
end SR
section PW5
variable {p : Program} {l : Launch} {e : Env} {R : Room} {s : State} {m : MethodId} {args : Array Value} {below : List Frame} {meth : Method} {c : Code} {H : Heap} {locs : List Loc} {cells slots : Nat} {Q : State → Prop}
variable {cc : ByteArray} {pc : Nat} {ls : Array Slot} {rest : List Value} {D : va_G} {cy : Nat → ClassId} {Ad : Nat → Nat} {sh : Nat → Nat × Nat × Nat} {C : pw_C} {H0 : Heap} {f : Nat → Bool}
theorem pw_nai (hexec : p.tables.exec = Jvm.exec) (hb : c.code = cc) (harr : (Cond.arrayClass .int).before args s = true) (hK : pw_K D cy s) (hP : pw_P D cy Ad (shR f sh) C H) (hI : pw_I Ad sh) (hS : va_S (pw_fr Ad (shR f sh)) H0 H locs) (k : Nat) {len b : Nat} (hs : sh k = (1, len, b)) (hz : ∀ i, C.1 k i = 0) (hadr : H.size = Ad k) (hlen : len ≤ 100000) (hcells : cells + 1 ≤ R.cells) (hslots : slots + len ≤ R.slots) (hdg : decode cc pc = .ok (.newarray .int, 2))
    (kk : ∀ H1 : Heap, pw_P D cy Ad (shR (fun j => f j || j == k) sh) C H1 → pw_I Ad (shR (fun j => f j || j == k) sh) → va_S (pw_fr Ad (shR (fun j => f j || j == k) sh)) H0 H1 locs → H1.size = H.size + 1 → W p l e R s m args below meth c H1 locs (cells + 1) (slots + len) Q (F0 m (pc + 2) ls (.ref (Ad k) :: rest))) : W p l e R s m args below meth c H locs cells slots Q (F0 m pc ls (.int (nI len) :: rest)) := by
  refine va_newaK (atype := .int) hexec hb harr rfl hdg rfl (nI_pos (by omega)) (N := len) (nI_clamp (by omega)) (by show len * 4 ≤ 536870912; omega) hcells hslots rfl fun H1 cA e1 z1 o1 hAr hNm => ?_
  have hcA : cA = cy 0 := by
    have h1 := (hK.1.2 0 _ rfl).2
    exact Option.some.inj (hNm.symm.trans h1)
  subst hcA
  rw [hadr]
  refine kk H1 (pw_live hP o1 (fun j hj => ?_)) hI.R (hS.mono (pw_fr.R (fun j hj => by simp [hj])) |>.mem_grow z1 o1) z1
  by_cases hjk : j = k
  · right
    subst hjk
    intro e0 he
    have h9 : pw_E cy Ad sh C j = some (.inl (cy 0, len, .inl (C.1 j))) := by simp [pw_E, hs]
    rw [h9] at he
    cases he
    show H1[Ad j]? = some (vp_cell _ _)
    rw [vp_cell_i, ← hadr, e1]
    refine congrArg (fun g => some (arrV (cy 0) len g)) (funext fun i => ?_)
    show _ = Value.int (C.1 j i)
    rw [hz i]
    rfl
  · left
    simpa [hjk] using hj
theorem pw_nal (hexec : p.tables.exec = Jvm.exec) (hb : c.code = cc) (harr : (Cond.arrayClass .long).before args s = true) (hK : pw_K D cy s) (hP : pw_P D cy Ad (shR f sh) C H) (hI : pw_I Ad sh) (hS : va_S (pw_fr Ad (shR f sh)) H0 H locs) (k : Nat) {len b : Nat} (hs : sh k = (2, len, b)) (hz : ∀ i, C.2.1 k i = 0) (hadr : H.size = Ad k) (hlen : len ≤ 100000) (hcells : cells + 1 ≤ R.cells) (hslots : slots + len ≤ R.slots) (hdg : decode cc pc = .ok (.newarray .long, 2))
    (kk : ∀ H1 : Heap, pw_P D cy Ad (shR (fun j => f j || j == k) sh) C H1 → pw_I Ad (shR (fun j => f j || j == k) sh) → va_S (pw_fr Ad (shR (fun j => f j || j == k) sh)) H0 H1 locs → H1.size = H.size + 1 → W p l e R s m args below meth c H1 locs (cells + 1) (slots + len) Q (F0 m (pc + 2) ls (.ref (Ad k) :: rest))) : W p l e R s m args below meth c H locs cells slots Q (F0 m pc ls (.int (nI len) :: rest)) := by
  refine va_newaK (atype := .long) hexec hb harr rfl hdg rfl (nI_pos (by omega)) (N := len) (nI_clamp (by omega)) (by show len * 8 ≤ 536870912; omega) hcells hslots rfl fun H1 cA e1 z1 o1 hAr hNm => ?_
  have hcA : cA = cy 1 := by
    have h1 := (hK.1.2 1 _ rfl).2
    exact Option.some.inj (hNm.symm.trans h1)
  subst hcA
  rw [hadr]
  refine kk H1 (pw_live hP o1 (fun j hj => ?_)) hI.R (hS.mono (pw_fr.R (fun j hj => by simp [hj])) |>.mem_grow z1 o1) z1
  by_cases hjk : j = k
  · right
    subst hjk
    intro e0 he
    have h9 : pw_E cy Ad sh C j = some (.inl (cy 1, len, .inr (.inl (C.2.1 j)))) := by simp [pw_E, hs]
    rw [h9] at he
    cases he
    show H1[Ad j]? = some (vp_cell _ _)
    rw [vp_cell_l, ← hadr, e1]
    refine congrArg (fun g => some (arrV (cy 1) len g)) (funext fun i => ?_)
    show _ = Value.long (C.2.1 j i)
    rw [hz i]
    rfl
  · left
    simpa [hjk] using hj
theorem pw_naz (hexec : p.tables.exec = Jvm.exec) (hb : c.code = cc) (harr : (Cond.arrayClass .boolean).before args s = true) (hK : pw_K D cy s) (hP : pw_P D cy Ad (shR f sh) C H) (hI : pw_I Ad sh) (hS : va_S (pw_fr Ad (shR f sh)) H0 H locs) (k : Nat) {len b : Nat} (hs : sh k = (3, len, b)) (hz : ∀ i, C.1 k i = 0) (hadr : H.size = Ad k) (hlen : len ≤ 100000) (hcells : cells + 1 ≤ R.cells) (hslots : slots + len ≤ R.slots) (hdg : decode cc pc = .ok (.newarray .boolean, 2))
    (kk : ∀ H1 : Heap, pw_P D cy Ad (shR (fun j => f j || j == k) sh) C H1 → pw_I Ad (shR (fun j => f j || j == k) sh) → va_S (pw_fr Ad (shR (fun j => f j || j == k) sh)) H0 H1 locs → H1.size = H.size + 1 → W p l e R s m args below meth c H1 locs (cells + 1) (slots + len) Q (F0 m (pc + 2) ls (.ref (Ad k) :: rest))) : W p l e R s m args below meth c H locs cells slots Q (F0 m pc ls (.int (nI len) :: rest)) := by
  refine va_newaK (atype := .boolean) hexec hb harr rfl hdg rfl (nI_pos (by omega)) (N := len) (nI_clamp (by omega)) (by show len * 1 ≤ 536870912; omega) hcells hslots rfl fun H1 cA e1 z1 o1 hAr hNm => ?_
  have hcA : cA = cy 2 := by
    have h1 := (hK.1.2 2 _ rfl).2
    exact Option.some.inj (hNm.symm.trans h1)
  subst hcA
  rw [hadr]
  refine kk H1 (pw_live hP o1 (fun j hj => ?_)) hI.R (hS.mono (pw_fr.R (fun j hj => by simp [hj])) |>.mem_grow z1 o1) z1
  by_cases hjk : j = k
  · right
    subst hjk
    intro e0 he
    have h9 : pw_E cy Ad sh C j = some (.inl (cy 2, len, .inl (C.1 j))) := by simp [pw_E, hs]
    rw [h9] at he
    cases he
    show H1[Ad j]? = some (vp_cell _ _)
    rw [vp_cell_i, ← hadr, e1]
    refine congrArg (fun g => some (arrV (cy 2) len g)) (funext fun i => ?_)
    show _ = Value.int (C.1 j i)
    rw [hz i]
    rfl
  · left
    simpa [hjk] using hj
theorem pw_mna4 (hexec : p.tables.exec = Jvm.exec) (hb : c.code = cc) {own : String} {index : Nat} (hown : s.vm.findClass own = some m.cls) (hclink : (Cond.classLink own index "[[I").before args s = true) (hK : pw_K D cy s) (hO : pw_O cy s) (hP : pw_P D cy Ad (shR f sh) C H) (hI : pw_I Ad sh) (hS : va_S (pw_fr Ad (shR f sh)) H0 H locs) (k : Nat) {N M b b2 : Nat} (hs : sh k = (4, N, b)) (hsr : ∀ i, i < N → sh (b + i) = (1, M, b2)) (hz : ∀ i j, C.1 (b + i) j = 0) (hkb : k < b) (hadr : H.size = Ad k) (hadr2 : ∀ i, i < N → Ad (b + i) = H.size + 1 + i) (hlN : N ≤ 1000) (hlM : M ≤ 1000) (hcells : cells + (1 + N) ≤ R.cells) (hslots : slots + (N + N * M) ≤ R.slots) (hdg : decode cc pc = .ok (.multianewarray index 2, 4))
    (kk : ∀ (H1 : Heap) (locs1 : List Loc), pw_P D cy Ad (shR (fun j => f j || (j == k || (Nat.ble b j && Nat.blt j (b + N)))) sh) C H1 → pw_I Ad (shR (fun j => f j || (j == k || (Nat.ble b j && Nat.blt j (b + N)))) sh) → va_S (pw_fr Ad (shR (fun j => f j || (j == k || (Nat.ble b j && Nat.blt j (b + N)))) sh)) H0 H1 locs1 → H1.size = H.size + 1 + N → W p l e R s m args below meth c H1 locs1 (cells + 1 + N) (slots + N + N * M) Q (F0 m (pc + 4) ls (.ref (Ad k) :: rest))) : W p l e R s m args below meth c H locs cells slots Q (F0 m pc ls (.int (nI M) :: .int (nI N) :: rest)) := by
  intro T hT X
  have hN : (nI N).toNatClampNeg = N := nI_clamp (by omega)
  have hM : (nI M).toNatClampNeg = M := nI_clamp (by omega)
  have hcA : s.vm.findClass "[[I" = some (cy 3) := (hK.1.2 3 _ rfl).2
  obtain ⟨vm₁, X1, step⟩ := mn_step X hexec hown hclink hcA hO.1 (g := F0 m pc ls (.int (nI M) :: .int (nI N) :: rest)) rfl (by rw [hb]; exact hdg) rfl (nI_pos (by omega)) (nI_pos (by omega)) (by rw [hN]; omega) (by rw [hM]; show M * 4 ≤ _; omega) (by rw [hM]; omega) rfl (by rw [hN]; exact hcells) (by rw [hN, hM]; exact hslots)
  rw [hN, hM] at X1 step
  obtain ⟨a1, a2, -, -, a5, a6⟩ := mn_S_ok (T.setVm vm₁) (cy 3) (cy 0) N M (defaultValue .int) N
  have hTh : (T.setVm vm₁).heap = H := hT
  rw [hTh] at a1 a2 a5 a6
  have hT0 : T.heap.size = Ad k := by rw [hT]; exact hadr
  have hfrk : pw_fr Ad (shR (fun j => f j || (j == k || (Nat.ble b j && Nat.blt j (b + N)))) sh) (Ad k) := ⟨k, shR_L.mpr ⟨by simp, by unfold pw_L; rw [hs]; exact ⟨Nat.le_of_ble_eq_true rfl, Nat.le_of_ble_eq_true rfl⟩⟩, rfl⟩
  have hS1 : va_S (pw_fr Ad (shR (fun j => f j || (j == k || (Nat.ble b j && Nat.blt j (b + N)))) sh)) H0 H locs := hS.mono (pw_fr.R (fun j hj => by simp [hj]))
  have hP1 := pw_live (f1 := fun j => f j || (j == k || (Nat.ble b j && Nat.blt j (b + N)))) hP a5 (fun j hj => by
    by_cases hjf : f j = true
    · exact Or.inl hjf
    · right
      intro e0 he
      by_cases hjk : j = k
      · subst hjk
        have h9 : pw_E cy Ad sh C j = some (.inl (cy 3, N, .inr (.inr (.inr (.inr (fun i => some (Ad (b + i)))))))) := by simp [pw_E, hs]
        rw [h9] at he
        cases he
        show (mn_S _ _ _ _ _ _ _).heap[Ad j]? = some (vp_cell _ _)
        rw [vp_cell_q, ← hadr, a2]
        refine congrArg some ?_
        unfold mn_O
        apply arrV_congr
        intro i hi
        rw [if_pos hi, hadr2 i hi]
        rfl
      · have hj2 : b ≤ j ∧ j < b + N := by
          have h8 : (f j || (j == k || (Nat.ble b j && Nat.blt j (b + N)))) = true := hj
          rw [Bool.or_eq_true, Bool.or_eq_true, Bool.and_eq_true, beq_iff_eq] at h8
          rcases h8 with h | h | h
          · exact absurd h hjf
          · exact absurd h hjk
          · exact ⟨Nat.le_of_ble_eq_true h.1, Nat.le_of_ble_eq_true h.2⟩
        obtain ⟨i, rfl⟩ : ∃ i, j = b + i := ⟨j - b, by omega⟩
        have hi : i < N := by omega
        have h9 : pw_E cy Ad sh C (b + i) = some (.inl (cy 0, M, .inl (C.1 (b + i)))) := by simp [pw_E, hsr i hi]
        rw [h9] at he
        cases he
        show (mn_S _ _ _ _ _ _ _).heap[Ad (b + i)]? = some (vp_cell _ _)
        rw [vp_cell_i, hadr2 i hi, a6 i hi]
        refine congrArg (fun g => some (arrV (cy 0) M g)) (funext fun z => ?_)
        show _ = Value.int (C.1 (b + i) z)
        rw [hz i z]
        rfl)
  obtain ⟨t, q1, q2⟩ := kk _ _ hP1 hI.R ⟨Nat.le_trans hS1.1 (by omega), fun q h1 h2 => (a5 q (Nat.lt_of_lt_of_le h1 hS1.1)).trans (hS1.2.1 q h1 h2), fun q hq => by
      rcases List.mem_append.mp hq with h | h
      · exact hS1.2.2 q h
      · obtain ⟨i, -, hi⟩ := List.mem_map.mp h
        rw [← hi]
        show pw_fr _ _ T.heap.size
        rw [hT0]; exact hfrk⟩ a1 _ rfl X1
  rw [hT0] at step
  exact ⟨t, step t q1, q2⟩
theorem pw_mna5 (hexec : p.tables.exec = Jvm.exec) (hb : c.code = cc) {own : String} {index : Nat} (hown : s.vm.findClass own = some m.cls) (hclink : (Cond.classLink own index "[[J").before args s = true) (hK : pw_K D cy s) (hO : pw_O cy s) (hP : pw_P D cy Ad (shR f sh) C H) (hI : pw_I Ad sh) (hS : va_S (pw_fr Ad (shR f sh)) H0 H locs) (k : Nat) {N M b b2 : Nat} (hs : sh k = (5, N, b)) (hsr : ∀ i, i < N → sh (b + i) = (2, M, b2)) (hz : ∀ i j, C.2.1 (b + i) j = 0) (hkb : k < b) (hadr : H.size = Ad k) (hadr2 : ∀ i, i < N → Ad (b + i) = H.size + 1 + i) (hlN : N ≤ 1000) (hlM : M ≤ 1000) (hcells : cells + (1 + N) ≤ R.cells) (hslots : slots + (N + N * M) ≤ R.slots) (hdg : decode cc pc = .ok (.multianewarray index 2, 4))
    (kk : ∀ (H1 : Heap) (locs1 : List Loc), pw_P D cy Ad (shR (fun j => f j || (j == k || (Nat.ble b j && Nat.blt j (b + N)))) sh) C H1 → pw_I Ad (shR (fun j => f j || (j == k || (Nat.ble b j && Nat.blt j (b + N)))) sh) → va_S (pw_fr Ad (shR (fun j => f j || (j == k || (Nat.ble b j && Nat.blt j (b + N)))) sh)) H0 H1 locs1 → H1.size = H.size + 1 + N → W p l e R s m args below meth c H1 locs1 (cells + 1 + N) (slots + N + N * M) Q (F0 m (pc + 4) ls (.ref (Ad k) :: rest))) : W p l e R s m args below meth c H locs cells slots Q (F0 m pc ls (.int (nI M) :: .int (nI N) :: rest)) := by
  intro T hT X
  have hN : (nI N).toNatClampNeg = N := nI_clamp (by omega)
  have hM : (nI M).toNatClampNeg = M := nI_clamp (by omega)
  have hcA : s.vm.findClass "[[J" = some (cy 4) := (hK.1.2 4 _ rfl).2
  obtain ⟨vm₁, X1, step⟩ := mn_step X hexec hown hclink hcA hO.2 (g := F0 m pc ls (.int (nI M) :: .int (nI N) :: rest)) rfl (by rw [hb]; exact hdg) rfl (nI_pos (by omega)) (nI_pos (by omega)) (by rw [hN]; omega) (by rw [hM]; show M * 8 ≤ _; omega) (by rw [hM]; omega) rfl (by rw [hN]; exact hcells) (by rw [hN, hM]; exact hslots)
  rw [hN, hM] at X1 step
  obtain ⟨a1, a2, -, -, a5, a6⟩ := mn_S_ok (T.setVm vm₁) (cy 4) (cy 1) N M (defaultValue .long) N
  have hTh : (T.setVm vm₁).heap = H := hT
  rw [hTh] at a1 a2 a5 a6
  have hT0 : T.heap.size = Ad k := by rw [hT]; exact hadr
  have hfrk : pw_fr Ad (shR (fun j => f j || (j == k || (Nat.ble b j && Nat.blt j (b + N)))) sh) (Ad k) := ⟨k, shR_L.mpr ⟨by simp, by unfold pw_L; rw [hs]; exact ⟨Nat.le_of_ble_eq_true rfl, Nat.le_of_ble_eq_true rfl⟩⟩, rfl⟩
  have hS1 : va_S (pw_fr Ad (shR (fun j => f j || (j == k || (Nat.ble b j && Nat.blt j (b + N)))) sh)) H0 H locs := hS.mono (pw_fr.R (fun j hj => by simp [hj]))
  have hP1 := pw_live (f1 := fun j => f j || (j == k || (Nat.ble b j && Nat.blt j (b + N)))) hP a5 (fun j hj => by
    by_cases hjf : f j = true
    · exact Or.inl hjf
    · right
      intro e0 he
      by_cases hjk : j = k
      · subst hjk
        have h9 : pw_E cy Ad sh C j = some (.inl (cy 4, N, .inr (.inr (.inr (.inr (fun i => some (Ad (b + i)))))))) := by simp [pw_E, hs]
        rw [h9] at he
        cases he
        show (mn_S _ _ _ _ _ _ _).heap[Ad j]? = some (vp_cell _ _)
        rw [vp_cell_q, ← hadr, a2]
        refine congrArg some ?_
        unfold mn_O
        apply arrV_congr
        intro i hi
        rw [if_pos hi, hadr2 i hi]
        rfl
      · have hj2 : b ≤ j ∧ j < b + N := by
          have h8 : (f j || (j == k || (Nat.ble b j && Nat.blt j (b + N)))) = true := hj
          rw [Bool.or_eq_true, Bool.or_eq_true, Bool.and_eq_true, beq_iff_eq] at h8
          rcases h8 with h | h | h
          · exact absurd h hjf
          · exact absurd h hjk
          · exact ⟨Nat.le_of_ble_eq_true h.1, Nat.le_of_ble_eq_true h.2⟩
        obtain ⟨i, rfl⟩ : ∃ i, j = b + i := ⟨j - b, by omega⟩
        have hi : i < N := by omega
        have h9 : pw_E cy Ad sh C (b + i) = some (.inl (cy 1, M, .inr (.inl (C.2.1 (b + i))))) := by simp [pw_E, hsr i hi]
        rw [h9] at he
        cases he
        show (mn_S _ _ _ _ _ _ _).heap[Ad (b + i)]? = some (vp_cell _ _)
        rw [vp_cell_l, hadr2 i hi, a6 i hi]
        refine congrArg (fun g => some (arrV (cy 1) M g)) (funext fun z => ?_)
        show _ = Value.long (C.2.1 (b + i) z)
        rw [hz i z]
        rfl)
  obtain ⟨t, q1, q2⟩ := kk _ _ hP1 hI.R ⟨Nat.le_trans hS1.1 (by omega), fun q h1 h2 => (a5 q (Nat.lt_of_lt_of_le h1 hS1.1)).trans (hS1.2.1 q h1 h2), fun q hq => by
      rcases List.mem_append.mp hq with h | h
      · exact hS1.2.2 q h
      · obtain ⟨i, -, hi⟩ := List.mem_map.mp h
        rw [← hi]
        show pw_fr _ _ T.heap.size
        rw [hT0]; exact hfrk⟩ a1 _ rfl X1
  rw [hT0] at step
  exact ⟨t, step t q1, q2⟩
theorem pw_putF (hexec : p.tables.exec = Jvm.exec) (hb : c.code = cc) {own Cn : String} {T : u_T} {N ci index b : Nat} {Ts : List Cond} (hts : ∀ w ∈ Ts, w.before args s = true) (hin : ∀ w ∈ u_ws Cn T N, w ∈ Ts) (ty0 : Nat → FieldType) (hty : ∀ k, k < N → parseFieldDescriptor (T k).2.2.1 = some (ty0 k)) (hnm : ∀ a, a < N → ∀ b, b < N → a ≠ b → (T a).2.1 ≠ (T b).2.1) (hown : s.vm.findClass own = some m.cls) (hK : pw_K D cy s) (hP : pw_P D cy Ad sh C H) (hI : pw_I Ad sh) (hS0 : va_S (pw_fr Ad sh) H0 H locs) (k : Nat) (hs : sh k = (6, ci, b)) (hc : vwCl[ci]? = some (Cn, T, N)) (j : Nat) (hj : j < N) {fs : List Value} (hf : C.2.2 k = fs)
    (hlink : (Cond.fieldLink own index (T j).1 (T j).2.1 (T j).2.2.1).before args s = true) (hfin : (T j).2.2.2 = true) (hin2 : meth.name = "<init>") (hdecl : (T j).1 = own) {ty : FieldType} {v : Value} (hd : parseFieldDescriptor (T j).2.2.1 = some ty) (hn : narrow ty v = v) (hfit : fits ty v = true) (hl : j < fs.length) (hdg : decode cc pc = .ok (.putfield index, 3))
    (kk : ∀ (H1 : Heap) (locs1 : List Loc), pw_P D cy Ad sh (pw_setF C k (fs.set j v)) H1 → va_S (pw_fr Ad sh) H0 H1 locs1 → H1.size = H.size → W p l e R s m args below meth c H1 locs1 cells slots Q (F0 m (pc + 3) ls rest)) : W p l e R s m args below meth c H locs cells slots Q (F0 m pc ls (v :: .ref (Ad k) :: rest)) := by
  have h0 : pw_E cy Ad sh C k = some (.inr (ci, fs)) := by simp [pw_E, hs, hf]
  have hap := va_apart (own := own) hts hin ty0 hty hnm hK.1 hc
  obtain ⟨r, h1, cell, q1, q2, q3, q4⟩ := hP k _ h0
  have hr : r = (Cn, T, N) := Option.some.inj (h1.symm.trans hc)
  subst hr
  obtain ⟨hS, hfc, kC, hkC, hkind⟩ := hK.1.1 ci _ hc
  obtain ⟨cf, kf, fi, fd, hi, hsl⟩ := hS j hj
  have hlay := hts _ (hin _ (u_in_lay hj))
  unfold u_lay at hlay
  rw [if_pos hfin] at hlay
  have hst := (u_facts hfc hkC (u_lays hts hin hj) hi).1
  have hcf : m.cls = cf := by
    obtain ⟨_, _, c', _, _, _, -, -, hf', -, -, -, hown2, -⟩ := Cond.laysFinal_spec hlay
    have e1 : c' = cf := by have := hi.symm.trans hf'; simp at this; exact this.1.symm
    rw [hdecl] at hown2
    rw [← e1]; exact Option.some.inj (hown.symm.trans hown2)
  have h6 := u_fits hfc hkC hkind (Or.inr hlay) hi hd hn hfit
  refine W.putFinK hexec hb hown hlink hi hst hcf hin2 (by rw [q2]; exact h6) q1 q3 (by rw [hsl]; exact k2_hasslot (q4 j hj)) rfl rfl hdg fun H' e1 e2 e3 => ?_
  rw [hsl] at e1 ⊢
  refine kk H' _ (pw_store hP hI h0 (pw_setF C k (fs.set j v)) (e1 := .inr (ci, fs.set j v)) (by simp [pw_E, hs, pw_setF]) (fun i hi => by simp [pw_E, pw_setF, hi]) ?_ e3) (hS0.put e2 e3 ⟨k, pw_E_L h0, rfl⟩) e2
  exact ⟨_, hc, t_OB.to (V := updV (vp_V fs) j v) ⟨_, e1, q2, q3, t_set q4 hap hj v⟩ (fun i _ => vp_updV_set hl v i)⟩
/-- a new object: its cell -/
theorem pw_newo (hexec : p.tables.exec = Jvm.exec) (hb : c.code = cc) {own Cn : String} {T : u_T} {N ci index b : Nat} {Ts : List Cond} (hts : ∀ w ∈ Ts, w.before args s = true) (hin : ∀ w ∈ u_ws Cn T N, w ∈ Ts) (ty : Nat → FieldType) (hty : ∀ k, k < N → parseFieldDescriptor (T k).2.2.1 = some (ty k)) (hown : s.vm.findClass own = some m.cls) (hcl : (Cond.classLink own index Cn).before args s = true) (hinst : (Cond.instantiable Cn N).before args s = true) (hini : (Cond.initialized Cn).before args s = true)
    (hK : pw_K D cy s) (hc : vwCl[ci]? = some (Cn, T, N)) {fs : List Value} (hfs : ∀ j, j < N → defaultValue (ty j) = vp_V fs j) (hcells : cells + 1 ≤ R.cells) (hslots : slots + N ≤ R.slots) (hdg : decode cc pc = .ok (.new index, 3))
    (kk : ∀ (H1 : Heap), va_at D vwCl (H.size, .inr (ci, fs)) H1 → H1.size = H.size + 1 → (∀ q, q < H.size → H1[q]? = H[q]?) → W p l e R s m args below meth c H1 locs (cells + 1) (slots + N) Q (F0 m (pc + 3) ls (.ref H.size :: rest))) : W p l e R s m args below meth c H locs cells slots Q (F0 m pc ls rest) := by
  have hKn := hK.1.1 ci _ hc
  exact W.newcK hexec hb hown hcl hinst hini rfl hdg hcells hslots hKn.2.1 rfl fun H1 kC hkC e1 z1 o1 => kk H1 ⟨_, hc, (u_born ty hts hin hKn hkC e1 hty).to hfs⟩ z1 o1
end PW5
