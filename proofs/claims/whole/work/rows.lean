section
-- ===== PART A: goes FIRST, ahead of the names: the tables' words, and 'selects' of the private methods out of them =====
/-- a private method of a class that the tables say can be made, by its rows of tables_1 -/
def lw_okq (q : MethodName × Nat) : Prop := (q.1.cls ≠ "java/lang/invoke/MethodHandle" ∧ q.1.cls ≠ "java/lang/invoke/VarHandle") ∧ Cond.instantiable q.1.cls q.2 ∈ tables_1 ∧ Cond.privateMethod q.1 ∈ tables_1 ∧ Cond.instanceMethod q.1 ∈ tables_1
theorem lw_p0 : lw_okq (⟨"PastDraws", "isState", "(I)Z"⟩, 5) := ⟨⟨by decide +kernel, by decide +kernel⟩, List.mem_of_getElem? (i := 12) (by decide +kernel), List.mem_of_getElem? (i := 179) (by decide +kernel), List.mem_of_getElem? (i := 180) (by decide +kernel)⟩
theorem lw_p1 : lw_okq (⟨"PastDraws$Chain", "lengthenMap", "(I)V"⟩, 7) := ⟨⟨by decide +kernel, by decide +kernel⟩, List.mem_of_getElem? (i := 26) (by decide +kernel), List.mem_of_getElem? (i := 209) (by decide +kernel), List.mem_of_getElem? (i := 210) (by decide +kernel)⟩
theorem lw_p2 : lw_okq (⟨"PastDraws$Chain", "mapMeets", "()Z"⟩, 7) := ⟨⟨by decide +kernel, by decide +kernel⟩, List.mem_of_getElem? (i := 26) (by decide +kernel), List.mem_of_getElem? (i := 216) (by decide +kernel), List.mem_of_getElem? (i := 217) (by decide +kernel)⟩
theorem lw_p3 : lw_okq (⟨"PastDraws$Chain", "boundsMeet", "(II)Z"⟩, 7) := ⟨⟨by decide +kernel, by decide +kernel⟩, List.mem_of_getElem? (i := 26) (by decide +kernel), List.mem_of_getElem? (i := 235) (by decide +kernel), List.mem_of_getElem? (i := 236) (by decide +kernel)⟩
theorem lw_p4 : lw_okq (⟨"PastDraws$Chain", "allStates", "()I"⟩, 7) := ⟨⟨by decide +kernel, by decide +kernel⟩, List.mem_of_getElem? (i := 26) (by decide +kernel), List.mem_of_getElem? (i := 258) (by decide +kernel), List.mem_of_getElem? (i := 259) (by decide +kernel)⟩
theorem lw_p5 : lw_okq (⟨"PastDraws$Chain", "lengthenRows", "()V"⟩, 7) := ⟨⟨by decide +kernel, by decide +kernel⟩, List.mem_of_getElem? (i := 26) (by decide +kernel), List.mem_of_getElem? (i := 262) (by decide +kernel), List.mem_of_getElem? (i := 263) (by decide +kernel)⟩
theorem lw_p6 : lw_okq (⟨"PastDraws$Chain", "imageOf", "(II)I"⟩, 7) := ⟨⟨by decide +kernel, by decide +kernel⟩, List.mem_of_getElem? (i := 26) (by decide +kernel), List.mem_of_getElem? (i := 266) (by decide +kernel), List.mem_of_getElem? (i := 267) (by decide +kernel)⟩
theorem lw_p7 : lw_okq (⟨"PastDraws$Chain", "fillMinorRow", "(II)V"⟩, 7) := ⟨⟨by decide +kernel, by decide +kernel⟩, List.mem_of_getElem? (i := 26) (by decide +kernel), List.mem_of_getElem? (i := 285) (by decide +kernel), List.mem_of_getElem? (i := 286) (by decide +kernel)⟩
theorem lw_p8 : lw_okq (⟨"PastDraws$Chain", "determinant", "(I)J"⟩, 7) := ⟨⟨by decide +kernel, by decide +kernel⟩, List.mem_of_getElem? (i := 26) (by decide +kernel), List.mem_of_getElem? (i := 295) (by decide +kernel), List.mem_of_getElem? (i := 296) (by decide +kernel)⟩
theorem lw_p9 : lw_okq (⟨"PastDraws$Chain", "blockMeets", "(III)Z"⟩, 7) := ⟨⟨by decide +kernel, by decide +kernel⟩, List.mem_of_getElem? (i := 26) (by decide +kernel), List.mem_of_getElem? (i := 308) (by decide +kernel), List.mem_of_getElem? (i := 309) (by decide +kernel)⟩
theorem lw_p10 : lw_okq (⟨"PastDraws$Chain", "throughBlock", "(IIII)I"⟩, 7) := ⟨⟨by decide +kernel, by decide +kernel⟩, List.mem_of_getElem? (i := 26) (by decide +kernel), List.mem_of_getElem? (i := 312) (by decide +kernel), List.mem_of_getElem? (i := 313) (by decide +kernel)⟩
theorem lw_p11 : lw_okq (⟨"PastDraws$Machine", "countBefore", "(III)J"⟩, 4) := ⟨⟨by decide +kernel, by decide +kernel⟩, List.mem_of_getElem? (i := 60) (by decide +kernel), List.mem_of_getElem? (i := 340) (by decide +kernel), List.mem_of_getElem? (i := 341) (by decide +kernel)⟩
theorem lw_p12 : lw_okq (⟨"PastDraws$Machine", "countWith", "(III)J"⟩, 4) := ⟨⟨by decide +kernel, by decide +kernel⟩, List.mem_of_getElem? (i := 60) (by decide +kernel), List.mem_of_getElem? (i := 344) (by decide +kernel), List.mem_of_getElem? (i := 345) (by decide +kernel)⟩
theorem lw_p13 : lw_okq (⟨"PastDraws$Machine", "letterAt", "(IJI)I"⟩, 4) := ⟨⟨by decide +kernel, by decide +kernel⟩, List.mem_of_getElem? (i := 60) (by decide +kernel), List.mem_of_getElem? (i := 356) (by decide +kernel), List.mem_of_getElem? (i := 357) (by decide +kernel)⟩
theorem lw_p14 : lw_okq (⟨"PastDraws$Orders", "waysBefore", "(III)I"⟩, 2) := ⟨⟨by decide +kernel, by decide +kernel⟩, List.mem_of_getElem? (i := 85) (by decide +kernel), List.mem_of_getElem? (i := 385) (by decide +kernel), List.mem_of_getElem? (i := 386) (by decide +kernel)⟩
theorem lw_p15 : lw_okq (⟨"PastDraws$Orders", "isFree", "(II)Z"⟩, 2) := ⟨⟨by decide +kernel, by decide +kernel⟩, List.mem_of_getElem? (i := 85) (by decide +kernel), List.mem_of_getElem? (i := 389) (by decide +kernel), List.mem_of_getElem? (i := 390) (by decide +kernel)⟩
def lw_privs_1 : List (MethodName × Nat) := [(⟨"PastDraws", "isState", "(I)Z"⟩, 5), (⟨"PastDraws$Chain", "lengthenMap", "(I)V"⟩, 7), (⟨"PastDraws$Chain", "mapMeets", "()Z"⟩, 7), (⟨"PastDraws$Chain", "boundsMeet", "(II)Z"⟩, 7), (⟨"PastDraws$Chain", "allStates", "()I"⟩, 7), (⟨"PastDraws$Chain", "lengthenRows", "()V"⟩, 7), (⟨"PastDraws$Chain", "imageOf", "(II)I"⟩, 7), (⟨"PastDraws$Chain", "fillMinorRow", "(II)V"⟩, 7), (⟨"PastDraws$Chain", "determinant", "(I)J"⟩, 7), (⟨"PastDraws$Chain", "blockMeets", "(III)Z"⟩, 7), (⟨"PastDraws$Chain", "throughBlock", "(IIII)I"⟩, 7), (⟨"PastDraws$Machine", "countBefore", "(III)J"⟩, 4), (⟨"PastDraws$Machine", "countWith", "(III)J"⟩, 4), (⟨"PastDraws$Machine", "letterAt", "(IJI)I"⟩, 4), (⟨"PastDraws$Orders", "waysBefore", "(III)I"⟩, 2), (⟨"PastDraws$Orders", "isFree", "(II)Z"⟩, 2)]
theorem lw_r1 : ∀ q ∈ lw_privs_1, lw_okq q := List.forall_mem_cons.mpr ⟨lw_p0, List.forall_mem_cons.mpr ⟨lw_p1, List.forall_mem_cons.mpr ⟨lw_p2, List.forall_mem_cons.mpr ⟨lw_p3, List.forall_mem_cons.mpr ⟨lw_p4, List.forall_mem_cons.mpr ⟨lw_p5, List.forall_mem_cons.mpr ⟨lw_p6, List.forall_mem_cons.mpr ⟨lw_p7, List.forall_mem_cons.mpr ⟨lw_p8, List.forall_mem_cons.mpr ⟨lw_p9, List.forall_mem_cons.mpr ⟨lw_p10, List.forall_mem_cons.mpr ⟨lw_p11, List.forall_mem_cons.mpr ⟨lw_p12, List.forall_mem_cons.mpr ⟨lw_p13, List.forall_mem_cons.mpr ⟨lw_p14, List.forall_mem_cons.mpr ⟨lw_p15, fun _ h => absurd h List.not_mem_nil⟩⟩⟩⟩⟩⟩⟩⟩⟩⟩⟩⟩⟩⟩⟩⟩
theorem lw_p16 : lw_okq (⟨"PastDraws$Orders", "nextNumber", "(III)I"⟩, 2) := ⟨⟨by decide +kernel, by decide +kernel⟩, List.mem_of_getElem? (i := 85) (by decide +kernel), List.mem_of_getElem? (i := 407) (by decide +kernel), List.mem_of_getElem? (i := 408) (by decide +kernel)⟩
theorem lw_p17 : lw_okq (⟨"PastDraws$Table", "firstUnder", "(I)I"⟩, 6) := ⟨⟨by decide +kernel, by decide +kernel⟩, List.mem_of_getElem? (i := 99) (by decide +kernel), List.mem_of_getElem? (i := 451) (by decide +kernel), List.mem_of_getElem? (i := 452) (by decide +kernel)⟩
theorem lw_p18 : lw_okq (⟨"PastDraws$Table", "firstOver", "(I)I"⟩, 6) := ⟨⟨by decide +kernel, by decide +kernel⟩, List.mem_of_getElem? (i := 99) (by decide +kernel), List.mem_of_getElem? (i := 455) (by decide +kernel), List.mem_of_getElem? (i := 456) (by decide +kernel)⟩
theorem lw_p19 : lw_okq (⟨"PastDrawsModel", "find", "(IJ)V"⟩, 20) := ⟨⟨by decide +kernel, by decide +kernel⟩, List.mem_of_getElem? (i := 481) (by decide +kernel), List.mem_of_getElem? (i := 564) (by decide +kernel), List.mem_of_getElem? (i := 565) (by decide +kernel)⟩
theorem lw_p20 : lw_okq (⟨"PastDrawsModel", "isState", "(I)Z"⟩, 20) := ⟨⟨by decide +kernel, by decide +kernel⟩, List.mem_of_getElem? (i := 481) (by decide +kernel), List.mem_of_getElem? (i := 578) (by decide +kernel), List.mem_of_getElem? (i := 579) (by decide +kernel)⟩
theorem lw_p21 : lw_okq (⟨"PastDrawsModel", "sign", "(II)I"⟩, 20) := ⟨⟨by decide +kernel, by decide +kernel⟩, List.mem_of_getElem? (i := 481) (by decide +kernel), List.mem_of_getElem? (i := 591) (by decide +kernel), List.mem_of_getElem? (i := 592) (by decide +kernel)⟩
theorem lw_p22 : lw_okq (⟨"PastDrawsModel", "begin", "()V"⟩, 20) := ⟨⟨by decide +kernel, by decide +kernel⟩, List.mem_of_getElem? (i := 481) (by decide +kernel), List.mem_of_getElem? (i := 599) (by decide +kernel), List.mem_of_getElem? (i := 600) (by decide +kernel)⟩
theorem lw_p23 : lw_okq (⟨"PastDrawsModel", "ahead", "(I)V"⟩, 20) := ⟨⟨by decide +kernel, by decide +kernel⟩, List.mem_of_getElem? (i := 481) (by decide +kernel), List.mem_of_getElem? (i := 603) (by decide +kernel), List.mem_of_getElem? (i := 604) (by decide +kernel)⟩
theorem lw_p24 : lw_okq (⟨"PastDrawsModel", "meets", "()Z"⟩, 20) := ⟨⟨by decide +kernel, by decide +kernel⟩, List.mem_of_getElem? (i := 481) (by decide +kernel), List.mem_of_getElem? (i := 607) (by decide +kernel), List.mem_of_getElem? (i := 608) (by decide +kernel)⟩
theorem lw_p25 : lw_okq (⟨"PastDrawsModel", "bound", "(III)I"⟩, 20) := ⟨⟨by decide +kernel, by decide +kernel⟩, List.mem_of_getElem? (i := 481) (by decide +kernel), List.mem_of_getElem? (i := 620) (by decide +kernel), List.mem_of_getElem? (i := 621) (by decide +kernel)⟩
theorem lw_p26 : lw_okq (⟨"PastDrawsModel", "behind", "(I)V"⟩, 20) := ⟨⟨by decide +kernel, by decide +kernel⟩, List.mem_of_getElem? (i := 481) (by decide +kernel), List.mem_of_getElem? (i := 633) (by decide +kernel), List.mem_of_getElem? (i := 634) (by decide +kernel)⟩
theorem lw_p27 : lw_okq (⟨"PastDrawsModel", "treesOf", "(I)J"⟩, 20) := ⟨⟨by decide +kernel, by decide +kernel⟩, List.mem_of_getElem? (i := 481) (by decide +kernel), List.mem_of_getElem? (i := 641) (by decide +kernel), List.mem_of_getElem? (i := 642) (by decide +kernel)⟩
theorem lw_p28 : lw_okq (⟨"PastDrawsModel", "cellOf", "(II)J"⟩, 20) := ⟨⟨by decide +kernel, by decide +kernel⟩, List.mem_of_getElem? (i := 481) (by decide +kernel), List.mem_of_getElem? (i := 645) (by decide +kernel), List.mem_of_getElem? (i := 646) (by decide +kernel)⟩
theorem lw_p29 : lw_okq (⟨"PastDrawsModel", "determinant", "(I)J"⟩, 20) := ⟨⟨by decide +kernel, by decide +kernel⟩, List.mem_of_getElem? (i := 481) (by decide +kernel), List.mem_of_getElem? (i := 649) (by decide +kernel), List.mem_of_getElem? (i := 650) (by decide +kernel)⟩
theorem lw_p30 : lw_okq (⟨"PastDrawsModel", "countWords", "(I)V"⟩, 20) := ⟨⟨by decide +kernel, by decide +kernel⟩, List.mem_of_getElem? (i := 481) (by decide +kernel), List.mem_of_getElem? (i := 672) (by decide +kernel), List.mem_of_getElem? (i := 673) (by decide +kernel)⟩
theorem lw_p31 : lw_okq (⟨"PastDrawsModel", "goesOn", "(III)J"⟩, 20) := ⟨⟨by decide +kernel, by decide +kernel⟩, List.mem_of_getElem? (i := 481) (by decide +kernel), List.mem_of_getElem? (i := 680) (by decide +kernel), List.mem_of_getElem? (i := 681) (by decide +kernel)⟩
def lw_privs_2 : List (MethodName × Nat) := [(⟨"PastDraws$Orders", "nextNumber", "(III)I"⟩, 2), (⟨"PastDraws$Table", "firstUnder", "(I)I"⟩, 6), (⟨"PastDraws$Table", "firstOver", "(I)I"⟩, 6), (⟨"PastDrawsModel", "find", "(IJ)V"⟩, 20), (⟨"PastDrawsModel", "isState", "(I)Z"⟩, 20), (⟨"PastDrawsModel", "sign", "(II)I"⟩, 20), (⟨"PastDrawsModel", "begin", "()V"⟩, 20), (⟨"PastDrawsModel", "ahead", "(I)V"⟩, 20), (⟨"PastDrawsModel", "meets", "()Z"⟩, 20), (⟨"PastDrawsModel", "bound", "(III)I"⟩, 20), (⟨"PastDrawsModel", "behind", "(I)V"⟩, 20), (⟨"PastDrawsModel", "treesOf", "(I)J"⟩, 20), (⟨"PastDrawsModel", "cellOf", "(II)J"⟩, 20), (⟨"PastDrawsModel", "determinant", "(I)J"⟩, 20), (⟨"PastDrawsModel", "countWords", "(I)V"⟩, 20), (⟨"PastDrawsModel", "goesOn", "(III)J"⟩, 20)]
theorem lw_r2 : ∀ q ∈ lw_privs_2, lw_okq q := List.forall_mem_cons.mpr ⟨lw_p16, List.forall_mem_cons.mpr ⟨lw_p17, List.forall_mem_cons.mpr ⟨lw_p18, List.forall_mem_cons.mpr ⟨lw_p19, List.forall_mem_cons.mpr ⟨lw_p20, List.forall_mem_cons.mpr ⟨lw_p21, List.forall_mem_cons.mpr ⟨lw_p22, List.forall_mem_cons.mpr ⟨lw_p23, List.forall_mem_cons.mpr ⟨lw_p24, List.forall_mem_cons.mpr ⟨lw_p25, List.forall_mem_cons.mpr ⟨lw_p26, List.forall_mem_cons.mpr ⟨lw_p27, List.forall_mem_cons.mpr ⟨lw_p28, List.forall_mem_cons.mpr ⟨lw_p29, List.forall_mem_cons.mpr ⟨lw_p30, List.forall_mem_cons.mpr ⟨lw_p31, fun _ h => absurd h List.not_mem_nil⟩⟩⟩⟩⟩⟩⟩⟩⟩⟩⟩⟩⟩⟩⟩⟩
theorem lw_p32 : lw_okq (⟨"PastDrawsModel", "countWays", "(I)V"⟩, 20) := ⟨⟨by decide +kernel, by decide +kernel⟩, List.mem_of_getElem? (i := 481) (by decide +kernel), List.mem_of_getElem? (i := 698) (by decide +kernel), List.mem_of_getElem? (i := 699) (by decide +kernel)⟩
theorem lw_p33 : lw_okq (⟨"PastDrawsModel", "wayOn", "(III)I"⟩, 20) := ⟨⟨by decide +kernel, by decide +kernel⟩, List.mem_of_getElem? (i := 481) (by decide +kernel), List.mem_of_getElem? (i := 706) (by decide +kernel), List.mem_of_getElem? (i := 707) (by decide +kernel)⟩
theorem lw_p34 : lw_okq (⟨"PastDrawsModel", "isThing", "(I)Z"⟩, 20) := ⟨⟨by decide +kernel, by decide +kernel⟩, List.mem_of_getElem? (i := 481) (by decide +kernel), List.mem_of_getElem? (i := 723) (by decide +kernel), List.mem_of_getElem? (i := 724) (by decide +kernel)⟩
theorem lw_p35 : lw_okq (⟨"PastDrawsModel", "sum", "()I"⟩, 20) := ⟨⟨by decide +kernel, by decide +kernel⟩, List.mem_of_getElem? (i := 481) (by decide +kernel), List.mem_of_getElem? (i := 733) (by decide +kernel), List.mem_of_getElem? (i := 734) (by decide +kernel)⟩
theorem lw_p36 : lw_okq (⟨"PastDrawsModel", "make", "()V"⟩, 20) := ⟨⟨by decide +kernel, by decide +kernel⟩, List.mem_of_getElem? (i := 481) (by decide +kernel), List.mem_of_getElem? (i := 737) (by decide +kernel), List.mem_of_getElem? (i := 738) (by decide +kernel)⟩
theorem lw_p37 : lw_okq (⟨"PastDrawsModel", "first", "(IZ)I"⟩, 20) := ⟨⟨by decide +kernel, by decide +kernel⟩, List.mem_of_getElem? (i := 481) (by decide +kernel), List.mem_of_getElem? (i := 741) (by decide +kernel), List.mem_of_getElem? (i := 742) (by decide +kernel)⟩
def lw_privs_3 : List (MethodName × Nat) := [(⟨"PastDrawsModel", "countWays", "(I)V"⟩, 20), (⟨"PastDrawsModel", "wayOn", "(III)I"⟩, 20), (⟨"PastDrawsModel", "isThing", "(I)Z"⟩, 20), (⟨"PastDrawsModel", "sum", "()I"⟩, 20), (⟨"PastDrawsModel", "make", "()V"⟩, 20), (⟨"PastDrawsModel", "first", "(IZ)I"⟩, 20)]
theorem lw_r3 : ∀ q ∈ lw_privs_3, lw_okq q := List.forall_mem_cons.mpr ⟨lw_p32, List.forall_mem_cons.mpr ⟨lw_p33, List.forall_mem_cons.mpr ⟨lw_p34, List.forall_mem_cons.mpr ⟨lw_p35, List.forall_mem_cons.mpr ⟨lw_p36, List.forall_mem_cons.mpr ⟨lw_p37, fun _ h => absurd h List.not_mem_nil⟩⟩⟩⟩⟩⟩
def lw_privs : List (MethodName × Nat) := lw_privs_1 ++ (lw_privs_2 ++ (lw_privs_3))
def lw_tbl : List Cond := k2_sels lw_privs ++ tables_1
theorem lw_privs_ok : ∀ q ∈ lw_privs, lw_okq q := by
  show ∀ q ∈ lw_privs_1 ++ (lw_privs_2 ++ (lw_privs_3)), lw_okq q
  exact List.forall_mem_append.mpr ⟨lw_r1, List.forall_mem_append.mpr ⟨lw_r2, lw_r3⟩⟩
/-! ===== BEGIN words of one list among another's, by their places ===== -/
theorem goodIn_r {big : List Cond} (ws : List Cond) (ps : List Nat) (hp : ws = ps.filterMap (fun i => big[i]?)) (h : ws.all goodWord = true) : GoodIn big ws := by
  intro w hw
  have h1 := List.all_eq_true.mp h w hw
  rw [hp] at hw
  obtain ⟨i, -, hi⟩ := List.mem_filterMap.mp hw
  have hm : w ∈ big := by first | exact List.mem_of_getElem? hi | exact List.getElem?_mem hi
  exact ⟨hm, good_of_word h1⟩
theorem goodIn_app {big a b : List Cond} (ha : GoodIn big a) (hb : GoodIn big b) : GoodIn big (a ++ b) := fun w h => (List.mem_append.mp h).elim (ha w) (hb w)
theorem goodIn_ca {big a b : List Cond} {c : Cond} (ha : GoodIn big (c :: a)) (hb : GoodIn big b) : GoodIn big (c :: (a ++ b)) := fun w h => (List.mem_cons.mp h).elim (fun e => ha w (List.mem_cons.mpr (Or.inl e))) (fun h => (List.mem_append.mp h).elim (fun h => ha w (List.mem_cons.mpr (Or.inr h))) (hb w))
theorem goodIn_sub {big ws : List Cond} (hm : ∀ w ∈ ws, w ∈ big) (h : ws.all goodWord = true) : GoodIn big ws := fun w hw => ⟨hm w hw, good_of_word (List.all_eq_true.mp h w hw)⟩
/-! ===== END ===== -/
/-! ===== BEGIN printed: names, fields, word lists, decode rows ===== -/
def RX0 : String := "PastDraws$Chain"
def TX0 : u_T := fun k => match k with
  | 0 => ("PastDraws$Chain", "n", "I", true)
  | 1 => ("PastDraws$Chain", "next", "[[I", true)
  | 2 => ("PastDraws$Chain", "map", "[I", true)
  | 3 => ("PastDraws$Chain", "longerMap", "[I", true)
  | 4 => ("PastDraws$Chain", "rowsTo", "[I", true)
  | 5 => ("PastDraws$Chain", "longerRowsTo", "[I", true)
  | _ => ("PastDraws$Chain", "minor", "[[J", true)
def tyX0 : Nat → FieldType := fun k => match k with
  | 0 => .int
  | 1 => .array (.array .int)
  | 2 => .array .int
  | 3 => .array .int
  | 4 => .array .int
  | 5 => .array .int
  | _ => .array (.array .long)
abbrev wsX00 : List Cond := u_ws RX0 TX0 7
theorem nmX0 : ∀ a, a < 7 → ∀ b, b < 7 → a ≠ b → (TX0 a).2.1 ≠ (TX0 b).2.1 := by decide +kernel
theorem tyX0_ok : ∀ k, k < 7 → parseFieldDescriptor (TX0 k).2.2.1 = some (tyX0 k) := by decide +kernel
abbrev cX0_init : ByteArray := prog_2_method_1_code
def yX0_init : MethodName := ⟨RX0, "<init>", "(I)V"⟩
abbrev cX0_setStep : ByteArray := prog_2_method_2_code
def yX0_setStep : MethodName := ⟨RX0, "setStep", "(III)I"⟩
abbrev cX0_throughPast : ByteArray := prog_2_method_3_code
def yX0_throughPast : MethodName := ⟨RX0, "throughPast", "(III)I"⟩
abbrev cX0_leastMeeting : ByteArray := prog_2_method_4_code
def yX0_leastMeeting : MethodName := ⟨RX0, "leastMeeting", "(II)I"⟩
abbrev cX0_lengthenMap : ByteArray := prog_2_method_5_code
def yX0_lengthenMap : MethodName := ⟨RX0, "lengthenMap", "(I)V"⟩
abbrev cX0_mapMeets : ByteArray := prog_2_method_6_code
def yX0_mapMeets : MethodName := ⟨RX0, "mapMeets", "()Z"⟩
abbrev cX0_leastBounded : ByteArray := prog_2_method_7_code
def yX0_leastBounded : MethodName := ⟨RX0, "leastBounded", "(II)I"⟩
abbrev cX0_boundsMeet : ByteArray := prog_2_method_8_code
def yX0_boundsMeet : MethodName := ⟨RX0, "boundsMeet", "(II)Z"⟩
abbrev cX0_keepsOrder : ByteArray := prog_2_method_9_code
def yX0_keepsOrder : MethodName := ⟨RX0, "keepsOrder", "()Z"⟩
abbrev cX0_allStates : ByteArray := prog_2_method_10_code
def yX0_allStates : MethodName := ⟨RX0, "allStates", "()I"⟩
abbrev cX0_imageOf : ByteArray := prog_2_method_11_code
def yX0_imageOf : MethodName := ⟨RX0, "imageOf", "(II)I"⟩
abbrev cX0_isSingle : ByteArray := prog_2_method_12_code
def yX0_isSingle : MethodName := ⟨RX0, "isSingle", "(I)Z"⟩
abbrev cX0_rowsMeeting : ByteArray := prog_2_method_13_code
def yX0_rowsMeeting : MethodName := ⟨RX0, "rowsMeeting", "(II)I"⟩
abbrev cX0_lengthenRows : ByteArray := prog_2_method_14_code
def yX0_lengthenRows : MethodName := ⟨RX0, "lengthenRows", "()V"⟩
abbrev cX0_allTrees : ByteArray := prog_2_method_15_code
def yX0_allTrees : MethodName := ⟨RX0, "allTrees", "()J"⟩
abbrev cX0_treesTo : ByteArray := prog_2_method_16_code
def yX0_treesTo : MethodName := ⟨RX0, "treesTo", "(I)J"⟩
abbrev cX0_fillMinorRow : ByteArray := prog_2_method_17_code
def yX0_fillMinorRow : MethodName := ⟨RX0, "fillMinorRow", "(II)V"⟩
abbrev cX0_indexWithout : ByteArray := prog_2_method_18_code
def yX0_indexWithout : MethodName := ⟨RX0, "indexWithout", "(II)I"⟩
abbrev cX0_determinant : ByteArray := prog_2_method_19_code
def yX0_determinant : MethodName := ⟨RX0, "determinant", "(I)J"⟩
abbrev cX0_drawOf : ByteArray := prog_2_method_20_code
def yX0_drawOf : MethodName := ⟨RX0, "drawOf", "(III)I"⟩
abbrev cX0_blockMeets : ByteArray := prog_2_method_21_code
def yX0_blockMeets : MethodName := ⟨RX0, "blockMeets", "(III)Z"⟩
abbrev cX0_throughBlock : ByteArray := prog_2_method_22_code
def yX0_throughBlock : MethodName := ⟨RX0, "throughBlock", "(IIII)I"⟩
def RX1 : String := "PastDraws$Machine"
def TX1 : u_T := fun k => match k with
  | 0 => ("PastDraws$Machine", "n", "I", true)
  | 1 => ("PastDraws$Machine", "next", "[[I", true)
  | 2 => ("PastDraws$Machine", "ends", "[Z", true)
  | _ => ("PastDraws$Machine", "counts", "[[J", true)
def tyX1 : Nat → FieldType := fun k => match k with
  | 0 => .int
  | 1 => .array (.array .int)
  | 2 => .array .boolean
  | _ => .array (.array .long)
abbrev wsX10 : List Cond := u_ws RX1 TX1 4
theorem nmX1 : ∀ a, a < 4 → ∀ b, b < 4 → a ≠ b → (TX1 a).2.1 ≠ (TX1 b).2.1 := by decide +kernel
theorem tyX1_ok : ∀ k, k < 4 → parseFieldDescriptor (TX1 k).2.2.1 = some (tyX1 k) := by decide +kernel
abbrev cX1_init : ByteArray := prog_3_method_1_code
def yX1_init : MethodName := ⟨RX1, "<init>", "(I)V"⟩
abbrev cX1_setStep : ByteArray := prog_3_method_2_code
def yX1_setStep : MethodName := ⟨RX1, "setStep", "(III)I"⟩
abbrev cX1_setEnd : ByteArray := prog_3_method_3_code
def yX1_setEnd : MethodName := ⟨RX1, "setEnd", "(IZ)Z"⟩
abbrev cX1_countAll : ByteArray := prog_3_method_4_code
def yX1_countAll : MethodName := ⟨RX1, "countAll", "(I)J"⟩
abbrev cX1_countBefore : ByteArray := prog_3_method_5_code
def yX1_countBefore : MethodName := ⟨RX1, "countBefore", "(III)J"⟩
abbrev cX1_countWith : ByteArray := prog_3_method_6_code
def yX1_countWith : MethodName := ⟨RX1, "countWith", "(III)J"⟩
abbrev cX1_letterOf : ByteArray := prog_3_method_7_code
def yX1_letterOf : MethodName := ⟨RX1, "letterOf", "(IJI)I"⟩
abbrev cX1_letterAt : ByteArray := prog_3_method_8_code
def yX1_letterAt : MethodName := ⟨RX1, "letterAt", "(IJI)I"⟩
abbrev cX1_numberOf : ByteArray := prog_3_method_9_code
def yX1_numberOf : MethodName := ⟨RX1, "numberOf", "(IJ)J"⟩
def RX2 : String := "PastDraws$Orders"
def TX2 : u_T := fun k => match k with
  | 0 => ("PastDraws$Orders", "allowed", "[I", true)
  | _ => ("PastDraws$Orders", "ways", "[I", true)
def tyX2 : Nat → FieldType := fun k => match k with
  | 0 => .array .int
  | _ => .array .int
abbrev wsX20 : List Cond := u_ws RX2 TX2 2
theorem nmX2 : ∀ a, a < 2 → ∀ b, b < 2 → a ≠ b → (TX2 a).2.1 ≠ (TX2 b).2.1 := by decide +kernel
theorem tyX2_ok : ∀ k, k < 2 → parseFieldDescriptor (TX2 k).2.2.1 = some (tyX2 k) := by decide +kernel
abbrev cX2_init : ByteArray := prog_4_method_1_code
def yX2_init : MethodName := ⟨RX2, "<init>", "()V"⟩
abbrev cX2_setAllowed : ByteArray := prog_4_method_2_code
def yX2_setAllowed : MethodName := ⟨RX2, "setAllowed", "(IIZ)Z"⟩
abbrev cX2_countAll : ByteArray := prog_4_method_3_code
def yX2_countAll : MethodName := ⟨RX2, "countAll", "(I)I"⟩
abbrev cX2_isFree : ByteArray := prog_4_method_4_code
def yX2_isFree : MethodName := ⟨RX2, "isFree", "(II)Z"⟩
abbrev cX2_waysBefore : ByteArray := prog_4_method_5_code
def yX2_waysBefore : MethodName := ⟨RX2, "waysBefore", "(III)I"⟩
abbrev cX2_atPlace : ByteArray := prog_4_method_6_code
def yX2_atPlace : MethodName := ⟨RX2, "atPlace", "(III)I"⟩
abbrev cX2_nextNumber : ByteArray := prog_4_method_7_code
def yX2_nextNumber : MethodName := ⟨RX2, "nextNumber", "(III)I"⟩
abbrev cX2_numberOf : ByteArray := prog_4_method_8_code
def yX2_numberOf : MethodName := ⟨RX2, "numberOf", "(II)I"⟩
def RX3 : String := "PastDraws$Table"
def TX3 : u_T := fun k => match k with
  | 0 => ("PastDraws$Table", "weights", "[I", true)
  | 1 => ("PastDraws$Table", "rest", "[I", true)
  | 2 => ("PastDraws$Table", "limit", "[I", true)
  | 3 => ("PastDraws$Table", "other", "[I", true)
  | 4 => ("PastDraws$Table", "isMade", "[Z", true)
  | _ => ("PastDraws$Table", "m", "I", false)
def tyX3 : Nat → FieldType := fun k => match k with
  | 0 => .array .int
  | 1 => .array .int
  | 2 => .array .int
  | 3 => .array .int
  | 4 => .array .boolean
  | _ => .int
abbrev wsX30 : List Cond := u_ws RX3 TX3 6
theorem nmX3 : ∀ a, a < 6 → ∀ b, b < 6 → a ≠ b → (TX3 a).2.1 ≠ (TX3 b).2.1 := by decide +kernel
theorem tyX3_ok : ∀ k, k < 6 → parseFieldDescriptor (TX3 k).2.2.1 = some (tyX3 k) := by decide +kernel
abbrev cX3_init : ByteArray := prog_5_method_1_code
def yX3_init : MethodName := ⟨RX3, "<init>", "()V"⟩
abbrev cX3_isThing : ByteArray := prog_5_method_2_code
def yX3_isThing : MethodName := ⟨RX3, "isThing", "(I)Z"⟩
abbrev cX3_setThings : ByteArray := prog_5_method_3_code
def yX3_setThings : MethodName := ⟨RX3, "setThings", "(I)I"⟩
abbrev cX3_setWeight : ByteArray := prog_5_method_4_code
def yX3_setWeight : MethodName := ⟨RX3, "setWeight", "(II)I"⟩
abbrev cX3_sum : ByteArray := prog_5_method_5_code
def yX3_sum : MethodName := ⟨RX3, "sum", "()I"⟩
abbrev cX3_make : ByteArray := prog_5_method_6_code
def yX3_make : MethodName := ⟨RX3, "make", "(I)V"⟩
abbrev cX3_firstUnder : ByteArray := prog_5_method_7_code
def yX3_firstUnder : MethodName := ⟨RX3, "firstUnder", "(I)I"⟩
abbrev cX3_firstOver : ByteArray := prog_5_method_8_code
def yX3_firstOver : MethodName := ⟨RX3, "firstOver", "(I)I"⟩
abbrev cX3_limitOf : ByteArray := prog_5_method_9_code
def yX3_limitOf : MethodName := ⟨RX3, "limitOf", "(I)I"⟩
abbrev cX3_otherOf : ByteArray := prog_5_method_10_code
def yX3_otherOf : MethodName := ⟨RX3, "otherOf", "(I)I"⟩
abbrev cX3_thingAt : ByteArray := prog_5_method_11_code
def yX3_thingAt : MethodName := ⟨RX3, "thingAt", "(II)I"⟩
def RX4 : String := "PastDraws"
def TX4 : u_T := fun k => match k with
  | 0 => ("PastDraws", "stateCount", "I", true)
  | 1 => ("PastDraws", "chain", "LPastDraws$Chain;", true)
  | 2 => ("PastDraws", "machine", "LPastDraws$Machine;", true)
  | 3 => ("PastDraws", "orders", "LPastDraws$Orders;", true)
  | _ => ("PastDraws", "table", "LPastDraws$Table;", true)
def tyX4 : Nat → FieldType := fun k => match k with
  | 0 => .int
  | 1 => .object "PastDraws$Chain"
  | 2 => .object "PastDraws$Machine"
  | 3 => .object "PastDraws$Orders"
  | _ => .object "PastDraws$Table"
abbrev wsX40 : List Cond := u_ws RX4 TX4 5
theorem nmX4 : ∀ a, a < 5 → ∀ b, b < 5 → a ≠ b → (TX4 a).2.1 ≠ (TX4 b).2.1 := by decide +kernel
theorem tyX4_ok : ∀ k, k < 5 → parseFieldDescriptor (TX4 k).2.2.1 = some (tyX4 k) := by decide +kernel
abbrev cX4_init : ByteArray := prog_1_method_1_code
def yX4_init : MethodName := ⟨RX4, "<init>", "(I)V"⟩
abbrev cX4_hash : ByteArray := prog_1_method_2_code
def yX4_hash : MethodName := ⟨RX4, "hash", "(II)I"⟩
abbrev cX4_pick : ByteArray := prog_1_method_3_code
def yX4_pick : MethodName := ⟨RX4, "pick", "(IJ)J"⟩
abbrev cX4_tries : ByteArray := prog_1_method_4_code
def yX4_tries : MethodName := ⟨RX4, "tries", "(IJ)I"⟩
abbrev cX4_rule : ByteArray := prog_1_method_5_code
def yX4_rule : MethodName := ⟨RX4, "rule", "(III)I"⟩
abbrev cX4_taken : ByteArray := prog_1_method_6_code
def yX4_taken : MethodName := ⟨RX4, "taken", "(III)I"⟩
abbrev cX4_past : ByteArray := prog_1_method_7_code
def yX4_past : MethodName := ⟨RX4, "past", "(II)I"⟩
abbrev cX4_fold : ByteArray := prog_1_method_8_code
def yX4_fold : MethodName := ⟨RX4, "fold", "(II)I"⟩
abbrev cX4_bounding : ByteArray := prog_1_method_9_code
def yX4_bounding : MethodName := ⟨RX4, "bounding", "(II)I"⟩
abbrev cX4_monotone : ByteArray := prog_1_method_10_code
def yX4_monotone : MethodName := ⟨RX4, "monotone", "()I"⟩
abbrev cX4_counted : ByteArray := prog_1_method_11_code
def yX4_counted : MethodName := ⟨RX4, "counted", "(II)I"⟩
abbrev cX4_trees : ByteArray := prog_1_method_12_code
def yX4_trees : MethodName := ⟨RX4, "trees", "(I)J"⟩
abbrev cX4_once : ByteArray := prog_1_method_13_code
def yX4_once : MethodName := ⟨RX4, "once", "(III)I"⟩
abbrev cX4_lead : ByteArray := prog_1_method_14_code
def yX4_lead : MethodName := ⟨RX4, "lead", "(III)I"⟩
abbrev cX4_end : ByteArray := prog_1_method_15_code
def yX4_end : MethodName := ⟨RX4, "end", "(IZ)I"⟩
abbrev cX4_words : ByteArray := prog_1_method_16_code
def yX4_words : MethodName := ⟨RX4, "words", "(I)J"⟩
abbrev cX4_word : ByteArray := prog_1_method_17_code
def yX4_word : MethodName := ⟨RX4, "word", "(IJI)I"⟩
abbrev cX4_rank : ByteArray := prog_1_method_18_code
def yX4_rank : MethodName := ⟨RX4, "rank", "(IJ)J"⟩
abbrev cX4_allow : ByteArray := prog_1_method_19_code
def yX4_allow : MethodName := ⟨RX4, "allow", "(IIZ)I"⟩
abbrev cX4_permutations : ByteArray := prog_1_method_20_code
def yX4_permutations : MethodName := ⟨RX4, "permutations", "(I)I"⟩
abbrev cX4_permutation : ByteArray := prog_1_method_21_code
def yX4_permutation : MethodName := ⟨RX4, "permutation", "(III)I"⟩
abbrev cX4_place : ByteArray := prog_1_method_22_code
def yX4_place : MethodName := ⟨RX4, "place", "(II)I"⟩
abbrev cX4_things : ByteArray := prog_1_method_23_code
def yX4_things : MethodName := ⟨RX4, "things", "(I)I"⟩
abbrev cX4_weight : ByteArray := prog_1_method_24_code
def yX4_weight : MethodName := ⟨RX4, "weight", "(II)I"⟩
abbrev cX4_cell : ByteArray := prog_1_method_25_code
def yX4_cell : MethodName := ⟨RX4, "cell", "(II)I"⟩
abbrev cX4_tell : ByteArray := prog_1_method_26_code
def yX4_tell : MethodName := ⟨RX4, "tell", "(I)I"⟩
abbrev cX4_isState : ByteArray := prog_1_method_27_code
def yX4_isState : MethodName := ⟨RX4, "isState", "(I)Z"⟩
abbrev cX4_isWithin : ByteArray := prog_1_method_28_code
def yX4_isWithin : MethodName := ⟨RX4, "isWithin", "(III)Z"⟩
abbrev cX4_isBound : ByteArray := prog_1_method_29_code
def yX4_isBound : MethodName := ⟨RX4, "isBound", "(J)Z"⟩
abbrev cX4_mixed : ByteArray := prog_1_method_30_code
def yX4_mixed : MethodName := ⟨RX4, "mixed", "(II)I"⟩
abbrev cX4_signAt : ByteArray := prog_1_method_31_code
def yX4_signAt : MethodName := ⟨RX4, "signAt", "(II)I"⟩
abbrev cX4_bitsFor : ByteArray := prog_1_method_32_code
def yX4_bitsFor : MethodName := ⟨RX4, "bitsFor", "(J)I"⟩
abbrev cX4_powerFrom : ByteArray := prog_1_method_33_code
def yX4_powerFrom : MethodName := ⟨RX4, "powerFrom", "(I)I"⟩
abbrev cX4_topBits : ByteArray := prog_1_method_34_code
def yX4_topBits : MethodName := ⟨RX4, "topBits", "(III)J"⟩
abbrev cX4_firstBelow : ByteArray := prog_1_method_35_code
def yX4_firstBelow : MethodName := ⟨RX4, "firstBelow", "(IJI)I"⟩
def RX5 : String := "PastDrawsModel"
def TX5 : u_T := fun k => match k with
  | 0 => ("PastDrawsModel", "n", "I", true)
  | 1 => ("PastDrawsModel", "rules", "[I", true)
  | 2 => ("PastDrawsModel", "leads", "[I", true)
  | 3 => ("PastDrawsModel", "isEnd", "[Z", true)
  | 4 => ("PastDrawsModel", "isAllowed", "[Z", true)
  | 5 => ("PastDrawsModel", "things", "I", false)
  | 6 => ("PastDrawsModel", "weights", "[I", true)
  | 7 => ("PastDrawsModel", "picked", "J", false)
  | 8 => ("PastDrawsModel", "tried", "I", false)
  | 9 => ("PastDrawsModel", "whole", "[I", true)
  | 10 => ("PastDrawsModel", "next", "[I", true)
  | 11 => ("PastDrawsModel", "bounds", "[I", true)
  | 12 => ("PastDrawsModel", "nextBounds", "[I", true)
  | 13 => ("PastDrawsModel", "cells", "[J", true)
  | 14 => ("PastDrawsModel", "from", "[J", true)
  | 15 => ("PastDrawsModel", "ways", "[I", true)
  | 16 => ("PastDrawsModel", "limit", "[I", true)
  | 17 => ("PastDrawsModel", "other", "[I", true)
  | 18 => ("PastDrawsModel", "rest", "[I", true)
  | _ => ("PastDrawsModel", "isMade", "[Z", true)
def tyX5 : Nat → FieldType := fun k => match k with
  | 0 => .int
  | 1 => .array .int
  | 2 => .array .int
  | 3 => .array .boolean
  | 4 => .array .boolean
  | 5 => .int
  | 6 => .array .int
  | 7 => .long
  | 8 => .int
  | 9 => .array .int
  | 10 => .array .int
  | 11 => .array .int
  | 12 => .array .int
  | 13 => .array .long
  | 14 => .array .long
  | 15 => .array .int
  | 16 => .array .int
  | 17 => .array .int
  | 18 => .array .int
  | _ => .array .boolean
abbrev wsX50 : List Cond := u_ws RX5 TX5 20
theorem nmX5 : ∀ a, a < 20 → ∀ b, b < 20 → a ≠ b → (TX5 a).2.1 ≠ (TX5 b).2.1 := by decide +kernel
theorem tyX5_ok : ∀ k, k < 20 → parseFieldDescriptor (TX5 k).2.2.1 = some (tyX5 k) := by decide +kernel
abbrev cX5_init : ByteArray := prog_7_method_1_code
def yX5_init : MethodName := ⟨RX5, "<init>", "(I)V"⟩
abbrev cX5_in : ByteArray := prog_7_method_2_code
def yX5_in : MethodName := ⟨RX5, "in", "(JJJ)Z"⟩
abbrev cX5_isState : ByteArray := prog_7_method_3_code
def yX5_isState : MethodName := ⟨RX5, "isState", "(I)Z"⟩
abbrev cX5_hash : ByteArray := prog_7_method_4_code
def yX5_hash : MethodName := ⟨RX5, "hash", "(II)I"⟩
abbrev cX5_sign : ByteArray := prog_7_method_5_code
def yX5_sign : MethodName := ⟨RX5, "sign", "(II)I"⟩
abbrev cX5_find : ByteArray := prog_7_method_6_code
def yX5_find : MethodName := ⟨RX5, "find", "(IJ)V"⟩
abbrev cX5_pick : ByteArray := prog_7_method_7_code
def yX5_pick : MethodName := ⟨RX5, "pick", "(IJ)J"⟩
abbrev cX5_tries : ByteArray := prog_7_method_8_code
def yX5_tries : MethodName := ⟨RX5, "tries", "(IJ)I"⟩
abbrev cX5_rule : ByteArray := prog_7_method_9_code
def yX5_rule : MethodName := ⟨RX5, "rule", "(III)I"⟩
abbrev cX5_isLong : ByteArray := prog_7_method_10_code
def yX5_isLong : MethodName := ⟨RX5, "isLong", "(I)Z"⟩
abbrev cX5_taken : ByteArray := prog_7_method_11_code
def yX5_taken : MethodName := ⟨RX5, "taken", "(III)I"⟩
abbrev cX5_begin : ByteArray := prog_7_method_12_code
def yX5_begin : MethodName := ⟨RX5, "begin", "()V"⟩
abbrev cX5_ahead : ByteArray := prog_7_method_13_code
def yX5_ahead : MethodName := ⟨RX5, "ahead", "(I)V"⟩
abbrev cX5_behind : ByteArray := prog_7_method_14_code
def yX5_behind : MethodName := ⟨RX5, "behind", "(I)V"⟩
abbrev cX5_meets : ByteArray := prog_7_method_15_code
def yX5_meets : MethodName := ⟨RX5, "meets", "()Z"⟩
abbrev cX5_past : ByteArray := prog_7_method_16_code
def yX5_past : MethodName := ⟨RX5, "past", "(II)I"⟩
abbrev cX5_fold : ByteArray := prog_7_method_17_code
def yX5_fold : MethodName := ⟨RX5, "fold", "(II)I"⟩
abbrev cX5_bound : ByteArray := prog_7_method_18_code
def yX5_bound : MethodName := ⟨RX5, "bound", "(III)I"⟩
abbrev cX5_bounding : ByteArray := prog_7_method_19_code
def yX5_bounding : MethodName := ⟨RX5, "bounding", "(II)I"⟩
abbrev cX5_monotone : ByteArray := prog_7_method_20_code
def yX5_monotone : MethodName := ⟨RX5, "monotone", "()I"⟩
abbrev cX5_counted : ByteArray := prog_7_method_21_code
def yX5_counted : MethodName := ⟨RX5, "counted", "(II)I"⟩
abbrev cX5_treesOf : ByteArray := prog_7_method_22_code
def yX5_treesOf : MethodName := ⟨RX5, "treesOf", "(I)J"⟩
abbrev cX5_cellOf : ByteArray := prog_7_method_23_code
def yX5_cellOf : MethodName := ⟨RX5, "cellOf", "(II)J"⟩
abbrev cX5_determinant : ByteArray := prog_7_method_24_code
def yX5_determinant : MethodName := ⟨RX5, "determinant", "(I)J"⟩
abbrev cX5_trees : ByteArray := prog_7_method_25_code
def yX5_trees : MethodName := ⟨RX5, "trees", "(I)J"⟩
abbrev cX5_once : ByteArray := prog_7_method_26_code
def yX5_once : MethodName := ⟨RX5, "once", "(III)I"⟩
abbrev cX5_lead : ByteArray := prog_7_method_27_code
def yX5_lead : MethodName := ⟨RX5, "lead", "(III)I"⟩
abbrev cX5_end : ByteArray := prog_7_method_28_code
def yX5_end : MethodName := ⟨RX5, "end", "(IZ)I"⟩
abbrev cX5_countWords : ByteArray := prog_7_method_29_code
def yX5_countWords : MethodName := ⟨RX5, "countWords", "(I)V"⟩
abbrev cX5_words : ByteArray := prog_7_method_30_code
def yX5_words : MethodName := ⟨RX5, "words", "(I)J"⟩
abbrev cX5_word : ByteArray := prog_7_method_31_code
def yX5_word : MethodName := ⟨RX5, "word", "(IJI)I"⟩
abbrev cX5_goesOn : ByteArray := prog_7_method_32_code
def yX5_goesOn : MethodName := ⟨RX5, "goesOn", "(III)J"⟩
abbrev cX5_rank : ByteArray := prog_7_method_33_code
def yX5_rank : MethodName := ⟨RX5, "rank", "(IJ)J"⟩
abbrev cX5_allow : ByteArray := prog_7_method_34_code
def yX5_allow : MethodName := ⟨RX5, "allow", "(IIZ)I"⟩
abbrev cX5_countWays : ByteArray := prog_7_method_35_code
def yX5_countWays : MethodName := ⟨RX5, "countWays", "(I)V"⟩
abbrev cX5_wayOn : ByteArray := prog_7_method_36_code
def yX5_wayOn : MethodName := ⟨RX5, "wayOn", "(III)I"⟩
abbrev cX5_permutations : ByteArray := prog_7_method_37_code
def yX5_permutations : MethodName := ⟨RX5, "permutations", "(I)I"⟩
abbrev cX5_permutation : ByteArray := prog_7_method_38_code
def yX5_permutation : MethodName := ⟨RX5, "permutation", "(III)I"⟩
abbrev cX5_place : ByteArray := prog_7_method_39_code
def yX5_place : MethodName := ⟨RX5, "place", "(II)I"⟩
abbrev cX5_things : ByteArray := prog_7_method_40_code
def yX5_things : MethodName := ⟨RX5, "things", "(I)I"⟩
abbrev cX5_isThing : ByteArray := prog_7_method_41_code
def yX5_isThing : MethodName := ⟨RX5, "isThing", "(I)Z"⟩
abbrev cX5_weight : ByteArray := prog_7_method_42_code
def yX5_weight : MethodName := ⟨RX5, "weight", "(II)I"⟩
abbrev cX5_sum : ByteArray := prog_7_method_43_code
def yX5_sum : MethodName := ⟨RX5, "sum", "()I"⟩
abbrev cX5_make : ByteArray := prog_7_method_44_code
def yX5_make : MethodName := ⟨RX5, "make", "()V"⟩
abbrev cX5_first : ByteArray := prog_7_method_45_code
def yX5_first : MethodName := ⟨RX5, "first", "(IZ)I"⟩
abbrev cX5_cell : ByteArray := prog_7_method_46_code
def yX5_cell : MethodName := ⟨RX5, "cell", "(II)I"⟩
abbrev cX5_tell : ByteArray := prog_7_method_47_code
def yX5_tell : MethodName := ⟨RX5, "tell", "(I)I"⟩
def RJ6 : String := "java/lang/Integer"
def TJ6 : u_T := fun k => match k with
  | _ => ("", "", "", false)
def tyJ6 : Nat → FieldType := fun k => match k with
  | _ => .int
abbrev wsJ60 : List Cond := u_ws RJ6 TJ6 0
theorem nmJ6 : ∀ a, a < 0 → ∀ b, b < 0 → a ≠ b → (TJ6 a).2.1 ≠ (TJ6 b).2.1 := by decide +kernel
theorem tyJ6_ok : ∀ k, k < 0 → parseFieldDescriptor (TJ6 k).2.2.1 = some (tyJ6 k) := by decide +kernel
abbrev cJ6_bitCount_0f7a4 : ByteArray := prog_8_method_49_code
def yJ6_bitCount_0f7a4 : MethodName := ⟨RJ6, "bitCount", "(I)I"⟩
def RJ9 : String := "java/lang/Math"
def TJ9 : u_T := fun k => match k with
  | _ => ("", "", "", false)
def tyJ9 : Nat → FieldType := fun k => match k with
  | _ => .int
abbrev wsJ90 : List Cond := u_ws RJ9 TJ9 0
theorem nmJ9 : ∀ a, a < 0 → ∀ b, b < 0 → a ≠ b → (TJ9 a).2.1 ≠ (TJ9 b).2.1 := by decide +kernel
theorem tyJ9_ok : ∀ k, k < 0 → parseFieldDescriptor (TJ9 k).2.2.1 = some (tyJ9 k) := by decide +kernel
abbrev cJ9_floorDiv_7cf53 : ByteArray := prog_9_method_47_code
def yJ9_floorDiv_7cf53 : MethodName := ⟨RJ9, "floorDiv", "(II)I"⟩
abbrev cJ9_max_7cf53 : ByteArray := prog_9_method_65_code
def yJ9_max_7cf53 : MethodName := ⟨RJ9, "max", "(II)I"⟩
abbrev cJ9_min_7cf53 : ByteArray := prog_9_method_69_code
def yJ9_min_7cf53 : MethodName := ⟨RJ9, "min", "(II)I"⟩
def RJ10 : String := "java/lang/System"
def TJ10 : u_T := fun k => match k with
  | _ => ("", "", "", false)
def tyJ10 : Nat → FieldType := fun k => match k with
  | _ => .int
abbrev wsJ100 : List Cond := u_ws RJ10 TJ10 0
theorem nmJ10 : ∀ a, a < 0 → ∀ b, b < 0 → a ≠ b → (TJ10 a).2.1 ≠ (TJ10 b).2.1 := by decide +kernel
theorem tyJ10_ok : ∀ k, k < 0 → parseFieldDescriptor (TJ10 k).2.2.1 = some (tyJ10 k) := by decide +kernel
def RJ7 : String := "java/util/Arrays"
def TJ7 : u_T := fun k => match k with
  | _ => ("", "", "", false)
def tyJ7 : Nat → FieldType := fun k => match k with
  | _ => .int
abbrev wsJ70 : List Cond := u_ws RJ7 TJ7 0
theorem nmJ7 : ∀ a, a < 0 → ∀ b, b < 0 → a ≠ b → (TJ7 a).2.1 ≠ (TJ7 b).2.1 := by decide +kernel
theorem tyJ7_ok : ∀ k, k < 0 → parseFieldDescriptor (TJ7 k).2.2.1 = some (tyJ7 k) := by decide +kernel
abbrev cJ7_fill_d0a16 : ByteArray := prog_11_method_101_code
def yJ7_fill_d0a16 : MethodName := ⟨RJ7, "fill", "([JJ)V"⟩
abbrev cJ7_fill_53178 : ByteArray := prog_11_method_103_code
def yJ7_fill_53178 : MethodName := ⟨RJ7, "fill", "([II)V"⟩
def RL : String := "PastDrawsLaw"
abbrev cL_cell : ByteArray := method_2_code
def yL_cell : MethodName := ⟨RL, "cell", "([II)I"⟩
abbrev cL_law : ByteArray := code
def yL_law : MethodName := ⟨RL, "law", "([I)Z"⟩
def wsX0_init : List Cond := .code yX0_init cX0_init 4 none :: ([.methodLink RX0 3 objectInit, .instanceMethod objectInit, .code objectInit ⟨#[0xb1]⟩ 1 none, .fieldLink RX0 9 "PastDraws$Chain" "n" "I", .classLink RX0 15 "[[I", .arrayClass .int, .fieldLink RX0 17 "PastDraws$Chain" "next" "[[I", .fieldLink RX0 20 "PastDraws$Chain" "map" "[I", .fieldLink RX0 24 "PastDraws$Chain" "longerMap" "[I", .fieldLink RX0 27 "PastDraws$Chain" "rowsTo" "[I", .fieldLink RX0 30 "PastDraws$Chain" "longerRowsTo" "[I", .classLink RX0 33 "[[J", .arrayClass .long, .fieldLink RX0 35 "PastDraws$Chain" "minor" "[[J"] ++ wsX00)
def wsX0_setStep : List Cond := .code yX0_setStep cX0_setStep 5 (some .int) :: ([.fieldLink RX0 17 "PastDraws$Chain" "next" "[[I"] ++ wsX00)
def wsX4_mixed : List Cond := .code yX4_mixed cX4_mixed 3 (some .int) :: ([.constant RX4 172 (-1640531527), .constant RX4 173 (-2048144789), .constant RX4 174 (-1028477387)])
def wsX4_signAt : List Cond := .code yX4_signAt cX4_signAt 2 (some .int) :: ([.methodLink RX4 52 yX4_mixed, .static yX4_mixed, .initialized RX4, .code yX4_mixed cX4_mixed 3 (some .int), .constant RX4 172 (-1640531527), .constant RX4 173 (-2048144789), .constant RX4 174 (-1028477387)])
def wsX0_throughPast : List Cond := .code yX0_throughPast cX0_throughPast 6 (some .int) :: ([.fieldLink RX0 17 "PastDraws$Chain" "next" "[[I", .static yX4_signAt, .initialized RX4, .code yX4_signAt cX4_signAt 2 (some .int), .methodLink RX4 52 yX4_mixed, .static yX4_mixed, .code yX4_mixed cX4_mixed 3 (some .int), .constant RX4 172 (-1640531527), .constant RX4 173 (-2048144789), .constant RX4 174 (-1028477387)] ++ wsX00)
def wsX0_lengthenMap : List Cond := .code yX0_lengthenMap cX0_lengthenMap 3 none :: ([.fieldLink RX0 9 "PastDraws$Chain" "n" "I", .fieldLink RX0 24 "PastDraws$Chain" "longerMap" "[I", .fieldLink RX0 20 "PastDraws$Chain" "map" "[I", .fieldLink RX0 17 "PastDraws$Chain" "next" "[[I", .methodLink RX0 50 arraycopyName, .native arraycopyName, .static arraycopyName, .initialized "java/lang/System"] ++ wsX00)
def wsX0_mapMeets : List Cond := .code yX0_mapMeets cX0_mapMeets 2 (some .boolean) :: ([.fieldLink RX0 9 "PastDraws$Chain" "n" "I", .fieldLink RX0 20 "PastDraws$Chain" "map" "[I"] ++ wsX00)
def wsX0_leastMeeting_r1 : List Cond := [Cond.fieldLink RX0 9 "PastDraws$Chain" "n" "I", Cond.fieldLink RX0 20 "PastDraws$Chain" "map" "[I", Cond.static yX4_signAt, Cond.initialized RX4, Cond.code yX4_signAt cX4_signAt 2 (some .int), Cond.methodLink RX4 52 yX4_mixed, Cond.static yX4_mixed, Cond.code yX4_mixed cX4_mixed 3 (some .int), Cond.constant RX4 172 (-1640531527), Cond.constant RX4 173 (-2048144789), Cond.constant RX4 174 (-1028477387), Cond.methodLink RX0 42 yX0_lengthenMap, Cond.instanceMethod yX0_lengthenMap, Cond.selects RX0 yX0_lengthenMap yX0_lengthenMap, Cond.initialized RX0, Cond.code yX0_lengthenMap cX0_lengthenMap 3 none, Cond.fieldLink RX0 24 "PastDraws$Chain" "longerMap" "[I", Cond.fieldLink RX0 17 "PastDraws$Chain" "next" "[[I", Cond.methodLink RX0 50 arraycopyName, Cond.native arraycopyName, Cond.static arraycopyName, Cond.initialized "java/lang/System", Cond.methodLink RX0 46 yX0_mapMeets, Cond.instanceMethod yX0_mapMeets]
def wsX0_leastMeeting_r2 : List Cond := [Cond.selects RX0 yX0_mapMeets yX0_mapMeets, Cond.code yX0_mapMeets cX0_mapMeets 2 (some .boolean)]
def wsX0_leastMeeting : List Cond := .code yX0_leastMeeting cX0_leastMeeting 4 (some .int) :: ((wsX0_leastMeeting_r1 ++ wsX0_leastMeeting_r2) ++ wsX00)
def wsX0_boundsMeet : List Cond := .code yX0_boundsMeet cX0_boundsMeet 10 (some .boolean) :: ([.fieldLink RX0 9 "PastDraws$Chain" "n" "I", .fieldLink RX0 17 "PastDraws$Chain" "next" "[[I", .methodLink RX0 60 Lib.Math.min.name, .static Lib.Math.min.name, .initialized "java/lang/Math", .code Lib.Math.min.name Lib.Math.min.code 2 (some .int), .methodLink RX0 65 Lib.Math.max.name, .static Lib.Math.max.name, .code Lib.Math.max.name Lib.Math.max.code 2 (some .int), .static yX4_signAt, .initialized RX4, .code yX4_signAt cX4_signAt 2 (some .int), .methodLink RX4 52 yX4_mixed, .static yX4_mixed, .code yX4_mixed cX4_mixed 3 (some .int), .constant RX4 172 (-1640531527), .constant RX4 173 (-2048144789), .constant RX4 174 (-1028477387)] ++ wsX00)
def wsX0_leastBounded : List Cond := .code yX0_leastBounded cX0_leastBounded 4 (some .int) :: ([.methodLink RX0 56 yX0_boundsMeet, .instanceMethod yX0_boundsMeet, .selects RX0 yX0_boundsMeet yX0_boundsMeet, .initialized RX0, .code yX0_boundsMeet cX0_boundsMeet 10 (some .boolean), .fieldLink RX0 9 "PastDraws$Chain" "n" "I", .fieldLink RX0 17 "PastDraws$Chain" "next" "[[I", .methodLink RX0 60 Lib.Math.min.name, .static Lib.Math.min.name, .initialized "java/lang/Math", .code Lib.Math.min.name Lib.Math.min.code 2 (some .int), .methodLink RX0 65 Lib.Math.max.name, .static Lib.Math.max.name, .code Lib.Math.max.name Lib.Math.max.code 2 (some .int), .static yX4_signAt, .initialized RX4, .code yX4_signAt cX4_signAt 2 (some .int), .methodLink RX4 52 yX4_mixed, .static yX4_mixed, .code yX4_mixed cX4_mixed 3 (some .int), .constant RX4 172 (-1640531527), .constant RX4 173 (-2048144789), .constant RX4 174 (-1028477387)] ++ wsX00)
def wsX0_keepsOrder : List Cond := .code yX0_keepsOrder cX0_keepsOrder 3 (some .boolean) :: ([.fieldLink RX0 9 "PastDraws$Chain" "n" "I", .fieldLink RX0 17 "PastDraws$Chain" "next" "[[I"] ++ wsX00)
def wsX0_allStates : List Cond := .code yX0_allStates cX0_allStates 1 (some .int) :: ([.fieldLink RX0 9 "PastDraws$Chain" "n" "I"] ++ wsX00)
def wsX0_imageOf : List Cond := .code yX0_imageOf cX0_imageOf 5 (some .int) :: ([.fieldLink RX0 9 "PastDraws$Chain" "n" "I", .fieldLink RX0 17 "PastDraws$Chain" "next" "[[I"] ++ wsX00)
def wsX0_isSingle : List Cond := .code yX0_isSingle cX0_isSingle 1 (some .boolean) :: ([])
def wsJ7_fill_53178 : List Cond := .code yJ7_fill_53178 cJ7_fill_53178 4 none :: ([])
def wsX0_lengthenRows : List Cond := .code yX0_lengthenRows cX0_lengthenRows 3 none :: ([.fieldLink RX0 30 "PastDraws$Chain" "longerRowsTo" "[I", .fieldLink RX0 27 "PastDraws$Chain" "rowsTo" "[I", .methodLink RX0 50 arraycopyName, .native arraycopyName, .static arraycopyName, .initialized "java/lang/System", .methodLink RX0 68 yJ7_fill_53178, .static yJ7_fill_53178, .initialized RJ7, .code yJ7_fill_53178 cJ7_fill_53178 4 none, .methodLink RX0 74 yX0_allStates, .instanceMethod yX0_allStates, .selects RX0 yX0_allStates yX0_allStates, .initialized RX0, .code yX0_allStates cX0_allStates 1 (some .int), .fieldLink RX0 9 "PastDraws$Chain" "n" "I", .methodLink RX0 85 yX0_imageOf, .instanceMethod yX0_imageOf, .selects RX0 yX0_imageOf yX0_imageOf, .code yX0_imageOf cX0_imageOf 5 (some .int), .fieldLink RX0 17 "PastDraws$Chain" "next" "[[I"] ++ wsX00)
def wsX0_rowsMeeting_r1 : List Cond := [Cond.fieldLink RX0 27 "PastDraws$Chain" "rowsTo" "[I", Cond.methodLink RX0 68 yJ7_fill_53178, Cond.static yJ7_fill_53178, Cond.initialized RJ7, Cond.code yJ7_fill_53178 cJ7_fill_53178 4 none, Cond.methodLink RX0 74 yX0_allStates, Cond.instanceMethod yX0_allStates, Cond.selects RX0 yX0_allStates yX0_allStates, Cond.initialized RX0, Cond.code yX0_allStates cX0_allStates 1 (some .int), Cond.fieldLink RX0 9 "PastDraws$Chain" "n" "I", Cond.methodLink RX0 78 yX0_lengthenRows, Cond.instanceMethod yX0_lengthenRows, Cond.selects RX0 yX0_lengthenRows yX0_lengthenRows, Cond.code yX0_lengthenRows cX0_lengthenRows 3 none, Cond.fieldLink RX0 30 "PastDraws$Chain" "longerRowsTo" "[I", Cond.methodLink RX0 50 arraycopyName, Cond.native arraycopyName, Cond.static arraycopyName, Cond.initialized "java/lang/System", Cond.methodLink RX0 85 yX0_imageOf, Cond.instanceMethod yX0_imageOf, Cond.selects RX0 yX0_imageOf yX0_imageOf, Cond.code yX0_imageOf cX0_imageOf 5 (some .int)]
def wsX0_rowsMeeting_r2 : List Cond := [Cond.fieldLink RX0 17 "PastDraws$Chain" "next" "[[I", Cond.methodLink RX0 81 yX0_isSingle, Cond.static yX0_isSingle, Cond.code yX0_isSingle cX0_isSingle 1 (some .boolean)]
def wsX0_rowsMeeting : List Cond := .code yX0_rowsMeeting cX0_rowsMeeting 5 (some .int) :: ((wsX0_rowsMeeting_r1 ++ wsX0_rowsMeeting_r2) ++ wsX00)
def wsX0_indexWithout : List Cond := .code yX0_indexWithout cX0_indexWithout 2 (some .int) :: ([])
def wsJ7_fill_d0a16 : List Cond := .code yJ7_fill_d0a16 cJ7_fill_d0a16 5 none :: ([])
def wsX0_fillMinorRow : List Cond := .code yX0_fillMinorRow cX0_fillMinorRow 7 none :: ([.fieldLink RX0 35 "PastDraws$Chain" "minor" "[[J", .fieldLink RX0 17 "PastDraws$Chain" "next" "[[I", .methodLink RX0 99 yX0_indexWithout, .static yX0_indexWithout, .initialized RX0, .code yX0_indexWithout cX0_indexWithout 2 (some .int), .methodLink RX0 102 yJ7_fill_d0a16, .static yJ7_fill_d0a16, .initialized RJ7, .code yJ7_fill_d0a16 cJ7_fill_d0a16 5 none] ++ wsX00)
def wsX0_determinant : List Cond := .code yX0_determinant cX0_determinant 11 (some .long) :: ([.fieldLink RX0 35 "PastDraws$Chain" "minor" "[[J"] ++ wsX00)
def wsX0_treesTo : List Cond := .code yX0_treesTo cX0_treesTo 3 (some .long) :: ([.fieldLink RX0 9 "PastDraws$Chain" "n" "I", .methodLink RX0 92 yX0_fillMinorRow, .instanceMethod yX0_fillMinorRow, .selects RX0 yX0_fillMinorRow yX0_fillMinorRow, .initialized RX0, .code yX0_fillMinorRow cX0_fillMinorRow 7 none, .fieldLink RX0 35 "PastDraws$Chain" "minor" "[[J", .fieldLink RX0 17 "PastDraws$Chain" "next" "[[I", .methodLink RX0 99 yX0_indexWithout, .static yX0_indexWithout, .code yX0_indexWithout cX0_indexWithout 2 (some .int), .methodLink RX0 102 yJ7_fill_d0a16, .static yJ7_fill_d0a16, .initialized RJ7, .code yJ7_fill_d0a16 cJ7_fill_d0a16 5 none, .methodLink RX0 96 yX0_determinant, .instanceMethod yX0_determinant, .selects RX0 yX0_determinant yX0_determinant, .code yX0_determinant cX0_determinant 11 (some .long)] ++ wsX00)
def wsX0_allTrees : List Cond := .code yX0_allTrees cX0_allTrees 4 (some .long) :: ([.fieldLink RX0 9 "PastDraws$Chain" "n" "I", .methodLink RX0 88 yX0_treesTo, .instanceMethod yX0_treesTo, .selects RX0 yX0_treesTo yX0_treesTo, .initialized RX0, .code yX0_treesTo cX0_treesTo 3 (some .long), .methodLink RX0 92 yX0_fillMinorRow, .instanceMethod yX0_fillMinorRow, .selects RX0 yX0_fillMinorRow yX0_fillMinorRow, .code yX0_fillMinorRow cX0_fillMinorRow 7 none, .fieldLink RX0 35 "PastDraws$Chain" "minor" "[[J", .fieldLink RX0 17 "PastDraws$Chain" "next" "[[I", .methodLink RX0 99 yX0_indexWithout, .static yX0_indexWithout, .code yX0_indexWithout cX0_indexWithout 2 (some .int), .methodLink RX0 102 yJ7_fill_d0a16, .static yJ7_fill_d0a16, .initialized RJ7, .code yJ7_fill_d0a16 cJ7_fill_d0a16 5 none, .methodLink RX0 96 yX0_determinant, .instanceMethod yX0_determinant, .selects RX0 yX0_determinant yX0_determinant, .code yX0_determinant cX0_determinant 11 (some .long)] ++ wsX00)
def wsX0_blockMeets : List Cond := .code yX0_blockMeets cX0_blockMeets 6 (some .boolean) :: ([.methodLink RX0 74 yX0_allStates, .instanceMethod yX0_allStates, .selects RX0 yX0_allStates yX0_allStates, .initialized RX0, .code yX0_allStates cX0_allStates 1 (some .int), .fieldLink RX0 9 "PastDraws$Chain" "n" "I", .methodLink RX0 81 yX0_isSingle, .static yX0_isSingle, .code yX0_isSingle cX0_isSingle 1 (some .boolean), .static yX4_signAt, .initialized RX4, .code yX4_signAt cX4_signAt 2 (some .int), .methodLink RX4 52 yX4_mixed, .static yX4_mixed, .code yX4_mixed cX4_mixed 3 (some .int), .constant RX4 172 (-1640531527), .constant RX4 173 (-2048144789), .constant RX4 174 (-1028477387), .methodLink RX0 85 yX0_imageOf, .instanceMethod yX0_imageOf, .selects RX0 yX0_imageOf yX0_imageOf, .code yX0_imageOf cX0_imageOf 5 (some .int), .fieldLink RX0 17 "PastDraws$Chain" "next" "[[I"] ++ wsX00)
def wsX0_throughBlock : List Cond := .code yX0_throughBlock cX0_throughBlock 7 (some .int) :: ([.fieldLink RX0 17 "PastDraws$Chain" "next" "[[I", .static yX4_signAt, .initialized RX4, .code yX4_signAt cX4_signAt 2 (some .int), .methodLink RX4 52 yX4_mixed, .static yX4_mixed, .code yX4_mixed cX4_mixed 3 (some .int), .constant RX4 172 (-1640531527), .constant RX4 173 (-2048144789), .constant RX4 174 (-1028477387)] ++ wsX00)
def wsX0_drawOf_r1 : List Cond := [Cond.methodLink RX0 105 yX0_blockMeets, Cond.instanceMethod yX0_blockMeets, Cond.selects RX0 yX0_blockMeets yX0_blockMeets, Cond.initialized RX0, Cond.code yX0_blockMeets cX0_blockMeets 6 (some .boolean), Cond.methodLink RX0 74 yX0_allStates, Cond.instanceMethod yX0_allStates, Cond.selects RX0 yX0_allStates yX0_allStates, Cond.code yX0_allStates cX0_allStates 1 (some .int), Cond.fieldLink RX0 9 "PastDraws$Chain" "n" "I", Cond.methodLink RX0 81 yX0_isSingle, Cond.static yX0_isSingle, Cond.code yX0_isSingle cX0_isSingle 1 (some .boolean), Cond.static yX4_signAt, Cond.initialized RX4, Cond.code yX4_signAt cX4_signAt 2 (some .int), Cond.methodLink RX4 52 yX4_mixed, Cond.static yX4_mixed, Cond.code yX4_mixed cX4_mixed 3 (some .int), Cond.constant RX4 172 (-1640531527), Cond.constant RX4 173 (-2048144789), Cond.constant RX4 174 (-1028477387), Cond.methodLink RX0 85 yX0_imageOf, Cond.instanceMethod yX0_imageOf]
def wsX0_drawOf_r2 : List Cond := [Cond.selects RX0 yX0_imageOf yX0_imageOf, Cond.code yX0_imageOf cX0_imageOf 5 (some .int), Cond.fieldLink RX0 17 "PastDraws$Chain" "next" "[[I", Cond.methodLink RX0 109 yX0_throughBlock, Cond.instanceMethod yX0_throughBlock, Cond.selects RX0 yX0_throughBlock yX0_throughBlock, Cond.code yX0_throughBlock cX0_throughBlock 7 (some .int)]
def wsX0_drawOf : List Cond := .code yX0_drawOf cX0_drawOf 10 (some .int) :: ((wsX0_drawOf_r1 ++ wsX0_drawOf_r2) ++ wsX00)
def wsX1_init : List Cond := .code yX1_init cX1_init 3 none :: ([.methodLink RX1 3 objectInit, .instanceMethod objectInit, .code objectInit ⟨#[0xb1]⟩ 1 none, .fieldLink RX1 9 "PastDraws$Machine" "n" "I", .classLink RX1 15 "[[I", .arrayClass .int, .fieldLink RX1 17 "PastDraws$Machine" "next" "[[I", .arrayClass .boolean, .fieldLink RX1 20 "PastDraws$Machine" "ends" "[Z", .classLink RX1 24 "[[J", .arrayClass .long, .fieldLink RX1 26 "PastDraws$Machine" "counts" "[[J", .methodLink RX1 29 yJ7_fill_53178, .static yJ7_fill_53178, .initialized RJ7, .code yJ7_fill_53178 cJ7_fill_53178 4 none] ++ wsX10)
def wsX1_setStep : List Cond := .code yX1_setStep cX1_setStep 5 (some .int) :: ([.fieldLink RX1 17 "PastDraws$Machine" "next" "[[I"] ++ wsX10)
def wsX1_setEnd : List Cond := .code yX1_setEnd cX1_setEnd 4 (some .boolean) :: ([.fieldLink RX1 20 "PastDraws$Machine" "ends" "[Z"] ++ wsX10)
def wsX1_countWith : List Cond := .code yX1_countWith cX1_countWith 5 (some .long) :: ([.fieldLink RX1 17 "PastDraws$Machine" "next" "[[I", .fieldLink RX1 26 "PastDraws$Machine" "counts" "[[J"] ++ wsX10)
def wsX1_countBefore : List Cond := .code yX1_countBefore cX1_countBefore 7 (some .long) :: ([.methodLink RX1 39 yX1_countWith, .instanceMethod yX1_countWith, .selects RX1 yX1_countWith yX1_countWith, .initialized RX1, .code yX1_countWith cX1_countWith 5 (some .long), .fieldLink RX1 17 "PastDraws$Machine" "next" "[[I", .fieldLink RX1 26 "PastDraws$Machine" "counts" "[[J"] ++ wsX10)
def wsX1_countAll : List Cond := .code yX1_countAll cX1_countAll 4 (some .long) :: ([.fieldLink RX1 9 "PastDraws$Machine" "n" "I", .fieldLink RX1 26 "PastDraws$Machine" "counts" "[[J", .fieldLink RX1 20 "PastDraws$Machine" "ends" "[Z", .methodLink RX1 35 yX1_countBefore, .instanceMethod yX1_countBefore, .selects RX1 yX1_countBefore yX1_countBefore, .initialized RX1, .code yX1_countBefore cX1_countBefore 7 (some .long), .methodLink RX1 39 yX1_countWith, .instanceMethod yX1_countWith, .selects RX1 yX1_countWith yX1_countWith, .code yX1_countWith cX1_countWith 5 (some .long), .fieldLink RX1 17 "PastDraws$Machine" "next" "[[I"] ++ wsX10)
def wsX1_letterAt : List Cond := .code yX1_letterAt cX1_letterAt 6 (some .int) :: ([.methodLink RX1 35 yX1_countBefore, .instanceMethod yX1_countBefore, .selects RX1 yX1_countBefore yX1_countBefore, .initialized RX1, .code yX1_countBefore cX1_countBefore 7 (some .long), .methodLink RX1 39 yX1_countWith, .instanceMethod yX1_countWith, .selects RX1 yX1_countWith yX1_countWith, .code yX1_countWith cX1_countWith 5 (some .long), .fieldLink RX1 17 "PastDraws$Machine" "next" "[[I", .fieldLink RX1 26 "PastDraws$Machine" "counts" "[[J"] ++ wsX10)
def wsX1_letterOf : List Cond := .code yX1_letterOf cX1_letterOf 11 (some .int) :: ([.fieldLink RX1 17 "PastDraws$Machine" "next" "[[I", .methodLink RX1 42 yX1_letterAt, .instanceMethod yX1_letterAt, .selects RX1 yX1_letterAt yX1_letterAt, .initialized RX1, .code yX1_letterAt cX1_letterAt 6 (some .int), .methodLink RX1 35 yX1_countBefore, .instanceMethod yX1_countBefore, .selects RX1 yX1_countBefore yX1_countBefore, .code yX1_countBefore cX1_countBefore 7 (some .long), .methodLink RX1 39 yX1_countWith, .instanceMethod yX1_countWith, .selects RX1 yX1_countWith yX1_countWith, .code yX1_countWith cX1_countWith 5 (some .long), .fieldLink RX1 26 "PastDraws$Machine" "counts" "[[J"] ++ wsX10)
def wsX1_numberOf : List Cond := .code yX1_numberOf cX1_numberOf 9 (some .long) :: ([.fieldLink RX1 17 "PastDraws$Machine" "next" "[[I", .constantLong RX1 46 (-2), .fieldLink RX1 20 "PastDraws$Machine" "ends" "[Z", .methodLink RX1 35 yX1_countBefore, .instanceMethod yX1_countBefore, .selects RX1 yX1_countBefore yX1_countBefore, .initialized RX1, .code yX1_countBefore cX1_countBefore 7 (some .long), .methodLink RX1 39 yX1_countWith, .instanceMethod yX1_countWith, .selects RX1 yX1_countWith yX1_countWith, .code yX1_countWith cX1_countWith 5 (some .long), .fieldLink RX1 26 "PastDraws$Machine" "counts" "[[J"] ++ wsX10)
def wsX2_init : List Cond := .code yX2_init cX2_init 1 none :: ([.methodLink RX2 3 objectInit, .instanceMethod objectInit, .code objectInit ⟨#[0xb1]⟩ 1 none, .arrayClass .int, .fieldLink RX2 9 "PastDraws$Orders" "allowed" "[I", .fieldLink RX2 15 "PastDraws$Orders" "ways" "[I", .methodLink RX2 18 yJ7_fill_53178, .static yJ7_fill_53178, .initialized RJ7, .code yJ7_fill_53178 cJ7_fill_53178 4 none] ++ wsX20)
def wsX2_setAllowed : List Cond := .code yX2_setAllowed cX2_setAllowed 5 (some .boolean) :: ([.fieldLink RX2 9 "PastDraws$Orders" "allowed" "[I"] ++ wsX20)
def wsJ6_bitCount_0f7a4 : List Cond := .code yJ6_bitCount_0f7a4 cJ6_bitCount_0f7a4 1 (some .int) :: ([.constant RJ6 265 (1431655765), .constant RJ6 266 (858993459), .constant RJ6 267 (252645135)])
def wsX2_isFree : List Cond := .code yX2_isFree cX2_isFree 4 (some .boolean) :: ([.fieldLink RX2 9 "PastDraws$Orders" "allowed" "[I", .methodLink RX2 28 yJ6_bitCount_0f7a4, .static yJ6_bitCount_0f7a4, .initialized RJ6, .code yJ6_bitCount_0f7a4 cJ6_bitCount_0f7a4 1 (some .int), .constant RJ6 265 (1431655765), .constant RJ6 266 (858993459), .constant RJ6 267 (252645135)] ++ wsX20)
def wsX2_waysBefore : List Cond := .code yX2_waysBefore cX2_waysBefore 6 (some .int) :: ([.fieldLink RX2 15 "PastDraws$Orders" "ways" "[I", .methodLink RX2 34 yX2_isFree, .instanceMethod yX2_isFree, .selects RX2 yX2_isFree yX2_isFree, .initialized RX2, .code yX2_isFree cX2_isFree 4 (some .boolean), .fieldLink RX2 9 "PastDraws$Orders" "allowed" "[I", .methodLink RX2 28 yJ6_bitCount_0f7a4, .static yJ6_bitCount_0f7a4, .initialized RJ6, .code yJ6_bitCount_0f7a4 cJ6_bitCount_0f7a4 1 (some .int), .constant RJ6 265 (1431655765), .constant RJ6 266 (858993459), .constant RJ6 267 (252645135)] ++ wsX20)
def wsX2_countAll : List Cond := .code yX2_countAll cX2_countAll 4 (some .int) :: ([.fieldLink RX2 15 "PastDraws$Orders" "ways" "[I", .methodLink RX2 24 yX2_waysBefore, .instanceMethod yX2_waysBefore, .selects RX2 yX2_waysBefore yX2_waysBefore, .initialized RX2, .code yX2_waysBefore cX2_waysBefore 6 (some .int), .methodLink RX2 34 yX2_isFree, .instanceMethod yX2_isFree, .selects RX2 yX2_isFree yX2_isFree, .code yX2_isFree cX2_isFree 4 (some .boolean), .fieldLink RX2 9 "PastDraws$Orders" "allowed" "[I", .methodLink RX2 28 yJ6_bitCount_0f7a4, .static yJ6_bitCount_0f7a4, .initialized RJ6, .code yJ6_bitCount_0f7a4 cJ6_bitCount_0f7a4 1 (some .int), .constant RJ6 265 (1431655765), .constant RJ6 266 (858993459), .constant RJ6 267 (252645135)] ++ wsX20)
def wsX2_nextNumber : List Cond := .code yX2_nextNumber cX2_nextNumber 5 (some .int) :: ([.methodLink RX2 24 yX2_waysBefore, .instanceMethod yX2_waysBefore, .selects RX2 yX2_waysBefore yX2_waysBefore, .initialized RX2, .code yX2_waysBefore cX2_waysBefore 6 (some .int), .fieldLink RX2 15 "PastDraws$Orders" "ways" "[I", .methodLink RX2 34 yX2_isFree, .instanceMethod yX2_isFree, .selects RX2 yX2_isFree yX2_isFree, .code yX2_isFree cX2_isFree 4 (some .boolean), .fieldLink RX2 9 "PastDraws$Orders" "allowed" "[I", .methodLink RX2 28 yJ6_bitCount_0f7a4, .static yJ6_bitCount_0f7a4, .initialized RJ6, .code yJ6_bitCount_0f7a4 cJ6_bitCount_0f7a4 1 (some .int), .constant RJ6 265 (1431655765), .constant RJ6 266 (858993459), .constant RJ6 267 (252645135)] ++ wsX20)
def wsX2_atPlace : List Cond := .code yX2_atPlace cX2_atPlace 8 (some .int) :: ([.methodLink RX2 38 yX2_nextNumber, .instanceMethod yX2_nextNumber, .selects RX2 yX2_nextNumber yX2_nextNumber, .initialized RX2, .code yX2_nextNumber cX2_nextNumber 5 (some .int), .methodLink RX2 24 yX2_waysBefore, .instanceMethod yX2_waysBefore, .selects RX2 yX2_waysBefore yX2_waysBefore, .code yX2_waysBefore cX2_waysBefore 6 (some .int), .fieldLink RX2 15 "PastDraws$Orders" "ways" "[I", .methodLink RX2 34 yX2_isFree, .instanceMethod yX2_isFree, .selects RX2 yX2_isFree yX2_isFree, .code yX2_isFree cX2_isFree 4 (some .boolean), .fieldLink RX2 9 "PastDraws$Orders" "allowed" "[I", .methodLink RX2 28 yJ6_bitCount_0f7a4, .static yJ6_bitCount_0f7a4, .initialized RJ6, .code yJ6_bitCount_0f7a4 cJ6_bitCount_0f7a4 1 (some .int), .constant RJ6 265 (1431655765), .constant RJ6 266 (858993459), .constant RJ6 267 (252645135)] ++ wsX20)
def wsX2_numberOf : List Cond := .code yX2_numberOf cX2_numberOf 7 (some .int) :: ([.methodLink RX2 34 yX2_isFree, .instanceMethod yX2_isFree, .selects RX2 yX2_isFree yX2_isFree, .initialized RX2, .code yX2_isFree cX2_isFree 4 (some .boolean), .fieldLink RX2 9 "PastDraws$Orders" "allowed" "[I", .methodLink RX2 28 yJ6_bitCount_0f7a4, .static yJ6_bitCount_0f7a4, .initialized RJ6, .code yJ6_bitCount_0f7a4 cJ6_bitCount_0f7a4 1 (some .int), .constant RJ6 265 (1431655765), .constant RJ6 266 (858993459), .constant RJ6 267 (252645135), .methodLink RX2 24 yX2_waysBefore, .instanceMethod yX2_waysBefore, .selects RX2 yX2_waysBefore yX2_waysBefore, .code yX2_waysBefore cX2_waysBefore 6 (some .int), .fieldLink RX2 15 "PastDraws$Orders" "ways" "[I"] ++ wsX20)
def wsX3_init : List Cond := .code yX3_init cX3_init 1 none :: ([.methodLink RX3 3 objectInit, .instanceMethod objectInit, .code objectInit ⟨#[0xb1]⟩ 1 none, .arrayClass .int, .fieldLink RX3 9 "PastDraws$Table" "weights" "[I", .fieldLink RX3 15 "PastDraws$Table" "rest" "[I", .fieldLink RX3 18 "PastDraws$Table" "limit" "[I", .fieldLink RX3 21 "PastDraws$Table" "other" "[I", .arrayClass .boolean, .fieldLink RX3 24 "PastDraws$Table" "isMade" "[Z", .fieldLink RX3 28 "PastDraws$Table" "m" "I", .methodLink RX3 32 yJ7_fill_53178, .static yJ7_fill_53178, .initialized RJ7, .code yJ7_fill_53178 cJ7_fill_53178 4 none] ++ wsX30)
def wsX3_isThing : List Cond := .code yX3_isThing cX3_isThing 2 (some .boolean) :: ([.fieldLink RX3 28 "PastDraws$Table" "m" "I"] ++ wsX30)
def wsX3_setThings : List Cond := .code yX3_setThings cX3_setThings 3 (some .int) :: ([.fieldLink RX3 28 "PastDraws$Table" "m" "I", .fieldLink RX3 9 "PastDraws$Table" "weights" "[I", .methodLink RX3 32 yJ7_fill_53178, .static yJ7_fill_53178, .initialized RJ7, .code yJ7_fill_53178 cJ7_fill_53178 4 none] ++ wsX30)
def wsX3_setWeight : List Cond := .code yX3_setWeight cX3_setWeight 4 (some .int) :: ([.fieldLink RX3 9 "PastDraws$Table" "weights" "[I"] ++ wsX30)
def wsX3_sum : List Cond := .code yX3_sum cX3_sum 3 (some .int) :: ([.fieldLink RX3 28 "PastDraws$Table" "m" "I", .fieldLink RX3 9 "PastDraws$Table" "weights" "[I"] ++ wsX30)
def wsX3_firstUnder : List Cond := .code yX3_firstUnder cX3_firstUnder 3 (some .int) :: ([.fieldLink RX3 28 "PastDraws$Table" "m" "I", .fieldLink RX3 24 "PastDraws$Table" "isMade" "[Z", .fieldLink RX3 15 "PastDraws$Table" "rest" "[I"] ++ wsX30)
def wsX3_firstOver : List Cond := .code yX3_firstOver cX3_firstOver 3 (some .int) :: ([.fieldLink RX3 28 "PastDraws$Table" "m" "I", .fieldLink RX3 24 "PastDraws$Table" "isMade" "[Z", .fieldLink RX3 15 "PastDraws$Table" "rest" "[I"] ++ wsX30)
def wsX3_make : List Cond := .code yX3_make cX3_make 5 none :: ([.fieldLink RX3 28 "PastDraws$Table" "m" "I", .fieldLink RX3 15 "PastDraws$Table" "rest" "[I", .fieldLink RX3 9 "PastDraws$Table" "weights" "[I", .fieldLink RX3 18 "PastDraws$Table" "limit" "[I", .fieldLink RX3 21 "PastDraws$Table" "other" "[I", .fieldLink RX3 24 "PastDraws$Table" "isMade" "[Z", .methodLink RX3 38 yX3_firstUnder, .instanceMethod yX3_firstUnder, .selects RX3 yX3_firstUnder yX3_firstUnder, .initialized RX3, .code yX3_firstUnder cX3_firstUnder 3 (some .int), .methodLink RX3 42 yX3_firstOver, .instanceMethod yX3_firstOver, .selects RX3 yX3_firstOver yX3_firstOver, .code yX3_firstOver cX3_firstOver 3 (some .int)] ++ wsX30)
def wsX3_limitOf : List Cond := .code yX3_limitOf cX3_limitOf 2 (some .int) :: ([.fieldLink RX3 18 "PastDraws$Table" "limit" "[I"] ++ wsX30)
def wsX3_otherOf : List Cond := .code yX3_otherOf cX3_otherOf 2 (some .int) :: ([.fieldLink RX3 21 "PastDraws$Table" "other" "[I"] ++ wsX30)
def wsX3_thingAt : List Cond := .code yX3_thingAt cX3_thingAt 3 (some .int) :: ([.fieldLink RX3 18 "PastDraws$Table" "limit" "[I", .fieldLink RX3 21 "PastDraws$Table" "other" "[I"] ++ wsX30)
def wsX4_init_r1 : List Cond := [Cond.methodLink RX4 1 objectInit, Cond.instanceMethod objectInit, Cond.code objectInit ⟨#[0xb1]⟩ 1 none, Cond.methodLink RX4 9 Lib.Math.min.name, Cond.static Lib.Math.min.name, Cond.initialized "java/lang/Math", Cond.code Lib.Math.min.name Lib.Math.min.code 2 (some .int), Cond.methodLink RX4 15 Lib.Math.max.name, Cond.static Lib.Math.max.name, Cond.code Lib.Math.max.name Lib.Math.max.code 2 (some .int), Cond.fieldLink RX4 18 "PastDraws" "stateCount" "I", Cond.classLink RX4 22 RX0, Cond.instantiable RX0 7, Cond.initialized RX0, Cond.fieldLink RX4 27 "PastDraws" "chain" "LPastDraws$Chain;", Cond.classLink RX4 31 RX1, Cond.instantiable RX1 4, Cond.initialized RX1, Cond.fieldLink RX4 34 "PastDraws" "machine" "LPastDraws$Machine;", Cond.classLink RX4 38 RX2, Cond.instantiable RX2 2, Cond.initialized RX2, Cond.fieldLink RX4 41 "PastDraws" "orders" "LPastDraws$Orders;", Cond.classLink RX4 45 RX3]
def wsX4_init_r2 : List Cond := [Cond.instantiable RX3 6, Cond.initialized RX3, Cond.fieldLink RX4 48 "PastDraws" "table" "LPastDraws$Table;", Cond.methodLink RX4 24 yX0_init, Cond.instanceMethod yX0_init, Cond.code yX0_init cX0_init 4 none, Cond.methodLink RX0 3 objectInit, Cond.fieldLink RX0 9 "PastDraws$Chain" "n" "I", Cond.classLink RX0 15 "[[I", Cond.arrayClass .int, Cond.fieldLink RX0 17 "PastDraws$Chain" "next" "[[I", Cond.fieldLink RX0 20 "PastDraws$Chain" "map" "[I", Cond.fieldLink RX0 24 "PastDraws$Chain" "longerMap" "[I", Cond.fieldLink RX0 27 "PastDraws$Chain" "rowsTo" "[I", Cond.fieldLink RX0 30 "PastDraws$Chain" "longerRowsTo" "[I", Cond.classLink RX0 33 "[[J", Cond.arrayClass .long, Cond.fieldLink RX0 35 "PastDraws$Chain" "minor" "[[J", Cond.methodLink RX4 33 yX1_init, Cond.instanceMethod yX1_init, Cond.code yX1_init cX1_init 3 none, Cond.methodLink RX1 3 objectInit, Cond.fieldLink RX1 9 "PastDraws$Machine" "n" "I", Cond.classLink RX1 15 "[[I"]
def wsX4_init_r3 : List Cond := [Cond.fieldLink RX1 17 "PastDraws$Machine" "next" "[[I", Cond.arrayClass .boolean, Cond.fieldLink RX1 20 "PastDraws$Machine" "ends" "[Z", Cond.classLink RX1 24 "[[J", Cond.fieldLink RX1 26 "PastDraws$Machine" "counts" "[[J", Cond.methodLink RX1 29 yJ7_fill_53178, Cond.static yJ7_fill_53178, Cond.initialized RJ7, Cond.code yJ7_fill_53178 cJ7_fill_53178 4 none, Cond.methodLink RX4 40 yX2_init, Cond.instanceMethod yX2_init, Cond.code yX2_init cX2_init 1 none, Cond.methodLink RX2 3 objectInit, Cond.fieldLink RX2 9 "PastDraws$Orders" "allowed" "[I", Cond.fieldLink RX2 15 "PastDraws$Orders" "ways" "[I", Cond.methodLink RX2 18 yJ7_fill_53178, Cond.methodLink RX4 47 yX3_init, Cond.instanceMethod yX3_init, Cond.code yX3_init cX3_init 1 none, Cond.methodLink RX3 3 objectInit, Cond.fieldLink RX3 9 "PastDraws$Table" "weights" "[I", Cond.fieldLink RX3 15 "PastDraws$Table" "rest" "[I", Cond.fieldLink RX3 18 "PastDraws$Table" "limit" "[I", Cond.fieldLink RX3 21 "PastDraws$Table" "other" "[I"]
def wsX4_init_r4 : List Cond := [Cond.fieldLink RX3 24 "PastDraws$Table" "isMade" "[Z", Cond.fieldLink RX3 28 "PastDraws$Table" "m" "I", Cond.methodLink RX3 32 yJ7_fill_53178]
def wsX4_init : List Cond := .code yX4_init cX4_init 2 none :: ((wsX4_init_r1 ++ (wsX4_init_r2 ++ (wsX4_init_r3 ++ wsX4_init_r4))) ++ wsX40 ++ wsX00 ++ wsX10 ++ wsX20 ++ wsX30)
def wsX4_hash : List Cond := .code yX4_hash cX4_hash 3 (some .int) :: ([.methodLink RX4 52 yX4_mixed, .static yX4_mixed, .initialized RX4, .code yX4_mixed cX4_mixed 3 (some .int), .constant RX4 172 (-1640531527), .constant RX4 173 (-2048144789), .constant RX4 174 (-1028477387)])
def wsX4_isBound : List Cond := .code yX4_isBound cX4_isBound 2 (some .boolean) :: ([.constantLong RX4 170 (4611686018427387904)])
def wsX4_bitsFor : List Cond := .code yX4_bitsFor cX4_bitsFor 3 (some .int) :: ([])
def wsX4_topBits : List Cond := .code yX4_topBits cX4_topBits 7 (some .long) :: ([.constantLong RX4 175 (4294967295), .methodLink RX4 52 yX4_mixed, .static yX4_mixed, .initialized RX4, .code yX4_mixed cX4_mixed 3 (some .int), .constant RX4 172 (-1640531527), .constant RX4 173 (-2048144789), .constant RX4 174 (-1028477387)])
def wsX4_firstBelow : List Cond := .code yX4_firstBelow cX4_firstBelow 5 (some .int) :: ([.constant RX4 177 (1000000), .methodLink RX4 69 yX4_topBits, .static yX4_topBits, .initialized RX4, .code yX4_topBits cX4_topBits 7 (some .long), .constantLong RX4 175 (4294967295), .methodLink RX4 52 yX4_mixed, .static yX4_mixed, .code yX4_mixed cX4_mixed 3 (some .int), .constant RX4 172 (-1640531527), .constant RX4 173 (-2048144789), .constant RX4 174 (-1028477387)])
def wsX4_pick : List Cond := .code yX4_pick cX4_pick 5 (some .long) :: ([.constantLong RX4 59 (-1), .methodLink RX4 55 yX4_isBound, .static yX4_isBound, .initialized RX4, .code yX4_isBound cX4_isBound 2 (some .boolean), .constantLong RX4 170 (4611686018427387904), .methodLink RX4 61 yX4_bitsFor, .static yX4_bitsFor, .code yX4_bitsFor cX4_bitsFor 3 (some .int), .methodLink RX4 65 yX4_firstBelow, .static yX4_firstBelow, .code yX4_firstBelow cX4_firstBelow 5 (some .int), .constant RX4 177 (1000000), .methodLink RX4 69 yX4_topBits, .static yX4_topBits, .code yX4_topBits cX4_topBits 7 (some .long), .constantLong RX4 175 (4294967295), .methodLink RX4 52 yX4_mixed, .static yX4_mixed, .code yX4_mixed cX4_mixed 3 (some .int), .constant RX4 172 (-1640531527), .constant RX4 173 (-2048144789), .constant RX4 174 (-1028477387)])
def wsX4_tries : List Cond := .code yX4_tries cX4_tries 4 (some .int) :: ([.methodLink RX4 55 yX4_isBound, .static yX4_isBound, .initialized RX4, .code yX4_isBound cX4_isBound 2 (some .boolean), .constantLong RX4 170 (4611686018427387904), .methodLink RX4 61 yX4_bitsFor, .static yX4_bitsFor, .code yX4_bitsFor cX4_bitsFor 3 (some .int), .methodLink RX4 65 yX4_firstBelow, .static yX4_firstBelow, .code yX4_firstBelow cX4_firstBelow 5 (some .int), .constant RX4 177 (1000000), .methodLink RX4 69 yX4_topBits, .static yX4_topBits, .code yX4_topBits cX4_topBits 7 (some .long), .constantLong RX4 175 (4294967295), .methodLink RX4 52 yX4_mixed, .static yX4_mixed, .code yX4_mixed cX4_mixed 3 (some .int), .constant RX4 172 (-1640531527), .constant RX4 173 (-2048144789), .constant RX4 174 (-1028477387)])
def wsX4_isState : List Cond := .code yX4_isState cX4_isState 2 (some .boolean) :: ([.fieldLink RX4 18 "PastDraws" "stateCount" "I"] ++ wsX40)
def wsX4_isWithin : List Cond := .code yX4_isWithin cX4_isWithin 3 (some .boolean) :: ([])
def wsX4_rule : List Cond := .code yX4_rule cX4_rule 4 (some .int) :: ([.fieldLink RX4 27 "PastDraws" "chain" "LPastDraws$Chain;", .methodLink RX4 73 yX4_isState, .instanceMethod yX4_isState, .selects RX4 yX4_isState yX4_isState, .initialized RX4, .code yX4_isState cX4_isState 2 (some .boolean), .fieldLink RX4 18 "PastDraws" "stateCount" "I", .methodLink RX4 77 yX4_isWithin, .static yX4_isWithin, .code yX4_isWithin cX4_isWithin 3 (some .boolean), .methodLink RX4 81 yX0_setStep, .instanceMethod yX0_setStep, .selects RX0 yX0_setStep yX0_setStep, .initialized RX0, .code yX0_setStep cX0_setStep 5 (some .int), .fieldLink RX0 17 "PastDraws$Chain" "next" "[[I"] ++ wsX40 ++ wsX00)
def wsX4_taken : List Cond := .code yX4_taken cX4_taken 4 (some .int) :: ([.fieldLink RX4 27 "PastDraws" "chain" "LPastDraws$Chain;", .methodLink RX4 77 yX4_isWithin, .static yX4_isWithin, .initialized RX4, .code yX4_isWithin cX4_isWithin 3 (some .boolean), .methodLink RX4 73 yX4_isState, .instanceMethod yX4_isState, .selects RX4 yX4_isState yX4_isState, .code yX4_isState cX4_isState 2 (some .boolean), .fieldLink RX4 18 "PastDraws" "stateCount" "I", .methodLink RX4 85 yX0_throughPast, .instanceMethod yX0_throughPast, .selects RX0 yX0_throughPast yX0_throughPast, .initialized RX0, .code yX0_throughPast cX0_throughPast 6 (some .int), .fieldLink RX0 17 "PastDraws$Chain" "next" "[[I", .static yX4_signAt, .code yX4_signAt cX4_signAt 2 (some .int), .methodLink RX4 52 yX4_mixed, .static yX4_mixed, .code yX4_mixed cX4_mixed 3 (some .int), .constant RX4 172 (-1640531527), .constant RX4 173 (-2048144789), .constant RX4 174 (-1028477387)] ++ wsX40 ++ wsX00)
def wsX4_powerFrom : List Cond := .code yX4_powerFrom cX4_powerFrom 2 (some .int) :: ([])
def wsX4_past_r1 : List Cond := [Cond.fieldLink RX4 27 "PastDraws" "chain" "LPastDraws$Chain;", Cond.methodLink RX4 77 yX4_isWithin, Cond.static yX4_isWithin, Cond.initialized RX4, Cond.code yX4_isWithin cX4_isWithin 3 (some .boolean), Cond.methodLink RX4 88 yX0_leastMeeting, Cond.instanceMethod yX0_leastMeeting, Cond.selects RX0 yX0_leastMeeting yX0_leastMeeting, Cond.initialized RX0, Cond.code yX0_leastMeeting cX0_leastMeeting 4 (some .int), Cond.fieldLink RX0 9 "PastDraws$Chain" "n" "I", Cond.fieldLink RX0 20 "PastDraws$Chain" "map" "[I", Cond.static yX4_signAt, Cond.code yX4_signAt cX4_signAt 2 (some .int), Cond.methodLink RX4 52 yX4_mixed, Cond.static yX4_mixed, Cond.code yX4_mixed cX4_mixed 3 (some .int), Cond.constant RX4 172 (-1640531527), Cond.constant RX4 173 (-2048144789), Cond.constant RX4 174 (-1028477387), Cond.methodLink RX0 42 yX0_lengthenMap, Cond.instanceMethod yX0_lengthenMap, Cond.selects RX0 yX0_lengthenMap yX0_lengthenMap, Cond.code yX0_lengthenMap cX0_lengthenMap 3 none]
def wsX4_past_r2 : List Cond := [Cond.fieldLink RX0 24 "PastDraws$Chain" "longerMap" "[I", Cond.fieldLink RX0 17 "PastDraws$Chain" "next" "[[I", Cond.methodLink RX0 50 arraycopyName, Cond.native arraycopyName, Cond.static arraycopyName, Cond.initialized "java/lang/System", Cond.methodLink RX0 46 yX0_mapMeets, Cond.instanceMethod yX0_mapMeets, Cond.selects RX0 yX0_mapMeets yX0_mapMeets, Cond.code yX0_mapMeets cX0_mapMeets 2 (some .boolean), Cond.methodLink RX4 91 yX4_powerFrom, Cond.static yX4_powerFrom, Cond.code yX4_powerFrom cX4_powerFrom 2 (some .int), Cond.methodLink RX4 85 yX0_throughPast, Cond.instanceMethod yX0_throughPast, Cond.selects RX0 yX0_throughPast yX0_throughPast, Cond.code yX0_throughPast cX0_throughPast 6 (some .int)]
def wsX4_past : List Cond := .code yX4_past cX4_past 5 (some .int) :: ((wsX4_past_r1 ++ wsX4_past_r2) ++ wsX40 ++ wsX00)
def wsX4_fold_r1 : List Cond := [Cond.fieldLink RX4 27 "PastDraws" "chain" "LPastDraws$Chain;", Cond.methodLink RX4 77 yX4_isWithin, Cond.static yX4_isWithin, Cond.initialized RX4, Cond.code yX4_isWithin cX4_isWithin 3 (some .boolean), Cond.methodLink RX4 88 yX0_leastMeeting, Cond.instanceMethod yX0_leastMeeting, Cond.selects RX0 yX0_leastMeeting yX0_leastMeeting, Cond.initialized RX0, Cond.code yX0_leastMeeting cX0_leastMeeting 4 (some .int), Cond.fieldLink RX0 9 "PastDraws$Chain" "n" "I", Cond.fieldLink RX0 20 "PastDraws$Chain" "map" "[I", Cond.static yX4_signAt, Cond.code yX4_signAt cX4_signAt 2 (some .int), Cond.methodLink RX4 52 yX4_mixed, Cond.static yX4_mixed, Cond.code yX4_mixed cX4_mixed 3 (some .int), Cond.constant RX4 172 (-1640531527), Cond.constant RX4 173 (-2048144789), Cond.constant RX4 174 (-1028477387), Cond.methodLink RX0 42 yX0_lengthenMap, Cond.instanceMethod yX0_lengthenMap, Cond.selects RX0 yX0_lengthenMap yX0_lengthenMap, Cond.code yX0_lengthenMap cX0_lengthenMap 3 none]
def wsX4_fold_r2 : List Cond := [Cond.fieldLink RX0 24 "PastDraws$Chain" "longerMap" "[I", Cond.fieldLink RX0 17 "PastDraws$Chain" "next" "[[I", Cond.methodLink RX0 50 arraycopyName, Cond.native arraycopyName, Cond.static arraycopyName, Cond.initialized "java/lang/System", Cond.methodLink RX0 46 yX0_mapMeets, Cond.instanceMethod yX0_mapMeets, Cond.selects RX0 yX0_mapMeets yX0_mapMeets, Cond.code yX0_mapMeets cX0_mapMeets 2 (some .boolean)]
def wsX4_fold : List Cond := .code yX4_fold cX4_fold 3 (some .int) :: ((wsX4_fold_r1 ++ wsX4_fold_r2) ++ wsX40 ++ wsX00)
def wsX4_bounding_r1 : List Cond := [Cond.fieldLink RX4 27 "PastDraws" "chain" "LPastDraws$Chain;", Cond.methodLink RX4 77 yX4_isWithin, Cond.static yX4_isWithin, Cond.initialized RX4, Cond.code yX4_isWithin cX4_isWithin 3 (some .boolean), Cond.methodLink RX4 95 yX0_leastBounded, Cond.instanceMethod yX0_leastBounded, Cond.selects RX0 yX0_leastBounded yX0_leastBounded, Cond.initialized RX0, Cond.code yX0_leastBounded cX0_leastBounded 4 (some .int), Cond.methodLink RX0 56 yX0_boundsMeet, Cond.instanceMethod yX0_boundsMeet, Cond.selects RX0 yX0_boundsMeet yX0_boundsMeet, Cond.code yX0_boundsMeet cX0_boundsMeet 10 (some .boolean), Cond.fieldLink RX0 9 "PastDraws$Chain" "n" "I", Cond.fieldLink RX0 17 "PastDraws$Chain" "next" "[[I", Cond.methodLink RX0 60 Lib.Math.min.name, Cond.static Lib.Math.min.name, Cond.initialized "java/lang/Math", Cond.code Lib.Math.min.name Lib.Math.min.code 2 (some .int), Cond.methodLink RX0 65 Lib.Math.max.name, Cond.static Lib.Math.max.name, Cond.code Lib.Math.max.name Lib.Math.max.code 2 (some .int), Cond.static yX4_signAt]
def wsX4_bounding_r2 : List Cond := [Cond.code yX4_signAt cX4_signAt 2 (some .int), Cond.methodLink RX4 52 yX4_mixed, Cond.static yX4_mixed, Cond.code yX4_mixed cX4_mixed 3 (some .int), Cond.constant RX4 172 (-1640531527), Cond.constant RX4 173 (-2048144789), Cond.constant RX4 174 (-1028477387)]
def wsX4_bounding : List Cond := .code yX4_bounding cX4_bounding 3 (some .int) :: ((wsX4_bounding_r1 ++ wsX4_bounding_r2) ++ wsX40 ++ wsX00)
def wsX4_monotone : List Cond := .code yX4_monotone cX4_monotone 1 (some .int) :: ([.fieldLink RX4 27 "PastDraws" "chain" "LPastDraws$Chain;", .methodLink RX4 98 yX0_keepsOrder, .instanceMethod yX0_keepsOrder, .selects RX0 yX0_keepsOrder yX0_keepsOrder, .initialized RX0, .code yX0_keepsOrder cX0_keepsOrder 3 (some .boolean), .fieldLink RX0 9 "PastDraws$Chain" "n" "I", .fieldLink RX0 17 "PastDraws$Chain" "next" "[[I"] ++ wsX40 ++ wsX00)
def wsX4_counted_r1 : List Cond := [Cond.fieldLink RX4 18 "PastDraws" "stateCount" "I", Cond.fieldLink RX4 27 "PastDraws" "chain" "LPastDraws$Chain;", Cond.methodLink RX4 77 yX4_isWithin, Cond.static yX4_isWithin, Cond.initialized RX4, Cond.code yX4_isWithin cX4_isWithin 3 (some .boolean), Cond.methodLink RX4 102 yX0_rowsMeeting, Cond.instanceMethod yX0_rowsMeeting, Cond.selects RX0 yX0_rowsMeeting yX0_rowsMeeting, Cond.initialized RX0, Cond.code yX0_rowsMeeting cX0_rowsMeeting 5 (some .int), Cond.fieldLink RX0 27 "PastDraws$Chain" "rowsTo" "[I", Cond.methodLink RX0 68 yJ7_fill_53178, Cond.static yJ7_fill_53178, Cond.initialized RJ7, Cond.code yJ7_fill_53178 cJ7_fill_53178 4 none, Cond.methodLink RX0 74 yX0_allStates, Cond.instanceMethod yX0_allStates, Cond.selects RX0 yX0_allStates yX0_allStates, Cond.code yX0_allStates cX0_allStates 1 (some .int), Cond.fieldLink RX0 9 "PastDraws$Chain" "n" "I", Cond.methodLink RX0 78 yX0_lengthenRows, Cond.instanceMethod yX0_lengthenRows, Cond.selects RX0 yX0_lengthenRows yX0_lengthenRows]
def wsX4_counted_r2 : List Cond := [Cond.code yX0_lengthenRows cX0_lengthenRows 3 none, Cond.fieldLink RX0 30 "PastDraws$Chain" "longerRowsTo" "[I", Cond.methodLink RX0 50 arraycopyName, Cond.native arraycopyName, Cond.static arraycopyName, Cond.initialized "java/lang/System", Cond.methodLink RX0 85 yX0_imageOf, Cond.instanceMethod yX0_imageOf, Cond.selects RX0 yX0_imageOf yX0_imageOf, Cond.code yX0_imageOf cX0_imageOf 5 (some .int), Cond.fieldLink RX0 17 "PastDraws$Chain" "next" "[[I", Cond.methodLink RX0 81 yX0_isSingle, Cond.static yX0_isSingle, Cond.code yX0_isSingle cX0_isSingle 1 (some .boolean)]
def wsX4_counted : List Cond := .code yX4_counted cX4_counted 3 (some .int) :: ((wsX4_counted_r1 ++ wsX4_counted_r2) ++ wsX40 ++ wsX00)
def wsX4_trees_r1 : List Cond := [Cond.fieldLink RX4 18 "PastDraws" "stateCount" "I", Cond.constantLong RX4 59 (-1), Cond.fieldLink RX4 27 "PastDraws" "chain" "LPastDraws$Chain;", Cond.methodLink RX4 77 yX4_isWithin, Cond.static yX4_isWithin, Cond.initialized RX4, Cond.code yX4_isWithin cX4_isWithin 3 (some .boolean), Cond.methodLink RX4 105 yX0_allTrees, Cond.instanceMethod yX0_allTrees, Cond.selects RX0 yX0_allTrees yX0_allTrees, Cond.initialized RX0, Cond.code yX0_allTrees cX0_allTrees 4 (some .long), Cond.fieldLink RX0 9 "PastDraws$Chain" "n" "I", Cond.methodLink RX0 88 yX0_treesTo, Cond.instanceMethod yX0_treesTo, Cond.selects RX0 yX0_treesTo yX0_treesTo, Cond.code yX0_treesTo cX0_treesTo 3 (some .long), Cond.methodLink RX0 92 yX0_fillMinorRow, Cond.instanceMethod yX0_fillMinorRow, Cond.selects RX0 yX0_fillMinorRow yX0_fillMinorRow, Cond.code yX0_fillMinorRow cX0_fillMinorRow 7 none, Cond.fieldLink RX0 35 "PastDraws$Chain" "minor" "[[J", Cond.fieldLink RX0 17 "PastDraws$Chain" "next" "[[I", Cond.methodLink RX0 99 yX0_indexWithout]
def wsX4_trees_r2 : List Cond := [Cond.static yX0_indexWithout, Cond.code yX0_indexWithout cX0_indexWithout 2 (some .int), Cond.methodLink RX0 102 yJ7_fill_d0a16, Cond.static yJ7_fill_d0a16, Cond.initialized RJ7, Cond.code yJ7_fill_d0a16 cJ7_fill_d0a16 5 none, Cond.methodLink RX0 96 yX0_determinant, Cond.instanceMethod yX0_determinant, Cond.selects RX0 yX0_determinant yX0_determinant, Cond.code yX0_determinant cX0_determinant 11 (some .long), Cond.methodLink RX4 109 yX0_treesTo]
def wsX4_trees : List Cond := .code yX4_trees cX4_trees 2 (some .long) :: ((wsX4_trees_r1 ++ wsX4_trees_r2) ++ wsX40 ++ wsX00)
def wsX4_once_r1 : List Cond := [Cond.fieldLink RX4 27 "PastDraws" "chain" "LPastDraws$Chain;", Cond.methodLink RX4 77 yX4_isWithin, Cond.static yX4_isWithin, Cond.initialized RX4, Cond.code yX4_isWithin cX4_isWithin 3 (some .boolean), Cond.methodLink RX4 113 yX0_drawOf, Cond.instanceMethod yX0_drawOf, Cond.selects RX0 yX0_drawOf yX0_drawOf, Cond.initialized RX0, Cond.code yX0_drawOf cX0_drawOf 10 (some .int), Cond.methodLink RX0 105 yX0_blockMeets, Cond.instanceMethod yX0_blockMeets, Cond.selects RX0 yX0_blockMeets yX0_blockMeets, Cond.code yX0_blockMeets cX0_blockMeets 6 (some .boolean), Cond.methodLink RX0 74 yX0_allStates, Cond.instanceMethod yX0_allStates, Cond.selects RX0 yX0_allStates yX0_allStates, Cond.code yX0_allStates cX0_allStates 1 (some .int), Cond.fieldLink RX0 9 "PastDraws$Chain" "n" "I", Cond.methodLink RX0 81 yX0_isSingle, Cond.static yX0_isSingle, Cond.code yX0_isSingle cX0_isSingle 1 (some .boolean), Cond.static yX4_signAt, Cond.code yX4_signAt cX4_signAt 2 (some .int)]
def wsX4_once_r2 : List Cond := [Cond.methodLink RX4 52 yX4_mixed, Cond.static yX4_mixed, Cond.code yX4_mixed cX4_mixed 3 (some .int), Cond.constant RX4 172 (-1640531527), Cond.constant RX4 173 (-2048144789), Cond.constant RX4 174 (-1028477387), Cond.methodLink RX0 85 yX0_imageOf, Cond.instanceMethod yX0_imageOf, Cond.selects RX0 yX0_imageOf yX0_imageOf, Cond.code yX0_imageOf cX0_imageOf 5 (some .int), Cond.fieldLink RX0 17 "PastDraws$Chain" "next" "[[I", Cond.methodLink RX0 109 yX0_throughBlock, Cond.instanceMethod yX0_throughBlock, Cond.selects RX0 yX0_throughBlock yX0_throughBlock, Cond.code yX0_throughBlock cX0_throughBlock 7 (some .int)]
def wsX4_once : List Cond := .code yX4_once cX4_once 4 (some .int) :: ((wsX4_once_r1 ++ wsX4_once_r2) ++ wsX40 ++ wsX00)
def wsX4_lead : List Cond := .code yX4_lead cX4_lead 4 (some .int) :: ([.fieldLink RX4 34 "PastDraws" "machine" "LPastDraws$Machine;", .methodLink RX4 73 yX4_isState, .instanceMethod yX4_isState, .selects RX4 yX4_isState yX4_isState, .initialized RX4, .code yX4_isState cX4_isState 2 (some .boolean), .fieldLink RX4 18 "PastDraws" "stateCount" "I", .methodLink RX4 77 yX4_isWithin, .static yX4_isWithin, .code yX4_isWithin cX4_isWithin 3 (some .boolean), .methodLink RX4 116 yX1_setStep, .instanceMethod yX1_setStep, .selects RX1 yX1_setStep yX1_setStep, .initialized RX1, .code yX1_setStep cX1_setStep 5 (some .int), .fieldLink RX1 17 "PastDraws$Machine" "next" "[[I"] ++ wsX40 ++ wsX10)
def wsX4_end : List Cond := .code yX4_end cX4_end 3 (some .int) :: ([.fieldLink RX4 34 "PastDraws" "machine" "LPastDraws$Machine;", .methodLink RX4 73 yX4_isState, .instanceMethod yX4_isState, .selects RX4 yX4_isState yX4_isState, .initialized RX4, .code yX4_isState cX4_isState 2 (some .boolean), .fieldLink RX4 18 "PastDraws" "stateCount" "I", .methodLink RX4 117 yX1_setEnd, .instanceMethod yX1_setEnd, .selects RX1 yX1_setEnd yX1_setEnd, .initialized RX1, .code yX1_setEnd cX1_setEnd 4 (some .boolean), .fieldLink RX1 20 "PastDraws$Machine" "ends" "[Z"] ++ wsX40 ++ wsX10)
def wsX4_words : List Cond := .code yX4_words cX4_words 2 (some .long) :: ([.constantLong RX4 59 (-1), .fieldLink RX4 34 "PastDraws" "machine" "LPastDraws$Machine;", .methodLink RX4 77 yX4_isWithin, .static yX4_isWithin, .initialized RX4, .code yX4_isWithin cX4_isWithin 3 (some .boolean), .methodLink RX4 121 yX1_countAll, .instanceMethod yX1_countAll, .selects RX1 yX1_countAll yX1_countAll, .initialized RX1, .code yX1_countAll cX1_countAll 4 (some .long), .fieldLink RX1 9 "PastDraws$Machine" "n" "I", .fieldLink RX1 26 "PastDraws$Machine" "counts" "[[J", .fieldLink RX1 20 "PastDraws$Machine" "ends" "[Z", .methodLink RX1 35 yX1_countBefore, .instanceMethod yX1_countBefore, .selects RX1 yX1_countBefore yX1_countBefore, .code yX1_countBefore cX1_countBefore 7 (some .long), .methodLink RX1 39 yX1_countWith, .instanceMethod yX1_countWith, .selects RX1 yX1_countWith yX1_countWith, .code yX1_countWith cX1_countWith 5 (some .long), .fieldLink RX1 17 "PastDraws$Machine" "next" "[[I"] ++ wsX40 ++ wsX10)
def wsX4_word_r1 : List Cond := [Cond.fieldLink RX4 34 "PastDraws" "machine" "LPastDraws$Machine;", Cond.methodLink RX4 77 yX4_isWithin, Cond.static yX4_isWithin, Cond.initialized RX4, Cond.code yX4_isWithin cX4_isWithin 3 (some .boolean), Cond.methodLink RX4 121 yX1_countAll, Cond.instanceMethod yX1_countAll, Cond.selects RX1 yX1_countAll yX1_countAll, Cond.initialized RX1, Cond.code yX1_countAll cX1_countAll 4 (some .long), Cond.fieldLink RX1 9 "PastDraws$Machine" "n" "I", Cond.fieldLink RX1 26 "PastDraws$Machine" "counts" "[[J", Cond.fieldLink RX1 20 "PastDraws$Machine" "ends" "[Z", Cond.methodLink RX1 35 yX1_countBefore, Cond.instanceMethod yX1_countBefore, Cond.selects RX1 yX1_countBefore yX1_countBefore, Cond.code yX1_countBefore cX1_countBefore 7 (some .long), Cond.methodLink RX1 39 yX1_countWith, Cond.instanceMethod yX1_countWith, Cond.selects RX1 yX1_countWith yX1_countWith, Cond.code yX1_countWith cX1_countWith 5 (some .long), Cond.fieldLink RX1 17 "PastDraws$Machine" "next" "[[I", Cond.methodLink RX4 124 yX1_letterOf, Cond.instanceMethod yX1_letterOf]
def wsX4_word_r2 : List Cond := [Cond.selects RX1 yX1_letterOf yX1_letterOf, Cond.code yX1_letterOf cX1_letterOf 11 (some .int), Cond.methodLink RX1 42 yX1_letterAt, Cond.instanceMethod yX1_letterAt, Cond.selects RX1 yX1_letterAt yX1_letterAt, Cond.code yX1_letterAt cX1_letterAt 6 (some .int)]
def wsX4_word : List Cond := .code yX4_word cX4_word 5 (some .int) :: ((wsX4_word_r1 ++ wsX4_word_r2) ++ wsX40 ++ wsX10)
def wsX4_rank_r1 : List Cond := [Cond.constantLong RX4 59 (-1), Cond.fieldLink RX4 34 "PastDraws" "machine" "LPastDraws$Machine;", Cond.methodLink RX4 77 yX4_isWithin, Cond.static yX4_isWithin, Cond.initialized RX4, Cond.code yX4_isWithin cX4_isWithin 3 (some .boolean), Cond.methodLink RX4 121 yX1_countAll, Cond.instanceMethod yX1_countAll, Cond.selects RX1 yX1_countAll yX1_countAll, Cond.initialized RX1, Cond.code yX1_countAll cX1_countAll 4 (some .long), Cond.fieldLink RX1 9 "PastDraws$Machine" "n" "I", Cond.fieldLink RX1 26 "PastDraws$Machine" "counts" "[[J", Cond.fieldLink RX1 20 "PastDraws$Machine" "ends" "[Z", Cond.methodLink RX1 35 yX1_countBefore, Cond.instanceMethod yX1_countBefore, Cond.selects RX1 yX1_countBefore yX1_countBefore, Cond.code yX1_countBefore cX1_countBefore 7 (some .long), Cond.methodLink RX1 39 yX1_countWith, Cond.instanceMethod yX1_countWith, Cond.selects RX1 yX1_countWith yX1_countWith, Cond.code yX1_countWith cX1_countWith 5 (some .long), Cond.fieldLink RX1 17 "PastDraws$Machine" "next" "[[I", Cond.methodLink RX4 127 yX1_numberOf]
def wsX4_rank_r2 : List Cond := [Cond.instanceMethod yX1_numberOf, Cond.selects RX1 yX1_numberOf yX1_numberOf, Cond.code yX1_numberOf cX1_numberOf 9 (some .long), Cond.constantLong RX1 46 (-2)]
def wsX4_rank : List Cond := .code yX4_rank cX4_rank 4 (some .long) :: ((wsX4_rank_r1 ++ wsX4_rank_r2) ++ wsX40 ++ wsX10)
def wsX4_allow : List Cond := .code yX4_allow cX4_allow 4 (some .int) :: ([.fieldLink RX4 41 "PastDraws" "orders" "LPastDraws$Orders;", .methodLink RX4 77 yX4_isWithin, .static yX4_isWithin, .initialized RX4, .code yX4_isWithin cX4_isWithin 3 (some .boolean), .methodLink RX4 131 yX2_setAllowed, .instanceMethod yX2_setAllowed, .selects RX2 yX2_setAllowed yX2_setAllowed, .initialized RX2, .code yX2_setAllowed cX2_setAllowed 5 (some .boolean), .fieldLink RX2 9 "PastDraws$Orders" "allowed" "[I"] ++ wsX40 ++ wsX20)
def wsX4_permutations_r1 : List Cond := [Cond.fieldLink RX4 41 "PastDraws" "orders" "LPastDraws$Orders;", Cond.methodLink RX4 77 yX4_isWithin, Cond.static yX4_isWithin, Cond.initialized RX4, Cond.code yX4_isWithin cX4_isWithin 3 (some .boolean), Cond.methodLink RX4 135 yX2_countAll, Cond.instanceMethod yX2_countAll, Cond.selects RX2 yX2_countAll yX2_countAll, Cond.initialized RX2, Cond.code yX2_countAll cX2_countAll 4 (some .int), Cond.fieldLink RX2 15 "PastDraws$Orders" "ways" "[I", Cond.methodLink RX2 24 yX2_waysBefore, Cond.instanceMethod yX2_waysBefore, Cond.selects RX2 yX2_waysBefore yX2_waysBefore, Cond.code yX2_waysBefore cX2_waysBefore 6 (some .int), Cond.methodLink RX2 34 yX2_isFree, Cond.instanceMethod yX2_isFree, Cond.selects RX2 yX2_isFree yX2_isFree, Cond.code yX2_isFree cX2_isFree 4 (some .boolean), Cond.fieldLink RX2 9 "PastDraws$Orders" "allowed" "[I", Cond.methodLink RX2 28 yJ6_bitCount_0f7a4, Cond.static yJ6_bitCount_0f7a4, Cond.initialized RJ6, Cond.code yJ6_bitCount_0f7a4 cJ6_bitCount_0f7a4 1 (some .int)]
def wsX4_permutations_r2 : List Cond := [Cond.constant RJ6 265 (1431655765), Cond.constant RJ6 266 (858993459), Cond.constant RJ6 267 (252645135)]
def wsX4_permutations : List Cond := .code yX4_permutations cX4_permutations 2 (some .int) :: ((wsX4_permutations_r1 ++ wsX4_permutations_r2) ++ wsX40 ++ wsX20)
def wsX4_permutation_r1 : List Cond := [Cond.fieldLink RX4 41 "PastDraws" "orders" "LPastDraws$Orders;", Cond.methodLink RX4 77 yX4_isWithin, Cond.static yX4_isWithin, Cond.initialized RX4, Cond.code yX4_isWithin cX4_isWithin 3 (some .boolean), Cond.methodLink RX4 135 yX2_countAll, Cond.instanceMethod yX2_countAll, Cond.selects RX2 yX2_countAll yX2_countAll, Cond.initialized RX2, Cond.code yX2_countAll cX2_countAll 4 (some .int), Cond.fieldLink RX2 15 "PastDraws$Orders" "ways" "[I", Cond.methodLink RX2 24 yX2_waysBefore, Cond.instanceMethod yX2_waysBefore, Cond.selects RX2 yX2_waysBefore yX2_waysBefore, Cond.code yX2_waysBefore cX2_waysBefore 6 (some .int), Cond.methodLink RX2 34 yX2_isFree, Cond.instanceMethod yX2_isFree, Cond.selects RX2 yX2_isFree yX2_isFree, Cond.code yX2_isFree cX2_isFree 4 (some .boolean), Cond.fieldLink RX2 9 "PastDraws$Orders" "allowed" "[I", Cond.methodLink RX2 28 yJ6_bitCount_0f7a4, Cond.static yJ6_bitCount_0f7a4, Cond.initialized RJ6, Cond.code yJ6_bitCount_0f7a4 cJ6_bitCount_0f7a4 1 (some .int)]
def wsX4_permutation_r2 : List Cond := [Cond.constant RJ6 265 (1431655765), Cond.constant RJ6 266 (858993459), Cond.constant RJ6 267 (252645135), Cond.methodLink RX4 137 yX2_atPlace, Cond.instanceMethod yX2_atPlace, Cond.selects RX2 yX2_atPlace yX2_atPlace, Cond.code yX2_atPlace cX2_atPlace 8 (some .int), Cond.methodLink RX2 38 yX2_nextNumber, Cond.instanceMethod yX2_nextNumber, Cond.selects RX2 yX2_nextNumber yX2_nextNumber, Cond.code yX2_nextNumber cX2_nextNumber 5 (some .int)]
def wsX4_permutation : List Cond := .code yX4_permutation cX4_permutation 4 (some .int) :: ((wsX4_permutation_r1 ++ wsX4_permutation_r2) ++ wsX40 ++ wsX20)
def wsX4_place_r1 : List Cond := [Cond.fieldLink RX4 41 "PastDraws" "orders" "LPastDraws$Orders;", Cond.methodLink RX4 77 yX4_isWithin, Cond.static yX4_isWithin, Cond.initialized RX4, Cond.code yX4_isWithin cX4_isWithin 3 (some .boolean), Cond.methodLink RX4 135 yX2_countAll, Cond.instanceMethod yX2_countAll, Cond.selects RX2 yX2_countAll yX2_countAll, Cond.initialized RX2, Cond.code yX2_countAll cX2_countAll 4 (some .int), Cond.fieldLink RX2 15 "PastDraws$Orders" "ways" "[I", Cond.methodLink RX2 24 yX2_waysBefore, Cond.instanceMethod yX2_waysBefore, Cond.selects RX2 yX2_waysBefore yX2_waysBefore, Cond.code yX2_waysBefore cX2_waysBefore 6 (some .int), Cond.methodLink RX2 34 yX2_isFree, Cond.instanceMethod yX2_isFree, Cond.selects RX2 yX2_isFree yX2_isFree, Cond.code yX2_isFree cX2_isFree 4 (some .boolean), Cond.fieldLink RX2 9 "PastDraws$Orders" "allowed" "[I", Cond.methodLink RX2 28 yJ6_bitCount_0f7a4, Cond.static yJ6_bitCount_0f7a4, Cond.initialized RJ6, Cond.code yJ6_bitCount_0f7a4 cJ6_bitCount_0f7a4 1 (some .int)]
def wsX4_place_r2 : List Cond := [Cond.constant RJ6 265 (1431655765), Cond.constant RJ6 266 (858993459), Cond.constant RJ6 267 (252645135), Cond.methodLink RX4 140 yX2_numberOf, Cond.instanceMethod yX2_numberOf, Cond.selects RX2 yX2_numberOf yX2_numberOf, Cond.code yX2_numberOf cX2_numberOf 7 (some .int)]
def wsX4_place : List Cond := .code yX4_place cX4_place 3 (some .int) :: ((wsX4_place_r1 ++ wsX4_place_r2) ++ wsX40 ++ wsX20)
def wsX4_things : List Cond := .code yX4_things cX4_things 2 (some .int) :: ([.fieldLink RX4 48 "PastDraws" "table" "LPastDraws$Table;", .methodLink RX4 77 yX4_isWithin, .static yX4_isWithin, .initialized RX4, .code yX4_isWithin cX4_isWithin 3 (some .boolean), .methodLink RX4 142 yX3_setThings, .instanceMethod yX3_setThings, .selects RX3 yX3_setThings yX3_setThings, .initialized RX3, .code yX3_setThings cX3_setThings 3 (some .int), .fieldLink RX3 28 "PastDraws$Table" "m" "I", .fieldLink RX3 9 "PastDraws$Table" "weights" "[I", .methodLink RX3 32 yJ7_fill_53178, .static yJ7_fill_53178, .initialized RJ7, .code yJ7_fill_53178 cJ7_fill_53178 4 none] ++ wsX40 ++ wsX30)
def wsX4_weight : List Cond := .code yX4_weight cX4_weight 3 (some .int) :: ([.fieldLink RX4 48 "PastDraws" "table" "LPastDraws$Table;", .methodLink RX4 145 yX3_isThing, .instanceMethod yX3_isThing, .selects RX3 yX3_isThing yX3_isThing, .initialized RX3, .code yX3_isThing cX3_isThing 2 (some .boolean), .fieldLink RX3 28 "PastDraws$Table" "m" "I", .methodLink RX4 77 yX4_isWithin, .static yX4_isWithin, .initialized RX4, .code yX4_isWithin cX4_isWithin 3 (some .boolean), .methodLink RX4 148 yX3_setWeight, .instanceMethod yX3_setWeight, .selects RX3 yX3_setWeight yX3_setWeight, .code yX3_setWeight cX3_setWeight 4 (some .int), .fieldLink RX3 9 "PastDraws$Table" "weights" "[I"] ++ wsX40 ++ wsX30)
def wsX4_cell_r1 : List Cond := [Cond.fieldLink RX4 48 "PastDraws" "table" "LPastDraws$Table;", Cond.methodLink RX4 145 yX3_isThing, Cond.instanceMethod yX3_isThing, Cond.selects RX3 yX3_isThing yX3_isThing, Cond.initialized RX3, Cond.code yX3_isThing cX3_isThing 2 (some .boolean), Cond.fieldLink RX3 28 "PastDraws$Table" "m" "I", Cond.methodLink RX4 77 yX4_isWithin, Cond.static yX4_isWithin, Cond.initialized RX4, Cond.code yX4_isWithin cX4_isWithin 3 (some .boolean), Cond.methodLink RX4 151 yX3_sum, Cond.instanceMethod yX3_sum, Cond.selects RX3 yX3_sum yX3_sum, Cond.code yX3_sum cX3_sum 3 (some .int), Cond.fieldLink RX3 9 "PastDraws$Table" "weights" "[I", Cond.methodLink RX4 155 yX3_make, Cond.instanceMethod yX3_make, Cond.selects RX3 yX3_make yX3_make, Cond.code yX3_make cX3_make 5 none, Cond.fieldLink RX3 15 "PastDraws$Table" "rest" "[I", Cond.fieldLink RX3 18 "PastDraws$Table" "limit" "[I", Cond.fieldLink RX3 21 "PastDraws$Table" "other" "[I", Cond.fieldLink RX3 24 "PastDraws$Table" "isMade" "[Z"]
def wsX4_cell_r2 : List Cond := [Cond.methodLink RX3 38 yX3_firstUnder, Cond.instanceMethod yX3_firstUnder, Cond.selects RX3 yX3_firstUnder yX3_firstUnder, Cond.code yX3_firstUnder cX3_firstUnder 3 (some .int), Cond.methodLink RX3 42 yX3_firstOver, Cond.instanceMethod yX3_firstOver, Cond.selects RX3 yX3_firstOver yX3_firstOver, Cond.code yX3_firstOver cX3_firstOver 3 (some .int), Cond.methodLink RX4 158 yX3_limitOf, Cond.instanceMethod yX3_limitOf, Cond.selects RX3 yX3_limitOf yX3_limitOf, Cond.code yX3_limitOf cX3_limitOf 2 (some .int), Cond.methodLink RX4 161 yX3_otherOf, Cond.instanceMethod yX3_otherOf, Cond.selects RX3 yX3_otherOf yX3_otherOf, Cond.code yX3_otherOf cX3_otherOf 2 (some .int)]
def wsX4_cell : List Cond := .code yX4_cell cX4_cell 4 (some .int) :: ((wsX4_cell_r1 ++ wsX4_cell_r2) ++ wsX40 ++ wsX30)
def wsJ9_floorDiv_7cf53 : List Cond := .code yJ9_floorDiv_7cf53 cJ9_floorDiv_7cf53 3 (some .int) :: ([])
def wsX4_tell_r1 : List Cond := [Cond.fieldLink RX4 48 "PastDraws" "table" "LPastDraws$Table;", Cond.methodLink RX4 151 yX3_sum, Cond.instanceMethod yX3_sum, Cond.selects RX3 yX3_sum yX3_sum, Cond.initialized RX3, Cond.code yX3_sum cX3_sum 3 (some .int), Cond.fieldLink RX3 28 "PastDraws$Table" "m" "I", Cond.fieldLink RX3 9 "PastDraws$Table" "weights" "[I", Cond.methodLink RX4 164 yJ9_floorDiv_7cf53, Cond.static yJ9_floorDiv_7cf53, Cond.initialized RJ9, Cond.code yJ9_floorDiv_7cf53 cJ9_floorDiv_7cf53 3 (some .int), Cond.methodLink RX4 145 yX3_isThing, Cond.instanceMethod yX3_isThing, Cond.selects RX3 yX3_isThing yX3_isThing, Cond.code yX3_isThing cX3_isThing 2 (some .boolean), Cond.methodLink RX4 155 yX3_make, Cond.instanceMethod yX3_make, Cond.selects RX3 yX3_make yX3_make, Cond.code yX3_make cX3_make 5 none, Cond.fieldLink RX3 15 "PastDraws$Table" "rest" "[I", Cond.fieldLink RX3 18 "PastDraws$Table" "limit" "[I", Cond.fieldLink RX3 21 "PastDraws$Table" "other" "[I", Cond.fieldLink RX3 24 "PastDraws$Table" "isMade" "[Z"]
def wsX4_tell_r2 : List Cond := [Cond.methodLink RX3 38 yX3_firstUnder, Cond.instanceMethod yX3_firstUnder, Cond.selects RX3 yX3_firstUnder yX3_firstUnder, Cond.code yX3_firstUnder cX3_firstUnder 3 (some .int), Cond.methodLink RX3 42 yX3_firstOver, Cond.instanceMethod yX3_firstOver, Cond.selects RX3 yX3_firstOver yX3_firstOver, Cond.code yX3_firstOver cX3_firstOver 3 (some .int), Cond.methodLink RX4 167 yX3_thingAt, Cond.instanceMethod yX3_thingAt, Cond.selects RX3 yX3_thingAt yX3_thingAt, Cond.code yX3_thingAt cX3_thingAt 3 (some .int)]
def wsX4_tell : List Cond := .code yX4_tell cX4_tell 3 (some .int) :: ((wsX4_tell_r1 ++ wsX4_tell_r2) ++ wsX40 ++ wsX30)
def wsX5_init : List Cond := .code yX5_init cX5_init 4 none :: ([.methodLink RX5 1 objectInit, .instanceMethod objectInit, .code objectInit ⟨#[0xb1]⟩ 1 none, .arrayClass .int, .fieldLink RX5 7 "PastDrawsModel" "rules" "[I", .fieldLink RX5 13 "PastDrawsModel" "leads" "[I", .arrayClass .boolean, .fieldLink RX5 16 "PastDrawsModel" "isEnd" "[Z", .fieldLink RX5 20 "PastDrawsModel" "isAllowed" "[Z", .fieldLink RX5 23 "PastDrawsModel" "things" "I", .fieldLink RX5 27 "PastDrawsModel" "weights" "[I", .fieldLink RX5 30 "PastDrawsModel" "whole" "[I", .fieldLink RX5 33 "PastDrawsModel" "next" "[I", .fieldLink RX5 36 "PastDrawsModel" "bounds" "[I", .fieldLink RX5 39 "PastDrawsModel" "nextBounds" "[I", .arrayClass .long, .fieldLink RX5 42 "PastDrawsModel" "cells" "[J", .fieldLink RX5 46 "PastDrawsModel" "from" "[J", .fieldLink RX5 49 "PastDrawsModel" "ways" "[I", .fieldLink RX5 52 "PastDrawsModel" "limit" "[I", .fieldLink RX5 55 "PastDrawsModel" "other" "[I", .fieldLink RX5 58 "PastDrawsModel" "rest" "[I", .fieldLink RX5 61 "PastDrawsModel" "isMade" "[Z", .fieldLink RX5 64 "PastDrawsModel" "n" "I"] ++ wsX50)
def wsX5_in : List Cond := .code yX5_in cX5_in 6 (some .boolean) :: ([])
def wsX5_isState : List Cond := .code yX5_isState cX5_isState 2 (some .boolean) :: ([.fieldLink RX5 64 "PastDrawsModel" "n" "I", .methodLink RX5 67 yX5_in, .static yX5_in, .initialized RX5, .code yX5_in cX5_in 6 (some .boolean)] ++ wsX50)
def wsX5_hash : List Cond := .code yX5_hash cX5_hash 4 (some .int) :: ([.constant RX5 71 (-1640531527), .constant RX5 72 (-2048144789), .constant RX5 73 (-1028477387)])
def wsX5_sign : List Cond := .code yX5_sign cX5_sign 3 (some .int) :: ([.methodLink RX5 74 yX5_hash, .instanceMethod yX5_hash, .selects RX5 yX5_hash yX5_hash, .initialized RX5, .code yX5_hash cX5_hash 4 (some .int), .constant RX5 71 (-1640531527), .constant RX5 72 (-2048144789), .constant RX5 73 (-1028477387)])
def wsX5_find : List Cond := .code yX5_find cX5_find 7 none :: ([.fieldLink RX5 78 "PastDrawsModel" "tried" "I", .fieldLink RX5 81 "PastDrawsModel" "picked" "J", .constantLong RX5 85 (4294967295), .methodLink RX5 74 yX5_hash, .instanceMethod yX5_hash, .selects RX5 yX5_hash yX5_hash, .initialized RX5, .code yX5_hash cX5_hash 4 (some .int), .constant RX5 71 (-1640531527), .constant RX5 72 (-2048144789), .constant RX5 73 (-1028477387)] ++ wsX50)
def wsX5_pick : List Cond := .code yX5_pick cX5_pick 4 (some .long) :: ([.constantLong RX5 87 (4611686018427387904), .constantLong RX5 89 (-1), .fieldLink RX5 81 "PastDrawsModel" "picked" "J", .methodLink RX5 67 yX5_in, .static yX5_in, .initialized RX5, .code yX5_in cX5_in 6 (some .boolean), .methodLink RX5 91 yX5_find, .instanceMethod yX5_find, .selects RX5 yX5_find yX5_find, .code yX5_find cX5_find 7 none, .fieldLink RX5 78 "PastDrawsModel" "tried" "I", .constantLong RX5 85 (4294967295), .methodLink RX5 74 yX5_hash, .instanceMethod yX5_hash, .selects RX5 yX5_hash yX5_hash, .code yX5_hash cX5_hash 4 (some .int), .constant RX5 71 (-1640531527), .constant RX5 72 (-2048144789), .constant RX5 73 (-1028477387)] ++ wsX50)
def wsX5_tries : List Cond := .code yX5_tries cX5_tries 4 (some .int) :: ([.constantLong RX5 87 (4611686018427387904), .fieldLink RX5 78 "PastDrawsModel" "tried" "I", .methodLink RX5 67 yX5_in, .static yX5_in, .initialized RX5, .code yX5_in cX5_in 6 (some .boolean), .methodLink RX5 91 yX5_find, .instanceMethod yX5_find, .selects RX5 yX5_find yX5_find, .code yX5_find cX5_find 7 none, .fieldLink RX5 81 "PastDrawsModel" "picked" "J", .constantLong RX5 85 (4294967295), .methodLink RX5 74 yX5_hash, .instanceMethod yX5_hash, .selects RX5 yX5_hash yX5_hash, .code yX5_hash cX5_hash 4 (some .int), .constant RX5 71 (-1640531527), .constant RX5 72 (-2048144789), .constant RX5 73 (-1028477387)] ++ wsX50)
def wsX5_rule : List Cond := .code yX5_rule cX5_rule 5 (some .int) :: ([.constantLong RX5 99 (7), .fieldLink RX5 7 "PastDrawsModel" "rules" "[I", .methodLink RX5 95 yX5_isState, .instanceMethod yX5_isState, .selects RX5 yX5_isState yX5_isState, .initialized RX5, .code yX5_isState cX5_isState 2 (some .boolean), .fieldLink RX5 64 "PastDrawsModel" "n" "I", .methodLink RX5 67 yX5_in, .static yX5_in, .code yX5_in cX5_in 6 (some .boolean)] ++ wsX50)
def wsX5_isLong : List Cond := .code yX5_isLong cX5_isLong 1 (some .boolean) :: ([.constantLong RX5 101 (4096), .methodLink RX5 67 yX5_in, .static yX5_in, .initialized RX5, .code yX5_in cX5_in 6 (some .boolean)])
def wsX5_taken_r1 : List Cond := [Cond.fieldLink RX5 7 "PastDrawsModel" "rules" "[I", Cond.methodLink RX5 103 yX5_isLong, Cond.static yX5_isLong, Cond.initialized RX5, Cond.code yX5_isLong cX5_isLong 1 (some .boolean), Cond.constantLong RX5 101 (4096), Cond.methodLink RX5 67 yX5_in, Cond.static yX5_in, Cond.code yX5_in cX5_in 6 (some .boolean), Cond.methodLink RX5 95 yX5_isState, Cond.instanceMethod yX5_isState, Cond.selects RX5 yX5_isState yX5_isState, Cond.code yX5_isState cX5_isState 2 (some .boolean), Cond.fieldLink RX5 64 "PastDrawsModel" "n" "I", Cond.methodLink RX5 106 yX5_sign, Cond.instanceMethod yX5_sign, Cond.selects RX5 yX5_sign yX5_sign, Cond.code yX5_sign cX5_sign 3 (some .int), Cond.methodLink RX5 74 yX5_hash, Cond.instanceMethod yX5_hash, Cond.selects RX5 yX5_hash yX5_hash, Cond.code yX5_hash cX5_hash 4 (some .int), Cond.constant RX5 71 (-1640531527), Cond.constant RX5 72 (-2048144789)]
def wsX5_taken_r2 : List Cond := [Cond.constant RX5 73 (-1028477387)]
def wsX5_taken : List Cond := .code yX5_taken cX5_taken 6 (some .int) :: ((wsX5_taken_r1 ++ wsX5_taken_r2) ++ wsX50)
def wsX5_begin : List Cond := .code yX5_begin cX5_begin 2 none :: ([.fieldLink RX5 64 "PastDrawsModel" "n" "I", .fieldLink RX5 30 "PastDrawsModel" "whole" "[I"] ++ wsX50)
def wsX5_ahead : List Cond := .code yX5_ahead cX5_ahead 3 none :: ([.fieldLink RX5 64 "PastDrawsModel" "n" "I", .fieldLink RX5 33 "PastDrawsModel" "next" "[I", .fieldLink RX5 30 "PastDrawsModel" "whole" "[I", .fieldLink RX5 7 "PastDrawsModel" "rules" "[I"] ++ wsX50)
def wsX5_behind : List Cond := .code yX5_behind cX5_behind 3 none :: ([.fieldLink RX5 64 "PastDrawsModel" "n" "I", .fieldLink RX5 30 "PastDrawsModel" "whole" "[I", .fieldLink RX5 7 "PastDrawsModel" "rules" "[I"] ++ wsX50)
def wsX5_meets : List Cond := .code yX5_meets cX5_meets 3 (some .boolean) :: ([.fieldLink RX5 64 "PastDrawsModel" "n" "I", .fieldLink RX5 30 "PastDrawsModel" "whole" "[I"] ++ wsX50)
def wsX5_past_r1 : List Cond := [Cond.fieldLink RX5 30 "PastDrawsModel" "whole" "[I", Cond.methodLink RX5 103 yX5_isLong, Cond.static yX5_isLong, Cond.initialized RX5, Cond.code yX5_isLong cX5_isLong 1 (some .boolean), Cond.constantLong RX5 101 (4096), Cond.methodLink RX5 67 yX5_in, Cond.static yX5_in, Cond.code yX5_in cX5_in 6 (some .boolean), Cond.methodLink RX5 109 yX5_begin, Cond.instanceMethod yX5_begin, Cond.selects RX5 yX5_begin yX5_begin, Cond.code yX5_begin cX5_begin 2 none, Cond.fieldLink RX5 64 "PastDrawsModel" "n" "I", Cond.methodLink RX5 106 yX5_sign, Cond.instanceMethod yX5_sign, Cond.selects RX5 yX5_sign yX5_sign, Cond.code yX5_sign cX5_sign 3 (some .int), Cond.methodLink RX5 74 yX5_hash, Cond.instanceMethod yX5_hash, Cond.selects RX5 yX5_hash yX5_hash, Cond.code yX5_hash cX5_hash 4 (some .int), Cond.constant RX5 71 (-1640531527), Cond.constant RX5 72 (-2048144789)]
def wsX5_past_r2 : List Cond := [Cond.constant RX5 73 (-1028477387), Cond.methodLink RX5 112 yX5_ahead, Cond.instanceMethod yX5_ahead, Cond.selects RX5 yX5_ahead yX5_ahead, Cond.code yX5_ahead cX5_ahead 3 none, Cond.fieldLink RX5 33 "PastDrawsModel" "next" "[I", Cond.fieldLink RX5 7 "PastDrawsModel" "rules" "[I", Cond.methodLink RX5 116 yX5_meets, Cond.instanceMethod yX5_meets, Cond.selects RX5 yX5_meets yX5_meets, Cond.code yX5_meets cX5_meets 3 (some .boolean)]
def wsX5_past : List Cond := .code yX5_past cX5_past 5 (some .int) :: ((wsX5_past_r1 ++ wsX5_past_r2) ++ wsX50)
def wsX5_fold_r1 : List Cond := [Cond.methodLink RX5 103 yX5_isLong, Cond.static yX5_isLong, Cond.initialized RX5, Cond.code yX5_isLong cX5_isLong 1 (some .boolean), Cond.constantLong RX5 101 (4096), Cond.methodLink RX5 67 yX5_in, Cond.static yX5_in, Cond.code yX5_in cX5_in 6 (some .boolean), Cond.methodLink RX5 109 yX5_begin, Cond.instanceMethod yX5_begin, Cond.selects RX5 yX5_begin yX5_begin, Cond.code yX5_begin cX5_begin 2 none, Cond.fieldLink RX5 64 "PastDrawsModel" "n" "I", Cond.fieldLink RX5 30 "PastDrawsModel" "whole" "[I", Cond.methodLink RX5 106 yX5_sign, Cond.instanceMethod yX5_sign, Cond.selects RX5 yX5_sign yX5_sign, Cond.code yX5_sign cX5_sign 3 (some .int), Cond.methodLink RX5 74 yX5_hash, Cond.instanceMethod yX5_hash, Cond.selects RX5 yX5_hash yX5_hash, Cond.code yX5_hash cX5_hash 4 (some .int), Cond.constant RX5 71 (-1640531527), Cond.constant RX5 72 (-2048144789)]
def wsX5_fold_r2 : List Cond := [Cond.constant RX5 73 (-1028477387), Cond.methodLink RX5 112 yX5_ahead, Cond.instanceMethod yX5_ahead, Cond.selects RX5 yX5_ahead yX5_ahead, Cond.code yX5_ahead cX5_ahead 3 none, Cond.fieldLink RX5 33 "PastDrawsModel" "next" "[I", Cond.fieldLink RX5 7 "PastDrawsModel" "rules" "[I", Cond.methodLink RX5 116 yX5_meets, Cond.instanceMethod yX5_meets, Cond.selects RX5 yX5_meets yX5_meets, Cond.code yX5_meets cX5_meets 3 (some .boolean)]
def wsX5_fold : List Cond := .code yX5_fold cX5_fold 4 (some .int) :: ((wsX5_fold_r1 ++ wsX5_fold_r2) ++ wsX50)
def wsX5_bound : List Cond := .code yX5_bound cX5_bound 8 (some .int) :: ([.fieldLink RX5 64 "PastDrawsModel" "n" "I", .fieldLink RX5 7 "PastDrawsModel" "rules" "[I"] ++ wsX50)
def wsX5_bounding : List Cond := .code yX5_bounding cX5_bounding 7 (some .int) :: ([.constantLong RX5 120 (64), .fieldLink RX5 36 "PastDrawsModel" "bounds" "[I", .fieldLink RX5 64 "PastDrawsModel" "n" "I", .fieldLink RX5 39 "PastDrawsModel" "nextBounds" "[I", .methodLink RX5 67 yX5_in, .static yX5_in, .initialized RX5, .code yX5_in cX5_in 6 (some .boolean), .methodLink RX5 106 yX5_sign, .instanceMethod yX5_sign, .selects RX5 yX5_sign yX5_sign, .code yX5_sign cX5_sign 3 (some .int), .methodLink RX5 74 yX5_hash, .instanceMethod yX5_hash, .selects RX5 yX5_hash yX5_hash, .code yX5_hash cX5_hash 4 (some .int), .constant RX5 71 (-1640531527), .constant RX5 72 (-2048144789), .constant RX5 73 (-1028477387), .methodLink RX5 122 yX5_bound, .instanceMethod yX5_bound, .selects RX5 yX5_bound yX5_bound, .code yX5_bound cX5_bound 8 (some .int), .fieldLink RX5 7 "PastDrawsModel" "rules" "[I"] ++ wsX50)
def wsX5_monotone : List Cond := .code yX5_monotone cX5_monotone 4 (some .int) :: ([.fieldLink RX5 64 "PastDrawsModel" "n" "I", .fieldLink RX5 7 "PastDrawsModel" "rules" "[I"] ++ wsX50)
def wsX5_counted : List Cond := .code yX5_counted cX5_counted 6 (some .int) :: ([.constantLong RX5 126 (5), .fieldLink RX5 30 "PastDrawsModel" "whole" "[I", .methodLink RX5 67 yX5_in, .static yX5_in, .initialized RX5, .code yX5_in cX5_in 6 (some .boolean), .methodLink RX5 95 yX5_isState, .instanceMethod yX5_isState, .selects RX5 yX5_isState yX5_isState, .code yX5_isState cX5_isState 2 (some .boolean), .fieldLink RX5 64 "PastDrawsModel" "n" "I", .methodLink RX5 109 yX5_begin, .instanceMethod yX5_begin, .selects RX5 yX5_begin yX5_begin, .code yX5_begin cX5_begin 2 none, .methodLink RX5 128 yX5_behind, .instanceMethod yX5_behind, .selects RX5 yX5_behind yX5_behind, .code yX5_behind cX5_behind 3 none, .fieldLink RX5 7 "PastDrawsModel" "rules" "[I", .methodLink RX5 116 yX5_meets, .instanceMethod yX5_meets, .selects RX5 yX5_meets yX5_meets, .code yX5_meets cX5_meets 3 (some .boolean)] ++ wsX50)
def wsX5_cellOf : List Cond := .code yX5_cellOf cX5_cellOf 6 (some .long) :: ([.fieldLink RX5 7 "PastDrawsModel" "rules" "[I"] ++ wsX50)
def wsX5_determinant : List Cond := .code yX5_determinant cX5_determinant 11 (some .long) :: ([.fieldLink RX5 42 "PastDrawsModel" "cells" "[J"] ++ wsX50)
def wsX5_treesOf : List Cond := .code yX5_treesOf cX5_treesOf 6 (some .long) :: ([.fieldLink RX5 64 "PastDrawsModel" "n" "I", .fieldLink RX5 42 "PastDrawsModel" "cells" "[J", .methodLink RX5 131 yX5_cellOf, .instanceMethod yX5_cellOf, .selects RX5 yX5_cellOf yX5_cellOf, .initialized RX5, .code yX5_cellOf cX5_cellOf 6 (some .long), .fieldLink RX5 7 "PastDrawsModel" "rules" "[I", .methodLink RX5 135 yX5_determinant, .instanceMethod yX5_determinant, .selects RX5 yX5_determinant yX5_determinant, .code yX5_determinant cX5_determinant 11 (some .long)] ++ wsX50)
def wsX5_trees : List Cond := .code yX5_trees cX5_trees 5 (some .long) :: ([.constantLong RX5 89 (-1), .fieldLink RX5 64 "PastDrawsModel" "n" "I", .methodLink RX5 95 yX5_isState, .instanceMethod yX5_isState, .selects RX5 yX5_isState yX5_isState, .initialized RX5, .code yX5_isState cX5_isState 2 (some .boolean), .methodLink RX5 67 yX5_in, .static yX5_in, .code yX5_in cX5_in 6 (some .boolean), .methodLink RX5 139 yX5_treesOf, .instanceMethod yX5_treesOf, .selects RX5 yX5_treesOf yX5_treesOf, .code yX5_treesOf cX5_treesOf 6 (some .long), .fieldLink RX5 42 "PastDrawsModel" "cells" "[J", .methodLink RX5 131 yX5_cellOf, .instanceMethod yX5_cellOf, .selects RX5 yX5_cellOf yX5_cellOf, .code yX5_cellOf cX5_cellOf 6 (some .long), .fieldLink RX5 7 "PastDrawsModel" "rules" "[I", .methodLink RX5 135 yX5_determinant, .instanceMethod yX5_determinant, .selects RX5 yX5_determinant yX5_determinant, .code yX5_determinant cX5_determinant 11 (some .long)] ++ wsX50)
def wsX5_once_r1 : List Cond := [Cond.constantLong RX5 120 (64), Cond.constantLong RX5 142 (99), Cond.fieldLink RX5 30 "PastDrawsModel" "whole" "[I", Cond.methodLink RX5 67 yX5_in, Cond.static yX5_in, Cond.initialized RX5, Cond.code yX5_in cX5_in 6 (some .boolean), Cond.methodLink RX5 109 yX5_begin, Cond.instanceMethod yX5_begin, Cond.selects RX5 yX5_begin yX5_begin, Cond.code yX5_begin cX5_begin 2 none, Cond.fieldLink RX5 64 "PastDrawsModel" "n" "I", Cond.methodLink RX5 106 yX5_sign, Cond.instanceMethod yX5_sign, Cond.selects RX5 yX5_sign yX5_sign, Cond.code yX5_sign cX5_sign 3 (some .int), Cond.methodLink RX5 74 yX5_hash, Cond.instanceMethod yX5_hash, Cond.selects RX5 yX5_hash yX5_hash, Cond.code yX5_hash cX5_hash 4 (some .int), Cond.constant RX5 71 (-1640531527), Cond.constant RX5 72 (-2048144789), Cond.constant RX5 73 (-1028477387), Cond.methodLink RX5 128 yX5_behind]
def wsX5_once_r2 : List Cond := [Cond.instanceMethod yX5_behind, Cond.selects RX5 yX5_behind yX5_behind, Cond.code yX5_behind cX5_behind 3 none, Cond.fieldLink RX5 7 "PastDrawsModel" "rules" "[I", Cond.methodLink RX5 116 yX5_meets, Cond.instanceMethod yX5_meets, Cond.selects RX5 yX5_meets yX5_meets, Cond.code yX5_meets cX5_meets 3 (some .boolean)]
def wsX5_once : List Cond := .code yX5_once cX5_once 8 (some .int) :: ((wsX5_once_r1 ++ wsX5_once_r2) ++ wsX50)
def wsX5_lead : List Cond := .code yX5_lead cX5_lead 5 (some .int) :: ([.constantLong RX5 144 (3), .fieldLink RX5 13 "PastDrawsModel" "leads" "[I", .methodLink RX5 95 yX5_isState, .instanceMethod yX5_isState, .selects RX5 yX5_isState yX5_isState, .initialized RX5, .code yX5_isState cX5_isState 2 (some .boolean), .fieldLink RX5 64 "PastDrawsModel" "n" "I", .methodLink RX5 67 yX5_in, .static yX5_in, .code yX5_in cX5_in 6 (some .boolean)] ++ wsX50)
def wsX5_end : List Cond := .code yX5_end cX5_end 4 (some .int) :: ([.fieldLink RX5 16 "PastDrawsModel" "isEnd" "[Z", .methodLink RX5 95 yX5_isState, .instanceMethod yX5_isState, .selects RX5 yX5_isState yX5_isState, .initialized RX5, .code yX5_isState cX5_isState 2 (some .boolean), .fieldLink RX5 64 "PastDrawsModel" "n" "I", .methodLink RX5 67 yX5_in, .static yX5_in, .code yX5_in cX5_in 6 (some .boolean)] ++ wsX50)
def wsX5_countWords : List Cond := .code yX5_countWords cX5_countWords 5 none :: ([.fieldLink RX5 64 "PastDrawsModel" "n" "I", .fieldLink RX5 46 "PastDrawsModel" "from" "[J", .fieldLink RX5 16 "PastDrawsModel" "isEnd" "[Z", .fieldLink RX5 13 "PastDrawsModel" "leads" "[I"] ++ wsX50)
def wsX5_words : List Cond := .code yX5_words cX5_words 2 (some .long) :: ([.constantLong RX5 146 (25), .constantLong RX5 89 (-1), .fieldLink RX5 46 "PastDrawsModel" "from" "[J", .methodLink RX5 67 yX5_in, .static yX5_in, .initialized RX5, .code yX5_in cX5_in 6 (some .boolean), .methodLink RX5 148 yX5_countWords, .instanceMethod yX5_countWords, .selects RX5 yX5_countWords yX5_countWords, .code yX5_countWords cX5_countWords 5 none, .fieldLink RX5 64 "PastDrawsModel" "n" "I", .fieldLink RX5 16 "PastDrawsModel" "isEnd" "[Z", .fieldLink RX5 13 "PastDrawsModel" "leads" "[I"] ++ wsX50)
def wsX5_goesOn : List Cond := .code yX5_goesOn cX5_goesOn 5 (some .long) :: ([.fieldLink RX5 13 "PastDrawsModel" "leads" "[I", .fieldLink RX5 46 "PastDrawsModel" "from" "[J"] ++ wsX50)
def wsX5_word : List Cond := .code yX5_word cX5_word 10 (some .int) :: ([.constantLong RX5 146 (25), .fieldLink RX5 46 "PastDrawsModel" "from" "[J", .fieldLink RX5 13 "PastDrawsModel" "leads" "[I", .methodLink RX5 67 yX5_in, .static yX5_in, .initialized RX5, .code yX5_in cX5_in 6 (some .boolean), .methodLink RX5 148 yX5_countWords, .instanceMethod yX5_countWords, .selects RX5 yX5_countWords yX5_countWords, .code yX5_countWords cX5_countWords 5 none, .fieldLink RX5 64 "PastDrawsModel" "n" "I", .fieldLink RX5 16 "PastDrawsModel" "isEnd" "[Z", .methodLink RX5 151 yX5_goesOn, .instanceMethod yX5_goesOn, .selects RX5 yX5_goesOn yX5_goesOn, .code yX5_goesOn cX5_goesOn 5 (some .long)] ++ wsX50)
def wsX5_rank : List Cond := .code yX5_rank cX5_rank 10 (some .long) :: ([.constantLong RX5 146 (25), .constantLong RX5 89 (-1), .constantLong RX5 144 (3), .fieldLink RX5 13 "PastDrawsModel" "leads" "[I", .constantLong RX5 155 (-2), .fieldLink RX5 16 "PastDrawsModel" "isEnd" "[Z", .methodLink RX5 67 yX5_in, .static yX5_in, .initialized RX5, .code yX5_in cX5_in 6 (some .boolean), .methodLink RX5 148 yX5_countWords, .instanceMethod yX5_countWords, .selects RX5 yX5_countWords yX5_countWords, .code yX5_countWords cX5_countWords 5 none, .fieldLink RX5 64 "PastDrawsModel" "n" "I", .fieldLink RX5 46 "PastDrawsModel" "from" "[J", .methodLink RX5 151 yX5_goesOn, .instanceMethod yX5_goesOn, .selects RX5 yX5_goesOn yX5_goesOn, .code yX5_goesOn cX5_goesOn 5 (some .long)] ++ wsX50)
def wsX5_allow : List Cond := .code yX5_allow cX5_allow 5 (some .int) :: ([.constantLong RX5 99 (7), .fieldLink RX5 20 "PastDrawsModel" "isAllowed" "[Z", .methodLink RX5 67 yX5_in, .static yX5_in, .initialized RX5, .code yX5_in cX5_in 6 (some .boolean)] ++ wsX50)
def wsX5_countWays : List Cond := .code yX5_countWays cX5_countWays 5 none :: ([.fieldLink RX5 49 "PastDrawsModel" "ways" "[I", .fieldLink RX5 20 "PastDrawsModel" "isAllowed" "[Z"] ++ wsX50)
def wsX5_wayOn : List Cond := .code yX5_wayOn cX5_wayOn 4 (some .int) :: ([.fieldLink RX5 20 "PastDrawsModel" "isAllowed" "[Z", .fieldLink RX5 49 "PastDrawsModel" "ways" "[I"] ++ wsX50)
def wsX5_permutations : List Cond := .code yX5_permutations cX5_permutations 2 (some .int) :: ([.constantLong RX5 157 (8), .fieldLink RX5 49 "PastDrawsModel" "ways" "[I", .methodLink RX5 67 yX5_in, .static yX5_in, .initialized RX5, .code yX5_in cX5_in 6 (some .boolean), .methodLink RX5 159 yX5_countWays, .instanceMethod yX5_countWays, .selects RX5 yX5_countWays yX5_countWays, .code yX5_countWays cX5_countWays 5 none, .fieldLink RX5 20 "PastDrawsModel" "isAllowed" "[Z"] ++ wsX50)
def wsX5_permutation : List Cond := .code yX5_permutation cX5_permutation 8 (some .int) :: ([.constantLong RX5 157 (8), .fieldLink RX5 49 "PastDrawsModel" "ways" "[I", .methodLink RX5 67 yX5_in, .static yX5_in, .initialized RX5, .code yX5_in cX5_in 6 (some .boolean), .methodLink RX5 159 yX5_countWays, .instanceMethod yX5_countWays, .selects RX5 yX5_countWays yX5_countWays, .code yX5_countWays cX5_countWays 5 none, .fieldLink RX5 20 "PastDrawsModel" "isAllowed" "[Z", .methodLink RX5 162 yX5_wayOn, .instanceMethod yX5_wayOn, .selects RX5 yX5_wayOn yX5_wayOn, .code yX5_wayOn cX5_wayOn 4 (some .int)] ++ wsX50)
def wsX5_place : List Cond := .code yX5_place cX5_place 8 (some .int) :: ([.constantLong RX5 157 (8), .fieldLink RX5 20 "PastDrawsModel" "isAllowed" "[Z", .methodLink RX5 67 yX5_in, .static yX5_in, .initialized RX5, .code yX5_in cX5_in 6 (some .boolean), .methodLink RX5 159 yX5_countWays, .instanceMethod yX5_countWays, .selects RX5 yX5_countWays yX5_countWays, .code yX5_countWays cX5_countWays 5 none, .fieldLink RX5 49 "PastDrawsModel" "ways" "[I", .methodLink RX5 162 yX5_wayOn, .instanceMethod yX5_wayOn, .selects RX5 yX5_wayOn yX5_wayOn, .code yX5_wayOn cX5_wayOn 4 (some .int)] ++ wsX50)
def wsX5_things : List Cond := .code yX5_things cX5_things 4 (some .int) :: ([.constantLong RX5 165 (16), .fieldLink RX5 23 "PastDrawsModel" "things" "I", .fieldLink RX5 27 "PastDrawsModel" "weights" "[I", .methodLink RX5 67 yX5_in, .static yX5_in, .initialized RX5, .code yX5_in cX5_in 6 (some .boolean)] ++ wsX50)
def wsX5_isThing : List Cond := .code yX5_isThing cX5_isThing 2 (some .boolean) :: ([.fieldLink RX5 23 "PastDrawsModel" "things" "I", .methodLink RX5 67 yX5_in, .static yX5_in, .initialized RX5, .code yX5_in cX5_in 6 (some .boolean)] ++ wsX50)
def wsX5_weight : List Cond := .code yX5_weight cX5_weight 4 (some .int) :: ([.constantLong RX5 170 (1000), .fieldLink RX5 27 "PastDrawsModel" "weights" "[I", .methodLink RX5 167 yX5_isThing, .instanceMethod yX5_isThing, .selects RX5 yX5_isThing yX5_isThing, .initialized RX5, .code yX5_isThing cX5_isThing 2 (some .boolean), .fieldLink RX5 23 "PastDrawsModel" "things" "I", .methodLink RX5 67 yX5_in, .static yX5_in, .code yX5_in cX5_in 6 (some .boolean)] ++ wsX50)
def wsX5_sum : List Cond := .code yX5_sum cX5_sum 3 (some .int) :: ([.fieldLink RX5 23 "PastDrawsModel" "things" "I", .fieldLink RX5 27 "PastDrawsModel" "weights" "[I"] ++ wsX50)
def wsX5_first : List Cond := .code yX5_first cX5_first 4 (some .int) :: ([.fieldLink RX5 23 "PastDrawsModel" "things" "I", .fieldLink RX5 61 "PastDrawsModel" "isMade" "[Z", .fieldLink RX5 58 "PastDrawsModel" "rest" "[I"] ++ wsX50)
def wsX5_make : List Cond := .code yX5_make cX5_make 4 none :: ([.fieldLink RX5 23 "PastDrawsModel" "things" "I", .fieldLink RX5 58 "PastDrawsModel" "rest" "[I", .fieldLink RX5 27 "PastDrawsModel" "weights" "[I", .fieldLink RX5 61 "PastDrawsModel" "isMade" "[Z", .fieldLink RX5 52 "PastDrawsModel" "limit" "[I", .fieldLink RX5 55 "PastDrawsModel" "other" "[I", .methodLink RX5 172 yX5_sum, .instanceMethod yX5_sum, .selects RX5 yX5_sum yX5_sum, .initialized RX5, .code yX5_sum cX5_sum 3 (some .int), .methodLink RX5 176 yX5_first, .instanceMethod yX5_first, .selects RX5 yX5_first yX5_first, .code yX5_first cX5_first 4 (some .int)] ++ wsX50)
def wsX5_cell_r1 : List Cond := [Cond.constantLong RX5 180 (2), Cond.fieldLink RX5 52 "PastDrawsModel" "limit" "[I", Cond.fieldLink RX5 55 "PastDrawsModel" "other" "[I", Cond.methodLink RX5 167 yX5_isThing, Cond.instanceMethod yX5_isThing, Cond.selects RX5 yX5_isThing yX5_isThing, Cond.initialized RX5, Cond.code yX5_isThing cX5_isThing 2 (some .boolean), Cond.fieldLink RX5 23 "PastDrawsModel" "things" "I", Cond.methodLink RX5 67 yX5_in, Cond.static yX5_in, Cond.code yX5_in cX5_in 6 (some .boolean), Cond.methodLink RX5 172 yX5_sum, Cond.instanceMethod yX5_sum, Cond.selects RX5 yX5_sum yX5_sum, Cond.code yX5_sum cX5_sum 3 (some .int), Cond.fieldLink RX5 27 "PastDrawsModel" "weights" "[I", Cond.methodLink RX5 182 yX5_make, Cond.instanceMethod yX5_make, Cond.selects RX5 yX5_make yX5_make, Cond.code yX5_make cX5_make 4 none, Cond.fieldLink RX5 58 "PastDrawsModel" "rest" "[I", Cond.fieldLink RX5 61 "PastDrawsModel" "isMade" "[Z", Cond.methodLink RX5 176 yX5_first]
def wsX5_cell_r2 : List Cond := [Cond.instanceMethod yX5_first, Cond.selects RX5 yX5_first yX5_first, Cond.code yX5_first cX5_first 4 (some .int)]
def wsX5_cell : List Cond := .code yX5_cell cX5_cell 3 (some .int) :: ((wsX5_cell_r1 ++ wsX5_cell_r2) ++ wsX50)
def wsX5_tell : List Cond := .code yX5_tell cX5_tell 3 (some .int) :: ([.fieldLink RX5 23 "PastDrawsModel" "things" "I", .fieldLink RX5 52 "PastDrawsModel" "limit" "[I", .fieldLink RX5 55 "PastDrawsModel" "other" "[I", .methodLink RX5 172 yX5_sum, .instanceMethod yX5_sum, .selects RX5 yX5_sum yX5_sum, .initialized RX5, .code yX5_sum cX5_sum 3 (some .int), .fieldLink RX5 27 "PastDrawsModel" "weights" "[I", .methodLink RX5 67 yX5_in, .static yX5_in, .code yX5_in cX5_in 6 (some .boolean), .methodLink RX5 182 yX5_make, .instanceMethod yX5_make, .selects RX5 yX5_make yX5_make, .code yX5_make cX5_make 4 none, .fieldLink RX5 58 "PastDrawsModel" "rest" "[I", .fieldLink RX5 61 "PastDrawsModel" "isMade" "[Z", .methodLink RX5 176 yX5_first, .instanceMethod yX5_first, .selects RX5 yX5_first yX5_first, .code yX5_first cX5_first 4 (some .int)] ++ wsX50)
def wsJ9_max_7cf53 : List Cond := .code yJ9_max_7cf53 cJ9_max_7cf53 2 (some .int) :: ([])
def wsJ9_min_7cf53 : List Cond := .code yJ9_min_7cf53 cJ9_min_7cf53 2 (some .int) :: ([])
def wsL_cell : List Cond := .code yL_cell cL_cell 2 (some .int) :: ([])
theorem inJ6 : ∀ w ∈ wsJ60, w ∈ lw_tbl := by decide +kernel
theorem inJ9 : ∀ w ∈ wsJ90, w ∈ lw_tbl := by decide +kernel
theorem inJ10 : ∀ w ∈ wsJ100, w ∈ lw_tbl := by decide +kernel
theorem inJ7 : ∀ w ∈ wsJ70, w ∈ lw_tbl := by decide +kernel
abbrev vwCl : List vw_C := [(RX0, TX0, 7), (RX1, TX1, 4), (RX2, TX2, 2), (RX3, TX3, 6), (RX4, TX4, 5), (RX5, TX5, 20)]
end
section
theorem dX0_init_0 : decode cX0_init 0 = .ok (.aload_n 0, 1) := by decide +kernel
theorem dX0_init_1 : decode cX0_init 1 = .ok (.invokespecial 3, 3) := by decide +kernel
theorem dX0_init_4 : decode cX0_init 4 = .ok (.aload_n 0, 1) := by decide +kernel
theorem dX0_init_5 : decode cX0_init 5 = .ok (.iload_n 1, 1) := by decide +kernel
theorem dX0_init_6 : decode cX0_init 6 = .ok (.putfield 9, 3) := by decide +kernel
theorem dX0_init_9 : decode cX0_init 9 = .ok (.aload_n 0, 1) := by decide +kernel
theorem dX0_init_10 : decode cX0_init 10 = .ok (.bipush 8, 2) := by decide +kernel
theorem dX0_init_12 : decode cX0_init 12 = .ok (.aload_n 0, 1) := by decide +kernel
theorem dX0_init_13 : decode cX0_init 13 = .ok (.getfield 9, 3) := by decide +kernel
theorem dX0_init_16 : decode cX0_init 16 = .ok (.multianewarray 15 2, 4) := by decide +kernel
theorem dX0_init_20 : decode cX0_init 20 = .ok (.putfield 17, 3) := by decide +kernel
theorem dX0_init_23 : decode cX0_init 23 = .ok (.aload_n 0, 1) := by decide +kernel
theorem dX0_init_24 : decode cX0_init 24 = .ok (.aload_n 0, 1) := by decide +kernel
theorem dX0_init_25 : decode cX0_init 25 = .ok (.getfield 9, 3) := by decide +kernel
theorem dX0_init_28 : decode cX0_init 28 = .ok (.newarray .int, 2) := by decide +kernel
theorem dX0_init_30 : decode cX0_init 30 = .ok (.putfield 20, 3) := by decide +kernel
theorem dX0_init_33 : decode cX0_init 33 = .ok (.aload_n 0, 1) := by decide +kernel
theorem dX0_init_34 : decode cX0_init 34 = .ok (.aload_n 0, 1) := by decide +kernel
theorem dX0_init_35 : decode cX0_init 35 = .ok (.getfield 9, 3) := by decide +kernel
theorem dX0_init_38 : decode cX0_init 38 = .ok (.newarray .int, 2) := by decide +kernel
theorem dX0_init_40 : decode cX0_init 40 = .ok (.putfield 24, 3) := by decide +kernel
theorem dX0_init_43 : decode cX0_init 43 = .ok (.aload_n 0, 1) := by decide +kernel
theorem dX0_init_44 : decode cX0_init 44 = .ok (.iconst 1, 1) := by decide +kernel
theorem dX0_init_45 : decode cX0_init 45 = .ok (.aload_n 0, 1) := by decide +kernel
theorem dX0_init_46 : decode cX0_init 46 = .ok (.getfield 9, 3) := by decide +kernel
theorem dX0_init_49 : decode cX0_init 49 = .ok (.ishl, 1) := by decide +kernel
theorem dX0_init_50 : decode cX0_init 50 = .ok (.newarray .int, 2) := by decide +kernel
theorem dX0_init_52 : decode cX0_init 52 = .ok (.putfield 27, 3) := by decide +kernel
theorem dX0_init_55 : decode cX0_init 55 = .ok (.aload_n 0, 1) := by decide +kernel
theorem dX0_init_56 : decode cX0_init 56 = .ok (.iconst 1, 1) := by decide +kernel
theorem dX0_init_57 : decode cX0_init 57 = .ok (.aload_n 0, 1) := by decide +kernel
theorem dX0_init_58 : decode cX0_init 58 = .ok (.getfield 9, 3) := by decide +kernel
theorem dX0_init_61 : decode cX0_init 61 = .ok (.ishl, 1) := by decide +kernel
theorem dX0_init_62 : decode cX0_init 62 = .ok (.newarray .int, 2) := by decide +kernel
theorem dX0_init_64 : decode cX0_init 64 = .ok (.putfield 30, 3) := by decide +kernel
theorem dX0_init_67 : decode cX0_init 67 = .ok (.aload_n 0, 1) := by decide +kernel
theorem dX0_init_68 : decode cX0_init 68 = .ok (.aload_n 0, 1) := by decide +kernel
theorem dX0_init_69 : decode cX0_init 69 = .ok (.getfield 9, 3) := by decide +kernel
theorem dX0_init_72 : decode cX0_init 72 = .ok (.aload_n 0, 1) := by decide +kernel
theorem dX0_init_73 : decode cX0_init 73 = .ok (.getfield 9, 3) := by decide +kernel
theorem dX0_init_76 : decode cX0_init 76 = .ok (.multianewarray 33 2, 4) := by decide +kernel
theorem dX0_init_80 : decode cX0_init 80 = .ok (.putfield 35, 3) := by decide +kernel
theorem dX0_init_83 : decode cX0_init 83 = .ok (.iconst 0, 1) := by decide +kernel
theorem dX0_init_84 : decode cX0_init 84 = .ok (.istore_n 2, 1) := by decide +kernel
theorem dX0_init_85 : decode cX0_init 85 = .ok (.iload_n 2, 1) := by decide +kernel
theorem dX0_init_86 : decode cX0_init 86 = .ok (.bipush 8, 2) := by decide +kernel
theorem dX0_init_88 : decode cX0_init 88 = .ok (.if_icmp .ge 34, 3) := by decide +kernel
theorem dX0_init_91 : decode cX0_init 91 = .ok (.iconst 0, 1) := by decide +kernel
theorem dX0_init_92 : decode cX0_init 92 = .ok (.istore_n 3, 1) := by decide +kernel
theorem dX0_init_93 : decode cX0_init 93 = .ok (.iload_n 3, 1) := by decide +kernel
theorem dX0_init_94 : decode cX0_init 94 = .ok (.aload_n 0, 1) := by decide +kernel
theorem dX0_init_95 : decode cX0_init 95 = .ok (.getfield 9, 3) := by decide +kernel
theorem dX0_init_98 : decode cX0_init 98 = .ok (.if_icmp .ge 18, 3) := by decide +kernel
theorem dX0_init_101 : decode cX0_init 101 = .ok (.aload_n 0, 1) := by decide +kernel
theorem dX0_init_102 : decode cX0_init 102 = .ok (.getfield 17, 3) := by decide +kernel
theorem dX0_init_105 : decode cX0_init 105 = .ok (.iload_n 2, 1) := by decide +kernel
theorem dX0_init_106 : decode cX0_init 106 = .ok (.aaload, 1) := by decide +kernel
theorem dX0_init_107 : decode cX0_init 107 = .ok (.iload_n 3, 1) := by decide +kernel
theorem dX0_init_108 : decode cX0_init 108 = .ok (.iload_n 3, 1) := by decide +kernel
theorem dX0_init_109 : decode cX0_init 109 = .ok (.iastore, 1) := by decide +kernel
theorem dX0_init_110 : decode cX0_init 110 = .ok (.iinc 3 1, 3) := by decide +kernel
theorem dX0_init_113 : decode cX0_init 113 = .ok (.goto (-20), 3) := by decide +kernel
theorem dX0_init_116 : decode cX0_init 116 = .ok (.iinc 2 1, 3) := by decide +kernel
theorem dX0_init_119 : decode cX0_init 119 = .ok (.goto (-34), 3) := by decide +kernel
theorem dX0_init_122 : decode cX0_init 122 = .ok (.return_, 1) := by decide +kernel
theorem dX0_setStep_0 : decode cX0_setStep 0 = .ok (.aload_n 0, 1) := by decide +kernel
theorem dX0_setStep_1 : decode cX0_setStep 1 = .ok (.getfield 17, 3) := by decide +kernel
theorem dX0_setStep_4 : decode cX0_setStep 4 = .ok (.iload_n 2, 1) := by decide +kernel
theorem dX0_setStep_5 : decode cX0_setStep 5 = .ok (.aaload, 1) := by decide +kernel
theorem dX0_setStep_6 : decode cX0_setStep 6 = .ok (.iload_n 1, 1) := by decide +kernel
theorem dX0_setStep_7 : decode cX0_setStep 7 = .ok (.iaload, 1) := by decide +kernel
theorem dX0_setStep_8 : decode cX0_setStep 8 = .ok (.istore 4, 2) := by decide +kernel
theorem dX0_setStep_10 : decode cX0_setStep 10 = .ok (.aload_n 0, 1) := by decide +kernel
theorem dX0_setStep_11 : decode cX0_setStep 11 = .ok (.getfield 17, 3) := by decide +kernel
theorem dX0_setStep_14 : decode cX0_setStep 14 = .ok (.iload_n 2, 1) := by decide +kernel
theorem dX0_setStep_15 : decode cX0_setStep 15 = .ok (.aaload, 1) := by decide +kernel
theorem dX0_setStep_16 : decode cX0_setStep 16 = .ok (.iload_n 1, 1) := by decide +kernel
theorem dX0_setStep_17 : decode cX0_setStep 17 = .ok (.iload_n 3, 1) := by decide +kernel
theorem dX0_setStep_18 : decode cX0_setStep 18 = .ok (.iastore, 1) := by decide +kernel
theorem dX0_setStep_19 : decode cX0_setStep 19 = .ok (.iload 4, 2) := by decide +kernel
theorem dX0_setStep_21 : decode cX0_setStep 21 = .ok (.ireturn, 1) := by decide +kernel
set_option maxRecDepth 20000 in
theorem ggX0_throughPast_X4_signAt : GoodIn wsX0_throughPast wsX4_signAt := goodIn_r _ [4, 5, 6, 3, 7, 8, 9, 10] (by decide +kernel) (by decide +kernel)
set_option maxRecDepth 20000 in
theorem gX0_throughPast_X4_signAt_n38 : GoodIn wsX0_throughPast (wsX4_signAt) := ggX0_throughPast_X4_signAt
theorem dX0_throughPast_0 : decode cX0_throughPast 0 = .ok (.iload_n 3, 1) := by decide +kernel
theorem dX0_throughPast_1 : decode cX0_throughPast 1 = .ok (.istore 4, 2) := by decide +kernel
theorem dX0_throughPast_3 : decode cX0_throughPast 3 = .ok (.iload_n 2, 1) := by decide +kernel
theorem dX0_throughPast_4 : decode cX0_throughPast 4 = .ok (.istore 5, 2) := by decide +kernel
theorem dX0_throughPast_6 : decode cX0_throughPast 6 = .ok (.iload 5, 2) := by decide +kernel
theorem dX0_throughPast_8 : decode cX0_throughPast 8 = .ok (.iconst 1, 1) := by decide +kernel
theorem dX0_throughPast_9 : decode cX0_throughPast 9 = .ok (.if_icmp .lt 25, 3) := by decide +kernel
theorem dX0_throughPast_12 : decode cX0_throughPast 12 = .ok (.aload_n 0, 1) := by decide +kernel
theorem dX0_throughPast_13 : decode cX0_throughPast 13 = .ok (.getfield 17, 3) := by decide +kernel
theorem dX0_throughPast_16 : decode cX0_throughPast 16 = .ok (.iload_n 1, 1) := by decide +kernel
theorem dX0_throughPast_17 : decode cX0_throughPast 17 = .ok (.iload 5, 2) := by decide +kernel
theorem dX0_throughPast_19 : decode cX0_throughPast 19 = .ok (.invokestatic 38, 3) := by decide +kernel
theorem dX0_throughPast_22 : decode cX0_throughPast 22 = .ok (.aaload, 1) := by decide +kernel
theorem dX0_throughPast_23 : decode cX0_throughPast 23 = .ok (.iload 4, 2) := by decide +kernel
theorem dX0_throughPast_25 : decode cX0_throughPast 25 = .ok (.iaload, 1) := by decide +kernel
theorem dX0_throughPast_26 : decode cX0_throughPast 26 = .ok (.istore 4, 2) := by decide +kernel
theorem dX0_throughPast_28 : decode cX0_throughPast 28 = .ok (.iinc 5 (-1), 3) := by decide +kernel
theorem dX0_throughPast_31 : decode cX0_throughPast 31 = .ok (.goto (-25), 3) := by decide +kernel
theorem dX0_throughPast_34 : decode cX0_throughPast 34 = .ok (.iload 4, 2) := by decide +kernel
theorem dX0_throughPast_36 : decode cX0_throughPast 36 = .ok (.ireturn, 1) := by decide +kernel
set_option maxRecDepth 20000 in
theorem ggX0_leastMeeting_X4_signAt : GoodIn wsX0_leastMeeting wsX4_signAt := goodIn_r _ [5, 6, 7, 4, 8, 9, 10, 11] (by decide +kernel) (by decide +kernel)
set_option maxRecDepth 20000 in
theorem gX0_leastMeeting_X4_signAt_n38 : GoodIn wsX0_leastMeeting (wsX4_signAt) := ggX0_leastMeeting_X4_signAt
set_option maxRecDepth 20000 in
theorem ggX0_leastMeeting_X0_lengthenMap : GoodIn wsX0_leastMeeting wsX0_lengthenMap := goodIn_r _ [16, 1, 17, 2, 18, 19, 20, 21, 22, 27, 28, 29, 30, 31, 32, 33] (by decide +kernel) (by decide +kernel)
set_option maxRecDepth 20000 in
theorem gX0_leastMeeting_X0_lengthenMap : GoodIn wsX0_leastMeeting (wsV RX0 42 RX0 yX0_lengthenMap wsX0_lengthenMap) := goodIn_app (goodIn_of _ (by decide +kernel)) ggX0_leastMeeting_X0_lengthenMap
set_option maxRecDepth 20000 in
theorem ggX0_leastMeeting_X0_mapMeets : GoodIn wsX0_leastMeeting wsX0_mapMeets := goodIn_r _ [26, 1, 2, 27, 28, 29, 30, 31, 32, 33] (by decide +kernel) (by decide +kernel)
set_option maxRecDepth 20000 in
theorem gX0_leastMeeting_X0_mapMeets : GoodIn wsX0_leastMeeting (wsV RX0 46 RX0 yX0_mapMeets wsX0_mapMeets) := goodIn_app (goodIn_of _ (by decide +kernel)) ggX0_leastMeeting_X0_mapMeets
theorem dX0_leastMeeting_0 : decode cX0_leastMeeting 0 = .ok (.iconst 0, 1) := by decide +kernel
theorem dX0_leastMeeting_1 : decode cX0_leastMeeting 1 = .ok (.istore_n 3, 1) := by decide +kernel
theorem dX0_leastMeeting_2 : decode cX0_leastMeeting 2 = .ok (.iload_n 3, 1) := by decide +kernel
theorem dX0_leastMeeting_3 : decode cX0_leastMeeting 3 = .ok (.aload_n 0, 1) := by decide +kernel
theorem dX0_leastMeeting_4 : decode cX0_leastMeeting 4 = .ok (.getfield 9, 3) := by decide +kernel
theorem dX0_leastMeeting_7 : decode cX0_leastMeeting 7 = .ok (.if_icmp .ge 16, 3) := by decide +kernel
theorem dX0_leastMeeting_10 : decode cX0_leastMeeting 10 = .ok (.aload_n 0, 1) := by decide +kernel
theorem dX0_leastMeeting_11 : decode cX0_leastMeeting 11 = .ok (.getfield 20, 3) := by decide +kernel
theorem dX0_leastMeeting_14 : decode cX0_leastMeeting 14 = .ok (.iload_n 3, 1) := by decide +kernel
theorem dX0_leastMeeting_15 : decode cX0_leastMeeting 15 = .ok (.iload_n 3, 1) := by decide +kernel
theorem dX0_leastMeeting_16 : decode cX0_leastMeeting 16 = .ok (.iastore, 1) := by decide +kernel
theorem dX0_leastMeeting_17 : decode cX0_leastMeeting 17 = .ok (.iinc 3 1, 3) := by decide +kernel
theorem dX0_leastMeeting_20 : decode cX0_leastMeeting 20 = .ok (.goto (-18), 3) := by decide +kernel
theorem dX0_leastMeeting_23 : decode cX0_leastMeeting 23 = .ok (.iconst 1, 1) := by decide +kernel
theorem dX0_leastMeeting_24 : decode cX0_leastMeeting 24 = .ok (.istore_n 3, 1) := by decide +kernel
theorem dX0_leastMeeting_25 : decode cX0_leastMeeting 25 = .ok (.iload_n 3, 1) := by decide +kernel
theorem dX0_leastMeeting_26 : decode cX0_leastMeeting 26 = .ok (.iload_n 2, 1) := by decide +kernel
theorem dX0_leastMeeting_27 : decode cX0_leastMeeting 27 = .ok (.if_icmp .gt 27, 3) := by decide +kernel
theorem dX0_leastMeeting_30 : decode cX0_leastMeeting 30 = .ok (.aload_n 0, 1) := by decide +kernel
theorem dX0_leastMeeting_31 : decode cX0_leastMeeting 31 = .ok (.iload_n 1, 1) := by decide +kernel
theorem dX0_leastMeeting_32 : decode cX0_leastMeeting 32 = .ok (.iload_n 3, 1) := by decide +kernel
theorem dX0_leastMeeting_33 : decode cX0_leastMeeting 33 = .ok (.invokestatic 38, 3) := by decide +kernel
theorem dX0_leastMeeting_36 : decode cX0_leastMeeting 36 = .ok (.invokevirtual 42, 3) := by decide +kernel
theorem dX0_leastMeeting_39 : decode cX0_leastMeeting 39 = .ok (.aload_n 0, 1) := by decide +kernel
theorem dX0_leastMeeting_40 : decode cX0_leastMeeting 40 = .ok (.invokevirtual 46, 3) := by decide +kernel
theorem dX0_leastMeeting_43 : decode cX0_leastMeeting 43 = .ok (.ifCond .eq 5, 3) := by decide +kernel
theorem dX0_leastMeeting_46 : decode cX0_leastMeeting 46 = .ok (.iload_n 3, 1) := by decide +kernel
theorem dX0_leastMeeting_47 : decode cX0_leastMeeting 47 = .ok (.ireturn, 1) := by decide +kernel
theorem dX0_leastMeeting_48 : decode cX0_leastMeeting 48 = .ok (.iinc 3 1, 3) := by decide +kernel
theorem dX0_leastMeeting_51 : decode cX0_leastMeeting 51 = .ok (.goto (-26), 3) := by decide +kernel
theorem dX0_leastMeeting_54 : decode cX0_leastMeeting 54 = .ok (.bipush (-2), 2) := by decide +kernel
theorem dX0_leastMeeting_56 : decode cX0_leastMeeting 56 = .ok (.ireturn, 1) := by decide +kernel
theorem dX0_lengthenMap_0 : decode cX0_lengthenMap 0 = .ok (.iconst 0, 1) := by decide +kernel
theorem dX0_lengthenMap_1 : decode cX0_lengthenMap 1 = .ok (.istore_n 2, 1) := by decide +kernel
theorem dX0_lengthenMap_2 : decode cX0_lengthenMap 2 = .ok (.iload_n 2, 1) := by decide +kernel
theorem dX0_lengthenMap_3 : decode cX0_lengthenMap 3 = .ok (.aload_n 0, 1) := by decide +kernel
theorem dX0_lengthenMap_4 : decode cX0_lengthenMap 4 = .ok (.getfield 9, 3) := by decide +kernel
theorem dX0_lengthenMap_7 : decode cX0_lengthenMap 7 = .ok (.if_icmp .ge 28, 3) := by decide +kernel
theorem dX0_lengthenMap_10 : decode cX0_lengthenMap 10 = .ok (.aload_n 0, 1) := by decide +kernel
theorem dX0_lengthenMap_11 : decode cX0_lengthenMap 11 = .ok (.getfield 24, 3) := by decide +kernel
theorem dX0_lengthenMap_14 : decode cX0_lengthenMap 14 = .ok (.iload_n 2, 1) := by decide +kernel
theorem dX0_lengthenMap_15 : decode cX0_lengthenMap 15 = .ok (.aload_n 0, 1) := by decide +kernel
theorem dX0_lengthenMap_16 : decode cX0_lengthenMap 16 = .ok (.getfield 20, 3) := by decide +kernel
theorem dX0_lengthenMap_19 : decode cX0_lengthenMap 19 = .ok (.aload_n 0, 1) := by decide +kernel
theorem dX0_lengthenMap_20 : decode cX0_lengthenMap 20 = .ok (.getfield 17, 3) := by decide +kernel
theorem dX0_lengthenMap_23 : decode cX0_lengthenMap 23 = .ok (.iload_n 1, 1) := by decide +kernel
theorem dX0_lengthenMap_24 : decode cX0_lengthenMap 24 = .ok (.aaload, 1) := by decide +kernel
theorem dX0_lengthenMap_25 : decode cX0_lengthenMap 25 = .ok (.iload_n 2, 1) := by decide +kernel
theorem dX0_lengthenMap_26 : decode cX0_lengthenMap 26 = .ok (.iaload, 1) := by decide +kernel
theorem dX0_lengthenMap_27 : decode cX0_lengthenMap 27 = .ok (.iaload, 1) := by decide +kernel
theorem dX0_lengthenMap_28 : decode cX0_lengthenMap 28 = .ok (.iastore, 1) := by decide +kernel
theorem dX0_lengthenMap_29 : decode cX0_lengthenMap 29 = .ok (.iinc 2 1, 3) := by decide +kernel
theorem dX0_lengthenMap_32 : decode cX0_lengthenMap 32 = .ok (.goto (-30), 3) := by decide +kernel
theorem dX0_lengthenMap_35 : decode cX0_lengthenMap 35 = .ok (.aload_n 0, 1) := by decide +kernel
theorem dX0_lengthenMap_36 : decode cX0_lengthenMap 36 = .ok (.getfield 24, 3) := by decide +kernel
theorem dX0_lengthenMap_39 : decode cX0_lengthenMap 39 = .ok (.iconst 0, 1) := by decide +kernel
theorem dX0_lengthenMap_40 : decode cX0_lengthenMap 40 = .ok (.aload_n 0, 1) := by decide +kernel
theorem dX0_lengthenMap_41 : decode cX0_lengthenMap 41 = .ok (.getfield 20, 3) := by decide +kernel
theorem dX0_lengthenMap_44 : decode cX0_lengthenMap 44 = .ok (.iconst 0, 1) := by decide +kernel
theorem dX0_lengthenMap_45 : decode cX0_lengthenMap 45 = .ok (.aload_n 0, 1) := by decide +kernel
theorem dX0_lengthenMap_46 : decode cX0_lengthenMap 46 = .ok (.getfield 9, 3) := by decide +kernel
theorem dX0_lengthenMap_49 : decode cX0_lengthenMap 49 = .ok (.invokestatic 50, 3) := by decide +kernel
theorem dX0_lengthenMap_52 : decode cX0_lengthenMap 52 = .ok (.return_, 1) := by decide +kernel
theorem dX0_mapMeets_0 : decode cX0_mapMeets 0 = .ok (.iconst 1, 1) := by decide +kernel
theorem dX0_mapMeets_1 : decode cX0_mapMeets 1 = .ok (.istore_n 1, 1) := by decide +kernel
theorem dX0_mapMeets_2 : decode cX0_mapMeets 2 = .ok (.iload_n 1, 1) := by decide +kernel
theorem dX0_mapMeets_3 : decode cX0_mapMeets 3 = .ok (.aload_n 0, 1) := by decide +kernel
theorem dX0_mapMeets_4 : decode cX0_mapMeets 4 = .ok (.getfield 9, 3) := by decide +kernel
theorem dX0_mapMeets_7 : decode cX0_mapMeets 7 = .ok (.if_icmp .ge 26, 3) := by decide +kernel
theorem dX0_mapMeets_10 : decode cX0_mapMeets 10 = .ok (.aload_n 0, 1) := by decide +kernel
theorem dX0_mapMeets_11 : decode cX0_mapMeets 11 = .ok (.getfield 20, 3) := by decide +kernel
theorem dX0_mapMeets_14 : decode cX0_mapMeets 14 = .ok (.iload_n 1, 1) := by decide +kernel
theorem dX0_mapMeets_15 : decode cX0_mapMeets 15 = .ok (.iaload, 1) := by decide +kernel
theorem dX0_mapMeets_16 : decode cX0_mapMeets 16 = .ok (.aload_n 0, 1) := by decide +kernel
theorem dX0_mapMeets_17 : decode cX0_mapMeets 17 = .ok (.getfield 20, 3) := by decide +kernel
theorem dX0_mapMeets_20 : decode cX0_mapMeets 20 = .ok (.iconst 0, 1) := by decide +kernel
theorem dX0_mapMeets_21 : decode cX0_mapMeets 21 = .ok (.iaload, 1) := by decide +kernel
theorem dX0_mapMeets_22 : decode cX0_mapMeets 22 = .ok (.if_icmp .eq 5, 3) := by decide +kernel
theorem dX0_mapMeets_25 : decode cX0_mapMeets 25 = .ok (.iconst 0, 1) := by decide +kernel
theorem dX0_mapMeets_26 : decode cX0_mapMeets 26 = .ok (.ireturn, 1) := by decide +kernel
theorem dX0_mapMeets_27 : decode cX0_mapMeets 27 = .ok (.iinc 1 1, 3) := by decide +kernel
theorem dX0_mapMeets_30 : decode cX0_mapMeets 30 = .ok (.goto (-28), 3) := by decide +kernel
theorem dX0_mapMeets_33 : decode cX0_mapMeets 33 = .ok (.iconst 1, 1) := by decide +kernel
theorem dX0_mapMeets_34 : decode cX0_mapMeets 34 = .ok (.ireturn, 1) := by decide +kernel
set_option maxRecDepth 20000 in
theorem ggX0_leastBounded_X0_boundsMeet : GoodIn wsX0_leastBounded wsX0_boundsMeet := goodIn_r _ [5, 6, 7, 8, 9, 10, 11, 12, 13, 14, 15, 16, 17, 18, 19, 20, 21, 22, 23, 24, 25, 26, 27, 28, 29, 30] (by decide +kernel) (by decide +kernel)
set_option maxRecDepth 20000 in
theorem gX0_leastBounded_X0_boundsMeet : GoodIn wsX0_leastBounded (wsV RX0 56 RX0 yX0_boundsMeet wsX0_boundsMeet) := goodIn_app (goodIn_of _ (by decide +kernel)) ggX0_leastBounded_X0_boundsMeet
theorem dX0_leastBounded_0 : decode cX0_leastBounded 0 = .ok (.iconst 1, 1) := by decide +kernel
theorem dX0_leastBounded_1 : decode cX0_leastBounded 1 = .ok (.istore_n 3, 1) := by decide +kernel
theorem dX0_leastBounded_2 : decode cX0_leastBounded 2 = .ok (.iload_n 3, 1) := by decide +kernel
theorem dX0_leastBounded_3 : decode cX0_leastBounded 3 = .ok (.iload_n 2, 1) := by decide +kernel
theorem dX0_leastBounded_4 : decode cX0_leastBounded 4 = .ok (.if_icmp .gt 20, 3) := by decide +kernel
theorem dX0_leastBounded_7 : decode cX0_leastBounded 7 = .ok (.aload_n 0, 1) := by decide +kernel
theorem dX0_leastBounded_8 : decode cX0_leastBounded 8 = .ok (.iload_n 1, 1) := by decide +kernel
theorem dX0_leastBounded_9 : decode cX0_leastBounded 9 = .ok (.iload_n 3, 1) := by decide +kernel
theorem dX0_leastBounded_10 : decode cX0_leastBounded 10 = .ok (.invokevirtual 56, 3) := by decide +kernel
theorem dX0_leastBounded_13 : decode cX0_leastBounded 13 = .ok (.ifCond .eq 5, 3) := by decide +kernel
theorem dX0_leastBounded_16 : decode cX0_leastBounded 16 = .ok (.iload_n 3, 1) := by decide +kernel
theorem dX0_leastBounded_17 : decode cX0_leastBounded 17 = .ok (.ireturn, 1) := by decide +kernel
theorem dX0_leastBounded_18 : decode cX0_leastBounded 18 = .ok (.iinc 3 1, 3) := by decide +kernel
theorem dX0_leastBounded_21 : decode cX0_leastBounded 21 = .ok (.goto (-19), 3) := by decide +kernel
theorem dX0_leastBounded_24 : decode cX0_leastBounded 24 = .ok (.bipush (-2), 2) := by decide +kernel
theorem dX0_leastBounded_26 : decode cX0_leastBounded 26 = .ok (.ireturn, 1) := by decide +kernel
set_option maxRecDepth 20000 in
theorem ggX0_boundsMeet_X4_signAt : GoodIn wsX0_boundsMeet wsX4_signAt := goodIn_r _ [12, 13, 14, 11, 15, 16, 17, 18] (by decide +kernel) (by decide +kernel)
set_option maxRecDepth 20000 in
theorem gX0_boundsMeet_X4_signAt_n38 : GoodIn wsX0_boundsMeet (wsX4_signAt) := ggX0_boundsMeet_X4_signAt
theorem dX0_boundsMeet_0 : decode cX0_boundsMeet 0 = .ok (.iconst 0, 1) := by decide +kernel
theorem dX0_boundsMeet_1 : decode cX0_boundsMeet 1 = .ok (.istore_n 3, 1) := by decide +kernel
theorem dX0_boundsMeet_2 : decode cX0_boundsMeet 2 = .ok (.aload_n 0, 1) := by decide +kernel
theorem dX0_boundsMeet_3 : decode cX0_boundsMeet 3 = .ok (.getfield 9, 3) := by decide +kernel
theorem dX0_boundsMeet_6 : decode cX0_boundsMeet 6 = .ok (.iconst 1, 1) := by decide +kernel
theorem dX0_boundsMeet_7 : decode cX0_boundsMeet 7 = .ok (.isub, 1) := by decide +kernel
theorem dX0_boundsMeet_8 : decode cX0_boundsMeet 8 = .ok (.istore 4, 2) := by decide +kernel
theorem dX0_boundsMeet_10 : decode cX0_boundsMeet 10 = .ok (.iload_n 2, 1) := by decide +kernel
theorem dX0_boundsMeet_11 : decode cX0_boundsMeet 11 = .ok (.istore 5, 2) := by decide +kernel
theorem dX0_boundsMeet_13 : decode cX0_boundsMeet 13 = .ok (.iload 5, 2) := by decide +kernel
theorem dX0_boundsMeet_15 : decode cX0_boundsMeet 15 = .ok (.iconst 1, 1) := by decide +kernel
theorem dX0_boundsMeet_16 : decode cX0_boundsMeet 16 = .ok (.if_icmp .lt 83, 3) := by decide +kernel
theorem dX0_boundsMeet_19 : decode cX0_boundsMeet 19 = .ok (.aload_n 0, 1) := by decide +kernel
theorem dX0_boundsMeet_20 : decode cX0_boundsMeet 20 = .ok (.getfield 17, 3) := by decide +kernel
theorem dX0_boundsMeet_23 : decode cX0_boundsMeet 23 = .ok (.iload_n 1, 1) := by decide +kernel
theorem dX0_boundsMeet_24 : decode cX0_boundsMeet 24 = .ok (.iload 5, 2) := by decide +kernel
theorem dX0_boundsMeet_26 : decode cX0_boundsMeet 26 = .ok (.invokestatic 38, 3) := by decide +kernel
theorem dX0_boundsMeet_29 : decode cX0_boundsMeet 29 = .ok (.aaload, 1) := by decide +kernel
theorem dX0_boundsMeet_30 : decode cX0_boundsMeet 30 = .ok (.astore 6, 2) := by decide +kernel
theorem dX0_boundsMeet_32 : decode cX0_boundsMeet 32 = .ok (.aload 6, 2) := by decide +kernel
theorem dX0_boundsMeet_34 : decode cX0_boundsMeet 34 = .ok (.iload_n 3, 1) := by decide +kernel
theorem dX0_boundsMeet_35 : decode cX0_boundsMeet 35 = .ok (.iaload, 1) := by decide +kernel
theorem dX0_boundsMeet_36 : decode cX0_boundsMeet 36 = .ok (.istore 7, 2) := by decide +kernel
theorem dX0_boundsMeet_38 : decode cX0_boundsMeet 38 = .ok (.aload 6, 2) := by decide +kernel
theorem dX0_boundsMeet_40 : decode cX0_boundsMeet 40 = .ok (.iload_n 3, 1) := by decide +kernel
theorem dX0_boundsMeet_41 : decode cX0_boundsMeet 41 = .ok (.iaload, 1) := by decide +kernel
theorem dX0_boundsMeet_42 : decode cX0_boundsMeet 42 = .ok (.istore 8, 2) := by decide +kernel
theorem dX0_boundsMeet_44 : decode cX0_boundsMeet 44 = .ok (.iload_n 3, 1) := by decide +kernel
theorem dX0_boundsMeet_45 : decode cX0_boundsMeet 45 = .ok (.iconst 1, 1) := by decide +kernel
theorem dX0_boundsMeet_46 : decode cX0_boundsMeet 46 = .ok (.iadd, 1) := by decide +kernel
theorem dX0_boundsMeet_47 : decode cX0_boundsMeet 47 = .ok (.istore 9, 2) := by decide +kernel
theorem dX0_boundsMeet_49 : decode cX0_boundsMeet 49 = .ok (.iload 9, 2) := by decide +kernel
theorem dX0_boundsMeet_51 : decode cX0_boundsMeet 51 = .ok (.iload 4, 2) := by decide +kernel
theorem dX0_boundsMeet_53 : decode cX0_boundsMeet 53 = .ok (.if_icmp .gt 33, 3) := by decide +kernel
theorem dX0_boundsMeet_56 : decode cX0_boundsMeet 56 = .ok (.iload 7, 2) := by decide +kernel
theorem dX0_boundsMeet_58 : decode cX0_boundsMeet 58 = .ok (.aload 6, 2) := by decide +kernel
theorem dX0_boundsMeet_60 : decode cX0_boundsMeet 60 = .ok (.iload 9, 2) := by decide +kernel
theorem dX0_boundsMeet_62 : decode cX0_boundsMeet 62 = .ok (.iaload, 1) := by decide +kernel
theorem dX0_boundsMeet_63 : decode cX0_boundsMeet 63 = .ok (.invokestatic 60, 3) := by decide +kernel
theorem dX0_boundsMeet_66 : decode cX0_boundsMeet 66 = .ok (.istore 7, 2) := by decide +kernel
theorem dX0_boundsMeet_68 : decode cX0_boundsMeet 68 = .ok (.iload 8, 2) := by decide +kernel
theorem dX0_boundsMeet_70 : decode cX0_boundsMeet 70 = .ok (.aload 6, 2) := by decide +kernel
theorem dX0_boundsMeet_72 : decode cX0_boundsMeet 72 = .ok (.iload 9, 2) := by decide +kernel
theorem dX0_boundsMeet_74 : decode cX0_boundsMeet 74 = .ok (.iaload, 1) := by decide +kernel
theorem dX0_boundsMeet_75 : decode cX0_boundsMeet 75 = .ok (.invokestatic 65, 3) := by decide +kernel
theorem dX0_boundsMeet_78 : decode cX0_boundsMeet 78 = .ok (.istore 8, 2) := by decide +kernel
theorem dX0_boundsMeet_80 : decode cX0_boundsMeet 80 = .ok (.iinc 9 1, 3) := by decide +kernel
theorem dX0_boundsMeet_83 : decode cX0_boundsMeet 83 = .ok (.goto (-34), 3) := by decide +kernel
theorem dX0_boundsMeet_86 : decode cX0_boundsMeet 86 = .ok (.iload 7, 2) := by decide +kernel
theorem dX0_boundsMeet_88 : decode cX0_boundsMeet 88 = .ok (.istore_n 3, 1) := by decide +kernel
theorem dX0_boundsMeet_89 : decode cX0_boundsMeet 89 = .ok (.iload 8, 2) := by decide +kernel
theorem dX0_boundsMeet_91 : decode cX0_boundsMeet 91 = .ok (.istore 4, 2) := by decide +kernel
theorem dX0_boundsMeet_93 : decode cX0_boundsMeet 93 = .ok (.iinc 5 (-1), 3) := by decide +kernel
theorem dX0_boundsMeet_96 : decode cX0_boundsMeet 96 = .ok (.goto (-83), 3) := by decide +kernel
theorem dX0_boundsMeet_99 : decode cX0_boundsMeet 99 = .ok (.iload_n 3, 1) := by decide +kernel
theorem dX0_boundsMeet_100 : decode cX0_boundsMeet 100 = .ok (.iload 4, 2) := by decide +kernel
theorem dX0_boundsMeet_102 : decode cX0_boundsMeet 102 = .ok (.if_icmp .ne 7, 3) := by decide +kernel
theorem dX0_boundsMeet_105 : decode cX0_boundsMeet 105 = .ok (.iconst 1, 1) := by decide +kernel
theorem dX0_boundsMeet_106 : decode cX0_boundsMeet 106 = .ok (.goto 4, 3) := by decide +kernel
theorem dX0_boundsMeet_109 : decode cX0_boundsMeet 109 = .ok (.iconst 0, 1) := by decide +kernel
theorem dX0_boundsMeet_110 : decode cX0_boundsMeet 110 = .ok (.ireturn, 1) := by decide +kernel
theorem dX0_keepsOrder_0 : decode cX0_keepsOrder 0 = .ok (.iconst 0, 1) := by decide +kernel
theorem dX0_keepsOrder_1 : decode cX0_keepsOrder 1 = .ok (.istore_n 1, 1) := by decide +kernel
theorem dX0_keepsOrder_2 : decode cX0_keepsOrder 2 = .ok (.iload_n 1, 1) := by decide +kernel
theorem dX0_keepsOrder_3 : decode cX0_keepsOrder 3 = .ok (.bipush 8, 2) := by decide +kernel
theorem dX0_keepsOrder_5 : decode cX0_keepsOrder 5 = .ok (.if_icmp .ge 48, 3) := by decide +kernel
theorem dX0_keepsOrder_8 : decode cX0_keepsOrder 8 = .ok (.iconst 1, 1) := by decide +kernel
theorem dX0_keepsOrder_9 : decode cX0_keepsOrder 9 = .ok (.istore_n 2, 1) := by decide +kernel
theorem dX0_keepsOrder_10 : decode cX0_keepsOrder 10 = .ok (.iload_n 2, 1) := by decide +kernel
theorem dX0_keepsOrder_11 : decode cX0_keepsOrder 11 = .ok (.aload_n 0, 1) := by decide +kernel
theorem dX0_keepsOrder_12 : decode cX0_keepsOrder 12 = .ok (.getfield 9, 3) := by decide +kernel
theorem dX0_keepsOrder_15 : decode cX0_keepsOrder 15 = .ok (.if_icmp .ge 32, 3) := by decide +kernel
theorem dX0_keepsOrder_18 : decode cX0_keepsOrder 18 = .ok (.aload_n 0, 1) := by decide +kernel
theorem dX0_keepsOrder_19 : decode cX0_keepsOrder 19 = .ok (.getfield 17, 3) := by decide +kernel
theorem dX0_keepsOrder_22 : decode cX0_keepsOrder 22 = .ok (.iload_n 1, 1) := by decide +kernel
theorem dX0_keepsOrder_23 : decode cX0_keepsOrder 23 = .ok (.aaload, 1) := by decide +kernel
theorem dX0_keepsOrder_24 : decode cX0_keepsOrder 24 = .ok (.iload_n 2, 1) := by decide +kernel
theorem dX0_keepsOrder_25 : decode cX0_keepsOrder 25 = .ok (.iconst 1, 1) := by decide +kernel
theorem dX0_keepsOrder_26 : decode cX0_keepsOrder 26 = .ok (.isub, 1) := by decide +kernel
theorem dX0_keepsOrder_27 : decode cX0_keepsOrder 27 = .ok (.iaload, 1) := by decide +kernel
theorem dX0_keepsOrder_28 : decode cX0_keepsOrder 28 = .ok (.aload_n 0, 1) := by decide +kernel
theorem dX0_keepsOrder_29 : decode cX0_keepsOrder 29 = .ok (.getfield 17, 3) := by decide +kernel
theorem dX0_keepsOrder_32 : decode cX0_keepsOrder 32 = .ok (.iload_n 1, 1) := by decide +kernel
theorem dX0_keepsOrder_33 : decode cX0_keepsOrder 33 = .ok (.aaload, 1) := by decide +kernel
theorem dX0_keepsOrder_34 : decode cX0_keepsOrder 34 = .ok (.iload_n 2, 1) := by decide +kernel
theorem dX0_keepsOrder_35 : decode cX0_keepsOrder 35 = .ok (.iaload, 1) := by decide +kernel
theorem dX0_keepsOrder_36 : decode cX0_keepsOrder 36 = .ok (.if_icmp .le 5, 3) := by decide +kernel
theorem dX0_keepsOrder_39 : decode cX0_keepsOrder 39 = .ok (.iconst 0, 1) := by decide +kernel
theorem dX0_keepsOrder_40 : decode cX0_keepsOrder 40 = .ok (.ireturn, 1) := by decide +kernel
theorem dX0_keepsOrder_41 : decode cX0_keepsOrder 41 = .ok (.iinc 2 1, 3) := by decide +kernel
theorem dX0_keepsOrder_44 : decode cX0_keepsOrder 44 = .ok (.goto (-34), 3) := by decide +kernel
theorem dX0_keepsOrder_47 : decode cX0_keepsOrder 47 = .ok (.iinc 1 1, 3) := by decide +kernel
theorem dX0_keepsOrder_50 : decode cX0_keepsOrder 50 = .ok (.goto (-48), 3) := by decide +kernel
theorem dX0_keepsOrder_53 : decode cX0_keepsOrder 53 = .ok (.iconst 1, 1) := by decide +kernel
theorem dX0_keepsOrder_54 : decode cX0_keepsOrder 54 = .ok (.ireturn, 1) := by decide +kernel
theorem dX0_allStates_0 : decode cX0_allStates 0 = .ok (.iconst 1, 1) := by decide +kernel
theorem dX0_allStates_1 : decode cX0_allStates 1 = .ok (.aload_n 0, 1) := by decide +kernel
theorem dX0_allStates_2 : decode cX0_allStates 2 = .ok (.getfield 9, 3) := by decide +kernel
theorem dX0_allStates_5 : decode cX0_allStates 5 = .ok (.ishl, 1) := by decide +kernel
theorem dX0_allStates_6 : decode cX0_allStates 6 = .ok (.iconst 1, 1) := by decide +kernel
theorem dX0_allStates_7 : decode cX0_allStates 7 = .ok (.isub, 1) := by decide +kernel
theorem dX0_allStates_8 : decode cX0_allStates 8 = .ok (.ireturn, 1) := by decide +kernel
theorem dX0_imageOf_0 : decode cX0_imageOf 0 = .ok (.iconst 0, 1) := by decide +kernel
theorem dX0_imageOf_1 : decode cX0_imageOf 1 = .ok (.istore_n 3, 1) := by decide +kernel
theorem dX0_imageOf_2 : decode cX0_imageOf 2 = .ok (.iconst 0, 1) := by decide +kernel
theorem dX0_imageOf_3 : decode cX0_imageOf 3 = .ok (.istore 4, 2) := by decide +kernel
theorem dX0_imageOf_5 : decode cX0_imageOf 5 = .ok (.iload 4, 2) := by decide +kernel
theorem dX0_imageOf_7 : decode cX0_imageOf 7 = .ok (.aload_n 0, 1) := by decide +kernel
theorem dX0_imageOf_8 : decode cX0_imageOf 8 = .ok (.getfield 9, 3) := by decide +kernel
theorem dX0_imageOf_11 : decode cX0_imageOf 11 = .ok (.if_icmp .ge 32, 3) := by decide +kernel
theorem dX0_imageOf_14 : decode cX0_imageOf 14 = .ok (.iload_n 1, 1) := by decide +kernel
theorem dX0_imageOf_15 : decode cX0_imageOf 15 = .ok (.iload 4, 2) := by decide +kernel
theorem dX0_imageOf_17 : decode cX0_imageOf 17 = .ok (.ishr, 1) := by decide +kernel
theorem dX0_imageOf_18 : decode cX0_imageOf 18 = .ok (.iconst 1, 1) := by decide +kernel
theorem dX0_imageOf_19 : decode cX0_imageOf 19 = .ok (.iand, 1) := by decide +kernel
theorem dX0_imageOf_20 : decode cX0_imageOf 20 = .ok (.ifCond .eq 17, 3) := by decide +kernel
theorem dX0_imageOf_23 : decode cX0_imageOf 23 = .ok (.iload_n 3, 1) := by decide +kernel
theorem dX0_imageOf_24 : decode cX0_imageOf 24 = .ok (.iconst 1, 1) := by decide +kernel
theorem dX0_imageOf_25 : decode cX0_imageOf 25 = .ok (.aload_n 0, 1) := by decide +kernel
theorem dX0_imageOf_26 : decode cX0_imageOf 26 = .ok (.getfield 17, 3) := by decide +kernel
theorem dX0_imageOf_29 : decode cX0_imageOf 29 = .ok (.iload_n 2, 1) := by decide +kernel
theorem dX0_imageOf_30 : decode cX0_imageOf 30 = .ok (.aaload, 1) := by decide +kernel
theorem dX0_imageOf_31 : decode cX0_imageOf 31 = .ok (.iload 4, 2) := by decide +kernel
theorem dX0_imageOf_33 : decode cX0_imageOf 33 = .ok (.iaload, 1) := by decide +kernel
theorem dX0_imageOf_34 : decode cX0_imageOf 34 = .ok (.ishl, 1) := by decide +kernel
theorem dX0_imageOf_35 : decode cX0_imageOf 35 = .ok (.ior, 1) := by decide +kernel
theorem dX0_imageOf_36 : decode cX0_imageOf 36 = .ok (.istore_n 3, 1) := by decide +kernel
theorem dX0_imageOf_37 : decode cX0_imageOf 37 = .ok (.iinc 4 1, 3) := by decide +kernel
theorem dX0_imageOf_40 : decode cX0_imageOf 40 = .ok (.goto (-35), 3) := by decide +kernel
theorem dX0_imageOf_43 : decode cX0_imageOf 43 = .ok (.iload_n 3, 1) := by decide +kernel
theorem dX0_imageOf_44 : decode cX0_imageOf 44 = .ok (.ireturn, 1) := by decide +kernel
theorem dX0_isSingle_0 : decode cX0_isSingle 0 = .ok (.iload_n 0, 1) := by decide +kernel
theorem dX0_isSingle_1 : decode cX0_isSingle 1 = .ok (.iload_n 0, 1) := by decide +kernel
theorem dX0_isSingle_2 : decode cX0_isSingle 2 = .ok (.iconst 1, 1) := by decide +kernel
theorem dX0_isSingle_3 : decode cX0_isSingle 3 = .ok (.isub, 1) := by decide +kernel
theorem dX0_isSingle_4 : decode cX0_isSingle 4 = .ok (.iand, 1) := by decide +kernel
theorem dX0_isSingle_5 : decode cX0_isSingle 5 = .ok (.ifCond .ne 7, 3) := by decide +kernel
theorem dX0_isSingle_8 : decode cX0_isSingle 8 = .ok (.iconst 1, 1) := by decide +kernel
theorem dX0_isSingle_9 : decode cX0_isSingle 9 = .ok (.goto 4, 3) := by decide +kernel
theorem dX0_isSingle_12 : decode cX0_isSingle 12 = .ok (.iconst 0, 1) := by decide +kernel
theorem dX0_isSingle_13 : decode cX0_isSingle 13 = .ok (.ireturn, 1) := by decide +kernel
set_option maxRecDepth 20000 in
theorem ggX0_rowsMeeting_J7_fill_53178 : GoodIn wsX0_rowsMeeting wsJ7_fill_53178 := goodIn_r _ [5] (by decide +kernel) (by decide +kernel)
set_option maxRecDepth 20000 in
theorem gX0_rowsMeeting_J7_fill_53178 : GoodIn wsX0_rowsMeeting (va_wsS RX0 68 yJ7_fill_53178 wsJ7_fill_53178) := goodIn_app (goodIn_of _ (by decide +kernel)) ggX0_rowsMeeting_J7_fill_53178
set_option maxRecDepth 20000 in
theorem ggX0_rowsMeeting_X0_allStates : GoodIn wsX0_rowsMeeting wsX0_allStates := goodIn_r _ [10, 11, 29, 30, 31, 32, 33, 34, 35] (by decide +kernel) (by decide +kernel)
set_option maxRecDepth 20000 in
theorem gX0_rowsMeeting_X0_allStates : GoodIn wsX0_rowsMeeting (wsV RX0 74 RX0 yX0_allStates wsX0_allStates) := goodIn_app (goodIn_of _ (by decide +kernel)) ggX0_rowsMeeting_X0_allStates
set_option maxRecDepth 20000 in
theorem ggX0_rowsMeeting_X0_lengthenRows : GoodIn wsX0_rowsMeeting wsX0_lengthenRows := goodIn_r _ [15, 16, 1, 17, 18, 19, 20, 2, 3, 4, 5, 6, 7, 8, 9, 10, 11, 21, 22, 23, 24, 25, 29, 30, 31, 32, 33, 34, 35] (by decide +kernel) (by decide +kernel)
set_option maxRecDepth 20000 in
theorem gX0_rowsMeeting_X0_lengthenRows : GoodIn wsX0_rowsMeeting (wsV RX0 78 RX0 yX0_lengthenRows wsX0_lengthenRows) := goodIn_app (goodIn_of _ (by decide +kernel)) ggX0_rowsMeeting_X0_lengthenRows
set_option maxRecDepth 20000 in
theorem ggX0_rowsMeeting_X0_isSingle : GoodIn wsX0_rowsMeeting wsX0_isSingle := goodIn_r _ [28] (by decide +kernel) (by decide +kernel)
set_option maxRecDepth 20000 in
theorem gX0_rowsMeeting_X0_isSingle : GoodIn wsX0_rowsMeeting (va_wsS RX0 81 yX0_isSingle wsX0_isSingle) := goodIn_app (goodIn_of _ (by decide +kernel)) ggX0_rowsMeeting_X0_isSingle
theorem dX0_rowsMeeting_0 : decode cX0_rowsMeeting 0 = .ok (.aload_n 0, 1) := by decide +kernel
theorem dX0_rowsMeeting_1 : decode cX0_rowsMeeting 1 = .ok (.getfield 27, 3) := by decide +kernel
theorem dX0_rowsMeeting_4 : decode cX0_rowsMeeting 4 = .ok (.iconst 0, 1) := by decide +kernel
theorem dX0_rowsMeeting_5 : decode cX0_rowsMeeting 5 = .ok (.invokestatic 68, 3) := by decide +kernel
theorem dX0_rowsMeeting_8 : decode cX0_rowsMeeting 8 = .ok (.aload_n 0, 1) := by decide +kernel
theorem dX0_rowsMeeting_9 : decode cX0_rowsMeeting 9 = .ok (.getfield 27, 3) := by decide +kernel
theorem dX0_rowsMeeting_12 : decode cX0_rowsMeeting 12 = .ok (.aload_n 0, 1) := by decide +kernel
theorem dX0_rowsMeeting_13 : decode cX0_rowsMeeting 13 = .ok (.invokevirtual 74, 3) := by decide +kernel
theorem dX0_rowsMeeting_16 : decode cX0_rowsMeeting 16 = .ok (.iconst 1, 1) := by decide +kernel
theorem dX0_rowsMeeting_17 : decode cX0_rowsMeeting 17 = .ok (.iastore, 1) := by decide +kernel
theorem dX0_rowsMeeting_18 : decode cX0_rowsMeeting 18 = .ok (.iconst 0, 1) := by decide +kernel
theorem dX0_rowsMeeting_19 : decode cX0_rowsMeeting 19 = .ok (.istore_n 3, 1) := by decide +kernel
theorem dX0_rowsMeeting_20 : decode cX0_rowsMeeting 20 = .ok (.iload_n 3, 1) := by decide +kernel
theorem dX0_rowsMeeting_21 : decode cX0_rowsMeeting 21 = .ok (.iload_n 1, 1) := by decide +kernel
theorem dX0_rowsMeeting_22 : decode cX0_rowsMeeting 22 = .ok (.if_icmp .ge 13, 3) := by decide +kernel
theorem dX0_rowsMeeting_25 : decode cX0_rowsMeeting 25 = .ok (.aload_n 0, 1) := by decide +kernel
theorem dX0_rowsMeeting_26 : decode cX0_rowsMeeting 26 = .ok (.invokevirtual 78, 3) := by decide +kernel
theorem dX0_rowsMeeting_29 : decode cX0_rowsMeeting 29 = .ok (.iinc 3 1, 3) := by decide +kernel
theorem dX0_rowsMeeting_32 : decode cX0_rowsMeeting 32 = .ok (.goto (-12), 3) := by decide +kernel
theorem dX0_rowsMeeting_35 : decode cX0_rowsMeeting 35 = .ok (.iload_n 2, 1) := by decide +kernel
theorem dX0_rowsMeeting_36 : decode cX0_rowsMeeting 36 = .ok (.ifCond .lt 12, 3) := by decide +kernel
theorem dX0_rowsMeeting_39 : decode cX0_rowsMeeting 39 = .ok (.aload_n 0, 1) := by decide +kernel
theorem dX0_rowsMeeting_40 : decode cX0_rowsMeeting 40 = .ok (.getfield 27, 3) := by decide +kernel
theorem dX0_rowsMeeting_43 : decode cX0_rowsMeeting 43 = .ok (.iconst 1, 1) := by decide +kernel
theorem dX0_rowsMeeting_44 : decode cX0_rowsMeeting 44 = .ok (.iload_n 2, 1) := by decide +kernel
theorem dX0_rowsMeeting_45 : decode cX0_rowsMeeting 45 = .ok (.ishl, 1) := by decide +kernel
theorem dX0_rowsMeeting_46 : decode cX0_rowsMeeting 46 = .ok (.iaload, 1) := by decide +kernel
theorem dX0_rowsMeeting_47 : decode cX0_rowsMeeting 47 = .ok (.ireturn, 1) := by decide +kernel
theorem dX0_rowsMeeting_48 : decode cX0_rowsMeeting 48 = .ok (.iconst 0, 1) := by decide +kernel
theorem dX0_rowsMeeting_49 : decode cX0_rowsMeeting 49 = .ok (.istore_n 3, 1) := by decide +kernel
theorem dX0_rowsMeeting_50 : decode cX0_rowsMeeting 50 = .ok (.iconst 1, 1) := by decide +kernel
theorem dX0_rowsMeeting_51 : decode cX0_rowsMeeting 51 = .ok (.istore 4, 2) := by decide +kernel
theorem dX0_rowsMeeting_53 : decode cX0_rowsMeeting 53 = .ok (.iload 4, 2) := by decide +kernel
theorem dX0_rowsMeeting_55 : decode cX0_rowsMeeting 55 = .ok (.aload_n 0, 1) := by decide +kernel
theorem dX0_rowsMeeting_56 : decode cX0_rowsMeeting 56 = .ok (.invokevirtual 74, 3) := by decide +kernel
theorem dX0_rowsMeeting_59 : decode cX0_rowsMeeting 59 = .ok (.if_icmp .gt 27, 3) := by decide +kernel
theorem dX0_rowsMeeting_62 : decode cX0_rowsMeeting 62 = .ok (.iload 4, 2) := by decide +kernel
theorem dX0_rowsMeeting_64 : decode cX0_rowsMeeting 64 = .ok (.invokestatic 81, 3) := by decide +kernel
theorem dX0_rowsMeeting_67 : decode cX0_rowsMeeting 67 = .ok (.ifCond .ne 13, 3) := by decide +kernel
theorem dX0_rowsMeeting_70 : decode cX0_rowsMeeting 70 = .ok (.iload_n 3, 1) := by decide +kernel
theorem dX0_rowsMeeting_71 : decode cX0_rowsMeeting 71 = .ok (.aload_n 0, 1) := by decide +kernel
theorem dX0_rowsMeeting_72 : decode cX0_rowsMeeting 72 = .ok (.getfield 27, 3) := by decide +kernel
theorem dX0_rowsMeeting_75 : decode cX0_rowsMeeting 75 = .ok (.iload 4, 2) := by decide +kernel
theorem dX0_rowsMeeting_77 : decode cX0_rowsMeeting 77 = .ok (.iaload, 1) := by decide +kernel
theorem dX0_rowsMeeting_78 : decode cX0_rowsMeeting 78 = .ok (.iadd, 1) := by decide +kernel
theorem dX0_rowsMeeting_79 : decode cX0_rowsMeeting 79 = .ok (.istore_n 3, 1) := by decide +kernel
theorem dX0_rowsMeeting_80 : decode cX0_rowsMeeting 80 = .ok (.iinc 4 1, 3) := by decide +kernel
theorem dX0_rowsMeeting_83 : decode cX0_rowsMeeting 83 = .ok (.goto (-30), 3) := by decide +kernel
theorem dX0_rowsMeeting_86 : decode cX0_rowsMeeting 86 = .ok (.iload_n 3, 1) := by decide +kernel
theorem dX0_rowsMeeting_87 : decode cX0_rowsMeeting 87 = .ok (.ireturn, 1) := by decide +kernel
set_option maxRecDepth 20000 in
theorem ggX0_lengthenRows_J7_fill_53178 : GoodIn wsX0_lengthenRows wsJ7_fill_53178 := goodIn_r _ [10] (by decide +kernel) (by decide +kernel)
set_option maxRecDepth 20000 in
theorem gX0_lengthenRows_J7_fill_53178 : GoodIn wsX0_lengthenRows (va_wsS RX0 68 yJ7_fill_53178 wsJ7_fill_53178) := goodIn_app (goodIn_of _ (by decide +kernel)) ggX0_lengthenRows_J7_fill_53178
set_option maxRecDepth 20000 in
theorem ggX0_lengthenRows_X0_allStates : GoodIn wsX0_lengthenRows wsX0_allStates := goodIn_r _ [15, 16, 22, 23, 24, 25, 26, 27, 28] (by decide +kernel) (by decide +kernel)
set_option maxRecDepth 20000 in
theorem gX0_lengthenRows_X0_allStates : GoodIn wsX0_lengthenRows (wsV RX0 74 RX0 yX0_allStates wsX0_allStates) := goodIn_app (goodIn_of _ (by decide +kernel)) ggX0_lengthenRows_X0_allStates
set_option maxRecDepth 20000 in
theorem ggX0_lengthenRows_X0_imageOf : GoodIn wsX0_lengthenRows wsX0_imageOf := goodIn_r _ [20, 16, 21, 22, 23, 24, 25, 26, 27, 28] (by decide +kernel) (by decide +kernel)
set_option maxRecDepth 20000 in
theorem gX0_lengthenRows_X0_imageOf : GoodIn wsX0_lengthenRows (wsV RX0 85 RX0 yX0_imageOf wsX0_imageOf) := goodIn_app (goodIn_of _ (by decide +kernel)) ggX0_lengthenRows_X0_imageOf
theorem dX0_lengthenRows_0 : decode cX0_lengthenRows 0 = .ok (.aload_n 0, 1) := by decide +kernel
theorem dX0_lengthenRows_1 : decode cX0_lengthenRows 1 = .ok (.getfield 30, 3) := by decide +kernel
theorem dX0_lengthenRows_4 : decode cX0_lengthenRows 4 = .ok (.iconst 0, 1) := by decide +kernel
theorem dX0_lengthenRows_5 : decode cX0_lengthenRows 5 = .ok (.invokestatic 68, 3) := by decide +kernel
theorem dX0_lengthenRows_8 : decode cX0_lengthenRows 8 = .ok (.iconst 1, 1) := by decide +kernel
theorem dX0_lengthenRows_9 : decode cX0_lengthenRows 9 = .ok (.istore_n 1, 1) := by decide +kernel
theorem dX0_lengthenRows_10 : decode cX0_lengthenRows 10 = .ok (.iload_n 1, 1) := by decide +kernel
theorem dX0_lengthenRows_11 : decode cX0_lengthenRows 11 = .ok (.aload_n 0, 1) := by decide +kernel
theorem dX0_lengthenRows_12 : decode cX0_lengthenRows 12 = .ok (.invokevirtual 74, 3) := by decide +kernel
theorem dX0_lengthenRows_15 : decode cX0_lengthenRows 15 = .ok (.if_icmp .gt 52, 3) := by decide +kernel
theorem dX0_lengthenRows_18 : decode cX0_lengthenRows 18 = .ok (.aload_n 0, 1) := by decide +kernel
theorem dX0_lengthenRows_19 : decode cX0_lengthenRows 19 = .ok (.getfield 27, 3) := by decide +kernel
theorem dX0_lengthenRows_22 : decode cX0_lengthenRows 22 = .ok (.iload_n 1, 1) := by decide +kernel
theorem dX0_lengthenRows_23 : decode cX0_lengthenRows 23 = .ok (.iaload, 1) := by decide +kernel
theorem dX0_lengthenRows_24 : decode cX0_lengthenRows 24 = .ok (.ifCond .eq 37, 3) := by decide +kernel
theorem dX0_lengthenRows_27 : decode cX0_lengthenRows 27 = .ok (.iconst 0, 1) := by decide +kernel
theorem dX0_lengthenRows_28 : decode cX0_lengthenRows 28 = .ok (.istore_n 2, 1) := by decide +kernel
theorem dX0_lengthenRows_29 : decode cX0_lengthenRows 29 = .ok (.iload_n 2, 1) := by decide +kernel
theorem dX0_lengthenRows_30 : decode cX0_lengthenRows 30 = .ok (.bipush 8, 2) := by decide +kernel
theorem dX0_lengthenRows_32 : decode cX0_lengthenRows 32 = .ok (.if_icmp .ge 29, 3) := by decide +kernel
theorem dX0_lengthenRows_35 : decode cX0_lengthenRows 35 = .ok (.aload_n 0, 1) := by decide +kernel
theorem dX0_lengthenRows_36 : decode cX0_lengthenRows 36 = .ok (.getfield 30, 3) := by decide +kernel
theorem dX0_lengthenRows_39 : decode cX0_lengthenRows 39 = .ok (.aload_n 0, 1) := by decide +kernel
theorem dX0_lengthenRows_40 : decode cX0_lengthenRows 40 = .ok (.iload_n 1, 1) := by decide +kernel
theorem dX0_lengthenRows_41 : decode cX0_lengthenRows 41 = .ok (.iload_n 2, 1) := by decide +kernel
theorem dX0_lengthenRows_42 : decode cX0_lengthenRows 42 = .ok (.invokevirtual 85, 3) := by decide +kernel
theorem dX0_lengthenRows_45 : decode cX0_lengthenRows 45 = .ok (.dup2, 1) := by decide +kernel
theorem dX0_lengthenRows_46 : decode cX0_lengthenRows 46 = .ok (.iaload, 1) := by decide +kernel
theorem dX0_lengthenRows_47 : decode cX0_lengthenRows 47 = .ok (.aload_n 0, 1) := by decide +kernel
theorem dX0_lengthenRows_48 : decode cX0_lengthenRows 48 = .ok (.getfield 27, 3) := by decide +kernel
theorem dX0_lengthenRows_51 : decode cX0_lengthenRows 51 = .ok (.iload_n 1, 1) := by decide +kernel
theorem dX0_lengthenRows_52 : decode cX0_lengthenRows 52 = .ok (.iaload, 1) := by decide +kernel
theorem dX0_lengthenRows_53 : decode cX0_lengthenRows 53 = .ok (.iadd, 1) := by decide +kernel
theorem dX0_lengthenRows_54 : decode cX0_lengthenRows 54 = .ok (.iastore, 1) := by decide +kernel
theorem dX0_lengthenRows_55 : decode cX0_lengthenRows 55 = .ok (.iinc 2 1, 3) := by decide +kernel
theorem dX0_lengthenRows_58 : decode cX0_lengthenRows 58 = .ok (.goto (-29), 3) := by decide +kernel
theorem dX0_lengthenRows_61 : decode cX0_lengthenRows 61 = .ok (.iinc 1 1, 3) := by decide +kernel
theorem dX0_lengthenRows_64 : decode cX0_lengthenRows 64 = .ok (.goto (-54), 3) := by decide +kernel
theorem dX0_lengthenRows_67 : decode cX0_lengthenRows 67 = .ok (.aload_n 0, 1) := by decide +kernel
theorem dX0_lengthenRows_68 : decode cX0_lengthenRows 68 = .ok (.getfield 30, 3) := by decide +kernel
theorem dX0_lengthenRows_71 : decode cX0_lengthenRows 71 = .ok (.iconst 0, 1) := by decide +kernel
theorem dX0_lengthenRows_72 : decode cX0_lengthenRows 72 = .ok (.aload_n 0, 1) := by decide +kernel
theorem dX0_lengthenRows_73 : decode cX0_lengthenRows 73 = .ok (.getfield 27, 3) := by decide +kernel
theorem dX0_lengthenRows_76 : decode cX0_lengthenRows 76 = .ok (.iconst 0, 1) := by decide +kernel
theorem dX0_lengthenRows_77 : decode cX0_lengthenRows 77 = .ok (.aload_n 0, 1) := by decide +kernel
theorem dX0_lengthenRows_78 : decode cX0_lengthenRows 78 = .ok (.getfield 27, 3) := by decide +kernel
theorem dX0_lengthenRows_81 : decode cX0_lengthenRows 81 = .ok (.arraylength, 1) := by decide +kernel
theorem dX0_lengthenRows_82 : decode cX0_lengthenRows 82 = .ok (.invokestatic 50, 3) := by decide +kernel
theorem dX0_lengthenRows_85 : decode cX0_lengthenRows 85 = .ok (.return_, 1) := by decide +kernel
set_option maxRecDepth 20000 in
theorem ggX0_allTrees_X0_treesTo : GoodIn wsX0_allTrees wsX0_treesTo := goodIn_r _ [6, 1, 7, 8, 9, 5, 10, 11, 12, 13, 14, 15, 16, 17, 18, 19, 20, 21, 22, 23, 24, 25, 26, 27, 28, 29, 30] (by decide +kernel) (by decide +kernel)
set_option maxRecDepth 20000 in
theorem gX0_allTrees_X0_treesTo : GoodIn wsX0_allTrees (wsV RX0 88 RX0 yX0_treesTo wsX0_treesTo) := goodIn_app (goodIn_of _ (by decide +kernel)) ggX0_allTrees_X0_treesTo
theorem dX0_allTrees_0 : decode cX0_allTrees 0 = .ok (.lconst 0, 1) := by decide +kernel
theorem dX0_allTrees_1 : decode cX0_allTrees 1 = .ok (.lstore_n 1, 1) := by decide +kernel
theorem dX0_allTrees_2 : decode cX0_allTrees 2 = .ok (.iconst 0, 1) := by decide +kernel
theorem dX0_allTrees_3 : decode cX0_allTrees 3 = .ok (.istore_n 3, 1) := by decide +kernel
theorem dX0_allTrees_4 : decode cX0_allTrees 4 = .ok (.iload_n 3, 1) := by decide +kernel
theorem dX0_allTrees_5 : decode cX0_allTrees 5 = .ok (.aload_n 0, 1) := by decide +kernel
theorem dX0_allTrees_6 : decode cX0_allTrees 6 = .ok (.getfield 9, 3) := by decide +kernel
theorem dX0_allTrees_9 : decode cX0_allTrees 9 = .ok (.if_icmp .ge 17, 3) := by decide +kernel
theorem dX0_allTrees_12 : decode cX0_allTrees 12 = .ok (.lload_n 1, 1) := by decide +kernel
theorem dX0_allTrees_13 : decode cX0_allTrees 13 = .ok (.aload_n 0, 1) := by decide +kernel
theorem dX0_allTrees_14 : decode cX0_allTrees 14 = .ok (.iload_n 3, 1) := by decide +kernel
theorem dX0_allTrees_15 : decode cX0_allTrees 15 = .ok (.invokevirtual 88, 3) := by decide +kernel
theorem dX0_allTrees_18 : decode cX0_allTrees 18 = .ok (.ladd, 1) := by decide +kernel
theorem dX0_allTrees_19 : decode cX0_allTrees 19 = .ok (.lstore_n 1, 1) := by decide +kernel
theorem dX0_allTrees_20 : decode cX0_allTrees 20 = .ok (.iinc 3 1, 3) := by decide +kernel
theorem dX0_allTrees_23 : decode cX0_allTrees 23 = .ok (.goto (-19), 3) := by decide +kernel
theorem dX0_allTrees_26 : decode cX0_allTrees 26 = .ok (.lload_n 1, 1) := by decide +kernel
theorem dX0_allTrees_27 : decode cX0_allTrees 27 = .ok (.lreturn, 1) := by decide +kernel
set_option maxRecDepth 20000 in
theorem ggX0_treesTo_X0_fillMinorRow : GoodIn wsX0_treesTo wsX0_fillMinorRow := goodIn_r _ [6, 7, 8, 9, 10, 5, 11, 12, 13, 14, 15, 20, 21, 22, 23, 24, 25, 26] (by decide +kernel) (by decide +kernel)
set_option maxRecDepth 20000 in
theorem gX0_treesTo_X0_fillMinorRow : GoodIn wsX0_treesTo (wsV RX0 92 RX0 yX0_fillMinorRow wsX0_fillMinorRow) := goodIn_app (goodIn_of _ (by decide +kernel)) ggX0_treesTo_X0_fillMinorRow
set_option maxRecDepth 20000 in
theorem ggX0_treesTo_X0_determinant : GoodIn wsX0_treesTo wsX0_determinant := goodIn_r _ [19, 7, 20, 21, 22, 23, 24, 25, 26] (by decide +kernel) (by decide +kernel)
set_option maxRecDepth 20000 in
theorem gX0_treesTo_X0_determinant : GoodIn wsX0_treesTo (wsV RX0 96 RX0 yX0_determinant wsX0_determinant) := goodIn_app (goodIn_of _ (by decide +kernel)) ggX0_treesTo_X0_determinant
theorem dX0_treesTo_0 : decode cX0_treesTo 0 = .ok (.iconst 0, 1) := by decide +kernel
theorem dX0_treesTo_1 : decode cX0_treesTo 1 = .ok (.istore_n 2, 1) := by decide +kernel
theorem dX0_treesTo_2 : decode cX0_treesTo 2 = .ok (.iload_n 2, 1) := by decide +kernel
theorem dX0_treesTo_3 : decode cX0_treesTo 3 = .ok (.aload_n 0, 1) := by decide +kernel
theorem dX0_treesTo_4 : decode cX0_treesTo 4 = .ok (.getfield 9, 3) := by decide +kernel
theorem dX0_treesTo_7 : decode cX0_treesTo 7 = .ok (.if_icmp .ge 20, 3) := by decide +kernel
theorem dX0_treesTo_10 : decode cX0_treesTo 10 = .ok (.iload_n 2, 1) := by decide +kernel
theorem dX0_treesTo_11 : decode cX0_treesTo 11 = .ok (.iload_n 1, 1) := by decide +kernel
theorem dX0_treesTo_12 : decode cX0_treesTo 12 = .ok (.if_icmp .eq 9, 3) := by decide +kernel
theorem dX0_treesTo_15 : decode cX0_treesTo 15 = .ok (.aload_n 0, 1) := by decide +kernel
theorem dX0_treesTo_16 : decode cX0_treesTo 16 = .ok (.iload_n 2, 1) := by decide +kernel
theorem dX0_treesTo_17 : decode cX0_treesTo 17 = .ok (.iload_n 1, 1) := by decide +kernel
theorem dX0_treesTo_18 : decode cX0_treesTo 18 = .ok (.invokevirtual 92, 3) := by decide +kernel
theorem dX0_treesTo_21 : decode cX0_treesTo 21 = .ok (.iinc 2 1, 3) := by decide +kernel
theorem dX0_treesTo_24 : decode cX0_treesTo 24 = .ok (.goto (-22), 3) := by decide +kernel
theorem dX0_treesTo_27 : decode cX0_treesTo 27 = .ok (.aload_n 0, 1) := by decide +kernel
theorem dX0_treesTo_28 : decode cX0_treesTo 28 = .ok (.aload_n 0, 1) := by decide +kernel
theorem dX0_treesTo_29 : decode cX0_treesTo 29 = .ok (.getfield 9, 3) := by decide +kernel
theorem dX0_treesTo_32 : decode cX0_treesTo 32 = .ok (.iconst 1, 1) := by decide +kernel
theorem dX0_treesTo_33 : decode cX0_treesTo 33 = .ok (.isub, 1) := by decide +kernel
theorem dX0_treesTo_34 : decode cX0_treesTo 34 = .ok (.invokevirtual 96, 3) := by decide +kernel
theorem dX0_treesTo_37 : decode cX0_treesTo 37 = .ok (.lreturn, 1) := by decide +kernel
set_option maxRecDepth 20000 in
theorem ggX0_fillMinorRow_X0_indexWithout : GoodIn wsX0_fillMinorRow wsX0_indexWithout := goodIn_r _ [6] (by decide +kernel) (by decide +kernel)
set_option maxRecDepth 20000 in
theorem gX0_fillMinorRow_X0_indexWithout : GoodIn wsX0_fillMinorRow (va_wsS RX0 99 yX0_indexWithout wsX0_indexWithout) := goodIn_app (goodIn_of _ (by decide +kernel)) ggX0_fillMinorRow_X0_indexWithout
set_option maxRecDepth 20000 in
theorem ggX0_fillMinorRow_J7_fill_d0a16 : GoodIn wsX0_fillMinorRow wsJ7_fill_d0a16 := goodIn_r _ [10] (by decide +kernel) (by decide +kernel)
set_option maxRecDepth 20000 in
theorem gX0_fillMinorRow_J7_fill_d0a16 : GoodIn wsX0_fillMinorRow (va_wsS RX0 102 yJ7_fill_d0a16 wsJ7_fill_d0a16) := goodIn_app (goodIn_of _ (by decide +kernel)) ggX0_fillMinorRow_J7_fill_d0a16
theorem dX0_fillMinorRow_0 : decode cX0_fillMinorRow 0 = .ok (.iload_n 1, 1) := by decide +kernel
theorem dX0_fillMinorRow_1 : decode cX0_fillMinorRow 1 = .ok (.iload_n 2, 1) := by decide +kernel
theorem dX0_fillMinorRow_2 : decode cX0_fillMinorRow 2 = .ok (.invokestatic 99, 3) := by decide +kernel
theorem dX0_fillMinorRow_5 : decode cX0_fillMinorRow 5 = .ok (.istore_n 3, 1) := by decide +kernel
theorem dX0_fillMinorRow_6 : decode cX0_fillMinorRow 6 = .ok (.aload_n 0, 1) := by decide +kernel
theorem dX0_fillMinorRow_7 : decode cX0_fillMinorRow 7 = .ok (.getfield 35, 3) := by decide +kernel
theorem dX0_fillMinorRow_10 : decode cX0_fillMinorRow 10 = .ok (.iload_n 3, 1) := by decide +kernel
theorem dX0_fillMinorRow_11 : decode cX0_fillMinorRow 11 = .ok (.aaload, 1) := by decide +kernel
theorem dX0_fillMinorRow_12 : decode cX0_fillMinorRow 12 = .ok (.astore 4, 2) := by decide +kernel
theorem dX0_fillMinorRow_14 : decode cX0_fillMinorRow 14 = .ok (.aload 4, 2) := by decide +kernel
theorem dX0_fillMinorRow_16 : decode cX0_fillMinorRow 16 = .ok (.lconst 0, 1) := by decide +kernel
theorem dX0_fillMinorRow_17 : decode cX0_fillMinorRow 17 = .ok (.invokestatic 102, 3) := by decide +kernel
theorem dX0_fillMinorRow_20 : decode cX0_fillMinorRow 20 = .ok (.iconst 0, 1) := by decide +kernel
theorem dX0_fillMinorRow_21 : decode cX0_fillMinorRow 21 = .ok (.istore 5, 2) := by decide +kernel
theorem dX0_fillMinorRow_23 : decode cX0_fillMinorRow 23 = .ok (.iload 5, 2) := by decide +kernel
theorem dX0_fillMinorRow_25 : decode cX0_fillMinorRow 25 = .ok (.bipush 8, 2) := by decide +kernel
theorem dX0_fillMinorRow_27 : decode cX0_fillMinorRow 27 = .ok (.if_icmp .ge 59, 3) := by decide +kernel
theorem dX0_fillMinorRow_30 : decode cX0_fillMinorRow 30 = .ok (.aload_n 0, 1) := by decide +kernel
theorem dX0_fillMinorRow_31 : decode cX0_fillMinorRow 31 = .ok (.getfield 17, 3) := by decide +kernel
theorem dX0_fillMinorRow_34 : decode cX0_fillMinorRow 34 = .ok (.iload 5, 2) := by decide +kernel
theorem dX0_fillMinorRow_36 : decode cX0_fillMinorRow 36 = .ok (.aaload, 1) := by decide +kernel
theorem dX0_fillMinorRow_37 : decode cX0_fillMinorRow 37 = .ok (.iload_n 1, 1) := by decide +kernel
theorem dX0_fillMinorRow_38 : decode cX0_fillMinorRow 38 = .ok (.iaload, 1) := by decide +kernel
theorem dX0_fillMinorRow_39 : decode cX0_fillMinorRow 39 = .ok (.istore 6, 2) := by decide +kernel
theorem dX0_fillMinorRow_41 : decode cX0_fillMinorRow 41 = .ok (.iload 6, 2) := by decide +kernel
theorem dX0_fillMinorRow_43 : decode cX0_fillMinorRow 43 = .ok (.iload_n 1, 1) := by decide +kernel
theorem dX0_fillMinorRow_44 : decode cX0_fillMinorRow 44 = .ok (.if_icmp .eq 11, 3) := by decide +kernel
theorem dX0_fillMinorRow_47 : decode cX0_fillMinorRow 47 = .ok (.aload 4, 2) := by decide +kernel
theorem dX0_fillMinorRow_49 : decode cX0_fillMinorRow 49 = .ok (.iload_n 3, 1) := by decide +kernel
theorem dX0_fillMinorRow_50 : decode cX0_fillMinorRow 50 = .ok (.dup2, 1) := by decide +kernel
theorem dX0_fillMinorRow_51 : decode cX0_fillMinorRow 51 = .ok (.laload, 1) := by decide +kernel
theorem dX0_fillMinorRow_52 : decode cX0_fillMinorRow 52 = .ok (.lconst 1, 1) := by decide +kernel
theorem dX0_fillMinorRow_53 : decode cX0_fillMinorRow 53 = .ok (.ladd, 1) := by decide +kernel
theorem dX0_fillMinorRow_54 : decode cX0_fillMinorRow 54 = .ok (.lastore, 1) := by decide +kernel
theorem dX0_fillMinorRow_55 : decode cX0_fillMinorRow 55 = .ok (.iload 6, 2) := by decide +kernel
theorem dX0_fillMinorRow_57 : decode cX0_fillMinorRow 57 = .ok (.iload_n 1, 1) := by decide +kernel
theorem dX0_fillMinorRow_58 : decode cX0_fillMinorRow 58 = .ok (.if_icmp .eq 22, 3) := by decide +kernel
theorem dX0_fillMinorRow_61 : decode cX0_fillMinorRow 61 = .ok (.iload 6, 2) := by decide +kernel
theorem dX0_fillMinorRow_63 : decode cX0_fillMinorRow 63 = .ok (.iload_n 2, 1) := by decide +kernel
theorem dX0_fillMinorRow_64 : decode cX0_fillMinorRow 64 = .ok (.if_icmp .eq 16, 3) := by decide +kernel
theorem dX0_fillMinorRow_67 : decode cX0_fillMinorRow 67 = .ok (.aload 4, 2) := by decide +kernel
theorem dX0_fillMinorRow_69 : decode cX0_fillMinorRow 69 = .ok (.iload 6, 2) := by decide +kernel
theorem dX0_fillMinorRow_71 : decode cX0_fillMinorRow 71 = .ok (.iload_n 2, 1) := by decide +kernel
theorem dX0_fillMinorRow_72 : decode cX0_fillMinorRow 72 = .ok (.invokestatic 99, 3) := by decide +kernel
theorem dX0_fillMinorRow_75 : decode cX0_fillMinorRow 75 = .ok (.dup2, 1) := by decide +kernel
theorem dX0_fillMinorRow_76 : decode cX0_fillMinorRow 76 = .ok (.laload, 1) := by decide +kernel
theorem dX0_fillMinorRow_77 : decode cX0_fillMinorRow 77 = .ok (.lconst 1, 1) := by decide +kernel
theorem dX0_fillMinorRow_78 : decode cX0_fillMinorRow 78 = .ok (.lsub, 1) := by decide +kernel
theorem dX0_fillMinorRow_79 : decode cX0_fillMinorRow 79 = .ok (.lastore, 1) := by decide +kernel
theorem dX0_fillMinorRow_80 : decode cX0_fillMinorRow 80 = .ok (.iinc 5 1, 3) := by decide +kernel
theorem dX0_fillMinorRow_83 : decode cX0_fillMinorRow 83 = .ok (.goto (-60), 3) := by decide +kernel
theorem dX0_fillMinorRow_86 : decode cX0_fillMinorRow 86 = .ok (.return_, 1) := by decide +kernel
theorem dX0_indexWithout_0 : decode cX0_indexWithout 0 = .ok (.iload_n 0, 1) := by decide +kernel
theorem dX0_indexWithout_1 : decode cX0_indexWithout 1 = .ok (.iload_n 1, 1) := by decide +kernel
theorem dX0_indexWithout_2 : decode cX0_indexWithout 2 = .ok (.if_icmp .ge 7, 3) := by decide +kernel
theorem dX0_indexWithout_5 : decode cX0_indexWithout 5 = .ok (.iload_n 0, 1) := by decide +kernel
theorem dX0_indexWithout_6 : decode cX0_indexWithout 6 = .ok (.goto 6, 3) := by decide +kernel
theorem dX0_indexWithout_9 : decode cX0_indexWithout 9 = .ok (.iload_n 0, 1) := by decide +kernel
theorem dX0_indexWithout_10 : decode cX0_indexWithout 10 = .ok (.iconst 1, 1) := by decide +kernel
theorem dX0_indexWithout_11 : decode cX0_indexWithout 11 = .ok (.isub, 1) := by decide +kernel
theorem dX0_indexWithout_12 : decode cX0_indexWithout 12 = .ok (.ireturn, 1) := by decide +kernel
theorem dX0_determinant_0 : decode cX0_determinant 0 = .ok (.lconst 1, 1) := by decide +kernel
theorem dX0_determinant_1 : decode cX0_determinant 1 = .ok (.lstore_n 2, 1) := by decide +kernel
theorem dX0_determinant_2 : decode cX0_determinant 2 = .ok (.iconst 0, 1) := by decide +kernel
theorem dX0_determinant_3 : decode cX0_determinant 3 = .ok (.istore 4, 2) := by decide +kernel
theorem dX0_determinant_5 : decode cX0_determinant 5 = .ok (.iload 4, 2) := by decide +kernel
theorem dX0_determinant_7 : decode cX0_determinant 7 = .ok (.iload_n 1, 1) := by decide +kernel
theorem dX0_determinant_8 : decode cX0_determinant 8 = .ok (.if_icmp .ge 118, 3) := by decide +kernel
theorem dX0_determinant_11 : decode cX0_determinant 11 = .ok (.lload_n 2, 1) := by decide +kernel
theorem dX0_determinant_12 : decode cX0_determinant 12 = .ok (.lstore 5, 2) := by decide +kernel
theorem dX0_determinant_14 : decode cX0_determinant 14 = .ok (.aload_n 0, 1) := by decide +kernel
theorem dX0_determinant_15 : decode cX0_determinant 15 = .ok (.getfield 35, 3) := by decide +kernel
theorem dX0_determinant_18 : decode cX0_determinant 18 = .ok (.iload 4, 2) := by decide +kernel
theorem dX0_determinant_20 : decode cX0_determinant 20 = .ok (.aaload, 1) := by decide +kernel
theorem dX0_determinant_21 : decode cX0_determinant 21 = .ok (.iload 4, 2) := by decide +kernel
theorem dX0_determinant_23 : decode cX0_determinant 23 = .ok (.laload, 1) := by decide +kernel
theorem dX0_determinant_24 : decode cX0_determinant 24 = .ok (.lstore_n 2, 1) := by decide +kernel
theorem dX0_determinant_25 : decode cX0_determinant 25 = .ok (.lload_n 2, 1) := by decide +kernel
theorem dX0_determinant_26 : decode cX0_determinant 26 = .ok (.lconst 0, 1) := by decide +kernel
theorem dX0_determinant_27 : decode cX0_determinant 27 = .ok (.lcmp, 1) := by decide +kernel
theorem dX0_determinant_28 : decode cX0_determinant 28 = .ok (.ifCond .ne 5, 3) := by decide +kernel
theorem dX0_determinant_31 : decode cX0_determinant 31 = .ok (.lconst 0, 1) := by decide +kernel
theorem dX0_determinant_32 : decode cX0_determinant 32 = .ok (.lreturn, 1) := by decide +kernel
theorem dX0_determinant_33 : decode cX0_determinant 33 = .ok (.iload 4, 2) := by decide +kernel
theorem dX0_determinant_35 : decode cX0_determinant 35 = .ok (.iconst 1, 1) := by decide +kernel
theorem dX0_determinant_36 : decode cX0_determinant 36 = .ok (.iadd, 1) := by decide +kernel
theorem dX0_determinant_37 : decode cX0_determinant 37 = .ok (.istore 7, 2) := by decide +kernel
theorem dX0_determinant_39 : decode cX0_determinant 39 = .ok (.iload 7, 2) := by decide +kernel
theorem dX0_determinant_41 : decode cX0_determinant 41 = .ok (.iload_n 1, 1) := by decide +kernel
theorem dX0_determinant_42 : decode cX0_determinant 42 = .ok (.if_icmp .ge 78, 3) := by decide +kernel
theorem dX0_determinant_45 : decode cX0_determinant 45 = .ok (.iload 4, 2) := by decide +kernel
theorem dX0_determinant_47 : decode cX0_determinant 47 = .ok (.iconst 1, 1) := by decide +kernel
theorem dX0_determinant_48 : decode cX0_determinant 48 = .ok (.iadd, 1) := by decide +kernel
theorem dX0_determinant_49 : decode cX0_determinant 49 = .ok (.istore 8, 2) := by decide +kernel
theorem dX0_determinant_51 : decode cX0_determinant 51 = .ok (.iload 8, 2) := by decide +kernel
theorem dX0_determinant_53 : decode cX0_determinant 53 = .ok (.iload_n 1, 1) := by decide +kernel
theorem dX0_determinant_54 : decode cX0_determinant 54 = .ok (.if_icmp .ge 60, 3) := by decide +kernel
theorem dX0_determinant_57 : decode cX0_determinant 57 = .ok (.aload_n 0, 1) := by decide +kernel
theorem dX0_determinant_58 : decode cX0_determinant 58 = .ok (.getfield 35, 3) := by decide +kernel
theorem dX0_determinant_61 : decode cX0_determinant 61 = .ok (.iload 7, 2) := by decide +kernel
theorem dX0_determinant_63 : decode cX0_determinant 63 = .ok (.aaload, 1) := by decide +kernel
theorem dX0_determinant_64 : decode cX0_determinant 64 = .ok (.iload 8, 2) := by decide +kernel
theorem dX0_determinant_66 : decode cX0_determinant 66 = .ok (.laload, 1) := by decide +kernel
theorem dX0_determinant_67 : decode cX0_determinant 67 = .ok (.lload_n 2, 1) := by decide +kernel
theorem dX0_determinant_68 : decode cX0_determinant 68 = .ok (.lmul, 1) := by decide +kernel
theorem dX0_determinant_69 : decode cX0_determinant 69 = .ok (.aload_n 0, 1) := by decide +kernel
theorem dX0_determinant_70 : decode cX0_determinant 70 = .ok (.getfield 35, 3) := by decide +kernel
theorem dX0_determinant_73 : decode cX0_determinant 73 = .ok (.iload 7, 2) := by decide +kernel
theorem dX0_determinant_75 : decode cX0_determinant 75 = .ok (.aaload, 1) := by decide +kernel
theorem dX0_determinant_76 : decode cX0_determinant 76 = .ok (.iload 4, 2) := by decide +kernel
theorem dX0_determinant_78 : decode cX0_determinant 78 = .ok (.laload, 1) := by decide +kernel
theorem dX0_determinant_79 : decode cX0_determinant 79 = .ok (.aload_n 0, 1) := by decide +kernel
theorem dX0_determinant_80 : decode cX0_determinant 80 = .ok (.getfield 35, 3) := by decide +kernel
theorem dX0_determinant_83 : decode cX0_determinant 83 = .ok (.iload 4, 2) := by decide +kernel
theorem dX0_determinant_85 : decode cX0_determinant 85 = .ok (.aaload, 1) := by decide +kernel
theorem dX0_determinant_86 : decode cX0_determinant 86 = .ok (.iload 8, 2) := by decide +kernel
theorem dX0_determinant_88 : decode cX0_determinant 88 = .ok (.laload, 1) := by decide +kernel
theorem dX0_determinant_89 : decode cX0_determinant 89 = .ok (.lmul, 1) := by decide +kernel
theorem dX0_determinant_90 : decode cX0_determinant 90 = .ok (.lsub, 1) := by decide +kernel
theorem dX0_determinant_91 : decode cX0_determinant 91 = .ok (.lstore 9, 2) := by decide +kernel
theorem dX0_determinant_93 : decode cX0_determinant 93 = .ok (.aload_n 0, 1) := by decide +kernel
theorem dX0_determinant_94 : decode cX0_determinant 94 = .ok (.getfield 35, 3) := by decide +kernel
theorem dX0_determinant_97 : decode cX0_determinant 97 = .ok (.iload 7, 2) := by decide +kernel
theorem dX0_determinant_99 : decode cX0_determinant 99 = .ok (.aaload, 1) := by decide +kernel
theorem dX0_determinant_100 : decode cX0_determinant 100 = .ok (.iload 8, 2) := by decide +kernel
theorem dX0_determinant_102 : decode cX0_determinant 102 = .ok (.lload 9, 2) := by decide +kernel
theorem dX0_determinant_104 : decode cX0_determinant 104 = .ok (.lload 5, 2) := by decide +kernel
theorem dX0_determinant_106 : decode cX0_determinant 106 = .ok (.ldiv, 1) := by decide +kernel
theorem dX0_determinant_107 : decode cX0_determinant 107 = .ok (.lastore, 1) := by decide +kernel
theorem dX0_determinant_108 : decode cX0_determinant 108 = .ok (.iinc 8 1, 3) := by decide +kernel
theorem dX0_determinant_111 : decode cX0_determinant 111 = .ok (.goto (-60), 3) := by decide +kernel
theorem dX0_determinant_114 : decode cX0_determinant 114 = .ok (.iinc 7 1, 3) := by decide +kernel
theorem dX0_determinant_117 : decode cX0_determinant 117 = .ok (.goto (-78), 3) := by decide +kernel
theorem dX0_determinant_120 : decode cX0_determinant 120 = .ok (.iinc 4 1, 3) := by decide +kernel
theorem dX0_determinant_123 : decode cX0_determinant 123 = .ok (.goto (-118), 3) := by decide +kernel
theorem dX0_determinant_126 : decode cX0_determinant 126 = .ok (.lload_n 2, 1) := by decide +kernel
theorem dX0_determinant_127 : decode cX0_determinant 127 = .ok (.lreturn, 1) := by decide +kernel
set_option maxRecDepth 20000 in
theorem ggX0_drawOf_X0_blockMeets : GoodIn wsX0_drawOf wsX0_blockMeets := goodIn_r _ [5, 6, 7, 8, 4, 9, 10, 11, 12, 13, 14, 15, 16, 17, 18, 19, 20, 21, 22, 23, 24, 25, 26, 27, 32, 33, 34, 35, 36, 37, 38] (by decide +kernel) (by decide +kernel)
set_option maxRecDepth 20000 in
theorem gX0_drawOf_X0_blockMeets : GoodIn wsX0_drawOf (wsV RX0 105 RX0 yX0_blockMeets wsX0_blockMeets) := goodIn_app (goodIn_of _ (by decide +kernel)) ggX0_drawOf_X0_blockMeets
set_option maxRecDepth 20000 in
theorem ggX0_drawOf_X0_throughBlock : GoodIn wsX0_drawOf wsX0_throughBlock := goodIn_r _ [31, 27, 14, 15, 16, 17, 18, 19, 20, 21, 22, 32, 33, 34, 35, 36, 37, 38] (by decide +kernel) (by decide +kernel)
set_option maxRecDepth 20000 in
theorem gX0_drawOf_X0_throughBlock : GoodIn wsX0_drawOf (wsV RX0 109 RX0 yX0_throughBlock wsX0_throughBlock) := goodIn_app (goodIn_of _ (by decide +kernel)) ggX0_drawOf_X0_throughBlock
theorem dX0_drawOf_0 : decode cX0_drawOf 0 = .ok (.iconst 0, 1) := by decide +kernel
theorem dX0_drawOf_1 : decode cX0_drawOf 1 = .ok (.istore 4, 2) := by decide +kernel
theorem dX0_drawOf_3 : decode cX0_drawOf 3 = .ok (.iconst 0, 1) := by decide +kernel
theorem dX0_drawOf_4 : decode cX0_drawOf 4 = .ok (.istore 5, 2) := by decide +kernel
theorem dX0_drawOf_6 : decode cX0_drawOf 6 = .ok (.iconst 0, 1) := by decide +kernel
theorem dX0_drawOf_7 : decode cX0_drawOf 7 = .ok (.istore 6, 2) := by decide +kernel
theorem dX0_drawOf_9 : decode cX0_drawOf 9 = .ok (.iconst 0, 1) := by decide +kernel
theorem dX0_drawOf_10 : decode cX0_drawOf 10 = .ok (.istore 7, 2) := by decide +kernel
theorem dX0_drawOf_12 : decode cX0_drawOf 12 = .ok (.iload 7, 2) := by decide +kernel
theorem dX0_drawOf_14 : decode cX0_drawOf 14 = .ok (.sipush 500, 3) := by decide +kernel
theorem dX0_drawOf_17 : decode cX0_drawOf 17 = .ok (.if_icmp .ge 76, 3) := by decide +kernel
theorem dX0_drawOf_20 : decode cX0_drawOf 20 = .ok (.iload_n 2, 1) := by decide +kernel
theorem dX0_drawOf_21 : decode cX0_drawOf 21 = .ok (.iload 7, 2) := by decide +kernel
theorem dX0_drawOf_23 : decode cX0_drawOf 23 = .ok (.imul, 1) := by decide +kernel
theorem dX0_drawOf_24 : decode cX0_drawOf 24 = .ok (.istore 8, 2) := by decide +kernel
theorem dX0_drawOf_26 : decode cX0_drawOf 26 = .ok (.aload_n 0, 1) := by decide +kernel
theorem dX0_drawOf_27 : decode cX0_drawOf 27 = .ok (.iload_n 1, 1) := by decide +kernel
theorem dX0_drawOf_28 : decode cX0_drawOf 28 = .ok (.iload 8, 2) := by decide +kernel
theorem dX0_drawOf_30 : decode cX0_drawOf 30 = .ok (.iload_n 2, 1) := by decide +kernel
theorem dX0_drawOf_31 : decode cX0_drawOf 31 = .ok (.invokevirtual 105, 3) := by decide +kernel
theorem dX0_drawOf_34 : decode cX0_drawOf 34 = .ok (.istore 9, 2) := by decide +kernel
theorem dX0_drawOf_36 : decode cX0_drawOf 36 = .ok (.iload 9, 2) := by decide +kernel
theorem dX0_drawOf_38 : decode cX0_drawOf 38 = .ok (.ifCond .eq 20, 3) := by decide +kernel
theorem dX0_drawOf_41 : decode cX0_drawOf 41 = .ok (.iload 4, 2) := by decide +kernel
theorem dX0_drawOf_43 : decode cX0_drawOf 43 = .ok (.ifCond .eq 15, 3) := by decide +kernel
theorem dX0_drawOf_46 : decode cX0_drawOf 46 = .ok (.iload 5, 2) := by decide +kernel
theorem dX0_drawOf_48 : decode cX0_drawOf 48 = .ok (.iload_n 3, 1) := by decide +kernel
theorem dX0_drawOf_49 : decode cX0_drawOf 49 = .ok (.if_icmp .ne 6, 3) := by decide +kernel
theorem dX0_drawOf_52 : decode cX0_drawOf 52 = .ok (.iload 6, 2) := by decide +kernel
theorem dX0_drawOf_54 : decode cX0_drawOf 54 = .ok (.ireturn, 1) := by decide +kernel
theorem dX0_drawOf_55 : decode cX0_drawOf 55 = .ok (.iinc 5 1, 3) := by decide +kernel
theorem dX0_drawOf_58 : decode cX0_drawOf 58 = .ok (.iload 4, 2) := by decide +kernel
theorem dX0_drawOf_60 : decode cX0_drawOf 60 = .ok (.ifCond .ne 8, 3) := by decide +kernel
theorem dX0_drawOf_63 : decode cX0_drawOf 63 = .ok (.iload 9, 2) := by decide +kernel
theorem dX0_drawOf_65 : decode cX0_drawOf 65 = .ok (.ifCond .eq 7, 3) := by decide +kernel
theorem dX0_drawOf_68 : decode cX0_drawOf 68 = .ok (.iconst 1, 1) := by decide +kernel
theorem dX0_drawOf_69 : decode cX0_drawOf 69 = .ok (.goto 4, 3) := by decide +kernel
theorem dX0_drawOf_72 : decode cX0_drawOf 72 = .ok (.iconst 0, 1) := by decide +kernel
theorem dX0_drawOf_73 : decode cX0_drawOf 73 = .ok (.istore 4, 2) := by decide +kernel
theorem dX0_drawOf_75 : decode cX0_drawOf 75 = .ok (.aload_n 0, 1) := by decide +kernel
theorem dX0_drawOf_76 : decode cX0_drawOf 76 = .ok (.iload_n 1, 1) := by decide +kernel
theorem dX0_drawOf_77 : decode cX0_drawOf 77 = .ok (.iload 8, 2) := by decide +kernel
theorem dX0_drawOf_79 : decode cX0_drawOf 79 = .ok (.iload_n 2, 1) := by decide +kernel
theorem dX0_drawOf_80 : decode cX0_drawOf 80 = .ok (.iload 6, 2) := by decide +kernel
theorem dX0_drawOf_82 : decode cX0_drawOf 82 = .ok (.invokevirtual 109, 3) := by decide +kernel
theorem dX0_drawOf_85 : decode cX0_drawOf 85 = .ok (.istore 6, 2) := by decide +kernel
theorem dX0_drawOf_87 : decode cX0_drawOf 87 = .ok (.iinc 7 1, 3) := by decide +kernel
theorem dX0_drawOf_90 : decode cX0_drawOf 90 = .ok (.goto (-78), 3) := by decide +kernel
theorem dX0_drawOf_93 : decode cX0_drawOf 93 = .ok (.bipush (-2), 2) := by decide +kernel
theorem dX0_drawOf_95 : decode cX0_drawOf 95 = .ok (.ireturn, 1) := by decide +kernel
set_option maxRecDepth 20000 in
theorem ggX0_blockMeets_X0_allStates : GoodIn wsX0_blockMeets wsX0_allStates := goodIn_r _ [5, 6, 24, 25, 26, 27, 28, 29, 30] (by decide +kernel) (by decide +kernel)
set_option maxRecDepth 20000 in
theorem gX0_blockMeets_X0_allStates : GoodIn wsX0_blockMeets (wsV RX0 74 RX0 yX0_allStates wsX0_allStates) := goodIn_app (goodIn_of _ (by decide +kernel)) ggX0_blockMeets_X0_allStates
set_option maxRecDepth 20000 in
theorem ggX0_blockMeets_X0_isSingle : GoodIn wsX0_blockMeets wsX0_isSingle := goodIn_r _ [9] (by decide +kernel) (by decide +kernel)
set_option maxRecDepth 20000 in
theorem gX0_blockMeets_X0_isSingle : GoodIn wsX0_blockMeets (va_wsS RX0 81 yX0_isSingle wsX0_isSingle) := goodIn_app (goodIn_of _ (by decide +kernel)) ggX0_blockMeets_X0_isSingle
set_option maxRecDepth 20000 in
theorem ggX0_blockMeets_X4_signAt : GoodIn wsX0_blockMeets wsX4_signAt := goodIn_r _ [12, 13, 14, 11, 15, 16, 17, 18] (by decide +kernel) (by decide +kernel)
set_option maxRecDepth 20000 in
theorem gX0_blockMeets_X4_signAt_n38 : GoodIn wsX0_blockMeets (wsX4_signAt) := ggX0_blockMeets_X4_signAt
set_option maxRecDepth 20000 in
theorem ggX0_blockMeets_X0_imageOf : GoodIn wsX0_blockMeets wsX0_imageOf := goodIn_r _ [22, 6, 23, 24, 25, 26, 27, 28, 29, 30] (by decide +kernel) (by decide +kernel)
set_option maxRecDepth 20000 in
theorem gX0_blockMeets_X0_imageOf : GoodIn wsX0_blockMeets (wsV RX0 85 RX0 yX0_imageOf wsX0_imageOf) := goodIn_app (goodIn_of _ (by decide +kernel)) ggX0_blockMeets_X0_imageOf
theorem dX0_blockMeets_0 : decode cX0_blockMeets 0 = .ok (.aload_n 0, 1) := by decide +kernel
theorem dX0_blockMeets_1 : decode cX0_blockMeets 1 = .ok (.invokevirtual 74, 3) := by decide +kernel
theorem dX0_blockMeets_4 : decode cX0_blockMeets 4 = .ok (.istore 4, 2) := by decide +kernel
theorem dX0_blockMeets_6 : decode cX0_blockMeets 6 = .ok (.iconst 1, 1) := by decide +kernel
theorem dX0_blockMeets_7 : decode cX0_blockMeets 7 = .ok (.istore 5, 2) := by decide +kernel
theorem dX0_blockMeets_9 : decode cX0_blockMeets 9 = .ok (.iload 5, 2) := by decide +kernel
theorem dX0_blockMeets_11 : decode cX0_blockMeets 11 = .ok (.iload_n 3, 1) := by decide +kernel
theorem dX0_blockMeets_12 : decode cX0_blockMeets 12 = .ok (.if_icmp .gt 33, 3) := by decide +kernel
theorem dX0_blockMeets_15 : decode cX0_blockMeets 15 = .ok (.iload 4, 2) := by decide +kernel
theorem dX0_blockMeets_17 : decode cX0_blockMeets 17 = .ok (.invokestatic 81, 3) := by decide +kernel
theorem dX0_blockMeets_20 : decode cX0_blockMeets 20 = .ok (.ifCond .ne 25, 3) := by decide +kernel
theorem dX0_blockMeets_23 : decode cX0_blockMeets 23 = .ok (.aload_n 0, 1) := by decide +kernel
theorem dX0_blockMeets_24 : decode cX0_blockMeets 24 = .ok (.iload 4, 2) := by decide +kernel
theorem dX0_blockMeets_26 : decode cX0_blockMeets 26 = .ok (.iload_n 1, 1) := by decide +kernel
theorem dX0_blockMeets_27 : decode cX0_blockMeets 27 = .ok (.iload_n 2, 1) := by decide +kernel
theorem dX0_blockMeets_28 : decode cX0_blockMeets 28 = .ok (.iload 5, 2) := by decide +kernel
theorem dX0_blockMeets_30 : decode cX0_blockMeets 30 = .ok (.iadd, 1) := by decide +kernel
theorem dX0_blockMeets_31 : decode cX0_blockMeets 31 = .ok (.invokestatic 38, 3) := by decide +kernel
theorem dX0_blockMeets_34 : decode cX0_blockMeets 34 = .ok (.invokevirtual 85, 3) := by decide +kernel
theorem dX0_blockMeets_37 : decode cX0_blockMeets 37 = .ok (.istore 4, 2) := by decide +kernel
theorem dX0_blockMeets_39 : decode cX0_blockMeets 39 = .ok (.iinc 5 1, 3) := by decide +kernel
theorem dX0_blockMeets_42 : decode cX0_blockMeets 42 = .ok (.goto (-33), 3) := by decide +kernel
theorem dX0_blockMeets_45 : decode cX0_blockMeets 45 = .ok (.iload 4, 2) := by decide +kernel
theorem dX0_blockMeets_47 : decode cX0_blockMeets 47 = .ok (.invokestatic 81, 3) := by decide +kernel
theorem dX0_blockMeets_50 : decode cX0_blockMeets 50 = .ok (.ireturn, 1) := by decide +kernel
set_option maxRecDepth 20000 in
theorem ggX0_throughBlock_X4_signAt : GoodIn wsX0_throughBlock wsX4_signAt := goodIn_r _ [4, 5, 6, 3, 7, 8, 9, 10] (by decide +kernel) (by decide +kernel)
set_option maxRecDepth 20000 in
theorem gX0_throughBlock_X4_signAt_n38 : GoodIn wsX0_throughBlock (wsX4_signAt) := ggX0_throughBlock_X4_signAt
theorem dX0_throughBlock_0 : decode cX0_throughBlock 0 = .ok (.iload 4, 2) := by decide +kernel
theorem dX0_throughBlock_2 : decode cX0_throughBlock 2 = .ok (.istore 5, 2) := by decide +kernel
theorem dX0_throughBlock_4 : decode cX0_throughBlock 4 = .ok (.iconst 1, 1) := by decide +kernel
theorem dX0_throughBlock_5 : decode cX0_throughBlock 5 = .ok (.istore 6, 2) := by decide +kernel
theorem dX0_throughBlock_7 : decode cX0_throughBlock 7 = .ok (.iload 6, 2) := by decide +kernel
theorem dX0_throughBlock_9 : decode cX0_throughBlock 9 = .ok (.iload_n 3, 1) := by decide +kernel
theorem dX0_throughBlock_10 : decode cX0_throughBlock 10 = .ok (.if_icmp .gt 27, 3) := by decide +kernel
theorem dX0_throughBlock_13 : decode cX0_throughBlock 13 = .ok (.aload_n 0, 1) := by decide +kernel
theorem dX0_throughBlock_14 : decode cX0_throughBlock 14 = .ok (.getfield 17, 3) := by decide +kernel
theorem dX0_throughBlock_17 : decode cX0_throughBlock 17 = .ok (.iload_n 1, 1) := by decide +kernel
theorem dX0_throughBlock_18 : decode cX0_throughBlock 18 = .ok (.iload_n 2, 1) := by decide +kernel
theorem dX0_throughBlock_19 : decode cX0_throughBlock 19 = .ok (.iload 6, 2) := by decide +kernel
theorem dX0_throughBlock_21 : decode cX0_throughBlock 21 = .ok (.iadd, 1) := by decide +kernel
theorem dX0_throughBlock_22 : decode cX0_throughBlock 22 = .ok (.invokestatic 38, 3) := by decide +kernel
theorem dX0_throughBlock_25 : decode cX0_throughBlock 25 = .ok (.aaload, 1) := by decide +kernel
theorem dX0_throughBlock_26 : decode cX0_throughBlock 26 = .ok (.iload 5, 2) := by decide +kernel
theorem dX0_throughBlock_28 : decode cX0_throughBlock 28 = .ok (.iaload, 1) := by decide +kernel
theorem dX0_throughBlock_29 : decode cX0_throughBlock 29 = .ok (.istore 5, 2) := by decide +kernel
theorem dX0_throughBlock_31 : decode cX0_throughBlock 31 = .ok (.iinc 6 1, 3) := by decide +kernel
theorem dX0_throughBlock_34 : decode cX0_throughBlock 34 = .ok (.goto (-27), 3) := by decide +kernel
theorem dX0_throughBlock_37 : decode cX0_throughBlock 37 = .ok (.iload 5, 2) := by decide +kernel
theorem dX0_throughBlock_39 : decode cX0_throughBlock 39 = .ok (.ireturn, 1) := by decide +kernel
set_option maxRecDepth 20000 in
theorem ggX1_init_J7_fill_53178 : GoodIn wsX1_init wsJ7_fill_53178 := goodIn_r _ [16] (by decide +kernel) (by decide +kernel)
set_option maxRecDepth 20000 in
theorem gX1_init_J7_fill_53178 : GoodIn wsX1_init (va_wsS RX1 29 yJ7_fill_53178 wsJ7_fill_53178) := goodIn_app (goodIn_of _ (by decide +kernel)) ggX1_init_J7_fill_53178
theorem dX1_init_0 : decode cX1_init 0 = .ok (.aload_n 0, 1) := by decide +kernel
theorem dX1_init_1 : decode cX1_init 1 = .ok (.invokespecial 3, 3) := by decide +kernel
theorem dX1_init_4 : decode cX1_init 4 = .ok (.aload_n 0, 1) := by decide +kernel
theorem dX1_init_5 : decode cX1_init 5 = .ok (.iload_n 1, 1) := by decide +kernel
theorem dX1_init_6 : decode cX1_init 6 = .ok (.putfield 9, 3) := by decide +kernel
theorem dX1_init_9 : decode cX1_init 9 = .ok (.aload_n 0, 1) := by decide +kernel
theorem dX1_init_10 : decode cX1_init 10 = .ok (.aload_n 0, 1) := by decide +kernel
theorem dX1_init_11 : decode cX1_init 11 = .ok (.getfield 9, 3) := by decide +kernel
theorem dX1_init_14 : decode cX1_init 14 = .ok (.iconst 4, 1) := by decide +kernel
theorem dX1_init_15 : decode cX1_init 15 = .ok (.multianewarray 15 2, 4) := by decide +kernel
theorem dX1_init_19 : decode cX1_init 19 = .ok (.putfield 17, 3) := by decide +kernel
theorem dX1_init_22 : decode cX1_init 22 = .ok (.aload_n 0, 1) := by decide +kernel
theorem dX1_init_23 : decode cX1_init 23 = .ok (.aload_n 0, 1) := by decide +kernel
theorem dX1_init_24 : decode cX1_init 24 = .ok (.getfield 9, 3) := by decide +kernel
theorem dX1_init_27 : decode cX1_init 27 = .ok (.newarray .boolean, 2) := by decide +kernel
theorem dX1_init_29 : decode cX1_init 29 = .ok (.putfield 20, 3) := by decide +kernel
theorem dX1_init_32 : decode cX1_init 32 = .ok (.aload_n 0, 1) := by decide +kernel
theorem dX1_init_33 : decode cX1_init 33 = .ok (.bipush 26, 2) := by decide +kernel
theorem dX1_init_35 : decode cX1_init 35 = .ok (.aload_n 0, 1) := by decide +kernel
theorem dX1_init_36 : decode cX1_init 36 = .ok (.getfield 9, 3) := by decide +kernel
theorem dX1_init_39 : decode cX1_init 39 = .ok (.multianewarray 24 2, 4) := by decide +kernel
theorem dX1_init_43 : decode cX1_init 43 = .ok (.putfield 26, 3) := by decide +kernel
theorem dX1_init_46 : decode cX1_init 46 = .ok (.iconst 0, 1) := by decide +kernel
theorem dX1_init_47 : decode cX1_init 47 = .ok (.istore_n 2, 1) := by decide +kernel
theorem dX1_init_48 : decode cX1_init 48 = .ok (.iload_n 2, 1) := by decide +kernel
theorem dX1_init_49 : decode cX1_init 49 = .ok (.aload_n 0, 1) := by decide +kernel
theorem dX1_init_50 : decode cX1_init 50 = .ok (.getfield 9, 3) := by decide +kernel
theorem dX1_init_53 : decode cX1_init 53 = .ok (.if_icmp .ge 20, 3) := by decide +kernel
theorem dX1_init_56 : decode cX1_init 56 = .ok (.aload_n 0, 1) := by decide +kernel
theorem dX1_init_57 : decode cX1_init 57 = .ok (.getfield 17, 3) := by decide +kernel
theorem dX1_init_60 : decode cX1_init 60 = .ok (.iload_n 2, 1) := by decide +kernel
theorem dX1_init_61 : decode cX1_init 61 = .ok (.aaload, 1) := by decide +kernel
theorem dX1_init_62 : decode cX1_init 62 = .ok (.bipush (-2), 2) := by decide +kernel
theorem dX1_init_64 : decode cX1_init 64 = .ok (.invokestatic 29, 3) := by decide +kernel
theorem dX1_init_67 : decode cX1_init 67 = .ok (.iinc 2 1, 3) := by decide +kernel
theorem dX1_init_70 : decode cX1_init 70 = .ok (.goto (-22), 3) := by decide +kernel
theorem dX1_init_73 : decode cX1_init 73 = .ok (.return_, 1) := by decide +kernel
theorem dX1_setStep_0 : decode cX1_setStep 0 = .ok (.aload_n 0, 1) := by decide +kernel
theorem dX1_setStep_1 : decode cX1_setStep 1 = .ok (.getfield 17, 3) := by decide +kernel
theorem dX1_setStep_4 : decode cX1_setStep 4 = .ok (.iload_n 1, 1) := by decide +kernel
theorem dX1_setStep_5 : decode cX1_setStep 5 = .ok (.aaload, 1) := by decide +kernel
theorem dX1_setStep_6 : decode cX1_setStep 6 = .ok (.iload_n 2, 1) := by decide +kernel
theorem dX1_setStep_7 : decode cX1_setStep 7 = .ok (.iaload, 1) := by decide +kernel
theorem dX1_setStep_8 : decode cX1_setStep 8 = .ok (.istore 4, 2) := by decide +kernel
theorem dX1_setStep_10 : decode cX1_setStep 10 = .ok (.aload_n 0, 1) := by decide +kernel
theorem dX1_setStep_11 : decode cX1_setStep 11 = .ok (.getfield 17, 3) := by decide +kernel
theorem dX1_setStep_14 : decode cX1_setStep 14 = .ok (.iload_n 1, 1) := by decide +kernel
theorem dX1_setStep_15 : decode cX1_setStep 15 = .ok (.aaload, 1) := by decide +kernel
theorem dX1_setStep_16 : decode cX1_setStep 16 = .ok (.iload_n 2, 1) := by decide +kernel
theorem dX1_setStep_17 : decode cX1_setStep 17 = .ok (.iload_n 3, 1) := by decide +kernel
theorem dX1_setStep_18 : decode cX1_setStep 18 = .ok (.iastore, 1) := by decide +kernel
theorem dX1_setStep_19 : decode cX1_setStep 19 = .ok (.iload 4, 2) := by decide +kernel
theorem dX1_setStep_21 : decode cX1_setStep 21 = .ok (.ireturn, 1) := by decide +kernel
theorem dX1_setEnd_0 : decode cX1_setEnd 0 = .ok (.aload_n 0, 1) := by decide +kernel
theorem dX1_setEnd_1 : decode cX1_setEnd 1 = .ok (.getfield 20, 3) := by decide +kernel
theorem dX1_setEnd_4 : decode cX1_setEnd 4 = .ok (.iload_n 1, 1) := by decide +kernel
theorem dX1_setEnd_5 : decode cX1_setEnd 5 = .ok (.baload, 1) := by decide +kernel
theorem dX1_setEnd_6 : decode cX1_setEnd 6 = .ok (.istore_n 3, 1) := by decide +kernel
theorem dX1_setEnd_7 : decode cX1_setEnd 7 = .ok (.aload_n 0, 1) := by decide +kernel
theorem dX1_setEnd_8 : decode cX1_setEnd 8 = .ok (.getfield 20, 3) := by decide +kernel
theorem dX1_setEnd_11 : decode cX1_setEnd 11 = .ok (.iload_n 1, 1) := by decide +kernel
theorem dX1_setEnd_12 : decode cX1_setEnd 12 = .ok (.iload_n 2, 1) := by decide +kernel
theorem dX1_setEnd_13 : decode cX1_setEnd 13 = .ok (.bastore, 1) := by decide +kernel
theorem dX1_setEnd_14 : decode cX1_setEnd 14 = .ok (.iload_n 3, 1) := by decide +kernel
theorem dX1_setEnd_15 : decode cX1_setEnd 15 = .ok (.ireturn, 1) := by decide +kernel
set_option maxRecDepth 20000 in
theorem ggX1_countAll_X1_countBefore : GoodIn wsX1_countAll wsX1_countBefore := goodIn_r _ [8, 9, 10, 11, 7, 12, 13, 2, 14, 15, 16, 17] (by decide +kernel) (by decide +kernel)
set_option maxRecDepth 20000 in
theorem gX1_countAll_X1_countBefore : GoodIn wsX1_countAll (wsV RX1 35 RX1 yX1_countBefore wsX1_countBefore) := goodIn_app (goodIn_of _ (by decide +kernel)) ggX1_countAll_X1_countBefore
theorem dX1_countAll_0 : decode cX1_countAll 0 = .ok (.iconst 0, 1) := by decide +kernel
theorem dX1_countAll_1 : decode cX1_countAll 1 = .ok (.istore_n 2, 1) := by decide +kernel
theorem dX1_countAll_2 : decode cX1_countAll 2 = .ok (.iload_n 2, 1) := by decide +kernel
theorem dX1_countAll_3 : decode cX1_countAll 3 = .ok (.aload_n 0, 1) := by decide +kernel
theorem dX1_countAll_4 : decode cX1_countAll 4 = .ok (.getfield 9, 3) := by decide +kernel
theorem dX1_countAll_7 : decode cX1_countAll 7 = .ok (.if_icmp .ge 31, 3) := by decide +kernel
theorem dX1_countAll_10 : decode cX1_countAll 10 = .ok (.aload_n 0, 1) := by decide +kernel
theorem dX1_countAll_11 : decode cX1_countAll 11 = .ok (.getfield 26, 3) := by decide +kernel
theorem dX1_countAll_14 : decode cX1_countAll 14 = .ok (.iconst 0, 1) := by decide +kernel
theorem dX1_countAll_15 : decode cX1_countAll 15 = .ok (.aaload, 1) := by decide +kernel
theorem dX1_countAll_16 : decode cX1_countAll 16 = .ok (.iload_n 2, 1) := by decide +kernel
theorem dX1_countAll_17 : decode cX1_countAll 17 = .ok (.aload_n 0, 1) := by decide +kernel
theorem dX1_countAll_18 : decode cX1_countAll 18 = .ok (.getfield 20, 3) := by decide +kernel
theorem dX1_countAll_21 : decode cX1_countAll 21 = .ok (.iload_n 2, 1) := by decide +kernel
theorem dX1_countAll_22 : decode cX1_countAll 22 = .ok (.baload, 1) := by decide +kernel
theorem dX1_countAll_23 : decode cX1_countAll 23 = .ok (.ifCond .eq 7, 3) := by decide +kernel
theorem dX1_countAll_26 : decode cX1_countAll 26 = .ok (.lconst 1, 1) := by decide +kernel
theorem dX1_countAll_27 : decode cX1_countAll 27 = .ok (.goto 4, 3) := by decide +kernel
theorem dX1_countAll_30 : decode cX1_countAll 30 = .ok (.lconst 0, 1) := by decide +kernel
theorem dX1_countAll_31 : decode cX1_countAll 31 = .ok (.lastore, 1) := by decide +kernel
theorem dX1_countAll_32 : decode cX1_countAll 32 = .ok (.iinc 2 1, 3) := by decide +kernel
theorem dX1_countAll_35 : decode cX1_countAll 35 = .ok (.goto (-33), 3) := by decide +kernel
theorem dX1_countAll_38 : decode cX1_countAll 38 = .ok (.iconst 1, 1) := by decide +kernel
theorem dX1_countAll_39 : decode cX1_countAll 39 = .ok (.istore_n 2, 1) := by decide +kernel
theorem dX1_countAll_40 : decode cX1_countAll 40 = .ok (.iload_n 2, 1) := by decide +kernel
theorem dX1_countAll_41 : decode cX1_countAll 41 = .ok (.iload_n 1, 1) := by decide +kernel
theorem dX1_countAll_42 : decode cX1_countAll 42 = .ok (.if_icmp .gt 42, 3) := by decide +kernel
theorem dX1_countAll_45 : decode cX1_countAll 45 = .ok (.iconst 0, 1) := by decide +kernel
theorem dX1_countAll_46 : decode cX1_countAll 46 = .ok (.istore_n 3, 1) := by decide +kernel
theorem dX1_countAll_47 : decode cX1_countAll 47 = .ok (.iload_n 3, 1) := by decide +kernel
theorem dX1_countAll_48 : decode cX1_countAll 48 = .ok (.aload_n 0, 1) := by decide +kernel
theorem dX1_countAll_49 : decode cX1_countAll 49 = .ok (.getfield 9, 3) := by decide +kernel
theorem dX1_countAll_52 : decode cX1_countAll 52 = .ok (.if_icmp .ge 26, 3) := by decide +kernel
theorem dX1_countAll_55 : decode cX1_countAll 55 = .ok (.aload_n 0, 1) := by decide +kernel
theorem dX1_countAll_56 : decode cX1_countAll 56 = .ok (.getfield 26, 3) := by decide +kernel
theorem dX1_countAll_59 : decode cX1_countAll 59 = .ok (.iload_n 2, 1) := by decide +kernel
theorem dX1_countAll_60 : decode cX1_countAll 60 = .ok (.aaload, 1) := by decide +kernel
theorem dX1_countAll_61 : decode cX1_countAll 61 = .ok (.iload_n 3, 1) := by decide +kernel
theorem dX1_countAll_62 : decode cX1_countAll 62 = .ok (.aload_n 0, 1) := by decide +kernel
theorem dX1_countAll_63 : decode cX1_countAll 63 = .ok (.iload_n 3, 1) := by decide +kernel
theorem dX1_countAll_64 : decode cX1_countAll 64 = .ok (.iconst 4, 1) := by decide +kernel
theorem dX1_countAll_65 : decode cX1_countAll 65 = .ok (.iload_n 2, 1) := by decide +kernel
theorem dX1_countAll_66 : decode cX1_countAll 66 = .ok (.iconst 1, 1) := by decide +kernel
theorem dX1_countAll_67 : decode cX1_countAll 67 = .ok (.isub, 1) := by decide +kernel
theorem dX1_countAll_68 : decode cX1_countAll 68 = .ok (.invokevirtual 35, 3) := by decide +kernel
theorem dX1_countAll_71 : decode cX1_countAll 71 = .ok (.lastore, 1) := by decide +kernel
theorem dX1_countAll_72 : decode cX1_countAll 72 = .ok (.iinc 3 1, 3) := by decide +kernel
theorem dX1_countAll_75 : decode cX1_countAll 75 = .ok (.goto (-28), 3) := by decide +kernel
theorem dX1_countAll_78 : decode cX1_countAll 78 = .ok (.iinc 2 1, 3) := by decide +kernel
theorem dX1_countAll_81 : decode cX1_countAll 81 = .ok (.goto (-41), 3) := by decide +kernel
theorem dX1_countAll_84 : decode cX1_countAll 84 = .ok (.aload_n 0, 1) := by decide +kernel
theorem dX1_countAll_85 : decode cX1_countAll 85 = .ok (.getfield 26, 3) := by decide +kernel
theorem dX1_countAll_88 : decode cX1_countAll 88 = .ok (.iload_n 1, 1) := by decide +kernel
theorem dX1_countAll_89 : decode cX1_countAll 89 = .ok (.aaload, 1) := by decide +kernel
theorem dX1_countAll_90 : decode cX1_countAll 90 = .ok (.iconst 0, 1) := by decide +kernel
theorem dX1_countAll_91 : decode cX1_countAll 91 = .ok (.laload, 1) := by decide +kernel
theorem dX1_countAll_92 : decode cX1_countAll 92 = .ok (.lreturn, 1) := by decide +kernel
set_option maxRecDepth 20000 in
theorem ggX1_countBefore_X1_countWith : GoodIn wsX1_countBefore wsX1_countWith := goodIn_r _ [5, 6, 7, 8, 9, 10, 11] (by decide +kernel) (by decide +kernel)
set_option maxRecDepth 20000 in
theorem gX1_countBefore_X1_countWith : GoodIn wsX1_countBefore (wsV RX1 39 RX1 yX1_countWith wsX1_countWith) := goodIn_app (goodIn_of _ (by decide +kernel)) ggX1_countBefore_X1_countWith
theorem dX1_countBefore_0 : decode cX1_countBefore 0 = .ok (.lconst 0, 1) := by decide +kernel
theorem dX1_countBefore_1 : decode cX1_countBefore 1 = .ok (.lstore 4, 2) := by decide +kernel
theorem dX1_countBefore_3 : decode cX1_countBefore 3 = .ok (.iconst 0, 1) := by decide +kernel
theorem dX1_countBefore_4 : decode cX1_countBefore 4 = .ok (.istore 6, 2) := by decide +kernel
theorem dX1_countBefore_6 : decode cX1_countBefore 6 = .ok (.iload 6, 2) := by decide +kernel
theorem dX1_countBefore_8 : decode cX1_countBefore 8 = .ok (.iload_n 2, 1) := by decide +kernel
theorem dX1_countBefore_9 : decode cX1_countBefore 9 = .ok (.if_icmp .ge 22, 3) := by decide +kernel
theorem dX1_countBefore_12 : decode cX1_countBefore 12 = .ok (.lload 4, 2) := by decide +kernel
theorem dX1_countBefore_14 : decode cX1_countBefore 14 = .ok (.aload_n 0, 1) := by decide +kernel
theorem dX1_countBefore_15 : decode cX1_countBefore 15 = .ok (.iload_n 1, 1) := by decide +kernel
theorem dX1_countBefore_16 : decode cX1_countBefore 16 = .ok (.iload 6, 2) := by decide +kernel
theorem dX1_countBefore_18 : decode cX1_countBefore 18 = .ok (.iload_n 3, 1) := by decide +kernel
theorem dX1_countBefore_19 : decode cX1_countBefore 19 = .ok (.invokevirtual 39, 3) := by decide +kernel
theorem dX1_countBefore_22 : decode cX1_countBefore 22 = .ok (.ladd, 1) := by decide +kernel
theorem dX1_countBefore_23 : decode cX1_countBefore 23 = .ok (.lstore 4, 2) := by decide +kernel
theorem dX1_countBefore_25 : decode cX1_countBefore 25 = .ok (.iinc 6 1, 3) := by decide +kernel
theorem dX1_countBefore_28 : decode cX1_countBefore 28 = .ok (.goto (-22), 3) := by decide +kernel
theorem dX1_countBefore_31 : decode cX1_countBefore 31 = .ok (.lload 4, 2) := by decide +kernel
theorem dX1_countBefore_33 : decode cX1_countBefore 33 = .ok (.lreturn, 1) := by decide +kernel
theorem dX1_countWith_0 : decode cX1_countWith 0 = .ok (.aload_n 0, 1) := by decide +kernel
theorem dX1_countWith_1 : decode cX1_countWith 1 = .ok (.getfield 17, 3) := by decide +kernel
theorem dX1_countWith_4 : decode cX1_countWith 4 = .ok (.iload_n 1, 1) := by decide +kernel
theorem dX1_countWith_5 : decode cX1_countWith 5 = .ok (.aaload, 1) := by decide +kernel
theorem dX1_countWith_6 : decode cX1_countWith 6 = .ok (.iload_n 2, 1) := by decide +kernel
theorem dX1_countWith_7 : decode cX1_countWith 7 = .ok (.iaload, 1) := by decide +kernel
theorem dX1_countWith_8 : decode cX1_countWith 8 = .ok (.istore 4, 2) := by decide +kernel
theorem dX1_countWith_10 : decode cX1_countWith 10 = .ok (.iload 4, 2) := by decide +kernel
theorem dX1_countWith_12 : decode cX1_countWith 12 = .ok (.bipush (-2), 2) := by decide +kernel
theorem dX1_countWith_14 : decode cX1_countWith 14 = .ok (.if_icmp .ne 7, 3) := by decide +kernel
theorem dX1_countWith_17 : decode cX1_countWith 17 = .ok (.lconst 0, 1) := by decide +kernel
theorem dX1_countWith_18 : decode cX1_countWith 18 = .ok (.goto 12, 3) := by decide +kernel
theorem dX1_countWith_21 : decode cX1_countWith 21 = .ok (.aload_n 0, 1) := by decide +kernel
theorem dX1_countWith_22 : decode cX1_countWith 22 = .ok (.getfield 26, 3) := by decide +kernel
theorem dX1_countWith_25 : decode cX1_countWith 25 = .ok (.iload_n 3, 1) := by decide +kernel
theorem dX1_countWith_26 : decode cX1_countWith 26 = .ok (.aaload, 1) := by decide +kernel
theorem dX1_countWith_27 : decode cX1_countWith 27 = .ok (.iload 4, 2) := by decide +kernel
theorem dX1_countWith_29 : decode cX1_countWith 29 = .ok (.laload, 1) := by decide +kernel
theorem dX1_countWith_30 : decode cX1_countWith 30 = .ok (.lreturn, 1) := by decide +kernel
set_option maxRecDepth 20000 in
theorem ggX1_letterOf_X1_letterAt : GoodIn wsX1_letterOf wsX1_letterAt := goodIn_r _ [6, 7, 8, 9, 5, 10, 11, 12, 13, 14, 1, 15, 16, 17, 18, 19] (by decide +kernel) (by decide +kernel)
set_option maxRecDepth 20000 in
theorem gX1_letterOf_X1_letterAt : GoodIn wsX1_letterOf (wsV RX1 42 RX1 yX1_letterAt wsX1_letterAt) := goodIn_app (goodIn_of _ (by decide +kernel)) ggX1_letterOf_X1_letterAt
set_option maxRecDepth 20000 in
theorem ggX1_letterOf_X1_countBefore : GoodIn wsX1_letterOf wsX1_countBefore := goodIn_r _ [10, 11, 12, 13, 5, 14, 1, 15, 16, 17, 18, 19] (by decide +kernel) (by decide +kernel)
set_option maxRecDepth 20000 in
theorem gX1_letterOf_X1_countBefore : GoodIn wsX1_letterOf (wsV RX1 35 RX1 yX1_countBefore wsX1_countBefore) := goodIn_app (goodIn_of _ (by decide +kernel)) ggX1_letterOf_X1_countBefore
theorem dX1_letterOf_0 : decode cX1_letterOf 0 = .ok (.iconst 0, 1) := by decide +kernel
theorem dX1_letterOf_1 : decode cX1_letterOf 1 = .ok (.istore 5, 2) := by decide +kernel
theorem dX1_letterOf_3 : decode cX1_letterOf 3 = .ok (.lload_n 2, 1) := by decide +kernel
theorem dX1_letterOf_4 : decode cX1_letterOf 4 = .ok (.lstore 6, 2) := by decide +kernel
theorem dX1_letterOf_6 : decode cX1_letterOf 6 = .ok (.iconst 0, 1) := by decide +kernel
theorem dX1_letterOf_7 : decode cX1_letterOf 7 = .ok (.istore 8, 2) := by decide +kernel
theorem dX1_letterOf_9 : decode cX1_letterOf 9 = .ok (.iload 8, 2) := by decide +kernel
theorem dX1_letterOf_11 : decode cX1_letterOf 11 = .ok (.iload_n 1, 1) := by decide +kernel
theorem dX1_letterOf_12 : decode cX1_letterOf 12 = .ok (.if_icmp .ge 73, 3) := by decide +kernel
theorem dX1_letterOf_15 : decode cX1_letterOf 15 = .ok (.iload 5, 2) := by decide +kernel
theorem dX1_letterOf_17 : decode cX1_letterOf 17 = .ok (.bipush (-2), 2) := by decide +kernel
theorem dX1_letterOf_19 : decode cX1_letterOf 19 = .ok (.if_icmp .eq 66, 3) := by decide +kernel
theorem dX1_letterOf_22 : decode cX1_letterOf 22 = .ok (.iload_n 1, 1) := by decide +kernel
theorem dX1_letterOf_23 : decode cX1_letterOf 23 = .ok (.iconst 1, 1) := by decide +kernel
theorem dX1_letterOf_24 : decode cX1_letterOf 24 = .ok (.isub, 1) := by decide +kernel
theorem dX1_letterOf_25 : decode cX1_letterOf 25 = .ok (.iload 8, 2) := by decide +kernel
theorem dX1_letterOf_27 : decode cX1_letterOf 27 = .ok (.isub, 1) := by decide +kernel
theorem dX1_letterOf_28 : decode cX1_letterOf 28 = .ok (.istore 9, 2) := by decide +kernel
theorem dX1_letterOf_30 : decode cX1_letterOf 30 = .ok (.aload_n 0, 1) := by decide +kernel
theorem dX1_letterOf_31 : decode cX1_letterOf 31 = .ok (.iload 5, 2) := by decide +kernel
theorem dX1_letterOf_33 : decode cX1_letterOf 33 = .ok (.lload 6, 2) := by decide +kernel
theorem dX1_letterOf_35 : decode cX1_letterOf 35 = .ok (.iload 9, 2) := by decide +kernel
theorem dX1_letterOf_37 : decode cX1_letterOf 37 = .ok (.invokevirtual 42, 3) := by decide +kernel
theorem dX1_letterOf_40 : decode cX1_letterOf 40 = .ok (.istore 10, 2) := by decide +kernel
theorem dX1_letterOf_42 : decode cX1_letterOf 42 = .ok (.iload 8, 2) := by decide +kernel
theorem dX1_letterOf_44 : decode cX1_letterOf 44 = .ok (.iload 4, 2) := by decide +kernel
theorem dX1_letterOf_46 : decode cX1_letterOf 46 = .ok (.if_icmp .ne 6, 3) := by decide +kernel
theorem dX1_letterOf_49 : decode cX1_letterOf 49 = .ok (.iload 10, 2) := by decide +kernel
theorem dX1_letterOf_51 : decode cX1_letterOf 51 = .ok (.ireturn, 1) := by decide +kernel
theorem dX1_letterOf_52 : decode cX1_letterOf 52 = .ok (.lload 6, 2) := by decide +kernel
theorem dX1_letterOf_54 : decode cX1_letterOf 54 = .ok (.aload_n 0, 1) := by decide +kernel
theorem dX1_letterOf_55 : decode cX1_letterOf 55 = .ok (.iload 5, 2) := by decide +kernel
theorem dX1_letterOf_57 : decode cX1_letterOf 57 = .ok (.iload 10, 2) := by decide +kernel
theorem dX1_letterOf_59 : decode cX1_letterOf 59 = .ok (.iload 9, 2) := by decide +kernel
theorem dX1_letterOf_61 : decode cX1_letterOf 61 = .ok (.invokevirtual 35, 3) := by decide +kernel
theorem dX1_letterOf_64 : decode cX1_letterOf 64 = .ok (.lsub, 1) := by decide +kernel
theorem dX1_letterOf_65 : decode cX1_letterOf 65 = .ok (.lstore 6, 2) := by decide +kernel
theorem dX1_letterOf_67 : decode cX1_letterOf 67 = .ok (.aload_n 0, 1) := by decide +kernel
theorem dX1_letterOf_68 : decode cX1_letterOf 68 = .ok (.getfield 17, 3) := by decide +kernel
theorem dX1_letterOf_71 : decode cX1_letterOf 71 = .ok (.iload 5, 2) := by decide +kernel
theorem dX1_letterOf_73 : decode cX1_letterOf 73 = .ok (.aaload, 1) := by decide +kernel
theorem dX1_letterOf_74 : decode cX1_letterOf 74 = .ok (.iload 10, 2) := by decide +kernel
theorem dX1_letterOf_76 : decode cX1_letterOf 76 = .ok (.iaload, 1) := by decide +kernel
theorem dX1_letterOf_77 : decode cX1_letterOf 77 = .ok (.istore 5, 2) := by decide +kernel
theorem dX1_letterOf_79 : decode cX1_letterOf 79 = .ok (.iinc 8 1, 3) := by decide +kernel
theorem dX1_letterOf_82 : decode cX1_letterOf 82 = .ok (.goto (-73), 3) := by decide +kernel
theorem dX1_letterOf_85 : decode cX1_letterOf 85 = .ok (.iconst (-1), 1) := by decide +kernel
theorem dX1_letterOf_86 : decode cX1_letterOf 86 = .ok (.ireturn, 1) := by decide +kernel
set_option maxRecDepth 20000 in
theorem ggX1_letterAt_X1_countBefore : GoodIn wsX1_letterAt wsX1_countBefore := goodIn_r _ [5, 6, 7, 8, 4, 9, 10, 11, 12, 13, 14, 15] (by decide +kernel) (by decide +kernel)
set_option maxRecDepth 20000 in
theorem gX1_letterAt_X1_countBefore : GoodIn wsX1_letterAt (wsV RX1 35 RX1 yX1_countBefore wsX1_countBefore) := goodIn_app (goodIn_of _ (by decide +kernel)) ggX1_letterAt_X1_countBefore
theorem dX1_letterAt_0 : decode cX1_letterAt 0 = .ok (.iconst 0, 1) := by decide +kernel
theorem dX1_letterAt_1 : decode cX1_letterAt 1 = .ok (.istore 5, 2) := by decide +kernel
theorem dX1_letterAt_3 : decode cX1_letterAt 3 = .ok (.iload 5, 2) := by decide +kernel
theorem dX1_letterAt_5 : decode cX1_letterAt 5 = .ok (.iconst 3, 1) := by decide +kernel
theorem dX1_letterAt_6 : decode cX1_letterAt 6 = .ok (.if_icmp .ge 25, 3) := by decide +kernel
theorem dX1_letterAt_9 : decode cX1_letterAt 9 = .ok (.lload_n 2, 1) := by decide +kernel
theorem dX1_letterAt_10 : decode cX1_letterAt 10 = .ok (.aload_n 0, 1) := by decide +kernel
theorem dX1_letterAt_11 : decode cX1_letterAt 11 = .ok (.iload_n 1, 1) := by decide +kernel
theorem dX1_letterAt_12 : decode cX1_letterAt 12 = .ok (.iload 5, 2) := by decide +kernel
theorem dX1_letterAt_14 : decode cX1_letterAt 14 = .ok (.iconst 1, 1) := by decide +kernel
theorem dX1_letterAt_15 : decode cX1_letterAt 15 = .ok (.iadd, 1) := by decide +kernel
theorem dX1_letterAt_16 : decode cX1_letterAt 16 = .ok (.iload 4, 2) := by decide +kernel
theorem dX1_letterAt_18 : decode cX1_letterAt 18 = .ok (.invokevirtual 35, 3) := by decide +kernel
theorem dX1_letterAt_21 : decode cX1_letterAt 21 = .ok (.lcmp, 1) := by decide +kernel
theorem dX1_letterAt_22 : decode cX1_letterAt 22 = .ok (.ifCond .lt 9, 3) := by decide +kernel
theorem dX1_letterAt_25 : decode cX1_letterAt 25 = .ok (.iinc 5 1, 3) := by decide +kernel
theorem dX1_letterAt_28 : decode cX1_letterAt 28 = .ok (.goto (-25), 3) := by decide +kernel
theorem dX1_letterAt_31 : decode cX1_letterAt 31 = .ok (.iload 5, 2) := by decide +kernel
theorem dX1_letterAt_33 : decode cX1_letterAt 33 = .ok (.ireturn, 1) := by decide +kernel
set_option maxRecDepth 20000 in
theorem ggX1_numberOf_X1_countBefore : GoodIn wsX1_numberOf wsX1_countBefore := goodIn_r _ [8, 9, 10, 11, 7, 12, 1, 13, 14, 15, 16, 17] (by decide +kernel) (by decide +kernel)
set_option maxRecDepth 20000 in
theorem gX1_numberOf_X1_countBefore : GoodIn wsX1_numberOf (wsV RX1 35 RX1 yX1_countBefore wsX1_countBefore) := goodIn_app (goodIn_of _ (by decide +kernel)) ggX1_numberOf_X1_countBefore
theorem dX1_numberOf_0 : decode cX1_numberOf 0 = .ok (.iconst 0, 1) := by decide +kernel
theorem dX1_numberOf_1 : decode cX1_numberOf 1 = .ok (.istore 4, 2) := by decide +kernel
theorem dX1_numberOf_3 : decode cX1_numberOf 3 = .ok (.lconst 0, 1) := by decide +kernel
theorem dX1_numberOf_4 : decode cX1_numberOf 4 = .ok (.lstore 5, 2) := by decide +kernel
theorem dX1_numberOf_6 : decode cX1_numberOf 6 = .ok (.iconst 0, 1) := by decide +kernel
theorem dX1_numberOf_7 : decode cX1_numberOf 7 = .ok (.istore 7, 2) := by decide +kernel
theorem dX1_numberOf_9 : decode cX1_numberOf 9 = .ok (.iload 7, 2) := by decide +kernel
theorem dX1_numberOf_11 : decode cX1_numberOf 11 = .ok (.iload_n 1, 1) := by decide +kernel
theorem dX1_numberOf_12 : decode cX1_numberOf 12 = .ok (.if_icmp .ge 62, 3) := by decide +kernel
theorem dX1_numberOf_15 : decode cX1_numberOf 15 = .ok (.lload_n 2, 1) := by decide +kernel
theorem dX1_numberOf_16 : decode cX1_numberOf 16 = .ok (.iconst 2, 1) := by decide +kernel
theorem dX1_numberOf_17 : decode cX1_numberOf 17 = .ok (.iload 7, 2) := by decide +kernel
theorem dX1_numberOf_19 : decode cX1_numberOf 19 = .ok (.imul, 1) := by decide +kernel
theorem dX1_numberOf_20 : decode cX1_numberOf 20 = .ok (.lushr, 1) := by decide +kernel
theorem dX1_numberOf_21 : decode cX1_numberOf 21 = .ok (.l2i, 1) := by decide +kernel
theorem dX1_numberOf_22 : decode cX1_numberOf 22 = .ok (.iconst 3, 1) := by decide +kernel
theorem dX1_numberOf_23 : decode cX1_numberOf 23 = .ok (.iand, 1) := by decide +kernel
theorem dX1_numberOf_24 : decode cX1_numberOf 24 = .ok (.istore 8, 2) := by decide +kernel
theorem dX1_numberOf_26 : decode cX1_numberOf 26 = .ok (.lload 5, 2) := by decide +kernel
theorem dX1_numberOf_28 : decode cX1_numberOf 28 = .ok (.aload_n 0, 1) := by decide +kernel
theorem dX1_numberOf_29 : decode cX1_numberOf 29 = .ok (.iload 4, 2) := by decide +kernel
theorem dX1_numberOf_31 : decode cX1_numberOf 31 = .ok (.iload 8, 2) := by decide +kernel
theorem dX1_numberOf_33 : decode cX1_numberOf 33 = .ok (.iload_n 1, 1) := by decide +kernel
theorem dX1_numberOf_34 : decode cX1_numberOf 34 = .ok (.iconst 1, 1) := by decide +kernel
theorem dX1_numberOf_35 : decode cX1_numberOf 35 = .ok (.isub, 1) := by decide +kernel
theorem dX1_numberOf_36 : decode cX1_numberOf 36 = .ok (.iload 7, 2) := by decide +kernel
theorem dX1_numberOf_38 : decode cX1_numberOf 38 = .ok (.isub, 1) := by decide +kernel
theorem dX1_numberOf_39 : decode cX1_numberOf 39 = .ok (.invokevirtual 35, 3) := by decide +kernel
theorem dX1_numberOf_42 : decode cX1_numberOf 42 = .ok (.ladd, 1) := by decide +kernel
theorem dX1_numberOf_43 : decode cX1_numberOf 43 = .ok (.lstore 5, 2) := by decide +kernel
theorem dX1_numberOf_45 : decode cX1_numberOf 45 = .ok (.aload_n 0, 1) := by decide +kernel
theorem dX1_numberOf_46 : decode cX1_numberOf 46 = .ok (.getfield 17, 3) := by decide +kernel
theorem dX1_numberOf_49 : decode cX1_numberOf 49 = .ok (.iload 4, 2) := by decide +kernel
theorem dX1_numberOf_51 : decode cX1_numberOf 51 = .ok (.aaload, 1) := by decide +kernel
theorem dX1_numberOf_52 : decode cX1_numberOf 52 = .ok (.iload 8, 2) := by decide +kernel
theorem dX1_numberOf_54 : decode cX1_numberOf 54 = .ok (.iaload, 1) := by decide +kernel
theorem dX1_numberOf_55 : decode cX1_numberOf 55 = .ok (.istore 4, 2) := by decide +kernel
theorem dX1_numberOf_57 : decode cX1_numberOf 57 = .ok (.iload 4, 2) := by decide +kernel
theorem dX1_numberOf_59 : decode cX1_numberOf 59 = .ok (.bipush (-2), 2) := by decide +kernel
theorem dX1_numberOf_61 : decode cX1_numberOf 61 = .ok (.if_icmp .ne 7, 3) := by decide +kernel
theorem dX1_numberOf_64 : decode cX1_numberOf 64 = .ok (.ldc2_w 46, 3) := by decide +kernel
theorem dX1_numberOf_67 : decode cX1_numberOf 67 = .ok (.lreturn, 1) := by decide +kernel
theorem dX1_numberOf_68 : decode cX1_numberOf 68 = .ok (.iinc 7 1, 3) := by decide +kernel
theorem dX1_numberOf_71 : decode cX1_numberOf 71 = .ok (.goto (-62), 3) := by decide +kernel
theorem dX1_numberOf_74 : decode cX1_numberOf 74 = .ok (.aload_n 0, 1) := by decide +kernel
theorem dX1_numberOf_75 : decode cX1_numberOf 75 = .ok (.getfield 20, 3) := by decide +kernel
theorem dX1_numberOf_78 : decode cX1_numberOf 78 = .ok (.iload 4, 2) := by decide +kernel
theorem dX1_numberOf_80 : decode cX1_numberOf 80 = .ok (.baload, 1) := by decide +kernel
theorem dX1_numberOf_81 : decode cX1_numberOf 81 = .ok (.ifCond .eq 8, 3) := by decide +kernel
theorem dX1_numberOf_84 : decode cX1_numberOf 84 = .ok (.lload 5, 2) := by decide +kernel
theorem dX1_numberOf_86 : decode cX1_numberOf 86 = .ok (.goto 6, 3) := by decide +kernel
theorem dX1_numberOf_89 : decode cX1_numberOf 89 = .ok (.ldc2_w 46, 3) := by decide +kernel
theorem dX1_numberOf_92 : decode cX1_numberOf 92 = .ok (.lreturn, 1) := by decide +kernel
set_option maxRecDepth 20000 in
theorem ggX2_init_J7_fill_53178 : GoodIn wsX2_init wsJ7_fill_53178 := goodIn_r _ [10] (by decide +kernel) (by decide +kernel)
set_option maxRecDepth 20000 in
theorem gX2_init_J7_fill_53178 : GoodIn wsX2_init (va_wsS RX2 18 yJ7_fill_53178 wsJ7_fill_53178) := goodIn_app (goodIn_of _ (by decide +kernel)) ggX2_init_J7_fill_53178
theorem dX2_init_0 : decode cX2_init 0 = .ok (.aload_n 0, 1) := by decide +kernel
theorem dX2_init_1 : decode cX2_init 1 = .ok (.invokespecial 3, 3) := by decide +kernel
theorem dX2_init_4 : decode cX2_init 4 = .ok (.aload_n 0, 1) := by decide +kernel
theorem dX2_init_5 : decode cX2_init 5 = .ok (.bipush 8, 2) := by decide +kernel
theorem dX2_init_7 : decode cX2_init 7 = .ok (.newarray .int, 2) := by decide +kernel
theorem dX2_init_9 : decode cX2_init 9 = .ok (.putfield 9, 3) := by decide +kernel
theorem dX2_init_12 : decode cX2_init 12 = .ok (.aload_n 0, 1) := by decide +kernel
theorem dX2_init_13 : decode cX2_init 13 = .ok (.sipush 256, 3) := by decide +kernel
theorem dX2_init_16 : decode cX2_init 16 = .ok (.newarray .int, 2) := by decide +kernel
theorem dX2_init_18 : decode cX2_init 18 = .ok (.putfield 15, 3) := by decide +kernel
theorem dX2_init_21 : decode cX2_init 21 = .ok (.aload_n 0, 1) := by decide +kernel
theorem dX2_init_22 : decode cX2_init 22 = .ok (.getfield 9, 3) := by decide +kernel
theorem dX2_init_25 : decode cX2_init 25 = .ok (.sipush 255, 3) := by decide +kernel
theorem dX2_init_28 : decode cX2_init 28 = .ok (.invokestatic 18, 3) := by decide +kernel
theorem dX2_init_31 : decode cX2_init 31 = .ok (.return_, 1) := by decide +kernel
theorem dX2_setAllowed_0 : decode cX2_setAllowed 0 = .ok (.aload_n 0, 1) := by decide +kernel
theorem dX2_setAllowed_1 : decode cX2_setAllowed 1 = .ok (.getfield 9, 3) := by decide +kernel
theorem dX2_setAllowed_4 : decode cX2_setAllowed 4 = .ok (.iload_n 1, 1) := by decide +kernel
theorem dX2_setAllowed_5 : decode cX2_setAllowed 5 = .ok (.iaload, 1) := by decide +kernel
theorem dX2_setAllowed_6 : decode cX2_setAllowed 6 = .ok (.iload_n 2, 1) := by decide +kernel
theorem dX2_setAllowed_7 : decode cX2_setAllowed 7 = .ok (.ishr, 1) := by decide +kernel
theorem dX2_setAllowed_8 : decode cX2_setAllowed 8 = .ok (.iconst 1, 1) := by decide +kernel
theorem dX2_setAllowed_9 : decode cX2_setAllowed 9 = .ok (.iand, 1) := by decide +kernel
theorem dX2_setAllowed_10 : decode cX2_setAllowed 10 = .ok (.ifCond .eq 7, 3) := by decide +kernel
theorem dX2_setAllowed_13 : decode cX2_setAllowed 13 = .ok (.iconst 1, 1) := by decide +kernel
theorem dX2_setAllowed_14 : decode cX2_setAllowed 14 = .ok (.goto 4, 3) := by decide +kernel
theorem dX2_setAllowed_17 : decode cX2_setAllowed 17 = .ok (.iconst 0, 1) := by decide +kernel
theorem dX2_setAllowed_18 : decode cX2_setAllowed 18 = .ok (.istore 4, 2) := by decide +kernel
theorem dX2_setAllowed_20 : decode cX2_setAllowed 20 = .ok (.iload_n 3, 1) := by decide +kernel
theorem dX2_setAllowed_21 : decode cX2_setAllowed 21 = .ok (.iload 4, 2) := by decide +kernel
theorem dX2_setAllowed_23 : decode cX2_setAllowed 23 = .ok (.if_icmp .eq 15, 3) := by decide +kernel
theorem dX2_setAllowed_26 : decode cX2_setAllowed 26 = .ok (.aload_n 0, 1) := by decide +kernel
theorem dX2_setAllowed_27 : decode cX2_setAllowed 27 = .ok (.getfield 9, 3) := by decide +kernel
theorem dX2_setAllowed_30 : decode cX2_setAllowed 30 = .ok (.iload_n 1, 1) := by decide +kernel
theorem dX2_setAllowed_31 : decode cX2_setAllowed 31 = .ok (.dup2, 1) := by decide +kernel
theorem dX2_setAllowed_32 : decode cX2_setAllowed 32 = .ok (.iaload, 1) := by decide +kernel
theorem dX2_setAllowed_33 : decode cX2_setAllowed 33 = .ok (.iconst 1, 1) := by decide +kernel
theorem dX2_setAllowed_34 : decode cX2_setAllowed 34 = .ok (.iload_n 2, 1) := by decide +kernel
theorem dX2_setAllowed_35 : decode cX2_setAllowed 35 = .ok (.ishl, 1) := by decide +kernel
theorem dX2_setAllowed_36 : decode cX2_setAllowed 36 = .ok (.ixor, 1) := by decide +kernel
theorem dX2_setAllowed_37 : decode cX2_setAllowed 37 = .ok (.iastore, 1) := by decide +kernel
theorem dX2_setAllowed_38 : decode cX2_setAllowed 38 = .ok (.iload 4, 2) := by decide +kernel
theorem dX2_setAllowed_40 : decode cX2_setAllowed 40 = .ok (.ireturn, 1) := by decide +kernel
set_option maxRecDepth 20000 in
theorem ggX2_countAll_X2_waysBefore : GoodIn wsX2_countAll wsX2_waysBefore := goodIn_r _ [6, 1, 7, 8, 9, 5, 10, 11, 12, 13, 14, 15, 16, 17, 18, 19, 20] (by decide +kernel) (by decide +kernel)
set_option maxRecDepth 20000 in
theorem gX2_countAll_X2_waysBefore : GoodIn wsX2_countAll (wsV RX2 24 RX2 yX2_waysBefore wsX2_waysBefore) := goodIn_app (goodIn_of _ (by decide +kernel)) ggX2_countAll_X2_waysBefore
theorem dX2_countAll_0 : decode cX2_countAll 0 = .ok (.iconst 1, 1) := by decide +kernel
theorem dX2_countAll_1 : decode cX2_countAll 1 = .ok (.iload_n 1, 1) := by decide +kernel
theorem dX2_countAll_2 : decode cX2_countAll 2 = .ok (.ishl, 1) := by decide +kernel
theorem dX2_countAll_3 : decode cX2_countAll 3 = .ok (.iconst 1, 1) := by decide +kernel
theorem dX2_countAll_4 : decode cX2_countAll 4 = .ok (.isub, 1) := by decide +kernel
theorem dX2_countAll_5 : decode cX2_countAll 5 = .ok (.istore_n 2, 1) := by decide +kernel
theorem dX2_countAll_6 : decode cX2_countAll 6 = .ok (.aload_n 0, 1) := by decide +kernel
theorem dX2_countAll_7 : decode cX2_countAll 7 = .ok (.getfield 15, 3) := by decide +kernel
theorem dX2_countAll_10 : decode cX2_countAll 10 = .ok (.iload_n 2, 1) := by decide +kernel
theorem dX2_countAll_11 : decode cX2_countAll 11 = .ok (.iconst 1, 1) := by decide +kernel
theorem dX2_countAll_12 : decode cX2_countAll 12 = .ok (.iastore, 1) := by decide +kernel
theorem dX2_countAll_13 : decode cX2_countAll 13 = .ok (.iload_n 2, 1) := by decide +kernel
theorem dX2_countAll_14 : decode cX2_countAll 14 = .ok (.iconst 1, 1) := by decide +kernel
theorem dX2_countAll_15 : decode cX2_countAll 15 = .ok (.isub, 1) := by decide +kernel
theorem dX2_countAll_16 : decode cX2_countAll 16 = .ok (.istore_n 3, 1) := by decide +kernel
theorem dX2_countAll_17 : decode cX2_countAll 17 = .ok (.iload_n 3, 1) := by decide +kernel
theorem dX2_countAll_18 : decode cX2_countAll 18 = .ok (.ifCond .lt 22, 3) := by decide +kernel
theorem dX2_countAll_21 : decode cX2_countAll 21 = .ok (.aload_n 0, 1) := by decide +kernel
theorem dX2_countAll_22 : decode cX2_countAll 22 = .ok (.getfield 15, 3) := by decide +kernel
theorem dX2_countAll_25 : decode cX2_countAll 25 = .ok (.iload_n 3, 1) := by decide +kernel
theorem dX2_countAll_26 : decode cX2_countAll 26 = .ok (.aload_n 0, 1) := by decide +kernel
theorem dX2_countAll_27 : decode cX2_countAll 27 = .ok (.iload_n 1, 1) := by decide +kernel
theorem dX2_countAll_28 : decode cX2_countAll 28 = .ok (.iload_n 3, 1) := by decide +kernel
theorem dX2_countAll_29 : decode cX2_countAll 29 = .ok (.iload_n 1, 1) := by decide +kernel
theorem dX2_countAll_30 : decode cX2_countAll 30 = .ok (.invokevirtual 24, 3) := by decide +kernel
theorem dX2_countAll_33 : decode cX2_countAll 33 = .ok (.iastore, 1) := by decide +kernel
theorem dX2_countAll_34 : decode cX2_countAll 34 = .ok (.iinc 3 (-1), 3) := by decide +kernel
theorem dX2_countAll_37 : decode cX2_countAll 37 = .ok (.goto (-20), 3) := by decide +kernel
theorem dX2_countAll_40 : decode cX2_countAll 40 = .ok (.aload_n 0, 1) := by decide +kernel
theorem dX2_countAll_41 : decode cX2_countAll 41 = .ok (.getfield 15, 3) := by decide +kernel
theorem dX2_countAll_44 : decode cX2_countAll 44 = .ok (.iconst 0, 1) := by decide +kernel
theorem dX2_countAll_45 : decode cX2_countAll 45 = .ok (.iaload, 1) := by decide +kernel
theorem dX2_countAll_46 : decode cX2_countAll 46 = .ok (.ireturn, 1) := by decide +kernel
set_option maxRecDepth 20000 in
theorem ggX2_isFree_J6_bitCount_0f7a4 : GoodIn wsX2_isFree wsJ6_bitCount_0f7a4 := goodIn_r _ [5, 6, 7, 8] (by decide +kernel) (by decide +kernel)
set_option maxRecDepth 20000 in
theorem gX2_isFree_J6_bitCount_0f7a4 : GoodIn wsX2_isFree (va_wsS RX2 28 yJ6_bitCount_0f7a4 wsJ6_bitCount_0f7a4) := goodIn_app (goodIn_of _ (by decide +kernel)) ggX2_isFree_J6_bitCount_0f7a4
theorem dX2_isFree_0 : decode cX2_isFree 0 = .ok (.aload_n 0, 1) := by decide +kernel
theorem dX2_isFree_1 : decode cX2_isFree 1 = .ok (.getfield 9, 3) := by decide +kernel
theorem dX2_isFree_4 : decode cX2_isFree 4 = .ok (.iload_n 1, 1) := by decide +kernel
theorem dX2_isFree_5 : decode cX2_isFree 5 = .ok (.invokestatic 28, 3) := by decide +kernel
theorem dX2_isFree_8 : decode cX2_isFree 8 = .ok (.iaload, 1) := by decide +kernel
theorem dX2_isFree_9 : decode cX2_isFree 9 = .ok (.iload_n 1, 1) := by decide +kernel
theorem dX2_isFree_10 : decode cX2_isFree 10 = .ok (.iconst (-1), 1) := by decide +kernel
theorem dX2_isFree_11 : decode cX2_isFree 11 = .ok (.ixor, 1) := by decide +kernel
theorem dX2_isFree_12 : decode cX2_isFree 12 = .ok (.iand, 1) := by decide +kernel
theorem dX2_isFree_13 : decode cX2_isFree 13 = .ok (.istore_n 3, 1) := by decide +kernel
theorem dX2_isFree_14 : decode cX2_isFree 14 = .ok (.iload_n 3, 1) := by decide +kernel
theorem dX2_isFree_15 : decode cX2_isFree 15 = .ok (.iload_n 2, 1) := by decide +kernel
theorem dX2_isFree_16 : decode cX2_isFree 16 = .ok (.ishr, 1) := by decide +kernel
theorem dX2_isFree_17 : decode cX2_isFree 17 = .ok (.iconst 1, 1) := by decide +kernel
theorem dX2_isFree_18 : decode cX2_isFree 18 = .ok (.iand, 1) := by decide +kernel
theorem dX2_isFree_19 : decode cX2_isFree 19 = .ok (.ifCond .eq 7, 3) := by decide +kernel
theorem dX2_isFree_22 : decode cX2_isFree 22 = .ok (.iconst 1, 1) := by decide +kernel
theorem dX2_isFree_23 : decode cX2_isFree 23 = .ok (.goto 4, 3) := by decide +kernel
theorem dX2_isFree_26 : decode cX2_isFree 26 = .ok (.iconst 0, 1) := by decide +kernel
theorem dX2_isFree_27 : decode cX2_isFree 27 = .ok (.ireturn, 1) := by decide +kernel
set_option maxRecDepth 20000 in
theorem ggX2_waysBefore_X2_isFree : GoodIn wsX2_waysBefore wsX2_isFree := goodIn_r _ [6, 7, 8, 9, 10, 11, 12, 13, 14, 15, 16] (by decide +kernel) (by decide +kernel)
set_option maxRecDepth 20000 in
theorem gX2_waysBefore_X2_isFree : GoodIn wsX2_waysBefore (wsV RX2 34 RX2 yX2_isFree wsX2_isFree) := goodIn_app (goodIn_of _ (by decide +kernel)) ggX2_waysBefore_X2_isFree
theorem dX2_waysBefore_0 : decode cX2_waysBefore 0 = .ok (.iconst 0, 1) := by decide +kernel
theorem dX2_waysBefore_1 : decode cX2_waysBefore 1 = .ok (.istore 4, 2) := by decide +kernel
theorem dX2_waysBefore_3 : decode cX2_waysBefore 3 = .ok (.iconst 0, 1) := by decide +kernel
theorem dX2_waysBefore_4 : decode cX2_waysBefore 4 = .ok (.istore 5, 2) := by decide +kernel
theorem dX2_waysBefore_6 : decode cX2_waysBefore 6 = .ok (.iload 5, 2) := by decide +kernel
theorem dX2_waysBefore_8 : decode cX2_waysBefore 8 = .ok (.iload_n 3, 1) := by decide +kernel
theorem dX2_waysBefore_9 : decode cX2_waysBefore 9 = .ok (.if_icmp .ge 41, 3) := by decide +kernel
theorem dX2_waysBefore_12 : decode cX2_waysBefore 12 = .ok (.iload 5, 2) := by decide +kernel
theorem dX2_waysBefore_14 : decode cX2_waysBefore 14 = .ok (.iload_n 1, 1) := by decide +kernel
theorem dX2_waysBefore_15 : decode cX2_waysBefore 15 = .ok (.if_icmp .ge 35, 3) := by decide +kernel
theorem dX2_waysBefore_18 : decode cX2_waysBefore 18 = .ok (.aload_n 0, 1) := by decide +kernel
theorem dX2_waysBefore_19 : decode cX2_waysBefore 19 = .ok (.iload_n 2, 1) := by decide +kernel
theorem dX2_waysBefore_20 : decode cX2_waysBefore 20 = .ok (.iload 5, 2) := by decide +kernel
theorem dX2_waysBefore_22 : decode cX2_waysBefore 22 = .ok (.invokevirtual 34, 3) := by decide +kernel
theorem dX2_waysBefore_25 : decode cX2_waysBefore 25 = .ok (.ifCond .eq 19, 3) := by decide +kernel
theorem dX2_waysBefore_28 : decode cX2_waysBefore 28 = .ok (.iload 4, 2) := by decide +kernel
theorem dX2_waysBefore_30 : decode cX2_waysBefore 30 = .ok (.aload_n 0, 1) := by decide +kernel
theorem dX2_waysBefore_31 : decode cX2_waysBefore 31 = .ok (.getfield 15, 3) := by decide +kernel
theorem dX2_waysBefore_34 : decode cX2_waysBefore 34 = .ok (.iload_n 2, 1) := by decide +kernel
theorem dX2_waysBefore_35 : decode cX2_waysBefore 35 = .ok (.iconst 1, 1) := by decide +kernel
theorem dX2_waysBefore_36 : decode cX2_waysBefore 36 = .ok (.iload 5, 2) := by decide +kernel
theorem dX2_waysBefore_38 : decode cX2_waysBefore 38 = .ok (.ishl, 1) := by decide +kernel
theorem dX2_waysBefore_39 : decode cX2_waysBefore 39 = .ok (.ior, 1) := by decide +kernel
theorem dX2_waysBefore_40 : decode cX2_waysBefore 40 = .ok (.iaload, 1) := by decide +kernel
theorem dX2_waysBefore_41 : decode cX2_waysBefore 41 = .ok (.iadd, 1) := by decide +kernel
theorem dX2_waysBefore_42 : decode cX2_waysBefore 42 = .ok (.istore 4, 2) := by decide +kernel
theorem dX2_waysBefore_44 : decode cX2_waysBefore 44 = .ok (.iinc 5 1, 3) := by decide +kernel
theorem dX2_waysBefore_47 : decode cX2_waysBefore 47 = .ok (.goto (-41), 3) := by decide +kernel
theorem dX2_waysBefore_50 : decode cX2_waysBefore 50 = .ok (.iload 4, 2) := by decide +kernel
theorem dX2_waysBefore_52 : decode cX2_waysBefore 52 = .ok (.ireturn, 1) := by decide +kernel
set_option maxRecDepth 20000 in
theorem ggX2_atPlace_X2_nextNumber : GoodIn wsX2_atPlace wsX2_nextNumber := goodIn_r _ [5, 6, 7, 8, 4, 9, 10, 11, 12, 13, 14, 15, 16, 17, 18, 19, 20, 21, 22, 23, 24] (by decide +kernel) (by decide +kernel)
set_option maxRecDepth 20000 in
theorem gX2_atPlace_X2_nextNumber : GoodIn wsX2_atPlace (wsV RX2 38 RX2 yX2_nextNumber wsX2_nextNumber) := goodIn_app (goodIn_of _ (by decide +kernel)) ggX2_atPlace_X2_nextNumber
set_option maxRecDepth 20000 in
theorem ggX2_atPlace_X2_waysBefore : GoodIn wsX2_atPlace wsX2_waysBefore := goodIn_r _ [9, 10, 11, 12, 13, 4, 14, 15, 16, 17, 18, 19, 20, 21, 22, 23, 24] (by decide +kernel) (by decide +kernel)
set_option maxRecDepth 20000 in
theorem gX2_atPlace_X2_waysBefore : GoodIn wsX2_atPlace (wsV RX2 24 RX2 yX2_waysBefore wsX2_waysBefore) := goodIn_app (goodIn_of _ (by decide +kernel)) ggX2_atPlace_X2_waysBefore
theorem dX2_atPlace_0 : decode cX2_atPlace 0 = .ok (.iconst 0, 1) := by decide +kernel
theorem dX2_atPlace_1 : decode cX2_atPlace 1 = .ok (.istore 4, 2) := by decide +kernel
theorem dX2_atPlace_3 : decode cX2_atPlace 3 = .ok (.iload_n 2, 1) := by decide +kernel
theorem dX2_atPlace_4 : decode cX2_atPlace 4 = .ok (.istore 5, 2) := by decide +kernel
theorem dX2_atPlace_6 : decode cX2_atPlace 6 = .ok (.iconst (-1), 1) := by decide +kernel
theorem dX2_atPlace_7 : decode cX2_atPlace 7 = .ok (.istore 6, 2) := by decide +kernel
theorem dX2_atPlace_9 : decode cX2_atPlace 9 = .ok (.iconst 0, 1) := by decide +kernel
theorem dX2_atPlace_10 : decode cX2_atPlace 10 = .ok (.istore 7, 2) := by decide +kernel
theorem dX2_atPlace_12 : decode cX2_atPlace 12 = .ok (.iload 7, 2) := by decide +kernel
theorem dX2_atPlace_14 : decode cX2_atPlace 14 = .ok (.iload_n 3, 1) := by decide +kernel
theorem dX2_atPlace_15 : decode cX2_atPlace 15 = .ok (.if_icmp .gt 43, 3) := by decide +kernel
theorem dX2_atPlace_18 : decode cX2_atPlace 18 = .ok (.aload_n 0, 1) := by decide +kernel
theorem dX2_atPlace_19 : decode cX2_atPlace 19 = .ok (.iload_n 1, 1) := by decide +kernel
theorem dX2_atPlace_20 : decode cX2_atPlace 20 = .ok (.iload 4, 2) := by decide +kernel
theorem dX2_atPlace_22 : decode cX2_atPlace 22 = .ok (.iload 5, 2) := by decide +kernel
theorem dX2_atPlace_24 : decode cX2_atPlace 24 = .ok (.invokevirtual 38, 3) := by decide +kernel
theorem dX2_atPlace_27 : decode cX2_atPlace 27 = .ok (.istore 6, 2) := by decide +kernel
theorem dX2_atPlace_29 : decode cX2_atPlace 29 = .ok (.iload 5, 2) := by decide +kernel
theorem dX2_atPlace_31 : decode cX2_atPlace 31 = .ok (.aload_n 0, 1) := by decide +kernel
theorem dX2_atPlace_32 : decode cX2_atPlace 32 = .ok (.iload_n 1, 1) := by decide +kernel
theorem dX2_atPlace_33 : decode cX2_atPlace 33 = .ok (.iload 4, 2) := by decide +kernel
theorem dX2_atPlace_35 : decode cX2_atPlace 35 = .ok (.iload 6, 2) := by decide +kernel
theorem dX2_atPlace_37 : decode cX2_atPlace 37 = .ok (.invokevirtual 24, 3) := by decide +kernel
theorem dX2_atPlace_40 : decode cX2_atPlace 40 = .ok (.isub, 1) := by decide +kernel
theorem dX2_atPlace_41 : decode cX2_atPlace 41 = .ok (.istore 5, 2) := by decide +kernel
theorem dX2_atPlace_43 : decode cX2_atPlace 43 = .ok (.iload 4, 2) := by decide +kernel
theorem dX2_atPlace_45 : decode cX2_atPlace 45 = .ok (.iconst 1, 1) := by decide +kernel
theorem dX2_atPlace_46 : decode cX2_atPlace 46 = .ok (.iload 6, 2) := by decide +kernel
theorem dX2_atPlace_48 : decode cX2_atPlace 48 = .ok (.ishl, 1) := by decide +kernel
theorem dX2_atPlace_49 : decode cX2_atPlace 49 = .ok (.ior, 1) := by decide +kernel
theorem dX2_atPlace_50 : decode cX2_atPlace 50 = .ok (.istore 4, 2) := by decide +kernel
theorem dX2_atPlace_52 : decode cX2_atPlace 52 = .ok (.iinc 7 1, 3) := by decide +kernel
theorem dX2_atPlace_55 : decode cX2_atPlace 55 = .ok (.goto (-43), 3) := by decide +kernel
theorem dX2_atPlace_58 : decode cX2_atPlace 58 = .ok (.iload 6, 2) := by decide +kernel
theorem dX2_atPlace_60 : decode cX2_atPlace 60 = .ok (.ireturn, 1) := by decide +kernel
set_option maxRecDepth 20000 in
theorem ggX2_nextNumber_X2_waysBefore : GoodIn wsX2_nextNumber wsX2_waysBefore := goodIn_r _ [5, 6, 7, 8, 9, 4, 10, 11, 12, 13, 14, 15, 16, 17, 18, 19, 20] (by decide +kernel) (by decide +kernel)
set_option maxRecDepth 20000 in
theorem gX2_nextNumber_X2_waysBefore : GoodIn wsX2_nextNumber (wsV RX2 24 RX2 yX2_waysBefore wsX2_waysBefore) := goodIn_app (goodIn_of _ (by decide +kernel)) ggX2_nextNumber_X2_waysBefore
theorem dX2_nextNumber_0 : decode cX2_nextNumber 0 = .ok (.iconst 0, 1) := by decide +kernel
theorem dX2_nextNumber_1 : decode cX2_nextNumber 1 = .ok (.istore 4, 2) := by decide +kernel
theorem dX2_nextNumber_3 : decode cX2_nextNumber 3 = .ok (.iload 4, 2) := by decide +kernel
theorem dX2_nextNumber_5 : decode cX2_nextNumber 5 = .ok (.iload_n 1, 1) := by decide +kernel
theorem dX2_nextNumber_6 : decode cX2_nextNumber 6 = .ok (.iconst 1, 1) := by decide +kernel
theorem dX2_nextNumber_7 : decode cX2_nextNumber 7 = .ok (.isub, 1) := by decide +kernel
theorem dX2_nextNumber_8 : decode cX2_nextNumber 8 = .ok (.if_icmp .ge 23, 3) := by decide +kernel
theorem dX2_nextNumber_11 : decode cX2_nextNumber 11 = .ok (.iload_n 3, 1) := by decide +kernel
theorem dX2_nextNumber_12 : decode cX2_nextNumber 12 = .ok (.aload_n 0, 1) := by decide +kernel
theorem dX2_nextNumber_13 : decode cX2_nextNumber 13 = .ok (.iload_n 1, 1) := by decide +kernel
theorem dX2_nextNumber_14 : decode cX2_nextNumber 14 = .ok (.iload_n 2, 1) := by decide +kernel
theorem dX2_nextNumber_15 : decode cX2_nextNumber 15 = .ok (.iload 4, 2) := by decide +kernel
theorem dX2_nextNumber_17 : decode cX2_nextNumber 17 = .ok (.iconst 1, 1) := by decide +kernel
theorem dX2_nextNumber_18 : decode cX2_nextNumber 18 = .ok (.iadd, 1) := by decide +kernel
theorem dX2_nextNumber_19 : decode cX2_nextNumber 19 = .ok (.invokevirtual 24, 3) := by decide +kernel
theorem dX2_nextNumber_22 : decode cX2_nextNumber 22 = .ok (.if_icmp .lt 9, 3) := by decide +kernel
theorem dX2_nextNumber_25 : decode cX2_nextNumber 25 = .ok (.iinc 4 1, 3) := by decide +kernel
theorem dX2_nextNumber_28 : decode cX2_nextNumber 28 = .ok (.goto (-25), 3) := by decide +kernel
theorem dX2_nextNumber_31 : decode cX2_nextNumber 31 = .ok (.iload 4, 2) := by decide +kernel
theorem dX2_nextNumber_33 : decode cX2_nextNumber 33 = .ok (.ireturn, 1) := by decide +kernel
set_option maxRecDepth 20000 in
theorem ggX2_numberOf_X2_isFree : GoodIn wsX2_numberOf wsX2_isFree := goodIn_r _ [5, 6, 7, 8, 9, 10, 11, 12, 13, 19, 20] (by decide +kernel) (by decide +kernel)
set_option maxRecDepth 20000 in
theorem gX2_numberOf_X2_isFree : GoodIn wsX2_numberOf (wsV RX2 34 RX2 yX2_isFree wsX2_isFree) := goodIn_app (goodIn_of _ (by decide +kernel)) ggX2_numberOf_X2_isFree
set_option maxRecDepth 20000 in
theorem ggX2_numberOf_X2_waysBefore : GoodIn wsX2_numberOf wsX2_waysBefore := goodIn_r _ [17, 18, 1, 2, 3, 4, 5, 6, 7, 8, 9, 10, 11, 12, 13, 19, 20] (by decide +kernel) (by decide +kernel)
set_option maxRecDepth 20000 in
theorem gX2_numberOf_X2_waysBefore : GoodIn wsX2_numberOf (wsV RX2 24 RX2 yX2_waysBefore wsX2_waysBefore) := goodIn_app (goodIn_of _ (by decide +kernel)) ggX2_numberOf_X2_waysBefore
theorem dX2_numberOf_0 : decode cX2_numberOf 0 = .ok (.iconst 0, 1) := by decide +kernel
theorem dX2_numberOf_1 : decode cX2_numberOf 1 = .ok (.istore_n 3, 1) := by decide +kernel
theorem dX2_numberOf_2 : decode cX2_numberOf 2 = .ok (.iconst 0, 1) := by decide +kernel
theorem dX2_numberOf_3 : decode cX2_numberOf 3 = .ok (.istore 4, 2) := by decide +kernel
theorem dX2_numberOf_5 : decode cX2_numberOf 5 = .ok (.iconst 0, 1) := by decide +kernel
theorem dX2_numberOf_6 : decode cX2_numberOf 6 = .ok (.istore 5, 2) := by decide +kernel
theorem dX2_numberOf_8 : decode cX2_numberOf 8 = .ok (.iload 5, 2) := by decide +kernel
theorem dX2_numberOf_10 : decode cX2_numberOf 10 = .ok (.iload_n 1, 1) := by decide +kernel
theorem dX2_numberOf_11 : decode cX2_numberOf 11 = .ok (.if_icmp .ge 59, 3) := by decide +kernel
theorem dX2_numberOf_14 : decode cX2_numberOf 14 = .ok (.iload_n 2, 1) := by decide +kernel
theorem dX2_numberOf_15 : decode cX2_numberOf 15 = .ok (.iconst 3, 1) := by decide +kernel
theorem dX2_numberOf_16 : decode cX2_numberOf 16 = .ok (.iload 5, 2) := by decide +kernel
theorem dX2_numberOf_18 : decode cX2_numberOf 18 = .ok (.imul, 1) := by decide +kernel
theorem dX2_numberOf_19 : decode cX2_numberOf 19 = .ok (.iushr, 1) := by decide +kernel
theorem dX2_numberOf_20 : decode cX2_numberOf 20 = .ok (.bipush 7, 2) := by decide +kernel
theorem dX2_numberOf_22 : decode cX2_numberOf 22 = .ok (.iand, 1) := by decide +kernel
theorem dX2_numberOf_23 : decode cX2_numberOf 23 = .ok (.istore 6, 2) := by decide +kernel
theorem dX2_numberOf_25 : decode cX2_numberOf 25 = .ok (.iload 6, 2) := by decide +kernel
theorem dX2_numberOf_27 : decode cX2_numberOf 27 = .ok (.iload_n 1, 1) := by decide +kernel
theorem dX2_numberOf_28 : decode cX2_numberOf 28 = .ok (.if_icmp .ge 13, 3) := by decide +kernel
theorem dX2_numberOf_31 : decode cX2_numberOf 31 = .ok (.aload_n 0, 1) := by decide +kernel
theorem dX2_numberOf_32 : decode cX2_numberOf 32 = .ok (.iload_n 3, 1) := by decide +kernel
theorem dX2_numberOf_33 : decode cX2_numberOf 33 = .ok (.iload 6, 2) := by decide +kernel
theorem dX2_numberOf_35 : decode cX2_numberOf 35 = .ok (.invokevirtual 34, 3) := by decide +kernel
theorem dX2_numberOf_38 : decode cX2_numberOf 38 = .ok (.ifCond .ne 6, 3) := by decide +kernel
theorem dX2_numberOf_41 : decode cX2_numberOf 41 = .ok (.bipush (-2), 2) := by decide +kernel
theorem dX2_numberOf_43 : decode cX2_numberOf 43 = .ok (.ireturn, 1) := by decide +kernel
theorem dX2_numberOf_44 : decode cX2_numberOf 44 = .ok (.iload 4, 2) := by decide +kernel
theorem dX2_numberOf_46 : decode cX2_numberOf 46 = .ok (.aload_n 0, 1) := by decide +kernel
theorem dX2_numberOf_47 : decode cX2_numberOf 47 = .ok (.iload_n 1, 1) := by decide +kernel
theorem dX2_numberOf_48 : decode cX2_numberOf 48 = .ok (.iload_n 3, 1) := by decide +kernel
theorem dX2_numberOf_49 : decode cX2_numberOf 49 = .ok (.iload 6, 2) := by decide +kernel
theorem dX2_numberOf_51 : decode cX2_numberOf 51 = .ok (.invokevirtual 24, 3) := by decide +kernel
theorem dX2_numberOf_54 : decode cX2_numberOf 54 = .ok (.iadd, 1) := by decide +kernel
theorem dX2_numberOf_55 : decode cX2_numberOf 55 = .ok (.istore 4, 2) := by decide +kernel
theorem dX2_numberOf_57 : decode cX2_numberOf 57 = .ok (.iload_n 3, 1) := by decide +kernel
theorem dX2_numberOf_58 : decode cX2_numberOf 58 = .ok (.iconst 1, 1) := by decide +kernel
theorem dX2_numberOf_59 : decode cX2_numberOf 59 = .ok (.iload 6, 2) := by decide +kernel
theorem dX2_numberOf_61 : decode cX2_numberOf 61 = .ok (.ishl, 1) := by decide +kernel
theorem dX2_numberOf_62 : decode cX2_numberOf 62 = .ok (.ior, 1) := by decide +kernel
theorem dX2_numberOf_63 : decode cX2_numberOf 63 = .ok (.istore_n 3, 1) := by decide +kernel
theorem dX2_numberOf_64 : decode cX2_numberOf 64 = .ok (.iinc 5 1, 3) := by decide +kernel
theorem dX2_numberOf_67 : decode cX2_numberOf 67 = .ok (.goto (-59), 3) := by decide +kernel
theorem dX2_numberOf_70 : decode cX2_numberOf 70 = .ok (.iload 4, 2) := by decide +kernel
theorem dX2_numberOf_72 : decode cX2_numberOf 72 = .ok (.ireturn, 1) := by decide +kernel
set_option maxRecDepth 20000 in
theorem ggX3_init_J7_fill_53178 : GoodIn wsX3_init wsJ7_fill_53178 := goodIn_r _ [15] (by decide +kernel) (by decide +kernel)
set_option maxRecDepth 20000 in
theorem gX3_init_J7_fill_53178 : GoodIn wsX3_init (va_wsS RX3 32 yJ7_fill_53178 wsJ7_fill_53178) := goodIn_app (goodIn_of _ (by decide +kernel)) ggX3_init_J7_fill_53178
theorem dX3_init_0 : decode cX3_init 0 = .ok (.aload_n 0, 1) := by decide +kernel
theorem dX3_init_1 : decode cX3_init 1 = .ok (.invokespecial 3, 3) := by decide +kernel
theorem dX3_init_4 : decode cX3_init 4 = .ok (.aload_n 0, 1) := by decide +kernel
theorem dX3_init_5 : decode cX3_init 5 = .ok (.bipush 16, 2) := by decide +kernel
theorem dX3_init_7 : decode cX3_init 7 = .ok (.newarray .int, 2) := by decide +kernel
theorem dX3_init_9 : decode cX3_init 9 = .ok (.putfield 9, 3) := by decide +kernel
theorem dX3_init_12 : decode cX3_init 12 = .ok (.aload_n 0, 1) := by decide +kernel
theorem dX3_init_13 : decode cX3_init 13 = .ok (.bipush 16, 2) := by decide +kernel
theorem dX3_init_15 : decode cX3_init 15 = .ok (.newarray .int, 2) := by decide +kernel
theorem dX3_init_17 : decode cX3_init 17 = .ok (.putfield 15, 3) := by decide +kernel
theorem dX3_init_20 : decode cX3_init 20 = .ok (.aload_n 0, 1) := by decide +kernel
theorem dX3_init_21 : decode cX3_init 21 = .ok (.bipush 16, 2) := by decide +kernel
end
section
theorem dX3_init_23 : decode cX3_init 23 = .ok (.newarray .int, 2) := by decide +kernel
theorem dX3_init_25 : decode cX3_init 25 = .ok (.putfield 18, 3) := by decide +kernel
theorem dX3_init_28 : decode cX3_init 28 = .ok (.aload_n 0, 1) := by decide +kernel
theorem dX3_init_29 : decode cX3_init 29 = .ok (.bipush 16, 2) := by decide +kernel
theorem dX3_init_31 : decode cX3_init 31 = .ok (.newarray .int, 2) := by decide +kernel
theorem dX3_init_33 : decode cX3_init 33 = .ok (.putfield 21, 3) := by decide +kernel
theorem dX3_init_36 : decode cX3_init 36 = .ok (.aload_n 0, 1) := by decide +kernel
theorem dX3_init_37 : decode cX3_init 37 = .ok (.bipush 16, 2) := by decide +kernel
theorem dX3_init_39 : decode cX3_init 39 = .ok (.newarray .boolean, 2) := by decide +kernel
theorem dX3_init_41 : decode cX3_init 41 = .ok (.putfield 24, 3) := by decide +kernel
theorem dX3_init_44 : decode cX3_init 44 = .ok (.aload_n 0, 1) := by decide +kernel
theorem dX3_init_45 : decode cX3_init 45 = .ok (.iconst 1, 1) := by decide +kernel
theorem dX3_init_46 : decode cX3_init 46 = .ok (.putfield 28, 3) := by decide +kernel
theorem dX3_init_49 : decode cX3_init 49 = .ok (.aload_n 0, 1) := by decide +kernel
theorem dX3_init_50 : decode cX3_init 50 = .ok (.getfield 9, 3) := by decide +kernel
theorem dX3_init_53 : decode cX3_init 53 = .ok (.iconst 1, 1) := by decide +kernel
theorem dX3_init_54 : decode cX3_init 54 = .ok (.invokestatic 32, 3) := by decide +kernel
theorem dX3_init_57 : decode cX3_init 57 = .ok (.return_, 1) := by decide +kernel
theorem dX3_isThing_0 : decode cX3_isThing 0 = .ok (.iload_n 1, 1) := by decide +kernel
theorem dX3_isThing_1 : decode cX3_isThing 1 = .ok (.ifCond .lt 15, 3) := by decide +kernel
theorem dX3_isThing_4 : decode cX3_isThing 4 = .ok (.iload_n 1, 1) := by decide +kernel
theorem dX3_isThing_5 : decode cX3_isThing 5 = .ok (.aload_n 0, 1) := by decide +kernel
theorem dX3_isThing_6 : decode cX3_isThing 6 = .ok (.getfield 28, 3) := by decide +kernel
theorem dX3_isThing_9 : decode cX3_isThing 9 = .ok (.if_icmp .ge 7, 3) := by decide +kernel
theorem dX3_isThing_12 : decode cX3_isThing 12 = .ok (.iconst 1, 1) := by decide +kernel
theorem dX3_isThing_13 : decode cX3_isThing 13 = .ok (.goto 4, 3) := by decide +kernel
theorem dX3_isThing_16 : decode cX3_isThing 16 = .ok (.iconst 0, 1) := by decide +kernel
theorem dX3_isThing_17 : decode cX3_isThing 17 = .ok (.ireturn, 1) := by decide +kernel
set_option maxRecDepth 20000 in
theorem ggX3_setThings_J7_fill_53178 : GoodIn wsX3_setThings wsJ7_fill_53178 := goodIn_r _ [6] (by decide +kernel) (by decide +kernel)
set_option maxRecDepth 20000 in
theorem gX3_setThings_J7_fill_53178 : GoodIn wsX3_setThings (va_wsS RX3 32 yJ7_fill_53178 wsJ7_fill_53178) := goodIn_app (goodIn_of _ (by decide +kernel)) ggX3_setThings_J7_fill_53178
theorem dX3_setThings_0 : decode cX3_setThings 0 = .ok (.aload_n 0, 1) := by decide +kernel
theorem dX3_setThings_1 : decode cX3_setThings 1 = .ok (.getfield 28, 3) := by decide +kernel
theorem dX3_setThings_4 : decode cX3_setThings 4 = .ok (.istore_n 2, 1) := by decide +kernel
theorem dX3_setThings_5 : decode cX3_setThings 5 = .ok (.aload_n 0, 1) := by decide +kernel
theorem dX3_setThings_6 : decode cX3_setThings 6 = .ok (.iload_n 1, 1) := by decide +kernel
theorem dX3_setThings_7 : decode cX3_setThings 7 = .ok (.putfield 28, 3) := by decide +kernel
theorem dX3_setThings_10 : decode cX3_setThings 10 = .ok (.aload_n 0, 1) := by decide +kernel
theorem dX3_setThings_11 : decode cX3_setThings 11 = .ok (.getfield 9, 3) := by decide +kernel
theorem dX3_setThings_14 : decode cX3_setThings 14 = .ok (.iconst 1, 1) := by decide +kernel
theorem dX3_setThings_15 : decode cX3_setThings 15 = .ok (.invokestatic 32, 3) := by decide +kernel
theorem dX3_setThings_18 : decode cX3_setThings 18 = .ok (.iload_n 2, 1) := by decide +kernel
theorem dX3_setThings_19 : decode cX3_setThings 19 = .ok (.ireturn, 1) := by decide +kernel
theorem dX3_setWeight_0 : decode cX3_setWeight 0 = .ok (.aload_n 0, 1) := by decide +kernel
theorem dX3_setWeight_1 : decode cX3_setWeight 1 = .ok (.getfield 9, 3) := by decide +kernel
theorem dX3_setWeight_4 : decode cX3_setWeight 4 = .ok (.iload_n 1, 1) := by decide +kernel
theorem dX3_setWeight_5 : decode cX3_setWeight 5 = .ok (.iaload, 1) := by decide +kernel
theorem dX3_setWeight_6 : decode cX3_setWeight 6 = .ok (.istore_n 3, 1) := by decide +kernel
theorem dX3_setWeight_7 : decode cX3_setWeight 7 = .ok (.aload_n 0, 1) := by decide +kernel
theorem dX3_setWeight_8 : decode cX3_setWeight 8 = .ok (.getfield 9, 3) := by decide +kernel
theorem dX3_setWeight_11 : decode cX3_setWeight 11 = .ok (.iload_n 1, 1) := by decide +kernel
theorem dX3_setWeight_12 : decode cX3_setWeight 12 = .ok (.iload_n 2, 1) := by decide +kernel
theorem dX3_setWeight_13 : decode cX3_setWeight 13 = .ok (.iastore, 1) := by decide +kernel
theorem dX3_setWeight_14 : decode cX3_setWeight 14 = .ok (.iload_n 3, 1) := by decide +kernel
theorem dX3_setWeight_15 : decode cX3_setWeight 15 = .ok (.ireturn, 1) := by decide +kernel
theorem dX3_sum_0 : decode cX3_sum 0 = .ok (.iconst 0, 1) := by decide +kernel
theorem dX3_sum_1 : decode cX3_sum 1 = .ok (.istore_n 1, 1) := by decide +kernel
theorem dX3_sum_2 : decode cX3_sum 2 = .ok (.iconst 0, 1) := by decide +kernel
theorem dX3_sum_3 : decode cX3_sum 3 = .ok (.istore_n 2, 1) := by decide +kernel
theorem dX3_sum_4 : decode cX3_sum 4 = .ok (.iload_n 2, 1) := by decide +kernel
theorem dX3_sum_5 : decode cX3_sum 5 = .ok (.aload_n 0, 1) := by decide +kernel
theorem dX3_sum_6 : decode cX3_sum 6 = .ok (.getfield 28, 3) := by decide +kernel
theorem dX3_sum_9 : decode cX3_sum 9 = .ok (.if_icmp .ge 18, 3) := by decide +kernel
theorem dX3_sum_12 : decode cX3_sum 12 = .ok (.iload_n 1, 1) := by decide +kernel
theorem dX3_sum_13 : decode cX3_sum 13 = .ok (.aload_n 0, 1) := by decide +kernel
theorem dX3_sum_14 : decode cX3_sum 14 = .ok (.getfield 9, 3) := by decide +kernel
theorem dX3_sum_17 : decode cX3_sum 17 = .ok (.iload_n 2, 1) := by decide +kernel
theorem dX3_sum_18 : decode cX3_sum 18 = .ok (.iaload, 1) := by decide +kernel
theorem dX3_sum_19 : decode cX3_sum 19 = .ok (.iadd, 1) := by decide +kernel
theorem dX3_sum_20 : decode cX3_sum 20 = .ok (.istore_n 1, 1) := by decide +kernel
theorem dX3_sum_21 : decode cX3_sum 21 = .ok (.iinc 2 1, 3) := by decide +kernel
theorem dX3_sum_24 : decode cX3_sum 24 = .ok (.goto (-20), 3) := by decide +kernel
theorem dX3_sum_27 : decode cX3_sum 27 = .ok (.iload_n 1, 1) := by decide +kernel
theorem dX3_sum_28 : decode cX3_sum 28 = .ok (.ireturn, 1) := by decide +kernel
set_option maxRecDepth 20000 in
theorem ggX3_make_X3_firstUnder : GoodIn wsX3_make wsX3_firstUnder := goodIn_r _ [11, 1, 6, 2, 16, 17, 18, 19, 20, 21] (by decide +kernel) (by decide +kernel)
set_option maxRecDepth 20000 in
theorem gX3_make_X3_firstUnder : GoodIn wsX3_make (wsV RX3 38 RX3 yX3_firstUnder wsX3_firstUnder) := goodIn_app (goodIn_of _ (by decide +kernel)) ggX3_make_X3_firstUnder
set_option maxRecDepth 20000 in
theorem ggX3_make_X3_firstOver : GoodIn wsX3_make wsX3_firstOver := goodIn_r _ [15, 1, 6, 2, 16, 17, 18, 19, 20, 21] (by decide +kernel) (by decide +kernel)
set_option maxRecDepth 20000 in
theorem gX3_make_X3_firstOver : GoodIn wsX3_make (wsV RX3 42 RX3 yX3_firstOver wsX3_firstOver) := goodIn_app (goodIn_of _ (by decide +kernel)) ggX3_make_X3_firstOver
theorem dX3_make_0 : decode cX3_make 0 = .ok (.iconst 0, 1) := by decide +kernel
theorem dX3_make_1 : decode cX3_make 1 = .ok (.istore_n 2, 1) := by decide +kernel
theorem dX3_make_2 : decode cX3_make 2 = .ok (.iload_n 2, 1) := by decide +kernel
theorem dX3_make_3 : decode cX3_make 3 = .ok (.aload_n 0, 1) := by decide +kernel
theorem dX3_make_4 : decode cX3_make 4 = .ok (.getfield 28, 3) := by decide +kernel
theorem dX3_make_7 : decode cX3_make 7 = .ok (.if_icmp .ge 47, 3) := by decide +kernel
theorem dX3_make_10 : decode cX3_make 10 = .ok (.aload_n 0, 1) := by decide +kernel
theorem dX3_make_11 : decode cX3_make 11 = .ok (.getfield 15, 3) := by decide +kernel
theorem dX3_make_14 : decode cX3_make 14 = .ok (.iload_n 2, 1) := by decide +kernel
theorem dX3_make_15 : decode cX3_make 15 = .ok (.aload_n 0, 1) := by decide +kernel
theorem dX3_make_16 : decode cX3_make 16 = .ok (.getfield 28, 3) := by decide +kernel
theorem dX3_make_19 : decode cX3_make 19 = .ok (.aload_n 0, 1) := by decide +kernel
theorem dX3_make_20 : decode cX3_make 20 = .ok (.getfield 9, 3) := by decide +kernel
theorem dX3_make_23 : decode cX3_make 23 = .ok (.iload_n 2, 1) := by decide +kernel
theorem dX3_make_24 : decode cX3_make 24 = .ok (.iaload, 1) := by decide +kernel
theorem dX3_make_25 : decode cX3_make 25 = .ok (.imul, 1) := by decide +kernel
theorem dX3_make_26 : decode cX3_make 26 = .ok (.iastore, 1) := by decide +kernel
theorem dX3_make_27 : decode cX3_make 27 = .ok (.aload_n 0, 1) := by decide +kernel
theorem dX3_make_28 : decode cX3_make 28 = .ok (.getfield 18, 3) := by decide +kernel
theorem dX3_make_31 : decode cX3_make 31 = .ok (.iload_n 2, 1) := by decide +kernel
theorem dX3_make_32 : decode cX3_make 32 = .ok (.iload_n 1, 1) := by decide +kernel
theorem dX3_make_33 : decode cX3_make 33 = .ok (.iastore, 1) := by decide +kernel
theorem dX3_make_34 : decode cX3_make 34 = .ok (.aload_n 0, 1) := by decide +kernel
theorem dX3_make_35 : decode cX3_make 35 = .ok (.getfield 21, 3) := by decide +kernel
theorem dX3_make_38 : decode cX3_make 38 = .ok (.iload_n 2, 1) := by decide +kernel
theorem dX3_make_39 : decode cX3_make 39 = .ok (.iload_n 2, 1) := by decide +kernel
theorem dX3_make_40 : decode cX3_make 40 = .ok (.iastore, 1) := by decide +kernel
theorem dX3_make_41 : decode cX3_make 41 = .ok (.aload_n 0, 1) := by decide +kernel
theorem dX3_make_42 : decode cX3_make 42 = .ok (.getfield 24, 3) := by decide +kernel
theorem dX3_make_45 : decode cX3_make 45 = .ok (.iload_n 2, 1) := by decide +kernel
theorem dX3_make_46 : decode cX3_make 46 = .ok (.iconst 0, 1) := by decide +kernel
theorem dX3_make_47 : decode cX3_make 47 = .ok (.bastore, 1) := by decide +kernel
theorem dX3_make_48 : decode cX3_make 48 = .ok (.iinc 2 1, 3) := by decide +kernel
theorem dX3_make_51 : decode cX3_make 51 = .ok (.goto (-49), 3) := by decide +kernel
theorem dX3_make_54 : decode cX3_make 54 = .ok (.iconst 0, 1) := by decide +kernel
theorem dX3_make_55 : decode cX3_make 55 = .ok (.istore_n 2, 1) := by decide +kernel
theorem dX3_make_56 : decode cX3_make 56 = .ok (.iload_n 2, 1) := by decide +kernel
theorem dX3_make_57 : decode cX3_make 57 = .ok (.aload_n 0, 1) := by decide +kernel
theorem dX3_make_58 : decode cX3_make 58 = .ok (.getfield 28, 3) := by decide +kernel
theorem dX3_make_61 : decode cX3_make 61 = .ok (.if_icmp .ge 81, 3) := by decide +kernel
theorem dX3_make_64 : decode cX3_make 64 = .ok (.aload_n 0, 1) := by decide +kernel
theorem dX3_make_65 : decode cX3_make 65 = .ok (.iload_n 1, 1) := by decide +kernel
theorem dX3_make_66 : decode cX3_make 66 = .ok (.invokevirtual 38, 3) := by decide +kernel
theorem dX3_make_69 : decode cX3_make 69 = .ok (.istore_n 3, 1) := by decide +kernel
theorem dX3_make_70 : decode cX3_make 70 = .ok (.aload_n 0, 1) := by decide +kernel
theorem dX3_make_71 : decode cX3_make 71 = .ok (.iload_n 1, 1) := by decide +kernel
theorem dX3_make_72 : decode cX3_make 72 = .ok (.invokevirtual 42, 3) := by decide +kernel
theorem dX3_make_75 : decode cX3_make 75 = .ok (.istore 4, 2) := by decide +kernel
theorem dX3_make_77 : decode cX3_make 77 = .ok (.iload_n 3, 1) := by decide +kernel
theorem dX3_make_78 : decode cX3_make 78 = .ok (.bipush (-2), 2) := by decide +kernel
theorem dX3_make_80 : decode cX3_make 80 = .ok (.if_icmp .eq 10, 3) := by decide +kernel
theorem dX3_make_83 : decode cX3_make 83 = .ok (.iload 4, 2) := by decide +kernel
theorem dX3_make_85 : decode cX3_make 85 = .ok (.bipush (-2), 2) := by decide +kernel
theorem dX3_make_87 : decode cX3_make 87 = .ok (.if_icmp .ne 4, 3) := by decide +kernel
theorem dX3_make_90 : decode cX3_make 90 = .ok (.return_, 1) := by decide +kernel
theorem dX3_make_91 : decode cX3_make 91 = .ok (.aload_n 0, 1) := by decide +kernel
theorem dX3_make_92 : decode cX3_make 92 = .ok (.getfield 18, 3) := by decide +kernel
theorem dX3_make_95 : decode cX3_make 95 = .ok (.iload_n 3, 1) := by decide +kernel
theorem dX3_make_96 : decode cX3_make 96 = .ok (.aload_n 0, 1) := by decide +kernel
theorem dX3_make_97 : decode cX3_make 97 = .ok (.getfield 15, 3) := by decide +kernel
theorem dX3_make_100 : decode cX3_make 100 = .ok (.iload_n 3, 1) := by decide +kernel
theorem dX3_make_101 : decode cX3_make 101 = .ok (.iaload, 1) := by decide +kernel
theorem dX3_make_102 : decode cX3_make 102 = .ok (.iastore, 1) := by decide +kernel
theorem dX3_make_103 : decode cX3_make 103 = .ok (.aload_n 0, 1) := by decide +kernel
theorem dX3_make_104 : decode cX3_make 104 = .ok (.getfield 21, 3) := by decide +kernel
theorem dX3_make_107 : decode cX3_make 107 = .ok (.iload_n 3, 1) := by decide +kernel
theorem dX3_make_108 : decode cX3_make 108 = .ok (.iload 4, 2) := by decide +kernel
theorem dX3_make_110 : decode cX3_make 110 = .ok (.iastore, 1) := by decide +kernel
theorem dX3_make_111 : decode cX3_make 111 = .ok (.aload_n 0, 1) := by decide +kernel
theorem dX3_make_112 : decode cX3_make 112 = .ok (.getfield 24, 3) := by decide +kernel
theorem dX3_make_115 : decode cX3_make 115 = .ok (.iload_n 3, 1) := by decide +kernel
theorem dX3_make_116 : decode cX3_make 116 = .ok (.iconst 1, 1) := by decide +kernel
theorem dX3_make_117 : decode cX3_make 117 = .ok (.bastore, 1) := by decide +kernel
theorem dX3_make_118 : decode cX3_make 118 = .ok (.aload_n 0, 1) := by decide +kernel
theorem dX3_make_119 : decode cX3_make 119 = .ok (.getfield 15, 3) := by decide +kernel
theorem dX3_make_122 : decode cX3_make 122 = .ok (.iload 4, 2) := by decide +kernel
theorem dX3_make_124 : decode cX3_make 124 = .ok (.dup2, 1) := by decide +kernel
theorem dX3_make_125 : decode cX3_make 125 = .ok (.iaload, 1) := by decide +kernel
theorem dX3_make_126 : decode cX3_make 126 = .ok (.iload_n 1, 1) := by decide +kernel
theorem dX3_make_127 : decode cX3_make 127 = .ok (.aload_n 0, 1) := by decide +kernel
theorem dX3_make_128 : decode cX3_make 128 = .ok (.getfield 18, 3) := by decide +kernel
theorem dX3_make_131 : decode cX3_make 131 = .ok (.iload_n 3, 1) := by decide +kernel
theorem dX3_make_132 : decode cX3_make 132 = .ok (.iaload, 1) := by decide +kernel
theorem dX3_make_133 : decode cX3_make 133 = .ok (.isub, 1) := by decide +kernel
theorem dX3_make_134 : decode cX3_make 134 = .ok (.isub, 1) := by decide +kernel
theorem dX3_make_135 : decode cX3_make 135 = .ok (.iastore, 1) := by decide +kernel
theorem dX3_make_136 : decode cX3_make 136 = .ok (.iinc 2 1, 3) := by decide +kernel
theorem dX3_make_139 : decode cX3_make 139 = .ok (.goto (-83), 3) := by decide +kernel
theorem dX3_make_142 : decode cX3_make 142 = .ok (.return_, 1) := by decide +kernel
theorem dX3_firstUnder_0 : decode cX3_firstUnder 0 = .ok (.iconst 0, 1) := by decide +kernel
theorem dX3_firstUnder_1 : decode cX3_firstUnder 1 = .ok (.istore_n 2, 1) := by decide +kernel
theorem dX3_firstUnder_2 : decode cX3_firstUnder 2 = .ok (.iload_n 2, 1) := by decide +kernel
theorem dX3_firstUnder_3 : decode cX3_firstUnder 3 = .ok (.aload_n 0, 1) := by decide +kernel
theorem dX3_firstUnder_4 : decode cX3_firstUnder 4 = .ok (.getfield 28, 3) := by decide +kernel
theorem dX3_firstUnder_7 : decode cX3_firstUnder 7 = .ok (.if_icmp .ge 30, 3) := by decide +kernel
theorem dX3_firstUnder_10 : decode cX3_firstUnder 10 = .ok (.aload_n 0, 1) := by decide +kernel
theorem dX3_firstUnder_11 : decode cX3_firstUnder 11 = .ok (.getfield 24, 3) := by decide +kernel
theorem dX3_firstUnder_14 : decode cX3_firstUnder 14 = .ok (.iload_n 2, 1) := by decide +kernel
theorem dX3_firstUnder_15 : decode cX3_firstUnder 15 = .ok (.baload, 1) := by decide +kernel
theorem dX3_firstUnder_16 : decode cX3_firstUnder 16 = .ok (.ifCond .ne 15, 3) := by decide +kernel
theorem dX3_firstUnder_19 : decode cX3_firstUnder 19 = .ok (.aload_n 0, 1) := by decide +kernel
theorem dX3_firstUnder_20 : decode cX3_firstUnder 20 = .ok (.getfield 15, 3) := by decide +kernel
theorem dX3_firstUnder_23 : decode cX3_firstUnder 23 = .ok (.iload_n 2, 1) := by decide +kernel
theorem dX3_firstUnder_24 : decode cX3_firstUnder 24 = .ok (.iaload, 1) := by decide +kernel
theorem dX3_firstUnder_25 : decode cX3_firstUnder 25 = .ok (.iload_n 1, 1) := by decide +kernel
theorem dX3_firstUnder_26 : decode cX3_firstUnder 26 = .ok (.if_icmp .ge 5, 3) := by decide +kernel
theorem dX3_firstUnder_29 : decode cX3_firstUnder 29 = .ok (.iload_n 2, 1) := by decide +kernel
theorem dX3_firstUnder_30 : decode cX3_firstUnder 30 = .ok (.ireturn, 1) := by decide +kernel
theorem dX3_firstUnder_31 : decode cX3_firstUnder 31 = .ok (.iinc 2 1, 3) := by decide +kernel
theorem dX3_firstUnder_34 : decode cX3_firstUnder 34 = .ok (.goto (-32), 3) := by decide +kernel
theorem dX3_firstUnder_37 : decode cX3_firstUnder 37 = .ok (.bipush (-2), 2) := by decide +kernel
theorem dX3_firstUnder_39 : decode cX3_firstUnder 39 = .ok (.ireturn, 1) := by decide +kernel
theorem dX3_firstOver_0 : decode cX3_firstOver 0 = .ok (.iconst 0, 1) := by decide +kernel
theorem dX3_firstOver_1 : decode cX3_firstOver 1 = .ok (.istore_n 2, 1) := by decide +kernel
theorem dX3_firstOver_2 : decode cX3_firstOver 2 = .ok (.iload_n 2, 1) := by decide +kernel
theorem dX3_firstOver_3 : decode cX3_firstOver 3 = .ok (.aload_n 0, 1) := by decide +kernel
theorem dX3_firstOver_4 : decode cX3_firstOver 4 = .ok (.getfield 28, 3) := by decide +kernel
theorem dX3_firstOver_7 : decode cX3_firstOver 7 = .ok (.if_icmp .ge 30, 3) := by decide +kernel
theorem dX3_firstOver_10 : decode cX3_firstOver 10 = .ok (.aload_n 0, 1) := by decide +kernel
theorem dX3_firstOver_11 : decode cX3_firstOver 11 = .ok (.getfield 24, 3) := by decide +kernel
theorem dX3_firstOver_14 : decode cX3_firstOver 14 = .ok (.iload_n 2, 1) := by decide +kernel
theorem dX3_firstOver_15 : decode cX3_firstOver 15 = .ok (.baload, 1) := by decide +kernel
theorem dX3_firstOver_16 : decode cX3_firstOver 16 = .ok (.ifCond .ne 15, 3) := by decide +kernel
theorem dX3_firstOver_19 : decode cX3_firstOver 19 = .ok (.aload_n 0, 1) := by decide +kernel
theorem dX3_firstOver_20 : decode cX3_firstOver 20 = .ok (.getfield 15, 3) := by decide +kernel
theorem dX3_firstOver_23 : decode cX3_firstOver 23 = .ok (.iload_n 2, 1) := by decide +kernel
theorem dX3_firstOver_24 : decode cX3_firstOver 24 = .ok (.iaload, 1) := by decide +kernel
theorem dX3_firstOver_25 : decode cX3_firstOver 25 = .ok (.iload_n 1, 1) := by decide +kernel
theorem dX3_firstOver_26 : decode cX3_firstOver 26 = .ok (.if_icmp .le 5, 3) := by decide +kernel
theorem dX3_firstOver_29 : decode cX3_firstOver 29 = .ok (.iload_n 2, 1) := by decide +kernel
theorem dX3_firstOver_30 : decode cX3_firstOver 30 = .ok (.ireturn, 1) := by decide +kernel
theorem dX3_firstOver_31 : decode cX3_firstOver 31 = .ok (.iinc 2 1, 3) := by decide +kernel
theorem dX3_firstOver_34 : decode cX3_firstOver 34 = .ok (.goto (-32), 3) := by decide +kernel
theorem dX3_firstOver_37 : decode cX3_firstOver 37 = .ok (.bipush (-2), 2) := by decide +kernel
theorem dX3_firstOver_39 : decode cX3_firstOver 39 = .ok (.ireturn, 1) := by decide +kernel
theorem dX3_limitOf_0 : decode cX3_limitOf 0 = .ok (.aload_n 0, 1) := by decide +kernel
theorem dX3_limitOf_1 : decode cX3_limitOf 1 = .ok (.getfield 18, 3) := by decide +kernel
theorem dX3_limitOf_4 : decode cX3_limitOf 4 = .ok (.iload_n 1, 1) := by decide +kernel
theorem dX3_limitOf_5 : decode cX3_limitOf 5 = .ok (.iaload, 1) := by decide +kernel
theorem dX3_limitOf_6 : decode cX3_limitOf 6 = .ok (.ireturn, 1) := by decide +kernel
theorem dX3_otherOf_0 : decode cX3_otherOf 0 = .ok (.aload_n 0, 1) := by decide +kernel
theorem dX3_otherOf_1 : decode cX3_otherOf 1 = .ok (.getfield 21, 3) := by decide +kernel
theorem dX3_otherOf_4 : decode cX3_otherOf 4 = .ok (.iload_n 1, 1) := by decide +kernel
theorem dX3_otherOf_5 : decode cX3_otherOf 5 = .ok (.iaload, 1) := by decide +kernel
theorem dX3_otherOf_6 : decode cX3_otherOf 6 = .ok (.ireturn, 1) := by decide +kernel
theorem dX3_thingAt_0 : decode cX3_thingAt 0 = .ok (.iload_n 2, 1) := by decide +kernel
theorem dX3_thingAt_1 : decode cX3_thingAt 1 = .ok (.aload_n 0, 1) := by decide +kernel
theorem dX3_thingAt_2 : decode cX3_thingAt 2 = .ok (.getfield 18, 3) := by decide +kernel
theorem dX3_thingAt_5 : decode cX3_thingAt 5 = .ok (.iload_n 1, 1) := by decide +kernel
theorem dX3_thingAt_6 : decode cX3_thingAt 6 = .ok (.iaload, 1) := by decide +kernel
theorem dX3_thingAt_7 : decode cX3_thingAt 7 = .ok (.if_icmp .ge 7, 3) := by decide +kernel
theorem dX3_thingAt_10 : decode cX3_thingAt 10 = .ok (.iload_n 1, 1) := by decide +kernel
theorem dX3_thingAt_11 : decode cX3_thingAt 11 = .ok (.goto 9, 3) := by decide +kernel
theorem dX3_thingAt_14 : decode cX3_thingAt 14 = .ok (.aload_n 0, 1) := by decide +kernel
theorem dX3_thingAt_15 : decode cX3_thingAt 15 = .ok (.getfield 21, 3) := by decide +kernel
theorem dX3_thingAt_18 : decode cX3_thingAt 18 = .ok (.iload_n 1, 1) := by decide +kernel
theorem dX3_thingAt_19 : decode cX3_thingAt 19 = .ok (.iaload, 1) := by decide +kernel
theorem dX3_thingAt_20 : decode cX3_thingAt 20 = .ok (.ireturn, 1) := by decide +kernel
set_option maxRecDepth 20000 in
theorem ggX4_init_X0_init : GoodIn wsX4_init wsX0_init := goodIn_r _ [30, 31, 2, 3, 32, 33, 34, 35, 36, 37, 38, 39, 40, 41, 42, 81, 82, 83, 84, 85, 86, 87] (by decide +kernel) (by decide +kernel)
set_option maxRecDepth 20000 in
theorem gX4_init_X0_init : GoodIn wsX4_init (wsX0_init) := ggX4_init_X0_init
set_option maxRecDepth 20000 in
theorem ggX4_init_X1_init : GoodIn wsX4_init wsX1_init := goodIn_r _ [45, 46, 2, 3, 47, 48, 34, 49, 50, 51, 52, 41, 53, 54, 55, 56, 57, 88, 89, 90, 91] (by decide +kernel) (by decide +kernel)
set_option maxRecDepth 20000 in
theorem gX4_init_X1_init : GoodIn wsX4_init (wsX1_init) := ggX4_init_X1_init
set_option maxRecDepth 20000 in
theorem ggX4_init_X2_init : GoodIn wsX4_init wsX2_init := goodIn_r _ [60, 61, 2, 3, 34, 62, 63, 64, 55, 56, 57, 92, 93] (by decide +kernel) (by decide +kernel)
set_option maxRecDepth 20000 in
theorem gX4_init_X2_init : GoodIn wsX4_init (wsX2_init) := ggX4_init_X2_init
set_option maxRecDepth 20000 in
theorem ggX4_init_X3_init : GoodIn wsX4_init wsX3_init := goodIn_r _ [67, 68, 2, 3, 34, 69, 70, 71, 72, 50, 73, 74, 75, 55, 56, 57, 94, 95, 96, 97, 98, 99] (by decide +kernel) (by decide +kernel)
set_option maxRecDepth 20000 in
theorem gX4_init_X3_init : GoodIn wsX4_init (wsX3_init) := ggX4_init_X3_init
theorem dX4_init_0 : decode cX4_init 0 = .ok (.aload_n 0, 1) := by decide +kernel
theorem dX4_init_1 : decode cX4_init 1 = .ok (.invokespecial 1, 3) := by decide +kernel
theorem dX4_init_4 : decode cX4_init 4 = .ok (.aload_n 0, 1) := by decide +kernel
theorem dX4_init_5 : decode cX4_init 5 = .ok (.iconst 1, 1) := by decide +kernel
theorem dX4_init_6 : decode cX4_init 6 = .ok (.bipush 12, 2) := by decide +kernel
theorem dX4_init_8 : decode cX4_init 8 = .ok (.iload_n 1, 1) := by decide +kernel
theorem dX4_init_9 : decode cX4_init 9 = .ok (.invokestatic 9, 3) := by decide +kernel
theorem dX4_init_12 : decode cX4_init 12 = .ok (.invokestatic 15, 3) := by decide +kernel
theorem dX4_init_15 : decode cX4_init 15 = .ok (.putfield 18, 3) := by decide +kernel
theorem dX4_init_18 : decode cX4_init 18 = .ok (.aload_n 0, 1) := by decide +kernel
theorem dX4_init_19 : decode cX4_init 19 = .ok (.new 22, 3) := by decide +kernel
theorem dX4_init_22 : decode cX4_init 22 = .ok (.dup, 1) := by decide +kernel
theorem dX4_init_23 : decode cX4_init 23 = .ok (.aload_n 0, 1) := by decide +kernel
theorem dX4_init_24 : decode cX4_init 24 = .ok (.getfield 18, 3) := by decide +kernel
theorem dX4_init_27 : decode cX4_init 27 = .ok (.invokespecial 24, 3) := by decide +kernel
theorem dX4_init_30 : decode cX4_init 30 = .ok (.putfield 27, 3) := by decide +kernel
theorem dX4_init_33 : decode cX4_init 33 = .ok (.aload_n 0, 1) := by decide +kernel
theorem dX4_init_34 : decode cX4_init 34 = .ok (.new 31, 3) := by decide +kernel
theorem dX4_init_37 : decode cX4_init 37 = .ok (.dup, 1) := by decide +kernel
theorem dX4_init_38 : decode cX4_init 38 = .ok (.aload_n 0, 1) := by decide +kernel
theorem dX4_init_39 : decode cX4_init 39 = .ok (.getfield 18, 3) := by decide +kernel
theorem dX4_init_42 : decode cX4_init 42 = .ok (.invokespecial 33, 3) := by decide +kernel
theorem dX4_init_45 : decode cX4_init 45 = .ok (.putfield 34, 3) := by decide +kernel
theorem dX4_init_48 : decode cX4_init 48 = .ok (.aload_n 0, 1) := by decide +kernel
theorem dX4_init_49 : decode cX4_init 49 = .ok (.new 38, 3) := by decide +kernel
theorem dX4_init_52 : decode cX4_init 52 = .ok (.dup, 1) := by decide +kernel
theorem dX4_init_53 : decode cX4_init 53 = .ok (.invokespecial 40, 3) := by decide +kernel
theorem dX4_init_56 : decode cX4_init 56 = .ok (.putfield 41, 3) := by decide +kernel
theorem dX4_init_59 : decode cX4_init 59 = .ok (.aload_n 0, 1) := by decide +kernel
theorem dX4_init_60 : decode cX4_init 60 = .ok (.new 45, 3) := by decide +kernel
theorem dX4_init_63 : decode cX4_init 63 = .ok (.dup, 1) := by decide +kernel
theorem dX4_init_64 : decode cX4_init 64 = .ok (.invokespecial 47, 3) := by decide +kernel
theorem dX4_init_67 : decode cX4_init 67 = .ok (.putfield 48, 3) := by decide +kernel
theorem dX4_init_70 : decode cX4_init 70 = .ok (.return_, 1) := by decide +kernel
set_option maxRecDepth 20000 in
theorem ggX4_hash_X4_mixed : GoodIn wsX4_hash wsX4_mixed := goodIn_r _ [4, 5, 6, 7] (by decide +kernel) (by decide +kernel)
set_option maxRecDepth 20000 in
theorem gX4_hash_X4_mixed : GoodIn wsX4_hash (va_wsS RX4 52 yX4_mixed wsX4_mixed) := goodIn_app (goodIn_of _ (by decide +kernel)) ggX4_hash_X4_mixed
theorem dX4_hash_0 : decode cX4_hash 0 = .ok (.iload_n 1, 1) := by decide +kernel
theorem dX4_hash_1 : decode cX4_hash 1 = .ok (.iload_n 2, 1) := by decide +kernel
theorem dX4_hash_2 : decode cX4_hash 2 = .ok (.invokestatic 52, 3) := by decide +kernel
theorem dX4_hash_5 : decode cX4_hash 5 = .ok (.ireturn, 1) := by decide +kernel
set_option maxRecDepth 20000 in
theorem ggX4_pick_X4_isBound : GoodIn wsX4_pick wsX4_isBound := goodIn_r _ [5, 6] (by decide +kernel) (by decide +kernel)
set_option maxRecDepth 20000 in
theorem gX4_pick_X4_isBound : GoodIn wsX4_pick (va_wsS RX4 55 yX4_isBound wsX4_isBound) := goodIn_app (goodIn_of _ (by decide +kernel)) ggX4_pick_X4_isBound
set_option maxRecDepth 20000 in
theorem ggX4_pick_X4_bitsFor : GoodIn wsX4_pick wsX4_bitsFor := goodIn_r _ [9] (by decide +kernel) (by decide +kernel)
set_option maxRecDepth 20000 in
theorem gX4_pick_X4_bitsFor : GoodIn wsX4_pick (va_wsS RX4 61 yX4_bitsFor wsX4_bitsFor) := goodIn_app (goodIn_of _ (by decide +kernel)) ggX4_pick_X4_bitsFor
set_option maxRecDepth 20000 in
theorem ggX4_pick_X4_firstBelow : GoodIn wsX4_pick wsX4_firstBelow := goodIn_r _ [12, 13, 14, 15, 4, 16, 17, 18, 19, 20, 21, 22, 23] (by decide +kernel) (by decide +kernel)
set_option maxRecDepth 20000 in
theorem gX4_pick_X4_firstBelow : GoodIn wsX4_pick (va_wsS RX4 65 yX4_firstBelow wsX4_firstBelow) := goodIn_app (goodIn_of _ (by decide +kernel)) ggX4_pick_X4_firstBelow
set_option maxRecDepth 20000 in
theorem ggX4_pick_X4_topBits : GoodIn wsX4_pick wsX4_topBits := goodIn_r _ [16, 17, 18, 19, 4, 20, 21, 22, 23] (by decide +kernel) (by decide +kernel)
set_option maxRecDepth 20000 in
theorem gX4_pick_X4_topBits : GoodIn wsX4_pick (va_wsS RX4 69 yX4_topBits wsX4_topBits) := goodIn_app (goodIn_of _ (by decide +kernel)) ggX4_pick_X4_topBits
theorem dX4_pick_0 : decode cX4_pick 0 = .ok (.lload_n 2, 1) := by decide +kernel
theorem dX4_pick_1 : decode cX4_pick 1 = .ok (.invokestatic 55, 3) := by decide +kernel
theorem dX4_pick_4 : decode cX4_pick 4 = .ok (.ifCond .ne 7, 3) := by decide +kernel
theorem dX4_pick_7 : decode cX4_pick 7 = .ok (.ldc2_w 59, 3) := by decide +kernel
theorem dX4_pick_10 : decode cX4_pick 10 = .ok (.lreturn, 1) := by decide +kernel
theorem dX4_pick_11 : decode cX4_pick 11 = .ok (.lload_n 2, 1) := by decide +kernel
theorem dX4_pick_12 : decode cX4_pick 12 = .ok (.invokestatic 61, 3) := by decide +kernel
theorem dX4_pick_15 : decode cX4_pick 15 = .ok (.istore 4, 2) := by decide +kernel
theorem dX4_pick_17 : decode cX4_pick 17 = .ok (.iload_n 1, 1) := by decide +kernel
theorem dX4_pick_18 : decode cX4_pick 18 = .ok (.iload_n 1, 1) := by decide +kernel
theorem dX4_pick_19 : decode cX4_pick 19 = .ok (.lload_n 2, 1) := by decide +kernel
theorem dX4_pick_20 : decode cX4_pick 20 = .ok (.iload 4, 2) := by decide +kernel
theorem dX4_pick_22 : decode cX4_pick 22 = .ok (.invokestatic 65, 3) := by decide +kernel
theorem dX4_pick_25 : decode cX4_pick 25 = .ok (.iload 4, 2) := by decide +kernel
theorem dX4_pick_27 : decode cX4_pick 27 = .ok (.invokestatic 69, 3) := by decide +kernel
theorem dX4_pick_30 : decode cX4_pick 30 = .ok (.lreturn, 1) := by decide +kernel
set_option maxRecDepth 20000 in
theorem ggX4_tries_X4_isBound : GoodIn wsX4_tries wsX4_isBound := goodIn_r _ [4, 5] (by decide +kernel) (by decide +kernel)
set_option maxRecDepth 20000 in
theorem gX4_tries_X4_isBound : GoodIn wsX4_tries (va_wsS RX4 55 yX4_isBound wsX4_isBound) := goodIn_app (goodIn_of _ (by decide +kernel)) ggX4_tries_X4_isBound
set_option maxRecDepth 20000 in
theorem ggX4_tries_X4_bitsFor : GoodIn wsX4_tries wsX4_bitsFor := goodIn_r _ [8] (by decide +kernel) (by decide +kernel)
set_option maxRecDepth 20000 in
theorem gX4_tries_X4_bitsFor : GoodIn wsX4_tries (va_wsS RX4 61 yX4_bitsFor wsX4_bitsFor) := goodIn_app (goodIn_of _ (by decide +kernel)) ggX4_tries_X4_bitsFor
set_option maxRecDepth 20000 in
theorem ggX4_tries_X4_firstBelow : GoodIn wsX4_tries wsX4_firstBelow := goodIn_r _ [11, 12, 13, 14, 3, 15, 16, 17, 18, 19, 20, 21, 22] (by decide +kernel) (by decide +kernel)
set_option maxRecDepth 20000 in
theorem gX4_tries_X4_firstBelow : GoodIn wsX4_tries (va_wsS RX4 65 yX4_firstBelow wsX4_firstBelow) := goodIn_app (goodIn_of _ (by decide +kernel)) ggX4_tries_X4_firstBelow
theorem dX4_tries_0 : decode cX4_tries 0 = .ok (.lload_n 2, 1) := by decide +kernel
theorem dX4_tries_1 : decode cX4_tries 1 = .ok (.invokestatic 55, 3) := by decide +kernel
theorem dX4_tries_4 : decode cX4_tries 4 = .ok (.ifCond .ne 5, 3) := by decide +kernel
theorem dX4_tries_7 : decode cX4_tries 7 = .ok (.iconst (-1), 1) := by decide +kernel
theorem dX4_tries_8 : decode cX4_tries 8 = .ok (.ireturn, 1) := by decide +kernel
theorem dX4_tries_9 : decode cX4_tries 9 = .ok (.iload_n 1, 1) := by decide +kernel
theorem dX4_tries_10 : decode cX4_tries 10 = .ok (.lload_n 2, 1) := by decide +kernel
theorem dX4_tries_11 : decode cX4_tries 11 = .ok (.lload_n 2, 1) := by decide +kernel
theorem dX4_tries_12 : decode cX4_tries 12 = .ok (.invokestatic 61, 3) := by decide +kernel
theorem dX4_tries_15 : decode cX4_tries 15 = .ok (.invokestatic 65, 3) := by decide +kernel
theorem dX4_tries_18 : decode cX4_tries 18 = .ok (.iconst 1, 1) := by decide +kernel
theorem dX4_tries_19 : decode cX4_tries 19 = .ok (.iadd, 1) := by decide +kernel
theorem dX4_tries_20 : decode cX4_tries 20 = .ok (.ireturn, 1) := by decide +kernel
set_option maxRecDepth 20000 in
theorem ggX4_rule_X4_isState : GoodIn wsX4_rule wsX4_isState := goodIn_r _ [6, 7, 17, 18, 19, 20, 21] (by decide +kernel) (by decide +kernel)
set_option maxRecDepth 20000 in
theorem gX4_rule_X4_isState : GoodIn wsX4_rule (wsV RX4 73 RX4 yX4_isState wsX4_isState) := goodIn_app (goodIn_of _ (by decide +kernel)) ggX4_rule_X4_isState
set_option maxRecDepth 20000 in
theorem ggX4_rule_X4_isWithin : GoodIn wsX4_rule wsX4_isWithin := goodIn_r _ [10] (by decide +kernel) (by decide +kernel)
set_option maxRecDepth 20000 in
theorem gX4_rule_X4_isWithin : GoodIn wsX4_rule (va_wsS RX4 77 yX4_isWithin wsX4_isWithin) := goodIn_app (goodIn_of _ (by decide +kernel)) ggX4_rule_X4_isWithin
set_option maxRecDepth 20000 in
theorem ggX4_rule_X0_setStep : GoodIn wsX4_rule wsX0_setStep := goodIn_r _ [15, 16, 22, 23, 24, 25, 26, 27, 28] (by decide +kernel) (by decide +kernel)
set_option maxRecDepth 20000 in
theorem gX4_rule_X0_setStep : GoodIn wsX4_rule (wsV RX4 81 RX0 yX0_setStep wsX0_setStep) := goodIn_app (goodIn_of _ (by decide +kernel)) ggX4_rule_X0_setStep
theorem dX4_rule_0 : decode cX4_rule 0 = .ok (.aload_n 0, 1) := by decide +kernel
theorem dX4_rule_1 : decode cX4_rule 1 = .ok (.iload_n 1, 1) := by decide +kernel
theorem dX4_rule_2 : decode cX4_rule 2 = .ok (.invokevirtual 73, 3) := by decide +kernel
theorem dX4_rule_5 : decode cX4_rule 5 = .ok (.ifCond .eq 21, 3) := by decide +kernel
theorem dX4_rule_8 : decode cX4_rule 8 = .ok (.iload_n 2, 1) := by decide +kernel
theorem dX4_rule_9 : decode cX4_rule 9 = .ok (.iconst 0, 1) := by decide +kernel
theorem dX4_rule_10 : decode cX4_rule 10 = .ok (.bipush 7, 2) := by decide +kernel
theorem dX4_rule_12 : decode cX4_rule 12 = .ok (.invokestatic 77, 3) := by decide +kernel
theorem dX4_rule_15 : decode cX4_rule 15 = .ok (.ifCond .eq 11, 3) := by decide +kernel
theorem dX4_rule_18 : decode cX4_rule 18 = .ok (.aload_n 0, 1) := by decide +kernel
theorem dX4_rule_19 : decode cX4_rule 19 = .ok (.iload_n 3, 1) := by decide +kernel
theorem dX4_rule_20 : decode cX4_rule 20 = .ok (.invokevirtual 73, 3) := by decide +kernel
theorem dX4_rule_23 : decode cX4_rule 23 = .ok (.ifCond .ne 5, 3) := by decide +kernel
theorem dX4_rule_26 : decode cX4_rule 26 = .ok (.iconst (-1), 1) := by decide +kernel
theorem dX4_rule_27 : decode cX4_rule 27 = .ok (.ireturn, 1) := by decide +kernel
theorem dX4_rule_28 : decode cX4_rule 28 = .ok (.aload_n 0, 1) := by decide +kernel
theorem dX4_rule_29 : decode cX4_rule 29 = .ok (.getfield 27, 3) := by decide +kernel
theorem dX4_rule_32 : decode cX4_rule 32 = .ok (.iload_n 1, 1) := by decide +kernel
theorem dX4_rule_33 : decode cX4_rule 33 = .ok (.iload_n 2, 1) := by decide +kernel
theorem dX4_rule_34 : decode cX4_rule 34 = .ok (.iload_n 3, 1) := by decide +kernel
theorem dX4_rule_35 : decode cX4_rule 35 = .ok (.invokevirtual 81, 3) := by decide +kernel
theorem dX4_rule_38 : decode cX4_rule 38 = .ok (.ireturn, 1) := by decide +kernel
set_option maxRecDepth 20000 in
theorem ggX4_taken_X4_isWithin : GoodIn wsX4_taken wsX4_isWithin := goodIn_r _ [5] (by decide +kernel) (by decide +kernel)
set_option maxRecDepth 20000 in
theorem gX4_taken_X4_isWithin : GoodIn wsX4_taken (va_wsS RX4 77 yX4_isWithin wsX4_isWithin) := goodIn_app (goodIn_of _ (by decide +kernel)) ggX4_taken_X4_isWithin
set_option maxRecDepth 20000 in
theorem ggX4_taken_X4_isState : GoodIn wsX4_taken wsX4_isState := goodIn_r _ [9, 10, 25, 26, 27, 28, 29] (by decide +kernel) (by decide +kernel)
set_option maxRecDepth 20000 in
theorem gX4_taken_X4_isState : GoodIn wsX4_taken (wsV RX4 73 RX4 yX4_isState wsX4_isState) := goodIn_app (goodIn_of _ (by decide +kernel)) ggX4_taken_X4_isState
set_option maxRecDepth 20000 in
theorem ggX4_taken_X0_throughPast : GoodIn wsX4_taken wsX0_throughPast := goodIn_r _ [15, 16, 17, 4, 18, 19, 20, 21, 22, 23, 24, 30, 31, 32, 33, 34, 35, 36] (by decide +kernel) (by decide +kernel)
set_option maxRecDepth 20000 in
theorem gX4_taken_X0_throughPast : GoodIn wsX4_taken (wsV RX4 85 RX0 yX0_throughPast wsX0_throughPast) := goodIn_app (goodIn_of _ (by decide +kernel)) ggX4_taken_X0_throughPast
theorem dX4_taken_0 : decode cX4_taken 0 = .ok (.iload_n 2, 1) := by decide +kernel
theorem dX4_taken_1 : decode cX4_taken 1 = .ok (.iconst 1, 1) := by decide +kernel
theorem dX4_taken_2 : decode cX4_taken 2 = .ok (.sipush 4096, 3) := by decide +kernel
theorem dX4_taken_5 : decode cX4_taken 5 = .ok (.invokestatic 77, 3) := by decide +kernel
theorem dX4_taken_8 : decode cX4_taken 8 = .ok (.ifCond .eq 11, 3) := by decide +kernel
theorem dX4_taken_11 : decode cX4_taken 11 = .ok (.aload_n 0, 1) := by decide +kernel
theorem dX4_taken_12 : decode cX4_taken 12 = .ok (.iload_n 3, 1) := by decide +kernel
theorem dX4_taken_13 : decode cX4_taken 13 = .ok (.invokevirtual 73, 3) := by decide +kernel
theorem dX4_taken_16 : decode cX4_taken 16 = .ok (.ifCond .ne 5, 3) := by decide +kernel
theorem dX4_taken_19 : decode cX4_taken 19 = .ok (.iconst (-1), 1) := by decide +kernel
theorem dX4_taken_20 : decode cX4_taken 20 = .ok (.ireturn, 1) := by decide +kernel
theorem dX4_taken_21 : decode cX4_taken 21 = .ok (.aload_n 0, 1) := by decide +kernel
theorem dX4_taken_22 : decode cX4_taken 22 = .ok (.getfield 27, 3) := by decide +kernel
theorem dX4_taken_25 : decode cX4_taken 25 = .ok (.iload_n 1, 1) := by decide +kernel
theorem dX4_taken_26 : decode cX4_taken 26 = .ok (.iload_n 2, 1) := by decide +kernel
theorem dX4_taken_27 : decode cX4_taken 27 = .ok (.iload_n 3, 1) := by decide +kernel
theorem dX4_taken_28 : decode cX4_taken 28 = .ok (.invokevirtual 85, 3) := by decide +kernel
theorem dX4_taken_31 : decode cX4_taken 31 = .ok (.ireturn, 1) := by decide +kernel
set_option maxRecDepth 20000 in
theorem ggX4_past_X4_isWithin : GoodIn wsX4_past wsX4_isWithin := goodIn_r _ [5] (by decide +kernel) (by decide +kernel)
set_option maxRecDepth 20000 in
theorem gX4_past_X4_isWithin : GoodIn wsX4_past (va_wsS RX4 77 yX4_isWithin wsX4_isWithin) := goodIn_app (goodIn_of _ (by decide +kernel)) ggX4_past_X4_isWithin
set_option maxRecDepth 20000 in
theorem ggX4_past_X0_leastMeeting : GoodIn wsX4_past wsX0_leastMeeting := goodIn_r _ [10, 11, 12, 13, 4, 14, 15, 16, 17, 18, 19, 20, 21, 22, 23, 9, 24, 25, 26, 27, 28, 29, 30, 31, 32, 33, 34, 47, 48, 49, 50, 51, 52, 53] (by decide +kernel) (by decide +kernel)
set_option maxRecDepth 20000 in
theorem gX4_past_X0_leastMeeting : GoodIn wsX4_past (wsV RX4 88 RX0 yX0_leastMeeting wsX0_leastMeeting) := goodIn_app (goodIn_of _ (by decide +kernel)) ggX4_past_X0_leastMeeting
set_option maxRecDepth 20000 in
theorem ggX4_past_X4_powerFrom : GoodIn wsX4_past wsX4_powerFrom := goodIn_r _ [37] (by decide +kernel) (by decide +kernel)
set_option maxRecDepth 20000 in
theorem gX4_past_X4_powerFrom : GoodIn wsX4_past (va_wsS RX4 91 yX4_powerFrom wsX4_powerFrom) := goodIn_app (goodIn_of _ (by decide +kernel)) ggX4_past_X4_powerFrom
set_option maxRecDepth 20000 in
theorem ggX4_past_X0_throughPast : GoodIn wsX4_past wsX0_throughPast := goodIn_r _ [41, 26, 13, 4, 14, 15, 16, 17, 18, 19, 20, 47, 48, 49, 50, 51, 52, 53] (by decide +kernel) (by decide +kernel)
set_option maxRecDepth 20000 in
theorem gX4_past_X0_throughPast : GoodIn wsX4_past (wsV RX4 85 RX0 yX0_throughPast wsX0_throughPast) := goodIn_app (goodIn_of _ (by decide +kernel)) ggX4_past_X0_throughPast
theorem dX4_past_0 : decode cX4_past 0 = .ok (.iload_n 2, 1) := by decide +kernel
theorem dX4_past_1 : decode cX4_past 1 = .ok (.iconst 1, 1) := by decide +kernel
theorem dX4_past_2 : decode cX4_past 2 = .ok (.sipush 4096, 3) := by decide +kernel
theorem dX4_past_5 : decode cX4_past 5 = .ok (.invokestatic 77, 3) := by decide +kernel
theorem dX4_past_8 : decode cX4_past 8 = .ok (.ifCond .ne 5, 3) := by decide +kernel
theorem dX4_past_11 : decode cX4_past 11 = .ok (.iconst (-1), 1) := by decide +kernel
theorem dX4_past_12 : decode cX4_past 12 = .ok (.ireturn, 1) := by decide +kernel
theorem dX4_past_13 : decode cX4_past 13 = .ok (.aload_n 0, 1) := by decide +kernel
theorem dX4_past_14 : decode cX4_past 14 = .ok (.getfield 27, 3) := by decide +kernel
theorem dX4_past_17 : decode cX4_past 17 = .ok (.iload_n 1, 1) := by decide +kernel
theorem dX4_past_18 : decode cX4_past 18 = .ok (.iload_n 2, 1) := by decide +kernel
theorem dX4_past_19 : decode cX4_past 19 = .ok (.invokevirtual 88, 3) := by decide +kernel
theorem dX4_past_22 : decode cX4_past 22 = .ok (.istore_n 3, 1) := by decide +kernel
theorem dX4_past_23 : decode cX4_past 23 = .ok (.iload_n 3, 1) := by decide +kernel
theorem dX4_past_24 : decode cX4_past 24 = .ok (.bipush (-2), 2) := by decide +kernel
theorem dX4_past_26 : decode cX4_past 26 = .ok (.if_icmp .ne 6, 3) := by decide +kernel
theorem dX4_past_29 : decode cX4_past 29 = .ok (.bipush (-2), 2) := by decide +kernel
theorem dX4_past_31 : decode cX4_past 31 = .ok (.ireturn, 1) := by decide +kernel
theorem dX4_past_32 : decode cX4_past 32 = .ok (.iload_n 3, 1) := by decide +kernel
theorem dX4_past_33 : decode cX4_past 33 = .ok (.invokestatic 91, 3) := by decide +kernel
theorem dX4_past_36 : decode cX4_past 36 = .ok (.istore 4, 2) := by decide +kernel
theorem dX4_past_38 : decode cX4_past 38 = .ok (.iload 4, 2) := by decide +kernel
theorem dX4_past_40 : decode cX4_past 40 = .ok (.iload_n 2, 1) := by decide +kernel
theorem dX4_past_41 : decode cX4_past 41 = .ok (.if_icmp .le 8, 3) := by decide +kernel
theorem dX4_past_44 : decode cX4_past 44 = .ok (.bipush (-2), 2) := by decide +kernel
theorem dX4_past_46 : decode cX4_past 46 = .ok (.goto 14, 3) := by decide +kernel
theorem dX4_past_49 : decode cX4_past 49 = .ok (.aload_n 0, 1) := by decide +kernel
theorem dX4_past_50 : decode cX4_past 50 = .ok (.getfield 27, 3) := by decide +kernel
theorem dX4_past_53 : decode cX4_past 53 = .ok (.iload_n 1, 1) := by decide +kernel
theorem dX4_past_54 : decode cX4_past 54 = .ok (.iload 4, 2) := by decide +kernel
theorem dX4_past_56 : decode cX4_past 56 = .ok (.iconst 0, 1) := by decide +kernel
theorem dX4_past_57 : decode cX4_past 57 = .ok (.invokevirtual 85, 3) := by decide +kernel
theorem dX4_past_60 : decode cX4_past 60 = .ok (.ireturn, 1) := by decide +kernel
set_option maxRecDepth 20000 in
theorem ggX4_fold_X4_isWithin : GoodIn wsX4_fold wsX4_isWithin := goodIn_r _ [5] (by decide +kernel) (by decide +kernel)
set_option maxRecDepth 20000 in
theorem gX4_fold_X4_isWithin : GoodIn wsX4_fold (va_wsS RX4 77 yX4_isWithin wsX4_isWithin) := goodIn_app (goodIn_of _ (by decide +kernel)) ggX4_fold_X4_isWithin
set_option maxRecDepth 20000 in
theorem ggX4_fold_X0_leastMeeting : GoodIn wsX4_fold wsX0_leastMeeting := goodIn_r _ [10, 11, 12, 13, 4, 14, 15, 16, 17, 18, 19, 20, 21, 22, 23, 9, 24, 25, 26, 27, 28, 29, 30, 31, 32, 33, 34, 40, 41, 42, 43, 44, 45, 46] (by decide +kernel) (by decide +kernel)
set_option maxRecDepth 20000 in
theorem gX4_fold_X0_leastMeeting : GoodIn wsX4_fold (wsV RX4 88 RX0 yX0_leastMeeting wsX0_leastMeeting) := goodIn_app (goodIn_of _ (by decide +kernel)) ggX4_fold_X0_leastMeeting
theorem dX4_fold_0 : decode cX4_fold 0 = .ok (.iload_n 2, 1) := by decide +kernel
theorem dX4_fold_1 : decode cX4_fold 1 = .ok (.iconst 1, 1) := by decide +kernel
theorem dX4_fold_2 : decode cX4_fold 2 = .ok (.sipush 4096, 3) := by decide +kernel
theorem dX4_fold_5 : decode cX4_fold 5 = .ok (.invokestatic 77, 3) := by decide +kernel
theorem dX4_fold_8 : decode cX4_fold 8 = .ok (.ifCond .ne 5, 3) := by decide +kernel
theorem dX4_fold_11 : decode cX4_fold 11 = .ok (.iconst (-1), 1) := by decide +kernel
theorem dX4_fold_12 : decode cX4_fold 12 = .ok (.ireturn, 1) := by decide +kernel
theorem dX4_fold_13 : decode cX4_fold 13 = .ok (.aload_n 0, 1) := by decide +kernel
theorem dX4_fold_14 : decode cX4_fold 14 = .ok (.getfield 27, 3) := by decide +kernel
theorem dX4_fold_17 : decode cX4_fold 17 = .ok (.iload_n 1, 1) := by decide +kernel
theorem dX4_fold_18 : decode cX4_fold 18 = .ok (.iload_n 2, 1) := by decide +kernel
theorem dX4_fold_19 : decode cX4_fold 19 = .ok (.invokevirtual 88, 3) := by decide +kernel
theorem dX4_fold_22 : decode cX4_fold 22 = .ok (.ireturn, 1) := by decide +kernel
set_option maxRecDepth 20000 in
theorem ggX4_bounding_X4_isWithin : GoodIn wsX4_bounding wsX4_isWithin := goodIn_r _ [5] (by decide +kernel) (by decide +kernel)
set_option maxRecDepth 20000 in
theorem gX4_bounding_X4_isWithin : GoodIn wsX4_bounding (va_wsS RX4 77 yX4_isWithin wsX4_isWithin) := goodIn_app (goodIn_of _ (by decide +kernel)) ggX4_bounding_X4_isWithin
set_option maxRecDepth 20000 in
theorem ggX4_bounding_X0_leastBounded : GoodIn wsX4_bounding wsX0_leastBounded := goodIn_r _ [10, 11, 12, 13, 9, 14, 15, 16, 17, 18, 19, 20, 21, 22, 23, 24, 4, 25, 26, 27, 28, 29, 30, 31, 37, 38, 39, 40, 41, 42, 43] (by decide +kernel) (by decide +kernel)
set_option maxRecDepth 20000 in
theorem gX4_bounding_X0_leastBounded : GoodIn wsX4_bounding (wsV RX4 95 RX0 yX0_leastBounded wsX0_leastBounded) := goodIn_app (goodIn_of _ (by decide +kernel)) ggX4_bounding_X0_leastBounded
theorem dX4_bounding_0 : decode cX4_bounding 0 = .ok (.iload_n 2, 1) := by decide +kernel
theorem dX4_bounding_1 : decode cX4_bounding 1 = .ok (.iconst 1, 1) := by decide +kernel
theorem dX4_bounding_2 : decode cX4_bounding 2 = .ok (.bipush 64, 2) := by decide +kernel
theorem dX4_bounding_4 : decode cX4_bounding 4 = .ok (.invokestatic 77, 3) := by decide +kernel
theorem dX4_bounding_7 : decode cX4_bounding 7 = .ok (.ifCond .ne 5, 3) := by decide +kernel
theorem dX4_bounding_10 : decode cX4_bounding 10 = .ok (.iconst (-1), 1) := by decide +kernel
theorem dX4_bounding_11 : decode cX4_bounding 11 = .ok (.ireturn, 1) := by decide +kernel
theorem dX4_bounding_12 : decode cX4_bounding 12 = .ok (.aload_n 0, 1) := by decide +kernel
theorem dX4_bounding_13 : decode cX4_bounding 13 = .ok (.getfield 27, 3) := by decide +kernel
theorem dX4_bounding_16 : decode cX4_bounding 16 = .ok (.iload_n 1, 1) := by decide +kernel
theorem dX4_bounding_17 : decode cX4_bounding 17 = .ok (.iload_n 2, 1) := by decide +kernel
theorem dX4_bounding_18 : decode cX4_bounding 18 = .ok (.invokevirtual 95, 3) := by decide +kernel
theorem dX4_bounding_21 : decode cX4_bounding 21 = .ok (.ireturn, 1) := by decide +kernel
set_option maxRecDepth 20000 in
theorem ggX4_monotone_X0_keepsOrder : GoodIn wsX4_monotone wsX0_keepsOrder := goodIn_r _ [6, 7, 8, 14, 15, 16, 17, 18, 19, 20] (by decide +kernel) (by decide +kernel)
set_option maxRecDepth 20000 in
theorem gX4_monotone_X0_keepsOrder : GoodIn wsX4_monotone (wsV RX4 98 RX0 yX0_keepsOrder wsX0_keepsOrder) := goodIn_app (goodIn_of _ (by decide +kernel)) ggX4_monotone_X0_keepsOrder
theorem dX4_monotone_0 : decode cX4_monotone 0 = .ok (.aload_n 0, 1) := by decide +kernel
theorem dX4_monotone_1 : decode cX4_monotone 1 = .ok (.getfield 27, 3) := by decide +kernel
theorem dX4_monotone_4 : decode cX4_monotone 4 = .ok (.invokevirtual 98, 3) := by decide +kernel
theorem dX4_monotone_7 : decode cX4_monotone 7 = .ok (.ifCond .eq 7, 3) := by decide +kernel
theorem dX4_monotone_10 : decode cX4_monotone 10 = .ok (.iconst 1, 1) := by decide +kernel
theorem dX4_monotone_11 : decode cX4_monotone 11 = .ok (.goto 4, 3) := by decide +kernel
theorem dX4_monotone_14 : decode cX4_monotone 14 = .ok (.iconst 0, 1) := by decide +kernel
theorem dX4_monotone_15 : decode cX4_monotone 15 = .ok (.ireturn, 1) := by decide +kernel
set_option maxRecDepth 20000 in
theorem ggX4_counted_X4_isWithin : GoodIn wsX4_counted wsX4_isWithin := goodIn_r _ [6] (by decide +kernel) (by decide +kernel)
set_option maxRecDepth 20000 in
theorem gX4_counted_X4_isWithin : GoodIn wsX4_counted (va_wsS RX4 77 yX4_isWithin wsX4_isWithin) := goodIn_app (goodIn_of _ (by decide +kernel)) ggX4_counted_X4_isWithin
set_option maxRecDepth 20000 in
theorem ggX4_counted_X0_rowsMeeting : GoodIn wsX4_counted wsX0_rowsMeeting := goodIn_r _ [11, 12, 13, 14, 15, 16, 17, 18, 19, 10, 20, 21, 22, 23, 24, 25, 26, 27, 28, 29, 30, 31, 32, 33, 34, 35, 36, 37, 38, 44, 45, 46, 47, 48, 49, 50] (by decide +kernel) (by decide +kernel)
set_option maxRecDepth 20000 in
theorem gX4_counted_X0_rowsMeeting : GoodIn wsX4_counted (wsV RX4 102 RX0 yX0_rowsMeeting wsX0_rowsMeeting) := goodIn_app (goodIn_of _ (by decide +kernel)) ggX4_counted_X0_rowsMeeting
theorem dX4_counted_0 : decode cX4_counted 0 = .ok (.iload_n 1, 1) := by decide +kernel
theorem dX4_counted_1 : decode cX4_counted 1 = .ok (.iconst 1, 1) := by decide +kernel
theorem dX4_counted_2 : decode cX4_counted 2 = .ok (.iconst 5, 1) := by decide +kernel
theorem dX4_counted_3 : decode cX4_counted 3 = .ok (.invokestatic 77, 3) := by decide +kernel
theorem dX4_counted_6 : decode cX4_counted 6 = .ok (.ifCond .eq 17, 3) := by decide +kernel
theorem dX4_counted_9 : decode cX4_counted 9 = .ok (.iload_n 2, 1) := by decide +kernel
theorem dX4_counted_10 : decode cX4_counted 10 = .ok (.iconst (-1), 1) := by decide +kernel
theorem dX4_counted_11 : decode cX4_counted 11 = .ok (.aload_n 0, 1) := by decide +kernel
theorem dX4_counted_12 : decode cX4_counted 12 = .ok (.getfield 18, 3) := by decide +kernel
theorem dX4_counted_15 : decode cX4_counted 15 = .ok (.iconst 1, 1) := by decide +kernel
theorem dX4_counted_16 : decode cX4_counted 16 = .ok (.isub, 1) := by decide +kernel
theorem dX4_counted_17 : decode cX4_counted 17 = .ok (.invokestatic 77, 3) := by decide +kernel
theorem dX4_counted_20 : decode cX4_counted 20 = .ok (.ifCond .ne 5, 3) := by decide +kernel
theorem dX4_counted_23 : decode cX4_counted 23 = .ok (.iconst (-1), 1) := by decide +kernel
theorem dX4_counted_24 : decode cX4_counted 24 = .ok (.ireturn, 1) := by decide +kernel
theorem dX4_counted_25 : decode cX4_counted 25 = .ok (.aload_n 0, 1) := by decide +kernel
theorem dX4_counted_26 : decode cX4_counted 26 = .ok (.getfield 27, 3) := by decide +kernel
theorem dX4_counted_29 : decode cX4_counted 29 = .ok (.iload_n 1, 1) := by decide +kernel
theorem dX4_counted_30 : decode cX4_counted 30 = .ok (.iload_n 2, 1) := by decide +kernel
theorem dX4_counted_31 : decode cX4_counted 31 = .ok (.invokevirtual 102, 3) := by decide +kernel
theorem dX4_counted_34 : decode cX4_counted 34 = .ok (.ireturn, 1) := by decide +kernel
set_option maxRecDepth 20000 in
theorem ggX4_trees_X4_isWithin : GoodIn wsX4_trees wsX4_isWithin := goodIn_r _ [7] (by decide +kernel) (by decide +kernel)
set_option maxRecDepth 20000 in
theorem gX4_trees_X4_isWithin : GoodIn wsX4_trees (va_wsS RX4 77 yX4_isWithin wsX4_isWithin) := goodIn_app (goodIn_of _ (by decide +kernel)) ggX4_trees_X4_isWithin
set_option maxRecDepth 20000 in
theorem ggX4_trees_X0_allTrees : GoodIn wsX4_trees wsX0_allTrees := goodIn_r _ [12, 13, 14, 15, 16, 11, 17, 18, 19, 20, 21, 22, 23, 24, 25, 26, 27, 28, 29, 30, 31, 32, 33, 34, 41, 42, 43, 44, 45, 46, 47] (by decide +kernel) (by decide +kernel)
set_option maxRecDepth 20000 in
theorem gX4_trees_X0_allTrees : GoodIn wsX4_trees (wsV RX4 105 RX0 yX0_allTrees wsX0_allTrees) := goodIn_app (goodIn_of _ (by decide +kernel)) ggX4_trees_X0_allTrees
set_option maxRecDepth 20000 in
theorem ggX4_trees_X0_treesTo : GoodIn wsX4_trees wsX0_treesTo := goodIn_r _ [17, 13, 18, 19, 20, 11, 21, 22, 23, 24, 25, 26, 27, 28, 29, 30, 31, 32, 33, 34, 41, 42, 43, 44, 45, 46, 47] (by decide +kernel) (by decide +kernel)
set_option maxRecDepth 20000 in
theorem gX4_trees_X0_treesTo : GoodIn wsX4_trees (wsV RX4 109 RX0 yX0_treesTo wsX0_treesTo) := goodIn_app (goodIn_of _ (by decide +kernel)) ggX4_trees_X0_treesTo
theorem dX4_trees_0 : decode cX4_trees 0 = .ok (.iload_n 1, 1) := by decide +kernel
theorem dX4_trees_1 : decode cX4_trees 1 = .ok (.iconst (-1), 1) := by decide +kernel
theorem dX4_trees_2 : decode cX4_trees 2 = .ok (.aload_n 0, 1) := by decide +kernel
theorem dX4_trees_3 : decode cX4_trees 3 = .ok (.getfield 18, 3) := by decide +kernel
theorem dX4_trees_6 : decode cX4_trees 6 = .ok (.iconst 1, 1) := by decide +kernel
theorem dX4_trees_7 : decode cX4_trees 7 = .ok (.isub, 1) := by decide +kernel
theorem dX4_trees_8 : decode cX4_trees 8 = .ok (.invokestatic 77, 3) := by decide +kernel
theorem dX4_trees_11 : decode cX4_trees 11 = .ok (.ifCond .ne 7, 3) := by decide +kernel
theorem dX4_trees_14 : decode cX4_trees 14 = .ok (.ldc2_w 59, 3) := by decide +kernel
theorem dX4_trees_17 : decode cX4_trees 17 = .ok (.lreturn, 1) := by decide +kernel
theorem dX4_trees_18 : decode cX4_trees 18 = .ok (.iload_n 1, 1) := by decide +kernel
theorem dX4_trees_19 : decode cX4_trees 19 = .ok (.iconst (-1), 1) := by decide +kernel
theorem dX4_trees_20 : decode cX4_trees 20 = .ok (.if_icmp .ne 13, 3) := by decide +kernel
theorem dX4_trees_23 : decode cX4_trees 23 = .ok (.aload_n 0, 1) := by decide +kernel
theorem dX4_trees_24 : decode cX4_trees 24 = .ok (.getfield 27, 3) := by decide +kernel
theorem dX4_trees_27 : decode cX4_trees 27 = .ok (.invokevirtual 105, 3) := by decide +kernel
theorem dX4_trees_30 : decode cX4_trees 30 = .ok (.goto 11, 3) := by decide +kernel
theorem dX4_trees_33 : decode cX4_trees 33 = .ok (.aload_n 0, 1) := by decide +kernel
theorem dX4_trees_34 : decode cX4_trees 34 = .ok (.getfield 27, 3) := by decide +kernel
theorem dX4_trees_37 : decode cX4_trees 37 = .ok (.iload_n 1, 1) := by decide +kernel
theorem dX4_trees_38 : decode cX4_trees 38 = .ok (.invokevirtual 109, 3) := by decide +kernel
theorem dX4_trees_41 : decode cX4_trees 41 = .ok (.lreturn, 1) := by decide +kernel
set_option maxRecDepth 20000 in
theorem ggX4_once_X4_isWithin : GoodIn wsX4_once wsX4_isWithin := goodIn_r _ [5] (by decide +kernel) (by decide +kernel)
set_option maxRecDepth 20000 in
theorem gX4_once_X4_isWithin : GoodIn wsX4_once (va_wsS RX4 77 yX4_isWithin wsX4_isWithin) := goodIn_app (goodIn_of _ (by decide +kernel)) ggX4_once_X4_isWithin
set_option maxRecDepth 20000 in
theorem ggX4_once_X0_drawOf : GoodIn wsX4_once wsX0_drawOf := goodIn_r _ [10, 11, 12, 13, 9, 14, 15, 16, 17, 18, 19, 20, 21, 22, 23, 4, 24, 25, 26, 27, 28, 29, 30, 31, 32, 33, 34, 35, 36, 37, 38, 39, 45, 46, 47, 48, 49, 50, 51] (by decide +kernel) (by decide +kernel)
set_option maxRecDepth 20000 in
theorem gX4_once_X0_drawOf : GoodIn wsX4_once (wsV RX4 113 RX0 yX0_drawOf wsX0_drawOf) := goodIn_app (goodIn_of _ (by decide +kernel)) ggX4_once_X0_drawOf
theorem dX4_once_0 : decode cX4_once 0 = .ok (.iload_n 2, 1) := by decide +kernel
theorem dX4_once_1 : decode cX4_once 1 = .ok (.iconst 1, 1) := by decide +kernel
theorem dX4_once_2 : decode cX4_once 2 = .ok (.bipush 64, 2) := by decide +kernel
theorem dX4_once_4 : decode cX4_once 4 = .ok (.invokestatic 77, 3) := by decide +kernel
theorem dX4_once_7 : decode cX4_once 7 = .ok (.ifCond .eq 13, 3) := by decide +kernel
theorem dX4_once_10 : decode cX4_once 10 = .ok (.iload_n 3, 1) := by decide +kernel
theorem dX4_once_11 : decode cX4_once 11 = .ok (.iconst 0, 1) := by decide +kernel
theorem dX4_once_12 : decode cX4_once 12 = .ok (.bipush 99, 2) := by decide +kernel
theorem dX4_once_14 : decode cX4_once 14 = .ok (.invokestatic 77, 3) := by decide +kernel
theorem dX4_once_17 : decode cX4_once 17 = .ok (.ifCond .ne 5, 3) := by decide +kernel
theorem dX4_once_20 : decode cX4_once 20 = .ok (.iconst (-1), 1) := by decide +kernel
theorem dX4_once_21 : decode cX4_once 21 = .ok (.ireturn, 1) := by decide +kernel
theorem dX4_once_22 : decode cX4_once 22 = .ok (.aload_n 0, 1) := by decide +kernel
theorem dX4_once_23 : decode cX4_once 23 = .ok (.getfield 27, 3) := by decide +kernel
theorem dX4_once_26 : decode cX4_once 26 = .ok (.iload_n 1, 1) := by decide +kernel
theorem dX4_once_27 : decode cX4_once 27 = .ok (.iload_n 2, 1) := by decide +kernel
theorem dX4_once_28 : decode cX4_once 28 = .ok (.iload_n 3, 1) := by decide +kernel
theorem dX4_once_29 : decode cX4_once 29 = .ok (.invokevirtual 113, 3) := by decide +kernel
theorem dX4_once_32 : decode cX4_once 32 = .ok (.ireturn, 1) := by decide +kernel
set_option maxRecDepth 20000 in
theorem ggX4_lead_X4_isState : GoodIn wsX4_lead wsX4_isState := goodIn_r _ [6, 7, 17, 18, 19, 20, 21] (by decide +kernel) (by decide +kernel)
set_option maxRecDepth 20000 in
theorem gX4_lead_X4_isState : GoodIn wsX4_lead (wsV RX4 73 RX4 yX4_isState wsX4_isState) := goodIn_app (goodIn_of _ (by decide +kernel)) ggX4_lead_X4_isState
set_option maxRecDepth 20000 in
theorem ggX4_lead_X4_isWithin : GoodIn wsX4_lead wsX4_isWithin := goodIn_r _ [10] (by decide +kernel) (by decide +kernel)
set_option maxRecDepth 20000 in
theorem gX4_lead_X4_isWithin : GoodIn wsX4_lead (va_wsS RX4 77 yX4_isWithin wsX4_isWithin) := goodIn_app (goodIn_of _ (by decide +kernel)) ggX4_lead_X4_isWithin
set_option maxRecDepth 20000 in
theorem ggX4_lead_X1_setStep : GoodIn wsX4_lead wsX1_setStep := goodIn_r _ [15, 16, 22, 23, 24, 25] (by decide +kernel) (by decide +kernel)
set_option maxRecDepth 20000 in
theorem gX4_lead_X1_setStep : GoodIn wsX4_lead (wsV RX4 116 RX1 yX1_setStep wsX1_setStep) := goodIn_app (goodIn_of _ (by decide +kernel)) ggX4_lead_X1_setStep
theorem dX4_lead_0 : decode cX4_lead 0 = .ok (.aload_n 0, 1) := by decide +kernel
theorem dX4_lead_1 : decode cX4_lead 1 = .ok (.iload_n 1, 1) := by decide +kernel
theorem dX4_lead_2 : decode cX4_lead 2 = .ok (.invokevirtual 73, 3) := by decide +kernel
theorem dX4_lead_5 : decode cX4_lead 5 = .ok (.ifCond .eq 12, 3) := by decide +kernel
theorem dX4_lead_8 : decode cX4_lead 8 = .ok (.iload_n 2, 1) := by decide +kernel
theorem dX4_lead_9 : decode cX4_lead 9 = .ok (.iconst 0, 1) := by decide +kernel
theorem dX4_lead_10 : decode cX4_lead 10 = .ok (.iconst 3, 1) := by decide +kernel
theorem dX4_lead_11 : decode cX4_lead 11 = .ok (.invokestatic 77, 3) := by decide +kernel
theorem dX4_lead_14 : decode cX4_lead 14 = .ok (.ifCond .ne 5, 3) := by decide +kernel
theorem dX4_lead_17 : decode cX4_lead 17 = .ok (.iconst (-1), 1) := by decide +kernel
theorem dX4_lead_18 : decode cX4_lead 18 = .ok (.ireturn, 1) := by decide +kernel
theorem dX4_lead_19 : decode cX4_lead 19 = .ok (.iload_n 3, 1) := by decide +kernel
theorem dX4_lead_20 : decode cX4_lead 20 = .ok (.bipush (-2), 2) := by decide +kernel
theorem dX4_lead_22 : decode cX4_lead 22 = .ok (.if_icmp .eq 13, 3) := by decide +kernel
theorem dX4_lead_25 : decode cX4_lead 25 = .ok (.aload_n 0, 1) := by decide +kernel
theorem dX4_lead_26 : decode cX4_lead 26 = .ok (.iload_n 3, 1) := by decide +kernel
theorem dX4_lead_27 : decode cX4_lead 27 = .ok (.invokevirtual 73, 3) := by decide +kernel
theorem dX4_lead_30 : decode cX4_lead 30 = .ok (.ifCond .ne 5, 3) := by decide +kernel
theorem dX4_lead_33 : decode cX4_lead 33 = .ok (.iconst (-1), 1) := by decide +kernel
theorem dX4_lead_34 : decode cX4_lead 34 = .ok (.ireturn, 1) := by decide +kernel
theorem dX4_lead_35 : decode cX4_lead 35 = .ok (.aload_n 0, 1) := by decide +kernel
theorem dX4_lead_36 : decode cX4_lead 36 = .ok (.getfield 34, 3) := by decide +kernel
theorem dX4_lead_39 : decode cX4_lead 39 = .ok (.iload_n 1, 1) := by decide +kernel
theorem dX4_lead_40 : decode cX4_lead 40 = .ok (.iload_n 2, 1) := by decide +kernel
theorem dX4_lead_41 : decode cX4_lead 41 = .ok (.iload_n 3, 1) := by decide +kernel
theorem dX4_lead_42 : decode cX4_lead 42 = .ok (.invokevirtual 116, 3) := by decide +kernel
theorem dX4_lead_45 : decode cX4_lead 45 = .ok (.ireturn, 1) := by decide +kernel
set_option maxRecDepth 20000 in
theorem ggX4_end_X4_isState : GoodIn wsX4_end wsX4_isState := goodIn_r _ [6, 7, 14, 15, 16, 17, 18] (by decide +kernel) (by decide +kernel)
set_option maxRecDepth 20000 in
theorem gX4_end_X4_isState : GoodIn wsX4_end (wsV RX4 73 RX4 yX4_isState wsX4_isState) := goodIn_app (goodIn_of _ (by decide +kernel)) ggX4_end_X4_isState
set_option maxRecDepth 20000 in
theorem ggX4_end_X1_setEnd : GoodIn wsX4_end wsX1_setEnd := goodIn_r _ [12, 13, 19, 20, 21, 22] (by decide +kernel) (by decide +kernel)
set_option maxRecDepth 20000 in
theorem gX4_end_X1_setEnd : GoodIn wsX4_end (wsV RX4 117 RX1 yX1_setEnd wsX1_setEnd) := goodIn_app (goodIn_of _ (by decide +kernel)) ggX4_end_X1_setEnd
theorem dX4_end_0 : decode cX4_end 0 = .ok (.aload_n 0, 1) := by decide +kernel
theorem dX4_end_1 : decode cX4_end 1 = .ok (.iload_n 1, 1) := by decide +kernel
theorem dX4_end_2 : decode cX4_end 2 = .ok (.invokevirtual 73, 3) := by decide +kernel
theorem dX4_end_5 : decode cX4_end 5 = .ok (.ifCond .ne 5, 3) := by decide +kernel
theorem dX4_end_8 : decode cX4_end 8 = .ok (.iconst (-1), 1) := by decide +kernel
theorem dX4_end_9 : decode cX4_end 9 = .ok (.ireturn, 1) := by decide +kernel
theorem dX4_end_10 : decode cX4_end 10 = .ok (.aload_n 0, 1) := by decide +kernel
theorem dX4_end_11 : decode cX4_end 11 = .ok (.getfield 34, 3) := by decide +kernel
theorem dX4_end_14 : decode cX4_end 14 = .ok (.iload_n 1, 1) := by decide +kernel
theorem dX4_end_15 : decode cX4_end 15 = .ok (.iload_n 2, 1) := by decide +kernel
theorem dX4_end_16 : decode cX4_end 16 = .ok (.invokevirtual 117, 3) := by decide +kernel
theorem dX4_end_19 : decode cX4_end 19 = .ok (.ifCond .eq 7, 3) := by decide +kernel
theorem dX4_end_22 : decode cX4_end 22 = .ok (.iconst 1, 1) := by decide +kernel
theorem dX4_end_23 : decode cX4_end 23 = .ok (.goto 4, 3) := by decide +kernel
theorem dX4_end_26 : decode cX4_end 26 = .ok (.iconst 0, 1) := by decide +kernel
theorem dX4_end_27 : decode cX4_end 27 = .ok (.ireturn, 1) := by decide +kernel
set_option maxRecDepth 20000 in
theorem ggX4_words_X4_isWithin : GoodIn wsX4_words wsX4_isWithin := goodIn_r _ [6] (by decide +kernel) (by decide +kernel)
set_option maxRecDepth 20000 in
theorem gX4_words_X4_isWithin : GoodIn wsX4_words (va_wsS RX4 77 yX4_isWithin wsX4_isWithin) := goodIn_app (goodIn_of _ (by decide +kernel)) ggX4_words_X4_isWithin
set_option maxRecDepth 20000 in
theorem ggX4_words_X1_countAll : GoodIn wsX4_words wsX1_countAll := goodIn_r _ [11, 12, 13, 14, 15, 16, 17, 10, 18, 19, 20, 21, 22, 23, 29, 30, 31, 32] (by decide +kernel) (by decide +kernel)
set_option maxRecDepth 20000 in
theorem gX4_words_X1_countAll : GoodIn wsX4_words (wsV RX4 121 RX1 yX1_countAll wsX1_countAll) := goodIn_app (goodIn_of _ (by decide +kernel)) ggX4_words_X1_countAll
theorem dX4_words_0 : decode cX4_words 0 = .ok (.iload_n 1, 1) := by decide +kernel
theorem dX4_words_1 : decode cX4_words 1 = .ok (.iconst 0, 1) := by decide +kernel
theorem dX4_words_2 : decode cX4_words 2 = .ok (.bipush 25, 2) := by decide +kernel
theorem dX4_words_4 : decode cX4_words 4 = .ok (.invokestatic 77, 3) := by decide +kernel
theorem dX4_words_7 : decode cX4_words 7 = .ok (.ifCond .ne 7, 3) := by decide +kernel
theorem dX4_words_10 : decode cX4_words 10 = .ok (.ldc2_w 59, 3) := by decide +kernel
theorem dX4_words_13 : decode cX4_words 13 = .ok (.lreturn, 1) := by decide +kernel
theorem dX4_words_14 : decode cX4_words 14 = .ok (.aload_n 0, 1) := by decide +kernel
theorem dX4_words_15 : decode cX4_words 15 = .ok (.getfield 34, 3) := by decide +kernel
theorem dX4_words_18 : decode cX4_words 18 = .ok (.iload_n 1, 1) := by decide +kernel
theorem dX4_words_19 : decode cX4_words 19 = .ok (.invokevirtual 121, 3) := by decide +kernel
theorem dX4_words_22 : decode cX4_words 22 = .ok (.lreturn, 1) := by decide +kernel
set_option maxRecDepth 20000 in
theorem ggX4_word_X4_isWithin : GoodIn wsX4_word wsX4_isWithin := goodIn_r _ [5] (by decide +kernel) (by decide +kernel)
set_option maxRecDepth 20000 in
theorem gX4_word_X4_isWithin : GoodIn wsX4_word (va_wsS RX4 77 yX4_isWithin wsX4_isWithin) := goodIn_app (goodIn_of _ (by decide +kernel)) ggX4_word_X4_isWithin
set_option maxRecDepth 20000 in
theorem ggX4_word_X1_countAll : GoodIn wsX4_word wsX1_countAll := goodIn_r _ [10, 11, 12, 13, 14, 15, 16, 9, 17, 18, 19, 20, 21, 22, 36, 37, 38, 39] (by decide +kernel) (by decide +kernel)
set_option maxRecDepth 20000 in
theorem gX4_word_X1_countAll : GoodIn wsX4_word (wsV RX4 121 RX1 yX1_countAll wsX1_countAll) := goodIn_app (goodIn_of _ (by decide +kernel)) ggX4_word_X1_countAll
set_option maxRecDepth 20000 in
theorem ggX4_word_X1_letterOf : GoodIn wsX4_word wsX1_letterOf := goodIn_r _ [26, 22, 27, 28, 29, 9, 30, 14, 15, 16, 17, 18, 19, 20, 21, 12, 36, 37, 38, 39] (by decide +kernel) (by decide +kernel)
set_option maxRecDepth 20000 in
theorem gX4_word_X1_letterOf : GoodIn wsX4_word (wsV RX4 124 RX1 yX1_letterOf wsX1_letterOf) := goodIn_app (goodIn_of _ (by decide +kernel)) ggX4_word_X1_letterOf
theorem dX4_word_0 : decode cX4_word 0 = .ok (.iload_n 1, 1) := by decide +kernel
theorem dX4_word_1 : decode cX4_word 1 = .ok (.iconst 0, 1) := by decide +kernel
theorem dX4_word_2 : decode cX4_word 2 = .ok (.bipush 25, 2) := by decide +kernel
theorem dX4_word_4 : decode cX4_word 4 = .ok (.invokestatic 77, 3) := by decide +kernel
theorem dX4_word_7 : decode cX4_word 7 = .ok (.ifCond .eq 15, 3) := by decide +kernel
theorem dX4_word_10 : decode cX4_word 10 = .ok (.iload 4, 2) := by decide +kernel
theorem dX4_word_12 : decode cX4_word 12 = .ok (.iconst 0, 1) := by decide +kernel
theorem dX4_word_13 : decode cX4_word 13 = .ok (.iload_n 1, 1) := by decide +kernel
theorem dX4_word_14 : decode cX4_word 14 = .ok (.iconst 1, 1) := by decide +kernel
theorem dX4_word_15 : decode cX4_word 15 = .ok (.isub, 1) := by decide +kernel
theorem dX4_word_16 : decode cX4_word 16 = .ok (.invokestatic 77, 3) := by decide +kernel
theorem dX4_word_19 : decode cX4_word 19 = .ok (.ifCond .ne 5, 3) := by decide +kernel
theorem dX4_word_22 : decode cX4_word 22 = .ok (.iconst (-1), 1) := by decide +kernel
theorem dX4_word_23 : decode cX4_word 23 = .ok (.ireturn, 1) := by decide +kernel
theorem dX4_word_24 : decode cX4_word 24 = .ok (.lload_n 2, 1) := by decide +kernel
theorem dX4_word_25 : decode cX4_word 25 = .ok (.lconst 0, 1) := by decide +kernel
theorem dX4_word_26 : decode cX4_word 26 = .ok (.lcmp, 1) := by decide +kernel
theorem dX4_word_27 : decode cX4_word 27 = .ok (.ifCond .lt 16, 3) := by decide +kernel
theorem dX4_word_30 : decode cX4_word 30 = .ok (.lload_n 2, 1) := by decide +kernel
theorem dX4_word_31 : decode cX4_word 31 = .ok (.aload_n 0, 1) := by decide +kernel
theorem dX4_word_32 : decode cX4_word 32 = .ok (.getfield 34, 3) := by decide +kernel
theorem dX4_word_35 : decode cX4_word 35 = .ok (.iload_n 1, 1) := by decide +kernel
theorem dX4_word_36 : decode cX4_word 36 = .ok (.invokevirtual 121, 3) := by decide +kernel
theorem dX4_word_39 : decode cX4_word 39 = .ok (.lcmp, 1) := by decide +kernel
theorem dX4_word_40 : decode cX4_word 40 = .ok (.ifCond .lt 5, 3) := by decide +kernel
theorem dX4_word_43 : decode cX4_word 43 = .ok (.iconst (-1), 1) := by decide +kernel
theorem dX4_word_44 : decode cX4_word 44 = .ok (.ireturn, 1) := by decide +kernel
theorem dX4_word_45 : decode cX4_word 45 = .ok (.aload_n 0, 1) := by decide +kernel
theorem dX4_word_46 : decode cX4_word 46 = .ok (.getfield 34, 3) := by decide +kernel
theorem dX4_word_49 : decode cX4_word 49 = .ok (.iload_n 1, 1) := by decide +kernel
theorem dX4_word_50 : decode cX4_word 50 = .ok (.lload_n 2, 1) := by decide +kernel
theorem dX4_word_51 : decode cX4_word 51 = .ok (.iload 4, 2) := by decide +kernel
theorem dX4_word_53 : decode cX4_word 53 = .ok (.invokevirtual 124, 3) := by decide +kernel
theorem dX4_word_56 : decode cX4_word 56 = .ok (.ireturn, 1) := by decide +kernel
set_option maxRecDepth 20000 in
theorem ggX4_rank_X4_isWithin : GoodIn wsX4_rank wsX4_isWithin := goodIn_r _ [6] (by decide +kernel) (by decide +kernel)
set_option maxRecDepth 20000 in
theorem gX4_rank_X4_isWithin : GoodIn wsX4_rank (va_wsS RX4 77 yX4_isWithin wsX4_isWithin) := goodIn_app (goodIn_of _ (by decide +kernel)) ggX4_rank_X4_isWithin
set_option maxRecDepth 20000 in
theorem ggX4_rank_X1_countAll : GoodIn wsX4_rank wsX1_countAll := goodIn_r _ [11, 12, 13, 14, 15, 16, 17, 10, 18, 19, 20, 21, 22, 23, 34, 35, 36, 37] (by decide +kernel) (by decide +kernel)
set_option maxRecDepth 20000 in
theorem gX4_rank_X1_countAll : GoodIn wsX4_rank (wsV RX4 121 RX1 yX1_countAll wsX1_countAll) := goodIn_app (goodIn_of _ (by decide +kernel)) ggX4_rank_X1_countAll
set_option maxRecDepth 20000 in
theorem ggX4_rank_X1_numberOf : GoodIn wsX4_rank wsX1_numberOf := goodIn_r _ [27, 23, 28, 14, 15, 16, 17, 10, 18, 19, 20, 21, 22, 13, 34, 35, 36, 37] (by decide +kernel) (by decide +kernel)
set_option maxRecDepth 20000 in
theorem gX4_rank_X1_numberOf : GoodIn wsX4_rank (wsV RX4 127 RX1 yX1_numberOf wsX1_numberOf) := goodIn_app (goodIn_of _ (by decide +kernel)) ggX4_rank_X1_numberOf
theorem dX4_rank_0 : decode cX4_rank 0 = .ok (.iload_n 1, 1) := by decide +kernel
theorem dX4_rank_1 : decode cX4_rank 1 = .ok (.iconst 0, 1) := by decide +kernel
theorem dX4_rank_2 : decode cX4_rank 2 = .ok (.bipush 25, 2) := by decide +kernel
theorem dX4_rank_4 : decode cX4_rank 4 = .ok (.invokestatic 77, 3) := by decide +kernel
theorem dX4_rank_7 : decode cX4_rank 7 = .ok (.ifCond .ne 7, 3) := by decide +kernel
theorem dX4_rank_10 : decode cX4_rank 10 = .ok (.ldc2_w 59, 3) := by decide +kernel
theorem dX4_rank_13 : decode cX4_rank 13 = .ok (.lreturn, 1) := by decide +kernel
theorem dX4_rank_14 : decode cX4_rank 14 = .ok (.aload_n 0, 1) := by decide +kernel
theorem dX4_rank_15 : decode cX4_rank 15 = .ok (.getfield 34, 3) := by decide +kernel
theorem dX4_rank_18 : decode cX4_rank 18 = .ok (.iload_n 1, 1) := by decide +kernel
theorem dX4_rank_19 : decode cX4_rank 19 = .ok (.invokevirtual 121, 3) := by decide +kernel
theorem dX4_rank_22 : decode cX4_rank 22 = .ok (.pop2, 1) := by decide +kernel
theorem dX4_rank_23 : decode cX4_rank 23 = .ok (.aload_n 0, 1) := by decide +kernel
theorem dX4_rank_24 : decode cX4_rank 24 = .ok (.getfield 34, 3) := by decide +kernel
theorem dX4_rank_27 : decode cX4_rank 27 = .ok (.iload_n 1, 1) := by decide +kernel
theorem dX4_rank_28 : decode cX4_rank 28 = .ok (.lload_n 2, 1) := by decide +kernel
theorem dX4_rank_29 : decode cX4_rank 29 = .ok (.invokevirtual 127, 3) := by decide +kernel
theorem dX4_rank_32 : decode cX4_rank 32 = .ok (.lreturn, 1) := by decide +kernel
set_option maxRecDepth 20000 in
theorem ggX4_allow_X4_isWithin : GoodIn wsX4_allow wsX4_isWithin := goodIn_r _ [5] (by decide +kernel) (by decide +kernel)
set_option maxRecDepth 20000 in
theorem gX4_allow_X4_isWithin : GoodIn wsX4_allow (va_wsS RX4 77 yX4_isWithin wsX4_isWithin) := goodIn_app (goodIn_of _ (by decide +kernel)) ggX4_allow_X4_isWithin
set_option maxRecDepth 20000 in
theorem ggX4_allow_X2_setAllowed : GoodIn wsX4_allow wsX2_setAllowed := goodIn_r _ [10, 11, 17, 18] (by decide +kernel) (by decide +kernel)
set_option maxRecDepth 20000 in
theorem gX4_allow_X2_setAllowed : GoodIn wsX4_allow (wsV RX4 131 RX2 yX2_setAllowed wsX2_setAllowed) := goodIn_app (goodIn_of _ (by decide +kernel)) ggX4_allow_X2_setAllowed
theorem dX4_allow_0 : decode cX4_allow 0 = .ok (.iload_n 1, 1) := by decide +kernel
theorem dX4_allow_1 : decode cX4_allow 1 = .ok (.iconst 0, 1) := by decide +kernel
theorem dX4_allow_2 : decode cX4_allow 2 = .ok (.bipush 7, 2) := by decide +kernel
theorem dX4_allow_4 : decode cX4_allow 4 = .ok (.invokestatic 77, 3) := by decide +kernel
theorem dX4_allow_7 : decode cX4_allow 7 = .ok (.ifCond .eq 13, 3) := by decide +kernel
theorem dX4_allow_10 : decode cX4_allow 10 = .ok (.iload_n 2, 1) := by decide +kernel
theorem dX4_allow_11 : decode cX4_allow 11 = .ok (.iconst 0, 1) := by decide +kernel
theorem dX4_allow_12 : decode cX4_allow 12 = .ok (.bipush 7, 2) := by decide +kernel
theorem dX4_allow_14 : decode cX4_allow 14 = .ok (.invokestatic 77, 3) := by decide +kernel
theorem dX4_allow_17 : decode cX4_allow 17 = .ok (.ifCond .ne 5, 3) := by decide +kernel
theorem dX4_allow_20 : decode cX4_allow 20 = .ok (.iconst (-1), 1) := by decide +kernel
theorem dX4_allow_21 : decode cX4_allow 21 = .ok (.ireturn, 1) := by decide +kernel
theorem dX4_allow_22 : decode cX4_allow 22 = .ok (.aload_n 0, 1) := by decide +kernel
theorem dX4_allow_23 : decode cX4_allow 23 = .ok (.getfield 41, 3) := by decide +kernel
theorem dX4_allow_26 : decode cX4_allow 26 = .ok (.iload_n 1, 1) := by decide +kernel
theorem dX4_allow_27 : decode cX4_allow 27 = .ok (.iload_n 2, 1) := by decide +kernel
theorem dX4_allow_28 : decode cX4_allow 28 = .ok (.iload_n 3, 1) := by decide +kernel
theorem dX4_allow_29 : decode cX4_allow 29 = .ok (.invokevirtual 131, 3) := by decide +kernel
theorem dX4_allow_32 : decode cX4_allow 32 = .ok (.ifCond .eq 7, 3) := by decide +kernel
theorem dX4_allow_35 : decode cX4_allow 35 = .ok (.iconst 1, 1) := by decide +kernel
theorem dX4_allow_36 : decode cX4_allow 36 = .ok (.goto 4, 3) := by decide +kernel
theorem dX4_allow_39 : decode cX4_allow 39 = .ok (.iconst 0, 1) := by decide +kernel
theorem dX4_allow_40 : decode cX4_allow 40 = .ok (.ireturn, 1) := by decide +kernel
set_option maxRecDepth 20000 in
theorem ggX4_permutations_X4_isWithin : GoodIn wsX4_permutations wsX4_isWithin := goodIn_r _ [5] (by decide +kernel) (by decide +kernel)
set_option maxRecDepth 20000 in
theorem gX4_permutations_X4_isWithin : GoodIn wsX4_permutations (va_wsS RX4 77 yX4_isWithin wsX4_isWithin) := goodIn_app (goodIn_of _ (by decide +kernel)) ggX4_permutations_X4_isWithin
set_option maxRecDepth 20000 in
theorem ggX4_permutations_X2_countAll : GoodIn wsX4_permutations wsX2_countAll := goodIn_r _ [10, 11, 12, 13, 14, 9, 15, 16, 17, 18, 19, 20, 21, 22, 23, 24, 25, 26, 27, 33, 34] (by decide +kernel) (by decide +kernel)
set_option maxRecDepth 20000 in
theorem gX4_permutations_X2_countAll : GoodIn wsX4_permutations (wsV RX4 135 RX2 yX2_countAll wsX2_countAll) := goodIn_app (goodIn_of _ (by decide +kernel)) ggX4_permutations_X2_countAll
theorem dX4_permutations_0 : decode cX4_permutations 0 = .ok (.iload_n 1, 1) := by decide +kernel
theorem dX4_permutations_1 : decode cX4_permutations 1 = .ok (.iconst 1, 1) := by decide +kernel
theorem dX4_permutations_2 : decode cX4_permutations 2 = .ok (.bipush 8, 2) := by decide +kernel
theorem dX4_permutations_4 : decode cX4_permutations 4 = .ok (.invokestatic 77, 3) := by decide +kernel
theorem dX4_permutations_7 : decode cX4_permutations 7 = .ok (.ifCond .ne 5, 3) := by decide +kernel
theorem dX4_permutations_10 : decode cX4_permutations 10 = .ok (.iconst (-1), 1) := by decide +kernel
theorem dX4_permutations_11 : decode cX4_permutations 11 = .ok (.ireturn, 1) := by decide +kernel
theorem dX4_permutations_12 : decode cX4_permutations 12 = .ok (.aload_n 0, 1) := by decide +kernel
theorem dX4_permutations_13 : decode cX4_permutations 13 = .ok (.getfield 41, 3) := by decide +kernel
theorem dX4_permutations_16 : decode cX4_permutations 16 = .ok (.iload_n 1, 1) := by decide +kernel
theorem dX4_permutations_17 : decode cX4_permutations 17 = .ok (.invokevirtual 135, 3) := by decide +kernel
theorem dX4_permutations_20 : decode cX4_permutations 20 = .ok (.ireturn, 1) := by decide +kernel
set_option maxRecDepth 20000 in
theorem ggX4_permutation_X4_isWithin : GoodIn wsX4_permutation wsX4_isWithin := goodIn_r _ [5] (by decide +kernel) (by decide +kernel)
set_option maxRecDepth 20000 in
theorem gX4_permutation_X4_isWithin : GoodIn wsX4_permutation (va_wsS RX4 77 yX4_isWithin wsX4_isWithin) := goodIn_app (goodIn_of _ (by decide +kernel)) ggX4_permutation_X4_isWithin
set_option maxRecDepth 20000 in
theorem ggX4_permutation_X2_countAll : GoodIn wsX4_permutation wsX2_countAll := goodIn_r _ [10, 11, 12, 13, 14, 9, 15, 16, 17, 18, 19, 20, 21, 22, 23, 24, 25, 26, 27, 41, 42] (by decide +kernel) (by decide +kernel)
set_option maxRecDepth 20000 in
theorem gX4_permutation_X2_countAll : GoodIn wsX4_permutation (wsV RX4 135 RX2 yX2_countAll wsX2_countAll) := goodIn_app (goodIn_of _ (by decide +kernel)) ggX4_permutation_X2_countAll
set_option maxRecDepth 20000 in
theorem ggX4_permutation_X2_atPlace : GoodIn wsX4_permutation wsX2_atPlace := goodIn_r _ [31, 32, 33, 34, 9, 35, 12, 13, 14, 15, 11, 16, 17, 18, 19, 20, 21, 22, 23, 24, 25, 26, 27, 41, 42] (by decide +kernel) (by decide +kernel)
set_option maxRecDepth 20000 in
theorem gX4_permutation_X2_atPlace : GoodIn wsX4_permutation (wsV RX4 137 RX2 yX2_atPlace wsX2_atPlace) := goodIn_app (goodIn_of _ (by decide +kernel)) ggX4_permutation_X2_atPlace
theorem dX4_permutation_0 : decode cX4_permutation 0 = .ok (.iload_n 1, 1) := by decide +kernel
theorem dX4_permutation_1 : decode cX4_permutation 1 = .ok (.iconst 1, 1) := by decide +kernel
theorem dX4_permutation_2 : decode cX4_permutation 2 = .ok (.bipush 8, 2) := by decide +kernel
theorem dX4_permutation_4 : decode cX4_permutation 4 = .ok (.invokestatic 77, 3) := by decide +kernel
theorem dX4_permutation_7 : decode cX4_permutation 7 = .ok (.ifCond .eq 14, 3) := by decide +kernel
theorem dX4_permutation_10 : decode cX4_permutation 10 = .ok (.iload_n 3, 1) := by decide +kernel
theorem dX4_permutation_11 : decode cX4_permutation 11 = .ok (.iconst 0, 1) := by decide +kernel
theorem dX4_permutation_12 : decode cX4_permutation 12 = .ok (.iload_n 1, 1) := by decide +kernel
theorem dX4_permutation_13 : decode cX4_permutation 13 = .ok (.iconst 1, 1) := by decide +kernel
theorem dX4_permutation_14 : decode cX4_permutation 14 = .ok (.isub, 1) := by decide +kernel
theorem dX4_permutation_15 : decode cX4_permutation 15 = .ok (.invokestatic 77, 3) := by decide +kernel
theorem dX4_permutation_18 : decode cX4_permutation 18 = .ok (.ifCond .ne 5, 3) := by decide +kernel
theorem dX4_permutation_21 : decode cX4_permutation 21 = .ok (.iconst (-1), 1) := by decide +kernel
theorem dX4_permutation_22 : decode cX4_permutation 22 = .ok (.ireturn, 1) := by decide +kernel
theorem dX4_permutation_23 : decode cX4_permutation 23 = .ok (.iload_n 2, 1) := by decide +kernel
theorem dX4_permutation_24 : decode cX4_permutation 24 = .ok (.ifCond .lt 15, 3) := by decide +kernel
theorem dX4_permutation_27 : decode cX4_permutation 27 = .ok (.iload_n 2, 1) := by decide +kernel
theorem dX4_permutation_28 : decode cX4_permutation 28 = .ok (.aload_n 0, 1) := by decide +kernel
theorem dX4_permutation_29 : decode cX4_permutation 29 = .ok (.getfield 41, 3) := by decide +kernel
theorem dX4_permutation_32 : decode cX4_permutation 32 = .ok (.iload_n 1, 1) := by decide +kernel
theorem dX4_permutation_33 : decode cX4_permutation 33 = .ok (.invokevirtual 135, 3) := by decide +kernel
theorem dX4_permutation_36 : decode cX4_permutation 36 = .ok (.if_icmp .lt 5, 3) := by decide +kernel
theorem dX4_permutation_39 : decode cX4_permutation 39 = .ok (.iconst (-1), 1) := by decide +kernel
theorem dX4_permutation_40 : decode cX4_permutation 40 = .ok (.ireturn, 1) := by decide +kernel
theorem dX4_permutation_41 : decode cX4_permutation 41 = .ok (.aload_n 0, 1) := by decide +kernel
theorem dX4_permutation_42 : decode cX4_permutation 42 = .ok (.getfield 41, 3) := by decide +kernel
theorem dX4_permutation_45 : decode cX4_permutation 45 = .ok (.iload_n 1, 1) := by decide +kernel
theorem dX4_permutation_46 : decode cX4_permutation 46 = .ok (.iload_n 2, 1) := by decide +kernel
theorem dX4_permutation_47 : decode cX4_permutation 47 = .ok (.iload_n 3, 1) := by decide +kernel
theorem dX4_permutation_48 : decode cX4_permutation 48 = .ok (.invokevirtual 137, 3) := by decide +kernel
theorem dX4_permutation_51 : decode cX4_permutation 51 = .ok (.ireturn, 1) := by decide +kernel
set_option maxRecDepth 20000 in
theorem ggX4_place_X4_isWithin : GoodIn wsX4_place wsX4_isWithin := goodIn_r _ [5] (by decide +kernel) (by decide +kernel)
set_option maxRecDepth 20000 in
theorem gX4_place_X4_isWithin : GoodIn wsX4_place (va_wsS RX4 77 yX4_isWithin wsX4_isWithin) := goodIn_app (goodIn_of _ (by decide +kernel)) ggX4_place_X4_isWithin
set_option maxRecDepth 20000 in
theorem ggX4_place_X2_countAll : GoodIn wsX4_place wsX2_countAll := goodIn_r _ [10, 11, 12, 13, 14, 9, 15, 16, 17, 18, 19, 20, 21, 22, 23, 24, 25, 26, 27, 37, 38] (by decide +kernel) (by decide +kernel)
set_option maxRecDepth 20000 in
theorem gX4_place_X2_countAll : GoodIn wsX4_place (wsV RX4 135 RX2 yX2_countAll wsX2_countAll) := goodIn_app (goodIn_of _ (by decide +kernel)) ggX4_place_X2_countAll
set_option maxRecDepth 20000 in
theorem ggX4_place_X2_numberOf : GoodIn wsX4_place wsX2_numberOf := goodIn_r _ [31, 16, 17, 18, 9, 19, 20, 21, 22, 23, 24, 25, 26, 27, 12, 13, 14, 15, 11, 37, 38] (by decide +kernel) (by decide +kernel)
set_option maxRecDepth 20000 in
theorem gX4_place_X2_numberOf : GoodIn wsX4_place (wsV RX4 140 RX2 yX2_numberOf wsX2_numberOf) := goodIn_app (goodIn_of _ (by decide +kernel)) ggX4_place_X2_numberOf
theorem dX4_place_0 : decode cX4_place 0 = .ok (.iload_n 1, 1) := by decide +kernel
theorem dX4_place_1 : decode cX4_place 1 = .ok (.iconst 1, 1) := by decide +kernel
theorem dX4_place_2 : decode cX4_place 2 = .ok (.bipush 8, 2) := by decide +kernel
theorem dX4_place_4 : decode cX4_place 4 = .ok (.invokestatic 77, 3) := by decide +kernel
theorem dX4_place_7 : decode cX4_place 7 = .ok (.ifCond .ne 5, 3) := by decide +kernel
theorem dX4_place_10 : decode cX4_place 10 = .ok (.iconst (-1), 1) := by decide +kernel
theorem dX4_place_11 : decode cX4_place 11 = .ok (.ireturn, 1) := by decide +kernel
theorem dX4_place_12 : decode cX4_place 12 = .ok (.aload_n 0, 1) := by decide +kernel
theorem dX4_place_13 : decode cX4_place 13 = .ok (.getfield 41, 3) := by decide +kernel
theorem dX4_place_16 : decode cX4_place 16 = .ok (.iload_n 1, 1) := by decide +kernel
theorem dX4_place_17 : decode cX4_place 17 = .ok (.invokevirtual 135, 3) := by decide +kernel
theorem dX4_place_20 : decode cX4_place 20 = .ok (.pop, 1) := by decide +kernel
theorem dX4_place_21 : decode cX4_place 21 = .ok (.aload_n 0, 1) := by decide +kernel
theorem dX4_place_22 : decode cX4_place 22 = .ok (.getfield 41, 3) := by decide +kernel
theorem dX4_place_25 : decode cX4_place 25 = .ok (.iload_n 1, 1) := by decide +kernel
theorem dX4_place_26 : decode cX4_place 26 = .ok (.iload_n 2, 1) := by decide +kernel
theorem dX4_place_27 : decode cX4_place 27 = .ok (.invokevirtual 140, 3) := by decide +kernel
theorem dX4_place_30 : decode cX4_place 30 = .ok (.ireturn, 1) := by decide +kernel
set_option maxRecDepth 20000 in
theorem ggX4_things_X4_isWithin : GoodIn wsX4_things wsX4_isWithin := goodIn_r _ [5] (by decide +kernel) (by decide +kernel)
set_option maxRecDepth 20000 in
theorem gX4_things_X4_isWithin : GoodIn wsX4_things (va_wsS RX4 77 yX4_isWithin wsX4_isWithin) := goodIn_app (goodIn_of _ (by decide +kernel)) ggX4_things_X4_isWithin
set_option maxRecDepth 20000 in
theorem ggX4_things_X3_setThings : GoodIn wsX4_things wsX3_setThings := goodIn_r _ [10, 11, 12, 13, 14, 15, 16, 22, 23, 24, 25, 26, 27] (by decide +kernel) (by decide +kernel)
set_option maxRecDepth 20000 in
theorem gX4_things_X3_setThings : GoodIn wsX4_things (wsV RX4 142 RX3 yX3_setThings wsX3_setThings) := goodIn_app (goodIn_of _ (by decide +kernel)) ggX4_things_X3_setThings
theorem dX4_things_0 : decode cX4_things 0 = .ok (.iload_n 1, 1) := by decide +kernel
theorem dX4_things_1 : decode cX4_things 1 = .ok (.iconst 1, 1) := by decide +kernel
theorem dX4_things_2 : decode cX4_things 2 = .ok (.bipush 16, 2) := by decide +kernel
theorem dX4_things_4 : decode cX4_things 4 = .ok (.invokestatic 77, 3) := by decide +kernel
theorem dX4_things_7 : decode cX4_things 7 = .ok (.ifCond .ne 5, 3) := by decide +kernel
theorem dX4_things_10 : decode cX4_things 10 = .ok (.iconst (-1), 1) := by decide +kernel
theorem dX4_things_11 : decode cX4_things 11 = .ok (.ireturn, 1) := by decide +kernel
theorem dX4_things_12 : decode cX4_things 12 = .ok (.aload_n 0, 1) := by decide +kernel
theorem dX4_things_13 : decode cX4_things 13 = .ok (.getfield 48, 3) := by decide +kernel
theorem dX4_things_16 : decode cX4_things 16 = .ok (.iload_n 1, 1) := by decide +kernel
theorem dX4_things_17 : decode cX4_things 17 = .ok (.invokevirtual 142, 3) := by decide +kernel
theorem dX4_things_20 : decode cX4_things 20 = .ok (.ireturn, 1) := by decide +kernel
set_option maxRecDepth 20000 in
theorem ggX4_weight_X3_isThing : GoodIn wsX4_weight wsX3_isThing := goodIn_r _ [6, 7, 22, 23, 24, 25, 26, 27] (by decide +kernel) (by decide +kernel)
set_option maxRecDepth 20000 in
theorem gX4_weight_X3_isThing : GoodIn wsX4_weight (wsV RX4 145 RX3 yX3_isThing wsX3_isThing) := goodIn_app (goodIn_of _ (by decide +kernel)) ggX4_weight_X3_isThing
set_option maxRecDepth 20000 in
theorem ggX4_weight_X4_isWithin : GoodIn wsX4_weight wsX4_isWithin := goodIn_r _ [11] (by decide +kernel) (by decide +kernel)
set_option maxRecDepth 20000 in
theorem gX4_weight_X4_isWithin : GoodIn wsX4_weight (va_wsS RX4 77 yX4_isWithin wsX4_isWithin) := goodIn_app (goodIn_of _ (by decide +kernel)) ggX4_weight_X4_isWithin
set_option maxRecDepth 20000 in
theorem ggX4_weight_X3_setWeight : GoodIn wsX4_weight wsX3_setWeight := goodIn_r _ [15, 16, 22, 23, 24, 25, 26, 27] (by decide +kernel) (by decide +kernel)
set_option maxRecDepth 20000 in
theorem gX4_weight_X3_setWeight : GoodIn wsX4_weight (wsV RX4 148 RX3 yX3_setWeight wsX3_setWeight) := goodIn_app (goodIn_of _ (by decide +kernel)) ggX4_weight_X3_setWeight
theorem dX4_weight_0 : decode cX4_weight 0 = .ok (.aload_n 0, 1) := by decide +kernel
theorem dX4_weight_1 : decode cX4_weight 1 = .ok (.getfield 48, 3) := by decide +kernel
theorem dX4_weight_4 : decode cX4_weight 4 = .ok (.iload_n 1, 1) := by decide +kernel
theorem dX4_weight_5 : decode cX4_weight 5 = .ok (.invokevirtual 145, 3) := by decide +kernel
theorem dX4_weight_8 : decode cX4_weight 8 = .ok (.ifCond .eq 14, 3) := by decide +kernel
theorem dX4_weight_11 : decode cX4_weight 11 = .ok (.iload_n 2, 1) := by decide +kernel
theorem dX4_weight_12 : decode cX4_weight 12 = .ok (.iconst 0, 1) := by decide +kernel
theorem dX4_weight_13 : decode cX4_weight 13 = .ok (.sipush 1000, 3) := by decide +kernel
theorem dX4_weight_16 : decode cX4_weight 16 = .ok (.invokestatic 77, 3) := by decide +kernel
theorem dX4_weight_19 : decode cX4_weight 19 = .ok (.ifCond .ne 5, 3) := by decide +kernel
theorem dX4_weight_22 : decode cX4_weight 22 = .ok (.iconst (-1), 1) := by decide +kernel
theorem dX4_weight_23 : decode cX4_weight 23 = .ok (.ireturn, 1) := by decide +kernel
theorem dX4_weight_24 : decode cX4_weight 24 = .ok (.aload_n 0, 1) := by decide +kernel
theorem dX4_weight_25 : decode cX4_weight 25 = .ok (.getfield 48, 3) := by decide +kernel
theorem dX4_weight_28 : decode cX4_weight 28 = .ok (.iload_n 1, 1) := by decide +kernel
theorem dX4_weight_29 : decode cX4_weight 29 = .ok (.iload_n 2, 1) := by decide +kernel
theorem dX4_weight_30 : decode cX4_weight 30 = .ok (.invokevirtual 148, 3) := by decide +kernel
theorem dX4_weight_33 : decode cX4_weight 33 = .ok (.ireturn, 1) := by decide +kernel
set_option maxRecDepth 20000 in
theorem ggX4_cell_X3_isThing : GoodIn wsX4_cell wsX3_isThing := goodIn_r _ [6, 7, 46, 47, 48, 49, 50, 51] (by decide +kernel) (by decide +kernel)
set_option maxRecDepth 20000 in
theorem gX4_cell_X3_isThing : GoodIn wsX4_cell (wsV RX4 145 RX3 yX3_isThing wsX3_isThing) := goodIn_app (goodIn_of _ (by decide +kernel)) ggX4_cell_X3_isThing
set_option maxRecDepth 20000 in
theorem ggX4_cell_X4_isWithin : GoodIn wsX4_cell wsX4_isWithin := goodIn_r _ [11] (by decide +kernel) (by decide +kernel)
set_option maxRecDepth 20000 in
theorem gX4_cell_X4_isWithin : GoodIn wsX4_cell (va_wsS RX4 77 yX4_isWithin wsX4_isWithin) := goodIn_app (goodIn_of _ (by decide +kernel)) ggX4_cell_X4_isWithin
set_option maxRecDepth 20000 in
theorem ggX4_cell_X3_sum : GoodIn wsX4_cell wsX3_sum := goodIn_r _ [15, 7, 16, 46, 47, 48, 49, 50, 51] (by decide +kernel) (by decide +kernel)
set_option maxRecDepth 20000 in
theorem gX4_cell_X3_sum : GoodIn wsX4_cell (wsV RX4 151 RX3 yX3_sum wsX3_sum) := goodIn_app (goodIn_of _ (by decide +kernel)) ggX4_cell_X3_sum
set_option maxRecDepth 20000 in
theorem ggX4_cell_X3_make : GoodIn wsX4_cell wsX3_make := goodIn_r _ [20, 7, 21, 16, 22, 23, 24, 25, 26, 27, 5, 28, 29, 30, 31, 32, 46, 47, 48, 49, 50, 51] (by decide +kernel) (by decide +kernel)
set_option maxRecDepth 20000 in
theorem gX4_cell_X3_make : GoodIn wsX4_cell (wsV RX4 155 RX3 yX3_make wsX3_make) := goodIn_app (goodIn_of _ (by decide +kernel)) ggX4_cell_X3_make
set_option maxRecDepth 20000 in
theorem ggX4_cell_X3_limitOf : GoodIn wsX4_cell wsX3_limitOf := goodIn_r _ [36, 22, 46, 47, 48, 49, 50, 51] (by decide +kernel) (by decide +kernel)
set_option maxRecDepth 20000 in
theorem gX4_cell_X3_limitOf : GoodIn wsX4_cell (wsV RX4 158 RX3 yX3_limitOf wsX3_limitOf) := goodIn_app (goodIn_of _ (by decide +kernel)) ggX4_cell_X3_limitOf
set_option maxRecDepth 20000 in
theorem ggX4_cell_X3_otherOf : GoodIn wsX4_cell wsX3_otherOf := goodIn_r _ [40, 23, 46, 47, 48, 49, 50, 51] (by decide +kernel) (by decide +kernel)
set_option maxRecDepth 20000 in
theorem gX4_cell_X3_otherOf : GoodIn wsX4_cell (wsV RX4 161 RX3 yX3_otherOf wsX3_otherOf) := goodIn_app (goodIn_of _ (by decide +kernel)) ggX4_cell_X3_otherOf
theorem dX4_cell_0 : decode cX4_cell 0 = .ok (.aload_n 0, 1) := by decide +kernel
theorem dX4_cell_1 : decode cX4_cell 1 = .ok (.getfield 48, 3) := by decide +kernel
theorem dX4_cell_4 : decode cX4_cell 4 = .ok (.iload_n 1, 1) := by decide +kernel
theorem dX4_cell_5 : decode cX4_cell 5 = .ok (.invokevirtual 145, 3) := by decide +kernel
theorem dX4_cell_8 : decode cX4_cell 8 = .ok (.ifCond .eq 12, 3) := by decide +kernel
theorem dX4_cell_11 : decode cX4_cell 11 = .ok (.iload_n 2, 1) := by decide +kernel
theorem dX4_cell_12 : decode cX4_cell 12 = .ok (.iconst 0, 1) := by decide +kernel
theorem dX4_cell_13 : decode cX4_cell 13 = .ok (.iconst 2, 1) := by decide +kernel
theorem dX4_cell_14 : decode cX4_cell 14 = .ok (.invokestatic 77, 3) := by decide +kernel
theorem dX4_cell_17 : decode cX4_cell 17 = .ok (.ifCond .ne 5, 3) := by decide +kernel
theorem dX4_cell_20 : decode cX4_cell 20 = .ok (.iconst (-1), 1) := by decide +kernel
theorem dX4_cell_21 : decode cX4_cell 21 = .ok (.ireturn, 1) := by decide +kernel
theorem dX4_cell_22 : decode cX4_cell 22 = .ok (.aload_n 0, 1) := by decide +kernel
theorem dX4_cell_23 : decode cX4_cell 23 = .ok (.getfield 48, 3) := by decide +kernel
theorem dX4_cell_26 : decode cX4_cell 26 = .ok (.invokevirtual 151, 3) := by decide +kernel
theorem dX4_cell_29 : decode cX4_cell 29 = .ok (.istore_n 3, 1) := by decide +kernel
theorem dX4_cell_30 : decode cX4_cell 30 = .ok (.iload_n 3, 1) := by decide +kernel
theorem dX4_cell_31 : decode cX4_cell 31 = .ok (.ifCond .ne 6, 3) := by decide +kernel
theorem dX4_cell_34 : decode cX4_cell 34 = .ok (.bipush (-2), 2) := by decide +kernel
theorem dX4_cell_36 : decode cX4_cell 36 = .ok (.ireturn, 1) := by decide +kernel
theorem dX4_cell_37 : decode cX4_cell 37 = .ok (.iload_n 2, 1) := by decide +kernel
theorem dX4_cell_38 : decode cX4_cell 38 = .ok (.iconst 2, 1) := by decide +kernel
theorem dX4_cell_39 : decode cX4_cell 39 = .ok (.if_icmp .ne 5, 3) := by decide +kernel
theorem dX4_cell_42 : decode cX4_cell 42 = .ok (.iload_n 3, 1) := by decide +kernel
theorem dX4_cell_43 : decode cX4_cell 43 = .ok (.ireturn, 1) := by decide +kernel
theorem dX4_cell_44 : decode cX4_cell 44 = .ok (.aload_n 0, 1) := by decide +kernel
theorem dX4_cell_45 : decode cX4_cell 45 = .ok (.getfield 48, 3) := by decide +kernel
theorem dX4_cell_48 : decode cX4_cell 48 = .ok (.iload_n 3, 1) := by decide +kernel
theorem dX4_cell_49 : decode cX4_cell 49 = .ok (.invokevirtual 155, 3) := by decide +kernel
theorem dX4_cell_52 : decode cX4_cell 52 = .ok (.iload_n 2, 1) := by decide +kernel
theorem dX4_cell_53 : decode cX4_cell 53 = .ok (.ifCond .ne 14, 3) := by decide +kernel
theorem dX4_cell_56 : decode cX4_cell 56 = .ok (.aload_n 0, 1) := by decide +kernel
theorem dX4_cell_57 : decode cX4_cell 57 = .ok (.getfield 48, 3) := by decide +kernel
theorem dX4_cell_60 : decode cX4_cell 60 = .ok (.iload_n 1, 1) := by decide +kernel
theorem dX4_cell_61 : decode cX4_cell 61 = .ok (.invokevirtual 158, 3) := by decide +kernel
theorem dX4_cell_64 : decode cX4_cell 64 = .ok (.goto 11, 3) := by decide +kernel
theorem dX4_cell_67 : decode cX4_cell 67 = .ok (.aload_n 0, 1) := by decide +kernel
theorem dX4_cell_68 : decode cX4_cell 68 = .ok (.getfield 48, 3) := by decide +kernel
theorem dX4_cell_71 : decode cX4_cell 71 = .ok (.iload_n 1, 1) := by decide +kernel
theorem dX4_cell_72 : decode cX4_cell 72 = .ok (.invokevirtual 161, 3) := by decide +kernel
theorem dX4_cell_75 : decode cX4_cell 75 = .ok (.ireturn, 1) := by decide +kernel
set_option maxRecDepth 20000 in
theorem ggX4_tell_X3_sum : GoodIn wsX4_tell wsX3_sum := goodIn_r _ [6, 7, 8, 42, 43, 44, 45, 46, 47] (by decide +kernel) (by decide +kernel)
set_option maxRecDepth 20000 in
theorem gX4_tell_X3_sum : GoodIn wsX4_tell (wsV RX4 151 RX3 yX3_sum wsX3_sum) := goodIn_app (goodIn_of _ (by decide +kernel)) ggX4_tell_X3_sum
set_option maxRecDepth 20000 in
theorem ggX4_tell_J9_floorDiv_7cf53 : GoodIn wsX4_tell wsJ9_floorDiv_7cf53 := goodIn_r _ [12] (by decide +kernel) (by decide +kernel)
set_option maxRecDepth 20000 in
theorem gX4_tell_J9_floorDiv_7cf53 : GoodIn wsX4_tell (va_wsS RX4 164 yJ9_floorDiv_7cf53 wsJ9_floorDiv_7cf53) := goodIn_app (goodIn_of _ (by decide +kernel)) ggX4_tell_J9_floorDiv_7cf53
set_option maxRecDepth 20000 in
theorem ggX4_tell_X3_isThing : GoodIn wsX4_tell wsX3_isThing := goodIn_r _ [16, 7, 42, 43, 44, 45, 46, 47] (by decide +kernel) (by decide +kernel)
set_option maxRecDepth 20000 in
theorem gX4_tell_X3_isThing : GoodIn wsX4_tell (wsV RX4 145 RX3 yX3_isThing wsX3_isThing) := goodIn_app (goodIn_of _ (by decide +kernel)) ggX4_tell_X3_isThing
set_option maxRecDepth 20000 in
theorem ggX4_tell_X3_make : GoodIn wsX4_tell wsX3_make := goodIn_r _ [20, 7, 21, 8, 22, 23, 24, 25, 26, 27, 5, 28, 29, 30, 31, 32, 42, 43, 44, 45, 46, 47] (by decide +kernel) (by decide +kernel)
set_option maxRecDepth 20000 in
theorem gX4_tell_X3_make : GoodIn wsX4_tell (wsV RX4 155 RX3 yX3_make wsX3_make) := goodIn_app (goodIn_of _ (by decide +kernel)) ggX4_tell_X3_make
set_option maxRecDepth 20000 in
theorem ggX4_tell_X3_thingAt : GoodIn wsX4_tell wsX3_thingAt := goodIn_r _ [36, 22, 23, 42, 43, 44, 45, 46, 47] (by decide +kernel) (by decide +kernel)
set_option maxRecDepth 20000 in
theorem gX4_tell_X3_thingAt : GoodIn wsX4_tell (wsV RX4 167 RX3 yX3_thingAt wsX3_thingAt) := goodIn_app (goodIn_of _ (by decide +kernel)) ggX4_tell_X3_thingAt
theorem dX4_tell_0 : decode cX4_tell 0 = .ok (.aload_n 0, 1) := by decide +kernel
theorem dX4_tell_1 : decode cX4_tell 1 = .ok (.getfield 48, 3) := by decide +kernel
theorem dX4_tell_4 : decode cX4_tell 4 = .ok (.invokevirtual 151, 3) := by decide +kernel
theorem dX4_tell_7 : decode cX4_tell 7 = .ok (.istore_n 2, 1) := by decide +kernel
theorem dX4_tell_8 : decode cX4_tell 8 = .ok (.iload_n 2, 1) := by decide +kernel
theorem dX4_tell_9 : decode cX4_tell 9 = .ok (.ifCond .ne 6, 3) := by decide +kernel
theorem dX4_tell_12 : decode cX4_tell 12 = .ok (.bipush (-2), 2) := by decide +kernel
theorem dX4_tell_14 : decode cX4_tell 14 = .ok (.ireturn, 1) := by decide +kernel
theorem dX4_tell_15 : decode cX4_tell 15 = .ok (.aload_n 0, 1) := by decide +kernel
theorem dX4_tell_16 : decode cX4_tell 16 = .ok (.getfield 48, 3) := by decide +kernel
theorem dX4_tell_19 : decode cX4_tell 19 = .ok (.iload_n 1, 1) := by decide +kernel
theorem dX4_tell_20 : decode cX4_tell 20 = .ok (.iload_n 2, 1) := by decide +kernel
theorem dX4_tell_21 : decode cX4_tell 21 = .ok (.invokestatic 164, 3) := by decide +kernel
theorem dX4_tell_24 : decode cX4_tell 24 = .ok (.invokevirtual 145, 3) := by decide +kernel
theorem dX4_tell_27 : decode cX4_tell 27 = .ok (.ifCond .ne 5, 3) := by decide +kernel
theorem dX4_tell_30 : decode cX4_tell 30 = .ok (.iconst (-1), 1) := by decide +kernel
theorem dX4_tell_31 : decode cX4_tell 31 = .ok (.ireturn, 1) := by decide +kernel
theorem dX4_tell_32 : decode cX4_tell 32 = .ok (.aload_n 0, 1) := by decide +kernel
theorem dX4_tell_33 : decode cX4_tell 33 = .ok (.getfield 48, 3) := by decide +kernel
theorem dX4_tell_36 : decode cX4_tell 36 = .ok (.iload_n 2, 1) := by decide +kernel
theorem dX4_tell_37 : decode cX4_tell 37 = .ok (.invokevirtual 155, 3) := by decide +kernel
theorem dX4_tell_40 : decode cX4_tell 40 = .ok (.aload_n 0, 1) := by decide +kernel
theorem dX4_tell_41 : decode cX4_tell 41 = .ok (.getfield 48, 3) := by decide +kernel
theorem dX4_tell_44 : decode cX4_tell 44 = .ok (.iload_n 1, 1) := by decide +kernel
theorem dX4_tell_45 : decode cX4_tell 45 = .ok (.iload_n 2, 1) := by decide +kernel
theorem dX4_tell_46 : decode cX4_tell 46 = .ok (.idiv, 1) := by decide +kernel
theorem dX4_tell_47 : decode cX4_tell 47 = .ok (.iload_n 1, 1) := by decide +kernel
theorem dX4_tell_48 : decode cX4_tell 48 = .ok (.iload_n 2, 1) := by decide +kernel
theorem dX4_tell_49 : decode cX4_tell 49 = .ok (.irem, 1) := by decide +kernel
theorem dX4_tell_50 : decode cX4_tell 50 = .ok (.invokevirtual 167, 3) := by decide +kernel
theorem dX4_tell_53 : decode cX4_tell 53 = .ok (.ireturn, 1) := by decide +kernel
theorem dX4_isState_0 : decode cX4_isState 0 = .ok (.iload_n 1, 1) := by decide +kernel
theorem dX4_isState_1 : decode cX4_isState 1 = .ok (.ifCond .lt 15, 3) := by decide +kernel
theorem dX4_isState_4 : decode cX4_isState 4 = .ok (.iload_n 1, 1) := by decide +kernel
theorem dX4_isState_5 : decode cX4_isState 5 = .ok (.aload_n 0, 1) := by decide +kernel
theorem dX4_isState_6 : decode cX4_isState 6 = .ok (.getfield 18, 3) := by decide +kernel
theorem dX4_isState_9 : decode cX4_isState 9 = .ok (.if_icmp .ge 7, 3) := by decide +kernel
theorem dX4_isState_12 : decode cX4_isState 12 = .ok (.iconst 1, 1) := by decide +kernel
theorem dX4_isState_13 : decode cX4_isState 13 = .ok (.goto 4, 3) := by decide +kernel
theorem dX4_isState_16 : decode cX4_isState 16 = .ok (.iconst 0, 1) := by decide +kernel
theorem dX4_isState_17 : decode cX4_isState 17 = .ok (.ireturn, 1) := by decide +kernel
theorem dX4_isWithin_0 : decode cX4_isWithin 0 = .ok (.iload_n 0, 1) := by decide +kernel
theorem dX4_isWithin_1 : decode cX4_isWithin 1 = .ok (.iload_n 1, 1) := by decide +kernel
theorem dX4_isWithin_2 : decode cX4_isWithin 2 = .ok (.if_icmp .lt 12, 3) := by decide +kernel
theorem dX4_isWithin_5 : decode cX4_isWithin 5 = .ok (.iload_n 0, 1) := by decide +kernel
theorem dX4_isWithin_6 : decode cX4_isWithin 6 = .ok (.iload_n 2, 1) := by decide +kernel
theorem dX4_isWithin_7 : decode cX4_isWithin 7 = .ok (.if_icmp .gt 7, 3) := by decide +kernel
theorem dX4_isWithin_10 : decode cX4_isWithin 10 = .ok (.iconst 1, 1) := by decide +kernel
theorem dX4_isWithin_11 : decode cX4_isWithin 11 = .ok (.goto 4, 3) := by decide +kernel
theorem dX4_isWithin_14 : decode cX4_isWithin 14 = .ok (.iconst 0, 1) := by decide +kernel
theorem dX4_isWithin_15 : decode cX4_isWithin 15 = .ok (.ireturn, 1) := by decide +kernel
theorem dX4_isBound_0 : decode cX4_isBound 0 = .ok (.lload_n 0, 1) := by decide +kernel
theorem dX4_isBound_1 : decode cX4_isBound 1 = .ok (.lconst 1, 1) := by decide +kernel
theorem dX4_isBound_2 : decode cX4_isBound 2 = .ok (.lcmp, 1) := by decide +kernel
theorem dX4_isBound_3 : decode cX4_isBound 3 = .ok (.ifCond .lt 15, 3) := by decide +kernel
theorem dX4_isBound_6 : decode cX4_isBound 6 = .ok (.lload_n 0, 1) := by decide +kernel
theorem dX4_isBound_7 : decode cX4_isBound 7 = .ok (.ldc2_w 170, 3) := by decide +kernel
theorem dX4_isBound_10 : decode cX4_isBound 10 = .ok (.lcmp, 1) := by decide +kernel
theorem dX4_isBound_11 : decode cX4_isBound 11 = .ok (.ifCond .gt 7, 3) := by decide +kernel
theorem dX4_isBound_14 : decode cX4_isBound 14 = .ok (.iconst 1, 1) := by decide +kernel
theorem dX4_isBound_15 : decode cX4_isBound 15 = .ok (.goto 4, 3) := by decide +kernel
theorem dX4_isBound_18 : decode cX4_isBound 18 = .ok (.iconst 0, 1) := by decide +kernel
theorem dX4_isBound_19 : decode cX4_isBound 19 = .ok (.ireturn, 1) := by decide +kernel
theorem dX4_mixed_0 : decode cX4_mixed 0 = .ok (.iload_n 0, 1) := by decide +kernel
theorem dX4_mixed_1 : decode cX4_mixed 1 = .ok (.iload_n 1, 1) := by decide +kernel
theorem dX4_mixed_2 : decode cX4_mixed 2 = .ok (.ldc 172, 2) := by decide +kernel
theorem dX4_mixed_4 : decode cX4_mixed 4 = .ok (.imul, 1) := by decide +kernel
theorem dX4_mixed_5 : decode cX4_mixed 5 = .ok (.iadd, 1) := by decide +kernel
theorem dX4_mixed_6 : decode cX4_mixed 6 = .ok (.istore_n 2, 1) := by decide +kernel
theorem dX4_mixed_7 : decode cX4_mixed 7 = .ok (.iload_n 2, 1) := by decide +kernel
theorem dX4_mixed_8 : decode cX4_mixed 8 = .ok (.iload_n 2, 1) := by decide +kernel
theorem dX4_mixed_9 : decode cX4_mixed 9 = .ok (.bipush 16, 2) := by decide +kernel
theorem dX4_mixed_11 : decode cX4_mixed 11 = .ok (.iushr, 1) := by decide +kernel
theorem dX4_mixed_12 : decode cX4_mixed 12 = .ok (.ixor, 1) := by decide +kernel
theorem dX4_mixed_13 : decode cX4_mixed 13 = .ok (.ldc 173, 2) := by decide +kernel
theorem dX4_mixed_15 : decode cX4_mixed 15 = .ok (.imul, 1) := by decide +kernel
theorem dX4_mixed_16 : decode cX4_mixed 16 = .ok (.istore_n 2, 1) := by decide +kernel
theorem dX4_mixed_17 : decode cX4_mixed 17 = .ok (.iload_n 2, 1) := by decide +kernel
theorem dX4_mixed_18 : decode cX4_mixed 18 = .ok (.iload_n 2, 1) := by decide +kernel
theorem dX4_mixed_19 : decode cX4_mixed 19 = .ok (.bipush 13, 2) := by decide +kernel
theorem dX4_mixed_21 : decode cX4_mixed 21 = .ok (.iushr, 1) := by decide +kernel
theorem dX4_mixed_22 : decode cX4_mixed 22 = .ok (.ixor, 1) := by decide +kernel
theorem dX4_mixed_23 : decode cX4_mixed 23 = .ok (.ldc 174, 2) := by decide +kernel
theorem dX4_mixed_25 : decode cX4_mixed 25 = .ok (.imul, 1) := by decide +kernel
theorem dX4_mixed_26 : decode cX4_mixed 26 = .ok (.istore_n 2, 1) := by decide +kernel
theorem dX4_mixed_27 : decode cX4_mixed 27 = .ok (.iload_n 2, 1) := by decide +kernel
theorem dX4_mixed_28 : decode cX4_mixed 28 = .ok (.iload_n 2, 1) := by decide +kernel
theorem dX4_mixed_29 : decode cX4_mixed 29 = .ok (.bipush 16, 2) := by decide +kernel
theorem dX4_mixed_31 : decode cX4_mixed 31 = .ok (.iushr, 1) := by decide +kernel
theorem dX4_mixed_32 : decode cX4_mixed 32 = .ok (.ixor, 1) := by decide +kernel
theorem dX4_mixed_33 : decode cX4_mixed 33 = .ok (.ireturn, 1) := by decide +kernel
set_option maxRecDepth 20000 in
theorem ggX4_signAt_X4_mixed : GoodIn wsX4_signAt wsX4_mixed := goodIn_r _ [4, 5, 6, 7] (by decide +kernel) (by decide +kernel)
set_option maxRecDepth 20000 in
theorem gX4_signAt_X4_mixed : GoodIn wsX4_signAt (va_wsS RX4 52 yX4_mixed wsX4_mixed) := goodIn_app (goodIn_of _ (by decide +kernel)) ggX4_signAt_X4_mixed
theorem dX4_signAt_0 : decode cX4_signAt 0 = .ok (.iload_n 0, 1) := by decide +kernel
theorem dX4_signAt_1 : decode cX4_signAt 1 = .ok (.iload_n 1, 1) := by decide +kernel
theorem dX4_signAt_2 : decode cX4_signAt 2 = .ok (.invokestatic 52, 3) := by decide +kernel
theorem dX4_signAt_5 : decode cX4_signAt 5 = .ok (.bipush 29, 2) := by decide +kernel
theorem dX4_signAt_7 : decode cX4_signAt 7 = .ok (.iushr, 1) := by decide +kernel
theorem dX4_signAt_8 : decode cX4_signAt 8 = .ok (.ireturn, 1) := by decide +kernel
theorem dX4_bitsFor_0 : decode cX4_bitsFor 0 = .ok (.iconst 0, 1) := by decide +kernel
theorem dX4_bitsFor_1 : decode cX4_bitsFor 1 = .ok (.istore_n 2, 1) := by decide +kernel
theorem dX4_bitsFor_2 : decode cX4_bitsFor 2 = .ok (.iload_n 2, 1) := by decide +kernel
theorem dX4_bitsFor_3 : decode cX4_bitsFor 3 = .ok (.bipush 62, 2) := by decide +kernel
theorem dX4_bitsFor_5 : decode cX4_bitsFor 5 = .ok (.if_icmp .ge 17, 3) := by decide +kernel
theorem dX4_bitsFor_8 : decode cX4_bitsFor 8 = .ok (.lconst 1, 1) := by decide +kernel
theorem dX4_bitsFor_9 : decode cX4_bitsFor 9 = .ok (.iload_n 2, 1) := by decide +kernel
theorem dX4_bitsFor_10 : decode cX4_bitsFor 10 = .ok (.lshl, 1) := by decide +kernel
theorem dX4_bitsFor_11 : decode cX4_bitsFor 11 = .ok (.lload_n 0, 1) := by decide +kernel
theorem dX4_bitsFor_12 : decode cX4_bitsFor 12 = .ok (.lcmp, 1) := by decide +kernel
theorem dX4_bitsFor_13 : decode cX4_bitsFor 13 = .ok (.ifCond .ge 9, 3) := by decide +kernel
theorem dX4_bitsFor_16 : decode cX4_bitsFor 16 = .ok (.iinc 2 1, 3) := by decide +kernel
theorem dX4_bitsFor_19 : decode cX4_bitsFor 19 = .ok (.goto (-17), 3) := by decide +kernel
theorem dX4_bitsFor_22 : decode cX4_bitsFor 22 = .ok (.iload_n 2, 1) := by decide +kernel
theorem dX4_bitsFor_23 : decode cX4_bitsFor 23 = .ok (.ireturn, 1) := by decide +kernel
theorem dX4_powerFrom_0 : decode cX4_powerFrom 0 = .ok (.iconst 1, 1) := by decide +kernel
theorem dX4_powerFrom_1 : decode cX4_powerFrom 1 = .ok (.istore_n 1, 1) := by decide +kernel
theorem dX4_powerFrom_2 : decode cX4_powerFrom 2 = .ok (.iload_n 1, 1) := by decide +kernel
theorem dX4_powerFrom_3 : decode cX4_powerFrom 3 = .ok (.iload_n 0, 1) := by decide +kernel
theorem dX4_powerFrom_4 : decode cX4_powerFrom 4 = .ok (.if_icmp .ge 17, 3) := by decide +kernel
theorem dX4_powerFrom_7 : decode cX4_powerFrom 7 = .ok (.iload_n 1, 1) := by decide +kernel
theorem dX4_powerFrom_8 : decode cX4_powerFrom 8 = .ok (.sipush 4096, 3) := by decide +kernel
theorem dX4_powerFrom_11 : decode cX4_powerFrom 11 = .ok (.if_icmp .ge 10, 3) := by decide +kernel
theorem dX4_powerFrom_14 : decode cX4_powerFrom 14 = .ok (.iload_n 1, 1) := by decide +kernel
theorem dX4_powerFrom_15 : decode cX4_powerFrom 15 = .ok (.iconst 2, 1) := by decide +kernel
theorem dX4_powerFrom_16 : decode cX4_powerFrom 16 = .ok (.imul, 1) := by decide +kernel
theorem dX4_powerFrom_17 : decode cX4_powerFrom 17 = .ok (.istore_n 1, 1) := by decide +kernel
theorem dX4_powerFrom_18 : decode cX4_powerFrom 18 = .ok (.goto (-16), 3) := by decide +kernel
theorem dX4_powerFrom_21 : decode cX4_powerFrom 21 = .ok (.iload_n 1, 1) := by decide +kernel
theorem dX4_powerFrom_22 : decode cX4_powerFrom 22 = .ok (.ireturn, 1) := by decide +kernel
set_option maxRecDepth 20000 in
theorem ggX4_topBits_X4_mixed : GoodIn wsX4_topBits wsX4_mixed := goodIn_r _ [5, 6, 7, 8] (by decide +kernel) (by decide +kernel)
set_option maxRecDepth 20000 in
theorem gX4_topBits_X4_mixed : GoodIn wsX4_topBits (va_wsS RX4 52 yX4_mixed wsX4_mixed) := goodIn_app (goodIn_of _ (by decide +kernel)) ggX4_topBits_X4_mixed
theorem dX4_topBits_0 : decode cX4_topBits 0 = .ok (.iload_n 2, 1) := by decide +kernel
theorem dX4_topBits_1 : decode cX4_topBits 1 = .ok (.ifCond .ne 5, 3) := by decide +kernel
theorem dX4_topBits_4 : decode cX4_topBits 4 = .ok (.lconst 0, 1) := by decide +kernel
theorem dX4_topBits_5 : decode cX4_topBits 5 = .ok (.lreturn, 1) := by decide +kernel
theorem dX4_topBits_6 : decode cX4_topBits 6 = .ok (.iload_n 0, 1) := by decide +kernel
theorem dX4_topBits_7 : decode cX4_topBits 7 = .ok (.iconst 2, 1) := by decide +kernel
theorem dX4_topBits_8 : decode cX4_topBits 8 = .ok (.iload_n 1, 1) := by decide +kernel
theorem dX4_topBits_9 : decode cX4_topBits 9 = .ok (.imul, 1) := by decide +kernel
theorem dX4_topBits_10 : decode cX4_topBits 10 = .ok (.iconst 1, 1) := by decide +kernel
theorem dX4_topBits_11 : decode cX4_topBits 11 = .ok (.iadd, 1) := by decide +kernel
theorem dX4_topBits_12 : decode cX4_topBits 12 = .ok (.invokestatic 52, 3) := by decide +kernel
theorem dX4_topBits_15 : decode cX4_topBits 15 = .ok (.i2l, 1) := by decide +kernel
theorem dX4_topBits_16 : decode cX4_topBits 16 = .ok (.bipush 32, 2) := by decide +kernel
theorem dX4_topBits_18 : decode cX4_topBits 18 = .ok (.lshl, 1) := by decide +kernel
theorem dX4_topBits_19 : decode cX4_topBits 19 = .ok (.lstore_n 3, 1) := by decide +kernel
theorem dX4_topBits_20 : decode cX4_topBits 20 = .ok (.iload_n 0, 1) := by decide +kernel
theorem dX4_topBits_21 : decode cX4_topBits 21 = .ok (.iconst 2, 1) := by decide +kernel
theorem dX4_topBits_22 : decode cX4_topBits 22 = .ok (.iload_n 1, 1) := by decide +kernel
theorem dX4_topBits_23 : decode cX4_topBits 23 = .ok (.imul, 1) := by decide +kernel
theorem dX4_topBits_24 : decode cX4_topBits 24 = .ok (.iconst 2, 1) := by decide +kernel
theorem dX4_topBits_25 : decode cX4_topBits 25 = .ok (.iadd, 1) := by decide +kernel
theorem dX4_topBits_26 : decode cX4_topBits 26 = .ok (.invokestatic 52, 3) := by decide +kernel
theorem dX4_topBits_29 : decode cX4_topBits 29 = .ok (.i2l, 1) := by decide +kernel
theorem dX4_topBits_30 : decode cX4_topBits 30 = .ok (.ldc2_w 175, 3) := by decide +kernel
theorem dX4_topBits_33 : decode cX4_topBits 33 = .ok (.land, 1) := by decide +kernel
theorem dX4_topBits_34 : decode cX4_topBits 34 = .ok (.lstore 5, 2) := by decide +kernel
theorem dX4_topBits_36 : decode cX4_topBits 36 = .ok (.lload_n 3, 1) := by decide +kernel
theorem dX4_topBits_37 : decode cX4_topBits 37 = .ok (.lload 5, 2) := by decide +kernel
theorem dX4_topBits_39 : decode cX4_topBits 39 = .ok (.lor, 1) := by decide +kernel
theorem dX4_topBits_40 : decode cX4_topBits 40 = .ok (.bipush 64, 2) := by decide +kernel
theorem dX4_topBits_42 : decode cX4_topBits 42 = .ok (.iload_n 2, 1) := by decide +kernel
theorem dX4_topBits_43 : decode cX4_topBits 43 = .ok (.isub, 1) := by decide +kernel
theorem dX4_topBits_44 : decode cX4_topBits 44 = .ok (.lushr, 1) := by decide +kernel
theorem dX4_topBits_45 : decode cX4_topBits 45 = .ok (.lreturn, 1) := by decide +kernel
set_option maxRecDepth 20000 in
theorem ggX4_firstBelow_X4_topBits : GoodIn wsX4_firstBelow wsX4_topBits := goodIn_r _ [5, 6, 7, 8, 4, 9, 10, 11, 12] (by decide +kernel) (by decide +kernel)
set_option maxRecDepth 20000 in
theorem gX4_firstBelow_X4_topBits : GoodIn wsX4_firstBelow (va_wsS RX4 69 yX4_topBits wsX4_topBits) := goodIn_app (goodIn_of _ (by decide +kernel)) ggX4_firstBelow_X4_topBits
theorem dX4_firstBelow_0 : decode cX4_firstBelow 0 = .ok (.iconst 0, 1) := by decide +kernel
theorem dX4_firstBelow_1 : decode cX4_firstBelow 1 = .ok (.istore 4, 2) := by decide +kernel
theorem dX4_firstBelow_3 : decode cX4_firstBelow 3 = .ok (.iload 4, 2) := by decide +kernel
theorem dX4_firstBelow_5 : decode cX4_firstBelow 5 = .ok (.ldc 177, 2) := by decide +kernel
theorem dX4_firstBelow_7 : decode cX4_firstBelow 7 = .ok (.if_icmp .ge 21, 3) := by decide +kernel
theorem dX4_firstBelow_10 : decode cX4_firstBelow 10 = .ok (.iload_n 0, 1) := by decide +kernel
theorem dX4_firstBelow_11 : decode cX4_firstBelow 11 = .ok (.iload 4, 2) := by decide +kernel
theorem dX4_firstBelow_13 : decode cX4_firstBelow 13 = .ok (.iload_n 3, 1) := by decide +kernel
theorem dX4_firstBelow_14 : decode cX4_firstBelow 14 = .ok (.invokestatic 69, 3) := by decide +kernel
theorem dX4_firstBelow_17 : decode cX4_firstBelow 17 = .ok (.lload_n 1, 1) := by decide +kernel
theorem dX4_firstBelow_18 : decode cX4_firstBelow 18 = .ok (.lcmp, 1) := by decide +kernel
theorem dX4_firstBelow_19 : decode cX4_firstBelow 19 = .ok (.ifCond .lt 9, 3) := by decide +kernel
theorem dX4_firstBelow_22 : decode cX4_firstBelow 22 = .ok (.iinc 4 1, 3) := by decide +kernel
theorem dX4_firstBelow_25 : decode cX4_firstBelow 25 = .ok (.goto (-22), 3) := by decide +kernel
theorem dX4_firstBelow_28 : decode cX4_firstBelow 28 = .ok (.iload 4, 2) := by decide +kernel
theorem dX4_firstBelow_30 : decode cX4_firstBelow 30 = .ok (.ireturn, 1) := by decide +kernel
theorem dX5_init_0 : decode cX5_init 0 = .ok (.aload_n 0, 1) := by decide +kernel
theorem dX5_init_1 : decode cX5_init 1 = .ok (.invokespecial 1, 3) := by decide +kernel
theorem dX5_init_4 : decode cX5_init 4 = .ok (.aload_n 0, 1) := by decide +kernel
theorem dX5_init_5 : decode cX5_init 5 = .ok (.bipush 96, 2) := by decide +kernel
theorem dX5_init_7 : decode cX5_init 7 = .ok (.newarray .int, 2) := by decide +kernel
theorem dX5_init_9 : decode cX5_init 9 = .ok (.putfield 7, 3) := by decide +kernel
theorem dX5_init_12 : decode cX5_init 12 = .ok (.aload_n 0, 1) := by decide +kernel
theorem dX5_init_13 : decode cX5_init 13 = .ok (.bipush 48, 2) := by decide +kernel
theorem dX5_init_15 : decode cX5_init 15 = .ok (.newarray .int, 2) := by decide +kernel
theorem dX5_init_17 : decode cX5_init 17 = .ok (.putfield 13, 3) := by decide +kernel
theorem dX5_init_20 : decode cX5_init 20 = .ok (.aload_n 0, 1) := by decide +kernel
theorem dX5_init_21 : decode cX5_init 21 = .ok (.bipush 12, 2) := by decide +kernel
theorem dX5_init_23 : decode cX5_init 23 = .ok (.newarray .boolean, 2) := by decide +kernel
theorem dX5_init_25 : decode cX5_init 25 = .ok (.putfield 16, 3) := by decide +kernel
theorem dX5_init_28 : decode cX5_init 28 = .ok (.aload_n 0, 1) := by decide +kernel
theorem dX5_init_29 : decode cX5_init 29 = .ok (.bipush 64, 2) := by decide +kernel
theorem dX5_init_31 : decode cX5_init 31 = .ok (.newarray .boolean, 2) := by decide +kernel
theorem dX5_init_33 : decode cX5_init 33 = .ok (.putfield 20, 3) := by decide +kernel
theorem dX5_init_36 : decode cX5_init 36 = .ok (.aload_n 0, 1) := by decide +kernel
theorem dX5_init_37 : decode cX5_init 37 = .ok (.iconst 1, 1) := by decide +kernel
theorem dX5_init_38 : decode cX5_init 38 = .ok (.putfield 23, 3) := by decide +kernel
theorem dX5_init_41 : decode cX5_init 41 = .ok (.aload_n 0, 1) := by decide +kernel
theorem dX5_init_42 : decode cX5_init 42 = .ok (.bipush 16, 2) := by decide +kernel
theorem dX5_init_44 : decode cX5_init 44 = .ok (.newarray .int, 2) := by decide +kernel
theorem dX5_init_46 : decode cX5_init 46 = .ok (.putfield 27, 3) := by decide +kernel
theorem dX5_init_49 : decode cX5_init 49 = .ok (.aload_n 0, 1) := by decide +kernel
theorem dX5_init_50 : decode cX5_init 50 = .ok (.bipush 12, 2) := by decide +kernel
theorem dX5_init_52 : decode cX5_init 52 = .ok (.newarray .int, 2) := by decide +kernel
theorem dX5_init_54 : decode cX5_init 54 = .ok (.putfield 30, 3) := by decide +kernel
theorem dX5_init_57 : decode cX5_init 57 = .ok (.aload_n 0, 1) := by decide +kernel
theorem dX5_init_58 : decode cX5_init 58 = .ok (.bipush 12, 2) := by decide +kernel
theorem dX5_init_60 : decode cX5_init 60 = .ok (.newarray .int, 2) := by decide +kernel
theorem dX5_init_62 : decode cX5_init 62 = .ok (.putfield 33, 3) := by decide +kernel
theorem dX5_init_65 : decode cX5_init 65 = .ok (.aload_n 0, 1) := by decide +kernel
theorem dX5_init_66 : decode cX5_init 66 = .ok (.sipush 144, 3) := by decide +kernel
theorem dX5_init_69 : decode cX5_init 69 = .ok (.newarray .int, 2) := by decide +kernel
theorem dX5_init_71 : decode cX5_init 71 = .ok (.putfield 36, 3) := by decide +kernel
theorem dX5_init_74 : decode cX5_init 74 = .ok (.aload_n 0, 1) := by decide +kernel
theorem dX5_init_75 : decode cX5_init 75 = .ok (.sipush 144, 3) := by decide +kernel
theorem dX5_init_78 : decode cX5_init 78 = .ok (.newarray .int, 2) := by decide +kernel
theorem dX5_init_80 : decode cX5_init 80 = .ok (.putfield 39, 3) := by decide +kernel
theorem dX5_init_83 : decode cX5_init 83 = .ok (.aload_n 0, 1) := by decide +kernel
theorem dX5_init_84 : decode cX5_init 84 = .ok (.sipush 144, 3) := by decide +kernel
theorem dX5_init_87 : decode cX5_init 87 = .ok (.newarray .long, 2) := by decide +kernel
theorem dX5_init_89 : decode cX5_init 89 = .ok (.putfield 42, 3) := by decide +kernel
theorem dX5_init_92 : decode cX5_init 92 = .ok (.aload_n 0, 1) := by decide +kernel
theorem dX5_init_93 : decode cX5_init 93 = .ok (.sipush 312, 3) := by decide +kernel
theorem dX5_init_96 : decode cX5_init 96 = .ok (.newarray .long, 2) := by decide +kernel
theorem dX5_init_98 : decode cX5_init 98 = .ok (.putfield 46, 3) := by decide +kernel
theorem dX5_init_101 : decode cX5_init 101 = .ok (.aload_n 0, 1) := by decide +kernel
theorem dX5_init_102 : decode cX5_init 102 = .ok (.sipush 256, 3) := by decide +kernel
theorem dX5_init_105 : decode cX5_init 105 = .ok (.newarray .int, 2) := by decide +kernel
theorem dX5_init_107 : decode cX5_init 107 = .ok (.putfield 49, 3) := by decide +kernel
theorem dX5_init_110 : decode cX5_init 110 = .ok (.aload_n 0, 1) := by decide +kernel
theorem dX5_init_111 : decode cX5_init 111 = .ok (.bipush 16, 2) := by decide +kernel
theorem dX5_init_113 : decode cX5_init 113 = .ok (.newarray .int, 2) := by decide +kernel
theorem dX5_init_115 : decode cX5_init 115 = .ok (.putfield 52, 3) := by decide +kernel
theorem dX5_init_118 : decode cX5_init 118 = .ok (.aload_n 0, 1) := by decide +kernel
theorem dX5_init_119 : decode cX5_init 119 = .ok (.bipush 16, 2) := by decide +kernel
theorem dX5_init_121 : decode cX5_init 121 = .ok (.newarray .int, 2) := by decide +kernel
theorem dX5_init_123 : decode cX5_init 123 = .ok (.putfield 55, 3) := by decide +kernel
theorem dX5_init_126 : decode cX5_init 126 = .ok (.aload_n 0, 1) := by decide +kernel
theorem dX5_init_127 : decode cX5_init 127 = .ok (.bipush 16, 2) := by decide +kernel
theorem dX5_init_129 : decode cX5_init 129 = .ok (.newarray .int, 2) := by decide +kernel
theorem dX5_init_131 : decode cX5_init 131 = .ok (.putfield 58, 3) := by decide +kernel
theorem dX5_init_134 : decode cX5_init 134 = .ok (.aload_n 0, 1) := by decide +kernel
theorem dX5_init_135 : decode cX5_init 135 = .ok (.bipush 16, 2) := by decide +kernel
theorem dX5_init_137 : decode cX5_init 137 = .ok (.newarray .boolean, 2) := by decide +kernel
theorem dX5_init_139 : decode cX5_init 139 = .ok (.putfield 61, 3) := by decide +kernel
theorem dX5_init_142 : decode cX5_init 142 = .ok (.aload_n 0, 1) := by decide +kernel
theorem dX5_init_143 : decode cX5_init 143 = .ok (.iload_n 1, 1) := by decide +kernel
theorem dX5_init_144 : decode cX5_init 144 = .ok (.iconst 1, 1) := by decide +kernel
theorem dX5_init_145 : decode cX5_init 145 = .ok (.if_icmp .ge 7, 3) := by decide +kernel
theorem dX5_init_148 : decode cX5_init 148 = .ok (.iconst 1, 1) := by decide +kernel
theorem dX5_init_149 : decode cX5_init 149 = .ok (.goto 15, 3) := by decide +kernel
theorem dX5_init_152 : decode cX5_init 152 = .ok (.iload_n 1, 1) := by decide +kernel
theorem dX5_init_153 : decode cX5_init 153 = .ok (.bipush 12, 2) := by decide +kernel
theorem dX5_init_155 : decode cX5_init 155 = .ok (.if_icmp .le 8, 3) := by decide +kernel
theorem dX5_init_158 : decode cX5_init 158 = .ok (.bipush 12, 2) := by decide +kernel
theorem dX5_init_160 : decode cX5_init 160 = .ok (.goto 4, 3) := by decide +kernel
theorem dX5_init_163 : decode cX5_init 163 = .ok (.iload_n 1, 1) := by decide +kernel
theorem dX5_init_164 : decode cX5_init 164 = .ok (.putfield 64, 3) := by decide +kernel
theorem dX5_init_167 : decode cX5_init 167 = .ok (.iconst 0, 1) := by decide +kernel
theorem dX5_init_168 : decode cX5_init 168 = .ok (.istore_n 2, 1) := by decide +kernel
theorem dX5_init_169 : decode cX5_init 169 = .ok (.iload_n 2, 1) := by decide +kernel
theorem dX5_init_170 : decode cX5_init 170 = .ok (.aload_n 0, 1) := by decide +kernel
theorem dX5_init_171 : decode cX5_init 171 = .ok (.getfield 64, 3) := by decide +kernel
theorem dX5_init_174 : decode cX5_init 174 = .ok (.if_icmp .ge 60, 3) := by decide +kernel
theorem dX5_init_177 : decode cX5_init 177 = .ok (.iconst 0, 1) := by decide +kernel
theorem dX5_init_178 : decode cX5_init 178 = .ok (.istore_n 3, 1) := by decide +kernel
theorem dX5_init_179 : decode cX5_init 179 = .ok (.iload_n 3, 1) := by decide +kernel
theorem dX5_init_180 : decode cX5_init 180 = .ok (.bipush 8, 2) := by decide +kernel
theorem dX5_init_182 : decode cX5_init 182 = .ok (.if_icmp .ge 21, 3) := by decide +kernel
theorem dX5_init_185 : decode cX5_init 185 = .ok (.aload_n 0, 1) := by decide +kernel
theorem dX5_init_186 : decode cX5_init 186 = .ok (.getfield 7, 3) := by decide +kernel
theorem dX5_init_189 : decode cX5_init 189 = .ok (.bipush 8, 2) := by decide +kernel
theorem dX5_init_191 : decode cX5_init 191 = .ok (.iload_n 2, 1) := by decide +kernel
theorem dX5_init_192 : decode cX5_init 192 = .ok (.imul, 1) := by decide +kernel
theorem dX5_init_193 : decode cX5_init 193 = .ok (.iload_n 3, 1) := by decide +kernel
theorem dX5_init_194 : decode cX5_init 194 = .ok (.iadd, 1) := by decide +kernel
theorem dX5_init_195 : decode cX5_init 195 = .ok (.iload_n 2, 1) := by decide +kernel
theorem dX5_init_196 : decode cX5_init 196 = .ok (.iastore, 1) := by decide +kernel
theorem dX5_init_197 : decode cX5_init 197 = .ok (.iinc 3 1, 3) := by decide +kernel
theorem dX5_init_200 : decode cX5_init 200 = .ok (.goto (-21), 3) := by decide +kernel
theorem dX5_init_203 : decode cX5_init 203 = .ok (.iconst 0, 1) := by decide +kernel
theorem dX5_init_204 : decode cX5_init 204 = .ok (.istore_n 3, 1) := by decide +kernel
theorem dX5_init_205 : decode cX5_init 205 = .ok (.iload_n 3, 1) := by decide +kernel
theorem dX5_init_206 : decode cX5_init 206 = .ok (.iconst 4, 1) := by decide +kernel
theorem dX5_init_207 : decode cX5_init 207 = .ok (.if_icmp .ge 21, 3) := by decide +kernel
theorem dX5_init_210 : decode cX5_init 210 = .ok (.aload_n 0, 1) := by decide +kernel
theorem dX5_init_211 : decode cX5_init 211 = .ok (.getfield 13, 3) := by decide +kernel
theorem dX5_init_214 : decode cX5_init 214 = .ok (.iconst 4, 1) := by decide +kernel
theorem dX5_init_215 : decode cX5_init 215 = .ok (.iload_n 2, 1) := by decide +kernel
theorem dX5_init_216 : decode cX5_init 216 = .ok (.imul, 1) := by decide +kernel
theorem dX5_init_217 : decode cX5_init 217 = .ok (.iload_n 3, 1) := by decide +kernel
theorem dX5_init_218 : decode cX5_init 218 = .ok (.iadd, 1) := by decide +kernel
theorem dX5_init_219 : decode cX5_init 219 = .ok (.bipush (-2), 2) := by decide +kernel
theorem dX5_init_221 : decode cX5_init 221 = .ok (.iastore, 1) := by decide +kernel
theorem dX5_init_222 : decode cX5_init 222 = .ok (.iinc 3 1, 3) := by decide +kernel
theorem dX5_init_225 : decode cX5_init 225 = .ok (.goto (-20), 3) := by decide +kernel
theorem dX5_init_228 : decode cX5_init 228 = .ok (.iinc 2 1, 3) := by decide +kernel
theorem dX5_init_231 : decode cX5_init 231 = .ok (.goto (-62), 3) := by decide +kernel
theorem dX5_init_234 : decode cX5_init 234 = .ok (.iconst 0, 1) := by decide +kernel
theorem dX5_init_235 : decode cX5_init 235 = .ok (.istore_n 2, 1) := by decide +kernel
theorem dX5_init_236 : decode cX5_init 236 = .ok (.iload_n 2, 1) := by decide +kernel
theorem dX5_init_237 : decode cX5_init 237 = .ok (.bipush 64, 2) := by decide +kernel
theorem dX5_init_239 : decode cX5_init 239 = .ok (.if_icmp .ge 16, 3) := by decide +kernel
theorem dX5_init_242 : decode cX5_init 242 = .ok (.aload_n 0, 1) := by decide +kernel
theorem dX5_init_243 : decode cX5_init 243 = .ok (.getfield 20, 3) := by decide +kernel
theorem dX5_init_246 : decode cX5_init 246 = .ok (.iload_n 2, 1) := by decide +kernel
theorem dX5_init_247 : decode cX5_init 247 = .ok (.iconst 1, 1) := by decide +kernel
theorem dX5_init_248 : decode cX5_init 248 = .ok (.bastore, 1) := by decide +kernel
theorem dX5_init_249 : decode cX5_init 249 = .ok (.iinc 2 1, 3) := by decide +kernel
theorem dX5_init_252 : decode cX5_init 252 = .ok (.goto (-16), 3) := by decide +kernel
theorem dX5_init_255 : decode cX5_init 255 = .ok (.aload_n 0, 1) := by decide +kernel
theorem dX5_init_256 : decode cX5_init 256 = .ok (.getfield 27, 3) := by decide +kernel
theorem dX5_init_259 : decode cX5_init 259 = .ok (.iconst 0, 1) := by decide +kernel
theorem dX5_init_260 : decode cX5_init 260 = .ok (.iconst 1, 1) := by decide +kernel
theorem dX5_init_261 : decode cX5_init 261 = .ok (.iastore, 1) := by decide +kernel
theorem dX5_init_262 : decode cX5_init 262 = .ok (.return_, 1) := by decide +kernel
theorem dX5_in_0 : decode cX5_in 0 = .ok (.lload_n 0, 1) := by decide +kernel
theorem dX5_in_1 : decode cX5_in 1 = .ok (.lload_n 2, 1) := by decide +kernel
theorem dX5_in_2 : decode cX5_in 2 = .ok (.lcmp, 1) := by decide +kernel
theorem dX5_in_3 : decode cX5_in 3 = .ok (.ifCond .lt 14, 3) := by decide +kernel
theorem dX5_in_6 : decode cX5_in 6 = .ok (.lload_n 0, 1) := by decide +kernel
theorem dX5_in_7 : decode cX5_in 7 = .ok (.lload 4, 2) := by decide +kernel
theorem dX5_in_9 : decode cX5_in 9 = .ok (.lcmp, 1) := by decide +kernel
theorem dX5_in_10 : decode cX5_in 10 = .ok (.ifCond .gt 7, 3) := by decide +kernel
theorem dX5_in_13 : decode cX5_in 13 = .ok (.iconst 1, 1) := by decide +kernel
theorem dX5_in_14 : decode cX5_in 14 = .ok (.goto 4, 3) := by decide +kernel
theorem dX5_in_17 : decode cX5_in 17 = .ok (.iconst 0, 1) := by decide +kernel
theorem dX5_in_18 : decode cX5_in 18 = .ok (.ireturn, 1) := by decide +kernel
set_option maxRecDepth 20000 in
theorem ggX5_isState_X5_in : GoodIn wsX5_isState wsX5_in := goodIn_r _ [5] (by decide +kernel) (by decide +kernel)
set_option maxRecDepth 20000 in
theorem gX5_isState_X5_in : GoodIn wsX5_isState (va_wsS RX5 67 yX5_in wsX5_in) := goodIn_app (goodIn_of _ (by decide +kernel)) ggX5_isState_X5_in
theorem dX5_isState_0 : decode cX5_isState 0 = .ok (.iload_n 1, 1) := by decide +kernel
theorem dX5_isState_1 : decode cX5_isState 1 = .ok (.i2l, 1) := by decide +kernel
theorem dX5_isState_2 : decode cX5_isState 2 = .ok (.lconst 0, 1) := by decide +kernel
theorem dX5_isState_3 : decode cX5_isState 3 = .ok (.aload_n 0, 1) := by decide +kernel
theorem dX5_isState_4 : decode cX5_isState 4 = .ok (.getfield 64, 3) := by decide +kernel
theorem dX5_isState_7 : decode cX5_isState 7 = .ok (.iconst 1, 1) := by decide +kernel
theorem dX5_isState_8 : decode cX5_isState 8 = .ok (.isub, 1) := by decide +kernel
theorem dX5_isState_9 : decode cX5_isState 9 = .ok (.i2l, 1) := by decide +kernel
theorem dX5_isState_10 : decode cX5_isState 10 = .ok (.invokestatic 67, 3) := by decide +kernel
theorem dX5_isState_13 : decode cX5_isState 13 = .ok (.ireturn, 1) := by decide +kernel
theorem dX5_hash_0 : decode cX5_hash 0 = .ok (.iload_n 1, 1) := by decide +kernel
theorem dX5_hash_1 : decode cX5_hash 1 = .ok (.iload_n 2, 1) := by decide +kernel
theorem dX5_hash_2 : decode cX5_hash 2 = .ok (.ldc 71, 2) := by decide +kernel
theorem dX5_hash_4 : decode cX5_hash 4 = .ok (.imul, 1) := by decide +kernel
theorem dX5_hash_5 : decode cX5_hash 5 = .ok (.iadd, 1) := by decide +kernel
theorem dX5_hash_6 : decode cX5_hash 6 = .ok (.istore_n 3, 1) := by decide +kernel
theorem dX5_hash_7 : decode cX5_hash 7 = .ok (.iload_n 3, 1) := by decide +kernel
theorem dX5_hash_8 : decode cX5_hash 8 = .ok (.iload_n 3, 1) := by decide +kernel
theorem dX5_hash_9 : decode cX5_hash 9 = .ok (.bipush 16, 2) := by decide +kernel
theorem dX5_hash_11 : decode cX5_hash 11 = .ok (.iushr, 1) := by decide +kernel
theorem dX5_hash_12 : decode cX5_hash 12 = .ok (.ixor, 1) := by decide +kernel
theorem dX5_hash_13 : decode cX5_hash 13 = .ok (.ldc 72, 2) := by decide +kernel
theorem dX5_hash_15 : decode cX5_hash 15 = .ok (.imul, 1) := by decide +kernel
theorem dX5_hash_16 : decode cX5_hash 16 = .ok (.istore_n 3, 1) := by decide +kernel
theorem dX5_hash_17 : decode cX5_hash 17 = .ok (.iload_n 3, 1) := by decide +kernel
end
section
theorem dX5_hash_18 : decode cX5_hash 18 = .ok (.iload_n 3, 1) := by decide +kernel
theorem dX5_hash_19 : decode cX5_hash 19 = .ok (.bipush 13, 2) := by decide +kernel
theorem dX5_hash_21 : decode cX5_hash 21 = .ok (.iushr, 1) := by decide +kernel
theorem dX5_hash_22 : decode cX5_hash 22 = .ok (.ixor, 1) := by decide +kernel
theorem dX5_hash_23 : decode cX5_hash 23 = .ok (.ldc 73, 2) := by decide +kernel
theorem dX5_hash_25 : decode cX5_hash 25 = .ok (.imul, 1) := by decide +kernel
theorem dX5_hash_26 : decode cX5_hash 26 = .ok (.istore_n 3, 1) := by decide +kernel
theorem dX5_hash_27 : decode cX5_hash 27 = .ok (.iload_n 3, 1) := by decide +kernel
theorem dX5_hash_28 : decode cX5_hash 28 = .ok (.iload_n 3, 1) := by decide +kernel
theorem dX5_hash_29 : decode cX5_hash 29 = .ok (.bipush 16, 2) := by decide +kernel
theorem dX5_hash_31 : decode cX5_hash 31 = .ok (.iushr, 1) := by decide +kernel
theorem dX5_hash_32 : decode cX5_hash 32 = .ok (.ixor, 1) := by decide +kernel
theorem dX5_hash_33 : decode cX5_hash 33 = .ok (.ireturn, 1) := by decide +kernel
set_option maxRecDepth 20000 in
theorem ggX5_sign_X5_hash : GoodIn wsX5_sign wsX5_hash := goodIn_r _ [5, 6, 7, 8] (by decide +kernel) (by decide +kernel)
set_option maxRecDepth 20000 in
theorem gX5_sign_X5_hash : GoodIn wsX5_sign (wsV RX5 74 RX5 yX5_hash wsX5_hash) := goodIn_app (goodIn_of _ (by decide +kernel)) ggX5_sign_X5_hash
theorem dX5_sign_0 : decode cX5_sign 0 = .ok (.aload_n 0, 1) := by decide +kernel
theorem dX5_sign_1 : decode cX5_sign 1 = .ok (.iload_n 1, 1) := by decide +kernel
theorem dX5_sign_2 : decode cX5_sign 2 = .ok (.iload_n 2, 1) := by decide +kernel
theorem dX5_sign_3 : decode cX5_sign 3 = .ok (.invokevirtual 74, 3) := by decide +kernel
theorem dX5_sign_6 : decode cX5_sign 6 = .ok (.bipush 29, 2) := by decide +kernel
theorem dX5_sign_8 : decode cX5_sign 8 = .ok (.iushr, 1) := by decide +kernel
theorem dX5_sign_9 : decode cX5_sign 9 = .ok (.ireturn, 1) := by decide +kernel
set_option maxRecDepth 20000 in
theorem ggX5_find_X5_hash : GoodIn wsX5_find wsX5_hash := goodIn_r _ [8, 9, 10, 11] (by decide +kernel) (by decide +kernel)
set_option maxRecDepth 20000 in
theorem gX5_find_X5_hash : GoodIn wsX5_find (wsV RX5 74 RX5 yX5_hash wsX5_hash) := goodIn_app (goodIn_of _ (by decide +kernel)) ggX5_find_X5_hash
theorem dX5_find_0 : decode cX5_find 0 = .ok (.iconst 0, 1) := by decide +kernel
theorem dX5_find_1 : decode cX5_find 1 = .ok (.istore 4, 2) := by decide +kernel
theorem dX5_find_3 : decode cX5_find 3 = .ok (.lconst 1, 1) := by decide +kernel
theorem dX5_find_4 : decode cX5_find 4 = .ok (.iload 4, 2) := by decide +kernel
theorem dX5_find_6 : decode cX5_find 6 = .ok (.lshl, 1) := by decide +kernel
theorem dX5_find_7 : decode cX5_find 7 = .ok (.lload_n 2, 1) := by decide +kernel
theorem dX5_find_8 : decode cX5_find 8 = .ok (.lcmp, 1) := by decide +kernel
theorem dX5_find_9 : decode cX5_find 9 = .ok (.ifCond .ge 9, 3) := by decide +kernel
theorem dX5_find_12 : decode cX5_find 12 = .ok (.iinc 4 1, 3) := by decide +kernel
theorem dX5_find_15 : decode cX5_find 15 = .ok (.goto (-12), 3) := by decide +kernel
theorem dX5_find_18 : decode cX5_find 18 = .ok (.aload_n 0, 1) := by decide +kernel
theorem dX5_find_19 : decode cX5_find 19 = .ok (.iconst 0, 1) := by decide +kernel
theorem dX5_find_20 : decode cX5_find 20 = .ok (.putfield 78, 3) := by decide +kernel
theorem dX5_find_23 : decode cX5_find 23 = .ok (.aload_n 0, 1) := by decide +kernel
theorem dX5_find_24 : decode cX5_find 24 = .ok (.lload_n 2, 1) := by decide +kernel
theorem dX5_find_25 : decode cX5_find 25 = .ok (.putfield 81, 3) := by decide +kernel
theorem dX5_find_28 : decode cX5_find 28 = .ok (.aload_n 0, 1) := by decide +kernel
theorem dX5_find_29 : decode cX5_find 29 = .ok (.getfield 81, 3) := by decide +kernel
theorem dX5_find_32 : decode cX5_find 32 = .ok (.lload_n 2, 1) := by decide +kernel
theorem dX5_find_33 : decode cX5_find 33 = .ok (.lcmp, 1) := by decide +kernel
theorem dX5_find_34 : decode cX5_find 34 = .ok (.ifCond .lt 75, 3) := by decide +kernel
theorem dX5_find_37 : decode cX5_find 37 = .ok (.aload_n 0, 1) := by decide +kernel
theorem dX5_find_38 : decode cX5_find 38 = .ok (.iload_n 1, 1) := by decide +kernel
theorem dX5_find_39 : decode cX5_find 39 = .ok (.iconst 2, 1) := by decide +kernel
theorem dX5_find_40 : decode cX5_find 40 = .ok (.aload_n 0, 1) := by decide +kernel
theorem dX5_find_41 : decode cX5_find 41 = .ok (.getfield 78, 3) := by decide +kernel
theorem dX5_find_44 : decode cX5_find 44 = .ok (.imul, 1) := by decide +kernel
theorem dX5_find_45 : decode cX5_find 45 = .ok (.iconst 1, 1) := by decide +kernel
theorem dX5_find_46 : decode cX5_find 46 = .ok (.iadd, 1) := by decide +kernel
theorem dX5_find_47 : decode cX5_find 47 = .ok (.invokevirtual 74, 3) := by decide +kernel
theorem dX5_find_50 : decode cX5_find 50 = .ok (.i2l, 1) := by decide +kernel
theorem dX5_find_51 : decode cX5_find 51 = .ok (.bipush 32, 2) := by decide +kernel
theorem dX5_find_53 : decode cX5_find 53 = .ok (.lshl, 1) := by decide +kernel
theorem dX5_find_54 : decode cX5_find 54 = .ok (.aload_n 0, 1) := by decide +kernel
theorem dX5_find_55 : decode cX5_find 55 = .ok (.iload_n 1, 1) := by decide +kernel
theorem dX5_find_56 : decode cX5_find 56 = .ok (.iconst 2, 1) := by decide +kernel
theorem dX5_find_57 : decode cX5_find 57 = .ok (.aload_n 0, 1) := by decide +kernel
theorem dX5_find_58 : decode cX5_find 58 = .ok (.getfield 78, 3) := by decide +kernel
theorem dX5_find_61 : decode cX5_find 61 = .ok (.imul, 1) := by decide +kernel
theorem dX5_find_62 : decode cX5_find 62 = .ok (.iconst 2, 1) := by decide +kernel
theorem dX5_find_63 : decode cX5_find 63 = .ok (.iadd, 1) := by decide +kernel
theorem dX5_find_64 : decode cX5_find 64 = .ok (.invokevirtual 74, 3) := by decide +kernel
theorem dX5_find_67 : decode cX5_find 67 = .ok (.i2l, 1) := by decide +kernel
theorem dX5_find_68 : decode cX5_find 68 = .ok (.ldc2_w 85, 3) := by decide +kernel
theorem dX5_find_71 : decode cX5_find 71 = .ok (.land, 1) := by decide +kernel
theorem dX5_find_72 : decode cX5_find 72 = .ok (.lor, 1) := by decide +kernel
theorem dX5_find_73 : decode cX5_find 73 = .ok (.lstore 5, 2) := by decide +kernel
theorem dX5_find_75 : decode cX5_find 75 = .ok (.aload_n 0, 1) := by decide +kernel
theorem dX5_find_76 : decode cX5_find 76 = .ok (.iload 4, 2) := by decide +kernel
theorem dX5_find_78 : decode cX5_find 78 = .ok (.ifCond .ne 7, 3) := by decide +kernel
theorem dX5_find_81 : decode cX5_find 81 = .ok (.lconst 0, 1) := by decide +kernel
theorem dX5_find_82 : decode cX5_find 82 = .ok (.goto 11, 3) := by decide +kernel
theorem dX5_find_85 : decode cX5_find 85 = .ok (.lload 5, 2) := by decide +kernel
theorem dX5_find_87 : decode cX5_find 87 = .ok (.bipush 64, 2) := by decide +kernel
theorem dX5_find_89 : decode cX5_find 89 = .ok (.iload 4, 2) := by decide +kernel
theorem dX5_find_91 : decode cX5_find 91 = .ok (.isub, 1) := by decide +kernel
theorem dX5_find_92 : decode cX5_find 92 = .ok (.lushr, 1) := by decide +kernel
theorem dX5_find_93 : decode cX5_find 93 = .ok (.putfield 81, 3) := by decide +kernel
theorem dX5_find_96 : decode cX5_find 96 = .ok (.aload_n 0, 1) := by decide +kernel
theorem dX5_find_97 : decode cX5_find 97 = .ok (.dup, 1) := by decide +kernel
theorem dX5_find_98 : decode cX5_find 98 = .ok (.getfield 78, 3) := by decide +kernel
theorem dX5_find_101 : decode cX5_find 101 = .ok (.iconst 1, 1) := by decide +kernel
theorem dX5_find_102 : decode cX5_find 102 = .ok (.iadd, 1) := by decide +kernel
theorem dX5_find_103 : decode cX5_find 103 = .ok (.putfield 78, 3) := by decide +kernel
theorem dX5_find_106 : decode cX5_find 106 = .ok (.goto (-78), 3) := by decide +kernel
theorem dX5_find_109 : decode cX5_find 109 = .ok (.return_, 1) := by decide +kernel
set_option maxRecDepth 20000 in
theorem ggX5_pick_X5_in : GoodIn wsX5_pick wsX5_in := goodIn_r _ [7] (by decide +kernel) (by decide +kernel)
set_option maxRecDepth 20000 in
theorem gX5_pick_X5_in : GoodIn wsX5_pick (va_wsS RX5 67 yX5_in wsX5_in) := goodIn_app (goodIn_of _ (by decide +kernel)) ggX5_pick_X5_in
set_option maxRecDepth 20000 in
theorem ggX5_pick_X5_find : GoodIn wsX5_pick wsX5_find := goodIn_r _ [11, 12, 3, 13, 14, 15, 16, 6, 17, 18, 19, 20, 21, 22, 23, 24, 25, 26, 27, 28, 29, 30, 31, 32, 33, 34, 35, 36, 37, 38, 39, 40] (by decide +kernel) (by decide +kernel)
set_option maxRecDepth 20000 in
theorem gX5_pick_X5_find : GoodIn wsX5_pick (wsV RX5 91 RX5 yX5_find wsX5_find) := goodIn_app (goodIn_of _ (by decide +kernel)) ggX5_pick_X5_find
theorem dX5_pick_0 : decode cX5_pick 0 = .ok (.lload_n 2, 1) := by decide +kernel
theorem dX5_pick_1 : decode cX5_pick 1 = .ok (.lconst 1, 1) := by decide +kernel
theorem dX5_pick_2 : decode cX5_pick 2 = .ok (.ldc2_w 87, 3) := by decide +kernel
theorem dX5_pick_5 : decode cX5_pick 5 = .ok (.invokestatic 67, 3) := by decide +kernel
theorem dX5_pick_8 : decode cX5_pick 8 = .ok (.ifCond .ne 7, 3) := by decide +kernel
theorem dX5_pick_11 : decode cX5_pick 11 = .ok (.ldc2_w 89, 3) := by decide +kernel
theorem dX5_pick_14 : decode cX5_pick 14 = .ok (.lreturn, 1) := by decide +kernel
theorem dX5_pick_15 : decode cX5_pick 15 = .ok (.aload_n 0, 1) := by decide +kernel
theorem dX5_pick_16 : decode cX5_pick 16 = .ok (.iload_n 1, 1) := by decide +kernel
theorem dX5_pick_17 : decode cX5_pick 17 = .ok (.lload_n 2, 1) := by decide +kernel
theorem dX5_pick_18 : decode cX5_pick 18 = .ok (.invokevirtual 91, 3) := by decide +kernel
theorem dX5_pick_21 : decode cX5_pick 21 = .ok (.aload_n 0, 1) := by decide +kernel
theorem dX5_pick_22 : decode cX5_pick 22 = .ok (.getfield 81, 3) := by decide +kernel
theorem dX5_pick_25 : decode cX5_pick 25 = .ok (.lreturn, 1) := by decide +kernel
set_option maxRecDepth 20000 in
theorem ggX5_tries_X5_in : GoodIn wsX5_tries wsX5_in := goodIn_r _ [6] (by decide +kernel) (by decide +kernel)
set_option maxRecDepth 20000 in
theorem gX5_tries_X5_in : GoodIn wsX5_tries (va_wsS RX5 67 yX5_in wsX5_in) := goodIn_app (goodIn_of _ (by decide +kernel)) ggX5_tries_X5_in
set_option maxRecDepth 20000 in
theorem ggX5_tries_X5_find : GoodIn wsX5_tries wsX5_find := goodIn_r _ [10, 2, 11, 12, 13, 14, 15, 5, 16, 17, 18, 19, 20, 21, 22, 23, 24, 25, 26, 27, 28, 29, 30, 31, 32, 33, 34, 35, 36, 37, 38, 39] (by decide +kernel) (by decide +kernel)
set_option maxRecDepth 20000 in
theorem gX5_tries_X5_find : GoodIn wsX5_tries (wsV RX5 91 RX5 yX5_find wsX5_find) := goodIn_app (goodIn_of _ (by decide +kernel)) ggX5_tries_X5_find
theorem dX5_tries_0 : decode cX5_tries 0 = .ok (.lload_n 2, 1) := by decide +kernel
theorem dX5_tries_1 : decode cX5_tries 1 = .ok (.lconst 1, 1) := by decide +kernel
theorem dX5_tries_2 : decode cX5_tries 2 = .ok (.ldc2_w 87, 3) := by decide +kernel
theorem dX5_tries_5 : decode cX5_tries 5 = .ok (.invokestatic 67, 3) := by decide +kernel
theorem dX5_tries_8 : decode cX5_tries 8 = .ok (.ifCond .ne 5, 3) := by decide +kernel
theorem dX5_tries_11 : decode cX5_tries 11 = .ok (.iconst (-1), 1) := by decide +kernel
theorem dX5_tries_12 : decode cX5_tries 12 = .ok (.ireturn, 1) := by decide +kernel
theorem dX5_tries_13 : decode cX5_tries 13 = .ok (.aload_n 0, 1) := by decide +kernel
theorem dX5_tries_14 : decode cX5_tries 14 = .ok (.iload_n 1, 1) := by decide +kernel
theorem dX5_tries_15 : decode cX5_tries 15 = .ok (.lload_n 2, 1) := by decide +kernel
theorem dX5_tries_16 : decode cX5_tries 16 = .ok (.invokevirtual 91, 3) := by decide +kernel
theorem dX5_tries_19 : decode cX5_tries 19 = .ok (.aload_n 0, 1) := by decide +kernel
theorem dX5_tries_20 : decode cX5_tries 20 = .ok (.getfield 78, 3) := by decide +kernel
theorem dX5_tries_23 : decode cX5_tries 23 = .ok (.ireturn, 1) := by decide +kernel
set_option maxRecDepth 20000 in
theorem ggX5_rule_X5_isState : GoodIn wsX5_rule wsX5_isState := goodIn_r _ [7, 8, 9, 10, 6, 11, 12, 13, 14, 15, 16, 17, 18, 19, 20, 21, 22, 23, 24, 25, 26, 27, 28, 29, 30, 31] (by decide +kernel) (by decide +kernel)
set_option maxRecDepth 20000 in
theorem gX5_rule_X5_isState : GoodIn wsX5_rule (wsV RX5 95 RX5 yX5_isState wsX5_isState) := goodIn_app (goodIn_of _ (by decide +kernel)) ggX5_rule_X5_isState
set_option maxRecDepth 20000 in
theorem ggX5_rule_X5_in : GoodIn wsX5_rule wsX5_in := goodIn_r _ [11] (by decide +kernel) (by decide +kernel)
set_option maxRecDepth 20000 in
theorem gX5_rule_X5_in : GoodIn wsX5_rule (va_wsS RX5 67 yX5_in wsX5_in) := goodIn_app (goodIn_of _ (by decide +kernel)) ggX5_rule_X5_in
theorem dX5_rule_0 : decode cX5_rule 0 = .ok (.aload_n 0, 1) := by decide +kernel
theorem dX5_rule_1 : decode cX5_rule 1 = .ok (.iload_n 1, 1) := by decide +kernel
theorem dX5_rule_2 : decode cX5_rule 2 = .ok (.invokevirtual 95, 3) := by decide +kernel
theorem dX5_rule_5 : decode cX5_rule 5 = .ok (.ifCond .eq 23, 3) := by decide +kernel
theorem dX5_rule_8 : decode cX5_rule 8 = .ok (.iload_n 2, 1) := by decide +kernel
theorem dX5_rule_9 : decode cX5_rule 9 = .ok (.i2l, 1) := by decide +kernel
theorem dX5_rule_10 : decode cX5_rule 10 = .ok (.lconst 0, 1) := by decide +kernel
theorem dX5_rule_11 : decode cX5_rule 11 = .ok (.ldc2_w 99, 3) := by decide +kernel
theorem dX5_rule_14 : decode cX5_rule 14 = .ok (.invokestatic 67, 3) := by decide +kernel
theorem dX5_rule_17 : decode cX5_rule 17 = .ok (.ifCond .eq 11, 3) := by decide +kernel
theorem dX5_rule_20 : decode cX5_rule 20 = .ok (.aload_n 0, 1) := by decide +kernel
theorem dX5_rule_21 : decode cX5_rule 21 = .ok (.iload_n 3, 1) := by decide +kernel
theorem dX5_rule_22 : decode cX5_rule 22 = .ok (.invokevirtual 95, 3) := by decide +kernel
theorem dX5_rule_25 : decode cX5_rule 25 = .ok (.ifCond .ne 5, 3) := by decide +kernel
theorem dX5_rule_28 : decode cX5_rule 28 = .ok (.iconst (-1), 1) := by decide +kernel
theorem dX5_rule_29 : decode cX5_rule 29 = .ok (.ireturn, 1) := by decide +kernel
theorem dX5_rule_30 : decode cX5_rule 30 = .ok (.aload_n 0, 1) := by decide +kernel
theorem dX5_rule_31 : decode cX5_rule 31 = .ok (.getfield 7, 3) := by decide +kernel
theorem dX5_rule_34 : decode cX5_rule 34 = .ok (.bipush 8, 2) := by decide +kernel
theorem dX5_rule_36 : decode cX5_rule 36 = .ok (.iload_n 1, 1) := by decide +kernel
theorem dX5_rule_37 : decode cX5_rule 37 = .ok (.imul, 1) := by decide +kernel
theorem dX5_rule_38 : decode cX5_rule 38 = .ok (.iload_n 2, 1) := by decide +kernel
theorem dX5_rule_39 : decode cX5_rule 39 = .ok (.iadd, 1) := by decide +kernel
theorem dX5_rule_40 : decode cX5_rule 40 = .ok (.iaload, 1) := by decide +kernel
theorem dX5_rule_41 : decode cX5_rule 41 = .ok (.istore 4, 2) := by decide +kernel
theorem dX5_rule_43 : decode cX5_rule 43 = .ok (.aload_n 0, 1) := by decide +kernel
theorem dX5_rule_44 : decode cX5_rule 44 = .ok (.getfield 7, 3) := by decide +kernel
theorem dX5_rule_47 : decode cX5_rule 47 = .ok (.bipush 8, 2) := by decide +kernel
theorem dX5_rule_49 : decode cX5_rule 49 = .ok (.iload_n 1, 1) := by decide +kernel
theorem dX5_rule_50 : decode cX5_rule 50 = .ok (.imul, 1) := by decide +kernel
theorem dX5_rule_51 : decode cX5_rule 51 = .ok (.iload_n 2, 1) := by decide +kernel
theorem dX5_rule_52 : decode cX5_rule 52 = .ok (.iadd, 1) := by decide +kernel
theorem dX5_rule_53 : decode cX5_rule 53 = .ok (.iload_n 3, 1) := by decide +kernel
theorem dX5_rule_54 : decode cX5_rule 54 = .ok (.iastore, 1) := by decide +kernel
theorem dX5_rule_55 : decode cX5_rule 55 = .ok (.iload 4, 2) := by decide +kernel
theorem dX5_rule_57 : decode cX5_rule 57 = .ok (.ireturn, 1) := by decide +kernel
set_option maxRecDepth 20000 in
theorem ggX5_isLong_X5_in : GoodIn wsX5_isLong wsX5_in := goodIn_r _ [5] (by decide +kernel) (by decide +kernel)
set_option maxRecDepth 20000 in
theorem gX5_isLong_X5_in : GoodIn wsX5_isLong (va_wsS RX5 67 yX5_in wsX5_in) := goodIn_app (goodIn_of _ (by decide +kernel)) ggX5_isLong_X5_in
theorem dX5_isLong_0 : decode cX5_isLong 0 = .ok (.iload_n 0, 1) := by decide +kernel
theorem dX5_isLong_1 : decode cX5_isLong 1 = .ok (.i2l, 1) := by decide +kernel
theorem dX5_isLong_2 : decode cX5_isLong 2 = .ok (.lconst 1, 1) := by decide +kernel
theorem dX5_isLong_3 : decode cX5_isLong 3 = .ok (.ldc2_w 101, 3) := by decide +kernel
theorem dX5_isLong_6 : decode cX5_isLong 6 = .ok (.invokestatic 67, 3) := by decide +kernel
theorem dX5_isLong_9 : decode cX5_isLong 9 = .ok (.ireturn, 1) := by decide +kernel
set_option maxRecDepth 20000 in
theorem ggX5_taken_X5_isLong : GoodIn wsX5_taken wsX5_isLong := goodIn_r _ [5, 6, 7, 8, 4, 9] (by decide +kernel) (by decide +kernel)
set_option maxRecDepth 20000 in
theorem gX5_taken_X5_isLong : GoodIn wsX5_taken (va_wsS RX5 103 yX5_isLong wsX5_isLong) := goodIn_app (goodIn_of _ (by decide +kernel)) ggX5_taken_X5_isLong
set_option maxRecDepth 20000 in
theorem ggX5_taken_X5_isState : GoodIn wsX5_taken wsX5_isState := goodIn_r _ [13, 14, 7, 8, 4, 9, 26, 27, 28, 29, 30, 31, 32, 33, 34, 35, 36, 37, 38, 39, 40, 41, 42, 43, 44, 45] (by decide +kernel) (by decide +kernel)
set_option maxRecDepth 20000 in
theorem gX5_taken_X5_isState : GoodIn wsX5_taken (wsV RX5 95 RX5 yX5_isState wsX5_isState) := goodIn_app (goodIn_of _ (by decide +kernel)) ggX5_taken_X5_isState
set_option maxRecDepth 20000 in
theorem ggX5_taken_X5_sign : GoodIn wsX5_taken wsX5_sign := goodIn_r _ [18, 19, 20, 21, 4, 22, 23, 24, 25] (by decide +kernel) (by decide +kernel)
set_option maxRecDepth 20000 in
theorem gX5_taken_X5_sign : GoodIn wsX5_taken (wsV RX5 106 RX5 yX5_sign wsX5_sign) := goodIn_app (goodIn_of _ (by decide +kernel)) ggX5_taken_X5_sign
theorem dX5_taken_0 : decode cX5_taken 0 = .ok (.iload_n 2, 1) := by decide +kernel
theorem dX5_taken_1 : decode cX5_taken 1 = .ok (.invokestatic 103, 3) := by decide +kernel
theorem dX5_taken_4 : decode cX5_taken 4 = .ok (.ifCond .eq 11, 3) := by decide +kernel
theorem dX5_taken_7 : decode cX5_taken 7 = .ok (.aload_n 0, 1) := by decide +kernel
theorem dX5_taken_8 : decode cX5_taken 8 = .ok (.iload_n 3, 1) := by decide +kernel
theorem dX5_taken_9 : decode cX5_taken 9 = .ok (.invokevirtual 95, 3) := by decide +kernel
theorem dX5_taken_12 : decode cX5_taken 12 = .ok (.ifCond .ne 5, 3) := by decide +kernel
theorem dX5_taken_15 : decode cX5_taken 15 = .ok (.iconst (-1), 1) := by decide +kernel
theorem dX5_taken_16 : decode cX5_taken 16 = .ok (.ireturn, 1) := by decide +kernel
theorem dX5_taken_17 : decode cX5_taken 17 = .ok (.iload_n 3, 1) := by decide +kernel
theorem dX5_taken_18 : decode cX5_taken 18 = .ok (.istore 4, 2) := by decide +kernel
theorem dX5_taken_20 : decode cX5_taken 20 = .ok (.iload_n 2, 1) := by decide +kernel
theorem dX5_taken_21 : decode cX5_taken 21 = .ok (.istore 5, 2) := by decide +kernel
theorem dX5_taken_23 : decode cX5_taken 23 = .ok (.iload 5, 2) := by decide +kernel
theorem dX5_taken_25 : decode cX5_taken 25 = .ok (.ifCond .le 29, 3) := by decide +kernel
theorem dX5_taken_28 : decode cX5_taken 28 = .ok (.aload_n 0, 1) := by decide +kernel
theorem dX5_taken_29 : decode cX5_taken 29 = .ok (.getfield 7, 3) := by decide +kernel
theorem dX5_taken_32 : decode cX5_taken 32 = .ok (.bipush 8, 2) := by decide +kernel
theorem dX5_taken_34 : decode cX5_taken 34 = .ok (.iload 4, 2) := by decide +kernel
theorem dX5_taken_36 : decode cX5_taken 36 = .ok (.imul, 1) := by decide +kernel
theorem dX5_taken_37 : decode cX5_taken 37 = .ok (.aload_n 0, 1) := by decide +kernel
theorem dX5_taken_38 : decode cX5_taken 38 = .ok (.iload_n 1, 1) := by decide +kernel
theorem dX5_taken_39 : decode cX5_taken 39 = .ok (.iload 5, 2) := by decide +kernel
theorem dX5_taken_41 : decode cX5_taken 41 = .ok (.invokevirtual 106, 3) := by decide +kernel
theorem dX5_taken_44 : decode cX5_taken 44 = .ok (.iadd, 1) := by decide +kernel
theorem dX5_taken_45 : decode cX5_taken 45 = .ok (.iaload, 1) := by decide +kernel
theorem dX5_taken_46 : decode cX5_taken 46 = .ok (.istore 4, 2) := by decide +kernel
theorem dX5_taken_48 : decode cX5_taken 48 = .ok (.iinc 5 (-1), 3) := by decide +kernel
theorem dX5_taken_51 : decode cX5_taken 51 = .ok (.goto (-28), 3) := by decide +kernel
theorem dX5_taken_54 : decode cX5_taken 54 = .ok (.iload 4, 2) := by decide +kernel
theorem dX5_taken_56 : decode cX5_taken 56 = .ok (.ireturn, 1) := by decide +kernel
theorem dX5_begin_0 : decode cX5_begin 0 = .ok (.iconst 0, 1) := by decide +kernel
theorem dX5_begin_1 : decode cX5_begin 1 = .ok (.istore_n 1, 1) := by decide +kernel
theorem dX5_begin_2 : decode cX5_begin 2 = .ok (.iload_n 1, 1) := by decide +kernel
theorem dX5_begin_3 : decode cX5_begin 3 = .ok (.aload_n 0, 1) := by decide +kernel
theorem dX5_begin_4 : decode cX5_begin 4 = .ok (.getfield 64, 3) := by decide +kernel
theorem dX5_begin_7 : decode cX5_begin 7 = .ok (.if_icmp .ge 16, 3) := by decide +kernel
theorem dX5_begin_10 : decode cX5_begin 10 = .ok (.aload_n 0, 1) := by decide +kernel
theorem dX5_begin_11 : decode cX5_begin 11 = .ok (.getfield 30, 3) := by decide +kernel
theorem dX5_begin_14 : decode cX5_begin 14 = .ok (.iload_n 1, 1) := by decide +kernel
theorem dX5_begin_15 : decode cX5_begin 15 = .ok (.iload_n 1, 1) := by decide +kernel
theorem dX5_begin_16 : decode cX5_begin 16 = .ok (.iastore, 1) := by decide +kernel
theorem dX5_begin_17 : decode cX5_begin 17 = .ok (.iinc 1 1, 3) := by decide +kernel
theorem dX5_begin_20 : decode cX5_begin 20 = .ok (.goto (-18), 3) := by decide +kernel
theorem dX5_begin_23 : decode cX5_begin 23 = .ok (.return_, 1) := by decide +kernel
theorem dX5_ahead_0 : decode cX5_ahead 0 = .ok (.iconst 0, 1) := by decide +kernel
theorem dX5_ahead_1 : decode cX5_ahead 1 = .ok (.istore_n 2, 1) := by decide +kernel
theorem dX5_ahead_2 : decode cX5_ahead 2 = .ok (.iload_n 2, 1) := by decide +kernel
theorem dX5_ahead_3 : decode cX5_ahead 3 = .ok (.aload_n 0, 1) := by decide +kernel
theorem dX5_ahead_4 : decode cX5_ahead 4 = .ok (.getfield 64, 3) := by decide +kernel
theorem dX5_ahead_7 : decode cX5_ahead 7 = .ok (.if_icmp .ge 31, 3) := by decide +kernel
theorem dX5_ahead_10 : decode cX5_ahead 10 = .ok (.aload_n 0, 1) := by decide +kernel
theorem dX5_ahead_11 : decode cX5_ahead 11 = .ok (.getfield 33, 3) := by decide +kernel
theorem dX5_ahead_14 : decode cX5_ahead 14 = .ok (.iload_n 2, 1) := by decide +kernel
theorem dX5_ahead_15 : decode cX5_ahead 15 = .ok (.aload_n 0, 1) := by decide +kernel
theorem dX5_ahead_16 : decode cX5_ahead 16 = .ok (.getfield 30, 3) := by decide +kernel
theorem dX5_ahead_19 : decode cX5_ahead 19 = .ok (.aload_n 0, 1) := by decide +kernel
theorem dX5_ahead_20 : decode cX5_ahead 20 = .ok (.getfield 7, 3) := by decide +kernel
theorem dX5_ahead_23 : decode cX5_ahead 23 = .ok (.bipush 8, 2) := by decide +kernel
theorem dX5_ahead_25 : decode cX5_ahead 25 = .ok (.iload_n 2, 1) := by decide +kernel
theorem dX5_ahead_26 : decode cX5_ahead 26 = .ok (.imul, 1) := by decide +kernel
theorem dX5_ahead_27 : decode cX5_ahead 27 = .ok (.iload_n 1, 1) := by decide +kernel
theorem dX5_ahead_28 : decode cX5_ahead 28 = .ok (.iadd, 1) := by decide +kernel
theorem dX5_ahead_29 : decode cX5_ahead 29 = .ok (.iaload, 1) := by decide +kernel
theorem dX5_ahead_30 : decode cX5_ahead 30 = .ok (.iaload, 1) := by decide +kernel
theorem dX5_ahead_31 : decode cX5_ahead 31 = .ok (.iastore, 1) := by decide +kernel
theorem dX5_ahead_32 : decode cX5_ahead 32 = .ok (.iinc 2 1, 3) := by decide +kernel
theorem dX5_ahead_35 : decode cX5_ahead 35 = .ok (.goto (-33), 3) := by decide +kernel
theorem dX5_ahead_38 : decode cX5_ahead 38 = .ok (.iconst 0, 1) := by decide +kernel
theorem dX5_ahead_39 : decode cX5_ahead 39 = .ok (.istore_n 2, 1) := by decide +kernel
theorem dX5_ahead_40 : decode cX5_ahead 40 = .ok (.iload_n 2, 1) := by decide +kernel
theorem dX5_ahead_41 : decode cX5_ahead 41 = .ok (.aload_n 0, 1) := by decide +kernel
theorem dX5_ahead_42 : decode cX5_ahead 42 = .ok (.getfield 64, 3) := by decide +kernel
theorem dX5_ahead_45 : decode cX5_ahead 45 = .ok (.if_icmp .ge 21, 3) := by decide +kernel
theorem dX5_ahead_48 : decode cX5_ahead 48 = .ok (.aload_n 0, 1) := by decide +kernel
theorem dX5_ahead_49 : decode cX5_ahead 49 = .ok (.getfield 30, 3) := by decide +kernel
theorem dX5_ahead_52 : decode cX5_ahead 52 = .ok (.iload_n 2, 1) := by decide +kernel
theorem dX5_ahead_53 : decode cX5_ahead 53 = .ok (.aload_n 0, 1) := by decide +kernel
theorem dX5_ahead_54 : decode cX5_ahead 54 = .ok (.getfield 33, 3) := by decide +kernel
theorem dX5_ahead_57 : decode cX5_ahead 57 = .ok (.iload_n 2, 1) := by decide +kernel
theorem dX5_ahead_58 : decode cX5_ahead 58 = .ok (.iaload, 1) := by decide +kernel
theorem dX5_ahead_59 : decode cX5_ahead 59 = .ok (.iastore, 1) := by decide +kernel
theorem dX5_ahead_60 : decode cX5_ahead 60 = .ok (.iinc 2 1, 3) := by decide +kernel
theorem dX5_ahead_63 : decode cX5_ahead 63 = .ok (.goto (-23), 3) := by decide +kernel
theorem dX5_ahead_66 : decode cX5_ahead 66 = .ok (.return_, 1) := by decide +kernel
theorem dX5_behind_0 : decode cX5_behind 0 = .ok (.iconst 0, 1) := by decide +kernel
theorem dX5_behind_1 : decode cX5_behind 1 = .ok (.istore_n 2, 1) := by decide +kernel
theorem dX5_behind_2 : decode cX5_behind 2 = .ok (.iload_n 2, 1) := by decide +kernel
theorem dX5_behind_3 : decode cX5_behind 3 = .ok (.aload_n 0, 1) := by decide +kernel
theorem dX5_behind_4 : decode cX5_behind 4 = .ok (.getfield 64, 3) := by decide +kernel
theorem dX5_behind_7 : decode cX5_behind 7 = .ok (.if_icmp .ge 31, 3) := by decide +kernel
theorem dX5_behind_10 : decode cX5_behind 10 = .ok (.aload_n 0, 1) := by decide +kernel
theorem dX5_behind_11 : decode cX5_behind 11 = .ok (.getfield 30, 3) := by decide +kernel
theorem dX5_behind_14 : decode cX5_behind 14 = .ok (.iload_n 2, 1) := by decide +kernel
theorem dX5_behind_15 : decode cX5_behind 15 = .ok (.aload_n 0, 1) := by decide +kernel
theorem dX5_behind_16 : decode cX5_behind 16 = .ok (.getfield 7, 3) := by decide +kernel
theorem dX5_behind_19 : decode cX5_behind 19 = .ok (.bipush 8, 2) := by decide +kernel
theorem dX5_behind_21 : decode cX5_behind 21 = .ok (.aload_n 0, 1) := by decide +kernel
theorem dX5_behind_22 : decode cX5_behind 22 = .ok (.getfield 30, 3) := by decide +kernel
theorem dX5_behind_25 : decode cX5_behind 25 = .ok (.iload_n 2, 1) := by decide +kernel
theorem dX5_behind_26 : decode cX5_behind 26 = .ok (.iaload, 1) := by decide +kernel
theorem dX5_behind_27 : decode cX5_behind 27 = .ok (.imul, 1) := by decide +kernel
theorem dX5_behind_28 : decode cX5_behind 28 = .ok (.iload_n 1, 1) := by decide +kernel
theorem dX5_behind_29 : decode cX5_behind 29 = .ok (.iadd, 1) := by decide +kernel
theorem dX5_behind_30 : decode cX5_behind 30 = .ok (.iaload, 1) := by decide +kernel
theorem dX5_behind_31 : decode cX5_behind 31 = .ok (.iastore, 1) := by decide +kernel
theorem dX5_behind_32 : decode cX5_behind 32 = .ok (.iinc 2 1, 3) := by decide +kernel
theorem dX5_behind_35 : decode cX5_behind 35 = .ok (.goto (-33), 3) := by decide +kernel
theorem dX5_behind_38 : decode cX5_behind 38 = .ok (.return_, 1) := by decide +kernel
theorem dX5_meets_0 : decode cX5_meets 0 = .ok (.iconst 1, 1) := by decide +kernel
theorem dX5_meets_1 : decode cX5_meets 1 = .ok (.istore_n 1, 1) := by decide +kernel
theorem dX5_meets_2 : decode cX5_meets 2 = .ok (.iconst 1, 1) := by decide +kernel
theorem dX5_meets_3 : decode cX5_meets 3 = .ok (.istore_n 2, 1) := by decide +kernel
theorem dX5_meets_4 : decode cX5_meets 4 = .ok (.iload_n 2, 1) := by decide +kernel
theorem dX5_meets_5 : decode cX5_meets 5 = .ok (.aload_n 0, 1) := by decide +kernel
theorem dX5_meets_6 : decode cX5_meets 6 = .ok (.getfield 64, 3) := by decide +kernel
theorem dX5_meets_9 : decode cX5_meets 9 = .ok (.if_icmp .ge 34, 3) := by decide +kernel
theorem dX5_meets_12 : decode cX5_meets 12 = .ok (.iload_n 1, 1) := by decide +kernel
theorem dX5_meets_13 : decode cX5_meets 13 = .ok (.ifCond .eq 22, 3) := by decide +kernel
theorem dX5_meets_16 : decode cX5_meets 16 = .ok (.aload_n 0, 1) := by decide +kernel
theorem dX5_meets_17 : decode cX5_meets 17 = .ok (.getfield 30, 3) := by decide +kernel
theorem dX5_meets_20 : decode cX5_meets 20 = .ok (.iload_n 2, 1) := by decide +kernel
theorem dX5_meets_21 : decode cX5_meets 21 = .ok (.iaload, 1) := by decide +kernel
theorem dX5_meets_22 : decode cX5_meets 22 = .ok (.aload_n 0, 1) := by decide +kernel
theorem dX5_meets_23 : decode cX5_meets 23 = .ok (.getfield 30, 3) := by decide +kernel
theorem dX5_meets_26 : decode cX5_meets 26 = .ok (.iconst 0, 1) := by decide +kernel
theorem dX5_meets_27 : decode cX5_meets 27 = .ok (.iaload, 1) := by decide +kernel
theorem dX5_meets_28 : decode cX5_meets 28 = .ok (.if_icmp .ne 7, 3) := by decide +kernel
theorem dX5_meets_31 : decode cX5_meets 31 = .ok (.iconst 1, 1) := by decide +kernel
theorem dX5_meets_32 : decode cX5_meets 32 = .ok (.goto 4, 3) := by decide +kernel
theorem dX5_meets_35 : decode cX5_meets 35 = .ok (.iconst 0, 1) := by decide +kernel
theorem dX5_meets_36 : decode cX5_meets 36 = .ok (.istore_n 1, 1) := by decide +kernel
theorem dX5_meets_37 : decode cX5_meets 37 = .ok (.iinc 2 1, 3) := by decide +kernel
theorem dX5_meets_40 : decode cX5_meets 40 = .ok (.goto (-36), 3) := by decide +kernel
theorem dX5_meets_43 : decode cX5_meets 43 = .ok (.iload_n 1, 1) := by decide +kernel
theorem dX5_meets_44 : decode cX5_meets 44 = .ok (.ireturn, 1) := by decide +kernel
set_option maxRecDepth 20000 in
theorem ggX5_past_X5_isLong : GoodIn wsX5_past wsX5_isLong := goodIn_r _ [5, 6, 7, 8, 4, 9] (by decide +kernel) (by decide +kernel)
set_option maxRecDepth 20000 in
theorem gX5_past_X5_isLong : GoodIn wsX5_past (va_wsS RX5 103 yX5_isLong wsX5_isLong) := goodIn_app (goodIn_of _ (by decide +kernel)) ggX5_past_X5_isLong
set_option maxRecDepth 20000 in
theorem ggX5_past_X5_begin : GoodIn wsX5_past wsX5_begin := goodIn_r _ [13, 14, 1, 36, 37, 38, 39, 40, 41, 42, 43, 44, 45, 46, 47, 48, 49, 50, 51, 52, 53, 54, 55] (by decide +kernel) (by decide +kernel)
set_option maxRecDepth 20000 in
theorem gX5_past_X5_begin : GoodIn wsX5_past (wsV RX5 109 RX5 yX5_begin wsX5_begin) := goodIn_app (goodIn_of _ (by decide +kernel)) ggX5_past_X5_begin
set_option maxRecDepth 20000 in
theorem ggX5_past_X5_sign : GoodIn wsX5_past wsX5_sign := goodIn_r _ [18, 19, 20, 21, 4, 22, 23, 24, 25] (by decide +kernel) (by decide +kernel)
set_option maxRecDepth 20000 in
theorem gX5_past_X5_sign : GoodIn wsX5_past (wsV RX5 106 RX5 yX5_sign wsX5_sign) := goodIn_app (goodIn_of _ (by decide +kernel)) ggX5_past_X5_sign
set_option maxRecDepth 20000 in
theorem ggX5_past_X5_ahead : GoodIn wsX5_past wsX5_ahead := goodIn_r _ [29, 14, 30, 1, 31, 36, 37, 38, 39, 40, 41, 42, 43, 44, 45, 46, 47, 48, 49, 50, 51, 52, 53, 54, 55] (by decide +kernel) (by decide +kernel)
set_option maxRecDepth 20000 in
theorem gX5_past_X5_ahead : GoodIn wsX5_past (wsV RX5 112 RX5 yX5_ahead wsX5_ahead) := goodIn_app (goodIn_of _ (by decide +kernel)) ggX5_past_X5_ahead
set_option maxRecDepth 20000 in
theorem ggX5_past_X5_meets : GoodIn wsX5_past wsX5_meets := goodIn_r _ [35, 14, 1, 36, 37, 38, 39, 40, 41, 42, 43, 44, 45, 46, 47, 48, 49, 50, 51, 52, 53, 54, 55] (by decide +kernel) (by decide +kernel)
set_option maxRecDepth 20000 in
theorem gX5_past_X5_meets : GoodIn wsX5_past (wsV RX5 116 RX5 yX5_meets wsX5_meets) := goodIn_app (goodIn_of _ (by decide +kernel)) ggX5_past_X5_meets
theorem dX5_past_0 : decode cX5_past 0 = .ok (.iload_n 2, 1) := by decide +kernel
theorem dX5_past_1 : decode cX5_past 1 = .ok (.invokestatic 103, 3) := by decide +kernel
theorem dX5_past_4 : decode cX5_past 4 = .ok (.ifCond .ne 5, 3) := by decide +kernel
theorem dX5_past_7 : decode cX5_past 7 = .ok (.iconst (-1), 1) := by decide +kernel
theorem dX5_past_8 : decode cX5_past 8 = .ok (.ireturn, 1) := by decide +kernel
theorem dX5_past_9 : decode cX5_past 9 = .ok (.aload_n 0, 1) := by decide +kernel
theorem dX5_past_10 : decode cX5_past 10 = .ok (.invokevirtual 109, 3) := by decide +kernel
theorem dX5_past_13 : decode cX5_past 13 = .ok (.iconst 1, 1) := by decide +kernel
theorem dX5_past_14 : decode cX5_past 14 = .ok (.istore_n 3, 1) := by decide +kernel
theorem dX5_past_15 : decode cX5_past 15 = .ok (.iconst 1, 1) := by decide +kernel
theorem dX5_past_16 : decode cX5_past 16 = .ok (.istore 4, 2) := by decide +kernel
theorem dX5_past_18 : decode cX5_past 18 = .ok (.iload 4, 2) := by decide +kernel
theorem dX5_past_20 : decode cX5_past 20 = .ok (.iload_n 2, 1) := by decide +kernel
theorem dX5_past_21 : decode cX5_past 21 = .ok (.if_icmp .gt 44, 3) := by decide +kernel
theorem dX5_past_24 : decode cX5_past 24 = .ok (.aload_n 0, 1) := by decide +kernel
theorem dX5_past_25 : decode cX5_past 25 = .ok (.aload_n 0, 1) := by decide +kernel
theorem dX5_past_26 : decode cX5_past 26 = .ok (.iload_n 1, 1) := by decide +kernel
theorem dX5_past_27 : decode cX5_past 27 = .ok (.iload 4, 2) := by decide +kernel
theorem dX5_past_29 : decode cX5_past 29 = .ok (.invokevirtual 106, 3) := by decide +kernel
theorem dX5_past_32 : decode cX5_past 32 = .ok (.invokevirtual 112, 3) := by decide +kernel
theorem dX5_past_35 : decode cX5_past 35 = .ok (.iload 4, 2) := by decide +kernel
theorem dX5_past_37 : decode cX5_past 37 = .ok (.iload_n 3, 1) := by decide +kernel
theorem dX5_past_38 : decode cX5_past 38 = .ok (.if_icmp .ne 21, 3) := by decide +kernel
theorem dX5_past_41 : decode cX5_past 41 = .ok (.aload_n 0, 1) := by decide +kernel
theorem dX5_past_42 : decode cX5_past 42 = .ok (.invokevirtual 116, 3) := by decide +kernel
theorem dX5_past_45 : decode cX5_past 45 = .ok (.ifCond .eq 10, 3) := by decide +kernel
theorem dX5_past_48 : decode cX5_past 48 = .ok (.aload_n 0, 1) := by decide +kernel
theorem dX5_past_49 : decode cX5_past 49 = .ok (.getfield 30, 3) := by decide +kernel
theorem dX5_past_52 : decode cX5_past 52 = .ok (.iconst 0, 1) := by decide +kernel
theorem dX5_past_53 : decode cX5_past 53 = .ok (.iaload, 1) := by decide +kernel
theorem dX5_past_54 : decode cX5_past 54 = .ok (.ireturn, 1) := by decide +kernel
theorem dX5_past_55 : decode cX5_past 55 = .ok (.iload_n 3, 1) := by decide +kernel
theorem dX5_past_56 : decode cX5_past 56 = .ok (.iconst 2, 1) := by decide +kernel
theorem dX5_past_57 : decode cX5_past 57 = .ok (.imul, 1) := by decide +kernel
theorem dX5_past_58 : decode cX5_past 58 = .ok (.istore_n 3, 1) := by decide +kernel
theorem dX5_past_59 : decode cX5_past 59 = .ok (.iinc 4 1, 3) := by decide +kernel
theorem dX5_past_62 : decode cX5_past 62 = .ok (.goto (-44), 3) := by decide +kernel
theorem dX5_past_65 : decode cX5_past 65 = .ok (.bipush (-2), 2) := by decide +kernel
theorem dX5_past_67 : decode cX5_past 67 = .ok (.ireturn, 1) := by decide +kernel
set_option maxRecDepth 20000 in
theorem ggX5_fold_X5_isLong : GoodIn wsX5_fold wsX5_isLong := goodIn_r _ [4, 5, 6, 7, 3, 8] (by decide +kernel) (by decide +kernel)
set_option maxRecDepth 20000 in
theorem gX5_fold_X5_isLong : GoodIn wsX5_fold (va_wsS RX5 103 yX5_isLong wsX5_isLong) := goodIn_app (goodIn_of _ (by decide +kernel)) ggX5_fold_X5_isLong
set_option maxRecDepth 20000 in
theorem ggX5_fold_X5_begin : GoodIn wsX5_fold wsX5_begin := goodIn_r _ [12, 13, 14, 36, 37, 38, 39, 40, 41, 42, 43, 44, 45, 46, 47, 48, 49, 50, 51, 52, 53, 54, 55] (by decide +kernel) (by decide +kernel)
set_option maxRecDepth 20000 in
theorem gX5_fold_X5_begin : GoodIn wsX5_fold (wsV RX5 109 RX5 yX5_begin wsX5_begin) := goodIn_app (goodIn_of _ (by decide +kernel)) ggX5_fold_X5_begin
set_option maxRecDepth 20000 in
theorem ggX5_fold_X5_sign : GoodIn wsX5_fold wsX5_sign := goodIn_r _ [18, 19, 20, 21, 3, 22, 23, 24, 25] (by decide +kernel) (by decide +kernel)
set_option maxRecDepth 20000 in
theorem gX5_fold_X5_sign : GoodIn wsX5_fold (wsV RX5 106 RX5 yX5_sign wsX5_sign) := goodIn_app (goodIn_of _ (by decide +kernel)) ggX5_fold_X5_sign
set_option maxRecDepth 20000 in
theorem ggX5_fold_X5_ahead : GoodIn wsX5_fold wsX5_ahead := goodIn_r _ [29, 13, 30, 14, 31, 36, 37, 38, 39, 40, 41, 42, 43, 44, 45, 46, 47, 48, 49, 50, 51, 52, 53, 54, 55] (by decide +kernel) (by decide +kernel)
set_option maxRecDepth 20000 in
theorem gX5_fold_X5_ahead : GoodIn wsX5_fold (wsV RX5 112 RX5 yX5_ahead wsX5_ahead) := goodIn_app (goodIn_of _ (by decide +kernel)) ggX5_fold_X5_ahead
set_option maxRecDepth 20000 in
theorem ggX5_fold_X5_meets : GoodIn wsX5_fold wsX5_meets := goodIn_r _ [35, 13, 14, 36, 37, 38, 39, 40, 41, 42, 43, 44, 45, 46, 47, 48, 49, 50, 51, 52, 53, 54, 55] (by decide +kernel) (by decide +kernel)
set_option maxRecDepth 20000 in
theorem gX5_fold_X5_meets : GoodIn wsX5_fold (wsV RX5 116 RX5 yX5_meets wsX5_meets) := goodIn_app (goodIn_of _ (by decide +kernel)) ggX5_fold_X5_meets
theorem dX5_fold_0 : decode cX5_fold 0 = .ok (.iload_n 2, 1) := by decide +kernel
theorem dX5_fold_1 : decode cX5_fold 1 = .ok (.invokestatic 103, 3) := by decide +kernel
theorem dX5_fold_4 : decode cX5_fold 4 = .ok (.ifCond .ne 5, 3) := by decide +kernel
theorem dX5_fold_7 : decode cX5_fold 7 = .ok (.iconst (-1), 1) := by decide +kernel
theorem dX5_fold_8 : decode cX5_fold 8 = .ok (.ireturn, 1) := by decide +kernel
theorem dX5_fold_9 : decode cX5_fold 9 = .ok (.aload_n 0, 1) := by decide +kernel
theorem dX5_fold_10 : decode cX5_fold 10 = .ok (.invokevirtual 109, 3) := by decide +kernel
theorem dX5_fold_13 : decode cX5_fold 13 = .ok (.iconst 1, 1) := by decide +kernel
theorem dX5_fold_14 : decode cX5_fold 14 = .ok (.istore_n 3, 1) := by decide +kernel
theorem dX5_fold_15 : decode cX5_fold 15 = .ok (.iload_n 3, 1) := by decide +kernel
theorem dX5_fold_16 : decode cX5_fold 16 = .ok (.iload_n 2, 1) := by decide +kernel
theorem dX5_fold_17 : decode cX5_fold 17 = .ok (.if_icmp .gt 28, 3) := by decide +kernel
theorem dX5_fold_20 : decode cX5_fold 20 = .ok (.aload_n 0, 1) := by decide +kernel
theorem dX5_fold_21 : decode cX5_fold 21 = .ok (.aload_n 0, 1) := by decide +kernel
theorem dX5_fold_22 : decode cX5_fold 22 = .ok (.iload_n 1, 1) := by decide +kernel
theorem dX5_fold_23 : decode cX5_fold 23 = .ok (.iload_n 3, 1) := by decide +kernel
theorem dX5_fold_24 : decode cX5_fold 24 = .ok (.invokevirtual 106, 3) := by decide +kernel
theorem dX5_fold_27 : decode cX5_fold 27 = .ok (.invokevirtual 112, 3) := by decide +kernel
theorem dX5_fold_30 : decode cX5_fold 30 = .ok (.aload_n 0, 1) := by decide +kernel
theorem dX5_fold_31 : decode cX5_fold 31 = .ok (.invokevirtual 116, 3) := by decide +kernel
theorem dX5_fold_34 : decode cX5_fold 34 = .ok (.ifCond .eq 5, 3) := by decide +kernel
theorem dX5_fold_37 : decode cX5_fold 37 = .ok (.iload_n 3, 1) := by decide +kernel
theorem dX5_fold_38 : decode cX5_fold 38 = .ok (.ireturn, 1) := by decide +kernel
theorem dX5_fold_39 : decode cX5_fold 39 = .ok (.iinc 3 1, 3) := by decide +kernel
theorem dX5_fold_42 : decode cX5_fold 42 = .ok (.goto (-27), 3) := by decide +kernel
theorem dX5_fold_45 : decode cX5_fold 45 = .ok (.bipush (-2), 2) := by decide +kernel
theorem dX5_fold_47 : decode cX5_fold 47 = .ok (.ireturn, 1) := by decide +kernel
theorem dX5_bound_0 : decode cX5_bound 0 = .ok (.aload_n 0, 1) := by decide +kernel
theorem dX5_bound_1 : decode cX5_bound 1 = .ok (.getfield 64, 3) := by decide +kernel
theorem dX5_bound_4 : decode cX5_bound 4 = .ok (.istore 4, 2) := by decide +kernel
theorem dX5_bound_6 : decode cX5_bound 6 = .ok (.iconst (-1), 1) := by decide +kernel
theorem dX5_bound_7 : decode cX5_bound 7 = .ok (.istore 5, 2) := by decide +kernel
theorem dX5_bound_9 : decode cX5_bound 9 = .ok (.iload_n 1, 1) := by decide +kernel
theorem dX5_bound_10 : decode cX5_bound 10 = .ok (.istore 6, 2) := by decide +kernel
theorem dX5_bound_12 : decode cX5_bound 12 = .ok (.iload 6, 2) := by decide +kernel
theorem dX5_bound_14 : decode cX5_bound 14 = .ok (.iload_n 2, 1) := by decide +kernel
theorem dX5_bound_15 : decode cX5_bound 15 = .ok (.if_icmp .gt 55, 3) := by decide +kernel
theorem dX5_bound_18 : decode cX5_bound 18 = .ok (.aload_n 0, 1) := by decide +kernel
theorem dX5_bound_19 : decode cX5_bound 19 = .ok (.getfield 7, 3) := by decide +kernel
theorem dX5_bound_22 : decode cX5_bound 22 = .ok (.bipush 8, 2) := by decide +kernel
theorem dX5_bound_24 : decode cX5_bound 24 = .ok (.iload 6, 2) := by decide +kernel
theorem dX5_bound_26 : decode cX5_bound 26 = .ok (.imul, 1) := by decide +kernel
theorem dX5_bound_27 : decode cX5_bound 27 = .ok (.iload_n 3, 1) := by decide +kernel
theorem dX5_bound_28 : decode cX5_bound 28 = .ok (.iadd, 1) := by decide +kernel
theorem dX5_bound_29 : decode cX5_bound 29 = .ok (.iaload, 1) := by decide +kernel
theorem dX5_bound_30 : decode cX5_bound 30 = .ok (.istore 7, 2) := by decide +kernel
theorem dX5_bound_32 : decode cX5_bound 32 = .ok (.iload 7, 2) := by decide +kernel
theorem dX5_bound_34 : decode cX5_bound 34 = .ok (.iload 4, 2) := by decide +kernel
theorem dX5_bound_36 : decode cX5_bound 36 = .ok (.if_icmp .ge 8, 3) := by decide +kernel
theorem dX5_bound_39 : decode cX5_bound 39 = .ok (.iload 7, 2) := by decide +kernel
theorem dX5_bound_41 : decode cX5_bound 41 = .ok (.goto 5, 3) := by decide +kernel
theorem dX5_bound_44 : decode cX5_bound 44 = .ok (.iload 4, 2) := by decide +kernel
theorem dX5_bound_46 : decode cX5_bound 46 = .ok (.istore 4, 2) := by decide +kernel
theorem dX5_bound_48 : decode cX5_bound 48 = .ok (.iload 7, 2) := by decide +kernel
theorem dX5_bound_50 : decode cX5_bound 50 = .ok (.iload 5, 2) := by decide +kernel
theorem dX5_bound_52 : decode cX5_bound 52 = .ok (.if_icmp .le 8, 3) := by decide +kernel
theorem dX5_bound_55 : decode cX5_bound 55 = .ok (.iload 7, 2) := by decide +kernel
theorem dX5_bound_57 : decode cX5_bound 57 = .ok (.goto 5, 3) := by decide +kernel
theorem dX5_bound_60 : decode cX5_bound 60 = .ok (.iload 5, 2) := by decide +kernel
theorem dX5_bound_62 : decode cX5_bound 62 = .ok (.istore 5, 2) := by decide +kernel
theorem dX5_bound_64 : decode cX5_bound 64 = .ok (.iinc 6 1, 3) := by decide +kernel
theorem dX5_bound_67 : decode cX5_bound 67 = .ok (.goto (-55), 3) := by decide +kernel
theorem dX5_bound_70 : decode cX5_bound 70 = .ok (.bipush 12, 2) := by decide +kernel
theorem dX5_bound_72 : decode cX5_bound 72 = .ok (.iload 4, 2) := by decide +kernel
theorem dX5_bound_74 : decode cX5_bound 74 = .ok (.imul, 1) := by decide +kernel
theorem dX5_bound_75 : decode cX5_bound 75 = .ok (.iload 5, 2) := by decide +kernel
theorem dX5_bound_77 : decode cX5_bound 77 = .ok (.iadd, 1) := by decide +kernel
theorem dX5_bound_78 : decode cX5_bound 78 = .ok (.ireturn, 1) := by decide +kernel
set_option maxRecDepth 20000 in
theorem ggX5_bounding_X5_in : GoodIn wsX5_bounding wsX5_in := goodIn_r _ [8] (by decide +kernel) (by decide +kernel)
set_option maxRecDepth 20000 in
theorem gX5_bounding_X5_in : GoodIn wsX5_bounding (va_wsS RX5 67 yX5_in wsX5_in) := goodIn_app (goodIn_of _ (by decide +kernel)) ggX5_bounding_X5_in
set_option maxRecDepth 20000 in
theorem ggX5_bounding_X5_sign : GoodIn wsX5_bounding wsX5_sign := goodIn_r _ [12, 13, 14, 15, 7, 16, 17, 18, 19] (by decide +kernel) (by decide +kernel)
set_option maxRecDepth 20000 in
theorem gX5_bounding_X5_sign : GoodIn wsX5_bounding (wsV RX5 106 RX5 yX5_sign wsX5_sign) := goodIn_app (goodIn_of _ (by decide +kernel)) ggX5_bounding_X5_sign
set_option maxRecDepth 20000 in
theorem ggX5_bounding_X5_bound : GoodIn wsX5_bounding wsX5_bound := goodIn_r _ [23, 3, 24, 25, 26, 27, 28, 29, 30, 31, 32, 33, 34, 35, 36, 37, 38, 39, 40, 41, 42, 43, 44] (by decide +kernel) (by decide +kernel)
set_option maxRecDepth 20000 in
theorem gX5_bounding_X5_bound : GoodIn wsX5_bounding (wsV RX5 122 RX5 yX5_bound wsX5_bound) := goodIn_app (goodIn_of _ (by decide +kernel)) ggX5_bounding_X5_bound
theorem dX5_bounding_0 : decode cX5_bounding 0 = .ok (.iload_n 2, 1) := by decide +kernel
theorem dX5_bounding_1 : decode cX5_bounding 1 = .ok (.i2l, 1) := by decide +kernel
theorem dX5_bounding_2 : decode cX5_bounding 2 = .ok (.lconst 1, 1) := by decide +kernel
theorem dX5_bounding_3 : decode cX5_bounding 3 = .ok (.ldc2_w 120, 3) := by decide +kernel
theorem dX5_bounding_6 : decode cX5_bounding 6 = .ok (.invokestatic 67, 3) := by decide +kernel
theorem dX5_bounding_9 : decode cX5_bounding 9 = .ok (.ifCond .ne 5, 3) := by decide +kernel
theorem dX5_bounding_12 : decode cX5_bounding 12 = .ok (.iconst (-1), 1) := by decide +kernel
theorem dX5_bounding_13 : decode cX5_bounding 13 = .ok (.ireturn, 1) := by decide +kernel
theorem dX5_bounding_14 : decode cX5_bounding 14 = .ok (.iconst 0, 1) := by decide +kernel
theorem dX5_bounding_15 : decode cX5_bounding 15 = .ok (.istore_n 3, 1) := by decide +kernel
theorem dX5_bounding_16 : decode cX5_bounding 16 = .ok (.iload_n 3, 1) := by decide +kernel
theorem dX5_bounding_17 : decode cX5_bounding 17 = .ok (.sipush 144, 3) := by decide +kernel
theorem dX5_bounding_20 : decode cX5_bounding 20 = .ok (.if_icmp .ge 16, 3) := by decide +kernel
theorem dX5_bounding_23 : decode cX5_bounding 23 = .ok (.aload_n 0, 1) := by decide +kernel
theorem dX5_bounding_24 : decode cX5_bounding 24 = .ok (.getfield 36, 3) := by decide +kernel
theorem dX5_bounding_27 : decode cX5_bounding 27 = .ok (.iload_n 3, 1) := by decide +kernel
theorem dX5_bounding_28 : decode cX5_bounding 28 = .ok (.iload_n 3, 1) := by decide +kernel
theorem dX5_bounding_29 : decode cX5_bounding 29 = .ok (.iastore, 1) := by decide +kernel
theorem dX5_bounding_30 : decode cX5_bounding 30 = .ok (.iinc 3 1, 3) := by decide +kernel
theorem dX5_bounding_33 : decode cX5_bounding 33 = .ok (.goto (-17), 3) := by decide +kernel
theorem dX5_bounding_36 : decode cX5_bounding 36 = .ok (.iconst 1, 1) := by decide +kernel
theorem dX5_bounding_37 : decode cX5_bounding 37 = .ok (.istore_n 3, 1) := by decide +kernel
theorem dX5_bounding_38 : decode cX5_bounding 38 = .ok (.iload_n 3, 1) := by decide +kernel
theorem dX5_bounding_39 : decode cX5_bounding 39 = .ok (.iload_n 2, 1) := by decide +kernel
theorem dX5_bounding_40 : decode cX5_bounding 40 = .ok (.if_icmp .gt 146, 3) := by decide +kernel
theorem dX5_bounding_43 : decode cX5_bounding 43 = .ok (.aload_n 0, 1) := by decide +kernel
theorem dX5_bounding_44 : decode cX5_bounding 44 = .ok (.iload_n 1, 1) := by decide +kernel
theorem dX5_bounding_45 : decode cX5_bounding 45 = .ok (.iload_n 3, 1) := by decide +kernel
theorem dX5_bounding_46 : decode cX5_bounding 46 = .ok (.invokevirtual 106, 3) := by decide +kernel
theorem dX5_bounding_49 : decode cX5_bounding 49 = .ok (.istore 4, 2) := by decide +kernel
theorem dX5_bounding_51 : decode cX5_bounding 51 = .ok (.iconst 0, 1) := by decide +kernel
theorem dX5_bounding_52 : decode cX5_bounding 52 = .ok (.istore 5, 2) := by decide +kernel
theorem dX5_bounding_54 : decode cX5_bounding 54 = .ok (.iload 5, 2) := by decide +kernel
theorem dX5_bounding_56 : decode cX5_bounding 56 = .ok (.aload_n 0, 1) := by decide +kernel
theorem dX5_bounding_57 : decode cX5_bounding 57 = .ok (.getfield 64, 3) := by decide +kernel
theorem dX5_bounding_60 : decode cX5_bounding 60 = .ok (.if_icmp .ge 56, 3) := by decide +kernel
theorem dX5_bounding_63 : decode cX5_bounding 63 = .ok (.iload 5, 2) := by decide +kernel
theorem dX5_bounding_65 : decode cX5_bounding 65 = .ok (.istore 6, 2) := by decide +kernel
theorem dX5_bounding_67 : decode cX5_bounding 67 = .ok (.iload 6, 2) := by decide +kernel
theorem dX5_bounding_69 : decode cX5_bounding 69 = .ok (.aload_n 0, 1) := by decide +kernel
theorem dX5_bounding_70 : decode cX5_bounding 70 = .ok (.getfield 64, 3) := by decide +kernel
theorem dX5_bounding_73 : decode cX5_bounding 73 = .ok (.if_icmp .ge 37, 3) := by decide +kernel
theorem dX5_bounding_76 : decode cX5_bounding 76 = .ok (.aload_n 0, 1) := by decide +kernel
theorem dX5_bounding_77 : decode cX5_bounding 77 = .ok (.getfield 39, 3) := by decide +kernel
theorem dX5_bounding_80 : decode cX5_bounding 80 = .ok (.bipush 12, 2) := by decide +kernel
theorem dX5_bounding_82 : decode cX5_bounding 82 = .ok (.iload 5, 2) := by decide +kernel
theorem dX5_bounding_84 : decode cX5_bounding 84 = .ok (.imul, 1) := by decide +kernel
theorem dX5_bounding_85 : decode cX5_bounding 85 = .ok (.iload 6, 2) := by decide +kernel
theorem dX5_bounding_87 : decode cX5_bounding 87 = .ok (.iadd, 1) := by decide +kernel
theorem dX5_bounding_88 : decode cX5_bounding 88 = .ok (.aload_n 0, 1) := by decide +kernel
theorem dX5_bounding_89 : decode cX5_bounding 89 = .ok (.getfield 36, 3) := by decide +kernel
theorem dX5_bounding_92 : decode cX5_bounding 92 = .ok (.aload_n 0, 1) := by decide +kernel
theorem dX5_bounding_93 : decode cX5_bounding 93 = .ok (.iload 5, 2) := by decide +kernel
theorem dX5_bounding_95 : decode cX5_bounding 95 = .ok (.iload 6, 2) := by decide +kernel
theorem dX5_bounding_97 : decode cX5_bounding 97 = .ok (.iload 4, 2) := by decide +kernel
theorem dX5_bounding_99 : decode cX5_bounding 99 = .ok (.invokevirtual 122, 3) := by decide +kernel
theorem dX5_bounding_102 : decode cX5_bounding 102 = .ok (.iaload, 1) := by decide +kernel
theorem dX5_bounding_103 : decode cX5_bounding 103 = .ok (.iastore, 1) := by decide +kernel
theorem dX5_bounding_104 : decode cX5_bounding 104 = .ok (.iinc 6 1, 3) := by decide +kernel
theorem dX5_bounding_107 : decode cX5_bounding 107 = .ok (.goto (-40), 3) := by decide +kernel
theorem dX5_bounding_110 : decode cX5_bounding 110 = .ok (.iinc 5 1, 3) := by decide +kernel
theorem dX5_bounding_113 : decode cX5_bounding 113 = .ok (.goto (-59), 3) := by decide +kernel
theorem dX5_bounding_116 : decode cX5_bounding 116 = .ok (.iconst 0, 1) := by decide +kernel
theorem dX5_bounding_117 : decode cX5_bounding 117 = .ok (.istore 5, 2) := by decide +kernel
theorem dX5_bounding_119 : decode cX5_bounding 119 = .ok (.iload 5, 2) := by decide +kernel
theorem dX5_bounding_121 : decode cX5_bounding 121 = .ok (.sipush 144, 3) := by decide +kernel
theorem dX5_bounding_124 : decode cX5_bounding 124 = .ok (.if_icmp .ge 23, 3) := by decide +kernel
theorem dX5_bounding_127 : decode cX5_bounding 127 = .ok (.aload_n 0, 1) := by decide +kernel
theorem dX5_bounding_128 : decode cX5_bounding 128 = .ok (.getfield 36, 3) := by decide +kernel
theorem dX5_bounding_131 : decode cX5_bounding 131 = .ok (.iload 5, 2) := by decide +kernel
theorem dX5_bounding_133 : decode cX5_bounding 133 = .ok (.aload_n 0, 1) := by decide +kernel
theorem dX5_bounding_134 : decode cX5_bounding 134 = .ok (.getfield 39, 3) := by decide +kernel
theorem dX5_bounding_137 : decode cX5_bounding 137 = .ok (.iload 5, 2) := by decide +kernel
theorem dX5_bounding_139 : decode cX5_bounding 139 = .ok (.iaload, 1) := by decide +kernel
theorem dX5_bounding_140 : decode cX5_bounding 140 = .ok (.iastore, 1) := by decide +kernel
theorem dX5_bounding_141 : decode cX5_bounding 141 = .ok (.iinc 5 1, 3) := by decide +kernel
theorem dX5_bounding_144 : decode cX5_bounding 144 = .ok (.goto (-25), 3) := by decide +kernel
theorem dX5_bounding_147 : decode cX5_bounding 147 = .ok (.aload_n 0, 1) := by decide +kernel
theorem dX5_bounding_148 : decode cX5_bounding 148 = .ok (.getfield 36, 3) := by decide +kernel
theorem dX5_bounding_151 : decode cX5_bounding 151 = .ok (.aload_n 0, 1) := by decide +kernel
theorem dX5_bounding_152 : decode cX5_bounding 152 = .ok (.getfield 64, 3) := by decide +kernel
theorem dX5_bounding_155 : decode cX5_bounding 155 = .ok (.iconst 1, 1) := by decide +kernel
theorem dX5_bounding_156 : decode cX5_bounding 156 = .ok (.isub, 1) := by decide +kernel
theorem dX5_bounding_157 : decode cX5_bounding 157 = .ok (.iaload, 1) := by decide +kernel
theorem dX5_bounding_158 : decode cX5_bounding 158 = .ok (.bipush 12, 2) := by decide +kernel
theorem dX5_bounding_160 : decode cX5_bounding 160 = .ok (.idiv, 1) := by decide +kernel
theorem dX5_bounding_161 : decode cX5_bounding 161 = .ok (.aload_n 0, 1) := by decide +kernel
theorem dX5_bounding_162 : decode cX5_bounding 162 = .ok (.getfield 36, 3) := by decide +kernel
theorem dX5_bounding_165 : decode cX5_bounding 165 = .ok (.aload_n 0, 1) := by decide +kernel
theorem dX5_bounding_166 : decode cX5_bounding 166 = .ok (.getfield 64, 3) := by decide +kernel
theorem dX5_bounding_169 : decode cX5_bounding 169 = .ok (.iconst 1, 1) := by decide +kernel
theorem dX5_bounding_170 : decode cX5_bounding 170 = .ok (.isub, 1) := by decide +kernel
theorem dX5_bounding_171 : decode cX5_bounding 171 = .ok (.iaload, 1) := by decide +kernel
theorem dX5_bounding_172 : decode cX5_bounding 172 = .ok (.bipush 12, 2) := by decide +kernel
theorem dX5_bounding_174 : decode cX5_bounding 174 = .ok (.irem, 1) := by decide +kernel
theorem dX5_bounding_175 : decode cX5_bounding 175 = .ok (.if_icmp .ne 5, 3) := by decide +kernel
theorem dX5_bounding_178 : decode cX5_bounding 178 = .ok (.iload_n 3, 1) := by decide +kernel
theorem dX5_bounding_179 : decode cX5_bounding 179 = .ok (.ireturn, 1) := by decide +kernel
theorem dX5_bounding_180 : decode cX5_bounding 180 = .ok (.iinc 3 1, 3) := by decide +kernel
theorem dX5_bounding_183 : decode cX5_bounding 183 = .ok (.goto (-145), 3) := by decide +kernel
theorem dX5_bounding_186 : decode cX5_bounding 186 = .ok (.bipush (-2), 2) := by decide +kernel
theorem dX5_bounding_188 : decode cX5_bounding 188 = .ok (.ireturn, 1) := by decide +kernel
theorem dX5_monotone_0 : decode cX5_monotone 0 = .ok (.iconst 1, 1) := by decide +kernel
theorem dX5_monotone_1 : decode cX5_monotone 1 = .ok (.istore_n 1, 1) := by decide +kernel
theorem dX5_monotone_2 : decode cX5_monotone 2 = .ok (.iconst 0, 1) := by decide +kernel
theorem dX5_monotone_3 : decode cX5_monotone 3 = .ok (.istore_n 2, 1) := by decide +kernel
theorem dX5_monotone_4 : decode cX5_monotone 4 = .ok (.iload_n 2, 1) := by decide +kernel
theorem dX5_monotone_5 : decode cX5_monotone 5 = .ok (.bipush 8, 2) := by decide +kernel
theorem dX5_monotone_7 : decode cX5_monotone 7 = .ok (.if_icmp .ge 63, 3) := by decide +kernel
theorem dX5_monotone_10 : decode cX5_monotone 10 = .ok (.iconst 1, 1) := by decide +kernel
theorem dX5_monotone_11 : decode cX5_monotone 11 = .ok (.istore_n 3, 1) := by decide +kernel
theorem dX5_monotone_12 : decode cX5_monotone 12 = .ok (.iload_n 3, 1) := by decide +kernel
theorem dX5_monotone_13 : decode cX5_monotone 13 = .ok (.aload_n 0, 1) := by decide +kernel
theorem dX5_monotone_14 : decode cX5_monotone 14 = .ok (.getfield 64, 3) := by decide +kernel
theorem dX5_monotone_17 : decode cX5_monotone 17 = .ok (.if_icmp .ge 47, 3) := by decide +kernel
theorem dX5_monotone_20 : decode cX5_monotone 20 = .ok (.iload_n 1, 1) := by decide +kernel
theorem dX5_monotone_21 : decode cX5_monotone 21 = .ok (.ifCond .eq 35, 3) := by decide +kernel
theorem dX5_monotone_24 : decode cX5_monotone 24 = .ok (.aload_n 0, 1) := by decide +kernel
theorem dX5_monotone_25 : decode cX5_monotone 25 = .ok (.getfield 7, 3) := by decide +kernel
theorem dX5_monotone_28 : decode cX5_monotone 28 = .ok (.bipush 8, 2) := by decide +kernel
theorem dX5_monotone_30 : decode cX5_monotone 30 = .ok (.iload_n 3, 1) := by decide +kernel
theorem dX5_monotone_31 : decode cX5_monotone 31 = .ok (.imul, 1) := by decide +kernel
theorem dX5_monotone_32 : decode cX5_monotone 32 = .ok (.bipush 8, 2) := by decide +kernel
theorem dX5_monotone_34 : decode cX5_monotone 34 = .ok (.isub, 1) := by decide +kernel
theorem dX5_monotone_35 : decode cX5_monotone 35 = .ok (.iload_n 2, 1) := by decide +kernel
theorem dX5_monotone_36 : decode cX5_monotone 36 = .ok (.iadd, 1) := by decide +kernel
theorem dX5_monotone_37 : decode cX5_monotone 37 = .ok (.iaload, 1) := by decide +kernel
theorem dX5_monotone_38 : decode cX5_monotone 38 = .ok (.aload_n 0, 1) := by decide +kernel
theorem dX5_monotone_39 : decode cX5_monotone 39 = .ok (.getfield 7, 3) := by decide +kernel
theorem dX5_monotone_42 : decode cX5_monotone 42 = .ok (.bipush 8, 2) := by decide +kernel
theorem dX5_monotone_44 : decode cX5_monotone 44 = .ok (.iload_n 3, 1) := by decide +kernel
theorem dX5_monotone_45 : decode cX5_monotone 45 = .ok (.imul, 1) := by decide +kernel
theorem dX5_monotone_46 : decode cX5_monotone 46 = .ok (.iload_n 2, 1) := by decide +kernel
theorem dX5_monotone_47 : decode cX5_monotone 47 = .ok (.iadd, 1) := by decide +kernel
theorem dX5_monotone_48 : decode cX5_monotone 48 = .ok (.iaload, 1) := by decide +kernel
theorem dX5_monotone_49 : decode cX5_monotone 49 = .ok (.if_icmp .gt 7, 3) := by decide +kernel
theorem dX5_monotone_52 : decode cX5_monotone 52 = .ok (.iconst 1, 1) := by decide +kernel
theorem dX5_monotone_53 : decode cX5_monotone 53 = .ok (.goto 4, 3) := by decide +kernel
theorem dX5_monotone_56 : decode cX5_monotone 56 = .ok (.iconst 0, 1) := by decide +kernel
theorem dX5_monotone_57 : decode cX5_monotone 57 = .ok (.istore_n 1, 1) := by decide +kernel
theorem dX5_monotone_58 : decode cX5_monotone 58 = .ok (.iinc 3 1, 3) := by decide +kernel
theorem dX5_monotone_61 : decode cX5_monotone 61 = .ok (.goto (-49), 3) := by decide +kernel
theorem dX5_monotone_64 : decode cX5_monotone 64 = .ok (.iinc 2 1, 3) := by decide +kernel
theorem dX5_monotone_67 : decode cX5_monotone 67 = .ok (.goto (-63), 3) := by decide +kernel
theorem dX5_monotone_70 : decode cX5_monotone 70 = .ok (.iload_n 1, 1) := by decide +kernel
theorem dX5_monotone_71 : decode cX5_monotone 71 = .ok (.ifCond .eq 7, 3) := by decide +kernel
theorem dX5_monotone_74 : decode cX5_monotone 74 = .ok (.iconst 1, 1) := by decide +kernel
theorem dX5_monotone_75 : decode cX5_monotone 75 = .ok (.goto 4, 3) := by decide +kernel
theorem dX5_monotone_78 : decode cX5_monotone 78 = .ok (.iconst 0, 1) := by decide +kernel
theorem dX5_monotone_79 : decode cX5_monotone 79 = .ok (.ireturn, 1) := by decide +kernel
set_option maxRecDepth 20000 in
theorem ggX5_counted_X5_in : GoodIn wsX5_counted wsX5_in := goodIn_r _ [6] (by decide +kernel) (by decide +kernel)
set_option maxRecDepth 20000 in
theorem gX5_counted_X5_in : GoodIn wsX5_counted (va_wsS RX5 67 yX5_in wsX5_in) := goodIn_app (goodIn_of _ (by decide +kernel)) ggX5_counted_X5_in
set_option maxRecDepth 20000 in
theorem ggX5_counted_X5_isState : GoodIn wsX5_counted wsX5_isState := goodIn_r _ [10, 11, 3, 4, 5, 6, 25, 26, 27, 28, 29, 30, 31, 32, 33, 34, 35, 36, 37, 38, 39, 40, 41, 42, 43, 44] (by decide +kernel) (by decide +kernel)
set_option maxRecDepth 20000 in
theorem gX5_counted_X5_isState : GoodIn wsX5_counted (wsV RX5 95 RX5 yX5_isState wsX5_isState) := goodIn_app (goodIn_of _ (by decide +kernel)) ggX5_counted_X5_isState
set_option maxRecDepth 20000 in
theorem ggX5_counted_X5_begin : GoodIn wsX5_counted wsX5_begin := goodIn_r _ [15, 11, 2, 25, 26, 27, 28, 29, 30, 31, 32, 33, 34, 35, 36, 37, 38, 39, 40, 41, 42, 43, 44] (by decide +kernel) (by decide +kernel)
set_option maxRecDepth 20000 in
theorem gX5_counted_X5_begin : GoodIn wsX5_counted (wsV RX5 109 RX5 yX5_begin wsX5_begin) := goodIn_app (goodIn_of _ (by decide +kernel)) ggX5_counted_X5_begin
set_option maxRecDepth 20000 in
theorem ggX5_counted_X5_behind : GoodIn wsX5_counted wsX5_behind := goodIn_r _ [19, 11, 2, 20, 25, 26, 27, 28, 29, 30, 31, 32, 33, 34, 35, 36, 37, 38, 39, 40, 41, 42, 43, 44] (by decide +kernel) (by decide +kernel)
set_option maxRecDepth 20000 in
theorem gX5_counted_X5_behind : GoodIn wsX5_counted (wsV RX5 128 RX5 yX5_behind wsX5_behind) := goodIn_app (goodIn_of _ (by decide +kernel)) ggX5_counted_X5_behind
set_option maxRecDepth 20000 in
theorem ggX5_counted_X5_meets : GoodIn wsX5_counted wsX5_meets := goodIn_r _ [24, 11, 2, 25, 26, 27, 28, 29, 30, 31, 32, 33, 34, 35, 36, 37, 38, 39, 40, 41, 42, 43, 44] (by decide +kernel) (by decide +kernel)
set_option maxRecDepth 20000 in
theorem gX5_counted_X5_meets : GoodIn wsX5_counted (wsV RX5 116 RX5 yX5_meets wsX5_meets) := goodIn_app (goodIn_of _ (by decide +kernel)) ggX5_counted_X5_meets
theorem dX5_counted_0 : decode cX5_counted 0 = .ok (.iload_n 1, 1) := by decide +kernel
theorem dX5_counted_1 : decode cX5_counted 1 = .ok (.i2l, 1) := by decide +kernel
theorem dX5_counted_2 : decode cX5_counted 2 = .ok (.lconst 1, 1) := by decide +kernel
theorem dX5_counted_3 : decode cX5_counted 3 = .ok (.ldc2_w 126, 3) := by decide +kernel
theorem dX5_counted_6 : decode cX5_counted 6 = .ok (.invokestatic 67, 3) := by decide +kernel
theorem dX5_counted_9 : decode cX5_counted 9 = .ok (.ifCond .eq 16, 3) := by decide +kernel
theorem dX5_counted_12 : decode cX5_counted 12 = .ok (.iload_n 2, 1) := by decide +kernel
theorem dX5_counted_13 : decode cX5_counted 13 = .ok (.iconst (-1), 1) := by decide +kernel
theorem dX5_counted_14 : decode cX5_counted 14 = .ok (.if_icmp .eq 13, 3) := by decide +kernel
theorem dX5_counted_17 : decode cX5_counted 17 = .ok (.aload_n 0, 1) := by decide +kernel
theorem dX5_counted_18 : decode cX5_counted 18 = .ok (.iload_n 2, 1) := by decide +kernel
theorem dX5_counted_19 : decode cX5_counted 19 = .ok (.invokevirtual 95, 3) := by decide +kernel
theorem dX5_counted_22 : decode cX5_counted 22 = .ok (.ifCond .ne 5, 3) := by decide +kernel
theorem dX5_counted_25 : decode cX5_counted 25 = .ok (.iconst (-1), 1) := by decide +kernel
theorem dX5_counted_26 : decode cX5_counted 26 = .ok (.ireturn, 1) := by decide +kernel
theorem dX5_counted_27 : decode cX5_counted 27 = .ok (.iconst 0, 1) := by decide +kernel
theorem dX5_counted_28 : decode cX5_counted 28 = .ok (.istore_n 3, 1) := by decide +kernel
theorem dX5_counted_29 : decode cX5_counted 29 = .ok (.iconst 0, 1) := by decide +kernel
theorem dX5_counted_30 : decode cX5_counted 30 = .ok (.istore 4, 2) := by decide +kernel
theorem dX5_counted_32 : decode cX5_counted 32 = .ok (.iload 4, 2) := by decide +kernel
theorem dX5_counted_34 : decode cX5_counted 34 = .ok (.iconst 1, 1) := by decide +kernel
theorem dX5_counted_35 : decode cX5_counted 35 = .ok (.iconst 3, 1) := by decide +kernel
theorem dX5_counted_36 : decode cX5_counted 36 = .ok (.iload_n 1, 1) := by decide +kernel
theorem dX5_counted_37 : decode cX5_counted 37 = .ok (.imul, 1) := by decide +kernel
theorem dX5_counted_38 : decode cX5_counted 38 = .ok (.ishl, 1) := by decide +kernel
theorem dX5_counted_39 : decode cX5_counted 39 = .ok (.if_icmp .ge 71, 3) := by decide +kernel
theorem dX5_counted_42 : decode cX5_counted 42 = .ok (.aload_n 0, 1) := by decide +kernel
theorem dX5_counted_43 : decode cX5_counted 43 = .ok (.invokevirtual 109, 3) := by decide +kernel
theorem dX5_counted_46 : decode cX5_counted 46 = .ok (.iconst 0, 1) := by decide +kernel
theorem dX5_counted_47 : decode cX5_counted 47 = .ok (.istore 5, 2) := by decide +kernel
theorem dX5_counted_49 : decode cX5_counted 49 = .ok (.iload 5, 2) := by decide +kernel
theorem dX5_counted_51 : decode cX5_counted 51 = .ok (.iload_n 1, 1) := by decide +kernel
theorem dX5_counted_52 : decode cX5_counted 52 = .ok (.if_icmp .ge 23, 3) := by decide +kernel
theorem dX5_counted_55 : decode cX5_counted 55 = .ok (.aload_n 0, 1) := by decide +kernel
theorem dX5_counted_56 : decode cX5_counted 56 = .ok (.iload 4, 2) := by decide +kernel
theorem dX5_counted_58 : decode cX5_counted 58 = .ok (.iconst 3, 1) := by decide +kernel
theorem dX5_counted_59 : decode cX5_counted 59 = .ok (.iload 5, 2) := by decide +kernel
theorem dX5_counted_61 : decode cX5_counted 61 = .ok (.imul, 1) := by decide +kernel
theorem dX5_counted_62 : decode cX5_counted 62 = .ok (.ishr, 1) := by decide +kernel
theorem dX5_counted_63 : decode cX5_counted 63 = .ok (.bipush 7, 2) := by decide +kernel
theorem dX5_counted_65 : decode cX5_counted 65 = .ok (.iand, 1) := by decide +kernel
theorem dX5_counted_66 : decode cX5_counted 66 = .ok (.invokevirtual 128, 3) := by decide +kernel
theorem dX5_counted_69 : decode cX5_counted 69 = .ok (.iinc 5 1, 3) := by decide +kernel
theorem dX5_counted_72 : decode cX5_counted 72 = .ok (.goto (-23), 3) := by decide +kernel
theorem dX5_counted_75 : decode cX5_counted 75 = .ok (.iload_n 3, 1) := by decide +kernel
theorem dX5_counted_76 : decode cX5_counted 76 = .ok (.aload_n 0, 1) := by decide +kernel
theorem dX5_counted_77 : decode cX5_counted 77 = .ok (.invokevirtual 116, 3) := by decide +kernel
theorem dX5_counted_80 : decode cX5_counted 80 = .ok (.ifCond .eq 12, 3) := by decide +kernel
theorem dX5_counted_83 : decode cX5_counted 83 = .ok (.aload_n 0, 1) := by decide +kernel
theorem dX5_counted_84 : decode cX5_counted 84 = .ok (.getfield 30, 3) := by decide +kernel
theorem dX5_counted_87 : decode cX5_counted 87 = .ok (.iconst 0, 1) := by decide +kernel
theorem dX5_counted_88 : decode cX5_counted 88 = .ok (.iaload, 1) := by decide +kernel
theorem dX5_counted_89 : decode cX5_counted 89 = .ok (.goto 4, 3) := by decide +kernel
theorem dX5_counted_92 : decode cX5_counted 92 = .ok (.iconst (-1), 1) := by decide +kernel
theorem dX5_counted_93 : decode cX5_counted 93 = .ok (.iload_n 2, 1) := by decide +kernel
theorem dX5_counted_94 : decode cX5_counted 94 = .ok (.if_icmp .ne 7, 3) := by decide +kernel
theorem dX5_counted_97 : decode cX5_counted 97 = .ok (.iconst 1, 1) := by decide +kernel
theorem dX5_counted_98 : decode cX5_counted 98 = .ok (.goto 4, 3) := by decide +kernel
theorem dX5_counted_101 : decode cX5_counted 101 = .ok (.iconst 0, 1) := by decide +kernel
theorem dX5_counted_102 : decode cX5_counted 102 = .ok (.iadd, 1) := by decide +kernel
theorem dX5_counted_103 : decode cX5_counted 103 = .ok (.istore_n 3, 1) := by decide +kernel
theorem dX5_counted_104 : decode cX5_counted 104 = .ok (.iinc 4 1, 3) := by decide +kernel
theorem dX5_counted_107 : decode cX5_counted 107 = .ok (.goto (-75), 3) := by decide +kernel
theorem dX5_counted_110 : decode cX5_counted 110 = .ok (.iload_n 3, 1) := by decide +kernel
theorem dX5_counted_111 : decode cX5_counted 111 = .ok (.ireturn, 1) := by decide +kernel
set_option maxRecDepth 20000 in
theorem ggX5_treesOf_X5_cellOf : GoodIn wsX5_treesOf wsX5_cellOf := goodIn_r _ [7, 8, 13, 14, 15, 16, 17, 18, 19, 20, 21, 22, 23, 24, 25, 26, 27, 28, 29, 30, 31, 32] (by decide +kernel) (by decide +kernel)
set_option maxRecDepth 20000 in
theorem gX5_treesOf_X5_cellOf : GoodIn wsX5_treesOf (wsV RX5 131 RX5 yX5_cellOf wsX5_cellOf) := goodIn_app (goodIn_of _ (by decide +kernel)) ggX5_treesOf_X5_cellOf
set_option maxRecDepth 20000 in
theorem ggX5_treesOf_X5_determinant : GoodIn wsX5_treesOf wsX5_determinant := goodIn_r _ [12, 2, 13, 14, 15, 16, 17, 18, 19, 20, 21, 22, 23, 24, 25, 26, 27, 28, 29, 30, 31, 32] (by decide +kernel) (by decide +kernel)
set_option maxRecDepth 20000 in
theorem gX5_treesOf_X5_determinant : GoodIn wsX5_treesOf (wsV RX5 135 RX5 yX5_determinant wsX5_determinant) := goodIn_app (goodIn_of _ (by decide +kernel)) ggX5_treesOf_X5_determinant
theorem dX5_treesOf_0 : decode cX5_treesOf 0 = .ok (.iconst 0, 1) := by decide +kernel
theorem dX5_treesOf_1 : decode cX5_treesOf 1 = .ok (.istore_n 2, 1) := by decide +kernel
theorem dX5_treesOf_2 : decode cX5_treesOf 2 = .ok (.iconst 0, 1) := by decide +kernel
theorem dX5_treesOf_3 : decode cX5_treesOf 3 = .ok (.istore_n 3, 1) := by decide +kernel
theorem dX5_treesOf_4 : decode cX5_treesOf 4 = .ok (.iload_n 3, 1) := by decide +kernel
theorem dX5_treesOf_5 : decode cX5_treesOf 5 = .ok (.aload_n 0, 1) := by decide +kernel
theorem dX5_treesOf_6 : decode cX5_treesOf 6 = .ok (.getfield 64, 3) := by decide +kernel
theorem dX5_treesOf_9 : decode cX5_treesOf 9 = .ok (.if_icmp .ge 69, 3) := by decide +kernel
theorem dX5_treesOf_12 : decode cX5_treesOf 12 = .ok (.iload_n 3, 1) := by decide +kernel
theorem dX5_treesOf_13 : decode cX5_treesOf 13 = .ok (.iload_n 1, 1) := by decide +kernel
theorem dX5_treesOf_14 : decode cX5_treesOf 14 = .ok (.if_icmp .ne 6, 3) := by decide +kernel
theorem dX5_treesOf_17 : decode cX5_treesOf 17 = .ok (.goto 55, 3) := by decide +kernel
theorem dX5_treesOf_20 : decode cX5_treesOf 20 = .ok (.iconst 0, 1) := by decide +kernel
theorem dX5_treesOf_21 : decode cX5_treesOf 21 = .ok (.istore 4, 2) := by decide +kernel
theorem dX5_treesOf_23 : decode cX5_treesOf 23 = .ok (.iconst 0, 1) := by decide +kernel
theorem dX5_treesOf_24 : decode cX5_treesOf 24 = .ok (.istore 5, 2) := by decide +kernel
theorem dX5_treesOf_26 : decode cX5_treesOf 26 = .ok (.iload 5, 2) := by decide +kernel
theorem dX5_treesOf_28 : decode cX5_treesOf 28 = .ok (.aload_n 0, 1) := by decide +kernel
theorem dX5_treesOf_29 : decode cX5_treesOf 29 = .ok (.getfield 64, 3) := by decide +kernel
theorem dX5_treesOf_32 : decode cX5_treesOf 32 = .ok (.if_icmp .ge 37, 3) := by decide +kernel
theorem dX5_treesOf_35 : decode cX5_treesOf 35 = .ok (.iload 5, 2) := by decide +kernel
theorem dX5_treesOf_37 : decode cX5_treesOf 37 = .ok (.iload_n 1, 1) := by decide +kernel
theorem dX5_treesOf_38 : decode cX5_treesOf 38 = .ok (.if_icmp .eq 25, 3) := by decide +kernel
theorem dX5_treesOf_41 : decode cX5_treesOf 41 = .ok (.aload_n 0, 1) := by decide +kernel
theorem dX5_treesOf_42 : decode cX5_treesOf 42 = .ok (.getfield 42, 3) := by decide +kernel
theorem dX5_treesOf_45 : decode cX5_treesOf 45 = .ok (.bipush 12, 2) := by decide +kernel
theorem dX5_treesOf_47 : decode cX5_treesOf 47 = .ok (.iload_n 2, 1) := by decide +kernel
theorem dX5_treesOf_48 : decode cX5_treesOf 48 = .ok (.imul, 1) := by decide +kernel
theorem dX5_treesOf_49 : decode cX5_treesOf 49 = .ok (.iload 4, 2) := by decide +kernel
theorem dX5_treesOf_51 : decode cX5_treesOf 51 = .ok (.iadd, 1) := by decide +kernel
theorem dX5_treesOf_52 : decode cX5_treesOf 52 = .ok (.aload_n 0, 1) := by decide +kernel
theorem dX5_treesOf_53 : decode cX5_treesOf 53 = .ok (.iload_n 3, 1) := by decide +kernel
theorem dX5_treesOf_54 : decode cX5_treesOf 54 = .ok (.iload 5, 2) := by decide +kernel
theorem dX5_treesOf_56 : decode cX5_treesOf 56 = .ok (.invokevirtual 131, 3) := by decide +kernel
theorem dX5_treesOf_59 : decode cX5_treesOf 59 = .ok (.lastore, 1) := by decide +kernel
theorem dX5_treesOf_60 : decode cX5_treesOf 60 = .ok (.iinc 4 1, 3) := by decide +kernel
theorem dX5_treesOf_63 : decode cX5_treesOf 63 = .ok (.iinc 5 1, 3) := by decide +kernel
theorem dX5_treesOf_66 : decode cX5_treesOf 66 = .ok (.goto (-40), 3) := by decide +kernel
theorem dX5_treesOf_69 : decode cX5_treesOf 69 = .ok (.iinc 2 1, 3) := by decide +kernel
theorem dX5_treesOf_72 : decode cX5_treesOf 72 = .ok (.iinc 3 1, 3) := by decide +kernel
theorem dX5_treesOf_75 : decode cX5_treesOf 75 = .ok (.goto (-71), 3) := by decide +kernel
theorem dX5_treesOf_78 : decode cX5_treesOf 78 = .ok (.aload_n 0, 1) := by decide +kernel
theorem dX5_treesOf_79 : decode cX5_treesOf 79 = .ok (.iload_n 2, 1) := by decide +kernel
theorem dX5_treesOf_80 : decode cX5_treesOf 80 = .ok (.invokevirtual 135, 3) := by decide +kernel
theorem dX5_treesOf_83 : decode cX5_treesOf 83 = .ok (.lreturn, 1) := by decide +kernel
theorem dX5_cellOf_0 : decode cX5_cellOf 0 = .ok (.iconst 0, 1) := by decide +kernel
theorem dX5_cellOf_1 : decode cX5_cellOf 1 = .ok (.istore_n 3, 1) := by decide +kernel
theorem dX5_cellOf_2 : decode cX5_cellOf 2 = .ok (.iconst 0, 1) := by decide +kernel
theorem dX5_cellOf_3 : decode cX5_cellOf 3 = .ok (.istore 4, 2) := by decide +kernel
theorem dX5_cellOf_5 : decode cX5_cellOf 5 = .ok (.iload 4, 2) := by decide +kernel
theorem dX5_cellOf_7 : decode cX5_cellOf 7 = .ok (.bipush 8, 2) := by decide +kernel
theorem dX5_cellOf_9 : decode cX5_cellOf 9 = .ok (.if_icmp .ge 56, 3) := by decide +kernel
theorem dX5_cellOf_12 : decode cX5_cellOf 12 = .ok (.aload_n 0, 1) := by decide +kernel
theorem dX5_cellOf_13 : decode cX5_cellOf 13 = .ok (.getfield 7, 3) := by decide +kernel
theorem dX5_cellOf_16 : decode cX5_cellOf 16 = .ok (.bipush 8, 2) := by decide +kernel
theorem dX5_cellOf_18 : decode cX5_cellOf 18 = .ok (.iload_n 1, 1) := by decide +kernel
theorem dX5_cellOf_19 : decode cX5_cellOf 19 = .ok (.imul, 1) := by decide +kernel
theorem dX5_cellOf_20 : decode cX5_cellOf 20 = .ok (.iload 4, 2) := by decide +kernel
theorem dX5_cellOf_22 : decode cX5_cellOf 22 = .ok (.iadd, 1) := by decide +kernel
theorem dX5_cellOf_23 : decode cX5_cellOf 23 = .ok (.iaload, 1) := by decide +kernel
theorem dX5_cellOf_24 : decode cX5_cellOf 24 = .ok (.istore 5, 2) := by decide +kernel
theorem dX5_cellOf_26 : decode cX5_cellOf 26 = .ok (.iload_n 3, 1) := by decide +kernel
theorem dX5_cellOf_27 : decode cX5_cellOf 27 = .ok (.iload_n 1, 1) := by decide +kernel
theorem dX5_cellOf_28 : decode cX5_cellOf 28 = .ok (.iload_n 2, 1) := by decide +kernel
theorem dX5_cellOf_29 : decode cX5_cellOf 29 = .ok (.if_icmp .ne 17, 3) := by decide +kernel
theorem dX5_cellOf_32 : decode cX5_cellOf 32 = .ok (.iload 5, 2) := by decide +kernel
theorem dX5_cellOf_34 : decode cX5_cellOf 34 = .ok (.iload_n 1, 1) := by decide +kernel
theorem dX5_cellOf_35 : decode cX5_cellOf 35 = .ok (.if_icmp .eq 7, 3) := by decide +kernel
theorem dX5_cellOf_38 : decode cX5_cellOf 38 = .ok (.iconst 1, 1) := by decide +kernel
theorem dX5_cellOf_39 : decode cX5_cellOf 39 = .ok (.goto 18, 3) := by decide +kernel
theorem dX5_cellOf_42 : decode cX5_cellOf 42 = .ok (.iconst 0, 1) := by decide +kernel
theorem dX5_cellOf_43 : decode cX5_cellOf 43 = .ok (.goto 14, 3) := by decide +kernel
theorem dX5_cellOf_46 : decode cX5_cellOf 46 = .ok (.iload 5, 2) := by decide +kernel
theorem dX5_cellOf_48 : decode cX5_cellOf 48 = .ok (.iload_n 2, 1) := by decide +kernel
theorem dX5_cellOf_49 : decode cX5_cellOf 49 = .ok (.if_icmp .ne 7, 3) := by decide +kernel
theorem dX5_cellOf_52 : decode cX5_cellOf 52 = .ok (.iconst (-1), 1) := by decide +kernel
theorem dX5_cellOf_53 : decode cX5_cellOf 53 = .ok (.goto 4, 3) := by decide +kernel
theorem dX5_cellOf_56 : decode cX5_cellOf 56 = .ok (.iconst 0, 1) := by decide +kernel
theorem dX5_cellOf_57 : decode cX5_cellOf 57 = .ok (.iadd, 1) := by decide +kernel
theorem dX5_cellOf_58 : decode cX5_cellOf 58 = .ok (.istore_n 3, 1) := by decide +kernel
theorem dX5_cellOf_59 : decode cX5_cellOf 59 = .ok (.iinc 4 1, 3) := by decide +kernel
theorem dX5_cellOf_62 : decode cX5_cellOf 62 = .ok (.goto (-57), 3) := by decide +kernel
theorem dX5_cellOf_65 : decode cX5_cellOf 65 = .ok (.iload_n 3, 1) := by decide +kernel
theorem dX5_cellOf_66 : decode cX5_cellOf 66 = .ok (.i2l, 1) := by decide +kernel
theorem dX5_cellOf_67 : decode cX5_cellOf 67 = .ok (.lreturn, 1) := by decide +kernel
theorem dX5_determinant_0 : decode cX5_determinant 0 = .ok (.lconst 1, 1) := by decide +kernel
theorem dX5_determinant_1 : decode cX5_determinant 1 = .ok (.lstore_n 2, 1) := by decide +kernel
theorem dX5_determinant_2 : decode cX5_determinant 2 = .ok (.lconst 1, 1) := by decide +kernel
theorem dX5_determinant_3 : decode cX5_determinant 3 = .ok (.lstore 4, 2) := by decide +kernel
theorem dX5_determinant_5 : decode cX5_determinant 5 = .ok (.iconst 0, 1) := by decide +kernel
theorem dX5_determinant_6 : decode cX5_determinant 6 = .ok (.istore 6, 2) := by decide +kernel
theorem dX5_determinant_8 : decode cX5_determinant 8 = .ok (.iload 6, 2) := by decide +kernel
theorem dX5_determinant_10 : decode cX5_determinant 10 = .ok (.iload_n 1, 1) := by decide +kernel
theorem dX5_determinant_11 : decode cX5_determinant 11 = .ok (.if_icmp .ge 266, 3) := by decide +kernel
theorem dX5_determinant_14 : decode cX5_determinant 14 = .ok (.iload 6, 2) := by decide +kernel
theorem dX5_determinant_16 : decode cX5_determinant 16 = .ok (.istore 7, 2) := by decide +kernel
theorem dX5_determinant_18 : decode cX5_determinant 18 = .ok (.iload 7, 2) := by decide +kernel
theorem dX5_determinant_20 : decode cX5_determinant 20 = .ok (.iload_n 1, 1) := by decide +kernel
theorem dX5_determinant_21 : decode cX5_determinant 21 = .ok (.if_icmp .ge 27, 3) := by decide +kernel
theorem dX5_determinant_24 : decode cX5_determinant 24 = .ok (.aload_n 0, 1) := by decide +kernel
theorem dX5_determinant_25 : decode cX5_determinant 25 = .ok (.getfield 42, 3) := by decide +kernel
theorem dX5_determinant_28 : decode cX5_determinant 28 = .ok (.bipush 12, 2) := by decide +kernel
theorem dX5_determinant_30 : decode cX5_determinant 30 = .ok (.iload 7, 2) := by decide +kernel
theorem dX5_determinant_32 : decode cX5_determinant 32 = .ok (.imul, 1) := by decide +kernel
theorem dX5_determinant_33 : decode cX5_determinant 33 = .ok (.iload 6, 2) := by decide +kernel
theorem dX5_determinant_35 : decode cX5_determinant 35 = .ok (.iadd, 1) := by decide +kernel
theorem dX5_determinant_36 : decode cX5_determinant 36 = .ok (.laload, 1) := by decide +kernel
theorem dX5_determinant_37 : decode cX5_determinant 37 = .ok (.lconst 0, 1) := by decide +kernel
theorem dX5_determinant_38 : decode cX5_determinant 38 = .ok (.lcmp, 1) := by decide +kernel
theorem dX5_determinant_39 : decode cX5_determinant 39 = .ok (.ifCond .ne 9, 3) := by decide +kernel
theorem dX5_determinant_42 : decode cX5_determinant 42 = .ok (.iinc 7 1, 3) := by decide +kernel
theorem dX5_determinant_45 : decode cX5_determinant 45 = .ok (.goto (-27), 3) := by decide +kernel
theorem dX5_determinant_48 : decode cX5_determinant 48 = .ok (.iload 7, 2) := by decide +kernel
theorem dX5_determinant_50 : decode cX5_determinant 50 = .ok (.iload_n 1, 1) := by decide +kernel
theorem dX5_determinant_51 : decode cX5_determinant 51 = .ok (.if_icmp .ne 5, 3) := by decide +kernel
theorem dX5_determinant_54 : decode cX5_determinant 54 = .ok (.lconst 0, 1) := by decide +kernel
theorem dX5_determinant_55 : decode cX5_determinant 55 = .ok (.lreturn, 1) := by decide +kernel
theorem dX5_determinant_56 : decode cX5_determinant 56 = .ok (.iconst 0, 1) := by decide +kernel
theorem dX5_determinant_57 : decode cX5_determinant 57 = .ok (.istore 8, 2) := by decide +kernel
theorem dX5_determinant_59 : decode cX5_determinant 59 = .ok (.iload 8, 2) := by decide +kernel
theorem dX5_determinant_61 : decode cX5_determinant 61 = .ok (.iload_n 1, 1) := by decide +kernel
theorem dX5_determinant_62 : decode cX5_determinant 62 = .ok (.if_icmp .ge 72, 3) := by decide +kernel
theorem dX5_determinant_65 : decode cX5_determinant 65 = .ok (.iload 7, 2) := by decide +kernel
theorem dX5_determinant_67 : decode cX5_determinant 67 = .ok (.iload 6, 2) := by decide +kernel
theorem dX5_determinant_69 : decode cX5_determinant 69 = .ok (.if_icmp .eq 65, 3) := by decide +kernel
theorem dX5_determinant_72 : decode cX5_determinant 72 = .ok (.aload_n 0, 1) := by decide +kernel
theorem dX5_determinant_73 : decode cX5_determinant 73 = .ok (.getfield 42, 3) := by decide +kernel
theorem dX5_determinant_76 : decode cX5_determinant 76 = .ok (.bipush 12, 2) := by decide +kernel
theorem dX5_determinant_78 : decode cX5_determinant 78 = .ok (.iload 7, 2) := by decide +kernel
theorem dX5_determinant_80 : decode cX5_determinant 80 = .ok (.imul, 1) := by decide +kernel
theorem dX5_determinant_81 : decode cX5_determinant 81 = .ok (.iload 8, 2) := by decide +kernel
theorem dX5_determinant_83 : decode cX5_determinant 83 = .ok (.iadd, 1) := by decide +kernel
theorem dX5_determinant_84 : decode cX5_determinant 84 = .ok (.laload, 1) := by decide +kernel
theorem dX5_determinant_85 : decode cX5_determinant 85 = .ok (.lstore 9, 2) := by decide +kernel
theorem dX5_determinant_87 : decode cX5_determinant 87 = .ok (.aload_n 0, 1) := by decide +kernel
theorem dX5_determinant_88 : decode cX5_determinant 88 = .ok (.getfield 42, 3) := by decide +kernel
theorem dX5_determinant_91 : decode cX5_determinant 91 = .ok (.bipush 12, 2) := by decide +kernel
theorem dX5_determinant_93 : decode cX5_determinant 93 = .ok (.iload 7, 2) := by decide +kernel
theorem dX5_determinant_95 : decode cX5_determinant 95 = .ok (.imul, 1) := by decide +kernel
theorem dX5_determinant_96 : decode cX5_determinant 96 = .ok (.iload 8, 2) := by decide +kernel
theorem dX5_determinant_98 : decode cX5_determinant 98 = .ok (.iadd, 1) := by decide +kernel
theorem dX5_determinant_99 : decode cX5_determinant 99 = .ok (.aload_n 0, 1) := by decide +kernel
theorem dX5_determinant_100 : decode cX5_determinant 100 = .ok (.getfield 42, 3) := by decide +kernel
theorem dX5_determinant_103 : decode cX5_determinant 103 = .ok (.bipush 12, 2) := by decide +kernel
theorem dX5_determinant_105 : decode cX5_determinant 105 = .ok (.iload 6, 2) := by decide +kernel
theorem dX5_determinant_107 : decode cX5_determinant 107 = .ok (.imul, 1) := by decide +kernel
theorem dX5_determinant_108 : decode cX5_determinant 108 = .ok (.iload 8, 2) := by decide +kernel
theorem dX5_determinant_110 : decode cX5_determinant 110 = .ok (.iadd, 1) := by decide +kernel
theorem dX5_determinant_111 : decode cX5_determinant 111 = .ok (.laload, 1) := by decide +kernel
theorem dX5_determinant_112 : decode cX5_determinant 112 = .ok (.lastore, 1) := by decide +kernel
theorem dX5_determinant_113 : decode cX5_determinant 113 = .ok (.aload_n 0, 1) := by decide +kernel
theorem dX5_determinant_114 : decode cX5_determinant 114 = .ok (.getfield 42, 3) := by decide +kernel
theorem dX5_determinant_117 : decode cX5_determinant 117 = .ok (.bipush 12, 2) := by decide +kernel
theorem dX5_determinant_119 : decode cX5_determinant 119 = .ok (.iload 6, 2) := by decide +kernel
theorem dX5_determinant_121 : decode cX5_determinant 121 = .ok (.imul, 1) := by decide +kernel
theorem dX5_determinant_122 : decode cX5_determinant 122 = .ok (.iload 8, 2) := by decide +kernel
theorem dX5_determinant_124 : decode cX5_determinant 124 = .ok (.iadd, 1) := by decide +kernel
theorem dX5_determinant_125 : decode cX5_determinant 125 = .ok (.lload 9, 2) := by decide +kernel
theorem dX5_determinant_127 : decode cX5_determinant 127 = .ok (.lastore, 1) := by decide +kernel
theorem dX5_determinant_128 : decode cX5_determinant 128 = .ok (.iinc 8 1, 3) := by decide +kernel
theorem dX5_determinant_131 : decode cX5_determinant 131 = .ok (.goto (-72), 3) := by decide +kernel
theorem dX5_determinant_134 : decode cX5_determinant 134 = .ok (.iload 7, 2) := by decide +kernel
theorem dX5_determinant_136 : decode cX5_determinant 136 = .ok (.iload 6, 2) := by decide +kernel
theorem dX5_determinant_138 : decode cX5_determinant 138 = .ok (.if_icmp .ne 8, 3) := by decide +kernel
theorem dX5_determinant_141 : decode cX5_determinant 141 = .ok (.lload 4, 2) := by decide +kernel
theorem dX5_determinant_143 : decode cX5_determinant 143 = .ok (.goto 6, 3) := by decide +kernel
theorem dX5_determinant_146 : decode cX5_determinant 146 = .ok (.lload 4, 2) := by decide +kernel
theorem dX5_determinant_148 : decode cX5_determinant 148 = .ok (.lneg, 1) := by decide +kernel
theorem dX5_determinant_149 : decode cX5_determinant 149 = .ok (.lstore 4, 2) := by decide +kernel
theorem dX5_determinant_151 : decode cX5_determinant 151 = .ok (.iload 6, 2) := by decide +kernel
theorem dX5_determinant_153 : decode cX5_determinant 153 = .ok (.iconst 1, 1) := by decide +kernel
theorem dX5_determinant_154 : decode cX5_determinant 154 = .ok (.iadd, 1) := by decide +kernel
theorem dX5_determinant_155 : decode cX5_determinant 155 = .ok (.istore 8, 2) := by decide +kernel
theorem dX5_determinant_157 : decode cX5_determinant 157 = .ok (.iload 8, 2) := by decide +kernel
theorem dX5_determinant_159 : decode cX5_determinant 159 = .ok (.iload_n 1, 1) := by decide +kernel
theorem dX5_determinant_160 : decode cX5_determinant 160 = .ok (.if_icmp .ge 97, 3) := by decide +kernel
theorem dX5_determinant_163 : decode cX5_determinant 163 = .ok (.iload 6, 2) := by decide +kernel
theorem dX5_determinant_165 : decode cX5_determinant 165 = .ok (.iconst 1, 1) := by decide +kernel
theorem dX5_determinant_166 : decode cX5_determinant 166 = .ok (.iadd, 1) := by decide +kernel
theorem dX5_determinant_167 : decode cX5_determinant 167 = .ok (.istore 9, 2) := by decide +kernel
theorem dX5_determinant_169 : decode cX5_determinant 169 = .ok (.iload 9, 2) := by decide +kernel
theorem dX5_determinant_171 : decode cX5_determinant 171 = .ok (.iload_n 1, 1) := by decide +kernel
theorem dX5_determinant_172 : decode cX5_determinant 172 = .ok (.if_icmp .ge 79, 3) := by decide +kernel
theorem dX5_determinant_175 : decode cX5_determinant 175 = .ok (.aload_n 0, 1) := by decide +kernel
theorem dX5_determinant_176 : decode cX5_determinant 176 = .ok (.getfield 42, 3) := by decide +kernel
theorem dX5_determinant_179 : decode cX5_determinant 179 = .ok (.bipush 12, 2) := by decide +kernel
theorem dX5_determinant_181 : decode cX5_determinant 181 = .ok (.iload 8, 2) := by decide +kernel
theorem dX5_determinant_183 : decode cX5_determinant 183 = .ok (.imul, 1) := by decide +kernel
theorem dX5_determinant_184 : decode cX5_determinant 184 = .ok (.iload 9, 2) := by decide +kernel
theorem dX5_determinant_186 : decode cX5_determinant 186 = .ok (.iadd, 1) := by decide +kernel
theorem dX5_determinant_187 : decode cX5_determinant 187 = .ok (.aload_n 0, 1) := by decide +kernel
theorem dX5_determinant_188 : decode cX5_determinant 188 = .ok (.getfield 42, 3) := by decide +kernel
theorem dX5_determinant_191 : decode cX5_determinant 191 = .ok (.bipush 12, 2) := by decide +kernel
theorem dX5_determinant_193 : decode cX5_determinant 193 = .ok (.iload 8, 2) := by decide +kernel
theorem dX5_determinant_195 : decode cX5_determinant 195 = .ok (.imul, 1) := by decide +kernel
theorem dX5_determinant_196 : decode cX5_determinant 196 = .ok (.iload 9, 2) := by decide +kernel
theorem dX5_determinant_198 : decode cX5_determinant 198 = .ok (.iadd, 1) := by decide +kernel
theorem dX5_determinant_199 : decode cX5_determinant 199 = .ok (.laload, 1) := by decide +kernel
theorem dX5_determinant_200 : decode cX5_determinant 200 = .ok (.aload_n 0, 1) := by decide +kernel
theorem dX5_determinant_201 : decode cX5_determinant 201 = .ok (.getfield 42, 3) := by decide +kernel
theorem dX5_determinant_204 : decode cX5_determinant 204 = .ok (.bipush 12, 2) := by decide +kernel
theorem dX5_determinant_206 : decode cX5_determinant 206 = .ok (.iload 6, 2) := by decide +kernel
theorem dX5_determinant_208 : decode cX5_determinant 208 = .ok (.imul, 1) := by decide +kernel
theorem dX5_determinant_209 : decode cX5_determinant 209 = .ok (.iload 6, 2) := by decide +kernel
theorem dX5_determinant_211 : decode cX5_determinant 211 = .ok (.iadd, 1) := by decide +kernel
theorem dX5_determinant_212 : decode cX5_determinant 212 = .ok (.laload, 1) := by decide +kernel
theorem dX5_determinant_213 : decode cX5_determinant 213 = .ok (.lmul, 1) := by decide +kernel
theorem dX5_determinant_214 : decode cX5_determinant 214 = .ok (.aload_n 0, 1) := by decide +kernel
theorem dX5_determinant_215 : decode cX5_determinant 215 = .ok (.getfield 42, 3) := by decide +kernel
theorem dX5_determinant_218 : decode cX5_determinant 218 = .ok (.bipush 12, 2) := by decide +kernel
theorem dX5_determinant_220 : decode cX5_determinant 220 = .ok (.iload 8, 2) := by decide +kernel
theorem dX5_determinant_222 : decode cX5_determinant 222 = .ok (.imul, 1) := by decide +kernel
theorem dX5_determinant_223 : decode cX5_determinant 223 = .ok (.iload 6, 2) := by decide +kernel
theorem dX5_determinant_225 : decode cX5_determinant 225 = .ok (.iadd, 1) := by decide +kernel
theorem dX5_determinant_226 : decode cX5_determinant 226 = .ok (.laload, 1) := by decide +kernel
theorem dX5_determinant_227 : decode cX5_determinant 227 = .ok (.aload_n 0, 1) := by decide +kernel
theorem dX5_determinant_228 : decode cX5_determinant 228 = .ok (.getfield 42, 3) := by decide +kernel
theorem dX5_determinant_231 : decode cX5_determinant 231 = .ok (.bipush 12, 2) := by decide +kernel
theorem dX5_determinant_233 : decode cX5_determinant 233 = .ok (.iload 6, 2) := by decide +kernel
theorem dX5_determinant_235 : decode cX5_determinant 235 = .ok (.imul, 1) := by decide +kernel
theorem dX5_determinant_236 : decode cX5_determinant 236 = .ok (.iload 9, 2) := by decide +kernel
theorem dX5_determinant_238 : decode cX5_determinant 238 = .ok (.iadd, 1) := by decide +kernel
theorem dX5_determinant_239 : decode cX5_determinant 239 = .ok (.laload, 1) := by decide +kernel
theorem dX5_determinant_240 : decode cX5_determinant 240 = .ok (.lmul, 1) := by decide +kernel
theorem dX5_determinant_241 : decode cX5_determinant 241 = .ok (.lsub, 1) := by decide +kernel
theorem dX5_determinant_242 : decode cX5_determinant 242 = .ok (.lload_n 2, 1) := by decide +kernel
theorem dX5_determinant_243 : decode cX5_determinant 243 = .ok (.ldiv, 1) := by decide +kernel
theorem dX5_determinant_244 : decode cX5_determinant 244 = .ok (.lastore, 1) := by decide +kernel
theorem dX5_determinant_245 : decode cX5_determinant 245 = .ok (.iinc 9 1, 3) := by decide +kernel
theorem dX5_determinant_248 : decode cX5_determinant 248 = .ok (.goto (-79), 3) := by decide +kernel
theorem dX5_determinant_251 : decode cX5_determinant 251 = .ok (.iinc 8 1, 3) := by decide +kernel
theorem dX5_determinant_254 : decode cX5_determinant 254 = .ok (.goto (-97), 3) := by decide +kernel
theorem dX5_determinant_257 : decode cX5_determinant 257 = .ok (.aload_n 0, 1) := by decide +kernel
theorem dX5_determinant_258 : decode cX5_determinant 258 = .ok (.getfield 42, 3) := by decide +kernel
theorem dX5_determinant_261 : decode cX5_determinant 261 = .ok (.bipush 12, 2) := by decide +kernel
theorem dX5_determinant_263 : decode cX5_determinant 263 = .ok (.iload 6, 2) := by decide +kernel
theorem dX5_determinant_265 : decode cX5_determinant 265 = .ok (.imul, 1) := by decide +kernel
theorem dX5_determinant_266 : decode cX5_determinant 266 = .ok (.iload 6, 2) := by decide +kernel
theorem dX5_determinant_268 : decode cX5_determinant 268 = .ok (.iadd, 1) := by decide +kernel
theorem dX5_determinant_269 : decode cX5_determinant 269 = .ok (.laload, 1) := by decide +kernel
theorem dX5_determinant_270 : decode cX5_determinant 270 = .ok (.lstore_n 2, 1) := by decide +kernel
theorem dX5_determinant_271 : decode cX5_determinant 271 = .ok (.iinc 6 1, 3) := by decide +kernel
theorem dX5_determinant_274 : decode cX5_determinant 274 = .ok (.goto (-266), 3) := by decide +kernel
theorem dX5_determinant_277 : decode cX5_determinant 277 = .ok (.iload_n 1, 1) := by decide +kernel
theorem dX5_determinant_278 : decode cX5_determinant 278 = .ok (.ifCond .ne 7, 3) := by decide +kernel
theorem dX5_determinant_281 : decode cX5_determinant 281 = .ok (.lconst 1, 1) := by decide +kernel
theorem dX5_determinant_282 : decode cX5_determinant 282 = .ok (.goto 7, 3) := by decide +kernel
theorem dX5_determinant_285 : decode cX5_determinant 285 = .ok (.lload 4, 2) := by decide +kernel
theorem dX5_determinant_287 : decode cX5_determinant 287 = .ok (.lload_n 2, 1) := by decide +kernel
theorem dX5_determinant_288 : decode cX5_determinant 288 = .ok (.lmul, 1) := by decide +kernel
theorem dX5_determinant_289 : decode cX5_determinant 289 = .ok (.lreturn, 1) := by decide +kernel
set_option maxRecDepth 20000 in
theorem ggX5_trees_X5_isState : GoodIn wsX5_trees wsX5_isState := goodIn_r _ [7, 2, 8, 9, 6, 10, 25, 26, 27, 28, 29, 30, 31, 32, 33, 34, 35, 36, 37, 38, 39, 40, 41, 42, 43, 44] (by decide +kernel) (by decide +kernel)
set_option maxRecDepth 20000 in
theorem gX5_trees_X5_isState : GoodIn wsX5_trees (wsV RX5 95 RX5 yX5_isState wsX5_isState) := goodIn_app (goodIn_of _ (by decide +kernel)) ggX5_trees_X5_isState
set_option maxRecDepth 20000 in
theorem ggX5_trees_X5_treesOf : GoodIn wsX5_trees wsX5_treesOf := goodIn_r _ [14, 2, 15, 16, 17, 18, 6, 19, 20, 21, 22, 23, 24, 25, 26, 27, 28, 29, 30, 31, 32, 33, 34, 35, 36, 37, 38, 39, 40, 41, 42, 43, 44] (by decide +kernel) (by decide +kernel)
set_option maxRecDepth 20000 in
theorem gX5_trees_X5_treesOf : GoodIn wsX5_trees (wsV RX5 139 RX5 yX5_treesOf wsX5_treesOf) := goodIn_app (goodIn_of _ (by decide +kernel)) ggX5_trees_X5_treesOf
theorem dX5_trees_0 : decode cX5_trees 0 = .ok (.iload_n 1, 1) := by decide +kernel
theorem dX5_trees_1 : decode cX5_trees 1 = .ok (.iconst (-1), 1) := by decide +kernel
theorem dX5_trees_2 : decode cX5_trees 2 = .ok (.if_icmp .eq 15, 3) := by decide +kernel
theorem dX5_trees_5 : decode cX5_trees 5 = .ok (.aload_n 0, 1) := by decide +kernel
theorem dX5_trees_6 : decode cX5_trees 6 = .ok (.iload_n 1, 1) := by decide +kernel
theorem dX5_trees_7 : decode cX5_trees 7 = .ok (.invokevirtual 95, 3) := by decide +kernel
theorem dX5_trees_10 : decode cX5_trees 10 = .ok (.ifCond .ne 7, 3) := by decide +kernel
theorem dX5_trees_13 : decode cX5_trees 13 = .ok (.ldc2_w 89, 3) := by decide +kernel
theorem dX5_trees_16 : decode cX5_trees 16 = .ok (.lreturn, 1) := by decide +kernel
theorem dX5_trees_17 : decode cX5_trees 17 = .ok (.lconst 0, 1) := by decide +kernel
theorem dX5_trees_18 : decode cX5_trees 18 = .ok (.lstore_n 2, 1) := by decide +kernel
theorem dX5_trees_19 : decode cX5_trees 19 = .ok (.iconst 0, 1) := by decide +kernel
theorem dX5_trees_20 : decode cX5_trees 20 = .ok (.istore 4, 2) := by decide +kernel
theorem dX5_trees_22 : decode cX5_trees 22 = .ok (.iload 4, 2) := by decide +kernel
theorem dX5_trees_24 : decode cX5_trees 24 = .ok (.aload_n 0, 1) := by decide +kernel
theorem dX5_trees_25 : decode cX5_trees 25 = .ok (.getfield 64, 3) := by decide +kernel
theorem dX5_trees_28 : decode cX5_trees 28 = .ok (.if_icmp .ge 33, 3) := by decide +kernel
theorem dX5_trees_31 : decode cX5_trees 31 = .ok (.lload_n 2, 1) := by decide +kernel
theorem dX5_trees_32 : decode cX5_trees 32 = .ok (.iload_n 1, 1) := by decide +kernel
theorem dX5_trees_33 : decode cX5_trees 33 = .ok (.iconst (-1), 1) := by decide +kernel
theorem dX5_trees_34 : decode cX5_trees 34 = .ok (.if_icmp .eq 9, 3) := by decide +kernel
theorem dX5_trees_37 : decode cX5_trees 37 = .ok (.iload_n 1, 1) := by decide +kernel
theorem dX5_trees_38 : decode cX5_trees 38 = .ok (.iload 4, 2) := by decide +kernel
theorem dX5_trees_40 : decode cX5_trees 40 = .ok (.if_icmp .ne 12, 3) := by decide +kernel
theorem dX5_trees_43 : decode cX5_trees 43 = .ok (.aload_n 0, 1) := by decide +kernel
theorem dX5_trees_44 : decode cX5_trees 44 = .ok (.iload 4, 2) := by decide +kernel
theorem dX5_trees_46 : decode cX5_trees 46 = .ok (.invokevirtual 139, 3) := by decide +kernel
theorem dX5_trees_49 : decode cX5_trees 49 = .ok (.goto 4, 3) := by decide +kernel
theorem dX5_trees_52 : decode cX5_trees 52 = .ok (.lconst 0, 1) := by decide +kernel
theorem dX5_trees_53 : decode cX5_trees 53 = .ok (.ladd, 1) := by decide +kernel
theorem dX5_trees_54 : decode cX5_trees 54 = .ok (.lstore_n 2, 1) := by decide +kernel
theorem dX5_trees_55 : decode cX5_trees 55 = .ok (.iinc 4 1, 3) := by decide +kernel
theorem dX5_trees_58 : decode cX5_trees 58 = .ok (.goto (-36), 3) := by decide +kernel
theorem dX5_trees_61 : decode cX5_trees 61 = .ok (.lload_n 2, 1) := by decide +kernel
theorem dX5_trees_62 : decode cX5_trees 62 = .ok (.lreturn, 1) := by decide +kernel
set_option maxRecDepth 20000 in
theorem ggX5_once_X5_in : GoodIn wsX5_once wsX5_in := goodIn_r _ [7] (by decide +kernel) (by decide +kernel)
set_option maxRecDepth 20000 in
theorem gX5_once_X5_in : GoodIn wsX5_once (va_wsS RX5 67 yX5_in wsX5_in) := goodIn_app (goodIn_of _ (by decide +kernel)) ggX5_once_X5_in
set_option maxRecDepth 20000 in
theorem ggX5_once_X5_begin : GoodIn wsX5_once wsX5_begin := goodIn_r _ [11, 12, 3, 33, 34, 35, 36, 37, 38, 39, 40, 41, 42, 43, 44, 45, 46, 47, 48, 49, 50, 51, 52] (by decide +kernel) (by decide +kernel)
set_option maxRecDepth 20000 in
theorem gX5_once_X5_begin : GoodIn wsX5_once (wsV RX5 109 RX5 yX5_begin wsX5_begin) := goodIn_app (goodIn_of _ (by decide +kernel)) ggX5_once_X5_begin
set_option maxRecDepth 20000 in
theorem ggX5_once_X5_sign : GoodIn wsX5_once wsX5_sign := goodIn_r _ [16, 17, 18, 19, 6, 20, 21, 22, 23] (by decide +kernel) (by decide +kernel)
set_option maxRecDepth 20000 in
theorem gX5_once_X5_sign : GoodIn wsX5_once (wsV RX5 106 RX5 yX5_sign wsX5_sign) := goodIn_app (goodIn_of _ (by decide +kernel)) ggX5_once_X5_sign
set_option maxRecDepth 20000 in
theorem ggX5_once_X5_behind : GoodIn wsX5_once wsX5_behind := goodIn_r _ [27, 12, 3, 28, 33, 34, 35, 36, 37, 38, 39, 40, 41, 42, 43, 44, 45, 46, 47, 48, 49, 50, 51, 52] (by decide +kernel) (by decide +kernel)
set_option maxRecDepth 20000 in
theorem gX5_once_X5_behind : GoodIn wsX5_once (wsV RX5 128 RX5 yX5_behind wsX5_behind) := goodIn_app (goodIn_of _ (by decide +kernel)) ggX5_once_X5_behind
set_option maxRecDepth 20000 in
theorem ggX5_once_X5_meets : GoodIn wsX5_once wsX5_meets := goodIn_r _ [32, 12, 3, 33, 34, 35, 36, 37, 38, 39, 40, 41, 42, 43, 44, 45, 46, 47, 48, 49, 50, 51, 52] (by decide +kernel) (by decide +kernel)
set_option maxRecDepth 20000 in
theorem gX5_once_X5_meets : GoodIn wsX5_once (wsV RX5 116 RX5 yX5_meets wsX5_meets) := goodIn_app (goodIn_of _ (by decide +kernel)) ggX5_once_X5_meets
theorem dX5_once_0 : decode cX5_once 0 = .ok (.iload_n 2, 1) := by decide +kernel
theorem dX5_once_1 : decode cX5_once 1 = .ok (.i2l, 1) := by decide +kernel
theorem dX5_once_2 : decode cX5_once 2 = .ok (.lconst 1, 1) := by decide +kernel
theorem dX5_once_3 : decode cX5_once 3 = .ok (.ldc2_w 120, 3) := by decide +kernel
theorem dX5_once_6 : decode cX5_once 6 = .ok (.invokestatic 67, 3) := by decide +kernel
theorem dX5_once_9 : decode cX5_once 9 = .ok (.ifCond .eq 15, 3) := by decide +kernel
theorem dX5_once_12 : decode cX5_once 12 = .ok (.iload_n 3, 1) := by decide +kernel
theorem dX5_once_13 : decode cX5_once 13 = .ok (.i2l, 1) := by decide +kernel
theorem dX5_once_14 : decode cX5_once 14 = .ok (.lconst 0, 1) := by decide +kernel
theorem dX5_once_15 : decode cX5_once 15 = .ok (.ldc2_w 142, 3) := by decide +kernel
theorem dX5_once_18 : decode cX5_once 18 = .ok (.invokestatic 67, 3) := by decide +kernel
theorem dX5_once_21 : decode cX5_once 21 = .ok (.ifCond .ne 5, 3) := by decide +kernel
theorem dX5_once_24 : decode cX5_once 24 = .ok (.iconst (-1), 1) := by decide +kernel
theorem dX5_once_25 : decode cX5_once 25 = .ok (.ireturn, 1) := by decide +kernel
theorem dX5_once_26 : decode cX5_once 26 = .ok (.bipush (-2), 2) := by decide +kernel
theorem dX5_once_28 : decode cX5_once 28 = .ok (.istore 4, 2) := by decide +kernel
theorem dX5_once_30 : decode cX5_once 30 = .ok (.iconst 0, 1) := by decide +kernel
theorem dX5_once_31 : decode cX5_once 31 = .ok (.istore 5, 2) := by decide +kernel
theorem dX5_once_33 : decode cX5_once 33 = .ok (.iconst 0, 1) := by decide +kernel
theorem dX5_once_34 : decode cX5_once 34 = .ok (.istore 6, 2) := by decide +kernel
theorem dX5_once_36 : decode cX5_once 36 = .ok (.iload 6, 2) := by decide +kernel
theorem dX5_once_38 : decode cX5_once 38 = .ok (.sipush 500, 3) := by decide +kernel
theorem dX5_once_41 : decode cX5_once 41 = .ok (.if_icmp .ge 105, 3) := by decide +kernel
theorem dX5_once_44 : decode cX5_once 44 = .ok (.aload_n 0, 1) := by decide +kernel
theorem dX5_once_45 : decode cX5_once 45 = .ok (.invokevirtual 109, 3) := by decide +kernel
theorem dX5_once_48 : decode cX5_once 48 = .ok (.iconst 1, 1) := by decide +kernel
theorem dX5_once_49 : decode cX5_once 49 = .ok (.istore 7, 2) := by decide +kernel
theorem dX5_once_51 : decode cX5_once 51 = .ok (.iload 7, 2) := by decide +kernel
theorem dX5_once_53 : decode cX5_once 53 = .ok (.iload_n 2, 1) := by decide +kernel
theorem dX5_once_54 : decode cX5_once 54 = .ok (.if_icmp .gt 25, 3) := by decide +kernel
theorem dX5_once_57 : decode cX5_once 57 = .ok (.aload_n 0, 1) := by decide +kernel
theorem dX5_once_58 : decode cX5_once 58 = .ok (.aload_n 0, 1) := by decide +kernel
theorem dX5_once_59 : decode cX5_once 59 = .ok (.iload_n 1, 1) := by decide +kernel
theorem dX5_once_60 : decode cX5_once 60 = .ok (.iload_n 2, 1) := by decide +kernel
theorem dX5_once_61 : decode cX5_once 61 = .ok (.iload 6, 2) := by decide +kernel
theorem dX5_once_63 : decode cX5_once 63 = .ok (.imul, 1) := by decide +kernel
theorem dX5_once_64 : decode cX5_once 64 = .ok (.iload 7, 2) := by decide +kernel
theorem dX5_once_66 : decode cX5_once 66 = .ok (.iadd, 1) := by decide +kernel
theorem dX5_once_67 : decode cX5_once 67 = .ok (.invokevirtual 106, 3) := by decide +kernel
theorem dX5_once_70 : decode cX5_once 70 = .ok (.invokevirtual 128, 3) := by decide +kernel
theorem dX5_once_73 : decode cX5_once 73 = .ok (.iinc 7 1, 3) := by decide +kernel
theorem dX5_once_76 : decode cX5_once 76 = .ok (.goto (-25), 3) := by decide +kernel
theorem dX5_once_79 : decode cX5_once 79 = .ok (.aload_n 0, 1) := by decide +kernel
theorem dX5_once_80 : decode cX5_once 80 = .ok (.invokevirtual 116, 3) := by decide +kernel
theorem dX5_once_83 : decode cX5_once 83 = .ok (.istore 7, 2) := by decide +kernel
theorem dX5_once_85 : decode cX5_once 85 = .ok (.iload 7, 2) := by decide +kernel
theorem dX5_once_87 : decode cX5_once 87 = .ok (.ifCond .eq 20, 3) := by decide +kernel
theorem dX5_once_90 : decode cX5_once 90 = .ok (.iload 4, 2) := by decide +kernel
theorem dX5_once_92 : decode cX5_once 92 = .ok (.ifCond .lt 15, 3) := by decide +kernel
theorem dX5_once_95 : decode cX5_once 95 = .ok (.iload 5, 2) := by decide +kernel
theorem dX5_once_97 : decode cX5_once 97 = .ok (.iload_n 3, 1) := by decide +kernel
theorem dX5_once_98 : decode cX5_once 98 = .ok (.if_icmp .ne 6, 3) := by decide +kernel
theorem dX5_once_101 : decode cX5_once 101 = .ok (.iload 4, 2) := by decide +kernel
theorem dX5_once_103 : decode cX5_once 103 = .ok (.ireturn, 1) := by decide +kernel
theorem dX5_once_104 : decode cX5_once 104 = .ok (.iinc 5 1, 3) := by decide +kernel
theorem dX5_once_107 : decode cX5_once 107 = .ok (.iload 4, 2) := by decide +kernel
theorem dX5_once_109 : decode cX5_once 109 = .ok (.ifCond .lt 13, 3) := by decide +kernel
theorem dX5_once_112 : decode cX5_once 112 = .ok (.aload_n 0, 1) := by decide +kernel
theorem dX5_once_113 : decode cX5_once 113 = .ok (.getfield 30, 3) := by decide +kernel
theorem dX5_once_116 : decode cX5_once 116 = .ok (.iload 4, 2) := by decide +kernel
theorem dX5_once_118 : decode cX5_once 118 = .ok (.iaload, 1) := by decide +kernel
theorem dX5_once_119 : decode cX5_once 119 = .ok (.goto 19, 3) := by decide +kernel
theorem dX5_once_122 : decode cX5_once 122 = .ok (.iload 7, 2) := by decide +kernel
theorem dX5_once_124 : decode cX5_once 124 = .ok (.ifCond .eq 12, 3) := by decide +kernel
theorem dX5_once_127 : decode cX5_once 127 = .ok (.aload_n 0, 1) := by decide +kernel
theorem dX5_once_128 : decode cX5_once 128 = .ok (.getfield 30, 3) := by decide +kernel
theorem dX5_once_131 : decode cX5_once 131 = .ok (.iconst 0, 1) := by decide +kernel
theorem dX5_once_132 : decode cX5_once 132 = .ok (.iaload, 1) := by decide +kernel
theorem dX5_once_133 : decode cX5_once 133 = .ok (.goto 5, 3) := by decide +kernel
theorem dX5_once_136 : decode cX5_once 136 = .ok (.bipush (-2), 2) := by decide +kernel
theorem dX5_once_138 : decode cX5_once 138 = .ok (.istore 4, 2) := by decide +kernel
theorem dX5_once_140 : decode cX5_once 140 = .ok (.iinc 6 1, 3) := by decide +kernel
theorem dX5_once_143 : decode cX5_once 143 = .ok (.goto (-107), 3) := by decide +kernel
theorem dX5_once_146 : decode cX5_once 146 = .ok (.bipush (-2), 2) := by decide +kernel
theorem dX5_once_148 : decode cX5_once 148 = .ok (.ireturn, 1) := by decide +kernel
set_option maxRecDepth 20000 in
theorem ggX5_lead_X5_isState : GoodIn wsX5_lead wsX5_isState := goodIn_r _ [7, 8, 9, 10, 6, 11, 12, 13, 14, 15, 16, 17, 18, 19, 20, 21, 22, 23, 24, 25, 26, 27, 28, 29, 30, 31] (by decide +kernel) (by decide +kernel)
set_option maxRecDepth 20000 in
theorem gX5_lead_X5_isState : GoodIn wsX5_lead (wsV RX5 95 RX5 yX5_isState wsX5_isState) := goodIn_app (goodIn_of _ (by decide +kernel)) ggX5_lead_X5_isState
set_option maxRecDepth 20000 in
theorem ggX5_lead_X5_in : GoodIn wsX5_lead wsX5_in := goodIn_r _ [11] (by decide +kernel) (by decide +kernel)
set_option maxRecDepth 20000 in
theorem gX5_lead_X5_in : GoodIn wsX5_lead (va_wsS RX5 67 yX5_in wsX5_in) := goodIn_app (goodIn_of _ (by decide +kernel)) ggX5_lead_X5_in
theorem dX5_lead_0 : decode cX5_lead 0 = .ok (.aload_n 0, 1) := by decide +kernel
theorem dX5_lead_1 : decode cX5_lead 1 = .ok (.iload_n 1, 1) := by decide +kernel
theorem dX5_lead_2 : decode cX5_lead 2 = .ok (.invokevirtual 95, 3) := by decide +kernel
theorem dX5_lead_5 : decode cX5_lead 5 = .ok (.ifCond .eq 29, 3) := by decide +kernel
theorem dX5_lead_8 : decode cX5_lead 8 = .ok (.iload_n 2, 1) := by decide +kernel
theorem dX5_lead_9 : decode cX5_lead 9 = .ok (.i2l, 1) := by decide +kernel
theorem dX5_lead_10 : decode cX5_lead 10 = .ok (.lconst 0, 1) := by decide +kernel
theorem dX5_lead_11 : decode cX5_lead 11 = .ok (.ldc2_w 144, 3) := by decide +kernel
theorem dX5_lead_14 : decode cX5_lead 14 = .ok (.invokestatic 67, 3) := by decide +kernel
theorem dX5_lead_17 : decode cX5_lead 17 = .ok (.ifCond .eq 17, 3) := by decide +kernel
theorem dX5_lead_20 : decode cX5_lead 20 = .ok (.iload_n 3, 1) := by decide +kernel
theorem dX5_lead_21 : decode cX5_lead 21 = .ok (.bipush (-2), 2) := by decide +kernel
theorem dX5_lead_23 : decode cX5_lead 23 = .ok (.if_icmp .eq 13, 3) := by decide +kernel
theorem dX5_lead_26 : decode cX5_lead 26 = .ok (.aload_n 0, 1) := by decide +kernel
theorem dX5_lead_27 : decode cX5_lead 27 = .ok (.iload_n 3, 1) := by decide +kernel
theorem dX5_lead_28 : decode cX5_lead 28 = .ok (.invokevirtual 95, 3) := by decide +kernel
theorem dX5_lead_31 : decode cX5_lead 31 = .ok (.ifCond .ne 5, 3) := by decide +kernel
theorem dX5_lead_34 : decode cX5_lead 34 = .ok (.iconst (-1), 1) := by decide +kernel
theorem dX5_lead_35 : decode cX5_lead 35 = .ok (.ireturn, 1) := by decide +kernel
theorem dX5_lead_36 : decode cX5_lead 36 = .ok (.aload_n 0, 1) := by decide +kernel
theorem dX5_lead_37 : decode cX5_lead 37 = .ok (.getfield 13, 3) := by decide +kernel
theorem dX5_lead_40 : decode cX5_lead 40 = .ok (.iconst 4, 1) := by decide +kernel
theorem dX5_lead_41 : decode cX5_lead 41 = .ok (.iload_n 1, 1) := by decide +kernel
theorem dX5_lead_42 : decode cX5_lead 42 = .ok (.imul, 1) := by decide +kernel
theorem dX5_lead_43 : decode cX5_lead 43 = .ok (.iload_n 2, 1) := by decide +kernel
theorem dX5_lead_44 : decode cX5_lead 44 = .ok (.iadd, 1) := by decide +kernel
theorem dX5_lead_45 : decode cX5_lead 45 = .ok (.iaload, 1) := by decide +kernel
theorem dX5_lead_46 : decode cX5_lead 46 = .ok (.istore 4, 2) := by decide +kernel
theorem dX5_lead_48 : decode cX5_lead 48 = .ok (.aload_n 0, 1) := by decide +kernel
theorem dX5_lead_49 : decode cX5_lead 49 = .ok (.getfield 13, 3) := by decide +kernel
theorem dX5_lead_52 : decode cX5_lead 52 = .ok (.iconst 4, 1) := by decide +kernel
theorem dX5_lead_53 : decode cX5_lead 53 = .ok (.iload_n 1, 1) := by decide +kernel
theorem dX5_lead_54 : decode cX5_lead 54 = .ok (.imul, 1) := by decide +kernel
theorem dX5_lead_55 : decode cX5_lead 55 = .ok (.iload_n 2, 1) := by decide +kernel
theorem dX5_lead_56 : decode cX5_lead 56 = .ok (.iadd, 1) := by decide +kernel
theorem dX5_lead_57 : decode cX5_lead 57 = .ok (.iload_n 3, 1) := by decide +kernel
theorem dX5_lead_58 : decode cX5_lead 58 = .ok (.iastore, 1) := by decide +kernel
theorem dX5_lead_59 : decode cX5_lead 59 = .ok (.iload 4, 2) := by decide +kernel
theorem dX5_lead_61 : decode cX5_lead 61 = .ok (.ireturn, 1) := by decide +kernel
set_option maxRecDepth 20000 in
theorem ggX5_end_X5_isState : GoodIn wsX5_end wsX5_isState := goodIn_r _ [6, 7, 8, 9, 5, 10, 11, 12, 13, 14, 15, 16, 17, 18, 19, 20, 21, 22, 23, 24, 25, 26, 27, 28, 29, 30] (by decide +kernel) (by decide +kernel)
set_option maxRecDepth 20000 in
theorem gX5_end_X5_isState : GoodIn wsX5_end (wsV RX5 95 RX5 yX5_isState wsX5_isState) := goodIn_app (goodIn_of _ (by decide +kernel)) ggX5_end_X5_isState
theorem dX5_end_0 : decode cX5_end 0 = .ok (.aload_n 0, 1) := by decide +kernel
theorem dX5_end_1 : decode cX5_end 1 = .ok (.iload_n 1, 1) := by decide +kernel
theorem dX5_end_2 : decode cX5_end 2 = .ok (.invokevirtual 95, 3) := by decide +kernel
theorem dX5_end_5 : decode cX5_end 5 = .ok (.ifCond .ne 5, 3) := by decide +kernel
theorem dX5_end_8 : decode cX5_end 8 = .ok (.iconst (-1), 1) := by decide +kernel
theorem dX5_end_9 : decode cX5_end 9 = .ok (.ireturn, 1) := by decide +kernel
theorem dX5_end_10 : decode cX5_end 10 = .ok (.aload_n 0, 1) := by decide +kernel
theorem dX5_end_11 : decode cX5_end 11 = .ok (.getfield 16, 3) := by decide +kernel
theorem dX5_end_14 : decode cX5_end 14 = .ok (.iload_n 1, 1) := by decide +kernel
theorem dX5_end_15 : decode cX5_end 15 = .ok (.baload, 1) := by decide +kernel
theorem dX5_end_16 : decode cX5_end 16 = .ok (.istore_n 3, 1) := by decide +kernel
theorem dX5_end_17 : decode cX5_end 17 = .ok (.aload_n 0, 1) := by decide +kernel
theorem dX5_end_18 : decode cX5_end 18 = .ok (.getfield 16, 3) := by decide +kernel
theorem dX5_end_21 : decode cX5_end 21 = .ok (.iload_n 1, 1) := by decide +kernel
theorem dX5_end_22 : decode cX5_end 22 = .ok (.iload_n 2, 1) := by decide +kernel
theorem dX5_end_23 : decode cX5_end 23 = .ok (.bastore, 1) := by decide +kernel
theorem dX5_end_24 : decode cX5_end 24 = .ok (.iload_n 3, 1) := by decide +kernel
theorem dX5_end_25 : decode cX5_end 25 = .ok (.ifCond .eq 7, 3) := by decide +kernel
theorem dX5_end_28 : decode cX5_end 28 = .ok (.iconst 1, 1) := by decide +kernel
theorem dX5_end_29 : decode cX5_end 29 = .ok (.goto 4, 3) := by decide +kernel
theorem dX5_end_32 : decode cX5_end 32 = .ok (.iconst 0, 1) := by decide +kernel
theorem dX5_end_33 : decode cX5_end 33 = .ok (.ireturn, 1) := by decide +kernel
theorem dX5_countWords_0 : decode cX5_countWords 0 = .ok (.iconst 0, 1) := by decide +kernel
theorem dX5_countWords_1 : decode cX5_countWords 1 = .ok (.istore_n 2, 1) := by decide +kernel
theorem dX5_countWords_2 : decode cX5_countWords 2 = .ok (.iload_n 2, 1) := by decide +kernel
theorem dX5_countWords_3 : decode cX5_countWords 3 = .ok (.aload_n 0, 1) := by decide +kernel
theorem dX5_countWords_4 : decode cX5_countWords 4 = .ok (.getfield 64, 3) := by decide +kernel
theorem dX5_countWords_7 : decode cX5_countWords 7 = .ok (.if_icmp .ge 29, 3) := by decide +kernel
theorem dX5_countWords_10 : decode cX5_countWords 10 = .ok (.aload_n 0, 1) := by decide +kernel
theorem dX5_countWords_11 : decode cX5_countWords 11 = .ok (.getfield 46, 3) := by decide +kernel
theorem dX5_countWords_14 : decode cX5_countWords 14 = .ok (.iload_n 2, 1) := by decide +kernel
theorem dX5_countWords_15 : decode cX5_countWords 15 = .ok (.aload_n 0, 1) := by decide +kernel
theorem dX5_countWords_16 : decode cX5_countWords 16 = .ok (.getfield 16, 3) := by decide +kernel
theorem dX5_countWords_19 : decode cX5_countWords 19 = .ok (.iload_n 2, 1) := by decide +kernel
theorem dX5_countWords_20 : decode cX5_countWords 20 = .ok (.baload, 1) := by decide +kernel
theorem dX5_countWords_21 : decode cX5_countWords 21 = .ok (.ifCond .eq 7, 3) := by decide +kernel
theorem dX5_countWords_24 : decode cX5_countWords 24 = .ok (.lconst 1, 1) := by decide +kernel
theorem dX5_countWords_25 : decode cX5_countWords 25 = .ok (.goto 4, 3) := by decide +kernel
theorem dX5_countWords_28 : decode cX5_countWords 28 = .ok (.lconst 0, 1) := by decide +kernel
theorem dX5_countWords_29 : decode cX5_countWords 29 = .ok (.lastore, 1) := by decide +kernel
theorem dX5_countWords_30 : decode cX5_countWords 30 = .ok (.iinc 2 1, 3) := by decide +kernel
theorem dX5_countWords_33 : decode cX5_countWords 33 = .ok (.goto (-31), 3) := by decide +kernel
theorem dX5_countWords_36 : decode cX5_countWords 36 = .ok (.iconst 1, 1) := by decide +kernel
theorem dX5_countWords_37 : decode cX5_countWords 37 = .ok (.istore_n 2, 1) := by decide +kernel
theorem dX5_countWords_38 : decode cX5_countWords 38 = .ok (.iload_n 2, 1) := by decide +kernel
theorem dX5_countWords_39 : decode cX5_countWords 39 = .ok (.iload_n 1, 1) := by decide +kernel
theorem dX5_countWords_40 : decode cX5_countWords 40 = .ok (.if_icmp .gt 108, 3) := by decide +kernel
theorem dX5_countWords_43 : decode cX5_countWords 43 = .ok (.iconst 0, 1) := by decide +kernel
theorem dX5_countWords_44 : decode cX5_countWords 44 = .ok (.istore_n 3, 1) := by decide +kernel
theorem dX5_countWords_45 : decode cX5_countWords 45 = .ok (.iload_n 3, 1) := by decide +kernel
theorem dX5_countWords_46 : decode cX5_countWords 46 = .ok (.aload_n 0, 1) := by decide +kernel
theorem dX5_countWords_47 : decode cX5_countWords 47 = .ok (.getfield 64, 3) := by decide +kernel
theorem dX5_countWords_50 : decode cX5_countWords 50 = .ok (.if_icmp .ge 92, 3) := by decide +kernel
theorem dX5_countWords_53 : decode cX5_countWords 53 = .ok (.aload_n 0, 1) := by decide +kernel
theorem dX5_countWords_54 : decode cX5_countWords 54 = .ok (.getfield 46, 3) := by decide +kernel
theorem dX5_countWords_57 : decode cX5_countWords 57 = .ok (.bipush 12, 2) := by decide +kernel
theorem dX5_countWords_59 : decode cX5_countWords 59 = .ok (.iload_n 2, 1) := by decide +kernel
theorem dX5_countWords_60 : decode cX5_countWords 60 = .ok (.imul, 1) := by decide +kernel
theorem dX5_countWords_61 : decode cX5_countWords 61 = .ok (.iload_n 3, 1) := by decide +kernel
theorem dX5_countWords_62 : decode cX5_countWords 62 = .ok (.iadd, 1) := by decide +kernel
theorem dX5_countWords_63 : decode cX5_countWords 63 = .ok (.lconst 0, 1) := by decide +kernel
theorem dX5_countWords_64 : decode cX5_countWords 64 = .ok (.lastore, 1) := by decide +kernel
theorem dX5_countWords_65 : decode cX5_countWords 65 = .ok (.iconst 0, 1) := by decide +kernel
theorem dX5_countWords_66 : decode cX5_countWords 66 = .ok (.istore 4, 2) := by decide +kernel
theorem dX5_countWords_68 : decode cX5_countWords 68 = .ok (.iload 4, 2) := by decide +kernel
theorem dX5_countWords_70 : decode cX5_countWords 70 = .ok (.iconst 4, 1) := by decide +kernel
theorem dX5_countWords_71 : decode cX5_countWords 71 = .ok (.if_icmp .ge 65, 3) := by decide +kernel
theorem dX5_countWords_74 : decode cX5_countWords 74 = .ok (.aload_n 0, 1) := by decide +kernel
theorem dX5_countWords_75 : decode cX5_countWords 75 = .ok (.getfield 46, 3) := by decide +kernel
theorem dX5_countWords_78 : decode cX5_countWords 78 = .ok (.bipush 12, 2) := by decide +kernel
theorem dX5_countWords_80 : decode cX5_countWords 80 = .ok (.iload_n 2, 1) := by decide +kernel
theorem dX5_countWords_81 : decode cX5_countWords 81 = .ok (.imul, 1) := by decide +kernel
theorem dX5_countWords_82 : decode cX5_countWords 82 = .ok (.iload_n 3, 1) := by decide +kernel
theorem dX5_countWords_83 : decode cX5_countWords 83 = .ok (.iadd, 1) := by decide +kernel
theorem dX5_countWords_84 : decode cX5_countWords 84 = .ok (.dup2, 1) := by decide +kernel
theorem dX5_countWords_85 : decode cX5_countWords 85 = .ok (.laload, 1) := by decide +kernel
theorem dX5_countWords_86 : decode cX5_countWords 86 = .ok (.aload_n 0, 1) := by decide +kernel
theorem dX5_countWords_87 : decode cX5_countWords 87 = .ok (.getfield 13, 3) := by decide +kernel
theorem dX5_countWords_90 : decode cX5_countWords 90 = .ok (.iconst 4, 1) := by decide +kernel
theorem dX5_countWords_91 : decode cX5_countWords 91 = .ok (.iload_n 3, 1) := by decide +kernel
theorem dX5_countWords_92 : decode cX5_countWords 92 = .ok (.imul, 1) := by decide +kernel
theorem dX5_countWords_93 : decode cX5_countWords 93 = .ok (.iload 4, 2) := by decide +kernel
theorem dX5_countWords_95 : decode cX5_countWords 95 = .ok (.iadd, 1) := by decide +kernel
theorem dX5_countWords_96 : decode cX5_countWords 96 = .ok (.iaload, 1) := by decide +kernel
theorem dX5_countWords_97 : decode cX5_countWords 97 = .ok (.ifCond .ge 7, 3) := by decide +kernel
theorem dX5_countWords_100 : decode cX5_countWords 100 = .ok (.lconst 0, 1) := by decide +kernel
theorem dX5_countWords_101 : decode cX5_countWords 101 = .ok (.goto 27, 3) := by decide +kernel
theorem dX5_countWords_104 : decode cX5_countWords 104 = .ok (.aload_n 0, 1) := by decide +kernel
theorem dX5_countWords_105 : decode cX5_countWords 105 = .ok (.getfield 46, 3) := by decide +kernel
theorem dX5_countWords_108 : decode cX5_countWords 108 = .ok (.bipush 12, 2) := by decide +kernel
theorem dX5_countWords_110 : decode cX5_countWords 110 = .ok (.iload_n 2, 1) := by decide +kernel
theorem dX5_countWords_111 : decode cX5_countWords 111 = .ok (.imul, 1) := by decide +kernel
theorem dX5_countWords_112 : decode cX5_countWords 112 = .ok (.bipush 12, 2) := by decide +kernel
theorem dX5_countWords_114 : decode cX5_countWords 114 = .ok (.isub, 1) := by decide +kernel
theorem dX5_countWords_115 : decode cX5_countWords 115 = .ok (.aload_n 0, 1) := by decide +kernel
theorem dX5_countWords_116 : decode cX5_countWords 116 = .ok (.getfield 13, 3) := by decide +kernel
theorem dX5_countWords_119 : decode cX5_countWords 119 = .ok (.iconst 4, 1) := by decide +kernel
theorem dX5_countWords_120 : decode cX5_countWords 120 = .ok (.iload_n 3, 1) := by decide +kernel
theorem dX5_countWords_121 : decode cX5_countWords 121 = .ok (.imul, 1) := by decide +kernel
theorem dX5_countWords_122 : decode cX5_countWords 122 = .ok (.iload 4, 2) := by decide +kernel
theorem dX5_countWords_124 : decode cX5_countWords 124 = .ok (.iadd, 1) := by decide +kernel
theorem dX5_countWords_125 : decode cX5_countWords 125 = .ok (.iaload, 1) := by decide +kernel
theorem dX5_countWords_126 : decode cX5_countWords 126 = .ok (.iadd, 1) := by decide +kernel
theorem dX5_countWords_127 : decode cX5_countWords 127 = .ok (.laload, 1) := by decide +kernel
theorem dX5_countWords_128 : decode cX5_countWords 128 = .ok (.ladd, 1) := by decide +kernel
theorem dX5_countWords_129 : decode cX5_countWords 129 = .ok (.lastore, 1) := by decide +kernel
theorem dX5_countWords_130 : decode cX5_countWords 130 = .ok (.iinc 4 1, 3) := by decide +kernel
theorem dX5_countWords_133 : decode cX5_countWords 133 = .ok (.goto (-65), 3) := by decide +kernel
theorem dX5_countWords_136 : decode cX5_countWords 136 = .ok (.iinc 3 1, 3) := by decide +kernel
theorem dX5_countWords_139 : decode cX5_countWords 139 = .ok (.goto (-94), 3) := by decide +kernel
theorem dX5_countWords_142 : decode cX5_countWords 142 = .ok (.iinc 2 1, 3) := by decide +kernel
theorem dX5_countWords_145 : decode cX5_countWords 145 = .ok (.goto (-107), 3) := by decide +kernel
theorem dX5_countWords_148 : decode cX5_countWords 148 = .ok (.return_, 1) := by decide +kernel
set_option maxRecDepth 20000 in
theorem ggX5_words_X5_in : GoodIn wsX5_words wsX5_in := goodIn_r _ [7] (by decide +kernel) (by decide +kernel)
set_option maxRecDepth 20000 in
theorem gX5_words_X5_in : GoodIn wsX5_words (va_wsS RX5 67 yX5_in wsX5_in) := goodIn_app (goodIn_of _ (by decide +kernel)) ggX5_words_X5_in
set_option maxRecDepth 20000 in
theorem ggX5_words_X5_countWords : GoodIn wsX5_words wsX5_countWords := goodIn_r _ [11, 12, 3, 13, 14, 15, 16, 17, 18, 19, 20, 21, 22, 23, 24, 25, 26, 27, 28, 29, 30, 31, 32, 33, 34] (by decide +kernel) (by decide +kernel)
set_option maxRecDepth 20000 in
theorem gX5_words_X5_countWords : GoodIn wsX5_words (wsV RX5 148 RX5 yX5_countWords wsX5_countWords) := goodIn_app (goodIn_of _ (by decide +kernel)) ggX5_words_X5_countWords
theorem dX5_words_0 : decode cX5_words 0 = .ok (.iload_n 1, 1) := by decide +kernel
theorem dX5_words_1 : decode cX5_words 1 = .ok (.i2l, 1) := by decide +kernel
theorem dX5_words_2 : decode cX5_words 2 = .ok (.lconst 0, 1) := by decide +kernel
theorem dX5_words_3 : decode cX5_words 3 = .ok (.ldc2_w 146, 3) := by decide +kernel
theorem dX5_words_6 : decode cX5_words 6 = .ok (.invokestatic 67, 3) := by decide +kernel
theorem dX5_words_9 : decode cX5_words 9 = .ok (.ifCond .ne 7, 3) := by decide +kernel
theorem dX5_words_12 : decode cX5_words 12 = .ok (.ldc2_w 89, 3) := by decide +kernel
theorem dX5_words_15 : decode cX5_words 15 = .ok (.lreturn, 1) := by decide +kernel
theorem dX5_words_16 : decode cX5_words 16 = .ok (.aload_n 0, 1) := by decide +kernel
theorem dX5_words_17 : decode cX5_words 17 = .ok (.iload_n 1, 1) := by decide +kernel
theorem dX5_words_18 : decode cX5_words 18 = .ok (.invokevirtual 148, 3) := by decide +kernel
theorem dX5_words_21 : decode cX5_words 21 = .ok (.aload_n 0, 1) := by decide +kernel
theorem dX5_words_22 : decode cX5_words 22 = .ok (.getfield 46, 3) := by decide +kernel
theorem dX5_words_25 : decode cX5_words 25 = .ok (.bipush 12, 2) := by decide +kernel
theorem dX5_words_27 : decode cX5_words 27 = .ok (.iload_n 1, 1) := by decide +kernel
theorem dX5_words_28 : decode cX5_words 28 = .ok (.imul, 1) := by decide +kernel
theorem dX5_words_29 : decode cX5_words 29 = .ok (.laload, 1) := by decide +kernel
theorem dX5_words_30 : decode cX5_words 30 = .ok (.lreturn, 1) := by decide +kernel
set_option maxRecDepth 20000 in
theorem ggX5_word_X5_in : GoodIn wsX5_word wsX5_in := goodIn_r _ [7] (by decide +kernel) (by decide +kernel)
set_option maxRecDepth 20000 in
theorem gX5_word_X5_in : GoodIn wsX5_word (va_wsS RX5 67 yX5_in wsX5_in) := goodIn_app (goodIn_of _ (by decide +kernel)) ggX5_word_X5_in
set_option maxRecDepth 20000 in
theorem ggX5_word_X5_countWords : GoodIn wsX5_word wsX5_countWords := goodIn_r _ [11, 12, 2, 13, 3, 18, 19, 20, 21, 22, 23, 24, 25, 26, 27, 28, 29, 30, 31, 32, 33, 34, 35, 36, 37] (by decide +kernel) (by decide +kernel)
set_option maxRecDepth 20000 in
theorem gX5_word_X5_countWords : GoodIn wsX5_word (wsV RX5 148 RX5 yX5_countWords wsX5_countWords) := goodIn_app (goodIn_of _ (by decide +kernel)) ggX5_word_X5_countWords
set_option maxRecDepth 20000 in
theorem ggX5_word_X5_goesOn : GoodIn wsX5_word wsX5_goesOn := goodIn_r _ [17, 3, 2, 18, 19, 20, 21, 22, 23, 24, 25, 26, 27, 28, 29, 30, 31, 32, 33, 34, 35, 36, 37] (by decide +kernel) (by decide +kernel)
set_option maxRecDepth 20000 in
theorem gX5_word_X5_goesOn : GoodIn wsX5_word (wsV RX5 151 RX5 yX5_goesOn wsX5_goesOn) := goodIn_app (goodIn_of _ (by decide +kernel)) ggX5_word_X5_goesOn
theorem dX5_word_0 : decode cX5_word 0 = .ok (.iload_n 1, 1) := by decide +kernel
theorem dX5_word_1 : decode cX5_word 1 = .ok (.i2l, 1) := by decide +kernel
theorem dX5_word_2 : decode cX5_word 2 = .ok (.lconst 0, 1) := by decide +kernel
theorem dX5_word_3 : decode cX5_word 3 = .ok (.ldc2_w 146, 3) := by decide +kernel
theorem dX5_word_6 : decode cX5_word 6 = .ok (.invokestatic 67, 3) := by decide +kernel
theorem dX5_word_9 : decode cX5_word 9 = .ok (.ifCond .eq 17, 3) := by decide +kernel
theorem dX5_word_12 : decode cX5_word 12 = .ok (.iload 4, 2) := by decide +kernel
theorem dX5_word_14 : decode cX5_word 14 = .ok (.i2l, 1) := by decide +kernel
theorem dX5_word_15 : decode cX5_word 15 = .ok (.lconst 0, 1) := by decide +kernel
theorem dX5_word_16 : decode cX5_word 16 = .ok (.iload_n 1, 1) := by decide +kernel
theorem dX5_word_17 : decode cX5_word 17 = .ok (.iconst 1, 1) := by decide +kernel
theorem dX5_word_18 : decode cX5_word 18 = .ok (.isub, 1) := by decide +kernel
theorem dX5_word_19 : decode cX5_word 19 = .ok (.i2l, 1) := by decide +kernel
theorem dX5_word_20 : decode cX5_word 20 = .ok (.invokestatic 67, 3) := by decide +kernel
theorem dX5_word_23 : decode cX5_word 23 = .ok (.ifCond .ne 5, 3) := by decide +kernel
theorem dX5_word_26 : decode cX5_word 26 = .ok (.iconst (-1), 1) := by decide +kernel
theorem dX5_word_27 : decode cX5_word 27 = .ok (.ireturn, 1) := by decide +kernel
theorem dX5_word_28 : decode cX5_word 28 = .ok (.aload_n 0, 1) := by decide +kernel
theorem dX5_word_29 : decode cX5_word 29 = .ok (.iload_n 1, 1) := by decide +kernel
theorem dX5_word_30 : decode cX5_word 30 = .ok (.invokevirtual 148, 3) := by decide +kernel
theorem dX5_word_33 : decode cX5_word 33 = .ok (.lload_n 2, 1) := by decide +kernel
theorem dX5_word_34 : decode cX5_word 34 = .ok (.lconst 0, 1) := by decide +kernel
theorem dX5_word_35 : decode cX5_word 35 = .ok (.aload_n 0, 1) := by decide +kernel
theorem dX5_word_36 : decode cX5_word 36 = .ok (.getfield 46, 3) := by decide +kernel
theorem dX5_word_39 : decode cX5_word 39 = .ok (.bipush 12, 2) := by decide +kernel
theorem dX5_word_41 : decode cX5_word 41 = .ok (.iload_n 1, 1) := by decide +kernel
theorem dX5_word_42 : decode cX5_word 42 = .ok (.imul, 1) := by decide +kernel
theorem dX5_word_43 : decode cX5_word 43 = .ok (.laload, 1) := by decide +kernel
theorem dX5_word_44 : decode cX5_word 44 = .ok (.lconst 1, 1) := by decide +kernel
theorem dX5_word_45 : decode cX5_word 45 = .ok (.lsub, 1) := by decide +kernel
theorem dX5_word_46 : decode cX5_word 46 = .ok (.invokestatic 67, 3) := by decide +kernel
theorem dX5_word_49 : decode cX5_word 49 = .ok (.ifCond .ne 5, 3) := by decide +kernel
theorem dX5_word_52 : decode cX5_word 52 = .ok (.iconst (-1), 1) := by decide +kernel
theorem dX5_word_53 : decode cX5_word 53 = .ok (.ireturn, 1) := by decide +kernel
theorem dX5_word_54 : decode cX5_word 54 = .ok (.iconst 0, 1) := by decide +kernel
theorem dX5_word_55 : decode cX5_word 55 = .ok (.istore 5, 2) := by decide +kernel
theorem dX5_word_57 : decode cX5_word 57 = .ok (.lload_n 2, 1) := by decide +kernel
theorem dX5_word_58 : decode cX5_word 58 = .ok (.lstore 6, 2) := by decide +kernel
theorem dX5_word_60 : decode cX5_word 60 = .ok (.iconst 0, 1) := by decide +kernel
theorem dX5_word_61 : decode cX5_word 61 = .ok (.istore 8, 2) := by decide +kernel
theorem dX5_word_63 : decode cX5_word 63 = .ok (.iconst 0, 1) := by decide +kernel
theorem dX5_word_64 : decode cX5_word 64 = .ok (.istore 9, 2) := by decide +kernel
theorem dX5_word_66 : decode cX5_word 66 = .ok (.iload 9, 2) := by decide +kernel
theorem dX5_word_68 : decode cX5_word 68 = .ok (.iload 4, 2) := by decide +kernel
theorem dX5_word_70 : decode cX5_word 70 = .ok (.if_icmp .gt 71, 3) := by decide +kernel
theorem dX5_word_73 : decode cX5_word 73 = .ok (.iconst 0, 1) := by decide +kernel
theorem dX5_word_74 : decode cX5_word 74 = .ok (.istore 8, 2) := by decide +kernel
theorem dX5_word_76 : decode cX5_word 76 = .ok (.lload 6, 2) := by decide +kernel
theorem dX5_word_78 : decode cX5_word 78 = .ok (.aload_n 0, 1) := by decide +kernel
theorem dX5_word_79 : decode cX5_word 79 = .ok (.iload 5, 2) := by decide +kernel
theorem dX5_word_81 : decode cX5_word 81 = .ok (.iload 8, 2) := by decide +kernel
theorem dX5_word_83 : decode cX5_word 83 = .ok (.iload_n 1, 1) := by decide +kernel
theorem dX5_word_84 : decode cX5_word 84 = .ok (.iload 9, 2) := by decide +kernel
theorem dX5_word_86 : decode cX5_word 86 = .ok (.isub, 1) := by decide +kernel
theorem dX5_word_87 : decode cX5_word 87 = .ok (.iconst 1, 1) := by decide +kernel
theorem dX5_word_88 : decode cX5_word 88 = .ok (.isub, 1) := by decide +kernel
theorem dX5_word_89 : decode cX5_word 89 = .ok (.invokevirtual 151, 3) := by decide +kernel
theorem dX5_word_92 : decode cX5_word 92 = .ok (.lcmp, 1) := by decide +kernel
theorem dX5_word_93 : decode cX5_word 93 = .ok (.ifCond .lt 28, 3) := by decide +kernel
theorem dX5_word_96 : decode cX5_word 96 = .ok (.lload 6, 2) := by decide +kernel
theorem dX5_word_98 : decode cX5_word 98 = .ok (.aload_n 0, 1) := by decide +kernel
theorem dX5_word_99 : decode cX5_word 99 = .ok (.iload 5, 2) := by decide +kernel
theorem dX5_word_101 : decode cX5_word 101 = .ok (.iload 8, 2) := by decide +kernel
theorem dX5_word_103 : decode cX5_word 103 = .ok (.iload_n 1, 1) := by decide +kernel
theorem dX5_word_104 : decode cX5_word 104 = .ok (.iload 9, 2) := by decide +kernel
theorem dX5_word_106 : decode cX5_word 106 = .ok (.isub, 1) := by decide +kernel
theorem dX5_word_107 : decode cX5_word 107 = .ok (.iconst 1, 1) := by decide +kernel
theorem dX5_word_108 : decode cX5_word 108 = .ok (.isub, 1) := by decide +kernel
end
section
theorem dX5_word_109 : decode cX5_word 109 = .ok (.invokevirtual 151, 3) := by decide +kernel
theorem dX5_word_112 : decode cX5_word 112 = .ok (.lsub, 1) := by decide +kernel
theorem dX5_word_113 : decode cX5_word 113 = .ok (.lstore 6, 2) := by decide +kernel
theorem dX5_word_115 : decode cX5_word 115 = .ok (.iinc 8 1, 3) := by decide +kernel
theorem dX5_word_118 : decode cX5_word 118 = .ok (.goto (-42), 3) := by decide +kernel
theorem dX5_word_121 : decode cX5_word 121 = .ok (.aload_n 0, 1) := by decide +kernel
theorem dX5_word_122 : decode cX5_word 122 = .ok (.getfield 13, 3) := by decide +kernel
theorem dX5_word_125 : decode cX5_word 125 = .ok (.iconst 4, 1) := by decide +kernel
theorem dX5_word_126 : decode cX5_word 126 = .ok (.iload 5, 2) := by decide +kernel
theorem dX5_word_128 : decode cX5_word 128 = .ok (.imul, 1) := by decide +kernel
theorem dX5_word_129 : decode cX5_word 129 = .ok (.iload 8, 2) := by decide +kernel
theorem dX5_word_131 : decode cX5_word 131 = .ok (.iadd, 1) := by decide +kernel
theorem dX5_word_132 : decode cX5_word 132 = .ok (.iaload, 1) := by decide +kernel
theorem dX5_word_133 : decode cX5_word 133 = .ok (.istore 5, 2) := by decide +kernel
theorem dX5_word_135 : decode cX5_word 135 = .ok (.iinc 9 1, 3) := by decide +kernel
theorem dX5_word_138 : decode cX5_word 138 = .ok (.goto (-72), 3) := by decide +kernel
theorem dX5_word_141 : decode cX5_word 141 = .ok (.iload 8, 2) := by decide +kernel
theorem dX5_word_143 : decode cX5_word 143 = .ok (.ireturn, 1) := by decide +kernel
theorem dX5_goesOn_0 : decode cX5_goesOn 0 = .ok (.aload_n 0, 1) := by decide +kernel
theorem dX5_goesOn_1 : decode cX5_goesOn 1 = .ok (.getfield 13, 3) := by decide +kernel
theorem dX5_goesOn_4 : decode cX5_goesOn 4 = .ok (.iconst 4, 1) := by decide +kernel
theorem dX5_goesOn_5 : decode cX5_goesOn 5 = .ok (.iload_n 1, 1) := by decide +kernel
theorem dX5_goesOn_6 : decode cX5_goesOn 6 = .ok (.imul, 1) := by decide +kernel
theorem dX5_goesOn_7 : decode cX5_goesOn 7 = .ok (.iload_n 2, 1) := by decide +kernel
theorem dX5_goesOn_8 : decode cX5_goesOn 8 = .ok (.iadd, 1) := by decide +kernel
theorem dX5_goesOn_9 : decode cX5_goesOn 9 = .ok (.iaload, 1) := by decide +kernel
theorem dX5_goesOn_10 : decode cX5_goesOn 10 = .ok (.istore 4, 2) := by decide +kernel
theorem dX5_goesOn_12 : decode cX5_goesOn 12 = .ok (.iload 4, 2) := by decide +kernel
theorem dX5_goesOn_14 : decode cX5_goesOn 14 = .ok (.ifCond .ge 7, 3) := by decide +kernel
theorem dX5_goesOn_17 : decode cX5_goesOn 17 = .ok (.lconst 0, 1) := by decide +kernel
theorem dX5_goesOn_18 : decode cX5_goesOn 18 = .ok (.goto 15, 3) := by decide +kernel
theorem dX5_goesOn_21 : decode cX5_goesOn 21 = .ok (.aload_n 0, 1) := by decide +kernel
theorem dX5_goesOn_22 : decode cX5_goesOn 22 = .ok (.getfield 46, 3) := by decide +kernel
theorem dX5_goesOn_25 : decode cX5_goesOn 25 = .ok (.bipush 12, 2) := by decide +kernel
theorem dX5_goesOn_27 : decode cX5_goesOn 27 = .ok (.iload_n 3, 1) := by decide +kernel
theorem dX5_goesOn_28 : decode cX5_goesOn 28 = .ok (.imul, 1) := by decide +kernel
theorem dX5_goesOn_29 : decode cX5_goesOn 29 = .ok (.iload 4, 2) := by decide +kernel
theorem dX5_goesOn_31 : decode cX5_goesOn 31 = .ok (.iadd, 1) := by decide +kernel
theorem dX5_goesOn_32 : decode cX5_goesOn 32 = .ok (.laload, 1) := by decide +kernel
theorem dX5_goesOn_33 : decode cX5_goesOn 33 = .ok (.lreturn, 1) := by decide +kernel
set_option maxRecDepth 20000 in
theorem ggX5_rank_X5_in : GoodIn wsX5_rank wsX5_in := goodIn_r _ [10] (by decide +kernel) (by decide +kernel)
set_option maxRecDepth 20000 in
theorem gX5_rank_X5_in : GoodIn wsX5_rank (va_wsS RX5 67 yX5_in wsX5_in) := goodIn_app (goodIn_of _ (by decide +kernel)) ggX5_rank_X5_in
set_option maxRecDepth 20000 in
theorem ggX5_rank_X5_countWords : GoodIn wsX5_rank wsX5_countWords := goodIn_r _ [14, 15, 16, 6, 4, 21, 22, 23, 24, 25, 26, 27, 28, 29, 30, 31, 32, 33, 34, 35, 36, 37, 38, 39, 40] (by decide +kernel) (by decide +kernel)
set_option maxRecDepth 20000 in
theorem gX5_rank_X5_countWords : GoodIn wsX5_rank (wsV RX5 148 RX5 yX5_countWords wsX5_countWords) := goodIn_app (goodIn_of _ (by decide +kernel)) ggX5_rank_X5_countWords
set_option maxRecDepth 20000 in
theorem ggX5_rank_X5_goesOn : GoodIn wsX5_rank wsX5_goesOn := goodIn_r _ [20, 4, 16, 21, 22, 23, 24, 25, 26, 27, 28, 29, 30, 31, 32, 33, 34, 35, 36, 37, 38, 39, 40] (by decide +kernel) (by decide +kernel)
set_option maxRecDepth 20000 in
theorem gX5_rank_X5_goesOn : GoodIn wsX5_rank (wsV RX5 151 RX5 yX5_goesOn wsX5_goesOn) := goodIn_app (goodIn_of _ (by decide +kernel)) ggX5_rank_X5_goesOn
theorem dX5_rank_0 : decode cX5_rank 0 = .ok (.iload_n 1, 1) := by decide +kernel
theorem dX5_rank_1 : decode cX5_rank 1 = .ok (.i2l, 1) := by decide +kernel
theorem dX5_rank_2 : decode cX5_rank 2 = .ok (.lconst 0, 1) := by decide +kernel
theorem dX5_rank_3 : decode cX5_rank 3 = .ok (.ldc2_w 146, 3) := by decide +kernel
theorem dX5_rank_6 : decode cX5_rank 6 = .ok (.invokestatic 67, 3) := by decide +kernel
theorem dX5_rank_9 : decode cX5_rank 9 = .ok (.ifCond .ne 7, 3) := by decide +kernel
theorem dX5_rank_12 : decode cX5_rank 12 = .ok (.ldc2_w 89, 3) := by decide +kernel
theorem dX5_rank_15 : decode cX5_rank 15 = .ok (.lreturn, 1) := by decide +kernel
theorem dX5_rank_16 : decode cX5_rank 16 = .ok (.aload_n 0, 1) := by decide +kernel
theorem dX5_rank_17 : decode cX5_rank 17 = .ok (.iload_n 1, 1) := by decide +kernel
theorem dX5_rank_18 : decode cX5_rank 18 = .ok (.invokevirtual 148, 3) := by decide +kernel
theorem dX5_rank_21 : decode cX5_rank 21 = .ok (.iconst 0, 1) := by decide +kernel
theorem dX5_rank_22 : decode cX5_rank 22 = .ok (.istore 4, 2) := by decide +kernel
theorem dX5_rank_24 : decode cX5_rank 24 = .ok (.lconst 0, 1) := by decide +kernel
theorem dX5_rank_25 : decode cX5_rank 25 = .ok (.lstore 5, 2) := by decide +kernel
theorem dX5_rank_27 : decode cX5_rank 27 = .ok (.iconst 0, 1) := by decide +kernel
theorem dX5_rank_28 : decode cX5_rank 28 = .ok (.istore 7, 2) := by decide +kernel
theorem dX5_rank_30 : decode cX5_rank 30 = .ok (.iload 7, 2) := by decide +kernel
theorem dX5_rank_32 : decode cX5_rank 32 = .ok (.iload_n 1, 1) := by decide +kernel
theorem dX5_rank_33 : decode cX5_rank 33 = .ok (.if_icmp .ge 80, 3) := by decide +kernel
theorem dX5_rank_36 : decode cX5_rank 36 = .ok (.lload_n 2, 1) := by decide +kernel
theorem dX5_rank_37 : decode cX5_rank 37 = .ok (.iconst 2, 1) := by decide +kernel
theorem dX5_rank_38 : decode cX5_rank 38 = .ok (.iload 7, 2) := by decide +kernel
theorem dX5_rank_40 : decode cX5_rank 40 = .ok (.imul, 1) := by decide +kernel
theorem dX5_rank_41 : decode cX5_rank 41 = .ok (.lshr, 1) := by decide +kernel
theorem dX5_rank_42 : decode cX5_rank 42 = .ok (.ldc2_w 144, 3) := by decide +kernel
theorem dX5_rank_45 : decode cX5_rank 45 = .ok (.land, 1) := by decide +kernel
theorem dX5_rank_46 : decode cX5_rank 46 = .ok (.l2i, 1) := by decide +kernel
theorem dX5_rank_47 : decode cX5_rank 47 = .ok (.istore 8, 2) := by decide +kernel
theorem dX5_rank_49 : decode cX5_rank 49 = .ok (.iconst 0, 1) := by decide +kernel
theorem dX5_rank_50 : decode cX5_rank 50 = .ok (.istore 9, 2) := by decide +kernel
theorem dX5_rank_52 : decode cX5_rank 52 = .ok (.iload 9, 2) := by decide +kernel
theorem dX5_rank_54 : decode cX5_rank 54 = .ok (.iload 8, 2) := by decide +kernel
theorem dX5_rank_56 : decode cX5_rank 56 = .ok (.if_icmp .ge 28, 3) := by decide +kernel
theorem dX5_rank_59 : decode cX5_rank 59 = .ok (.lload 5, 2) := by decide +kernel
theorem dX5_rank_61 : decode cX5_rank 61 = .ok (.aload_n 0, 1) := by decide +kernel
theorem dX5_rank_62 : decode cX5_rank 62 = .ok (.iload 4, 2) := by decide +kernel
theorem dX5_rank_64 : decode cX5_rank 64 = .ok (.iload 9, 2) := by decide +kernel
theorem dX5_rank_66 : decode cX5_rank 66 = .ok (.iload_n 1, 1) := by decide +kernel
theorem dX5_rank_67 : decode cX5_rank 67 = .ok (.iload 7, 2) := by decide +kernel
theorem dX5_rank_69 : decode cX5_rank 69 = .ok (.isub, 1) := by decide +kernel
theorem dX5_rank_70 : decode cX5_rank 70 = .ok (.iconst 1, 1) := by decide +kernel
theorem dX5_rank_71 : decode cX5_rank 71 = .ok (.isub, 1) := by decide +kernel
theorem dX5_rank_72 : decode cX5_rank 72 = .ok (.invokevirtual 151, 3) := by decide +kernel
theorem dX5_rank_75 : decode cX5_rank 75 = .ok (.ladd, 1) := by decide +kernel
theorem dX5_rank_76 : decode cX5_rank 76 = .ok (.lstore 5, 2) := by decide +kernel
theorem dX5_rank_78 : decode cX5_rank 78 = .ok (.iinc 9 1, 3) := by decide +kernel
theorem dX5_rank_81 : decode cX5_rank 81 = .ok (.goto (-29), 3) := by decide +kernel
theorem dX5_rank_84 : decode cX5_rank 84 = .ok (.aload_n 0, 1) := by decide +kernel
theorem dX5_rank_85 : decode cX5_rank 85 = .ok (.getfield 13, 3) := by decide +kernel
theorem dX5_rank_88 : decode cX5_rank 88 = .ok (.iconst 4, 1) := by decide +kernel
theorem dX5_rank_89 : decode cX5_rank 89 = .ok (.iload 4, 2) := by decide +kernel
theorem dX5_rank_91 : decode cX5_rank 91 = .ok (.imul, 1) := by decide +kernel
theorem dX5_rank_92 : decode cX5_rank 92 = .ok (.iload 8, 2) := by decide +kernel
theorem dX5_rank_94 : decode cX5_rank 94 = .ok (.iadd, 1) := by decide +kernel
theorem dX5_rank_95 : decode cX5_rank 95 = .ok (.iaload, 1) := by decide +kernel
theorem dX5_rank_96 : decode cX5_rank 96 = .ok (.istore 4, 2) := by decide +kernel
theorem dX5_rank_98 : decode cX5_rank 98 = .ok (.iload 4, 2) := by decide +kernel
theorem dX5_rank_100 : decode cX5_rank 100 = .ok (.ifCond .ge 7, 3) := by decide +kernel
theorem dX5_rank_103 : decode cX5_rank 103 = .ok (.ldc2_w 155, 3) := by decide +kernel
theorem dX5_rank_106 : decode cX5_rank 106 = .ok (.lreturn, 1) := by decide +kernel
theorem dX5_rank_107 : decode cX5_rank 107 = .ok (.iinc 7 1, 3) := by decide +kernel
theorem dX5_rank_110 : decode cX5_rank 110 = .ok (.goto (-80), 3) := by decide +kernel
theorem dX5_rank_113 : decode cX5_rank 113 = .ok (.aload_n 0, 1) := by decide +kernel
theorem dX5_rank_114 : decode cX5_rank 114 = .ok (.getfield 16, 3) := by decide +kernel
theorem dX5_rank_117 : decode cX5_rank 117 = .ok (.iload 4, 2) := by decide +kernel
theorem dX5_rank_119 : decode cX5_rank 119 = .ok (.baload, 1) := by decide +kernel
theorem dX5_rank_120 : decode cX5_rank 120 = .ok (.ifCond .eq 8, 3) := by decide +kernel
theorem dX5_rank_123 : decode cX5_rank 123 = .ok (.lload 5, 2) := by decide +kernel
theorem dX5_rank_125 : decode cX5_rank 125 = .ok (.goto 6, 3) := by decide +kernel
theorem dX5_rank_128 : decode cX5_rank 128 = .ok (.ldc2_w 155, 3) := by decide +kernel
theorem dX5_rank_131 : decode cX5_rank 131 = .ok (.lreturn, 1) := by decide +kernel
set_option maxRecDepth 20000 in
theorem ggX5_allow_X5_in : GoodIn wsX5_allow wsX5_in := goodIn_r _ [6] (by decide +kernel) (by decide +kernel)
set_option maxRecDepth 20000 in
theorem gX5_allow_X5_in : GoodIn wsX5_allow (va_wsS RX5 67 yX5_in wsX5_in) := goodIn_app (goodIn_of _ (by decide +kernel)) ggX5_allow_X5_in
theorem dX5_allow_0 : decode cX5_allow 0 = .ok (.iload_n 1, 1) := by decide +kernel
theorem dX5_allow_1 : decode cX5_allow 1 = .ok (.i2l, 1) := by decide +kernel
theorem dX5_allow_2 : decode cX5_allow 2 = .ok (.lconst 0, 1) := by decide +kernel
theorem dX5_allow_3 : decode cX5_allow 3 = .ok (.ldc2_w 99, 3) := by decide +kernel
theorem dX5_allow_6 : decode cX5_allow 6 = .ok (.invokestatic 67, 3) := by decide +kernel
theorem dX5_allow_9 : decode cX5_allow 9 = .ok (.ifCond .eq 15, 3) := by decide +kernel
theorem dX5_allow_12 : decode cX5_allow 12 = .ok (.iload_n 2, 1) := by decide +kernel
theorem dX5_allow_13 : decode cX5_allow 13 = .ok (.i2l, 1) := by decide +kernel
theorem dX5_allow_14 : decode cX5_allow 14 = .ok (.lconst 0, 1) := by decide +kernel
theorem dX5_allow_15 : decode cX5_allow 15 = .ok (.ldc2_w 99, 3) := by decide +kernel
theorem dX5_allow_18 : decode cX5_allow 18 = .ok (.invokestatic 67, 3) := by decide +kernel
theorem dX5_allow_21 : decode cX5_allow 21 = .ok (.ifCond .ne 5, 3) := by decide +kernel
theorem dX5_allow_24 : decode cX5_allow 24 = .ok (.iconst (-1), 1) := by decide +kernel
theorem dX5_allow_25 : decode cX5_allow 25 = .ok (.ireturn, 1) := by decide +kernel
theorem dX5_allow_26 : decode cX5_allow 26 = .ok (.aload_n 0, 1) := by decide +kernel
theorem dX5_allow_27 : decode cX5_allow 27 = .ok (.getfield 20, 3) := by decide +kernel
theorem dX5_allow_30 : decode cX5_allow 30 = .ok (.bipush 8, 2) := by decide +kernel
theorem dX5_allow_32 : decode cX5_allow 32 = .ok (.iload_n 1, 1) := by decide +kernel
theorem dX5_allow_33 : decode cX5_allow 33 = .ok (.imul, 1) := by decide +kernel
theorem dX5_allow_34 : decode cX5_allow 34 = .ok (.iload_n 2, 1) := by decide +kernel
theorem dX5_allow_35 : decode cX5_allow 35 = .ok (.iadd, 1) := by decide +kernel
theorem dX5_allow_36 : decode cX5_allow 36 = .ok (.baload, 1) := by decide +kernel
theorem dX5_allow_37 : decode cX5_allow 37 = .ok (.istore 4, 2) := by decide +kernel
theorem dX5_allow_39 : decode cX5_allow 39 = .ok (.aload_n 0, 1) := by decide +kernel
theorem dX5_allow_40 : decode cX5_allow 40 = .ok (.getfield 20, 3) := by decide +kernel
theorem dX5_allow_43 : decode cX5_allow 43 = .ok (.bipush 8, 2) := by decide +kernel
theorem dX5_allow_45 : decode cX5_allow 45 = .ok (.iload_n 1, 1) := by decide +kernel
theorem dX5_allow_46 : decode cX5_allow 46 = .ok (.imul, 1) := by decide +kernel
theorem dX5_allow_47 : decode cX5_allow 47 = .ok (.iload_n 2, 1) := by decide +kernel
theorem dX5_allow_48 : decode cX5_allow 48 = .ok (.iadd, 1) := by decide +kernel
theorem dX5_allow_49 : decode cX5_allow 49 = .ok (.iload_n 3, 1) := by decide +kernel
theorem dX5_allow_50 : decode cX5_allow 50 = .ok (.bastore, 1) := by decide +kernel
theorem dX5_allow_51 : decode cX5_allow 51 = .ok (.iload 4, 2) := by decide +kernel
theorem dX5_allow_53 : decode cX5_allow 53 = .ok (.ifCond .eq 7, 3) := by decide +kernel
theorem dX5_allow_56 : decode cX5_allow 56 = .ok (.iconst 1, 1) := by decide +kernel
theorem dX5_allow_57 : decode cX5_allow 57 = .ok (.goto 4, 3) := by decide +kernel
theorem dX5_allow_60 : decode cX5_allow 60 = .ok (.iconst 0, 1) := by decide +kernel
theorem dX5_allow_61 : decode cX5_allow 61 = .ok (.ireturn, 1) := by decide +kernel
theorem dX5_countWays_0 : decode cX5_countWays 0 = .ok (.iconst 1, 1) := by decide +kernel
theorem dX5_countWays_1 : decode cX5_countWays 1 = .ok (.iload_n 1, 1) := by decide +kernel
theorem dX5_countWays_2 : decode cX5_countWays 2 = .ok (.ishl, 1) := by decide +kernel
theorem dX5_countWays_3 : decode cX5_countWays 3 = .ok (.iconst 1, 1) := by decide +kernel
theorem dX5_countWays_4 : decode cX5_countWays 4 = .ok (.isub, 1) := by decide +kernel
theorem dX5_countWays_5 : decode cX5_countWays 5 = .ok (.istore_n 2, 1) := by decide +kernel
theorem dX5_countWays_6 : decode cX5_countWays 6 = .ok (.iload_n 2, 1) := by decide +kernel
theorem dX5_countWays_7 : decode cX5_countWays 7 = .ok (.ifCond .lt 119, 3) := by decide +kernel
theorem dX5_countWays_10 : decode cX5_countWays 10 = .ok (.iconst 0, 1) := by decide +kernel
theorem dX5_countWays_11 : decode cX5_countWays 11 = .ok (.istore_n 3, 1) := by decide +kernel
theorem dX5_countWays_12 : decode cX5_countWays 12 = .ok (.iconst 0, 1) := by decide +kernel
theorem dX5_countWays_13 : decode cX5_countWays 13 = .ok (.istore 4, 2) := by decide +kernel
theorem dX5_countWays_15 : decode cX5_countWays 15 = .ok (.iload 4, 2) := by decide +kernel
theorem dX5_countWays_17 : decode cX5_countWays 17 = .ok (.iload_n 1, 1) := by decide +kernel
theorem dX5_countWays_18 : decode cX5_countWays 18 = .ok (.if_icmp .ge 18, 3) := by decide +kernel
theorem dX5_countWays_21 : decode cX5_countWays 21 = .ok (.iload_n 3, 1) := by decide +kernel
theorem dX5_countWays_22 : decode cX5_countWays 22 = .ok (.iload_n 2, 1) := by decide +kernel
theorem dX5_countWays_23 : decode cX5_countWays 23 = .ok (.iload 4, 2) := by decide +kernel
theorem dX5_countWays_25 : decode cX5_countWays 25 = .ok (.ishr, 1) := by decide +kernel
theorem dX5_countWays_26 : decode cX5_countWays 26 = .ok (.iconst 1, 1) := by decide +kernel
theorem dX5_countWays_27 : decode cX5_countWays 27 = .ok (.iand, 1) := by decide +kernel
theorem dX5_countWays_28 : decode cX5_countWays 28 = .ok (.iadd, 1) := by decide +kernel
theorem dX5_countWays_29 : decode cX5_countWays 29 = .ok (.istore_n 3, 1) := by decide +kernel
theorem dX5_countWays_30 : decode cX5_countWays 30 = .ok (.iinc 4 1, 3) := by decide +kernel
theorem dX5_countWays_33 : decode cX5_countWays 33 = .ok (.goto (-18), 3) := by decide +kernel
theorem dX5_countWays_36 : decode cX5_countWays 36 = .ok (.aload_n 0, 1) := by decide +kernel
theorem dX5_countWays_37 : decode cX5_countWays 37 = .ok (.getfield 49, 3) := by decide +kernel
theorem dX5_countWays_40 : decode cX5_countWays 40 = .ok (.iload_n 2, 1) := by decide +kernel
theorem dX5_countWays_41 : decode cX5_countWays 41 = .ok (.iload_n 3, 1) := by decide +kernel
theorem dX5_countWays_42 : decode cX5_countWays 42 = .ok (.iload_n 1, 1) := by decide +kernel
theorem dX5_countWays_43 : decode cX5_countWays 43 = .ok (.if_icmp .ne 7, 3) := by decide +kernel
theorem dX5_countWays_46 : decode cX5_countWays 46 = .ok (.iconst 1, 1) := by decide +kernel
theorem dX5_countWays_47 : decode cX5_countWays 47 = .ok (.goto 4, 3) := by decide +kernel
theorem dX5_countWays_50 : decode cX5_countWays 50 = .ok (.iconst 0, 1) := by decide +kernel
theorem dX5_countWays_51 : decode cX5_countWays 51 = .ok (.iastore, 1) := by decide +kernel
theorem dX5_countWays_52 : decode cX5_countWays 52 = .ok (.iconst 0, 1) := by decide +kernel
theorem dX5_countWays_53 : decode cX5_countWays 53 = .ok (.istore 4, 2) := by decide +kernel
theorem dX5_countWays_55 : decode cX5_countWays 55 = .ok (.iload 4, 2) := by decide +kernel
theorem dX5_countWays_57 : decode cX5_countWays 57 = .ok (.iload_n 1, 1) := by decide +kernel
theorem dX5_countWays_58 : decode cX5_countWays 58 = .ok (.if_icmp .ge 62, 3) := by decide +kernel
theorem dX5_countWays_61 : decode cX5_countWays 61 = .ok (.aload_n 0, 1) := by decide +kernel
theorem dX5_countWays_62 : decode cX5_countWays 62 = .ok (.getfield 49, 3) := by decide +kernel
theorem dX5_countWays_65 : decode cX5_countWays 65 = .ok (.iload_n 2, 1) := by decide +kernel
theorem dX5_countWays_66 : decode cX5_countWays 66 = .ok (.dup2, 1) := by decide +kernel
theorem dX5_countWays_67 : decode cX5_countWays 67 = .ok (.iaload, 1) := by decide +kernel
theorem dX5_countWays_68 : decode cX5_countWays 68 = .ok (.iload_n 3, 1) := by decide +kernel
theorem dX5_countWays_69 : decode cX5_countWays 69 = .ok (.iload_n 1, 1) := by decide +kernel
theorem dX5_countWays_70 : decode cX5_countWays 70 = .ok (.if_icmp .ge 41, 3) := by decide +kernel
theorem dX5_countWays_73 : decode cX5_countWays 73 = .ok (.iload_n 2, 1) := by decide +kernel
theorem dX5_countWays_74 : decode cX5_countWays 74 = .ok (.iload 4, 2) := by decide +kernel
theorem dX5_countWays_76 : decode cX5_countWays 76 = .ok (.ishr, 1) := by decide +kernel
theorem dX5_countWays_77 : decode cX5_countWays 77 = .ok (.iconst 1, 1) := by decide +kernel
theorem dX5_countWays_78 : decode cX5_countWays 78 = .ok (.iand, 1) := by decide +kernel
theorem dX5_countWays_79 : decode cX5_countWays 79 = .ok (.ifCond .ne 32, 3) := by decide +kernel
theorem dX5_countWays_82 : decode cX5_countWays 82 = .ok (.aload_n 0, 1) := by decide +kernel
theorem dX5_countWays_83 : decode cX5_countWays 83 = .ok (.getfield 20, 3) := by decide +kernel
theorem dX5_countWays_86 : decode cX5_countWays 86 = .ok (.bipush 8, 2) := by decide +kernel
theorem dX5_countWays_88 : decode cX5_countWays 88 = .ok (.iload_n 3, 1) := by decide +kernel
theorem dX5_countWays_89 : decode cX5_countWays 89 = .ok (.imul, 1) := by decide +kernel
theorem dX5_countWays_90 : decode cX5_countWays 90 = .ok (.iload 4, 2) := by decide +kernel
theorem dX5_countWays_92 : decode cX5_countWays 92 = .ok (.iadd, 1) := by decide +kernel
theorem dX5_countWays_93 : decode cX5_countWays 93 = .ok (.baload, 1) := by decide +kernel
theorem dX5_countWays_94 : decode cX5_countWays 94 = .ok (.ifCond .eq 17, 3) := by decide +kernel
theorem dX5_countWays_97 : decode cX5_countWays 97 = .ok (.aload_n 0, 1) := by decide +kernel
theorem dX5_countWays_98 : decode cX5_countWays 98 = .ok (.getfield 49, 3) := by decide +kernel
theorem dX5_countWays_101 : decode cX5_countWays 101 = .ok (.iload_n 2, 1) := by decide +kernel
theorem dX5_countWays_102 : decode cX5_countWays 102 = .ok (.iconst 1, 1) := by decide +kernel
theorem dX5_countWays_103 : decode cX5_countWays 103 = .ok (.iload 4, 2) := by decide +kernel
theorem dX5_countWays_105 : decode cX5_countWays 105 = .ok (.ishl, 1) := by decide +kernel
theorem dX5_countWays_106 : decode cX5_countWays 106 = .ok (.ior, 1) := by decide +kernel
theorem dX5_countWays_107 : decode cX5_countWays 107 = .ok (.iaload, 1) := by decide +kernel
theorem dX5_countWays_108 : decode cX5_countWays 108 = .ok (.goto 4, 3) := by decide +kernel
theorem dX5_countWays_111 : decode cX5_countWays 111 = .ok (.iconst 0, 1) := by decide +kernel
theorem dX5_countWays_112 : decode cX5_countWays 112 = .ok (.iadd, 1) := by decide +kernel
theorem dX5_countWays_113 : decode cX5_countWays 113 = .ok (.iastore, 1) := by decide +kernel
theorem dX5_countWays_114 : decode cX5_countWays 114 = .ok (.iinc 4 1, 3) := by decide +kernel
theorem dX5_countWays_117 : decode cX5_countWays 117 = .ok (.goto (-62), 3) := by decide +kernel
theorem dX5_countWays_120 : decode cX5_countWays 120 = .ok (.iinc 2 (-1), 3) := by decide +kernel
theorem dX5_countWays_123 : decode cX5_countWays 123 = .ok (.goto (-117), 3) := by decide +kernel
theorem dX5_countWays_126 : decode cX5_countWays 126 = .ok (.return_, 1) := by decide +kernel
theorem dX5_wayOn_0 : decode cX5_wayOn 0 = .ok (.iload_n 1, 1) := by decide +kernel
theorem dX5_wayOn_1 : decode cX5_wayOn 1 = .ok (.iload_n 3, 1) := by decide +kernel
theorem dX5_wayOn_2 : decode cX5_wayOn 2 = .ok (.ishr, 1) := by decide +kernel
theorem dX5_wayOn_3 : decode cX5_wayOn 3 = .ok (.iconst 1, 1) := by decide +kernel
theorem dX5_wayOn_4 : decode cX5_wayOn 4 = .ok (.iand, 1) := by decide +kernel
theorem dX5_wayOn_5 : decode cX5_wayOn 5 = .ok (.ifCond .ne 30, 3) := by decide +kernel
theorem dX5_wayOn_8 : decode cX5_wayOn 8 = .ok (.aload_n 0, 1) := by decide +kernel
theorem dX5_wayOn_9 : decode cX5_wayOn 9 = .ok (.getfield 20, 3) := by decide +kernel
theorem dX5_wayOn_12 : decode cX5_wayOn 12 = .ok (.bipush 8, 2) := by decide +kernel
theorem dX5_wayOn_14 : decode cX5_wayOn 14 = .ok (.iload_n 2, 1) := by decide +kernel
theorem dX5_wayOn_15 : decode cX5_wayOn 15 = .ok (.imul, 1) := by decide +kernel
theorem dX5_wayOn_16 : decode cX5_wayOn 16 = .ok (.iload_n 3, 1) := by decide +kernel
theorem dX5_wayOn_17 : decode cX5_wayOn 17 = .ok (.iadd, 1) := by decide +kernel
theorem dX5_wayOn_18 : decode cX5_wayOn 18 = .ok (.baload, 1) := by decide +kernel
theorem dX5_wayOn_19 : decode cX5_wayOn 19 = .ok (.ifCond .eq 16, 3) := by decide +kernel
theorem dX5_wayOn_22 : decode cX5_wayOn 22 = .ok (.aload_n 0, 1) := by decide +kernel
theorem dX5_wayOn_23 : decode cX5_wayOn 23 = .ok (.getfield 49, 3) := by decide +kernel
theorem dX5_wayOn_26 : decode cX5_wayOn 26 = .ok (.iload_n 1, 1) := by decide +kernel
theorem dX5_wayOn_27 : decode cX5_wayOn 27 = .ok (.iconst 1, 1) := by decide +kernel
theorem dX5_wayOn_28 : decode cX5_wayOn 28 = .ok (.iload_n 3, 1) := by decide +kernel
theorem dX5_wayOn_29 : decode cX5_wayOn 29 = .ok (.ishl, 1) := by decide +kernel
theorem dX5_wayOn_30 : decode cX5_wayOn 30 = .ok (.ior, 1) := by decide +kernel
theorem dX5_wayOn_31 : decode cX5_wayOn 31 = .ok (.iaload, 1) := by decide +kernel
theorem dX5_wayOn_32 : decode cX5_wayOn 32 = .ok (.goto 4, 3) := by decide +kernel
theorem dX5_wayOn_35 : decode cX5_wayOn 35 = .ok (.iconst 0, 1) := by decide +kernel
theorem dX5_wayOn_36 : decode cX5_wayOn 36 = .ok (.ireturn, 1) := by decide +kernel
set_option maxRecDepth 20000 in
theorem ggX5_permutations_X5_in : GoodIn wsX5_permutations wsX5_in := goodIn_r _ [6] (by decide +kernel) (by decide +kernel)
set_option maxRecDepth 20000 in
theorem gX5_permutations_X5_in : GoodIn wsX5_permutations (va_wsS RX5 67 yX5_in wsX5_in) := goodIn_app (goodIn_of _ (by decide +kernel)) ggX5_permutations_X5_in
set_option maxRecDepth 20000 in
theorem ggX5_permutations_X5_countWays : GoodIn wsX5_permutations wsX5_countWays := goodIn_r _ [10, 2, 11, 12, 13, 14, 15, 16, 17, 18, 19, 20, 21, 22, 23, 24, 25, 26, 27, 28, 29, 30, 31] (by decide +kernel) (by decide +kernel)
set_option maxRecDepth 20000 in
theorem gX5_permutations_X5_countWays : GoodIn wsX5_permutations (wsV RX5 159 RX5 yX5_countWays wsX5_countWays) := goodIn_app (goodIn_of _ (by decide +kernel)) ggX5_permutations_X5_countWays
theorem dX5_permutations_0 : decode cX5_permutations 0 = .ok (.iload_n 1, 1) := by decide +kernel
theorem dX5_permutations_1 : decode cX5_permutations 1 = .ok (.i2l, 1) := by decide +kernel
theorem dX5_permutations_2 : decode cX5_permutations 2 = .ok (.lconst 1, 1) := by decide +kernel
theorem dX5_permutations_3 : decode cX5_permutations 3 = .ok (.ldc2_w 157, 3) := by decide +kernel
theorem dX5_permutations_6 : decode cX5_permutations 6 = .ok (.invokestatic 67, 3) := by decide +kernel
theorem dX5_permutations_9 : decode cX5_permutations 9 = .ok (.ifCond .ne 5, 3) := by decide +kernel
theorem dX5_permutations_12 : decode cX5_permutations 12 = .ok (.iconst (-1), 1) := by decide +kernel
theorem dX5_permutations_13 : decode cX5_permutations 13 = .ok (.ireturn, 1) := by decide +kernel
theorem dX5_permutations_14 : decode cX5_permutations 14 = .ok (.aload_n 0, 1) := by decide +kernel
theorem dX5_permutations_15 : decode cX5_permutations 15 = .ok (.iload_n 1, 1) := by decide +kernel
theorem dX5_permutations_16 : decode cX5_permutations 16 = .ok (.invokevirtual 159, 3) := by decide +kernel
theorem dX5_permutations_19 : decode cX5_permutations 19 = .ok (.aload_n 0, 1) := by decide +kernel
theorem dX5_permutations_20 : decode cX5_permutations 20 = .ok (.getfield 49, 3) := by decide +kernel
theorem dX5_permutations_23 : decode cX5_permutations 23 = .ok (.iconst 0, 1) := by decide +kernel
theorem dX5_permutations_24 : decode cX5_permutations 24 = .ok (.iaload, 1) := by decide +kernel
theorem dX5_permutations_25 : decode cX5_permutations 25 = .ok (.ireturn, 1) := by decide +kernel
set_option maxRecDepth 20000 in
theorem ggX5_permutation_X5_in : GoodIn wsX5_permutation wsX5_in := goodIn_r _ [6] (by decide +kernel) (by decide +kernel)
set_option maxRecDepth 20000 in
theorem gX5_permutation_X5_in : GoodIn wsX5_permutation (va_wsS RX5 67 yX5_in wsX5_in) := goodIn_app (goodIn_of _ (by decide +kernel)) ggX5_permutation_X5_in
set_option maxRecDepth 20000 in
theorem ggX5_permutation_X5_countWays : GoodIn wsX5_permutation wsX5_countWays := goodIn_r _ [10, 2, 11, 16, 17, 18, 19, 20, 21, 22, 23, 24, 25, 26, 27, 28, 29, 30, 31, 32, 33, 34, 35] (by decide +kernel) (by decide +kernel)
set_option maxRecDepth 20000 in
theorem gX5_permutation_X5_countWays : GoodIn wsX5_permutation (wsV RX5 159 RX5 yX5_countWays wsX5_countWays) := goodIn_app (goodIn_of _ (by decide +kernel)) ggX5_permutation_X5_countWays
set_option maxRecDepth 20000 in
theorem ggX5_permutation_X5_wayOn : GoodIn wsX5_permutation wsX5_wayOn := goodIn_r _ [15, 11, 2, 16, 17, 18, 19, 20, 21, 22, 23, 24, 25, 26, 27, 28, 29, 30, 31, 32, 33, 34, 35] (by decide +kernel) (by decide +kernel)
set_option maxRecDepth 20000 in
theorem gX5_permutation_X5_wayOn : GoodIn wsX5_permutation (wsV RX5 162 RX5 yX5_wayOn wsX5_wayOn) := goodIn_app (goodIn_of _ (by decide +kernel)) ggX5_permutation_X5_wayOn
theorem dX5_permutation_0 : decode cX5_permutation 0 = .ok (.iload_n 1, 1) := by decide +kernel
theorem dX5_permutation_1 : decode cX5_permutation 1 = .ok (.i2l, 1) := by decide +kernel
theorem dX5_permutation_2 : decode cX5_permutation 2 = .ok (.lconst 1, 1) := by decide +kernel
theorem dX5_permutation_3 : decode cX5_permutation 3 = .ok (.ldc2_w 157, 3) := by decide +kernel
theorem dX5_permutation_6 : decode cX5_permutation 6 = .ok (.invokestatic 67, 3) := by decide +kernel
theorem dX5_permutation_9 : decode cX5_permutation 9 = .ok (.ifCond .eq 16, 3) := by decide +kernel
theorem dX5_permutation_12 : decode cX5_permutation 12 = .ok (.iload_n 3, 1) := by decide +kernel
theorem dX5_permutation_13 : decode cX5_permutation 13 = .ok (.i2l, 1) := by decide +kernel
theorem dX5_permutation_14 : decode cX5_permutation 14 = .ok (.lconst 0, 1) := by decide +kernel
theorem dX5_permutation_15 : decode cX5_permutation 15 = .ok (.iload_n 1, 1) := by decide +kernel
theorem dX5_permutation_16 : decode cX5_permutation 16 = .ok (.iconst 1, 1) := by decide +kernel
theorem dX5_permutation_17 : decode cX5_permutation 17 = .ok (.isub, 1) := by decide +kernel
theorem dX5_permutation_18 : decode cX5_permutation 18 = .ok (.i2l, 1) := by decide +kernel
theorem dX5_permutation_19 : decode cX5_permutation 19 = .ok (.invokestatic 67, 3) := by decide +kernel
theorem dX5_permutation_22 : decode cX5_permutation 22 = .ok (.ifCond .ne 5, 3) := by decide +kernel
theorem dX5_permutation_25 : decode cX5_permutation 25 = .ok (.iconst (-1), 1) := by decide +kernel
theorem dX5_permutation_26 : decode cX5_permutation 26 = .ok (.ireturn, 1) := by decide +kernel
theorem dX5_permutation_27 : decode cX5_permutation 27 = .ok (.aload_n 0, 1) := by decide +kernel
theorem dX5_permutation_28 : decode cX5_permutation 28 = .ok (.iload_n 1, 1) := by decide +kernel
theorem dX5_permutation_29 : decode cX5_permutation 29 = .ok (.invokevirtual 159, 3) := by decide +kernel
theorem dX5_permutation_32 : decode cX5_permutation 32 = .ok (.iload_n 2, 1) := by decide +kernel
theorem dX5_permutation_33 : decode cX5_permutation 33 = .ok (.i2l, 1) := by decide +kernel
theorem dX5_permutation_34 : decode cX5_permutation 34 = .ok (.lconst 0, 1) := by decide +kernel
theorem dX5_permutation_35 : decode cX5_permutation 35 = .ok (.aload_n 0, 1) := by decide +kernel
theorem dX5_permutation_36 : decode cX5_permutation 36 = .ok (.getfield 49, 3) := by decide +kernel
theorem dX5_permutation_39 : decode cX5_permutation 39 = .ok (.iconst 0, 1) := by decide +kernel
theorem dX5_permutation_40 : decode cX5_permutation 40 = .ok (.iaload, 1) := by decide +kernel
theorem dX5_permutation_41 : decode cX5_permutation 41 = .ok (.iconst 1, 1) := by decide +kernel
theorem dX5_permutation_42 : decode cX5_permutation 42 = .ok (.isub, 1) := by decide +kernel
theorem dX5_permutation_43 : decode cX5_permutation 43 = .ok (.i2l, 1) := by decide +kernel
theorem dX5_permutation_44 : decode cX5_permutation 44 = .ok (.invokestatic 67, 3) := by decide +kernel
theorem dX5_permutation_47 : decode cX5_permutation 47 = .ok (.ifCond .ne 5, 3) := by decide +kernel
theorem dX5_permutation_50 : decode cX5_permutation 50 = .ok (.iconst (-1), 1) := by decide +kernel
theorem dX5_permutation_51 : decode cX5_permutation 51 = .ok (.ireturn, 1) := by decide +kernel
theorem dX5_permutation_52 : decode cX5_permutation 52 = .ok (.iconst 0, 1) := by decide +kernel
theorem dX5_permutation_53 : decode cX5_permutation 53 = .ok (.istore 4, 2) := by decide +kernel
theorem dX5_permutation_55 : decode cX5_permutation 55 = .ok (.iload_n 2, 1) := by decide +kernel
theorem dX5_permutation_56 : decode cX5_permutation 56 = .ok (.istore 5, 2) := by decide +kernel
theorem dX5_permutation_58 : decode cX5_permutation 58 = .ok (.iconst 0, 1) := by decide +kernel
theorem dX5_permutation_59 : decode cX5_permutation 59 = .ok (.istore 6, 2) := by decide +kernel
theorem dX5_permutation_61 : decode cX5_permutation 61 = .ok (.iconst 0, 1) := by decide +kernel
theorem dX5_permutation_62 : decode cX5_permutation 62 = .ok (.istore 7, 2) := by decide +kernel
theorem dX5_permutation_64 : decode cX5_permutation 64 = .ok (.iload 7, 2) := by decide +kernel
theorem dX5_permutation_66 : decode cX5_permutation 66 = .ok (.iload_n 3, 1) := by decide +kernel
theorem dX5_permutation_67 : decode cX5_permutation 67 = .ok (.if_icmp .gt 57, 3) := by decide +kernel
theorem dX5_permutation_70 : decode cX5_permutation 70 = .ok (.iconst 0, 1) := by decide +kernel
theorem dX5_permutation_71 : decode cX5_permutation 71 = .ok (.istore 6, 2) := by decide +kernel
theorem dX5_permutation_73 : decode cX5_permutation 73 = .ok (.iload 5, 2) := by decide +kernel
theorem dX5_permutation_75 : decode cX5_permutation 75 = .ok (.aload_n 0, 1) := by decide +kernel
theorem dX5_permutation_76 : decode cX5_permutation 76 = .ok (.iload 4, 2) := by decide +kernel
theorem dX5_permutation_78 : decode cX5_permutation 78 = .ok (.iload 7, 2) := by decide +kernel
theorem dX5_permutation_80 : decode cX5_permutation 80 = .ok (.iload 6, 2) := by decide +kernel
theorem dX5_permutation_82 : decode cX5_permutation 82 = .ok (.invokevirtual 162, 3) := by decide +kernel
theorem dX5_permutation_85 : decode cX5_permutation 85 = .ok (.if_icmp .lt 24, 3) := by decide +kernel
theorem dX5_permutation_88 : decode cX5_permutation 88 = .ok (.iload 5, 2) := by decide +kernel
theorem dX5_permutation_90 : decode cX5_permutation 90 = .ok (.aload_n 0, 1) := by decide +kernel
theorem dX5_permutation_91 : decode cX5_permutation 91 = .ok (.iload 4, 2) := by decide +kernel
theorem dX5_permutation_93 : decode cX5_permutation 93 = .ok (.iload 7, 2) := by decide +kernel
theorem dX5_permutation_95 : decode cX5_permutation 95 = .ok (.iload 6, 2) := by decide +kernel
theorem dX5_permutation_97 : decode cX5_permutation 97 = .ok (.invokevirtual 162, 3) := by decide +kernel
theorem dX5_permutation_100 : decode cX5_permutation 100 = .ok (.isub, 1) := by decide +kernel
theorem dX5_permutation_101 : decode cX5_permutation 101 = .ok (.istore 5, 2) := by decide +kernel
theorem dX5_permutation_103 : decode cX5_permutation 103 = .ok (.iinc 6 1, 3) := by decide +kernel
theorem dX5_permutation_106 : decode cX5_permutation 106 = .ok (.goto (-33), 3) := by decide +kernel
theorem dX5_permutation_109 : decode cX5_permutation 109 = .ok (.iload 4, 2) := by decide +kernel
theorem dX5_permutation_111 : decode cX5_permutation 111 = .ok (.iconst 1, 1) := by decide +kernel
theorem dX5_permutation_112 : decode cX5_permutation 112 = .ok (.iload 6, 2) := by decide +kernel
theorem dX5_permutation_114 : decode cX5_permutation 114 = .ok (.ishl, 1) := by decide +kernel
theorem dX5_permutation_115 : decode cX5_permutation 115 = .ok (.ior, 1) := by decide +kernel
theorem dX5_permutation_116 : decode cX5_permutation 116 = .ok (.istore 4, 2) := by decide +kernel
theorem dX5_permutation_118 : decode cX5_permutation 118 = .ok (.iinc 7 1, 3) := by decide +kernel
theorem dX5_permutation_121 : decode cX5_permutation 121 = .ok (.goto (-57), 3) := by decide +kernel
theorem dX5_permutation_124 : decode cX5_permutation 124 = .ok (.iload 6, 2) := by decide +kernel
theorem dX5_permutation_126 : decode cX5_permutation 126 = .ok (.ireturn, 1) := by decide +kernel
set_option maxRecDepth 20000 in
theorem ggX5_place_X5_in : GoodIn wsX5_place wsX5_in := goodIn_r _ [6] (by decide +kernel) (by decide +kernel)
set_option maxRecDepth 20000 in
theorem gX5_place_X5_in : GoodIn wsX5_place (va_wsS RX5 67 yX5_in wsX5_in) := goodIn_app (goodIn_of _ (by decide +kernel)) ggX5_place_X5_in
set_option maxRecDepth 20000 in
theorem ggX5_place_X5_countWays : GoodIn wsX5_place wsX5_countWays := goodIn_r _ [10, 11, 2, 16, 17, 18, 19, 20, 21, 22, 23, 24, 25, 26, 27, 28, 29, 30, 31, 32, 33, 34, 35] (by decide +kernel) (by decide +kernel)
set_option maxRecDepth 20000 in
theorem gX5_place_X5_countWays : GoodIn wsX5_place (wsV RX5 159 RX5 yX5_countWays wsX5_countWays) := goodIn_app (goodIn_of _ (by decide +kernel)) ggX5_place_X5_countWays
set_option maxRecDepth 20000 in
theorem ggX5_place_X5_wayOn : GoodIn wsX5_place wsX5_wayOn := goodIn_r _ [15, 2, 11, 16, 17, 18, 19, 20, 21, 22, 23, 24, 25, 26, 27, 28, 29, 30, 31, 32, 33, 34, 35] (by decide +kernel) (by decide +kernel)
set_option maxRecDepth 20000 in
theorem gX5_place_X5_wayOn : GoodIn wsX5_place (wsV RX5 162 RX5 yX5_wayOn wsX5_wayOn) := goodIn_app (goodIn_of _ (by decide +kernel)) ggX5_place_X5_wayOn
theorem dX5_place_0 : decode cX5_place 0 = .ok (.iload_n 1, 1) := by decide +kernel
theorem dX5_place_1 : decode cX5_place 1 = .ok (.i2l, 1) := by decide +kernel
theorem dX5_place_2 : decode cX5_place 2 = .ok (.lconst 1, 1) := by decide +kernel
theorem dX5_place_3 : decode cX5_place 3 = .ok (.ldc2_w 157, 3) := by decide +kernel
theorem dX5_place_6 : decode cX5_place 6 = .ok (.invokestatic 67, 3) := by decide +kernel
theorem dX5_place_9 : decode cX5_place 9 = .ok (.ifCond .ne 5, 3) := by decide +kernel
theorem dX5_place_12 : decode cX5_place 12 = .ok (.iconst (-1), 1) := by decide +kernel
theorem dX5_place_13 : decode cX5_place 13 = .ok (.ireturn, 1) := by decide +kernel
theorem dX5_place_14 : decode cX5_place 14 = .ok (.aload_n 0, 1) := by decide +kernel
theorem dX5_place_15 : decode cX5_place 15 = .ok (.iload_n 1, 1) := by decide +kernel
theorem dX5_place_16 : decode cX5_place 16 = .ok (.invokevirtual 159, 3) := by decide +kernel
theorem dX5_place_19 : decode cX5_place 19 = .ok (.iconst 0, 1) := by decide +kernel
theorem dX5_place_20 : decode cX5_place 20 = .ok (.istore_n 3, 1) := by decide +kernel
theorem dX5_place_21 : decode cX5_place 21 = .ok (.iconst 0, 1) := by decide +kernel
theorem dX5_place_22 : decode cX5_place 22 = .ok (.istore 4, 2) := by decide +kernel
theorem dX5_place_24 : decode cX5_place 24 = .ok (.iconst 0, 1) := by decide +kernel
theorem dX5_place_25 : decode cX5_place 25 = .ok (.istore 5, 2) := by decide +kernel
theorem dX5_place_27 : decode cX5_place 27 = .ok (.iload 5, 2) := by decide +kernel
theorem dX5_place_29 : decode cX5_place 29 = .ok (.iload_n 1, 1) := by decide +kernel
theorem dX5_place_30 : decode cX5_place 30 = .ok (.if_icmp .ge 92, 3) := by decide +kernel
theorem dX5_place_33 : decode cX5_place 33 = .ok (.iload_n 2, 1) := by decide +kernel
theorem dX5_place_34 : decode cX5_place 34 = .ok (.iconst 3, 1) := by decide +kernel
theorem dX5_place_35 : decode cX5_place 35 = .ok (.iload 5, 2) := by decide +kernel
theorem dX5_place_37 : decode cX5_place 37 = .ok (.imul, 1) := by decide +kernel
theorem dX5_place_38 : decode cX5_place 38 = .ok (.ishr, 1) := by decide +kernel
theorem dX5_place_39 : decode cX5_place 39 = .ok (.bipush 7, 2) := by decide +kernel
theorem dX5_place_41 : decode cX5_place 41 = .ok (.iand, 1) := by decide +kernel
theorem dX5_place_42 : decode cX5_place 42 = .ok (.istore 6, 2) := by decide +kernel
theorem dX5_place_44 : decode cX5_place 44 = .ok (.iload 6, 2) := by decide +kernel
theorem dX5_place_46 : decode cX5_place 46 = .ok (.iload_n 1, 1) := by decide +kernel
theorem dX5_place_47 : decode cX5_place 47 = .ok (.if_icmp .ge 29, 3) := by decide +kernel
theorem dX5_place_50 : decode cX5_place 50 = .ok (.iload_n 3, 1) := by decide +kernel
theorem dX5_place_51 : decode cX5_place 51 = .ok (.iload 6, 2) := by decide +kernel
theorem dX5_place_53 : decode cX5_place 53 = .ok (.ishr, 1) := by decide +kernel
theorem dX5_place_54 : decode cX5_place 54 = .ok (.iconst 1, 1) := by decide +kernel
theorem dX5_place_55 : decode cX5_place 55 = .ok (.iand, 1) := by decide +kernel
theorem dX5_place_56 : decode cX5_place 56 = .ok (.iconst 1, 1) := by decide +kernel
theorem dX5_place_57 : decode cX5_place 57 = .ok (.if_icmp .eq 19, 3) := by decide +kernel
theorem dX5_place_60 : decode cX5_place 60 = .ok (.aload_n 0, 1) := by decide +kernel
theorem dX5_place_61 : decode cX5_place 61 = .ok (.getfield 20, 3) := by decide +kernel
theorem dX5_place_64 : decode cX5_place 64 = .ok (.bipush 8, 2) := by decide +kernel
theorem dX5_place_66 : decode cX5_place 66 = .ok (.iload 5, 2) := by decide +kernel
theorem dX5_place_68 : decode cX5_place 68 = .ok (.imul, 1) := by decide +kernel
theorem dX5_place_69 : decode cX5_place 69 = .ok (.iload 6, 2) := by decide +kernel
theorem dX5_place_71 : decode cX5_place 71 = .ok (.iadd, 1) := by decide +kernel
theorem dX5_place_72 : decode cX5_place 72 = .ok (.baload, 1) := by decide +kernel
theorem dX5_place_73 : decode cX5_place 73 = .ok (.ifCond .ne 6, 3) := by decide +kernel
theorem dX5_place_76 : decode cX5_place 76 = .ok (.bipush (-2), 2) := by decide +kernel
theorem dX5_place_78 : decode cX5_place 78 = .ok (.ireturn, 1) := by decide +kernel
theorem dX5_place_79 : decode cX5_place 79 = .ok (.iconst 0, 1) := by decide +kernel
theorem dX5_place_80 : decode cX5_place 80 = .ok (.istore 7, 2) := by decide +kernel
theorem dX5_place_82 : decode cX5_place 82 = .ok (.iload 7, 2) := by decide +kernel
theorem dX5_place_84 : decode cX5_place 84 = .ok (.iload 6, 2) := by decide +kernel
theorem dX5_place_86 : decode cX5_place 86 = .ok (.if_icmp .ge 23, 3) := by decide +kernel
theorem dX5_place_89 : decode cX5_place 89 = .ok (.iload 4, 2) := by decide +kernel
theorem dX5_place_91 : decode cX5_place 91 = .ok (.aload_n 0, 1) := by decide +kernel
theorem dX5_place_92 : decode cX5_place 92 = .ok (.iload_n 3, 1) := by decide +kernel
theorem dX5_place_93 : decode cX5_place 93 = .ok (.iload 5, 2) := by decide +kernel
theorem dX5_place_95 : decode cX5_place 95 = .ok (.iload 7, 2) := by decide +kernel
theorem dX5_place_97 : decode cX5_place 97 = .ok (.invokevirtual 162, 3) := by decide +kernel
theorem dX5_place_100 : decode cX5_place 100 = .ok (.iadd, 1) := by decide +kernel
theorem dX5_place_101 : decode cX5_place 101 = .ok (.istore 4, 2) := by decide +kernel
theorem dX5_place_103 : decode cX5_place 103 = .ok (.iinc 7 1, 3) := by decide +kernel
theorem dX5_place_106 : decode cX5_place 106 = .ok (.goto (-24), 3) := by decide +kernel
theorem dX5_place_109 : decode cX5_place 109 = .ok (.iload_n 3, 1) := by decide +kernel
theorem dX5_place_110 : decode cX5_place 110 = .ok (.iconst 1, 1) := by decide +kernel
theorem dX5_place_111 : decode cX5_place 111 = .ok (.iload 6, 2) := by decide +kernel
theorem dX5_place_113 : decode cX5_place 113 = .ok (.ishl, 1) := by decide +kernel
theorem dX5_place_114 : decode cX5_place 114 = .ok (.ior, 1) := by decide +kernel
theorem dX5_place_115 : decode cX5_place 115 = .ok (.istore_n 3, 1) := by decide +kernel
theorem dX5_place_116 : decode cX5_place 116 = .ok (.iinc 5 1, 3) := by decide +kernel
theorem dX5_place_119 : decode cX5_place 119 = .ok (.goto (-92), 3) := by decide +kernel
theorem dX5_place_122 : decode cX5_place 122 = .ok (.iload 4, 2) := by decide +kernel
theorem dX5_place_124 : decode cX5_place 124 = .ok (.ireturn, 1) := by decide +kernel
set_option maxRecDepth 20000 in
theorem ggX5_things_X5_in : GoodIn wsX5_things wsX5_in := goodIn_r _ [7] (by decide +kernel) (by decide +kernel)
set_option maxRecDepth 20000 in
theorem gX5_things_X5_in : GoodIn wsX5_things (va_wsS RX5 67 yX5_in wsX5_in) := goodIn_app (goodIn_of _ (by decide +kernel)) ggX5_things_X5_in
theorem dX5_things_0 : decode cX5_things 0 = .ok (.iload_n 1, 1) := by decide +kernel
theorem dX5_things_1 : decode cX5_things 1 = .ok (.i2l, 1) := by decide +kernel
theorem dX5_things_2 : decode cX5_things 2 = .ok (.lconst 1, 1) := by decide +kernel
theorem dX5_things_3 : decode cX5_things 3 = .ok (.ldc2_w 165, 3) := by decide +kernel
theorem dX5_things_6 : decode cX5_things 6 = .ok (.invokestatic 67, 3) := by decide +kernel
theorem dX5_things_9 : decode cX5_things 9 = .ok (.ifCond .ne 5, 3) := by decide +kernel
theorem dX5_things_12 : decode cX5_things 12 = .ok (.iconst (-1), 1) := by decide +kernel
theorem dX5_things_13 : decode cX5_things 13 = .ok (.ireturn, 1) := by decide +kernel
theorem dX5_things_14 : decode cX5_things 14 = .ok (.aload_n 0, 1) := by decide +kernel
theorem dX5_things_15 : decode cX5_things 15 = .ok (.getfield 23, 3) := by decide +kernel
theorem dX5_things_18 : decode cX5_things 18 = .ok (.istore_n 2, 1) := by decide +kernel
theorem dX5_things_19 : decode cX5_things 19 = .ok (.aload_n 0, 1) := by decide +kernel
theorem dX5_things_20 : decode cX5_things 20 = .ok (.iload_n 1, 1) := by decide +kernel
theorem dX5_things_21 : decode cX5_things 21 = .ok (.putfield 23, 3) := by decide +kernel
theorem dX5_things_24 : decode cX5_things 24 = .ok (.iconst 0, 1) := by decide +kernel
theorem dX5_things_25 : decode cX5_things 25 = .ok (.istore_n 3, 1) := by decide +kernel
theorem dX5_things_26 : decode cX5_things 26 = .ok (.iload_n 3, 1) := by decide +kernel
theorem dX5_things_27 : decode cX5_things 27 = .ok (.iload_n 1, 1) := by decide +kernel
theorem dX5_things_28 : decode cX5_things 28 = .ok (.if_icmp .ge 16, 3) := by decide +kernel
theorem dX5_things_31 : decode cX5_things 31 = .ok (.aload_n 0, 1) := by decide +kernel
theorem dX5_things_32 : decode cX5_things 32 = .ok (.getfield 27, 3) := by decide +kernel
theorem dX5_things_35 : decode cX5_things 35 = .ok (.iload_n 3, 1) := by decide +kernel
theorem dX5_things_36 : decode cX5_things 36 = .ok (.iconst 1, 1) := by decide +kernel
theorem dX5_things_37 : decode cX5_things 37 = .ok (.iastore, 1) := by decide +kernel
theorem dX5_things_38 : decode cX5_things 38 = .ok (.iinc 3 1, 3) := by decide +kernel
theorem dX5_things_41 : decode cX5_things 41 = .ok (.goto (-15), 3) := by decide +kernel
theorem dX5_things_44 : decode cX5_things 44 = .ok (.iload_n 2, 1) := by decide +kernel
theorem dX5_things_45 : decode cX5_things 45 = .ok (.ireturn, 1) := by decide +kernel
set_option maxRecDepth 20000 in
theorem ggX5_isThing_X5_in : GoodIn wsX5_isThing wsX5_in := goodIn_r _ [5] (by decide +kernel) (by decide +kernel)
set_option maxRecDepth 20000 in
theorem gX5_isThing_X5_in : GoodIn wsX5_isThing (va_wsS RX5 67 yX5_in wsX5_in) := goodIn_app (goodIn_of _ (by decide +kernel)) ggX5_isThing_X5_in
theorem dX5_isThing_0 : decode cX5_isThing 0 = .ok (.iload_n 1, 1) := by decide +kernel
theorem dX5_isThing_1 : decode cX5_isThing 1 = .ok (.i2l, 1) := by decide +kernel
theorem dX5_isThing_2 : decode cX5_isThing 2 = .ok (.lconst 0, 1) := by decide +kernel
theorem dX5_isThing_3 : decode cX5_isThing 3 = .ok (.aload_n 0, 1) := by decide +kernel
theorem dX5_isThing_4 : decode cX5_isThing 4 = .ok (.getfield 23, 3) := by decide +kernel
theorem dX5_isThing_7 : decode cX5_isThing 7 = .ok (.iconst 1, 1) := by decide +kernel
theorem dX5_isThing_8 : decode cX5_isThing 8 = .ok (.isub, 1) := by decide +kernel
theorem dX5_isThing_9 : decode cX5_isThing 9 = .ok (.i2l, 1) := by decide +kernel
theorem dX5_isThing_10 : decode cX5_isThing 10 = .ok (.invokestatic 67, 3) := by decide +kernel
theorem dX5_isThing_13 : decode cX5_isThing 13 = .ok (.ireturn, 1) := by decide +kernel
set_option maxRecDepth 20000 in
theorem ggX5_weight_X5_isThing : GoodIn wsX5_weight wsX5_isThing := goodIn_r _ [7, 8, 9, 10, 6, 11, 12, 13, 14, 15, 16, 17, 18, 19, 20, 21, 22, 23, 24, 25, 26, 27, 28, 29, 30, 31] (by decide +kernel) (by decide +kernel)
set_option maxRecDepth 20000 in
theorem gX5_weight_X5_isThing : GoodIn wsX5_weight (wsV RX5 167 RX5 yX5_isThing wsX5_isThing) := goodIn_app (goodIn_of _ (by decide +kernel)) ggX5_weight_X5_isThing
set_option maxRecDepth 20000 in
theorem ggX5_weight_X5_in : GoodIn wsX5_weight wsX5_in := goodIn_r _ [11] (by decide +kernel) (by decide +kernel)
set_option maxRecDepth 20000 in
theorem gX5_weight_X5_in : GoodIn wsX5_weight (va_wsS RX5 67 yX5_in wsX5_in) := goodIn_app (goodIn_of _ (by decide +kernel)) ggX5_weight_X5_in
theorem dX5_weight_0 : decode cX5_weight 0 = .ok (.aload_n 0, 1) := by decide +kernel
theorem dX5_weight_1 : decode cX5_weight 1 = .ok (.iload_n 1, 1) := by decide +kernel
theorem dX5_weight_2 : decode cX5_weight 2 = .ok (.invokevirtual 167, 3) := by decide +kernel
theorem dX5_weight_5 : decode cX5_weight 5 = .ok (.ifCond .eq 15, 3) := by decide +kernel
theorem dX5_weight_8 : decode cX5_weight 8 = .ok (.iload_n 2, 1) := by decide +kernel
theorem dX5_weight_9 : decode cX5_weight 9 = .ok (.i2l, 1) := by decide +kernel
theorem dX5_weight_10 : decode cX5_weight 10 = .ok (.lconst 0, 1) := by decide +kernel
theorem dX5_weight_11 : decode cX5_weight 11 = .ok (.ldc2_w 170, 3) := by decide +kernel
theorem dX5_weight_14 : decode cX5_weight 14 = .ok (.invokestatic 67, 3) := by decide +kernel
theorem dX5_weight_17 : decode cX5_weight 17 = .ok (.ifCond .ne 5, 3) := by decide +kernel
theorem dX5_weight_20 : decode cX5_weight 20 = .ok (.iconst (-1), 1) := by decide +kernel
theorem dX5_weight_21 : decode cX5_weight 21 = .ok (.ireturn, 1) := by decide +kernel
theorem dX5_weight_22 : decode cX5_weight 22 = .ok (.aload_n 0, 1) := by decide +kernel
theorem dX5_weight_23 : decode cX5_weight 23 = .ok (.getfield 27, 3) := by decide +kernel
theorem dX5_weight_26 : decode cX5_weight 26 = .ok (.iload_n 1, 1) := by decide +kernel
theorem dX5_weight_27 : decode cX5_weight 27 = .ok (.iaload, 1) := by decide +kernel
theorem dX5_weight_28 : decode cX5_weight 28 = .ok (.istore_n 3, 1) := by decide +kernel
theorem dX5_weight_29 : decode cX5_weight 29 = .ok (.aload_n 0, 1) := by decide +kernel
theorem dX5_weight_30 : decode cX5_weight 30 = .ok (.getfield 27, 3) := by decide +kernel
theorem dX5_weight_33 : decode cX5_weight 33 = .ok (.iload_n 1, 1) := by decide +kernel
theorem dX5_weight_34 : decode cX5_weight 34 = .ok (.iload_n 2, 1) := by decide +kernel
theorem dX5_weight_35 : decode cX5_weight 35 = .ok (.iastore, 1) := by decide +kernel
theorem dX5_weight_36 : decode cX5_weight 36 = .ok (.iload_n 3, 1) := by decide +kernel
theorem dX5_weight_37 : decode cX5_weight 37 = .ok (.ireturn, 1) := by decide +kernel
theorem dX5_sum_0 : decode cX5_sum 0 = .ok (.iconst 0, 1) := by decide +kernel
theorem dX5_sum_1 : decode cX5_sum 1 = .ok (.istore_n 1, 1) := by decide +kernel
theorem dX5_sum_2 : decode cX5_sum 2 = .ok (.iconst 0, 1) := by decide +kernel
theorem dX5_sum_3 : decode cX5_sum 3 = .ok (.istore_n 2, 1) := by decide +kernel
theorem dX5_sum_4 : decode cX5_sum 4 = .ok (.iload_n 2, 1) := by decide +kernel
theorem dX5_sum_5 : decode cX5_sum 5 = .ok (.aload_n 0, 1) := by decide +kernel
theorem dX5_sum_6 : decode cX5_sum 6 = .ok (.getfield 23, 3) := by decide +kernel
theorem dX5_sum_9 : decode cX5_sum 9 = .ok (.if_icmp .ge 18, 3) := by decide +kernel
theorem dX5_sum_12 : decode cX5_sum 12 = .ok (.iload_n 1, 1) := by decide +kernel
theorem dX5_sum_13 : decode cX5_sum 13 = .ok (.aload_n 0, 1) := by decide +kernel
theorem dX5_sum_14 : decode cX5_sum 14 = .ok (.getfield 27, 3) := by decide +kernel
theorem dX5_sum_17 : decode cX5_sum 17 = .ok (.iload_n 2, 1) := by decide +kernel
theorem dX5_sum_18 : decode cX5_sum 18 = .ok (.iaload, 1) := by decide +kernel
theorem dX5_sum_19 : decode cX5_sum 19 = .ok (.iadd, 1) := by decide +kernel
theorem dX5_sum_20 : decode cX5_sum 20 = .ok (.istore_n 1, 1) := by decide +kernel
theorem dX5_sum_21 : decode cX5_sum 21 = .ok (.iinc 2 1, 3) := by decide +kernel
theorem dX5_sum_24 : decode cX5_sum 24 = .ok (.goto (-20), 3) := by decide +kernel
theorem dX5_sum_27 : decode cX5_sum 27 = .ok (.iload_n 1, 1) := by decide +kernel
theorem dX5_sum_28 : decode cX5_sum 28 = .ok (.ireturn, 1) := by decide +kernel
set_option maxRecDepth 20000 in
theorem ggX5_make_X5_sum : GoodIn wsX5_make wsX5_sum := goodIn_r _ [11, 1, 3, 16, 17, 18, 19, 20, 21, 22, 23, 24, 25, 26, 27, 28, 29, 30, 31, 32, 33, 34, 35] (by decide +kernel) (by decide +kernel)
set_option maxRecDepth 20000 in
theorem gX5_make_X5_sum : GoodIn wsX5_make (wsV RX5 172 RX5 yX5_sum wsX5_sum) := goodIn_app (goodIn_of _ (by decide +kernel)) ggX5_make_X5_sum
set_option maxRecDepth 20000 in
theorem ggX5_make_X5_first : GoodIn wsX5_make wsX5_first := goodIn_r _ [15, 1, 4, 2, 16, 17, 18, 19, 20, 21, 22, 23, 24, 25, 26, 27, 28, 29, 30, 31, 32, 33, 34, 35] (by decide +kernel) (by decide +kernel)
set_option maxRecDepth 20000 in
theorem gX5_make_X5_first : GoodIn wsX5_make (wsV RX5 176 RX5 yX5_first wsX5_first) := goodIn_app (goodIn_of _ (by decide +kernel)) ggX5_make_X5_first
theorem dX5_make_0 : decode cX5_make 0 = .ok (.aload_n 0, 1) := by decide +kernel
theorem dX5_make_1 : decode cX5_make 1 = .ok (.invokevirtual 172, 3) := by decide +kernel
theorem dX5_make_4 : decode cX5_make 4 = .ok (.istore_n 1, 1) := by decide +kernel
theorem dX5_make_5 : decode cX5_make 5 = .ok (.iconst 0, 1) := by decide +kernel
theorem dX5_make_6 : decode cX5_make 6 = .ok (.istore_n 2, 1) := by decide +kernel
theorem dX5_make_7 : decode cX5_make 7 = .ok (.iload_n 2, 1) := by decide +kernel
theorem dX5_make_8 : decode cX5_make 8 = .ok (.aload_n 0, 1) := by decide +kernel
theorem dX5_make_9 : decode cX5_make 9 = .ok (.getfield 23, 3) := by decide +kernel
theorem dX5_make_12 : decode cX5_make 12 = .ok (.if_icmp .ge 47, 3) := by decide +kernel
theorem dX5_make_15 : decode cX5_make 15 = .ok (.aload_n 0, 1) := by decide +kernel
theorem dX5_make_16 : decode cX5_make 16 = .ok (.getfield 58, 3) := by decide +kernel
theorem dX5_make_19 : decode cX5_make 19 = .ok (.iload_n 2, 1) := by decide +kernel
theorem dX5_make_20 : decode cX5_make 20 = .ok (.aload_n 0, 1) := by decide +kernel
theorem dX5_make_21 : decode cX5_make 21 = .ok (.getfield 23, 3) := by decide +kernel
theorem dX5_make_24 : decode cX5_make 24 = .ok (.aload_n 0, 1) := by decide +kernel
theorem dX5_make_25 : decode cX5_make 25 = .ok (.getfield 27, 3) := by decide +kernel
theorem dX5_make_28 : decode cX5_make 28 = .ok (.iload_n 2, 1) := by decide +kernel
theorem dX5_make_29 : decode cX5_make 29 = .ok (.iaload, 1) := by decide +kernel
theorem dX5_make_30 : decode cX5_make 30 = .ok (.imul, 1) := by decide +kernel
theorem dX5_make_31 : decode cX5_make 31 = .ok (.iastore, 1) := by decide +kernel
theorem dX5_make_32 : decode cX5_make 32 = .ok (.aload_n 0, 1) := by decide +kernel
theorem dX5_make_33 : decode cX5_make 33 = .ok (.getfield 61, 3) := by decide +kernel
theorem dX5_make_36 : decode cX5_make 36 = .ok (.iload_n 2, 1) := by decide +kernel
theorem dX5_make_37 : decode cX5_make 37 = .ok (.iconst 0, 1) := by decide +kernel
theorem dX5_make_38 : decode cX5_make 38 = .ok (.bastore, 1) := by decide +kernel
theorem dX5_make_39 : decode cX5_make 39 = .ok (.aload_n 0, 1) := by decide +kernel
theorem dX5_make_40 : decode cX5_make 40 = .ok (.getfield 52, 3) := by decide +kernel
theorem dX5_make_43 : decode cX5_make 43 = .ok (.iload_n 2, 1) := by decide +kernel
theorem dX5_make_44 : decode cX5_make 44 = .ok (.iload_n 1, 1) := by decide +kernel
theorem dX5_make_45 : decode cX5_make 45 = .ok (.iastore, 1) := by decide +kernel
theorem dX5_make_46 : decode cX5_make 46 = .ok (.aload_n 0, 1) := by decide +kernel
theorem dX5_make_47 : decode cX5_make 47 = .ok (.getfield 55, 3) := by decide +kernel
theorem dX5_make_50 : decode cX5_make 50 = .ok (.iload_n 2, 1) := by decide +kernel
theorem dX5_make_51 : decode cX5_make 51 = .ok (.iload_n 2, 1) := by decide +kernel
theorem dX5_make_52 : decode cX5_make 52 = .ok (.iastore, 1) := by decide +kernel
theorem dX5_make_53 : decode cX5_make 53 = .ok (.iinc 2 1, 3) := by decide +kernel
theorem dX5_make_56 : decode cX5_make 56 = .ok (.goto (-49), 3) := by decide +kernel
theorem dX5_make_59 : decode cX5_make 59 = .ok (.aload_n 0, 1) := by decide +kernel
theorem dX5_make_60 : decode cX5_make 60 = .ok (.iload_n 1, 1) := by decide +kernel
theorem dX5_make_61 : decode cX5_make 61 = .ok (.iconst 1, 1) := by decide +kernel
theorem dX5_make_62 : decode cX5_make 62 = .ok (.invokevirtual 176, 3) := by decide +kernel
theorem dX5_make_65 : decode cX5_make 65 = .ok (.istore_n 2, 1) := by decide +kernel
theorem dX5_make_66 : decode cX5_make 66 = .ok (.iload_n 2, 1) := by decide +kernel
theorem dX5_make_67 : decode cX5_make 67 = .ok (.ifCond .lt 63, 3) := by decide +kernel
theorem dX5_make_70 : decode cX5_make 70 = .ok (.aload_n 0, 1) := by decide +kernel
theorem dX5_make_71 : decode cX5_make 71 = .ok (.getfield 61, 3) := by decide +kernel
theorem dX5_make_74 : decode cX5_make 74 = .ok (.iload_n 2, 1) := by decide +kernel
theorem dX5_make_75 : decode cX5_make 75 = .ok (.iconst 1, 1) := by decide +kernel
theorem dX5_make_76 : decode cX5_make 76 = .ok (.bastore, 1) := by decide +kernel
theorem dX5_make_77 : decode cX5_make 77 = .ok (.aload_n 0, 1) := by decide +kernel
theorem dX5_make_78 : decode cX5_make 78 = .ok (.iload_n 1, 1) := by decide +kernel
theorem dX5_make_79 : decode cX5_make 79 = .ok (.iconst 0, 1) := by decide +kernel
theorem dX5_make_80 : decode cX5_make 80 = .ok (.invokevirtual 176, 3) := by decide +kernel
theorem dX5_make_83 : decode cX5_make 83 = .ok (.istore_n 3, 1) := by decide +kernel
theorem dX5_make_84 : decode cX5_make 84 = .ok (.aload_n 0, 1) := by decide +kernel
theorem dX5_make_85 : decode cX5_make 85 = .ok (.getfield 52, 3) := by decide +kernel
theorem dX5_make_88 : decode cX5_make 88 = .ok (.iload_n 2, 1) := by decide +kernel
theorem dX5_make_89 : decode cX5_make 89 = .ok (.aload_n 0, 1) := by decide +kernel
theorem dX5_make_90 : decode cX5_make 90 = .ok (.getfield 58, 3) := by decide +kernel
theorem dX5_make_93 : decode cX5_make 93 = .ok (.iload_n 2, 1) := by decide +kernel
theorem dX5_make_94 : decode cX5_make 94 = .ok (.iaload, 1) := by decide +kernel
theorem dX5_make_95 : decode cX5_make 95 = .ok (.iastore, 1) := by decide +kernel
theorem dX5_make_96 : decode cX5_make 96 = .ok (.aload_n 0, 1) := by decide +kernel
theorem dX5_make_97 : decode cX5_make 97 = .ok (.getfield 55, 3) := by decide +kernel
theorem dX5_make_100 : decode cX5_make 100 = .ok (.iload_n 2, 1) := by decide +kernel
theorem dX5_make_101 : decode cX5_make 101 = .ok (.iload_n 3, 1) := by decide +kernel
theorem dX5_make_102 : decode cX5_make 102 = .ok (.iastore, 1) := by decide +kernel
theorem dX5_make_103 : decode cX5_make 103 = .ok (.aload_n 0, 1) := by decide +kernel
theorem dX5_make_104 : decode cX5_make 104 = .ok (.getfield 58, 3) := by decide +kernel
theorem dX5_make_107 : decode cX5_make 107 = .ok (.iload_n 3, 1) := by decide +kernel
theorem dX5_make_108 : decode cX5_make 108 = .ok (.dup2, 1) := by decide +kernel
theorem dX5_make_109 : decode cX5_make 109 = .ok (.iaload, 1) := by decide +kernel
theorem dX5_make_110 : decode cX5_make 110 = .ok (.iload_n 1, 1) := by decide +kernel
theorem dX5_make_111 : decode cX5_make 111 = .ok (.aload_n 0, 1) := by decide +kernel
theorem dX5_make_112 : decode cX5_make 112 = .ok (.getfield 52, 3) := by decide +kernel
theorem dX5_make_115 : decode cX5_make 115 = .ok (.iload_n 2, 1) := by decide +kernel
theorem dX5_make_116 : decode cX5_make 116 = .ok (.iaload, 1) := by decide +kernel
theorem dX5_make_117 : decode cX5_make 117 = .ok (.isub, 1) := by decide +kernel
theorem dX5_make_118 : decode cX5_make 118 = .ok (.isub, 1) := by decide +kernel
theorem dX5_make_119 : decode cX5_make 119 = .ok (.iastore, 1) := by decide +kernel
theorem dX5_make_120 : decode cX5_make 120 = .ok (.aload_n 0, 1) := by decide +kernel
theorem dX5_make_121 : decode cX5_make 121 = .ok (.iload_n 1, 1) := by decide +kernel
theorem dX5_make_122 : decode cX5_make 122 = .ok (.iconst 1, 1) := by decide +kernel
theorem dX5_make_123 : decode cX5_make 123 = .ok (.invokevirtual 176, 3) := by decide +kernel
theorem dX5_make_126 : decode cX5_make 126 = .ok (.istore_n 2, 1) := by decide +kernel
theorem dX5_make_127 : decode cX5_make 127 = .ok (.goto (-61), 3) := by decide +kernel
theorem dX5_make_130 : decode cX5_make 130 = .ok (.return_, 1) := by decide +kernel
theorem dX5_first_0 : decode cX5_first 0 = .ok (.iconst 0, 1) := by decide +kernel
theorem dX5_first_1 : decode cX5_first 1 = .ok (.istore_n 3, 1) := by decide +kernel
theorem dX5_first_2 : decode cX5_first 2 = .ok (.iload_n 3, 1) := by decide +kernel
theorem dX5_first_3 : decode cX5_first 3 = .ok (.aload_n 0, 1) := by decide +kernel
theorem dX5_first_4 : decode cX5_first 4 = .ok (.getfield 23, 3) := by decide +kernel
theorem dX5_first_7 : decode cX5_first 7 = .ok (.if_icmp .ge 47, 3) := by decide +kernel
theorem dX5_first_10 : decode cX5_first 10 = .ok (.aload_n 0, 1) := by decide +kernel
theorem dX5_first_11 : decode cX5_first 11 = .ok (.getfield 61, 3) := by decide +kernel
theorem dX5_first_14 : decode cX5_first 14 = .ok (.iload_n 3, 1) := by decide +kernel
theorem dX5_first_15 : decode cX5_first 15 = .ok (.baload, 1) := by decide +kernel
theorem dX5_first_16 : decode cX5_first 16 = .ok (.ifCond .ne 32, 3) := by decide +kernel
theorem dX5_first_19 : decode cX5_first 19 = .ok (.iload_n 2, 1) := by decide +kernel
theorem dX5_first_20 : decode cX5_first 20 = .ok (.ifCond .eq 16, 3) := by decide +kernel
theorem dX5_first_23 : decode cX5_first 23 = .ok (.aload_n 0, 1) := by decide +kernel
theorem dX5_first_24 : decode cX5_first 24 = .ok (.getfield 58, 3) := by decide +kernel
theorem dX5_first_27 : decode cX5_first 27 = .ok (.iload_n 3, 1) := by decide +kernel
theorem dX5_first_28 : decode cX5_first 28 = .ok (.iaload, 1) := by decide +kernel
theorem dX5_first_29 : decode cX5_first 29 = .ok (.iload_n 1, 1) := by decide +kernel
theorem dX5_first_30 : decode cX5_first 30 = .ok (.if_icmp .ge 18, 3) := by decide +kernel
theorem dX5_first_33 : decode cX5_first 33 = .ok (.goto 13, 3) := by decide +kernel
theorem dX5_first_36 : decode cX5_first 36 = .ok (.aload_n 0, 1) := by decide +kernel
theorem dX5_first_37 : decode cX5_first 37 = .ok (.getfield 58, 3) := by decide +kernel
theorem dX5_first_40 : decode cX5_first 40 = .ok (.iload_n 3, 1) := by decide +kernel
theorem dX5_first_41 : decode cX5_first 41 = .ok (.iaload, 1) := by decide +kernel
theorem dX5_first_42 : decode cX5_first 42 = .ok (.iload_n 1, 1) := by decide +kernel
theorem dX5_first_43 : decode cX5_first 43 = .ok (.if_icmp .le 5, 3) := by decide +kernel
theorem dX5_first_46 : decode cX5_first 46 = .ok (.iload_n 3, 1) := by decide +kernel
theorem dX5_first_47 : decode cX5_first 47 = .ok (.ireturn, 1) := by decide +kernel
theorem dX5_first_48 : decode cX5_first 48 = .ok (.iinc 3 1, 3) := by decide +kernel
theorem dX5_first_51 : decode cX5_first 51 = .ok (.goto (-49), 3) := by decide +kernel
theorem dX5_first_54 : decode cX5_first 54 = .ok (.bipush (-2), 2) := by decide +kernel
theorem dX5_first_56 : decode cX5_first 56 = .ok (.ireturn, 1) := by decide +kernel
set_option maxRecDepth 20000 in
theorem ggX5_cell_X5_isThing : GoodIn wsX5_cell wsX5_isThing := goodIn_r _ [8, 9, 10, 11, 7, 12, 28, 29, 30, 31, 32, 33, 34, 35, 36, 37, 38, 39, 40, 41, 42, 43, 44, 45, 46, 47] (by decide +kernel) (by decide +kernel)
set_option maxRecDepth 20000 in
theorem gX5_cell_X5_isThing : GoodIn wsX5_cell (wsV RX5 167 RX5 yX5_isThing wsX5_isThing) := goodIn_app (goodIn_of _ (by decide +kernel)) ggX5_cell_X5_isThing
set_option maxRecDepth 20000 in
theorem ggX5_cell_X5_in : GoodIn wsX5_cell wsX5_in := goodIn_r _ [12] (by decide +kernel) (by decide +kernel)
set_option maxRecDepth 20000 in
theorem gX5_cell_X5_in : GoodIn wsX5_cell (va_wsS RX5 67 yX5_in wsX5_in) := goodIn_app (goodIn_of _ (by decide +kernel)) ggX5_cell_X5_in
set_option maxRecDepth 20000 in
theorem ggX5_cell_X5_sum : GoodIn wsX5_cell wsX5_sum := goodIn_r _ [16, 9, 17, 28, 29, 30, 31, 32, 33, 34, 35, 36, 37, 38, 39, 40, 41, 42, 43, 44, 45, 46, 47] (by decide +kernel) (by decide +kernel)
set_option maxRecDepth 20000 in
theorem gX5_cell_X5_sum : GoodIn wsX5_cell (wsV RX5 172 RX5 yX5_sum wsX5_sum) := goodIn_app (goodIn_of _ (by decide +kernel)) ggX5_cell_X5_sum
set_option maxRecDepth 20000 in
theorem ggX5_cell_X5_make : GoodIn wsX5_cell wsX5_make := goodIn_r _ [21, 9, 22, 17, 23, 2, 3, 13, 14, 15, 7, 16, 24, 25, 26, 27, 28, 29, 30, 31, 32, 33, 34, 35, 36, 37, 38, 39, 40, 41, 42, 43, 44, 45, 46, 47] (by decide +kernel) (by decide +kernel)
set_option maxRecDepth 20000 in
theorem gX5_cell_X5_make : GoodIn wsX5_cell (wsV RX5 182 RX5 yX5_make wsX5_make) := goodIn_app (goodIn_of _ (by decide +kernel)) ggX5_cell_X5_make
theorem dX5_cell_0 : decode cX5_cell 0 = .ok (.aload_n 0, 1) := by decide +kernel
theorem dX5_cell_1 : decode cX5_cell 1 = .ok (.iload_n 1, 1) := by decide +kernel
theorem dX5_cell_2 : decode cX5_cell 2 = .ok (.invokevirtual 167, 3) := by decide +kernel
theorem dX5_cell_5 : decode cX5_cell 5 = .ok (.ifCond .eq 15, 3) := by decide +kernel
theorem dX5_cell_8 : decode cX5_cell 8 = .ok (.iload_n 2, 1) := by decide +kernel
theorem dX5_cell_9 : decode cX5_cell 9 = .ok (.i2l, 1) := by decide +kernel
theorem dX5_cell_10 : decode cX5_cell 10 = .ok (.lconst 0, 1) := by decide +kernel
theorem dX5_cell_11 : decode cX5_cell 11 = .ok (.ldc2_w 180, 3) := by decide +kernel
theorem dX5_cell_14 : decode cX5_cell 14 = .ok (.invokestatic 67, 3) := by decide +kernel
theorem dX5_cell_17 : decode cX5_cell 17 = .ok (.ifCond .ne 5, 3) := by decide +kernel
theorem dX5_cell_20 : decode cX5_cell 20 = .ok (.iconst (-1), 1) := by decide +kernel
theorem dX5_cell_21 : decode cX5_cell 21 = .ok (.ireturn, 1) := by decide +kernel
theorem dX5_cell_22 : decode cX5_cell 22 = .ok (.aload_n 0, 1) := by decide +kernel
theorem dX5_cell_23 : decode cX5_cell 23 = .ok (.invokevirtual 172, 3) := by decide +kernel
theorem dX5_cell_26 : decode cX5_cell 26 = .ok (.ifCond .ne 6, 3) := by decide +kernel
theorem dX5_cell_29 : decode cX5_cell 29 = .ok (.bipush (-2), 2) := by decide +kernel
theorem dX5_cell_31 : decode cX5_cell 31 = .ok (.ireturn, 1) := by decide +kernel
theorem dX5_cell_32 : decode cX5_cell 32 = .ok (.aload_n 0, 1) := by decide +kernel
theorem dX5_cell_33 : decode cX5_cell 33 = .ok (.invokevirtual 182, 3) := by decide +kernel
theorem dX5_cell_36 : decode cX5_cell 36 = .ok (.iload_n 2, 1) := by decide +kernel
theorem dX5_cell_37 : decode cX5_cell 37 = .ok (.ifCond .ne 12, 3) := by decide +kernel
theorem dX5_cell_40 : decode cX5_cell 40 = .ok (.aload_n 0, 1) := by decide +kernel
theorem dX5_cell_41 : decode cX5_cell 41 = .ok (.getfield 52, 3) := by decide +kernel
theorem dX5_cell_44 : decode cX5_cell 44 = .ok (.iload_n 1, 1) := by decide +kernel
theorem dX5_cell_45 : decode cX5_cell 45 = .ok (.iaload, 1) := by decide +kernel
theorem dX5_cell_46 : decode cX5_cell 46 = .ok (.goto 21, 3) := by decide +kernel
theorem dX5_cell_49 : decode cX5_cell 49 = .ok (.iload_n 2, 1) := by decide +kernel
theorem dX5_cell_50 : decode cX5_cell 50 = .ok (.iconst 1, 1) := by decide +kernel
theorem dX5_cell_51 : decode cX5_cell 51 = .ok (.if_icmp .ne 12, 3) := by decide +kernel
theorem dX5_cell_54 : decode cX5_cell 54 = .ok (.aload_n 0, 1) := by decide +kernel
theorem dX5_cell_55 : decode cX5_cell 55 = .ok (.getfield 55, 3) := by decide +kernel
theorem dX5_cell_58 : decode cX5_cell 58 = .ok (.iload_n 1, 1) := by decide +kernel
theorem dX5_cell_59 : decode cX5_cell 59 = .ok (.iaload, 1) := by decide +kernel
theorem dX5_cell_60 : decode cX5_cell 60 = .ok (.goto 7, 3) := by decide +kernel
theorem dX5_cell_63 : decode cX5_cell 63 = .ok (.aload_n 0, 1) := by decide +kernel
theorem dX5_cell_64 : decode cX5_cell 64 = .ok (.invokevirtual 172, 3) := by decide +kernel
theorem dX5_cell_67 : decode cX5_cell 67 = .ok (.ireturn, 1) := by decide +kernel
set_option maxRecDepth 20000 in
theorem ggX5_tell_X5_sum : GoodIn wsX5_tell wsX5_sum := goodIn_r _ [8, 1, 9, 23, 24, 25, 26, 27, 28, 29, 30, 31, 32, 33, 34, 35, 36, 37, 38, 39, 40, 41, 42] (by decide +kernel) (by decide +kernel)
set_option maxRecDepth 20000 in
theorem gX5_tell_X5_sum : GoodIn wsX5_tell (wsV RX5 172 RX5 yX5_sum wsX5_sum) := goodIn_app (goodIn_of _ (by decide +kernel)) ggX5_tell_X5_sum
set_option maxRecDepth 20000 in
theorem ggX5_tell_X5_in : GoodIn wsX5_tell wsX5_in := goodIn_r _ [12] (by decide +kernel) (by decide +kernel)
set_option maxRecDepth 20000 in
theorem gX5_tell_X5_in : GoodIn wsX5_tell (va_wsS RX5 67 yX5_in wsX5_in) := goodIn_app (goodIn_of _ (by decide +kernel)) ggX5_tell_X5_in
set_option maxRecDepth 20000 in
theorem ggX5_tell_X5_make : GoodIn wsX5_tell wsX5_make := goodIn_r _ [16, 1, 17, 9, 18, 2, 3, 4, 5, 6, 7, 8, 19, 20, 21, 22, 23, 24, 25, 26, 27, 28, 29, 30, 31, 32, 33, 34, 35, 36, 37, 38, 39, 40, 41, 42] (by decide +kernel) (by decide +kernel)
set_option maxRecDepth 20000 in
theorem gX5_tell_X5_make : GoodIn wsX5_tell (wsV RX5 182 RX5 yX5_make wsX5_make) := goodIn_app (goodIn_of _ (by decide +kernel)) ggX5_tell_X5_make
theorem dX5_tell_0 : decode cX5_tell 0 = .ok (.aload_n 0, 1) := by decide +kernel
theorem dX5_tell_1 : decode cX5_tell 1 = .ok (.invokevirtual 172, 3) := by decide +kernel
theorem dX5_tell_4 : decode cX5_tell 4 = .ok (.istore_n 2, 1) := by decide +kernel
theorem dX5_tell_5 : decode cX5_tell 5 = .ok (.iload_n 2, 1) := by decide +kernel
theorem dX5_tell_6 : decode cX5_tell 6 = .ok (.ifCond .ne 6, 3) := by decide +kernel
theorem dX5_tell_9 : decode cX5_tell 9 = .ok (.bipush (-2), 2) := by decide +kernel
theorem dX5_tell_11 : decode cX5_tell 11 = .ok (.ireturn, 1) := by decide +kernel
theorem dX5_tell_12 : decode cX5_tell 12 = .ok (.iload_n 1, 1) := by decide +kernel
theorem dX5_tell_13 : decode cX5_tell 13 = .ok (.i2l, 1) := by decide +kernel
theorem dX5_tell_14 : decode cX5_tell 14 = .ok (.lconst 0, 1) := by decide +kernel
theorem dX5_tell_15 : decode cX5_tell 15 = .ok (.aload_n 0, 1) := by decide +kernel
theorem dX5_tell_16 : decode cX5_tell 16 = .ok (.getfield 23, 3) := by decide +kernel
theorem dX5_tell_19 : decode cX5_tell 19 = .ok (.iload_n 2, 1) := by decide +kernel
theorem dX5_tell_20 : decode cX5_tell 20 = .ok (.imul, 1) := by decide +kernel
theorem dX5_tell_21 : decode cX5_tell 21 = .ok (.iconst 1, 1) := by decide +kernel
theorem dX5_tell_22 : decode cX5_tell 22 = .ok (.isub, 1) := by decide +kernel
theorem dX5_tell_23 : decode cX5_tell 23 = .ok (.i2l, 1) := by decide +kernel
theorem dX5_tell_24 : decode cX5_tell 24 = .ok (.invokestatic 67, 3) := by decide +kernel
theorem dX5_tell_27 : decode cX5_tell 27 = .ok (.ifCond .ne 5, 3) := by decide +kernel
theorem dX5_tell_30 : decode cX5_tell 30 = .ok (.iconst (-1), 1) := by decide +kernel
theorem dX5_tell_31 : decode cX5_tell 31 = .ok (.ireturn, 1) := by decide +kernel
theorem dX5_tell_32 : decode cX5_tell 32 = .ok (.aload_n 0, 1) := by decide +kernel
theorem dX5_tell_33 : decode cX5_tell 33 = .ok (.invokevirtual 182, 3) := by decide +kernel
theorem dX5_tell_36 : decode cX5_tell 36 = .ok (.iload_n 1, 1) := by decide +kernel
theorem dX5_tell_37 : decode cX5_tell 37 = .ok (.iload_n 2, 1) := by decide +kernel
theorem dX5_tell_38 : decode cX5_tell 38 = .ok (.irem, 1) := by decide +kernel
theorem dX5_tell_39 : decode cX5_tell 39 = .ok (.aload_n 0, 1) := by decide +kernel
theorem dX5_tell_40 : decode cX5_tell 40 = .ok (.getfield 52, 3) := by decide +kernel
theorem dX5_tell_43 : decode cX5_tell 43 = .ok (.iload_n 1, 1) := by decide +kernel
theorem dX5_tell_44 : decode cX5_tell 44 = .ok (.iload_n 2, 1) := by decide +kernel
theorem dX5_tell_45 : decode cX5_tell 45 = .ok (.idiv, 1) := by decide +kernel
theorem dX5_tell_46 : decode cX5_tell 46 = .ok (.iaload, 1) := by decide +kernel
theorem dX5_tell_47 : decode cX5_tell 47 = .ok (.if_icmp .ge 9, 3) := by decide +kernel
theorem dX5_tell_50 : decode cX5_tell 50 = .ok (.iload_n 1, 1) := by decide +kernel
theorem dX5_tell_51 : decode cX5_tell 51 = .ok (.iload_n 2, 1) := by decide +kernel
theorem dX5_tell_52 : decode cX5_tell 52 = .ok (.idiv, 1) := by decide +kernel
theorem dX5_tell_53 : decode cX5_tell 53 = .ok (.goto 11, 3) := by decide +kernel
theorem dX5_tell_56 : decode cX5_tell 56 = .ok (.aload_n 0, 1) := by decide +kernel
theorem dX5_tell_57 : decode cX5_tell 57 = .ok (.getfield 55, 3) := by decide +kernel
theorem dX5_tell_60 : decode cX5_tell 60 = .ok (.iload_n 1, 1) := by decide +kernel
theorem dX5_tell_61 : decode cX5_tell 61 = .ok (.iload_n 2, 1) := by decide +kernel
theorem dX5_tell_62 : decode cX5_tell 62 = .ok (.idiv, 1) := by decide +kernel
theorem dX5_tell_63 : decode cX5_tell 63 = .ok (.iaload, 1) := by decide +kernel
theorem dX5_tell_64 : decode cX5_tell 64 = .ok (.ireturn, 1) := by decide +kernel
theorem dJ6_bitCount_0f7a4_0 : decode cJ6_bitCount_0f7a4 0 = .ok (.iload_n 0, 1) := by decide +kernel
theorem dJ6_bitCount_0f7a4_1 : decode cJ6_bitCount_0f7a4 1 = .ok (.iload_n 0, 1) := by decide +kernel
theorem dJ6_bitCount_0f7a4_2 : decode cJ6_bitCount_0f7a4 2 = .ok (.iconst 1, 1) := by decide +kernel
theorem dJ6_bitCount_0f7a4_3 : decode cJ6_bitCount_0f7a4 3 = .ok (.iushr, 1) := by decide +kernel
theorem dJ6_bitCount_0f7a4_4 : decode cJ6_bitCount_0f7a4 4 = .ok (.ldc_w 265, 3) := by decide +kernel
theorem dJ6_bitCount_0f7a4_7 : decode cJ6_bitCount_0f7a4 7 = .ok (.iand, 1) := by decide +kernel
theorem dJ6_bitCount_0f7a4_8 : decode cJ6_bitCount_0f7a4 8 = .ok (.isub, 1) := by decide +kernel
theorem dJ6_bitCount_0f7a4_9 : decode cJ6_bitCount_0f7a4 9 = .ok (.istore_n 0, 1) := by decide +kernel
theorem dJ6_bitCount_0f7a4_10 : decode cJ6_bitCount_0f7a4 10 = .ok (.iload_n 0, 1) := by decide +kernel
theorem dJ6_bitCount_0f7a4_11 : decode cJ6_bitCount_0f7a4 11 = .ok (.ldc_w 266, 3) := by decide +kernel
theorem dJ6_bitCount_0f7a4_14 : decode cJ6_bitCount_0f7a4 14 = .ok (.iand, 1) := by decide +kernel
theorem dJ6_bitCount_0f7a4_15 : decode cJ6_bitCount_0f7a4 15 = .ok (.iload_n 0, 1) := by decide +kernel
theorem dJ6_bitCount_0f7a4_16 : decode cJ6_bitCount_0f7a4 16 = .ok (.iconst 2, 1) := by decide +kernel
theorem dJ6_bitCount_0f7a4_17 : decode cJ6_bitCount_0f7a4 17 = .ok (.iushr, 1) := by decide +kernel
theorem dJ6_bitCount_0f7a4_18 : decode cJ6_bitCount_0f7a4 18 = .ok (.ldc_w 266, 3) := by decide +kernel
theorem dJ6_bitCount_0f7a4_21 : decode cJ6_bitCount_0f7a4 21 = .ok (.iand, 1) := by decide +kernel
theorem dJ6_bitCount_0f7a4_22 : decode cJ6_bitCount_0f7a4 22 = .ok (.iadd, 1) := by decide +kernel
theorem dJ6_bitCount_0f7a4_23 : decode cJ6_bitCount_0f7a4 23 = .ok (.istore_n 0, 1) := by decide +kernel
theorem dJ6_bitCount_0f7a4_24 : decode cJ6_bitCount_0f7a4 24 = .ok (.iload_n 0, 1) := by decide +kernel
theorem dJ6_bitCount_0f7a4_25 : decode cJ6_bitCount_0f7a4 25 = .ok (.iload_n 0, 1) := by decide +kernel
theorem dJ6_bitCount_0f7a4_26 : decode cJ6_bitCount_0f7a4 26 = .ok (.iconst 4, 1) := by decide +kernel
theorem dJ6_bitCount_0f7a4_27 : decode cJ6_bitCount_0f7a4 27 = .ok (.iushr, 1) := by decide +kernel
theorem dJ6_bitCount_0f7a4_28 : decode cJ6_bitCount_0f7a4 28 = .ok (.iadd, 1) := by decide +kernel
theorem dJ6_bitCount_0f7a4_29 : decode cJ6_bitCount_0f7a4 29 = .ok (.ldc_w 267, 3) := by decide +kernel
theorem dJ6_bitCount_0f7a4_32 : decode cJ6_bitCount_0f7a4 32 = .ok (.iand, 1) := by decide +kernel
theorem dJ6_bitCount_0f7a4_33 : decode cJ6_bitCount_0f7a4 33 = .ok (.istore_n 0, 1) := by decide +kernel
theorem dJ6_bitCount_0f7a4_34 : decode cJ6_bitCount_0f7a4 34 = .ok (.iload_n 0, 1) := by decide +kernel
theorem dJ6_bitCount_0f7a4_35 : decode cJ6_bitCount_0f7a4 35 = .ok (.iload_n 0, 1) := by decide +kernel
theorem dJ6_bitCount_0f7a4_36 : decode cJ6_bitCount_0f7a4 36 = .ok (.bipush 8, 2) := by decide +kernel
theorem dJ6_bitCount_0f7a4_38 : decode cJ6_bitCount_0f7a4 38 = .ok (.iushr, 1) := by decide +kernel
theorem dJ6_bitCount_0f7a4_39 : decode cJ6_bitCount_0f7a4 39 = .ok (.iadd, 1) := by decide +kernel
theorem dJ6_bitCount_0f7a4_40 : decode cJ6_bitCount_0f7a4 40 = .ok (.istore_n 0, 1) := by decide +kernel
theorem dJ6_bitCount_0f7a4_41 : decode cJ6_bitCount_0f7a4 41 = .ok (.iload_n 0, 1) := by decide +kernel
theorem dJ6_bitCount_0f7a4_42 : decode cJ6_bitCount_0f7a4 42 = .ok (.iload_n 0, 1) := by decide +kernel
theorem dJ6_bitCount_0f7a4_43 : decode cJ6_bitCount_0f7a4 43 = .ok (.bipush 16, 2) := by decide +kernel
theorem dJ6_bitCount_0f7a4_45 : decode cJ6_bitCount_0f7a4 45 = .ok (.iushr, 1) := by decide +kernel
theorem dJ6_bitCount_0f7a4_46 : decode cJ6_bitCount_0f7a4 46 = .ok (.iadd, 1) := by decide +kernel
theorem dJ6_bitCount_0f7a4_47 : decode cJ6_bitCount_0f7a4 47 = .ok (.istore_n 0, 1) := by decide +kernel
theorem dJ6_bitCount_0f7a4_48 : decode cJ6_bitCount_0f7a4 48 = .ok (.iload_n 0, 1) := by decide +kernel
theorem dJ6_bitCount_0f7a4_49 : decode cJ6_bitCount_0f7a4 49 = .ok (.bipush 63, 2) := by decide +kernel
theorem dJ6_bitCount_0f7a4_51 : decode cJ6_bitCount_0f7a4 51 = .ok (.iand, 1) := by decide +kernel
theorem dJ6_bitCount_0f7a4_52 : decode cJ6_bitCount_0f7a4 52 = .ok (.ireturn, 1) := by decide +kernel
theorem dJ9_floorDiv_7cf53_0 : decode cJ9_floorDiv_7cf53 0 = .ok (.iload_n 0, 1) := by decide +kernel
theorem dJ9_floorDiv_7cf53_1 : decode cJ9_floorDiv_7cf53 1 = .ok (.iload_n 1, 1) := by decide +kernel
theorem dJ9_floorDiv_7cf53_2 : decode cJ9_floorDiv_7cf53 2 = .ok (.idiv, 1) := by decide +kernel
theorem dJ9_floorDiv_7cf53_3 : decode cJ9_floorDiv_7cf53 3 = .ok (.istore_n 2, 1) := by decide +kernel
theorem dJ9_floorDiv_7cf53_4 : decode cJ9_floorDiv_7cf53 4 = .ok (.iload_n 0, 1) := by decide +kernel
theorem dJ9_floorDiv_7cf53_5 : decode cJ9_floorDiv_7cf53 5 = .ok (.iload_n 1, 1) := by decide +kernel
theorem dJ9_floorDiv_7cf53_6 : decode cJ9_floorDiv_7cf53 6 = .ok (.ixor, 1) := by decide +kernel
theorem dJ9_floorDiv_7cf53_7 : decode cJ9_floorDiv_7cf53 7 = .ok (.ifCond .ge 14, 3) := by decide +kernel
theorem dJ9_floorDiv_7cf53_10 : decode cJ9_floorDiv_7cf53 10 = .ok (.iload_n 2, 1) := by decide +kernel
theorem dJ9_floorDiv_7cf53_11 : decode cJ9_floorDiv_7cf53 11 = .ok (.iload_n 1, 1) := by decide +kernel
theorem dJ9_floorDiv_7cf53_12 : decode cJ9_floorDiv_7cf53 12 = .ok (.imul, 1) := by decide +kernel
theorem dJ9_floorDiv_7cf53_13 : decode cJ9_floorDiv_7cf53 13 = .ok (.iload_n 0, 1) := by decide +kernel
theorem dJ9_floorDiv_7cf53_14 : decode cJ9_floorDiv_7cf53 14 = .ok (.if_icmp .eq 7, 3) := by decide +kernel
theorem dJ9_floorDiv_7cf53_17 : decode cJ9_floorDiv_7cf53 17 = .ok (.iload_n 2, 1) := by decide +kernel
theorem dJ9_floorDiv_7cf53_18 : decode cJ9_floorDiv_7cf53 18 = .ok (.iconst 1, 1) := by decide +kernel
theorem dJ9_floorDiv_7cf53_19 : decode cJ9_floorDiv_7cf53 19 = .ok (.isub, 1) := by decide +kernel
theorem dJ9_floorDiv_7cf53_20 : decode cJ9_floorDiv_7cf53 20 = .ok (.ireturn, 1) := by decide +kernel
theorem dJ9_floorDiv_7cf53_21 : decode cJ9_floorDiv_7cf53 21 = .ok (.iload_n 2, 1) := by decide +kernel
theorem dJ9_floorDiv_7cf53_22 : decode cJ9_floorDiv_7cf53 22 = .ok (.ireturn, 1) := by decide +kernel
theorem dJ9_max_7cf53_0 : decode cJ9_max_7cf53 0 = .ok (.iload_n 0, 1) := by decide +kernel
theorem dJ9_max_7cf53_1 : decode cJ9_max_7cf53 1 = .ok (.iload_n 1, 1) := by decide +kernel
theorem dJ9_max_7cf53_2 : decode cJ9_max_7cf53 2 = .ok (.if_icmp .lt 7, 3) := by decide +kernel
theorem dJ9_max_7cf53_5 : decode cJ9_max_7cf53 5 = .ok (.iload_n 0, 1) := by decide +kernel
theorem dJ9_max_7cf53_6 : decode cJ9_max_7cf53 6 = .ok (.goto 4, 3) := by decide +kernel
theorem dJ9_max_7cf53_9 : decode cJ9_max_7cf53 9 = .ok (.iload_n 1, 1) := by decide +kernel
theorem dJ9_max_7cf53_10 : decode cJ9_max_7cf53 10 = .ok (.ireturn, 1) := by decide +kernel
theorem dJ9_min_7cf53_0 : decode cJ9_min_7cf53 0 = .ok (.iload_n 0, 1) := by decide +kernel
theorem dJ9_min_7cf53_1 : decode cJ9_min_7cf53 1 = .ok (.iload_n 1, 1) := by decide +kernel
theorem dJ9_min_7cf53_2 : decode cJ9_min_7cf53 2 = .ok (.if_icmp .gt 7, 3) := by decide +kernel
theorem dJ9_min_7cf53_5 : decode cJ9_min_7cf53 5 = .ok (.iload_n 0, 1) := by decide +kernel
theorem dJ9_min_7cf53_6 : decode cJ9_min_7cf53 6 = .ok (.goto 4, 3) := by decide +kernel
theorem dJ9_min_7cf53_9 : decode cJ9_min_7cf53 9 = .ok (.iload_n 1, 1) := by decide +kernel
theorem dJ9_min_7cf53_10 : decode cJ9_min_7cf53 10 = .ok (.ireturn, 1) := by decide +kernel
theorem dJ7_fill_d0a16_0 : decode cJ7_fill_d0a16 0 = .ok (.iconst 0, 1) := by decide +kernel
theorem dJ7_fill_d0a16_1 : decode cJ7_fill_d0a16 1 = .ok (.istore_n 3, 1) := by decide +kernel
theorem dJ7_fill_d0a16_2 : decode cJ7_fill_d0a16 2 = .ok (.aload_n 0, 1) := by decide +kernel
theorem dJ7_fill_d0a16_3 : decode cJ7_fill_d0a16 3 = .ok (.arraylength, 1) := by decide +kernel
theorem dJ7_fill_d0a16_4 : decode cJ7_fill_d0a16 4 = .ok (.istore 4, 2) := by decide +kernel
theorem dJ7_fill_d0a16_6 : decode cJ7_fill_d0a16 6 = .ok (.iload_n 3, 1) := by decide +kernel
theorem dJ7_fill_d0a16_7 : decode cJ7_fill_d0a16 7 = .ok (.iload 4, 2) := by decide +kernel
theorem dJ7_fill_d0a16_9 : decode cJ7_fill_d0a16 9 = .ok (.if_icmp .ge 13, 3) := by decide +kernel
theorem dJ7_fill_d0a16_12 : decode cJ7_fill_d0a16 12 = .ok (.aload_n 0, 1) := by decide +kernel
theorem dJ7_fill_d0a16_13 : decode cJ7_fill_d0a16 13 = .ok (.iload_n 3, 1) := by decide +kernel
theorem dJ7_fill_d0a16_14 : decode cJ7_fill_d0a16 14 = .ok (.lload_n 1, 1) := by decide +kernel
theorem dJ7_fill_d0a16_15 : decode cJ7_fill_d0a16 15 = .ok (.lastore, 1) := by decide +kernel
theorem dJ7_fill_d0a16_16 : decode cJ7_fill_d0a16 16 = .ok (.iinc 3 1, 3) := by decide +kernel
theorem dJ7_fill_d0a16_19 : decode cJ7_fill_d0a16 19 = .ok (.goto (-13), 3) := by decide +kernel
theorem dJ7_fill_d0a16_22 : decode cJ7_fill_d0a16 22 = .ok (.return_, 1) := by decide +kernel
theorem dJ7_fill_53178_0 : decode cJ7_fill_53178 0 = .ok (.iconst 0, 1) := by decide +kernel
theorem dJ7_fill_53178_1 : decode cJ7_fill_53178 1 = .ok (.istore_n 2, 1) := by decide +kernel
theorem dJ7_fill_53178_2 : decode cJ7_fill_53178 2 = .ok (.aload_n 0, 1) := by decide +kernel
theorem dJ7_fill_53178_3 : decode cJ7_fill_53178 3 = .ok (.arraylength, 1) := by decide +kernel
theorem dJ7_fill_53178_4 : decode cJ7_fill_53178 4 = .ok (.istore_n 3, 1) := by decide +kernel
theorem dJ7_fill_53178_5 : decode cJ7_fill_53178 5 = .ok (.iload_n 2, 1) := by decide +kernel
theorem dJ7_fill_53178_6 : decode cJ7_fill_53178 6 = .ok (.iload_n 3, 1) := by decide +kernel
theorem dJ7_fill_53178_7 : decode cJ7_fill_53178 7 = .ok (.if_icmp .ge 13, 3) := by decide +kernel
theorem dJ7_fill_53178_10 : decode cJ7_fill_53178 10 = .ok (.aload_n 0, 1) := by decide +kernel
theorem dJ7_fill_53178_11 : decode cJ7_fill_53178 11 = .ok (.iload_n 2, 1) := by decide +kernel
theorem dJ7_fill_53178_12 : decode cJ7_fill_53178 12 = .ok (.iload_n 1, 1) := by decide +kernel
theorem dJ7_fill_53178_13 : decode cJ7_fill_53178 13 = .ok (.iastore, 1) := by decide +kernel
theorem dJ7_fill_53178_14 : decode cJ7_fill_53178 14 = .ok (.iinc 2 1, 3) := by decide +kernel
theorem dJ7_fill_53178_17 : decode cJ7_fill_53178 17 = .ok (.goto (-12), 3) := by decide +kernel
theorem dJ7_fill_53178_20 : decode cJ7_fill_53178 20 = .ok (.return_, 1) := by decide +kernel
theorem dL_cell_0 : decode cL_cell 0 = .ok (.iload_n 1, 1) := by decide +kernel
theorem dL_cell_1 : decode cL_cell 1 = .ok (.aload_n 0, 1) := by decide +kernel
theorem dL_cell_2 : decode cL_cell 2 = .ok (.arraylength, 1) := by decide +kernel
theorem dL_cell_3 : decode cL_cell 3 = .ok (.if_icmp .ge 9, 3) := by decide +kernel
theorem dL_cell_6 : decode cL_cell 6 = .ok (.aload_n 0, 1) := by decide +kernel
theorem dL_cell_7 : decode cL_cell 7 = .ok (.iload_n 1, 1) := by decide +kernel
theorem dL_cell_8 : decode cL_cell 8 = .ok (.iaload, 1) := by decide +kernel
theorem dL_cell_9 : decode cL_cell 9 = .ok (.goto 4, 3) := by decide +kernel
theorem dL_cell_12 : decode cL_cell 12 = .ok (.iconst 0, 1) := by decide +kernel
theorem dL_cell_13 : decode cL_cell 13 = .ok (.ireturn, 1) := by decide +kernel
end
section
/-! the world of one object: its cells by number; ints, longs and fields by number and place -/
abbrev pw_C : Type := (Nat → Nat → Int32) × (Nat → Nat → Int64) × (Nat → List Value)
def pw_E (cy : Nat → ClassId) (Ad : Nat → Nat) (sh : Nat → Nat × Nat × Nat) (C : pw_C) (k : Nat) : Option va_E :=
  if (sh k).1 = 1 then some (.inl (cy 0, (sh k).2.1, .inl (C.1 k)))
  else if (sh k).1 = 2 then some (.inl (cy 1, (sh k).2.1, .inr (.inl (C.2.1 k))))
  else if (sh k).1 = 3 then some (.inl (cy 2, (sh k).2.1, .inl (C.1 k)))
  else if (sh k).1 = 4 then some (.inl (cy 3, (sh k).2.1, .inr (.inr (.inr (.inr (fun i => some (Ad ((sh k).2.2 + i))))))))
  else if (sh k).1 = 5 then some (.inl (cy 4, (sh k).2.1, .inr (.inr (.inr (.inr (fun i => some (Ad ((sh k).2.2 + i))))))))
  else if (sh k).1 = 6 then some (.inr ((sh k).2.1, C.2.2 k))
  else none
def pw_P (D : va_G) (cy : Nat → ClassId) (Ad : Nat → Nat) (sh : Nat → Nat × Nat × Nat) (C : pw_C) (H : Heap) : Prop := ∀ (k : Nat) (e : va_E), pw_E cy Ad sh C k = some e → va_at D vwCl (Ad k, e) H
def pw_L (sh : Nat → Nat × Nat × Nat) (k : Nat) : Prop := 1 ≤ (sh k).1 ∧ (sh k).1 ≤ 6
def pw_I (Ad : Nat → Nat) (sh : Nat → Nat × Nat × Nat) : Prop := ∀ j k : Nat, pw_L sh j → pw_L sh k → Ad j = Ad k → j = k
def pw_fr (Ad : Nat → Nat) (sh : Nat → Nat × Nat × Nat) : Nat → Prop := fun q => ∃ k : Nat, pw_L sh k ∧ q = Ad k
def pw_tys (cy : Nat → ClassId) : List (ClassId × FieldType) := [(cy 0, .int), (cy 1, .long), (cy 2, .boolean), (cy 3, .array .int), (cy 4, .array .long)]
def pw_nest : Cond := .methodLinkNest RX0 38 yX4_signAt "PastDraws"
def pw_K (D : va_G) (cy : Nat → ClassId) (U : State) : Prop := va_K D vwCl (pw_tys cy) U ∧ va_Nw pw_nest U
def pw_Pre (av : List Value) (D : va_G) (cy : Nat → ClassId) (Ad : Nat → Nat) (sh : Nat → Nat × Nat × Nat) (C : pw_C) : Array Value → State → Prop := fun v U => v = av.toArray ∧ pw_P D cy Ad sh C U.heap ∧ pw_K D cy U
def pw_Post (Rel : Option Value → pw_C → Prop) (D : va_G) (cy : Nat → ClassId) (Ad : Nat → Nat) (sh : Nat → Nat × Nat × Nat) : Array Value → State → Outcome → State → Prop := fun _ st o t => (∃ (r : Option Value) (C' : pw_C), o = .returned r ∧ Rel r C' ∧ pw_P D cy Ad sh C' t.heap) ∧ va_F (pw_fr Ad sh) st t
def pw_setI (C : pw_C) (k i : Nat) (x : Int32) : pw_C := (fun j => if j = k then upd (C.1 k) i x else C.1 j, C.2)
def pw_setL (C : pw_C) (k i : Nat) (x : Int64) : pw_C := (C.1, fun j => if j = k then vp_updL (C.2.1 k) i x else C.2.1 j, C.2.2)
def pw_setF (C : pw_C) (k : Nat) (fs : List Value) : pw_C := (C.1, C.2.1, fun j => if j = k then fs else C.2.2 j)
/-- a truth as an int -/
def pb (b : Bool) : Int32 := if b then 1 else 0
section PW1
variable {D : va_G} {cy : Nat → ClassId} {Ad : Nat → Nat} {sh : Nat → Nat × Nat × Nat} {C : pw_C} {H H1 : Heap} {k : Nat}
theorem pw_E_L {e : va_E} (h : pw_E cy Ad sh C k = some e) : pw_L sh k := by
  unfold pw_E at h
  unfold pw_L
  repeat' (split at h)
  all_goals first | omega | cases h
theorem pw_one {q : Nat × va_E} (h : va_at D vwCl q H) : va_P D vwCl [q] H := fun j x hx => by
  cases j with
  | zero => simp at hx; subst hx; exact h
  | succ j => simp at hx
theorem pw_store {e0 e1 : va_E} (hP : pw_P D cy Ad sh C H) (hI : pw_I Ad sh) (h0 : pw_E cy Ad sh C k = some e0) (C' : pw_C) (h1 : pw_E cy Ad sh C' k = some e1) (hne : ∀ j, j ≠ k → pw_E cy Ad sh C' j = pw_E cy Ad sh C j) (he : va_at D vwCl (Ad k, e1) H1) (oq : ∀ q : Nat, q ≠ Ad k → H1[q]? = H[q]?) : pw_P D cy Ad sh C' H1 := by
  intro j e hj
  by_cases hjk : j = k
  · subst hjk
    rw [h1] at hj
    cases hj
    exact he
  · rw [hne j hjk] at hj
    exact (hP j e hj).kept (oq _ (fun h => hjk (hI j k (pw_E_L hj) (pw_E_L h0) h)))
theorem pw_K.moved {u U : State} (hW : u.WarmedH U.vm) (h : pw_K D cy u) : pw_K D cy U := ⟨va_K.moved hW.alike h.1, va_Nw.warmM hW h.2⟩
theorem pw_blind {av : List Value} : FrameBlind (pw_Pre av D cy Ad sh C) := fun a U g mk h => ⟨h.1, h.2.1, va_K.moved (u := U) (U := U.calling g mk a) (Vm.Alike.refl U.vm) h.2.2.1, va_Nw.same rfl rfl h.2.2.2⟩
theorem pw_kept {fr : Nat → Prop} (hP : pw_P D cy Ad sh C H) (hk : ∀ q : Nat, q < H.size → ¬ fr q → H1[q]? = H[q]?) (hd : ∀ k, pw_L sh k → ¬ fr (Ad k)) : pw_P D cy Ad sh C H1 := fun j e hj => (hP j e hj).kept (hk _ (hP j e hj).lt (hd j (pw_E_L hj)))
end PW1
section PW2
variable {p : Program} {l : Launch} {e : Env} {R : Room} {s : State} {m : MethodId} {args : Array Value} {below : List Frame} {meth : Method} {c : Code} {H : Heap} {locs : List Loc} {cells slots : Nat} {Q : State → Prop}
variable {cc : ByteArray} {pc : Nat} {ls : Array Slot} {rest : List Value} {D : va_G} {cy : Nat → ClassId} {Ad : Nat → Nat} {sh : Nat → Nat × Nat × Nat} {C : pw_C} {H0 : Heap}
theorem pw_top {x y : Value} (h : x = y) (kk : W p l e R s m args below meth c H locs cells slots Q (F0 m pc ls (y :: rest))) : W p l e R s m args below meth c H locs cells slots Q (F0 m pc ls (x :: rest)) := by
  subst h; exact kk
theorem pw_topi {x y : Int32} (h : x = y) (kk : W p l e R s m args below meth c H locs cells slots Q (F0 m pc ls (.int y :: rest))) : W p l e R s m args below meth c H locs cells slots Q (F0 m pc ls (.int x :: rest)) := by
  subst h; exact kk
theorem pw_topl {x y : Int64} (h : x = y) (kk : W p l e R s m args below meth c H locs cells slots Q (F0 m pc ls (.long y :: rest))) : W p l e R s m args below meth c H locs cells slots Q (F0 m pc ls (.long x :: rest)) := by
  subst h; exact kk
theorem pw_iald (hexec : p.tables.exec = Jvm.exec) (hb : c.code = cc) (hK : pw_K D cy s) (hP : pw_P D cy Ad sh C H) (k : Nat) {len b : Nat} (hs : sh k = (1, len, b)) {i : Nat} (hi : i < len) (hl : len < 2 ^ 31) {v : Int32} (hv : C.1 k i = v) (hdg : decode cc pc = .ok (.iaload, 1))
    (kk : W p l e R s m args below meth c H locs cells slots Q (F0 m (pc + 1) ls (.int v :: rest))) : W p l e R s m args below meth c H locs cells slots Q (F0 m pc ls (.int (nI i) :: .ref (Ad k) :: rest)) := by
  have h1 : va_P D vwCl [(Ad k, .inl (cy 0, len, .inl (C.1 k)))] H := pw_one (hP k _ (by simp [pw_E, hs]))
  refine va_iald hexec hb hK.1 h1 0 0 rfl rfl (vp_in_nI hi hl) hdg ?_
  rw [nI_clamp (by omega), hv]
  exact kk
theorem pw_zald (hexec : p.tables.exec = Jvm.exec) (hb : c.code = cc) (hK : pw_K D cy s) (hP : pw_P D cy Ad sh C H) (k : Nat) {len b : Nat} (hs : sh k = (3, len, b)) {i : Nat} (hi : i < len) (hl : len < 2 ^ 31) {v : Int32} (hv : C.1 k i = v) (hdg : decode cc pc = .ok (.baload, 1))
    (kk : W p l e R s m args below meth c H locs cells slots Q (F0 m (pc + 1) ls (.int v :: rest))) : W p l e R s m args below meth c H locs cells slots Q (F0 m pc ls (.int (nI i) :: .ref (Ad k) :: rest)) := by
  have h1 : va_P D vwCl [(Ad k, .inl (cy 2, len, .inl (C.1 k)))] H := pw_one (hP k _ (by simp [pw_E, hs]))
  refine va_zald hexec hb hK.1 h1 0 2 rfl rfl (vp_in_nI hi hl) hdg ?_
  rw [nI_clamp (by omega), hv]
  exact kk
theorem pw_lald (hexec : p.tables.exec = Jvm.exec) (hb : c.code = cc) (hK : pw_K D cy s) (hP : pw_P D cy Ad sh C H) (k : Nat) {len b : Nat} (hs : sh k = (2, len, b)) {i : Nat} (hi : i < len) (hl : len < 2 ^ 31) {v : Int64} (hv : C.2.1 k i = v) (hdg : decode cc pc = .ok (.laload, 1))
    (kk : W p l e R s m args below meth c H locs cells slots Q (F0 m (pc + 1) ls (.long v :: rest))) : W p l e R s m args below meth c H locs cells slots Q (F0 m pc ls (.int (nI i) :: .ref (Ad k) :: rest)) := by
  have h1 : va_P D vwCl [(Ad k, .inl (cy 1, len, .inr (.inl (C.2.1 k))))] H := pw_one (hP k _ (by simp [pw_E, hs]))
  refine va_lald hexec hb hK.1 h1 0 1 rfl rfl (vp_in_nI hi hl) hdg ?_
  rw [nI_clamp (by omega), hv]
  exact kk
theorem pw_aald4 (hexec : p.tables.exec = Jvm.exec) (hb : c.code = cc) (hK : pw_K D cy s) (hP : pw_P D cy Ad sh C H) (k : Nat) {len b : Nat} (hs : sh k = (4, len, b)) {i : Nat} (hi : i < len) (hl : len < 2 ^ 31) (hdg : decode cc pc = .ok (.aaload, 1))
    (kk : W p l e R s m args below meth c H locs cells slots Q (F0 m (pc + 1) ls (.ref (Ad (b + i)) :: rest))) : W p l e R s m args below meth c H locs cells slots Q (F0 m pc ls (.int (nI i) :: .ref (Ad k) :: rest)) := by
  have h1 : va_P D vwCl [(Ad k, .inl (cy 3, len, .inr (.inr (.inr (.inr (fun i => some (Ad (b + i))))))))] H := pw_one (hP k _ (by simp [pw_E, hs]))
  have hin : vp_in (nI i) len := vp_in_nI hi hl
  have hc : (nI i).toNatClampNeg = i := nI_clamp (by omega)
  refine W.aald (v := .ref (Ad (b + i))) (ty := .array .int) hexec hb (h1 0 _ rfl) ((hK.1.2 3 _ rfl).1 len (fun j => va_rf (some (Ad (b + j))))) rfl (fun q => by cases q) (by show ¬ (nI i < 0 ∨ (arrV _ _ _).slots.size ≤ _); rw [arrV_size]; exact hin) (by show (arrV _ _ _).slots[_]? = _; rw [hc, arrV_read _ _ hi]; rfl) rfl rfl hdg kk
theorem pw_aald5 (hexec : p.tables.exec = Jvm.exec) (hb : c.code = cc) (hK : pw_K D cy s) (hP : pw_P D cy Ad sh C H) (k : Nat) {len b : Nat} (hs : sh k = (5, len, b)) {i : Nat} (hi : i < len) (hl : len < 2 ^ 31) (hdg : decode cc pc = .ok (.aaload, 1))
    (kk : W p l e R s m args below meth c H locs cells slots Q (F0 m (pc + 1) ls (.ref (Ad (b + i)) :: rest))) : W p l e R s m args below meth c H locs cells slots Q (F0 m pc ls (.int (nI i) :: .ref (Ad k) :: rest)) := by
  have h1 : va_P D vwCl [(Ad k, .inl (cy 4, len, .inr (.inr (.inr (.inr (fun i => some (Ad (b + i))))))))] H := pw_one (hP k _ (by simp [pw_E, hs]))
  have hin : vp_in (nI i) len := vp_in_nI hi hl
  have hc : (nI i).toNatClampNeg = i := nI_clamp (by omega)
  refine W.aald (v := .ref (Ad (b + i))) (ty := .array .long) hexec hb (h1 0 _ rfl) ((hK.1.2 4 _ rfl).1 len (fun j => va_rf (some (Ad (b + j))))) rfl (fun q => by cases q) (by show ¬ (nI i < 0 ∨ (arrV _ _ _).slots.size ≤ _); rw [arrV_size]; exact hin) (by show (arrV _ _ _).slots[_]? = _; rw [hc, arrV_read _ _ hi]; rfl) rfl rfl hdg kk
theorem pw_alen1 (hexec : p.tables.exec = Jvm.exec) (hb : c.code = cc) (hK : pw_K D cy s) (hP : pw_P D cy Ad sh C H) (k : Nat) {len b : Nat} (hs : sh k = (1, len, b)) (hdg : decode cc pc = .ok (.arraylength, 1))
    (kk : W p l e R s m args below meth c H locs cells slots Q (F0 m (pc + 1) ls (.int (nI len) :: rest))) : W p l e R s m args below meth c H locs cells slots Q (F0 m pc ls (.ref (Ad k) :: rest)) := by
  have h1 : va_P D vwCl [(Ad k, .inl (cy 0, len, .inl (C.1 k)))] H := pw_one (hP k _ (by simp [pw_E, hs]))
  exact va_alen hexec hb hK.1 h1 0 0 rfl rfl rfl hdg kk
theorem pw_alen2 (hexec : p.tables.exec = Jvm.exec) (hb : c.code = cc) (hK : pw_K D cy s) (hP : pw_P D cy Ad sh C H) (k : Nat) {len b : Nat} (hs : sh k = (2, len, b)) (hdg : decode cc pc = .ok (.arraylength, 1))
    (kk : W p l e R s m args below meth c H locs cells slots Q (F0 m (pc + 1) ls (.int (nI len) :: rest))) : W p l e R s m args below meth c H locs cells slots Q (F0 m pc ls (.ref (Ad k) :: rest)) := by
  have h1 : va_P D vwCl [(Ad k, .inl (cy 1, len, .inr (.inl (C.2.1 k))))] H := pw_one (hP k _ (by simp [pw_E, hs]))
  exact va_alen hexec hb hK.1 h1 0 1 rfl rfl rfl hdg kk
theorem pw_iast (hexec : p.tables.exec = Jvm.exec) (hb : c.code = cc) (hK : pw_K D cy s) (hP : pw_P D cy Ad sh C H) (hI : pw_I Ad sh) (hS : va_S (pw_fr Ad sh) H0 H locs) (k : Nat) {len b : Nat} (hs : sh k = (1, len, b)) {i : Nat} (hi : i < len) (hl : len < 2 ^ 31) {x : Int32} (hdg : decode cc pc = .ok (.iastore, 1))
    (kk : ∀ (H1 : Heap) (locs1 : List Loc), pw_P D cy Ad sh (pw_setI C k i x) H1 → va_S (pw_fr Ad sh) H0 H1 locs1 → W p l e R s m args below meth c H1 locs1 cells slots Q (F0 m (pc + 1) ls rest)) : W p l e R s m args below meth c H locs cells slots Q (F0 m pc ls (.int x :: .int (nI i) :: .ref (Ad k) :: rest)) := by
  have h0 : pw_E cy Ad sh C k = some (.inl (cy 0, len, .inl (C.1 k))) := by simp [pw_E, hs]
  have hc : H[Ad k]? = some (vp_cell (cy 0) (len, .inl (C.1 k))) := hP k _ h0
  have hin : vp_in (nI i) len := vp_in_nI hi hl
  have hcl : (nI i).toNatClampNeg = i := nI_clamp (by omega)
  refine W.iast hexec hb hc ((hK.1.2 0 _ rfl).1 len (fun j => .int (C.1 k j))) (fun q => by cases q) (by show ¬ (nI i < 0 ∨ (arrV _ _ _).slots.size ≤ _); rw [arrV_size]; exact hin) rfl rfl hdg fun H1 e1 z oq => ?_
  refine kk H1 _ (pw_store hP hI h0 (pw_setI C k i x) (e1 := .inl (cy 0, len, .inl (upd (C.1 k) i x))) (by simp [pw_E, hs, pw_setI]) (fun j hj => by simp [pw_E, pw_setI, hj]) ?_ oq) (hS.put z oq ⟨k, pw_E_L h0, rfl⟩)
  show H1[Ad k]? = some (vp_cell _ _)
  rw [e1, hcl]
  rw [vp_cell_i, vp_cell_i, arrV_store]
  congr 2
  funext q
  by_cases hq : q = i
  · subst hq
    simp [updV, upd]
  · simp [updV, upd, hq]
theorem pw_last (hexec : p.tables.exec = Jvm.exec) (hb : c.code = cc) (hK : pw_K D cy s) (hP : pw_P D cy Ad sh C H) (hI : pw_I Ad sh) (hS : va_S (pw_fr Ad sh) H0 H locs) (k : Nat) {len b : Nat} (hs : sh k = (2, len, b)) {i : Nat} (hi : i < len) (hl : len < 2 ^ 31) {x : Int64} (hdg : decode cc pc = .ok (.lastore, 1))
    (kk : ∀ (H1 : Heap) (locs1 : List Loc), pw_P D cy Ad sh (pw_setL C k i x) H1 → va_S (pw_fr Ad sh) H0 H1 locs1 → W p l e R s m args below meth c H1 locs1 cells slots Q (F0 m (pc + 1) ls rest)) : W p l e R s m args below meth c H locs cells slots Q (F0 m pc ls (.long x :: .int (nI i) :: .ref (Ad k) :: rest)) := by
  have h0 : pw_E cy Ad sh C k = some (.inl (cy 1, len, .inr (.inl (C.2.1 k)))) := by simp [pw_E, hs]
  have hc : H[Ad k]? = some (vp_cell (cy 1) (len, .inr (.inl (C.2.1 k)))) := hP k _ h0
  have hin : vp_in (nI i) len := vp_in_nI hi hl
  have hcl : (nI i).toNatClampNeg = i := nI_clamp (by omega)
  refine W.last hexec hb hc ((hK.1.2 1 _ rfl).1 len (fun j => .long (C.2.1 k j))) (fun q => by cases q) (by show ¬ (nI i < 0 ∨ (arrV _ _ _).slots.size ≤ _); rw [arrV_size]; exact hin) rfl rfl hdg fun H1 e1 z oq => ?_
  refine kk H1 _ (pw_store hP hI h0 (pw_setL C k i x) (e1 := .inl (cy 1, len, .inr (.inl (vp_updL (C.2.1 k) i x)))) (by simp [pw_E, hs, pw_setL]) (fun j hj => by simp [pw_E, pw_setL, hj]) ?_ oq) (hS.put z oq ⟨k, pw_E_L h0, rfl⟩)
  show H1[Ad k]? = some (vp_cell _ _)
  rw [e1, hcl]
  rw [vp_cell_l, vp_cell_l, arrV_store]
  congr 2
  funext q
  by_cases hq : q = i
  · subst hq
    simp [updV, vp_updL]
  · simp [updV, vp_updL, hq]
theorem pw_zast (hexec : p.tables.exec = Jvm.exec) (hb : c.code = cc) (hK : pw_K D cy s) (hP : pw_P D cy Ad sh C H) (hI : pw_I Ad sh) (hS : va_S (pw_fr Ad sh) H0 H locs) (k : Nat) {len b : Nat} (hs : sh k = (3, len, b)) {i : Nat} (hi : i < len) (hl : len < 2 ^ 31) {x : Int32} (hx : narrow .boolean (.int x) = .int x) (hdg : decode cc pc = .ok (.bastore, 1))
    (kk : ∀ (H1 : Heap) (locs1 : List Loc), pw_P D cy Ad sh (pw_setI C k i x) H1 → va_S (pw_fr Ad sh) H0 H1 locs1 → W p l e R s m args below meth c H1 locs1 cells slots Q (F0 m (pc + 1) ls rest)) : W p l e R s m args below meth c H locs cells slots Q (F0 m pc ls (.int x :: .int (nI i) :: .ref (Ad k) :: rest)) := by
  have h0 : pw_E cy Ad sh C k = some (.inl (cy 2, len, .inl (C.1 k))) := by simp [pw_E, hs]
  have hc : H[Ad k]? = some (vp_cell (cy 2) (len, .inl (C.1 k))) := hP k _ h0
  have hin : vp_in (nI i) len := vp_in_nI hi hl
  have hcl : (nI i).toNatClampNeg = i := nI_clamp (by omega)
  refine W.zast hexec hb hc ((hK.1.2 2 _ rfl).1 len (fun j => .int (C.1 k j))) (fun q => by cases q) (by show ¬ (nI i < 0 ∨ (arrV _ _ _).slots.size ≤ _); rw [arrV_size]; exact hin) rfl rfl hdg fun H1 e1 z oq => ?_
  refine kk H1 _ (pw_store hP hI h0 (pw_setI C k i x) (e1 := .inl (cy 2, len, .inl (upd (C.1 k) i x))) (by simp [pw_E, hs, pw_setI]) (fun j hj => by simp [pw_E, pw_setI, hj]) ?_ oq) (hS.put z oq ⟨k, pw_E_L h0, rfl⟩)
  show H1[Ad k]? = some (vp_cell _ _)
  rw [e1, hcl, hx]
  rw [vp_cell_i, vp_cell_i, arrV_store]
  congr 2
  funext q
  by_cases hq : q = i
  · subst hq
    simp [updV, upd]
  · simp [updV, upd, hq]
theorem pb_nar (b : Bool) : narrow .boolean (.int (pb b)) = .int (pb b) := by cases b <;> rfl
theorem pw_callR {r : Value} {st0 : List Value} {a : Array Value} (hr : va_Run p l e R s m args below meth c H locs cells slots 0 0 (F0 m pc ls st0) rest (k2_QcV r a) (fun _ => False)) (kk : W p l e R s m args below meth c H locs cells slots Q (F0 m (pc + 3) ls (r :: rest))) : W p l e R s m args below meth c H locs cells slots Q (F0 m pc ls st0) := by
  intro T hT X
  obtain ⟨v, st₀, t, T', L, h0, X', hL, e1, e2, ⟨hv, hh⟩, st⟩ := hr T hT X
  cases hv
  obtain ⟨t2, a1, b1⟩ := kk T' (by rw [e1, hh, h0]) (Stand.forget X' (fun q h => (hL q h).elim))
  exact ⟨t2, st t2 a1, b1⟩
theorem pw_callW {Rel : Option Value → pw_C → Prop} {st0 : List Value} {a : Array Value} {A0 : Nat → Prop} (hr : va_Run p l e R s m args below meth c H locs cells slots 0 0 (F0 m pc ls st0) rest (pw_Post Rel D cy Ad sh a) (pw_fr Ad sh)) (hS : va_S A0 H0 H locs) (hA : ∀ q, pw_fr Ad sh q → A0 q)
    (kk : ∀ (r : Option Value) (C' : pw_C) (H1 : Heap) (locs1 : List Loc), Rel r C' → pw_P D cy Ad sh C' H1 → H.size ≤ H1.size → (∀ q : Nat, q < H.size → ¬ pw_fr Ad sh q → H1[q]? = H[q]?) → va_S A0 H0 H1 locs1 → W p l e R s m args below meth c H1 locs1 cells slots Q (F0 m (pc + 3) ls (r.toList ++ rest))) : W p l e R s m args below meth c H locs cells slots Q (F0 m pc ls st0) := by
  intro T hT X
  obtain ⟨v, st₀, t, T', L, h0, X', hL, e1, e2, ⟨⟨r, C', hv, hp, hb⟩, hz, hk⟩, st⟩ := hr T hT X
  cases hv
  rw [h0] at hz hk
  obtain ⟨t2, a1, b1⟩ := kk v C' T'.heap (locs ++ L) hp (by rw [e1]; exact hb) (by rw [e1]; exact hz) (fun q h1 h2 => by rw [e1]; exact hk q h1 h2)
    ⟨Nat.le_trans hS.1 (by rw [e1]; exact hz), fun q h1 h2 => by rw [e1, hk q (Nat.lt_of_lt_of_le h1 hS.1) (fun z => h2 (hA q z))]; exact hS.2.1 q h1 h2, fun q hq => by
      rcases List.mem_append.mp hq with h | h
      · exact hS.2.2 q h
      · exact hA _ (hL q h)⟩ T' rfl X'
  exact ⟨t2, st t2 a1, b1⟩
end PW2
section PW3
variable {p : Program} {l : Launch} {e : Env} {R : Room} {s : State} {m : MethodId} {args : Array Value} {below : List Frame} {meth : Method} {c : Code} {H : Heap} {locs : List Loc} {cells slots : Nat} {Q : State → Prop}
variable {cc bytes : ByteArray} {pc nL maxL index : Nat} {ls : Array Slot} {rest As st0 : List Value} {D : va_G} {cy : Nat → ClassId} {Ad : Nat → Nat} {sh : Nat → Nat × Nat × Nat} {C : pw_C} {H0 : Heap} {own Cn : String} {y : MethodName} {Ts ws ws' : List Cond} {rm : Room} {ret : Option FieldType} {Pc : Array Value → State → Prop} {r : Value} {Rel : Option Value → pw_C → Prop}
theorem pw_cv (S : CallFix p m c cc nL s args Ts own) (hK : pw_K D cy s) (hP : pw_P D cy Ad sh C H) (k ci : Nat) {b N : Nat} {T : u_T} (hs : sh k = (6, ci, b)) (hc : vwCl[ci]? = some (Cn, T, N)) (n : Nat)
    (hM : Met l y ws rm (pw_Pre (.ref (Ad k) :: As) D cy Ad sh C) (k2_QcV r) 0 0 (fun _ => False)) (hG : GoodIn Ts (wsV own index Cn y ws)) (hw : ws = Cond.code y bytes maxL ret :: ws') (hrc : rm.cells = 0) (hrs : rm.slots = 0)
    (hd : y.cls = Cn ∧ y.cls ≠ "java/lang/invoke/MethodHandle" ∧ y.cls ≠ "java/lang/invoke/VarHandle" ∧ (parseMethodDescriptor y.desc).map (fun d => d.parameters.length) = some n) (hR : rm.frames + 1 ≤ R.frames ∧ 8 + (maxL + 11) + rm.locals ≤ R.locals)
    (hn : As.length = n) (hl : ls.size = nL) (hst : st0 = As.reverse ++ .ref (Ad k) :: rest) (hro : (rest.map fun v => v.category).sum ≤ 8) (hdg : decode cc pc = .ok (.invokevirtual index, 3)) (hf : cells ≤ R.cells ∧ slots ≤ R.slots)
    (kk : W p l e R s m args below meth c H locs cells slots Q (F0 m (pc + 3) ls (r :: rest))) : W p l e R s m args below meth c H locs cells slots Q (F0 m pc ls st0) := by
  have h1 : va_P D vwCl [(Ad k, .inr (ci, C.2.2 k))] H := pw_one (hP k _ (by simp [pw_E, hs]))
  exact pw_callR (va_runV (As := As) (rest := rest) S hM (cwV n S.2.2.2.2 hG hw hrc hrs hd hR) ⟨pw_blind, va_recv hK.1 h1 hc (q0 := 0) rfl, fun U hU hW => ⟨rfl, by rw [hU]; exact hP, hK.moved hW⟩⟩ rfl hn hl hst (lv_room hro) hdg hf) kk
theorem pw_cvW (S : CallFix p m c cc nL s args Ts own) (hK : pw_K D cy s) (hP : pw_P D cy Ad sh C H) (k ci : Nat) {b N : Nat} {T : u_T} (hs : sh k = (6, ci, b)) (hc : vwCl[ci]? = some (Cn, T, N)) (n : Nat) {A0 : Nat → Prop}
    (hM : Met l y ws rm (pw_Pre (.ref (Ad k) :: As) D cy Ad sh C) (pw_Post Rel D cy Ad sh) 0 0 (pw_fr Ad sh)) (hG : GoodIn Ts (wsV own index Cn y ws)) (hw : ws = Cond.code y bytes maxL ret :: ws') (hrc : rm.cells = 0) (hrs : rm.slots = 0)
    (hd : y.cls = Cn ∧ y.cls ≠ "java/lang/invoke/MethodHandle" ∧ y.cls ≠ "java/lang/invoke/VarHandle" ∧ (parseMethodDescriptor y.desc).map (fun d => d.parameters.length) = some n) (hR : rm.frames + 1 ≤ R.frames ∧ 8 + (maxL + 11) + rm.locals ≤ R.locals)
    (hn : As.length = n) (hl : ls.size = nL) (hst : st0 = As.reverse ++ .ref (Ad k) :: rest) (hro : (rest.map fun v => v.category).sum ≤ 8) (hdg : decode cc pc = .ok (.invokevirtual index, 3)) (hf : cells ≤ R.cells ∧ slots ≤ R.slots) (hS : va_S A0 H0 H locs) (hA : ∀ q, pw_fr Ad sh q → A0 q)
    (kk : ∀ (r : Option Value) (C' : pw_C) (H1 : Heap) (locs1 : List Loc), Rel r C' → pw_P D cy Ad sh C' H1 → H.size ≤ H1.size → (∀ q : Nat, q < H.size → ¬ pw_fr Ad sh q → H1[q]? = H[q]?) → va_S A0 H0 H1 locs1 → W p l e R s m args below meth c H1 locs1 cells slots Q (F0 m (pc + 3) ls (r.toList ++ rest))) : W p l e R s m args below meth c H locs cells slots Q (F0 m pc ls st0) := by
  have h1 : va_P D vwCl [(Ad k, .inr (ci, C.2.2 k))] H := pw_one (hP k _ (by simp [pw_E, hs]))
  exact pw_callW (va_runV (As := As) (rest := rest) S hM (cwV n S.2.2.2.2 hG hw hrc hrs hd hR) ⟨pw_blind, va_recv hK.1 h1 hc (q0 := 0) rfl, fun U hU hW => ⟨rfl, by rw [hU]; exact hP, hK.moved hW⟩⟩ rfl hn hl hst (lv_room hro) hdg hf) hS hA kk
theorem pw_cs (S : CallFix p m c cc nL s args Ts own) (n : Nat)
    (hM : Met l y ws rm (fun v _ => v = As.toArray) (k2_QcV r) 0 0 (fun _ => False)) (hG : GoodIn Ts (va_wsS own index y ws)) (hw : ws = Cond.code y bytes maxL ret :: ws') (hrc : rm.cells = 0) (hrs : rm.slots = 0)
    (hd : y.cls ≠ "java/lang/invoke/MethodHandle" ∧ y.cls ≠ "java/lang/invoke/VarHandle" ∧ (parseMethodDescriptor y.desc).map (fun d => d.parameters.length) = some n) (hR : rm.frames + 1 ≤ R.frames ∧ 8 + (maxL + 11) + rm.locals ≤ R.locals)
    (hn : As.length = n) (hl : ls.size = nL) (hst : st0 = As.reverse ++ rest) (hro : (rest.map fun v => v.category).sum ≤ 8) (hdg : decode cc pc = .ok (.invokestatic index, 3)) (hf : cells ≤ R.cells ∧ slots ≤ R.slots)
    (kk : W p l e R s m args below meth c H locs cells slots Q (F0 m (pc + 3) ls (r :: rest))) : W p l e R s m args below meth c H locs cells slots Q (F0 m pc ls st0) :=
  pw_callR (va_runS (As := As) (rest := rest) S hM (va_cwS n S.2.2.2.2 hG hw hrc hrs hd hR) preEq rfl hn hl hst (lv_room hro) hdg hf) kk
theorem pw_csW (S : CallFix p m c cc nL s args Ts own) (hK : pw_K D cy s) (hP : pw_P D cy Ad sh C H) (n : Nat) {A0 : Nat → Prop}
    (hM : Met l y ws rm (pw_Pre As D cy Ad sh C) (pw_Post Rel D cy Ad sh) 0 0 (pw_fr Ad sh)) (hG : GoodIn Ts (va_wsS own index y ws)) (hw : ws = Cond.code y bytes maxL ret :: ws') (hrc : rm.cells = 0) (hrs : rm.slots = 0)
    (hd : y.cls ≠ "java/lang/invoke/MethodHandle" ∧ y.cls ≠ "java/lang/invoke/VarHandle" ∧ (parseMethodDescriptor y.desc).map (fun d => d.parameters.length) = some n) (hR : rm.frames + 1 ≤ R.frames ∧ 8 + (maxL + 11) + rm.locals ≤ R.locals)
    (hn : As.length = n) (hl : ls.size = nL) (hst : st0 = As.reverse ++ rest) (hro : (rest.map fun v => v.category).sum ≤ 8) (hdg : decode cc pc = .ok (.invokestatic index, 3)) (hf : cells ≤ R.cells ∧ slots ≤ R.slots) (hS : va_S A0 H0 H locs) (hA : ∀ q, pw_fr Ad sh q → A0 q)
    (kk : ∀ (r : Option Value) (C' : pw_C) (H1 : Heap) (locs1 : List Loc), Rel r C' → pw_P D cy Ad sh C' H1 → H.size ≤ H1.size → (∀ q : Nat, q < H.size → ¬ pw_fr Ad sh q → H1[q]? = H[q]?) → va_S A0 H0 H1 locs1 → W p l e R s m args below meth c H1 locs1 cells slots Q (F0 m (pc + 3) ls (r.toList ++ rest))) : W p l e R s m args below meth c H locs cells slots Q (F0 m pc ls st0) :=
  pw_callW (va_runS (As := As) (rest := rest) S hM (va_cwS n S.2.2.2.2 hG hw hrc hrs hd hR) ⟨pw_blind, fun U hU hW => ⟨rfl, by rw [hU]; exact hP, hK.moved hW⟩⟩ rfl hn hl hst (lv_room hro) hdg hf) hS hA kk
theorem pw_cn (S : CallFix p m c cc nL s args Ts own) {host : String} (hl0 : va_Nw (.methodLinkNest own index y host) s) (hini : (Cond.initialized y.cls).before args s = true) (hst0 : (Cond.static y).before args s = true) (n : Nat)
    (hM : Met l y ws rm (fun v _ => v = As.toArray) (k2_QcV r) 0 0 (fun _ => False)) (hG : GoodIn Ts ws) (hw : ws = Cond.code y bytes maxL ret :: ws') (hrc : rm.cells = 0) (hrs : rm.slots = 0)
    (hd : y.cls ≠ "java/lang/invoke/MethodHandle" ∧ y.cls ≠ "java/lang/invoke/VarHandle" ∧ (parseMethodDescriptor y.desc).map (fun d => d.parameters.length) = some n) (hR : rm.frames + 1 ≤ R.frames ∧ 8 + (maxL + 11) + rm.locals ≤ R.locals)
    (hn : As.length = n) (hl : ls.size = nL) (hst : st0 = As.reverse ++ rest) (hro : (rest.map fun v => v.category).sum ≤ 8) (hdg : decode cc pc = .ok (.invokestatic index, 3)) (hf : cells ≤ R.cells ∧ slots ≤ R.slots)
    (kk : W p l e R s m args below meth c H locs cells slots Q (F0 m (pc + 3) ls (r :: rest))) : W p l e R s m args below meth c H locs cells slots Q (F0 m pc ls st0) :=
  pw_callR (va_runSN (As := As) (rest := rest) S hM ⟨va_cnB n S.2.2.2.2 hG hw hrc hrs hl0 hini hd hR, hst0, trivial⟩ preEq rfl hn hl hst (lv_room hro) hdg hf) kk
end PW3
end
section
section PN1
variable {p : Program} {l : Launch} {e : Env} {R : Room} {s : State} {m : MethodId} {args : Array Value} {below : List Frame} {meth : Method} {c : Code} {H : Heap} {locs : List Loc} {cells slots : Nat} {Q : State → Prop}
variable {cc : ByteArray} {pc : Nat} {ls : Array Slot} {rest : List Value}
theorem pn_icmp_lt (hexec : p.tables.exec = Jvm.exec) (hb : c.code = cc) {a b : Nat} (ha : a < 2 ^ 31) (hb2 : b < 2 ^ 31) {off : Int} {tgt : Nat} (hdg : decode cc pc = .ok (.if_icmp .lt off, 3)) (ht : (pc : Int) + off = (tgt : Int))
    (kt : a < b → W p l e R s m args below meth c H locs cells slots Q (F0 m tgt ls rest)) (kf : b ≤ a → W p l e R s m args below meth c H locs cells slots Q (F0 m (pc + 3) ls rest)) : W p l e R s m args below meth c H locs cells slots Q (F0 m pc ls (.int (nI b) :: .int (nI a) :: rest)) :=
  lv_icmp_lt hexec hb hdg ht (fun h => kt ((nI_ltI ha hb2).mp h)) (fun h => kf (by have := mt (nI_ltI ha hb2).mpr h; omega))
theorem pn_icmp_ge (hexec : p.tables.exec = Jvm.exec) (hb : c.code = cc) {a b : Nat} (ha : a < 2 ^ 31) (hb2 : b < 2 ^ 31) {off : Int} {tgt : Nat} (hdg : decode cc pc = .ok (.if_icmp .ge off, 3)) (ht : (pc : Int) + off = (tgt : Int))
    (kt : b ≤ a → W p l e R s m args below meth c H locs cells slots Q (F0 m tgt ls rest)) (kf : a < b → W p l e R s m args below meth c H locs cells slots Q (F0 m (pc + 3) ls rest)) : W p l e R s m args below meth c H locs cells slots Q (F0 m pc ls (.int (nI b) :: .int (nI a) :: rest)) :=
  lv_icmp_ge hexec hb hdg ht (fun h => kt ((nI_leI hb2 ha).mp h)) (fun h => kf (by have := mt (nI_leI hb2 ha).mpr h; omega))
theorem pn_icmp_gt (hexec : p.tables.exec = Jvm.exec) (hb : c.code = cc) {a b : Nat} (ha : a < 2 ^ 31) (hb2 : b < 2 ^ 31) {off : Int} {tgt : Nat} (hdg : decode cc pc = .ok (.if_icmp .gt off, 3)) (ht : (pc : Int) + off = (tgt : Int))
    (kt : b < a → W p l e R s m args below meth c H locs cells slots Q (F0 m tgt ls rest)) (kf : a ≤ b → W p l e R s m args below meth c H locs cells slots Q (F0 m (pc + 3) ls rest)) : W p l e R s m args below meth c H locs cells slots Q (F0 m pc ls (.int (nI b) :: .int (nI a) :: rest)) :=
  lv_icmp_gt hexec hb hdg ht (fun h => kt ((nI_ltI hb2 ha).mp h)) (fun h => kf (by have := mt (nI_ltI hb2 ha).mpr h; omega))
theorem pn_icmp_le (hexec : p.tables.exec = Jvm.exec) (hb : c.code = cc) {a b : Nat} (ha : a < 2 ^ 31) (hb2 : b < 2 ^ 31) {off : Int} {tgt : Nat} (hdg : decode cc pc = .ok (.if_icmp .le off, 3)) (ht : (pc : Int) + off = (tgt : Int))
    (kt : a ≤ b → W p l e R s m args below meth c H locs cells slots Q (F0 m tgt ls rest)) (kf : b < a → W p l e R s m args below meth c H locs cells slots Q (F0 m (pc + 3) ls rest)) : W p l e R s m args below meth c H locs cells slots Q (F0 m pc ls (.int (nI b) :: .int (nI a) :: rest)) :=
  lv_icmp_le hexec hb hdg ht (fun h => kt ((nI_leI ha hb2).mp h)) (fun h => kf (by have := mt (nI_leI ha hb2).mpr h; omega))
theorem pn_icmp_eq (hexec : p.tables.exec = Jvm.exec) (hb : c.code = cc) {a b : Nat} (ha : a < 2 ^ 31) (hb2 : b < 2 ^ 31) {off : Int} {tgt : Nat} (hdg : decode cc pc = .ok (.if_icmp .eq off, 3)) (ht : (pc : Int) + off = (tgt : Int))
    (kt : a = b → W p l e R s m args below meth c H locs cells slots Q (F0 m tgt ls rest)) (kf : ¬ a = b → W p l e R s m args below meth c H locs cells slots Q (F0 m (pc + 3) ls rest)) : W p l e R s m args below meth c H locs cells slots Q (F0 m pc ls (.int (nI b) :: .int (nI a) :: rest)) :=
  lv_icmp_eq hexec hb hdg ht (fun h => kt ((nI_eq ha hb2).mp h)) (fun h => kf (fun q => h ((nI_eq ha hb2).mpr q)))
theorem pn_icmp_ne (hexec : p.tables.exec = Jvm.exec) (hb : c.code = cc) {a b : Nat} (ha : a < 2 ^ 31) (hb2 : b < 2 ^ 31) {off : Int} {tgt : Nat} (hdg : decode cc pc = .ok (.if_icmp .ne off, 3)) (ht : (pc : Int) + off = (tgt : Int))
    (kt : ¬ a = b → W p l e R s m args below meth c H locs cells slots Q (F0 m tgt ls rest)) (kf : a = b → W p l e R s m args below meth c H locs cells slots Q (F0 m (pc + 3) ls rest)) : W p l e R s m args below meth c H locs cells slots Q (F0 m pc ls (.int (nI b) :: .int (nI a) :: rest)) :=
  lv_icmp_ne hexec hb hdg ht (fun h => kt (fun q => h ((nI_eq ha hb2).mpr q))) (fun h => kf ((nI_eq ha hb2).mp h))
theorem pn_ifeq_b (hexec : p.tables.exec = Jvm.exec) (hb : c.code = cc) {b : Bool} {off : Int} {tgt : Nat} (hdg : decode cc pc = .ok (.ifCond .eq off, 3)) (ht : (pc : Int) + off = (tgt : Int))
    (kt : b = false → W p l e R s m args below meth c H locs cells slots Q (F0 m tgt ls rest)) (kf : b = true → W p l e R s m args below meth c H locs cells slots Q (F0 m (pc + 3) ls rest)) : W p l e R s m args below meth c H locs cells slots Q (F0 m pc ls (.int (pb b) :: rest)) := by
  cases b
  · exact lv_if_eq hexec hb hdg ht (fun _ => kt rfl) (fun h => absurd rfl h)
  · exact lv_if_eq hexec hb hdg ht (fun h => absurd h (by decide)) (fun _ => kf rfl)
theorem pn_ifne_b (hexec : p.tables.exec = Jvm.exec) (hb : c.code = cc) {b : Bool} {off : Int} {tgt : Nat} (hdg : decode cc pc = .ok (.ifCond .ne off, 3)) (ht : (pc : Int) + off = (tgt : Int))
    (kt : b = true → W p l e R s m args below meth c H locs cells slots Q (F0 m tgt ls rest)) (kf : b = false → W p l e R s m args below meth c H locs cells slots Q (F0 m (pc + 3) ls rest)) : W p l e R s m args below meth c H locs cells slots Q (F0 m pc ls (.int (pb b) :: rest)) := by
  cases b
  · exact lv_if_ne hexec hb hdg ht (fun h => absurd rfl h) (fun _ => kf rfl)
  · exact lv_if_ne hexec hb hdg ht (fun _ => kt rfl) (fun h => absurd h (by decide))
theorem pb_true : pb true = 1 := rfl
theorem pb_false : pb false = 0 := rfl
theorem pn_lif_lt (hexec : p.tables.exec = Jvm.exec) (hb : c.code = cc) {x y : Int64} {off : Int} {tgt : Nat} (hdg : decode cc pc = .ok (.ifCond .lt off, 3)) (ht : (pc : Int) + off = (tgt : Int))
    (kt : x < y → W p l e R s m args below meth c H locs cells slots Q (F0 m tgt ls rest)) (kf : ¬ x < y → W p l e R s m args below meth c H locs cells slots Q (F0 m (pc + 3) ls rest)) : W p l e R s m args below meth c H locs cells slots Q (F0 m pc ls (.int (lg_cmp x y) :: rest)) :=
  lv_if_lt hexec hb hdg ht (fun h => kt ((lg_cmp_lt x y).mp h)) (fun h => kf (fun q => h ((lg_cmp_lt x y).mpr q)))
theorem pn_lif_ge (hexec : p.tables.exec = Jvm.exec) (hb : c.code = cc) {x y : Int64} {off : Int} {tgt : Nat} (hdg : decode cc pc = .ok (.ifCond .ge off, 3)) (ht : (pc : Int) + off = (tgt : Int))
    (kt : y ≤ x → W p l e R s m args below meth c H locs cells slots Q (F0 m tgt ls rest)) (kf : ¬ y ≤ x → W p l e R s m args below meth c H locs cells slots Q (F0 m (pc + 3) ls rest)) : W p l e R s m args below meth c H locs cells slots Q (F0 m pc ls (.int (lg_cmp x y) :: rest)) :=
  lv_if_ge hexec hb hdg ht (fun h => kt ((lg_cmp_ge x y).mp h)) (fun h => kf (fun q => h ((lg_cmp_ge x y).mpr q)))
theorem pn_lif_gt (hexec : p.tables.exec = Jvm.exec) (hb : c.code = cc) {x y : Int64} {off : Int} {tgt : Nat} (hdg : decode cc pc = .ok (.ifCond .gt off, 3)) (ht : (pc : Int) + off = (tgt : Int))
    (kt : y < x → W p l e R s m args below meth c H locs cells slots Q (F0 m tgt ls rest)) (kf : ¬ y < x → W p l e R s m args below meth c H locs cells slots Q (F0 m (pc + 3) ls rest)) : W p l e R s m args below meth c H locs cells slots Q (F0 m pc ls (.int (lg_cmp x y) :: rest)) :=
  lv_if_gt hexec hb hdg ht (fun h => kt ((lg_cmp_gt x y).mp h)) (fun h => kf (fun q => h ((lg_cmp_gt x y).mpr q)))
theorem pn_lif_le (hexec : p.tables.exec = Jvm.exec) (hb : c.code = cc) {x y : Int64} {off : Int} {tgt : Nat} (hdg : decode cc pc = .ok (.ifCond .le off, 3)) (ht : (pc : Int) + off = (tgt : Int))
    (kt : x ≤ y → W p l e R s m args below meth c H locs cells slots Q (F0 m tgt ls rest)) (kf : ¬ x ≤ y → W p l e R s m args below meth c H locs cells slots Q (F0 m (pc + 3) ls rest)) : W p l e R s m args below meth c H locs cells slots Q (F0 m pc ls (.int (lg_cmp x y) :: rest)) :=
  lv_if_le hexec hb hdg ht (fun h => kt ((lg_cmp_le x y).mp h)) (fun h => kf (fun q => h ((lg_cmp_le x y).mpr q)))
theorem pn_lif_eq (hexec : p.tables.exec = Jvm.exec) (hb : c.code = cc) {x y : Int64} {off : Int} {tgt : Nat} (hdg : decode cc pc = .ok (.ifCond .eq off, 3)) (ht : (pc : Int) + off = (tgt : Int))
    (kt : x = y → W p l e R s m args below meth c H locs cells slots Q (F0 m tgt ls rest)) (kf : ¬ x = y → W p l e R s m args below meth c H locs cells slots Q (F0 m (pc + 3) ls rest)) : W p l e R s m args below meth c H locs cells slots Q (F0 m pc ls (.int (lg_cmp x y) :: rest)) :=
  lv_if_eq hexec hb hdg ht (fun h => kt ((lg_cmp_eq x y).mp h)) (fun h => kf (fun q => h ((lg_cmp_eq x y).mpr q)))
theorem pn_lif_ne (hexec : p.tables.exec = Jvm.exec) (hb : c.code = cc) {x y : Int64} {off : Int} {tgt : Nat} (hdg : decode cc pc = .ok (.ifCond .ne off, 3)) (ht : (pc : Int) + off = (tgt : Int))
    (kt : ¬ x = y → W p l e R s m args below meth c H locs cells slots Q (F0 m tgt ls rest)) (kf : x = y → W p l e R s m args below meth c H locs cells slots Q (F0 m (pc + 3) ls rest)) : W p l e R s m args below meth c H locs cells slots Q (F0 m pc ls (.int (lg_cmp x y) :: rest)) :=
  lv_if_ne hexec hb hdg ht (fun h => kt (fun q => h ((lg_cmp_eq x y).mpr q))) (fun h => kf ((lg_cmp_eq x y).mp h))
theorem pn_ifeq_n (hexec : p.tables.exec = Jvm.exec) (hb : c.code = cc) {a : Nat} (ha : a < 2 ^ 31) {off : Int} {tgt : Nat} (hdg : decode cc pc = .ok (.ifCond .eq off, 3)) (ht : (pc : Int) + off = (tgt : Int))
    (kt : a = 0 → W p l e R s m args below meth c H locs cells slots Q (F0 m tgt ls rest)) (kf : ¬ a = 0 → W p l e R s m args below meth c H locs cells slots Q (F0 m (pc + 3) ls rest)) : W p l e R s m args below meth c H locs cells slots Q (F0 m pc ls (.int (nI a) :: rest)) :=
  lv_if_eq hexec hb hdg ht (fun h => kt (by rcases Nat.eq_zero_or_pos a with q | q; exact q; exact absurd h (nI_ne0 q ha))) (fun h => kf (fun q => h (by subst q; rfl)))
theorem pn_ifne_n (hexec : p.tables.exec = Jvm.exec) (hb : c.code = cc) {a : Nat} (ha : a < 2 ^ 31) {off : Int} {tgt : Nat} (hdg : decode cc pc = .ok (.ifCond .ne off, 3)) (ht : (pc : Int) + off = (tgt : Int))
    (kt : ¬ a = 0 → W p l e R s m args below meth c H locs cells slots Q (F0 m tgt ls rest)) (kf : a = 0 → W p l e R s m args below meth c H locs cells slots Q (F0 m (pc + 3) ls rest)) : W p l e R s m args below meth c H locs cells slots Q (F0 m pc ls (.int (nI a) :: rest)) :=
  lv_if_ne hexec hb hdg ht (fun h => kt (fun q => h (by subst q; rfl))) (fun h => kf (by rcases Nat.eq_zero_or_pos a with q | q; exact q; exact absurd h (nI_ne0 q ha)))
theorem pn_ifgt_n (hexec : p.tables.exec = Jvm.exec) (hb : c.code = cc) {a : Nat} (ha : a < 2 ^ 31) {off : Int} {tgt : Nat} (hdg : decode cc pc = .ok (.ifCond .gt off, 3)) (ht : (pc : Int) + off = (tgt : Int))
    (kt : 0 < a → W p l e R s m args below meth c H locs cells slots Q (F0 m tgt ls rest)) (kf : a = 0 → W p l e R s m args below meth c H locs cells slots Q (F0 m (pc + 3) ls rest)) : W p l e R s m args below meth c H locs cells slots Q (F0 m pc ls (.int (nI a) :: rest)) :=
  lv_if_gt hexec hb hdg ht (fun h => kt (by rcases Nat.eq_zero_or_pos a with q | q; (subst q; exact absurd h (by decide)); exact q)) (fun h => kf (by rcases Nat.eq_zero_or_pos a with q | q; exact q; exact absurd (by have := nI_lt q ha; simpa [nI_0] using this) h))
theorem pn_ifle_n (hexec : p.tables.exec = Jvm.exec) (hb : c.code = cc) {a : Nat} (ha : a < 2 ^ 31) {off : Int} {tgt : Nat} (hdg : decode cc pc = .ok (.ifCond .le off, 3)) (ht : (pc : Int) + off = (tgt : Int))
    (kt : a = 0 → W p l e R s m args below meth c H locs cells slots Q (F0 m tgt ls rest)) (kf : 0 < a → W p l e R s m args below meth c H locs cells slots Q (F0 m (pc + 3) ls rest)) : W p l e R s m args below meth c H locs cells slots Q (F0 m pc ls (.int (nI a) :: rest)) :=
  lv_if_le hexec hb hdg ht (fun h => kt (by rcases Nat.eq_zero_or_pos a with q | q; exact q; exact absurd h (nI_nle q ha))) (fun h => kf (by rcases Nat.eq_zero_or_pos a with q | q; (subst q; exact absurd (by decide) h); exact q))
end PN1
end
section
/-! ===== Int32 by its bits: bt x i ===== -/
def bt (x : Int32) (i : Nat) : Bool := x.toBitVec.getLsbD i
theorem b_ext {x y : Int32} (h : ∀ i, i < 32 → bt x i = bt y i) : x = y := Int32.toBitVec_inj.mp (BitVec.eq_of_getLsbD_eq (fun i hi => h i hi))
theorem b_or (x y : Int32) (i : Nat) : bt (x ||| y) i = (bt x i || bt y i) := by unfold bt; rw [Int32.toBitVec_or, BitVec.getLsbD_or]
theorem b_and (x y : Int32) (i : Nat) : bt (x &&& y) i = (bt x i && bt y i) := by unfold bt; rw [Int32.toBitVec_and, BitVec.getLsbD_and]
theorem b_xor (x y : Int32) (i : Nat) : bt (x ^^^ y) i = (bt x i ^^ bt y i) := by unfold bt; rw [Int32.toBitVec_xor, BitVec.getLsbD_xor]
theorem b_big {x : Int32} {i : Nat} (h : 32 ≤ i) : bt x i = false := BitVec.getLsbD_of_ge _ _ h
theorem b_255 (i : Nat) : bt 255 i = decide (i < 8) := by
  rcases Nat.lt_or_ge i 32 with h | h
  · exact (by decide +kernel : ∀ i, i < 32 → bt 255 i = decide (i < 8)) i h
  · rw [b_big h, decide_eq_false (by omega)]
theorem b_65535 (i : Nat) : bt 65535 i = decide (i < 16) := by
  rcases Nat.lt_or_ge i 32 with h | h
  · exact (by decide +kernel : ∀ i, i < 32 → bt 65535 i = decide (i < 16)) i h
  · rw [b_big h, decide_eq_false (by omega)]
theorem b_m1 : ∀ i, i < 32 → bt (-1) i = true := by decide +kernel
theorem b_0 (i : Nat) : bt 0 i = false := BitVec.getLsbD_zero
theorem s_l : ∀ n, n < 32 → ((nI n &&& 31).toBitVec.smod 32).toNat = n := by decide +kernel
theorem s_u : ∀ n, n < 32 → (((nI n).toUInt32 &&& Int32.toUInt32 31).toBitVec % 32).toNat = n := by decide +kernel
theorem b_shl (n : Nat) (hn : n < 32) (x : Int32) {i : Nat} (hi : i < 32) : bt (x <<< (nI n &&& 31)) i = (decide (n ≤ i) && bt x (i - n)) := by
  unfold bt
  rw [Int32.toBitVec_shiftLeft]
  show (x.toBitVec <<< ((nI n &&& 31).toBitVec.smod 32).toNat).getLsbD i = _
  rw [s_l n hn, BitVec.getLsbD_shiftLeft]
  rcases Nat.lt_or_ge i n with h | h
  · simp [h, Nat.not_le.mpr h]
  · simp [hi, h, Nat.not_lt.mpr h]
theorem b_ushr (n : Nat) (hn : n < 32) (x : Int32) (i : Nat) : bt ((x.toUInt32 >>> ((nI n).toUInt32 &&& Int32.toUInt32 31)).toInt32) i = bt x (n + i) := by
  show (x.toUInt32 >>> ((nI n).toUInt32 &&& Int32.toUInt32 31)).toBitVec.getLsbD i = x.toUInt32.toBitVec.getLsbD (n + i)
  rw [UInt32.toBitVec_shiftRight]
  show (x.toUInt32.toBitVec >>> (((nI n).toUInt32 &&& Int32.toUInt32 31).toBitVec % 32).toNat).getLsbD i = _
  rw [s_u n hn, BitVec.getLsbD_ushiftRight]
theorem b_sshr (n : Nat) (hn : n < 32) (x : Int32) {i : Nat} (hi : i < 32) : bt (x >>> (nI n &&& 31)) i = if n + i < 32 then bt x (n + i) else bt x 31 := by
  unfold bt
  rw [Int32.toBitVec_shiftRight]
  show (x.toBitVec.sshiftRight ((nI n &&& 31).toBitVec.smod 32).toNat).getLsbD i = _
  rw [s_l n hn, BitVec.getLsbD_sshiftRight, BitVec.msb_eq_getLsbD_last]
  simp [hi]
theorem b_shl8 (x : Int32) {i : Nat} (hi : i < 32) : bt (x <<< ((8 : Int32) &&& 31)) i = (decide (8 ≤ i) && bt x (i - 8)) := b_shl 8 (by omega) x hi
theorem b_shl16 (x : Int32) {i : Nat} (hi : i < 32) : bt (x <<< ((16 : Int32) &&& 31)) i = (decide (16 ≤ i) && bt x (i - 16)) := b_shl 16 (by omega) x hi
theorem b_shl24 (x : Int32) {i : Nat} (hi : i < 32) : bt (x <<< ((24 : Int32) &&& 31)) i = (decide (24 ≤ i) && bt x (i - 24)) := b_shl 24 (by omega) x hi
theorem b_sshr8 (x : Int32) {i : Nat} (hi : i < 32) : bt (x >>> ((8 : Int32) &&& 31)) i = if 8 + i < 32 then bt x (8 + i) else bt x 31 := b_sshr 8 (by omega) x hi
/-! ===== nI under and, xor, >>>, one bit, 65535 ===== -/
theorem nx_and (a b : Nat) : nI a &&& nI b = nI (a &&& b) := by
  apply Int32.toBitVec_inj.1
  show BitVec.ofNat 32 a &&& BitVec.ofNat 32 b = BitVec.ofNat 32 (a &&& b)
  apply BitVec.eq_of_getLsbD_eq
  intro i hi
  simp [hi]
theorem nx_xor (a b : Nat) : nI a ^^^ nI b = nI (a ^^^ b) := by
  apply Int32.toBitVec_inj.1
  show BitVec.ofNat 32 a ^^^ BitVec.ofNat 32 b = BitVec.ofNat 32 (a ^^^ b)
  apply BitVec.eq_of_getLsbD_eq
  intro i hi
  simp [hi]
theorem nx_cnt : ∀ j : Fin 32, (UInt32.ofNat j.val &&& Int32.toUInt32 31).toNat % 32 = j.val := by decide +kernel
theorem nx_ush {k j : Nat} (hk : k < 65536) (hj : j < 32) : ((nI k).toUInt32 >>> ((nI j).toUInt32 &&& Int32.toUInt32 31)).toInt32 = nI (k >>> j) := by
  have hs : k >>> j ≤ k := by
    rw [Nat.shiftRight_eq_div_pow]
    exact Nat.div_le_self _ _
  have e2 : UInt32.ofNat k >>> (UInt32.ofNat j &&& Int32.toUInt32 31) = UInt32.ofNat (k >>> j) := by
    apply UInt32.toNat_inj.1
    have h1 : (UInt32.ofNat k).toNat = k := Nat.mod_eq_of_lt (by omega)
    have h2 : (UInt32.ofNat (k >>> j)).toNat = k >>> j := Nat.mod_eq_of_lt (by omega)
    rw [UInt32.toNat_shiftRight, nx_cnt ⟨j, hj⟩, h1, h2]
  show (UInt32.ofNat k >>> (UInt32.ofNat j &&& Int32.toUInt32 31)).toInt32 = _
  rw [e2]
  rfl
theorem nx_bit {k j : Nat} (hk : k < 65536) (hj : j < 16) : (((nI k).toUInt32 >>> ((nI j).toUInt32 &&& Int32.toUInt32 31)).toInt32 &&& 1) = 0 ↔ k.testBit j = false := by
  rw [nx_ush hk (by omega)]
  show nI (k >>> j) &&& nI 1 = 0 ↔ _
  rw [nx_and, Nat.and_one_is_mod, ← nI_0, nI_eq (by omega) (by omega), Nat.testBit_eq_decide_div_mod_eq, Nat.shiftRight_eq_div_pow, decide_eq_false_iff_not]
  generalize k / 2 ^ j = z
  omega
theorem nx_mod (k : Nat) : nI k &&& 65535 = nI (k % 65536) := by
  show nI k &&& nI 65535 = _
  rw [nx_and, show (65535 : Nat) = 2 ^ 16 - 1 from rfl, Nat.and_two_pow_sub_one_eq_mod]
theorem nx_m16 {k : Nat} (h : k < 65536) : nI k &&& 65535 = nI k := by rw [nx_mod, Nat.mod_eq_of_lt h]
theorem nx_mask (x : Int32) : ∃ k, k < 65536 ∧ x &&& 65535 = nI k := by
  have e : x = nI x.toBitVec.toNat := by
    apply Int32.toBitVec_inj.1
    show x.toBitVec = BitVec.ofNat 32 x.toBitVec.toNat
    simp
  refine ⟨x.toBitVec.toNat % 65536, Nat.mod_lt _ (by omega), ?_⟩
  rw [← nx_mod, ← e]
/-! ===== lN n to 2^64: shifts, and, or, masks, one bit ===== -/
theorem wb_tb (n : Nat) : (lN n).toBitVec = BitVec.ofNat 64 n := rfl
theorem wb_inj {a b : Int64} (h : a.toBitVec = b.toBitVec) : a = b := Int64.toBitVec_inj.mp h
theorem wb_tn {n : Nat} (h : n < 2 ^ 64) : (lN n).toBitVec.toNat = n := by rw [wb_tb, BitVec.toNat_ofNat, Nat.mod_eq_of_lt h]
theorem wb_of (x : Int64) : ∃ n, n < 2 ^ 64 ∧ x = lN n := ⟨x.toBitVec.toNat, x.toBitVec.isLt, wb_inj (by rw [wb_tb]; simp)⟩
theorem wb_of32 (x : Int32) : ∃ n, n < 2 ^ 32 ∧ x = nI n := ⟨x.toBitVec.toNat, x.toBitVec.isLt, Int32.toBitVec_inj.mp (by show _ = BitVec.ofNat 32 _; simp)⟩
theorem wb_c : ∀ k, k < 64 → ((nI k).toInt64 &&& 63) = lN k := by decide +kernel
theorem wb_cu : ∀ k, k < 64 → ((nI k).toInt64.toUInt64 &&& Int64.toUInt64 63) = UInt64.ofNat k := by decide +kernel
theorem wb_sm : ∀ k, k < 64 → (BitVec.ofNat 64 k).smod 64 = BitVec.ofNat 64 k := by decide +kernel
theorem wb_pw {a b : Nat} (h : a ≤ b) : 2 ^ b = 2 ^ a * 2 ^ (b - a) := by rw [← Nat.pow_add]; congr 1; omega
theorem wb_lt2 {a b : Nat} (h : a < b) : 2 ^ a < 2 ^ b := Nat.pow_lt_pow_right (by decide) h
theorem wb_mod (n : Nat) : lN n = lN (n % 2 ^ 64) := wb_inj (by rw [wb_tb, wb_tb]; apply BitVec.eq_of_toNat_eq; rw [BitVec.toNat_ofNat, BitVec.toNat_ofNat, Nat.mod_mod])
theorem wb_shr {n k : Nat} (hn : n < 2 ^ 64) (hk : k < 64) : ((lN n).toUInt64 >>> ((nI k).toInt64.toUInt64 &&& Int64.toUInt64 63)).toInt64 = lN (n / 2 ^ k) := by
  rw [wb_cu k hk]
  apply wb_inj
  apply BitVec.eq_of_toNat_eq
  show ((lN n).toUInt64 >>> UInt64.ofNat k).toNat = (BitVec.ofNat 64 _).toNat
  have h1 : (UInt64.ofNat k).toNat = k := by
    show (BitVec.ofNat 64 k).toNat = k
    rw [BitVec.toNat_ofNat, Nat.mod_eq_of_lt (by omega)]
  have h2 : (lN n).toUInt64.toNat = n := wb_tn hn
  rw [UInt64.toNat_shiftRight, h1, h2, Nat.mod_eq_of_lt hk, Nat.shiftRight_eq_div_pow, BitVec.toNat_ofNat, Nat.mod_eq_of_lt (Nat.lt_of_le_of_lt (Nat.div_le_self _ _) hn)]
theorem wb_shl (n : Nat) {k : Nat} (hk : k < 64) : lN n <<< ((nI k).toInt64 &&& 63) = lN (n * 2 ^ k) := by
  rw [wb_c k hk]
  apply wb_inj
  rw [Int64.toBitVec_shiftLeft, wb_tb, wb_tb, wb_tb, wb_sm k hk]
  apply BitVec.eq_of_toNat_eq
  rw [BitVec.shiftLeft_eq', BitVec.toNat_shiftLeft, BitVec.toNat_ofNat, BitVec.toNat_ofNat, BitVec.toNat_ofNat, Nat.mod_eq_of_lt (show k < 2 ^ 64 by omega), Nat.shiftLeft_eq, Nat.mul_mod, Nat.mod_mod, ← Nat.mul_mod]
theorem wb_and {a b : Nat} (ha : a < 2 ^ 64) (hb : b < 2 ^ 64) : lN a &&& lN b = lN (a &&& b) := by
  apply wb_inj
  rw [Int64.toBitVec_and, wb_tb, wb_tb, wb_tb]
  apply BitVec.eq_of_toNat_eq
  rw [BitVec.toNat_and, BitVec.toNat_ofNat, BitVec.toNat_ofNat, BitVec.toNat_ofNat, Nat.mod_eq_of_lt ha, Nat.mod_eq_of_lt hb, Nat.mod_eq_of_lt (Nat.and_lt_two_pow _ hb)]
theorem wb_or {a b : Nat} (ha : a < 2 ^ 64) (hb : b < 2 ^ 64) : lN a ||| lN b = lN (a ||| b) := by
  apply wb_inj
  rw [Int64.toBitVec_or, wb_tb, wb_tb, wb_tb]
  apply BitVec.eq_of_toNat_eq
  rw [BitVec.toNat_or, BitVec.toNat_ofNat, BitVec.toNat_ofNat, BitVec.toNat_ofNat, Nat.mod_eq_of_lt ha, Nat.mod_eq_of_lt hb, Nat.mod_eq_of_lt (Nat.or_lt_two_pow ha hb)]
theorem wb_mask {n k : Nat} (hn : n < 2 ^ 64) (hk : k < 64) : lN n &&& lN (2 ^ k - 1) = lN (n % 2 ^ k) := by
  rw [wb_and hn (by have := wb_lt2 hk; omega), Nat.and_two_pow_sub_one_eq_mod]
theorem wb_a1 {n : Nat} (hn : n < 2 ^ 64) : lN n &&& 1 = lN (n % 2) := wb_mask (k := 1) hn (by decide)
theorem wb_bit {n k : Nat} (hn : n < 2 ^ 64) (hk : k < 64) : ((lN n).toUInt64 >>> ((nI k).toInt64.toUInt64 &&& Int64.toUInt64 63)).toInt64 &&& 1 = lN (n / 2 ^ k % 2) := by
  rw [wb_shr hn hk, wb_a1 (Nat.lt_of_le_of_lt (Nat.div_le_self _ _) hn)]
theorem wb_xor {q k : Nat} (hk : k < 63) (h : 2 ^ k ≤ q) (h2 : q < 2 ^ (k + 1)) : lN q ^^^ lN (2 ^ k) = lN (q - 2 ^ k) := by
  obtain ⟨r, rfl⟩ : ∃ r, q = 2 ^ k + r := ⟨q - 2 ^ k, by omega⟩
  have hr : r < 2 ^ k := by rw [Nat.pow_succ] at h2; omega
  have hx : (2 ^ k + r) ^^^ 2 ^ k = r := by
    apply Nat.eq_of_testBit_eq
    intro i
    rw [Nat.testBit_xor, Nat.testBit_two_pow]
    rcases Nat.lt_trichotomy i k with h | h | h
    · rw [Nat.testBit_two_pow_add_gt h]
      simp [show ¬ k = i by omega]
    · subst h
      rw [Nat.testBit_two_pow_add_eq]
      simp
    · have a1 : 2 ^ (k + 1) ≤ 2 ^ i := Nat.pow_le_pow_right (by decide) h
      rw [Nat.testBit_lt_two_pow (show 2 ^ k + r < 2 ^ i by omega), Nat.testBit_lt_two_pow (show r < 2 ^ i by omega)]
      simp [show ¬ k = i by omega]
  have b1 := wb_lt2 (show k + 1 < 64 by omega)
  have b2 := wb_lt2 (show k < 64 by omega)
  apply wb_inj
  rw [Int64.toBitVec_xor, wb_tb, wb_tb, wb_tb]
  apply BitVec.eq_of_toNat_eq
  rw [BitVec.toNat_xor, BitVec.toNat_ofNat, BitVec.toNat_ofNat, BitVec.toNat_ofNat, Nat.mod_eq_of_lt (by omega : 2 ^ k + r < 2 ^ 64), Nat.mod_eq_of_lt b2, hx, Nat.add_sub_cancel_left, Nat.mod_eq_of_lt (by omega)]
end
section
def hs_u (x k : Int32) : Int32 := (x.toUInt32 >>> (k.toUInt32 &&& Int32.toUInt32 31)).toInt32
def hs_1 (s t : Int32) : Int32 := s + t * (-1640531527)
def hs_2 (x : Int32) : Int32 := (x ^^^ hs_u x (nI 16)) * (-2048144789)
def hs_3 (x : Int32) : Int32 := (x ^^^ hs_u x (nI 13)) * (-1028477387)
def hs_4 (x : Int32) : Int32 := x ^^^ hs_u x (nI 16)
/-- HASH -/
def hsh (s t : Int32) : Int32 := hs_4 (hs_3 (hs_2 (hs_1 s t)))
/-- the sign of a HASH, as a number -/
def sgn (s t : Int32) : Nat := (hsh s t).toBitVec.toNat / 2 ^ 29
theorem nI_bv (x : Int32) : nI x.toBitVec.toNat = x := by
  apply Int32.toBitVec_inj.mp
  show (Int32.ofNat _).toBitVec = _
  simp
theorem sgn_lt (s t : Int32) : sgn s t < 8 := by
  have h : (hsh s t).toBitVec.toNat < 2 ^ 32 := (hsh s t).toBitVec.isLt
  unfold sgn
  omega
theorem sgn_eq (s t : Int32) : hs_u (hsh s t) (nI 29) = nI (sgn s t) := by
  rw [← nI_bv (hs_u (hsh s t) (nI 29))]
  unfold hs_u sgn
  rw [pk_ushr (hsh s t) (nI 29) 29 (by decide)]
def wi (x lo hi : Int32) : Bool := decide (lo ≤ x ∧ x ≤ hi)
theorem wi_f1 {x lo hi : Int32} (h : x < lo) : nI 0 = pb (wi x lo hi) := by
  have e : wi x lo hi = false := by
    unfold wi
    rw [decide_eq_false_iff_not]
    exact fun q => absurd h (Int32.not_lt.mpr q.1)
  rw [e]; rfl
theorem wi_f2 {x lo hi : Int32} (h : hi < x) : nI 0 = pb (wi x lo hi) := by
  have e : wi x lo hi = false := by
    unfold wi
    rw [decide_eq_false_iff_not]
    exact fun q => absurd h (Int32.not_lt.mpr q.2)
  rw [e]; rfl
theorem wi_t {x lo hi : Int32} (h : ¬ x < lo) (h2 : ¬ hi < x) : nI 1 = pb (wi x lo hi) := by
  have e : wi x lo hi = true := by
    unfold wi
    rw [decide_eq_true_iff]
    exact ⟨Int32.not_lt.mp h, Int32.not_lt.mp h2⟩
  rw [e]; rfl
def wl (x lo hi : Int64) : Bool := decide (lo ≤ x ∧ x ≤ hi)
theorem wl_f1 {x lo hi : Int64} (h : ¬ lo ≤ x) : nI 0 = pb (wl x lo hi) := by
  have e : wl x lo hi = false := by
    unfold wl
    rw [decide_eq_false_iff_not]
    exact fun q => absurd q.1 h
  rw [e]; rfl
theorem wl_f2 {x lo hi : Int64} (h : ¬ x ≤ hi) : nI 0 = pb (wl x lo hi) := by
  have e : wl x lo hi = false := by
    unfold wl
    rw [decide_eq_false_iff_not]
    exact fun q => absurd q.2 h
  rw [e]; rfl
theorem wl_t {x lo hi : Int64} (h : lo ≤ x) (h2 : x ≤ hi) : nI 1 = pb (wl x lo hi) := by
  have e : wl x lo hi = true := by
    unfold wl
    rw [decide_eq_true_iff]
    exact ⟨h, h2⟩
  rw [e]; rfl

set_option maxHeartbeats 4000000 in
set_option maxRecDepth 100000 in
theorem c_X4_mixed (l : Launch) (a t : Int32) : Met l yX4_mixed wsX4_mixed (k2_rm 0 0) (fun v _ => v = ([.int a, .int t]).toArray) (k2_QcV (.int (hsh a t))) 0 0 (fun _ => False) := by
  refine Met.ofW (cc := cX4_mixed) (maxL := 3) (ret := (some .int)) (by decide) rfl ?_
  intro p e s m args below meth c s₁ B hml hv
  obtain rfl := hv
  have hx := B.exec
  have hb := B.bytes
  have hr := B.returns
  have hts := atoms_spec (ws := wsX4_mixed) B.pre
  have hown : s.vm.findClass RX4 = some m.cls := findClass_of_methodNamed B.named
  have hlocks := B.notSynchronized
  have S : CallFix p m c cX4_mixed 3 s ([.int a, .int t]).toArray wsX4_mixed RX4 := ⟨hx, hb, hml, hown, hts⟩
  change W p l e (k2_rm 0 0) s m _ below meth c s.heap [] 0 0 _ _
  have hl := lv_entry ([.int a, .int t]) (n := 3) (Nat.le_of_ble_eq_true rfl)
  rw [lg_entry_eq]
  generalize (lg_sl ([.int a, .int t]) ++ List.replicate (3 - (lg_sl ([.int a, .int t])).length) Slot.unset).toArray = ls at hl ⊢
  have hl : lv_has ls 3 [(0, .int a), (1, .int t)] := hl
  refine lv_iload_n hx hb dX4_mixed_0 rfl (lv_at hl 0 rfl) ?_
  refine lv_iload_n hx hb dX4_mixed_1 rfl (lv_at hl 1 rfl) ?_
  refine lv_ldc hx hb hown (hts (.constant RX4 172 (-1640531527)) (List.mem_of_getElem? (i := 1) rfl)) dX4_mixed_2 ?_
  refine lv_imul hx hb dX4_mixed_4 ?_
  refine lv_iadd hx hb dX4_mixed_5 ?_
  refine lv_topi (fun x2_6 ex2_6 => ?_)
  refine lv_istore_n (lv' := [(2, .int x2_6), (0, .int a), (1, .int t)]) hx hb dX4_mixed_6 rfl hl (by decide) rfl (fun ls hl => ?_)
  refine lv_iload_n hx hb dX4_mixed_7 rfl (lv_at hl 0 rfl) ?_
  refine lv_iload_n hx hb dX4_mixed_8 rfl (lv_at hl 0 rfl) ?_
  refine lv_bipush (v := nI 16) hx hb dX4_mixed_9 (by decide) ?_
  refine lv_iushr (v := hs_u x2_6 (nI 16)) hx hb dX4_mixed_11 rfl ?_
  refine lv_ixor hx hb dX4_mixed_12 ?_
  refine lv_ldc hx hb hown (hts (.constant RX4 173 (-2048144789)) (List.mem_of_getElem? (i := 2) rfl)) dX4_mixed_13 ?_
  refine lv_imul hx hb dX4_mixed_15 ?_
  refine lv_topi (fun x2_16 ex2_16 => ?_)
  refine lv_istore_n (lv' := [(2, .int x2_16), (0, .int a), (1, .int t)]) hx hb dX4_mixed_16 rfl hl (by decide) rfl (fun ls hl => ?_)
  refine lv_iload_n hx hb dX4_mixed_17 rfl (lv_at hl 0 rfl) ?_
  refine lv_iload_n hx hb dX4_mixed_18 rfl (lv_at hl 0 rfl) ?_
  refine lv_bipush (v := nI 13) hx hb dX4_mixed_19 (by decide) ?_
  refine lv_iushr (v := hs_u x2_16 (nI 13)) hx hb dX4_mixed_21 rfl ?_
  refine lv_ixor hx hb dX4_mixed_22 ?_
  refine lv_ldc hx hb hown (hts (.constant RX4 174 (-1028477387)) (List.mem_of_getElem? (i := 3) rfl)) dX4_mixed_23 ?_
  refine lv_imul hx hb dX4_mixed_25 ?_
  refine lv_topi (fun x2_26 ex2_26 => ?_)
  refine lv_istore_n (lv' := [(2, .int x2_26), (0, .int a), (1, .int t)]) hx hb dX4_mixed_26 rfl hl (by decide) rfl (fun ls hl => ?_)
  refine lv_iload_n hx hb dX4_mixed_27 rfl (lv_at hl 0 rfl) ?_
  refine lv_iload_n hx hb dX4_mixed_28 rfl (lv_at hl 0 rfl) ?_
  refine lv_bipush (v := nI 16) hx hb dX4_mixed_29 (by decide) ?_
  refine lv_iushr (v := hs_u x2_26 (nI 16)) hx hb dX4_mixed_31 rfl ?_
  refine lv_ixor hx hb dX4_mixed_32 ?_
  refine pw_topi (y := hsh a t) (by subst ex2_26 ex2_16 ex2_6; rfl) ?_
  exact W.iret hx hb hr (fun t ht _ => ⟨rfl, ht⟩) (fun q h => by cases h) dX4_mixed_33

set_option maxHeartbeats 4000000 in
set_option maxRecDepth 100000 in
theorem c_X4_signAt (l : Launch) (a t : Int32) : Met l yX4_signAt wsX4_signAt (k2_rm 1 22) (fun v _ => v = ([.int a, .int t]).toArray) (k2_QcV (.int (nI (sgn a t)))) 0 0 (fun _ => False) := by
  refine Met.ofW (cc := cX4_signAt) (maxL := 2) (ret := (some .int)) (by decide) rfl ?_
  intro p e s m args below meth c s₁ B hml hv
  obtain rfl := hv
  have hx := B.exec
  have hb := B.bytes
  have hr := B.returns
  have hts := atoms_spec (ws := wsX4_signAt) B.pre
  have hown : s.vm.findClass RX4 = some m.cls := findClass_of_methodNamed B.named
  have hlocks := B.notSynchronized
  have S : CallFix p m c cX4_signAt 2 s ([.int a, .int t]).toArray wsX4_signAt RX4 := ⟨hx, hb, hml, hown, hts⟩
  change W p l e (k2_rm 1 22) s m _ below meth c s.heap [] 0 0 _ _
  have hl := lv_entry ([.int a, .int t]) (n := 2) (Nat.le_of_ble_eq_true rfl)
  rw [lg_entry_eq]
  generalize (lg_sl ([.int a, .int t]) ++ List.replicate (2 - (lg_sl ([.int a, .int t])).length) Slot.unset).toArray = ls at hl ⊢
  have hl : lv_has ls 2 [(0, .int a), (1, .int t)] := hl
  refine lv_iload_n hx hb dX4_signAt_0 rfl (lv_at hl 0 rfl) ?_
  refine lv_iload_n hx hb dX4_signAt_1 rfl (lv_at hl 1 rfl) ?_
  refine pw_cs S 2 (c_X4_mixed l a t) gX4_signAt_X4_mixed rfl rfl rfl (by decide +kernel) ⟨Nat.le_of_ble_eq_true rfl, Nat.le_of_ble_eq_true rfl⟩ rfl hl.1 rfl (Nat.le_of_ble_eq_true rfl) dX4_signAt_2 ⟨Nat.le_refl _, Nat.le_refl _⟩ ?_
  refine lv_bipush (v := nI 29) hx hb dX4_signAt_5 (by decide) ?_
  refine lv_iushr (v := hs_u (hsh a t) (nI 29)) hx hb dX4_signAt_7 rfl ?_
  refine pw_topi (y := nI (sgn a t)) (sgn_eq _ _) ?_
  exact W.iret hx hb hr (fun t ht _ => ⟨rfl, ht⟩) (fun q h => by cases h) dX4_signAt_8

set_option maxHeartbeats 4000000 in
set_option maxRecDepth 100000 in
theorem c_X4_isWithin (l : Launch) (x lo hi : Int32) : Met l yX4_isWithin wsX4_isWithin (k2_rm 0 0) (fun v _ => v = ([.int x, .int lo, .int hi]).toArray) (k2_QcV (.int (pb (wi x lo hi)))) 0 0 (fun _ => False) := by
  refine Met.ofW (cc := cX4_isWithin) (maxL := 3) (ret := (some .boolean)) (by decide) rfl ?_
  intro p e s m args below meth c s₁ B hml hv
  obtain rfl := hv
  have hx := B.exec
  have hb := B.bytes
  have hr := B.returns
  have hts := atoms_spec (ws := wsX4_isWithin) B.pre
  have hown : s.vm.findClass RX4 = some m.cls := findClass_of_methodNamed B.named
  have hlocks := B.notSynchronized
  have S : CallFix p m c cX4_isWithin 3 s ([.int x, .int lo, .int hi]).toArray wsX4_isWithin RX4 := ⟨hx, hb, hml, hown, hts⟩
  change W p l e (k2_rm 0 0) s m _ below meth c s.heap [] 0 0 _ _
  have hl := lv_entry ([.int x, .int lo, .int hi]) (n := 3) (Nat.le_of_ble_eq_true rfl)
  rw [lg_entry_eq]
  generalize (lg_sl ([.int x, .int lo, .int hi]) ++ List.replicate (3 - (lg_sl ([.int x, .int lo, .int hi])).length) Slot.unset).toArray = ls at hl ⊢
  have hl : lv_has ls 3 [(0, .int x), (1, .int lo), (2, .int hi)] := hl
  refine lv_iload_n hx hb dX4_isWithin_0 rfl (lv_at hl 0 rfl) ?_
  refine lv_iload_n hx hb dX4_isWithin_1 rfl (lv_at hl 1 rfl) ?_
  refine lv_icmp_lt (tgt := 14) hx hb dX4_isWithin_2 (by decide) (fun c_2 => ?_) (fun c_2 => ?_)
  · refine lv_iconst (v := nI 0) hx hb dX4_isWithin_14 (by decide) ?_
    refine pw_topi (y := pb (wi x lo hi)) (by first | exact wi_f1 c_2 | exact wi_f2 c_7 | exact wi_t c_2 c_7) ?_
    exact W.zret hx hb hr (pb_nar _) (fun t ht _ => ⟨rfl, ht⟩) (fun q h => by cases h) dX4_isWithin_15
  · refine lv_iload_n hx hb dX4_isWithin_5 rfl (lv_at hl 0 rfl) ?_
    refine lv_iload_n hx hb dX4_isWithin_6 rfl (lv_at hl 2 rfl) ?_
    refine lv_icmp_gt (tgt := 14) hx hb dX4_isWithin_7 (by decide) (fun c_7 => ?_) (fun c_7 => ?_)
    · refine lv_iconst (v := nI 0) hx hb dX4_isWithin_14 (by decide) ?_
      refine pw_topi (y := pb (wi x lo hi)) (by first | exact wi_f1 c_2 | exact wi_f2 c_7 | exact wi_t c_2 c_7) ?_
      exact W.zret hx hb hr (pb_nar _) (fun t ht _ => ⟨rfl, ht⟩) (fun q h => by cases h) dX4_isWithin_15
    · refine lv_iconst (v := nI 1) hx hb dX4_isWithin_10 (by decide) ?_
      refine lv_goto (tgt := 15) hx hb dX4_isWithin_11 (by decide) ?_
      refine pw_topi (y := pb (wi x lo hi)) (by first | exact wi_f1 c_2 | exact wi_f2 c_7 | exact wi_t c_2 c_7) ?_
      exact W.zret hx hb hr (pb_nar _) (fun t ht _ => ⟨rfl, ht⟩) (fun q h => by cases h) dX4_isWithin_15

set_option maxHeartbeats 4000000 in
set_option maxRecDepth 100000 in
theorem c_X4_isBound (l : Launch) (x : Int64) : Met l yX4_isBound wsX4_isBound (k2_rm 0 0) (fun v _ => v = ([.long x]).toArray) (k2_QcV (.int (pb (wl x 1 4611686018427387904)))) 0 0 (fun _ => False) := by
  refine Met.ofW (cc := cX4_isBound) (maxL := 2) (ret := (some .boolean)) (by decide) rfl ?_
  intro p e s m args below meth c s₁ B hml hv
  obtain rfl := hv
  have hx := B.exec
  have hb := B.bytes
  have hr := B.returns
  have hts := atoms_spec (ws := wsX4_isBound) B.pre
  have hown : s.vm.findClass RX4 = some m.cls := findClass_of_methodNamed B.named
  have hlocks := B.notSynchronized
  have S : CallFix p m c cX4_isBound 2 s ([.long x]).toArray wsX4_isBound RX4 := ⟨hx, hb, hml, hown, hts⟩
  change W p l e (k2_rm 0 0) s m _ below meth c s.heap [] 0 0 _ _
  have hl := lv_entry ([.long x]) (n := 2) (Nat.le_of_ble_eq_true rfl)
  rw [lg_entry_eq]
  generalize (lg_sl ([.long x]) ++ List.replicate (2 - (lg_sl ([.long x])).length) Slot.unset).toArray = ls at hl ⊢
  have hl : lv_has ls 2 [(0, .long x)] := hl
  refine lv_lload_n hx hb dX4_isBound_0 rfl (lv_at hl 0 rfl) ?_
  refine lv_lconst (v := 1) hx hb dX4_isBound_1 (by decide) ?_
  refine W.lcmp hx hb dX4_isBound_2 ?_
  refine pn_lif_lt (tgt := 18) hx hb dX4_isBound_3 (by decide) (fun c_3 => ?_) (fun c_3 => ?_)
  · refine lv_iconst (v := nI 0) hx hb dX4_isBound_18 (by decide) ?_
    refine pw_topi (y := pb (wl x 1 4611686018427387904)) (by first | exact wl_f1 (Int64.not_le.mpr c_3) | exact wl_f2 (Int64.not_le.mpr c_11) | exact wl_t (Int64.not_lt.mp c_3) (Int64.not_lt.mp c_11)) ?_
    exact W.zret hx hb hr (pb_nar _) (fun t ht _ => ⟨rfl, ht⟩) (fun q h => by cases h) dX4_isBound_19
  · refine lv_lload_n hx hb dX4_isBound_6 rfl (lv_at hl 0 rfl) ?_
    refine lv_ldc2 hx hb hown (hts (.constantLong RX4 170 (4611686018427387904)) (List.mem_of_getElem? (i := 1) rfl)) dX4_isBound_7 ?_
    refine W.lcmp hx hb dX4_isBound_10 ?_
    refine pn_lif_gt (tgt := 18) hx hb dX4_isBound_11 (by decide) (fun c_11 => ?_) (fun c_11 => ?_)
    · refine lv_iconst (v := nI 0) hx hb dX4_isBound_18 (by decide) ?_
      refine pw_topi (y := pb (wl x 1 4611686018427387904)) (by first | exact wl_f1 (Int64.not_le.mpr c_3) | exact wl_f2 (Int64.not_le.mpr c_11) | exact wl_t (Int64.not_lt.mp c_3) (Int64.not_lt.mp c_11)) ?_
      exact W.zret hx hb hr (pb_nar _) (fun t ht _ => ⟨rfl, ht⟩) (fun q h => by cases h) dX4_isBound_19
    · refine lv_iconst (v := nI 1) hx hb dX4_isBound_14 (by decide) ?_
      refine lv_goto (tgt := 19) hx hb dX4_isBound_15 (by decide) ?_
      refine pw_topi (y := pb (wl x 1 4611686018427387904)) (by first | exact wl_f1 (Int64.not_le.mpr c_3) | exact wl_f2 (Int64.not_le.mpr c_11) | exact wl_t (Int64.not_lt.mp c_3) (Int64.not_lt.mp c_11)) ?_
      exact W.zret hx hb hr (pb_nar _) (fun t ht _ => ⟨rfl, ht⟩) (fun q h => by cases h) dX4_isBound_19
end
section
def hc_mix (x : Nat) : Nat :=
  let a := ((x ^^^ (x / 65536)) * 2246822507) % 4294967296
  let b := ((a ^^^ (a / 8192)) * 3266489909) % 4294967296
  b ^^^ (b / 65536)
def hc_one : Nat → Nat → Bool
  | 0, _ => false
  | f + 1, x => if hc_mix x < 2147483648 then true else hc_one f ((x + 1013904242) % 4294967296)
def hc_all (lo : Nat) : Nat → Bool
  | 0 => true
  | n + 1 => hc_one 41 (lo + n) && hc_all lo n
theorem hc_one_ok : ∀ (f y : Nat), hc_one f (y % 4294967296) = true → ∃ k, k < f ∧ hc_mix ((y + k * 1013904242) % 4294967296) < 2147483648 := by
  intro f
  induction f with
  | zero => intro y h; simp [hc_one] at h
  | succ f ih =>
    intro y h
    unfold hc_one at h
    by_cases hm : hc_mix (y % 4294967296) < 2147483648
    · exact ⟨0, by omega, by simpa using hm⟩
    · rw [if_neg hm] at h
      have e : (y % 4294967296 + 1013904242) % 4294967296 = (y + 1013904242) % 4294967296 := by omega
      rw [e] at h
      obtain ⟨k, hk, hq⟩ := ih (y + 1013904242) h
      refine ⟨k + 1, by omega, ?_⟩
      have e2 : y + (k + 1) * 1013904242 = y + 1013904242 + k * 1013904242 := by omega
      rw [e2]; exact hq
theorem hc_all_ok (lo : Nat) : ∀ n, hc_all lo n = true → ∀ j, j < n → hc_one 41 (lo + j) = true := by
  intro n
  induction n with
  | zero => intro _ j hj; omega
  | succ n ih =>
    intro h j hj
    unfold hc_all at h
    rw [Bool.and_eq_true] at h
    rcases Nat.lt_or_ge j n with q | q
    · exact ih h.2 j q
    · have : j = n := by omega
      subst this; exact h.1

set_option maxRecDepth 100000 in
theorem hc_b0 : hc_all 0 1000 = true := by decide +kernel

set_option maxRecDepth 100000 in
theorem hc_b1 : hc_all 1000 1000 = true := by decide +kernel

set_option maxRecDepth 100000 in
theorem hc_b2 : hc_all 2000 1000 = true := by decide +kernel

set_option maxRecDepth 100000 in
theorem hc_b3 : hc_all 3000 1000 = true := by decide +kernel

set_option maxRecDepth 100000 in
theorem hc_b4 : hc_all 4000 1000 = true := by decide +kernel

set_option maxRecDepth 100000 in
theorem hc_b5 : hc_all 5000 1000 = true := by decide +kernel

set_option maxRecDepth 100000 in
theorem hc_b6 : hc_all 6000 1000 = true := by decide +kernel

set_option maxRecDepth 100000 in
theorem hc_b7 : hc_all 7000 1000 = true := by decide +kernel

set_option maxRecDepth 100000 in
theorem hc_b8 : hc_all 8000 1000 = true := by decide +kernel

set_option maxRecDepth 100000 in
theorem hc_b9 : hc_all 9000 1000 = true := by decide +kernel

set_option maxRecDepth 100000 in
theorem hc_b10 : hc_all 10000 1000 = true := by decide +kernel

set_option maxRecDepth 100000 in
theorem hc_b11 : hc_all 11000 1000 = true := by decide +kernel

set_option maxRecDepth 100000 in
theorem hc_b12 : hc_all 12000 1000 = true := by decide +kernel

set_option maxRecDepth 100000 in
theorem hc_b13 : hc_all 13000 1000 = true := by decide +kernel

set_option maxRecDepth 100000 in
theorem hc_b14 : hc_all 14000 1000 = true := by decide +kernel

set_option maxRecDepth 100000 in
theorem hc_b15 : hc_all 15000 1000 = true := by decide +kernel

set_option maxRecDepth 100000 in
theorem hc_b16 : hc_all 16000 1000 = true := by decide +kernel

set_option maxRecDepth 100000 in
theorem hc_b17 : hc_all 17000 1000 = true := by decide +kernel

set_option maxRecDepth 100000 in
theorem hc_b18 : hc_all 18000 1000 = true := by decide +kernel

set_option maxRecDepth 100000 in
theorem hc_b19 : hc_all 19000 1000 = true := by decide +kernel

set_option maxRecDepth 100000 in
theorem hc_b20 : hc_all 20000 1000 = true := by decide +kernel

set_option maxRecDepth 100000 in
theorem hc_b21 : hc_all 21000 1000 = true := by decide +kernel

set_option maxRecDepth 100000 in
theorem hc_b22 : hc_all 22000 1000 = true := by decide +kernel

set_option maxRecDepth 100000 in
theorem hc_b23 : hc_all 23000 406 = true := by decide +kernel

def hc_P (w K : Nat) : Prop := ∀ y, y < w → ∃ k, k ≤ K ∧ hc_mix ((y + k * 1013904242) % 4294967296) < 2147483648
theorem hc_blk {lo n : Nat} (h : hc_all lo n = true) (hlo : lo + n ≤ 4294967296) {y : Nat} (h1 : lo ≤ y) (h2 : y < lo + n) : ∃ k, k ≤ 40 ∧ hc_mix ((y + k * 1013904242) % 4294967296) < 2147483648 := by
  have h3 := hc_all_ok lo n h (y - lo) (by omega)
  have e : lo + (y - lo) = y := by omega
  rw [e] at h3
  have e2 : y % 4294967296 = y := Nat.mod_eq_of_lt (by omega)
  rw [← e2] at h3
  obtain ⟨k, hk, hq⟩ := hc_one_ok 41 y h3
  exact ⟨k, by omega, hq⟩
theorem hc_P0 : hc_P 23406 40 := by
  intro y hy
  rcases Nat.lt_or_ge y 1000 with q0 | q0
  · exact hc_blk hc_b0 (by decide) (by omega) (by omega)
  rcases Nat.lt_or_ge y 2000 with q1 | q1
  · exact hc_blk hc_b1 (by decide) (by omega) (by omega)
  rcases Nat.lt_or_ge y 3000 with q2 | q2
  · exact hc_blk hc_b2 (by decide) (by omega) (by omega)
  rcases Nat.lt_or_ge y 4000 with q3 | q3
  · exact hc_blk hc_b3 (by decide) (by omega) (by omega)
  rcases Nat.lt_or_ge y 5000 with q4 | q4
  · exact hc_blk hc_b4 (by decide) (by omega) (by omega)
  rcases Nat.lt_or_ge y 6000 with q5 | q5
  · exact hc_blk hc_b5 (by decide) (by omega) (by omega)
  rcases Nat.lt_or_ge y 7000 with q6 | q6
  · exact hc_blk hc_b6 (by decide) (by omega) (by omega)
  rcases Nat.lt_or_ge y 8000 with q7 | q7
  · exact hc_blk hc_b7 (by decide) (by omega) (by omega)
  rcases Nat.lt_or_ge y 9000 with q8 | q8
  · exact hc_blk hc_b8 (by decide) (by omega) (by omega)
  rcases Nat.lt_or_ge y 10000 with q9 | q9
  · exact hc_blk hc_b9 (by decide) (by omega) (by omega)
  rcases Nat.lt_or_ge y 11000 with q10 | q10
  · exact hc_blk hc_b10 (by decide) (by omega) (by omega)
  rcases Nat.lt_or_ge y 12000 with q11 | q11
  · exact hc_blk hc_b11 (by decide) (by omega) (by omega)
  rcases Nat.lt_or_ge y 13000 with q12 | q12
  · exact hc_blk hc_b12 (by decide) (by omega) (by omega)
  rcases Nat.lt_or_ge y 14000 with q13 | q13
  · exact hc_blk hc_b13 (by decide) (by omega) (by omega)
  rcases Nat.lt_or_ge y 15000 with q14 | q14
  · exact hc_blk hc_b14 (by decide) (by omega) (by omega)
  rcases Nat.lt_or_ge y 16000 with q15 | q15
  · exact hc_blk hc_b15 (by decide) (by omega) (by omega)
  rcases Nat.lt_or_ge y 17000 with q16 | q16
  · exact hc_blk hc_b16 (by decide) (by omega) (by omega)
  rcases Nat.lt_or_ge y 18000 with q17 | q17
  · exact hc_blk hc_b17 (by decide) (by omega) (by omega)
  rcases Nat.lt_or_ge y 19000 with q18 | q18
  · exact hc_blk hc_b18 (by decide) (by omega) (by omega)
  rcases Nat.lt_or_ge y 20000 with q19 | q19
  · exact hc_blk hc_b19 (by decide) (by omega) (by omega)
  rcases Nat.lt_or_ge y 21000 with q20 | q20
  · exact hc_blk hc_b20 (by decide) (by omega) (by omega)
  rcases Nat.lt_or_ge y 22000 with q21 | q21
  · exact hc_blk hc_b21 (by decide) (by omega) (by omega)
  rcases Nat.lt_or_ge y 23000 with q22 | q22
  · exact hc_blk hc_b22 (by decide) (by omega) (by omega)
  exact hc_blk hc_b23 (by decide) (by omega) (by omega)

theorem hc_step {d K ki q w : Nat} (hk : (ki * 1013904242 + d) % 4294967296 = 0) (hd : 0 < d) (hw : w ≤ (q + 1) * d) (h : hc_P d K) : hc_P w (K + q * ki) := by
  intro y hy
  have hj : y / d < q + 1 := Nat.div_lt_of_lt_mul (by rw [Nat.mul_comm]; omega)
  obtain ⟨k, hk1, hk2⟩ := h (y % d) (Nat.mod_lt _ hd)
  refine ⟨k + y / d * ki, ?_, ?_⟩
  · have : y / d * ki ≤ q * ki := Nat.mul_le_mul_right _ (by omega)
    omega
  · obtain ⟨c, hc⟩ := Nat.dvd_of_mod_eq_zero hk
    have e0 : y = d * (y / d) + y % d := (Nat.div_add_mod y d).symm
    have e : y + (k + y / d * ki) * 1013904242 = (y % d + k * 1013904242) + 4294967296 * (y / d * c) := by
      have e1 : 4294967296 * (y / d * c) = y / d * (ki * 1013904242 + d) := by rw [hc, Nat.mul_left_comm]
      rw [e1, Nat.mul_add, Nat.add_mul, Nat.mul_comm (y / d) d, Nat.mul_assoc]
      generalize y / d * (ki * 1013904242) = z
      omega
    rw [e, Nat.add_mul_mod_self_left]
    exact hk2

theorem hc_P1 : hc_P 64480 150090 := hc_step (d := 23406) (K := 40) (ki := 75025) (q := 2) (by decide +kernel) (by decide) (by decide) hc_P0

theorem hc_P2 : hc_P 234514 219642 := hc_step (d := 64480) (K := 150090) (ki := 23184) (q := 3) (by decide +kernel) (by decide) (by decide) hc_P1

theorem hc_P3 : hc_P 404548 237353 := hc_step (d := 234514) (K := 219642) (ki := 17711) (q := 1) (by decide +kernel) (by decide) (by decide) hc_P2

theorem hc_P4 : hc_P 744616 249591 := hc_step (d := 404548) (K := 237353) (ki := 12238) (q := 1) (by decide +kernel) (by decide) (by decide) hc_P3

theorem hc_P5 : hc_P 3893114 256051 := hc_step (d := 744616) (K := 249591) (ki := 1292) (q := 5) (by decide +kernel) (by decide) (by decide) hc_P4

theorem hc_P6 : hc_P 7041612 257038 := hc_step (d := 3893114) (K := 256051) (ki := 987) (q := 1) (by decide +kernel) (by decide) (by decide) hc_P5

theorem hc_P7 : hc_P 13338608 257720 := hc_step (d := 7041612) (K := 257038) (ki := 682) (q := 1) (by decide +kernel) (by decide) (by decide) hc_P6

theorem hc_P8 : hc_P 69841538 258080 := hc_step (d := 13338608) (K := 257720) (ki := 72) (q := 5) (by decide +kernel) (by decide) (by decide) hc_P7

theorem hc_P9 : hc_P 126344468 258135 := hc_step (d := 69841538) (K := 258080) (ki := 55) (q := 1) (by decide +kernel) (by decide) (by decide) hc_P8

theorem hc_P10 : hc_P 239350328 258173 := hc_step (d := 126344468) (K := 258135) (ki := 38) (q := 1) (by decide +kernel) (by decide) (by decide) hc_P9

theorem hc_P11 : hc_P 1253254570 258193 := hc_step (d := 239350328) (K := 258173) (ki := 4) (q := 5) (by decide +kernel) (by decide) (by decide) hc_P10

theorem hc_P12 : hc_P 2267158812 258196 := hc_step (d := 1253254570) (K := 258193) (ki := 3) (q := 1) (by decide +kernel) (by decide) (by decide) hc_P11

theorem hc_P13 : hc_P 4294967296 258198 := hc_step (d := 2267158812) (K := 258196) (ki := 2) (q := 1) (by decide +kernel) (by decide) (by decide) hc_P12

theorem hs_u_nat (x : Int32) (k : Nat) (hk : k < 32) : (hs_u x (nI k)).toBitVec.toNat = x.toBitVec.toNat / 2 ^ k := pk_ushr x (nI k) k (s_u k hk)
theorem hsh_nat (a t : Int32) : (hsh a t).toBitVec.toNat = hc_mix ((a.toBitVec.toNat + t.toBitVec.toNat * 2654435769) % 4294967296) := by
  have h1 : (hs_1 a t).toBitVec.toNat = (a.toBitVec.toNat + t.toBitVec.toNat * 2654435769) % 4294967296 := by
    unfold hs_1
    rw [Int32.toBitVec_add, Int32.toBitVec_mul, BitVec.toNat_add, BitVec.toNat_mul]
    have e : (-1640531527 : Int32).toBitVec.toNat = 2654435769 := by decide
    rw [e]
    omega
  have h2 : ∀ x : Int32, (hs_2 x).toBitVec.toNat = ((x.toBitVec.toNat ^^^ (x.toBitVec.toNat / 65536)) * 2246822507) % 4294967296 := by
    intro x
    unfold hs_2
    rw [Int32.toBitVec_mul, BitVec.toNat_mul, Int32.toBitVec_xor, BitVec.toNat_xor, hs_u_nat x 16 (by decide)]
    have e : (-2048144789 : Int32).toBitVec.toNat = 2246822507 := by decide
    rw [e]
  have h3 : ∀ x : Int32, (hs_3 x).toBitVec.toNat = ((x.toBitVec.toNat ^^^ (x.toBitVec.toNat / 8192)) * 3266489909) % 4294967296 := by
    intro x
    unfold hs_3
    rw [Int32.toBitVec_mul, BitVec.toNat_mul, Int32.toBitVec_xor, BitVec.toNat_xor, hs_u_nat x 13 (by decide)]
    have e : (-1028477387 : Int32).toBitVec.toNat = 3266489909 := by decide
    rw [e]
  unfold hsh hs_4 hc_mix
  rw [Int32.toBitVec_xor, BitVec.toNat_xor, hs_u_nat _ 16 (by decide), h3, h2, h1]
theorem nI_tn {n : Nat} (h : n < 2 ^ 32) : (nI n).toBitVec.toNat = n := pk_tn h
/-- some HASH of an odd number below two million has its highest bit 0 -/
theorem hs_low (a : Int32) : ∃ k, k < 1000000 ∧ (hsh a (nI (2 * k + 1))).toBitVec.toNat < 2147483648 := by
  obtain ⟨k, hk, hq⟩ := hc_P13 ((a.toBitVec.toNat + 2654435769) % 4294967296) (Nat.mod_lt _ (by decide))
  refine ⟨k, by omega, ?_⟩
  rw [hsh_nat, nI_tn (by omega)]
  have e : ((a.toBitVec.toNat + 2654435769) % 4294967296 + k * 1013904242) % 4294967296 = (a.toBitVec.toNat + (2 * k + 1) * 2654435769) % 4294967296 := by omega
  rw [← e]; exact hq
end
section
theorem pl_1 : (1 : Int64) = lN 1 := by decide
theorem pl_shl1 {j : Nat} (hj : j < 64) : (1 : Int64) <<< ((nI j).toInt64 &&& 63) = lN (2 ^ j) := by
  rw [pl_1, wb_shl 1 hj, Nat.one_mul]
theorem pow62 {j : Nat} (h : j ≤ 62) : 2 ^ j < 2 ^ 63 := Nat.pow_lt_pow_right (by decide) (by omega)

set_option maxHeartbeats 4000000 in
set_option maxRecDepth 100000 in
theorem L_bitsFor {p : Program} {l : Launch} {e : Env} {s : State} {m : MethodId} {args : Array Value} {below : List Frame} {meth : Method} {c : Code} {H : Heap} {locs : List Loc} {Q : State → Prop} (S : CallFix p m c cX4_bitsFor 3 s args wsX4_bitsFor RX4)  (N b : Nat) (hN : N ≤ 2 ^ 62) (hb0 : b ≤ 62) (hb1 : N ≤ 2 ^ b) (hb2 : ∀ j, j < b → 2 ^ j < N) (hk : ∀ ls, lv_has ls 3 [(2, .int (nI b)), (0, .long (lN N))] → W p l e (k2_rm 0 0) s m args below meth c H locs 0 0 Q (F0 m 22 ls [])) : ∀ (f : Nat) (j : Nat) (ls : Array Slot), b - j < f → j ≤ b → lv_has ls 3 [(2, .int (nI j)), (0, .long (lN N))] → W p l e (k2_rm 0 0) s m args below meth c H locs 0 0 Q (F0 m 2 ls []) := by
  have hx := S.1
  have hb := S.2.1
  have hml := S.2.2.1
  have hown := S.2.2.2.1
  have hts := S.2.2.2.2
  intro f
  induction f with
  | zero => intro j ls hf; exact absurd hf (Nat.not_lt_zero _)
  | succ f ih =>
    intro j ls hf hj hl
    refine lv_iload_n hx hb dX4_bitsFor_2 rfl (lv_at hl 0 rfl) ?_
    refine lv_bipush (v := nI 62) hx hb dX4_bitsFor_3 (by decide) ?_
    refine pn_icmp_ge (tgt := 22) hx hb (by omega) (by omega) dX4_bitsFor_5 (by decide) (fun c_5 => ?_) (fun c_5 => ?_)
    · obtain rfl : j = b := by omega
      exact hk ls (lv_sub hl [0, 1] rfl)
    · have hp := pow62 (j := j) (by omega)
      refine lv_lconst (v := 1) hx hb dX4_bitsFor_8 (by decide) ?_
      refine lv_iload_n hx hb dX4_bitsFor_9 rfl (lv_at hl 0 rfl) ?_
      refine lv_lshl hx hb dX4_bitsFor_10 rfl ?_
      refine pw_topl (y := lN (2 ^ j)) (pl_shl1 (by omega)) ?_
      refine lv_lload_n hx hb dX4_bitsFor_11 rfl (lv_at hl 1 rfl) ?_
      refine W.lcmp hx hb dX4_bitsFor_12 ?_
      refine pn_lif_ge (tgt := 22) hx hb dX4_bitsFor_13 (by decide) (fun c_13 => ?_) (fun c_13 => ?_)
      · rw [pk_lLE (by omega) hp] at c_13
        have hjb : j = b := by
          rcases Nat.lt_or_ge j b with q | q
          · have := hb2 j q; omega
          · omega
        subst hjb
        exact hk ls (lv_sub hl [0, 1] rfl)
      · rw [pk_lLE (by omega) hp] at c_13
        have hjb : j < b := by
          rcases Nat.lt_or_ge j b with q | q
          · exact q
          · have : j = b := by omega
            subst this; omega
        refine lv_iinc (v := nI (j + 1)) (lv' := [(2, .int (nI (j + 1))), (0, .long (lN N))]) hx hb dX4_bitsFor_16 hl (k := 0) rfl (nI_add _ 1) (by decide) rfl (fun ls hl => ?_)
        refine lv_goto (tgt := 2) hx hb dX4_bitsFor_19 (by decide) ?_
        exact ih (j + 1) ls (by omega) (by omega) (lv_sub hl [0, 1] rfl)

set_option maxHeartbeats 4000000 in
set_option maxRecDepth 100000 in
theorem c_X4_bitsFor (l : Launch) (N b : Nat) (hN : N ≤ 2 ^ 62) (hb0 : b ≤ 62) (hb1 : N ≤ 2 ^ b) (hb2 : ∀ j, j < b → 2 ^ j < N) : Met l yX4_bitsFor wsX4_bitsFor (k2_rm 0 0) (fun v _ => v = ([.long (lN N)]).toArray) (k2_QcV (.int (nI b))) 0 0 (fun _ => False) := by
  refine Met.ofW (cc := cX4_bitsFor) (maxL := 3) (ret := (some .int)) (by decide) rfl ?_
  intro p e s m args below meth c s₁ B hml hv
  obtain rfl := hv
  have hx := B.exec
  have hb := B.bytes
  have hr := B.returns
  have hts := atoms_spec (ws := wsX4_bitsFor) B.pre
  have hown : s.vm.findClass RX4 = some m.cls := findClass_of_methodNamed B.named
  have hlocks := B.notSynchronized
  have S : CallFix p m c cX4_bitsFor 3 s ([.long (lN N)]).toArray wsX4_bitsFor RX4 := ⟨hx, hb, hml, hown, hts⟩
  change W p l e (k2_rm 0 0) s m _ below meth c s.heap [] 0 0 _ _
  have hl := lv_entry ([.long (lN N)]) (n := 3) (Nat.le_of_ble_eq_true rfl)
  rw [lg_entry_eq]
  generalize (lg_sl ([.long (lN N)]) ++ List.replicate (3 - (lg_sl ([.long (lN N)])).length) Slot.unset).toArray = ls at hl ⊢
  have hl : lv_has ls 3 [(0, .long (lN N))] := hl
  refine lv_iconst (v := nI 0) hx hb dX4_bitsFor_0 (by decide) ?_
  refine lv_istore_n (lv' := [(2, .int (nI 0)), (0, .long (lN N))]) hx hb dX4_bitsFor_1 rfl hl (by decide) rfl (fun ls hl => ?_)
  refine L_bitsFor S N b hN hb0 hb1 hb2 (fun ls hl => ?_) (b + 1) 0 ls (by omega) (by omega) (lv_sub hl [0, 1] rfl)
  refine lv_iload_n hx hb dX4_bitsFor_22 rfl (lv_at hl 0 rfl) ?_
  exact W.iret hx hb hr (fun t ht _ => ⟨rfl, ht⟩) (fun q h => by cases h) dX4_bitsFor_23

/-- the highest b bits of the long that two HASHES make -/
def tb (a : Int32) (k b : Nat) : Int64 := if b = 0 then 0 else ((((hsh a (nI (2 * k + 1))).toInt64 <<< ((nI 32).toInt64 &&& 63)) ||| ((hsh a (nI (2 * k + 2))).toInt64 &&& 4294967295)).toUInt64 >>> ((nI (64 - b)).toInt64.toUInt64 &&& Int64.toUInt64 63)).toInt64

set_option maxHeartbeats 4000000 in
set_option maxRecDepth 100000 in
theorem c_X4_topBits (l : Launch) (a : Int32) (k b : Nat) (hb0 : b ≤ 62) : Met l yX4_topBits wsX4_topBits (k2_rm 1 22) (fun v _ => v = ([.int a, .int (nI k), .int (nI b)]).toArray) (k2_QcV (.long (tb a k b))) 0 0 (fun _ => False) := by
  refine Met.ofW (cc := cX4_topBits) (maxL := 7) (ret := (some .long)) (by decide) rfl ?_
  intro p e s m args below meth c s₁ B hml hv
  obtain rfl := hv
  have hx := B.exec
  have hb := B.bytes
  have hr := B.returns
  have hts := atoms_spec (ws := wsX4_topBits) B.pre
  have hown : s.vm.findClass RX4 = some m.cls := findClass_of_methodNamed B.named
  have hlocks := B.notSynchronized
  have S : CallFix p m c cX4_topBits 7 s ([.int a, .int (nI k), .int (nI b)]).toArray wsX4_topBits RX4 := ⟨hx, hb, hml, hown, hts⟩
  change W p l e (k2_rm 1 22) s m _ below meth c s.heap [] 0 0 _ _
  have hl := lv_entry ([.int a, .int (nI k), .int (nI b)]) (n := 7) (Nat.le_of_ble_eq_true rfl)
  rw [lg_entry_eq]
  generalize (lg_sl ([.int a, .int (nI k), .int (nI b)]) ++ List.replicate (7 - (lg_sl ([.int a, .int (nI k), .int (nI b)])).length) Slot.unset).toArray = ls at hl ⊢
  have hl : lv_has ls 7 [(0, .int a), (1, .int (nI k)), (2, .int (nI b))] := hl
  refine lv_iload_n hx hb dX4_topBits_0 rfl (lv_at hl 2 rfl) ?_
  refine pn_ifne_n (tgt := 6) hx hb (by omega) dX4_topBits_1 (by decide) (fun c_1 => ?_) (fun c_1 => ?_)
  · refine lv_iload_n hx hb dX4_topBits_6 rfl (lv_at hl 0 rfl) ?_
    refine lv_iconst (v := nI 2) hx hb dX4_topBits_7 (by decide) ?_
    refine lv_iload_n hx hb dX4_topBits_8 rfl (lv_at hl 1 rfl) ?_
    refine lv_imul hx hb dX4_topBits_9 ?_
    refine pw_topi (pk_mul _ _) ?_
    refine lv_iconst (v := nI 1) hx hb dX4_topBits_10 (by decide) ?_
    refine lv_iadd hx hb dX4_topBits_11 ?_
    refine pw_topi (nI_add _ _) ?_
    refine pw_cs S 2 (c_X4_mixed l a (nI ((2 * k) + 1))) gX4_topBits_X4_mixed rfl rfl rfl (by decide +kernel) ⟨Nat.le_of_ble_eq_true rfl, Nat.le_of_ble_eq_true rfl⟩ rfl hl.1 rfl (Nat.le_of_ble_eq_true rfl) dX4_topBits_12 ⟨Nat.le_refl _, Nat.le_refl _⟩ ?_
    refine lv_i2l hx hb dX4_topBits_15 rfl ?_
    refine lv_bipush (v := nI 32) hx hb dX4_topBits_16 (by decide) ?_
    refine lv_lshl hx hb dX4_topBits_18 rfl ?_
    refine lv_topl (fun x3_19 ex3_19 => ?_)
    refine lv_lstore_n (lv' := [(3, .long x3_19), (0, .int a), (1, .int (nI k)), (2, .int (nI b))]) hx hb dX4_topBits_19 rfl hl (by decide) rfl (fun ls hl => ?_)
    refine lv_iload_n hx hb dX4_topBits_20 rfl (lv_at hl 1 rfl) ?_
    refine lv_iconst (v := nI 2) hx hb dX4_topBits_21 (by decide) ?_
    refine lv_iload_n hx hb dX4_topBits_22 rfl (lv_at hl 2 rfl) ?_
    refine lv_imul hx hb dX4_topBits_23 ?_
    refine pw_topi (pk_mul _ _) ?_
    refine lv_iconst (v := nI 2) hx hb dX4_topBits_24 (by decide) ?_
    refine lv_iadd hx hb dX4_topBits_25 ?_
    refine pw_topi (nI_add _ _) ?_
    refine pw_cs S 2 (c_X4_mixed l a (nI ((2 * k) + 2))) gX4_topBits_X4_mixed rfl rfl rfl (by decide +kernel) ⟨Nat.le_of_ble_eq_true rfl, Nat.le_of_ble_eq_true rfl⟩ rfl hl.1 rfl (Nat.le_of_ble_eq_true rfl) dX4_topBits_26 ⟨Nat.le_refl _, Nat.le_refl _⟩ ?_
    refine lv_i2l hx hb dX4_topBits_29 rfl ?_
    refine lv_ldc2 hx hb hown (hts (.constantLong RX4 175 (4294967295)) (List.mem_of_getElem? (i := 1) rfl)) dX4_topBits_30 ?_
    refine lv_land hx hb dX4_topBits_33 ?_
    refine lv_topl (fun x5_34 ex5_34 => ?_)
    refine lv_lstore (lv' := [(5, .long x5_34), (3, .long x3_19), (0, .int a), (1, .int (nI k)), (2, .int (nI b))]) hx hb dX4_topBits_34 hl (by decide) rfl (fun ls hl => ?_)
    refine lv_lload_n hx hb dX4_topBits_36 rfl (lv_at hl 1 rfl) ?_
    refine lv_lload hx hb dX4_topBits_37 (lv_at hl 0 rfl) ?_
    refine lv_lor hx hb dX4_topBits_39 ?_
    refine lv_bipush (v := nI 64) hx hb dX4_topBits_40 (by decide) ?_
    refine lv_iload_n hx hb dX4_topBits_42 rfl (lv_at hl 4 rfl) ?_
    refine lv_isub hx hb dX4_topBits_43 ?_
    refine pw_topi (pk_sub (by omega)) ?_
    refine lv_lushr hx hb dX4_topBits_44 rfl ?_
    refine pw_topl (y := tb a k b) (by first | (subst c_1; rfl) | (unfold tb; rw [if_neg c_1]; subst ex3_19 ex5_34; rfl)) ?_
    exact W.lret hx hb hr (fun t ht _ => ⟨rfl, ht⟩) (fun q h => by cases h) dX4_topBits_45
  · refine lv_lconst (v := 0) hx hb dX4_topBits_4 (by decide) ?_
    refine pw_topl (y := tb a k b) (by first | (subst c_1; rfl) | (unfold tb; rw [if_neg c_1]; subst ex3_19 ex5_34; rfl)) ?_
    exact W.lret hx hb hr (fun t ht _ => ⟨rfl, ht⟩) (fun q h => by cases h) dX4_topBits_5

set_option maxHeartbeats 4000000 in
set_option maxRecDepth 100000 in
theorem L_firstBelow {p : Program} {l : Launch} {e : Env} {s : State} {m : MethodId} {args : Array Value} {below : List Frame} {meth : Method} {c : Code} {H : Heap} {locs : List Loc} {Q : State → Prop} (S : CallFix p m c cX4_firstBelow 5 s args wsX4_firstBelow RX4)  (a : Int32) (n : Int64) (k b : Nat) (hb0 : b ≤ 62) (hk0 : k < 1000000) (hk1 : tb a k b < n) (hk2 : ∀ j, j < k → ¬ tb a j b < n) (hk : ∀ ls, lv_has ls 5 [(4, .int (nI k))] → W p l e (k2_rm 2 48) s m args below meth c H locs 0 0 Q (F0 m 28 ls [])) : ∀ (f : Nat) (j : Nat) (ls : Array Slot), k - j < f → j ≤ k → lv_has ls 5 [(4, .int (nI j)), (0, .int a), (1, .long n), (3, .int (nI b))] → W p l e (k2_rm 2 48) s m args below meth c H locs 0 0 Q (F0 m 3 ls []) := by
  have hx := S.1
  have hb := S.2.1
  have hml := S.2.2.1
  have hown := S.2.2.2.1
  have hts := S.2.2.2.2
  intro f
  induction f with
  | zero => intro j ls hf; exact absurd hf (Nat.not_lt_zero _)
  | succ f ih =>
    intro j ls hf hj hl
    refine lv_iload hx hb dX4_firstBelow_3 (lv_at hl 0 rfl) ?_
    refine lv_ldc hx hb hown (hts (.constant RX4 177 (1000000)) (List.mem_of_getElem? (i := 1) rfl)) dX4_firstBelow_5 ?_
    refine pw_topi (y := nI 1000000) (by decide) ?_
    refine pn_icmp_ge (tgt := 28) hx hb (by omega) (by omega) dX4_firstBelow_7 (by decide) (fun c_7 => absurd c_7 (by omega)) (fun c_7 => ?_)
    refine lv_iload_n hx hb dX4_firstBelow_10 rfl (lv_at hl 1 rfl) ?_
    refine lv_iload hx hb dX4_firstBelow_11 (lv_at hl 0 rfl) ?_
    refine lv_iload_n hx hb dX4_firstBelow_13 rfl (lv_at hl 3 rfl) ?_
    refine pw_cs S 3 (c_X4_topBits l a j b hb0) gX4_firstBelow_X4_topBits rfl rfl rfl (by decide +kernel) ⟨Nat.le_of_ble_eq_true rfl, Nat.le_of_ble_eq_true rfl⟩ rfl hl.1 rfl (Nat.le_of_ble_eq_true rfl) dX4_firstBelow_14 ⟨Nat.le_refl _, Nat.le_refl _⟩ ?_
    refine lv_lload_n hx hb dX4_firstBelow_17 rfl (lv_at hl 2 rfl) ?_
    refine W.lcmp hx hb dX4_firstBelow_18 ?_
    refine pn_lif_lt (tgt := 28) hx hb dX4_firstBelow_19 (by decide) (fun c_19 => ?_) (fun c_19 => ?_)
    · have hjk : j = k := by
        rcases Nat.lt_or_ge j k with q | q
        · exact absurd c_19 (hk2 j q)
        · omega
      subst hjk
      exact hk ls (lv_sub hl [0] rfl)
    · have hjk : j < k := by
        rcases Nat.lt_or_ge j k with q | q
        · exact q
        · have : j = k := by omega
          subst this; exact absurd hk1 c_19
      refine lv_iinc (v := nI (j + 1)) (lv' := [(4, .int (nI (j + 1))), (0, .int a), (1, .long n), (3, .int (nI b))]) hx hb dX4_firstBelow_22 hl (k := 0) rfl (nI_add _ 1) (by decide) rfl (fun ls hl => ?_)
      refine lv_goto (tgt := 3) hx hb dX4_firstBelow_25 (by decide) ?_
      exact ih (j + 1) ls (by omega) (by omega) (lv_sub hl [0, 1, 2, 3] rfl)

set_option maxHeartbeats 4000000 in
set_option maxRecDepth 100000 in
theorem c_X4_firstBelow (l : Launch) (a : Int32) (n : Int64) (k b : Nat) (hb0 : b ≤ 62) (hk0 : k < 1000000) (hk1 : tb a k b < n) (hk2 : ∀ j, j < k → ¬ tb a j b < n) : Met l yX4_firstBelow wsX4_firstBelow (k2_rm 2 48) (fun v _ => v = ([.int a, .long n, .int (nI b)]).toArray) (k2_QcV (.int (nI k))) 0 0 (fun _ => False) := by
  refine Met.ofW (cc := cX4_firstBelow) (maxL := 5) (ret := (some .int)) (by decide) rfl ?_
  intro p e s m args below meth c s₁ B hml hv
  obtain rfl := hv
  have hx := B.exec
  have hb := B.bytes
  have hr := B.returns
  have hts := atoms_spec (ws := wsX4_firstBelow) B.pre
  have hown : s.vm.findClass RX4 = some m.cls := findClass_of_methodNamed B.named
  have hlocks := B.notSynchronized
  have S : CallFix p m c cX4_firstBelow 5 s ([.int a, .long n, .int (nI b)]).toArray wsX4_firstBelow RX4 := ⟨hx, hb, hml, hown, hts⟩
  change W p l e (k2_rm 2 48) s m _ below meth c s.heap [] 0 0 _ _
  have hl := lv_entry ([.int a, .long n, .int (nI b)]) (n := 5) (Nat.le_of_ble_eq_true rfl)
  rw [lg_entry_eq]
  generalize (lg_sl ([.int a, .long n, .int (nI b)]) ++ List.replicate (5 - (lg_sl ([.int a, .long n, .int (nI b)])).length) Slot.unset).toArray = ls at hl ⊢
  have hl : lv_has ls 5 [(0, .int a), (1, .long n), (3, .int (nI b))] := hl
  refine lv_iconst (v := nI 0) hx hb dX4_firstBelow_0 (by decide) ?_
  refine lv_istore (lv' := [(4, .int (nI 0)), (0, .int a), (1, .long n), (3, .int (nI b))]) hx hb dX4_firstBelow_1 hl (by decide) rfl (fun ls hl => ?_)
  refine L_firstBelow S a n k b hb0 hk0 hk1 hk2 (fun ls hl => ?_) (k + 1) 0 ls (by omega) (by omega) (lv_sub hl [0, 1, 2, 3] rfl)
  refine lv_iload hx hb dX4_firstBelow_28 (lv_at hl 0 rfl) ?_
  exact W.iret hx hb hr (fun t ht _ => ⟨rfl, ht⟩) (fun q h => by cases h) dX4_firstBelow_30

/-- the first of 1, 2, 4, .. from p on that is x or more, or 4096 or more -/
def pwF : Nat → Nat → Nat → Nat
  | 0, p, _ => p
  | f + 1, p, x => if p < x ∧ p < 4096 then pwF f (p * 2) x else p
def pw2 (x : Nat) : Nat := pwF 13 1 x

set_option maxHeartbeats 4000000 in
set_option maxRecDepth 100000 in
theorem L_powerFrom {p : Program} {l : Launch} {e : Env} {s : State} {m : MethodId} {args : Array Value} {below : List Frame} {meth : Method} {c : Code} {H : Heap} {locs : List Loc} {Q : State → Prop} (S : CallFix p m c cX4_powerFrom 2 s args wsX4_powerFrom RX4) (x : Nat) (hx0 : x ≤ 4096) : ∀ (f q : Nat) (ls : Array Slot), (∀ ls, lv_has ls 2 [(1, .int (nI (pwF f q x)))] → W p l e (k2_rm 0 0) s m args below meth c H locs 0 0 Q (F0 m 21 ls [])) → q < 8192 → 8192 ≤ q * 2 ^ f → lv_has ls 2 [(1, .int (nI q)), (0, .int (nI x))] → W p l e (k2_rm 0 0) s m args below meth c H locs 0 0 Q (F0 m 2 ls []) := by
  have hx := S.1
  have hb := S.2.1
  intro f
  induction f with
  | zero => intro q ls hk h1 h2 hl; omega
  | succ f ih =>
    intro q ls hk h1 h2 hl
    rw [Nat.pow_succ, Nat.mul_comm (2 ^ f), ← Nat.mul_assoc] at h2
    refine lv_iload_n hx hb dX4_powerFrom_2 rfl (lv_at hl 0 rfl) ?_
    refine lv_iload_n hx hb dX4_powerFrom_3 rfl (lv_at hl 1 rfl) ?_
    refine pn_icmp_ge (tgt := 21) hx hb (by omega) (by omega) dX4_powerFrom_4 (by decide) (fun c_4 => ?_) (fun c_4 => ?_)
    · rw [pwF, if_neg (by omega)] at hk
      exact hk ls (lv_sub hl [0] rfl)
    · refine lv_iload_n hx hb dX4_powerFrom_7 rfl (lv_at hl 0 rfl) ?_
      refine lv_sipush (v := nI 4096) hx hb dX4_powerFrom_8 (by decide) ?_
      refine pn_icmp_ge (tgt := 21) hx hb (by omega) (by omega) dX4_powerFrom_11 (by decide) (fun c_11 => ?_) (fun c_11 => ?_)
      · rw [pwF, if_neg (by omega)] at hk
        exact hk ls (lv_sub hl [0] rfl)
      · rw [pwF, if_pos (by omega)] at hk
        refine lv_iload_n hx hb dX4_powerFrom_14 rfl (lv_at hl 0 rfl) ?_
        refine lv_iconst (v := nI 2) hx hb dX4_powerFrom_15 (by decide) ?_
        refine lv_imul hx hb dX4_powerFrom_16 ?_
        refine pw_topi (pk_mul _ _) ?_
        refine lv_istore_n (lv' := [(1, .int (nI (q * 2))), (0, .int (nI x))]) hx hb dX4_powerFrom_17 rfl hl (by decide) rfl (fun ls hl => ?_)
        refine lv_goto (tgt := 2) hx hb dX4_powerFrom_18 (by decide) ?_
        exact ih (q * 2) ls hk (by omega) h2 (lv_sub hl [0, 1] rfl)

set_option maxHeartbeats 4000000 in
set_option maxRecDepth 100000 in
theorem c_X4_powerFrom (l : Launch) (x : Nat) (hx0 : x ≤ 4096) : Met l yX4_powerFrom wsX4_powerFrom (k2_rm 0 0) (fun v _ => v = ([.int (nI x)]).toArray) (k2_QcV (.int (nI (pw2 x)))) 0 0 (fun _ => False) := by
  refine Met.ofW (cc := cX4_powerFrom) (maxL := 2) (ret := (some .int)) (by decide) rfl ?_
  intro p e s m args below meth c s₁ B hml hv
  obtain rfl := hv
  have hx := B.exec
  have hb := B.bytes
  have hr := B.returns
  have hts := atoms_spec (ws := wsX4_powerFrom) B.pre
  have hown : s.vm.findClass RX4 = some m.cls := findClass_of_methodNamed B.named
  have hlocks := B.notSynchronized
  have S : CallFix p m c cX4_powerFrom 2 s ([.int (nI x)]).toArray wsX4_powerFrom RX4 := ⟨hx, hb, hml, hown, hts⟩
  change W p l e (k2_rm 0 0) s m _ below meth c s.heap [] 0 0 _ _
  have hl := lv_entry ([.int (nI x)]) (n := 2) (Nat.le_of_ble_eq_true rfl)
  rw [lg_entry_eq]
  generalize (lg_sl ([.int (nI x)]) ++ List.replicate (2 - (lg_sl ([.int (nI x)])).length) Slot.unset).toArray = ls at hl ⊢
  have hl : lv_has ls 2 [(0, .int (nI x))] := hl
  refine lv_iconst (v := nI 1) hx hb dX4_powerFrom_0 (by decide) ?_
  refine lv_istore_n (lv' := [(1, .int (nI 1)), (0, .int (nI x))]) hx hb dX4_powerFrom_1 rfl hl (by decide) rfl (fun ls hl => ?_)
  refine L_powerFrom S x hx0 13 1 ls (fun ls hl => ?_) (by decide) (by decide) (lv_sub hl [0, 1] rfl)
  refine lv_iload_n hx hb dX4_powerFrom_21 rfl (lv_at hl 0 rfl) ?_
  refine pw_topi (y := nI (pw2 x)) rfl ?_
  exact W.iret hx hb hr (fun t ht _ => ⟨rfl, ht⟩) (fun q h => by cases h) dX4_powerFrom_22
end
section
section PW4
variable {p : Program} {l : Launch} {e : Env} {R : Room} {s : State} {m : MethodId} {args : Array Value} {below : List Frame} {meth : Method} {c : Code} {H : Heap} {locs : List Loc} {cells slots : Nat} {Q : State → Prop}
variable {cc : ByteArray} {pc : Nat} {ls : Array Slot} {rest : List Value} {D : va_G} {cy : Nat → ClassId} {Ad : Nat → Nat} {sh : Nat → Nat × Nat × Nat} {C : pw_C} {H0 : Heap}
theorem pw_get (hexec : p.tables.exec = Jvm.exec) (hb : c.code = cc) {own Cn : String} {T : u_T} {N ci index b : Nat} {Ts : List Cond} (hts : ∀ w ∈ Ts, w.before args s = true) (hin : ∀ w ∈ u_ws Cn T N, w ∈ Ts) (hown : s.vm.findClass own = some m.cls) (hK : pw_K D cy s) (hP : pw_P D cy Ad sh C H) (k : Nat) (hs : sh k = (6, ci, b)) (hc : vwCl[ci]? = some (Cn, T, N)) (j : Nat) (hj : j < N) {fs : List Value} (hf : C.2.2 k = fs) {v : Value} (hv : fs[j]? = some v)
    (hlink : (Cond.fieldLink own index (T j).1 (T j).2.1 (T j).2.2.1).before args s = true) (hdg : decode cc pc = .ok (.getfield index, 3))
    (kk : W p l e R s m args below meth c H locs cells slots Q (F0 m (pc + 3) ls (v :: rest))) : W p l e R s m args below meth c H locs cells slots Q (F0 m pc ls (.ref (Ad k) :: rest)) := by
  have h1 : va_P D vwCl [(Ad k, .inr (ci, fs))] H := pw_one (hP k _ (by simp [pw_E, hs, hf]))
  exact va_get (D := D) hexec hb hts hin hown hK.1 h1 0 rfl hc j hj hlink (fun _ h9 => h9) hv hdg kk
theorem pw_put (hexec : p.tables.exec = Jvm.exec) (hb : c.code = cc) {own Cn : String} {T : u_T} {N ci index b : Nat} {Ts : List Cond} (hts : ∀ w ∈ Ts, w.before args s = true) (hin : ∀ w ∈ u_ws Cn T N, w ∈ Ts) (ty0 : Nat → FieldType) (hty : ∀ k, k < N → parseFieldDescriptor (T k).2.2.1 = some (ty0 k)) (hnm : ∀ a, a < N → ∀ b, b < N → a ≠ b → (T a).2.1 ≠ (T b).2.1) (hown : s.vm.findClass own = some m.cls) (hK : pw_K D cy s) (hP : pw_P D cy Ad sh C H) (hI : pw_I Ad sh) (hS0 : va_S (pw_fr Ad sh) H0 H locs) (k : Nat) (hs : sh k = (6, ci, b)) (hc : vwCl[ci]? = some (Cn, T, N)) (j : Nat) (hj : j < N) {fs : List Value} (hf : C.2.2 k = fs)
    (hlink : (Cond.fieldLink own index (T j).1 (T j).2.1 (T j).2.2.1).before args s = true) (hfin : (T j).2.2.2 = false) {ty : FieldType} {v : Value} (hd : parseFieldDescriptor (T j).2.2.1 = some ty) (hn : narrow ty v = v) (hfit : fits ty v = true) (hl : j < fs.length) (hdg : decode cc pc = .ok (.putfield index, 3))
    (kk : ∀ (H1 : Heap) (locs1 : List Loc), pw_P D cy Ad sh (pw_setF C k (fs.set j v)) H1 → va_S (pw_fr Ad sh) H0 H1 locs1 → W p l e R s m args below meth c H1 locs1 cells slots Q (F0 m (pc + 3) ls rest)) : W p l e R s m args below meth c H locs cells slots Q (F0 m pc ls (v :: .ref (Ad k) :: rest)) := by
  have h0 : pw_E cy Ad sh C k = some (.inr (ci, fs)) := by simp [pw_E, hs, hf]
  have hap := va_apart (own := own) hts hin ty0 hty hnm hK.1 hc
  obtain ⟨r, h1, cell, q1, q2, q3, q4⟩ := hP k _ h0
  have hr : r = (Cn, T, N) := Option.some.inj (h1.symm.trans hc)
  subst hr
  obtain ⟨hS, hfc, kC, hkC, hkind⟩ := hK.1.1 ci _ hc
  obtain ⟨cf, kf, fi, f, hi, hsl⟩ := hS j hj
  have hlay := hts _ (hin _ (u_in_lay hj))
  unfold u_lay at hlay
  rw [if_neg (by rw [hfin]; decide)] at hlay
  have hst := (u_facts hfc hkC (u_lays hts hin hj) hi).1
  have h6 := u_store hfc hkC hkind hlay hi hd hn hfit
  refine W.putK hexec hb (f := f) ⟨hown, hlink, ⟨_, _, _, hi⟩, hst⟩ (by rw [q2]; exact h6) q1 q3 (by rw [hsl]; exact k2_hasslot (q4 j hj)) rfl rfl hdg fun H' e1 e2 e3 => ?_
  rw [hsl] at e1 ⊢
  refine kk H' _ (pw_store hP hI h0 (pw_setF C k (fs.set j v)) (e1 := .inr (ci, fs.set j v)) (by simp [pw_E, hs, pw_setF]) (fun i hi => by simp [pw_E, pw_setF, hi]) ?_ e3) (hS0.put e2 e3 ⟨k, pw_E_L h0, rfl⟩)
  exact ⟨_, hc, t_OB.to (V := updV (vp_V fs) j v) ⟨_, e1, q2, q3, t_set q4 hap hj v⟩ (fun i _ => vp_updV_set hl v i)⟩
def pw_setR (C : pw_C) (k : Nat) (f : Nat → Int32) : pw_C := (fun j => if j = k then f else C.1 j, C.2)
def pw_setRL (C : pw_C) (k : Nat) (f : Nat → Int64) : pw_C := (C.1, fun j => if j = k then f else C.2.1 j, C.2.2)
theorem pw_copy (hexec : p.tables.exec = Jvm.exec) (hb : c.code = cc) (hml : c.maxLocals = ls.size) {own : String} {index : Nat} (hown : s.vm.findClass own = some m.cls) (hlink : (Cond.methodLink own index arraycopyName).before args s = true) (hnat : (Cond.native arraycopyName).before args s = true) (hstat : (Cond.static arraycopyName).before args s = true) (hini : (Cond.initialized "java/lang/System").before args s = true)
    (hK : pw_K D cy s) (hP : pw_P D cy Ad sh C H) (hI : pw_I Ad sh) (hS : va_S (pw_fr Ad sh) H0 H locs) (k0 k1 : Nat) {n0 n1 b0 b1 n : Nat} (hs0 : sh k0 = (1, n0, b0)) (hs1 : sh k1 = (1, n1, b1)) (h0 : n ≤ n0) (h1 : n ≤ n1) (hn : n < 2 ^ 31)
    (hframes : 1 ≤ R.frames) (hlocals : (rest.map fun v => v.category).sum + (nativeFrameWords "java/lang/System" "arraycopy" 5 + 11) ≤ R.locals) (hdg : decode cc pc = .ok (.invokestatic index, 3))
    (kk : ∀ (H1 : Heap) (locs1 : List Loc), pw_P D cy Ad sh (pw_setR C k1 (fun j => if j < n then C.1 k0 j else C.1 k1 j)) H1 → va_S (pw_fr Ad sh) H0 H1 locs1 → W p l e R s m args below meth c H1 locs1 cells slots Q (F0 m (pc + 3) ls rest)) : W p l e R s m args below meth c H locs cells slots Q (F0 m pc ls (.int (nI n) :: .int (nI 0) :: .ref (Ad k1) :: .int (nI 0) :: .ref (Ad k0) :: rest)) := by
  have e0 : pw_E cy Ad sh C k0 = some (.inl (cy 0, n0, .inl (C.1 k0))) := by simp [pw_E, hs0]
  have e1 : pw_E cy Ad sh C k1 = some (.inl (cy 0, n1, .inl (C.1 k1))) := by simp [pw_E, hs1]
  have hc0 : H[Ad k0]? = some (vp_cell (cy 0) (n0, .inl (C.1 k0))) := hP k0 _ e0
  have hc1 : H[Ad k1]? = some (vp_cell (cy 0) (n1, .inl (C.1 k1))) := hP k1 _ e1
  intro T hT X
  obtain ⟨-, q0, hk0, cm0, hkk0⟩ := (hK.1.2 0 _ rfl).1 n0 (fun j => .int (C.1 k0 j))
  obtain ⟨-, q1, hk1, cm1, hkk1⟩ := (hK.1.2 0 _ rfl).1 n1 (fun j => .int (C.1 k1 j))
  have ez : (nI 0).toNatClampNeg = 0 := by decide
  have en : (nI n).toNatClampNeg = n := nI_clamp hn
  have ti0 : (nI 0).toInt = 0 := by decide
  have tin : (nI n).toInt = (n : Int) := nI_toInt hn
  obtain ⟨vm', X', step⟩ := X.arraycopy hexec hown hlink hnat hstat hini (src := Ad k0) (dst := Ad k1) (cs := vp_cell (cy 0) (n0, .inl (C.1 k0))) (cd := vp_cell (cy 0) (n1, .inl (C.1 k1))) (srcPos := nI 0) (destPos := nI 0) (n := nI n) (by rw [hT]; exact hc0) (by rw [hT]; exact hc1)
    (fun _ h => by cases h) (fun _ h => by cases h) (fun h => by cases h) (fun h => by cases h) hk0 hk1 hkk0 hkk1 (by rfl) (by decide) (by decide) (nI_pos hn)
    (by rw [ti0, tin]; show ¬ _ > ((arrV (cy 0) n0 (fun j => .int (C.1 k0 j))).slots.size : Int); rw [arrV_size]; omega)
    (by rw [ti0, tin]; show ¬ _ > ((arrV (cy 0) n1 (fun j => .int (C.1 k1 j))).slots.size : Int); rw [arrV_size]; omega)
    (fun vm₁ _ i hi => by
      rw [en] at hi
      have e : (vp_cell (cy 0) (n0, .inl (C.1 k0))).slots.getD ((nI 0).toNatClampNeg + i) .null = .int (C.1 k0 i) := by
        show (arrV (cy 0) n0 (fun j => .int (C.1 k0 j))).slots.getD _ _ = _
        rw [ez, Nat.zero_add, Array.getD_eq_getD_getElem?, arrV_read _ _ (by omega)]
        rfl
      refine ⟨?_, ?_⟩
      · rw [e]
        rfl
      · rw [e]
        exact trivial)
    (g := F0 m pc ls (.int (nI n) :: .int (nI 0) :: .ref (Ad k1) :: .int (nI 0) :: .ref (Ad k0) :: rest)) rfl (by rw [hml]) (rest := rest) rfl (by rw [hb]; exact hdg) hframes (by show 2 * 0 + _ + _ ≤ _; omega)
  have ec : copied (vp_cell (cy 0) (n0, .inl (C.1 k0))) (vp_cell (cy 0) (n1, .inl (C.1 k1))) (nI 0) (nI 0) (nI n) = vp_cell (cy 0) (n1, .inl (fun j => if j < n then C.1 k0 j else C.1 k1 j)) := by
    have h4 : (nI 0).toNatClampNeg + (nI n).toNatClampNeg ≤ n0 := by rw [ez, en]; omega
    have h9 : copied (vp_cell (cy 0) (n0, .inl (C.1 k0))) (vp_cell (cy 0) (n1, .inl (C.1 k1))) (nI 0) (nI 0) (nI n) = vp_cell (cy 0) (n1, .inl (va_cpy (C.1 k0) (C.1 k1) (nI 0).toNatClampNeg (nI 0).toNatClampNeg (nI n).toNatClampNeg)) := va_copied (fun z => .int z) (cy 0) (cy 0) (C.1 k0) (C.1 k1) h4
    refine h9.trans ?_
    rw [ez, en, vp_cell_i, vp_cell_i]
    refine congrArg (arrV (cy 0) n1) (funext fun j => ?_)
    unfold va_cpy
    by_cases hj : j < n
    · rw [if_pos ⟨Nat.zero_le _, by omega⟩, if_pos hj]
      simp
    · rw [if_neg (by omega), if_neg hj]
  rw [ec] at X' step
  have hl : Ad k1 < H.size := (Array.getElem?_eq_some_iff.mp hc1).1
  have hheap : ((T.setVm vm').setCell (Ad k1) (vp_cell (cy 0) (n1, .inl (fun j => if j < n then C.1 k0 j else C.1 k1 j)))).heap = H.setIfInBounds (Ad k1) (vp_cell (cy 0) (n1, .inl (fun j => if j < n then C.1 k0 j else C.1 k1 j))) := by rw [← hT]; rfl
  have oq : ∀ q : Nat, q ≠ Ad k1 → (H.setIfInBounds (Ad k1) (vp_cell (cy 0) (n1, .inl (fun j => if j < n then C.1 k0 j else C.1 k1 j))))[q]? = H[q]? := fun q hq => by simp [Array.getElem?_setIfInBounds, Ne.symm hq]
  have hfr : pw_fr Ad sh (Ad k1) := ⟨k1, pw_E_L e1, rfl⟩
  obtain ⟨t, a1, b1⟩ := kk _ _ (pw_store hP hI e1 (pw_setR C k1 (fun j => if j < n then C.1 k0 j else C.1 k1 j)) (e1 := .inl (cy 0, n1, .inl (fun j => if j < n then C.1 k0 j else C.1 k1 j))) (by simp [pw_E, hs1, pw_setR]) (fun i hi => by simp [pw_E, pw_setR, hi]) (show (H.setIfInBounds (Ad k1) _)[Ad k1]? = some _ by simp [Array.getElem?_setIfInBounds, hl]) oq) ⟨by simp; exact hS.1, fun q g1 g2 => by
      rw [oq q (fun e => g2 (by rw [e]; exact hfr))]
      exact hS.2.1 q g1 g2, fun q hq => by
      rcases List.mem_append.mp hq with h | h
      · exact hS.2.2 q h
      · obtain ⟨z, -, hz⟩ := List.mem_map.mp h
        rw [← hz]
        exact hfr⟩ _ hheap X'
  exact ⟨t, step t a1, b1⟩
end PW4
/-- the cells of a PastDraws of n states -/
def shX (n k : Nat) : Nat × Nat × Nat :=
  if k < 21 then ([(6, 4, 0), (6, 0, 0), (6, 1, 0), (6, 2, 0), (6, 3, 0), (4, 8, 21), (1, n, 0), (1, n, 0), (1, 2 ^ n, 0), (1, 2 ^ n, 0), (5, n, 29), (4, n, 41), (3, n, 0), (5, 26, 53), (1, 8, 0), (1, 256, 0), (1, 16, 0), (1, 16, 0), (1, 16, 0), (1, 16, 0), (3, 16, 0)] : List (Nat × Nat × Nat)).getD k (0, 0, 0)
  else if k < 29 then (1, n, 0)
  else if k < 41 then (if k - 29 < n then (2, n, 0) else (0, 0, 0))
  else if k < 53 then (if k - 41 < n then (1, 4, 0) else (0, 0, 0))
  else if k < 79 then (2, n, 0) else (0, 0, 0)
theorem shX_nx {n u : Nat} (h : u < 8) : shX n (21 + u) = (1, n, 0) := by
  unfold shX; rw [if_neg (by omega), if_pos (by omega)]
theorem shX_mi {n u : Nat} (h : u < n) (hn : n ≤ 12) : shX n (29 + u) = (2, n, 0) := by
  unfold shX; rw [if_neg (by omega), if_neg (by omega), if_pos (by omega), if_pos (by omega)]
theorem shX_mx {n u : Nat} (h : u < n) (hn : n ≤ 12) : shX n (41 + u) = (1, 4, 0) := by
  unfold shX; rw [if_neg (by omega), if_neg (by omega), if_neg (by omega), if_pos (by omega), if_pos (by omega)]
theorem shX_co {n u : Nat} (h : u < 26) : shX n (53 + u) = (2, n, 0) := by
  unfold shX; rw [if_neg (by omega), if_neg (by omega), if_neg (by omega), if_neg (by omega), if_pos (by omega)]
def fX (n mm : Nat) (Ad : Nat → Nat) (C : pw_C) : Prop :=
  C.2.2 0 = [.int (nI n), .ref (Ad 1), .ref (Ad 2), .ref (Ad 3), .ref (Ad 4)] ∧
  C.2.2 1 = [.int (nI n), .ref (Ad 5), .ref (Ad 6), .ref (Ad 7), .ref (Ad 8), .ref (Ad 9), .ref (Ad 10)] ∧
  C.2.2 2 = [.int (nI n), .ref (Ad 11), .ref (Ad 12), .ref (Ad 13)] ∧
  C.2.2 3 = [.ref (Ad 14), .ref (Ad 15)] ∧
  C.2.2 4 = [.ref (Ad 16), .ref (Ad 17), .ref (Ad 18), .ref (Ad 19), .ref (Ad 20), .int (nI mm)]
/-- the cells of the reference -/
def shM (k : Nat) : Nat × Nat × Nat := ([(6, 5, 0), (1, 96, 0), (1, 48, 0), (3, 12, 0), (3, 64, 0), (1, 16, 0), (1, 12, 0), (1, 12, 0), (1, 144, 0), (1, 144, 0), (2, 144, 0), (2, 312, 0), (1, 256, 0), (1, 16, 0), (1, 16, 0), (1, 16, 0), (3, 16, 0)] : List (Nat × Nat × Nat)).getD k (0, 0, 0)
def fM (n th : Nat) (pk : Int64) (tr : Int32) (Ad : Nat → Nat) (C : pw_C) : Prop :=
  C.2.2 0 = [.int (nI n), .ref (Ad 1), .ref (Ad 2), .ref (Ad 3), .ref (Ad 4), .int (nI th), .ref (Ad 5), .long pk, .int tr, .ref (Ad 6), .ref (Ad 7), .ref (Ad 8), .ref (Ad 9), .ref (Ad 10), .ref (Ad 11), .ref (Ad 12), .ref (Ad 13), .ref (Ad 14), .ref (Ad 15), .ref (Ad 16)]
/-- the chain, as a function of sign and state -/
def gN (n : Nat) (nx : Nat → Nat → Nat) (C : pw_C) : Prop := ∀ u, u < 8 → ∀ x, x < n → nx u x < n ∧ C.1 (21 + u) x = nI (nx u x)
theorem sh_t1 : shX 3 5 = (4, 8, 21) := rfl
theorem sh_t2 (n : Nat) : shX n 8 = (1, 2 ^ n, 0) := rfl
theorem sh_t3 : shM 11 = (2, 312, 0) := rfl
end
section
theorem ps_shl1 {k : Nat} (hk : k < 31) : nI 1 <<< (nI k &&& 31) = nI (2 ^ k) := by
  have h : 2 ^ k < 2 ^ 32 := Nat.pow_lt_pow_right (by decide) (by omega)
  rw [pk_shlN (nI k &&& 31) k (s_l k (by omega)) (by omega), Nat.one_mul]
theorem ps_bit {S x : Nat} (hS : S < 2 ^ 31) (hx : x < 32) : nI S >>> (nI x &&& 31) &&& nI 1 = nI (S / 2 ^ x % 2) := by
  rw [pk_shrN hS (nI x &&& 31) x (s_l x hx)]
  have h : S / 2 ^ x < 2 ^ 32 := Nat.lt_of_le_of_lt (Nat.div_le_self _ _) (by omega)
  exact pk_andN h 1 (by decide)
theorem nx_or (a b : Nat) : nI a ||| nI b = nI (a ||| b) := by
  apply Int32.toBitVec_inj.mp
  rw [Int32.toBitVec_or]
  show BitVec.ofNat 32 a ||| BitVec.ofNat 32 b = BitVec.ofNat 32 (a ||| b)
  apply BitVec.eq_of_getLsbD_eq
  intro i hi
  simp [BitVec.getLsbD_or, BitVec.getLsbD_ofNat, hi]
theorem ps_sng (Z : Nat) : nI Z &&& (nI Z - nI 1) = nI (Z &&& (Z - 1)) := by
  rcases Nat.eq_zero_or_pos Z with h | h
  · subst h; decide
  · rw [pk_sub h, nx_and]
theorem pow12 {n : Nat} (h : n ≤ 12) : 2 ^ n ≤ 4096 := Nat.le_trans (Nat.pow_le_pow_right (by decide) h) (by decide)
/-- a row of the past takes a state -/
def thr (nx : Nat → Nat → Nat) (a : Int32) : Nat → Nat → Nat
  | 0, x => x
  | t + 1, x => thr nx a t (nx (sgn a (nI (t + 1))) x)
/-- a set of at most one state -/
def sng (S : Nat) : Bool := decide (S &&& (S - 1) = 0)
/-- where a sign takes a set -/
def imgF (nx : Nat → Nat → Nat) (S u : Nat) : Nat → Nat
  | 0 => 0
  | x + 1 => imgF nx S u x ||| (if S / 2 ^ x % 2 = 0 then 0 else 2 ^ nx u x)
theorem imgF_lt {n : Nat} {nx : Nat → Nat → Nat} {S u : Nat} (h : ∀ x, x < n → nx u x < n) : ∀ k, k ≤ n → imgF nx S u k < 2 ^ n := by
  intro k
  induction k with
  | zero => intro _; exact Nat.pow_pos (by decide)
  | succ k ih =>
    intro hk
    unfold imgF
    refine Nat.or_lt_two_pow (ih (by omega)) ?_
    split
    · exact Nat.pow_pos (by decide)
    · exact Nat.pow_lt_pow_right (by decide) (h k (by omega))

set_option maxHeartbeats 4000000 in
set_option maxRecDepth 100000 in
theorem L_throughPast {p : Program} {l : Launch} {e : Env} {s : State} {m : MethodId} {args : Array Value} {below : List Frame} {meth : Method} {c : Code} {H : Heap} {locs : List Loc} {Q : State → Prop} (S : CallFix p m c cX0_throughPast 6 s args wsX0_throughPast RX0) {D : va_G} {cy : Nat → ClassId} {Ad : Nat → Nat} {n mm : Nat} {C : pw_C} (hK : pw_K D cy s) (hP : pw_P D cy Ad (shX n) C H) (hF : fX n mm Ad C) (hn : 1 ≤ n ∧ n ≤ 12) {nx : Nat → Nat → Nat} (hN : gN n nx C) (a : Int32) (r : Nat) (hq : ∀ (pc9 : Nat) (ls : Array Slot), decode cX0_throughPast pc9 = .ok (.ireturn, 1) → W p l e (k2_rm 2 43) s m args below meth c H locs 0 0 Q (F0 m pc9 ls [.int (nI r)])) : ∀ (f : Nat) (t : Nat) (x : Nat) (ls : Array Slot), t < f → (t ≤ 4096) → (x < n) → (thr nx a t x = r) → lv_has ls 6 [(5, .int (nI t)), (4, .int (nI x)), (0, .ref (Ad 1)), (1, .int a)] → W p l e (k2_rm 2 43) s m args below meth c H locs 0 0 Q (F0 m 6 ls []) := by
  have hx := S.1
  have hb := S.2.1
  have hml := S.2.2.1
  have hown := S.2.2.2.1
  have hts := S.2.2.2.2
  intro f
  induction f with
  | zero => intro t x ls hf; exact absurd hf (Nat.not_lt_zero _)
  | succ f ih =>
    intro t x ls hf ht hx0 hr0 hl
    refine lv_iload hx hb dX0_throughPast_6 (lv_at hl 0 rfl) ?_
    refine lv_iconst (v := nI 1) hx hb dX0_throughPast_8 (by decide) ?_
    refine pn_icmp_lt (tgt := 34) hx hb (by omega) (by omega) dX0_throughPast_9 (by decide) (fun c_9 => ?_) (fun c_9 => ?_)
    · obtain rfl : t = 0 := by omega
      subst hr0
      refine lv_iload hx hb dX0_throughPast_34 (lv_at hl 1 rfl) ?_
      refine pw_topi (y := nI (thr nx a 0 x)) rfl ?_
      exact hq _ ls dX0_throughPast_36
    · obtain ⟨t, rfl⟩ : ∃ t9, t = t9 + 1 := ⟨t - 1, by omega⟩
      refine lv_aload_n hx hb dX0_throughPast_12 rfl (lv_at hl 2 rfl) ?_
      refine pw_get hx hb hts (fun _ h9 => List.mem_cons_of_mem _ (List.mem_append_right _ h9)) hown hK hP 1 rfl rfl 1 (by decide) hF.2.1 rfl (hts (.fieldLink RX0 17 "PastDraws$Chain" "next" "[[I") (List.mem_of_getElem? (i := 1) rfl)) dX0_throughPast_13 ?_
      refine lv_iload_n hx hb dX0_throughPast_16 rfl (lv_at hl 3 rfl) ?_
      refine lv_iload hx hb dX0_throughPast_17 (lv_at hl 0 rfl) ?_
      refine pw_cn S hK.2 (hts (.initialized RX4) (List.mem_of_getElem? (i := 3) rfl)) (hts (.static yX4_signAt) (List.mem_of_getElem? (i := 2) rfl)) 2 (c_X4_signAt l a (nI (t + 1))) gX0_throughPast_X4_signAt_n38 rfl rfl rfl (by decide +kernel) ⟨Nat.le_of_ble_eq_true rfl, Nat.le_of_ble_eq_true rfl⟩ rfl hl.1 rfl (Nat.le_of_ble_eq_true rfl) dX0_throughPast_19 ⟨Nat.le_refl _, Nat.le_refl _⟩ ?_
      refine pw_aald4 hx hb hK hP 5 rfl (by first | exact sgn_lt _ _ | omega) (by decide) dX0_throughPast_22 ?_
      refine lv_iload hx hb dX0_throughPast_23 (lv_at hl 1 rfl) ?_
      have hu_25 : (sgn a (nI (t + 1))) < 8 := (by first | exact sgn_lt _ _ | omega)
      have hx_25 : x < n := (by first | exact sgn_lt _ _ | omega)
      have q_25 : nx (sgn a (nI (t + 1))) x < n := (hN _ hu_25 _ hx_25).1
      refine pw_iald hx hb hK hP (21 + (sgn a (nI (t + 1)))) (shX_nx hu_25) hx_25 (by omega) (hN _ hu_25 _ hx_25).2 dX0_throughPast_25 ?_
      refine lv_istore (lv' := [(4, .int (nI (nx (sgn a (nI (t + 1))) x))), (5, .int (nI (t + 1))), (0, .ref (Ad 1)), (1, .int a)]) hx hb dX0_throughPast_26 hl (by decide) rfl (fun ls hl => ?_)
      refine lv_iinc (v := nI t) (lv' := [(5, .int (nI t)), (4, .int (nI (nx (sgn a (nI (t + 1))) x))), (0, .ref (Ad 1)), (1, .int a)]) hx hb dX0_throughPast_28 hl (k := 1) rfl (pk_m1 _) (by decide) rfl (fun ls hl => ?_)
      refine lv_goto (tgt := 6) hx hb dX0_throughPast_31 (by decide) ?_
      exact ih t (nx (sgn a (nI (t + 1))) x) ls (by omega) (by omega) q_25 hr0 (lv_sub hl [0, 1, 2, 3] rfl)

set_option maxHeartbeats 4000000 in
set_option maxRecDepth 100000 in
theorem c_X0_throughPast (l : Launch) (D : va_G) (cy : Nat → ClassId) (Ad : Nat → Nat) (n mm : Nat) (C : pw_C) (hn : 1 ≤ n ∧ n ≤ 12) (hF : fX n mm Ad C) (nx : Nat → Nat → Nat) (hN : gN n nx C) (a : Int32) (t x : Nat) (ht : t ≤ 4096) (hx0 : x < n) : Met l yX0_throughPast wsX0_throughPast (k2_rm 2 43) (pw_Pre ([.ref (Ad 1), .int a, .int (nI t), .int (nI x)]) D cy Ad (shX n) C) (k2_QcV (.int (nI (thr nx a t x)))) 0 0 (fun _ => False) := by
  refine Met.ofW (cc := cX0_throughPast) (maxL := 6) (ret := (some .int)) (by decide) rfl ?_
  intro p e s m args below meth c s₁ B hml hv
  obtain ⟨rfl, hP, hK⟩ := hv
  have hx := B.exec
  have hb := B.bytes
  have hr := B.returns
  have hts := atoms_spec (ws := wsX0_throughPast) B.pre
  have hown : s.vm.findClass RX0 = some m.cls := findClass_of_methodNamed B.named
  have hlocks := B.notSynchronized
  have S : CallFix p m c cX0_throughPast 6 s ([.ref (Ad 1), .int a, .int (nI t), .int (nI x)]).toArray wsX0_throughPast RX0 := ⟨hx, hb, hml, hown, hts⟩
  change W p l e (k2_rm 2 43) s m _ below meth c s.heap [] 0 0 _ _
  have hl := lv_entry ([.ref (Ad 1), .int a, .int (nI t), .int (nI x)]) (n := 6) (Nat.le_of_ble_eq_true rfl)
  rw [lg_entry_eq]
  generalize (lg_sl ([.ref (Ad 1), .int a, .int (nI t), .int (nI x)]) ++ List.replicate (6 - (lg_sl ([.ref (Ad 1), .int a, .int (nI t), .int (nI x)])).length) Slot.unset).toArray = ls at hl ⊢
  have hl : lv_has ls 6 [(0, .ref (Ad 1)), (1, .int a), (2, .int (nI t)), (3, .int (nI x))] := hl
  refine lv_iload_n hx hb dX0_throughPast_0 rfl (lv_at hl 3 rfl) ?_
  refine lv_istore (lv' := [(4, .int (nI x)), (0, .ref (Ad 1)), (1, .int a), (2, .int (nI t)), (3, .int (nI x))]) hx hb dX0_throughPast_1 hl (by decide) rfl (fun ls hl => ?_)
  refine lv_iload_n hx hb dX0_throughPast_3 rfl (lv_at hl 3 rfl) ?_
  refine lv_istore (lv' := [(5, .int (nI t)), (4, .int (nI x)), (0, .ref (Ad 1)), (1, .int a), (2, .int (nI t)), (3, .int (nI x))]) hx hb dX0_throughPast_4 hl (by decide) rfl (fun ls hl => ?_)
  exact L_throughPast S hK hP hF hn hN a _ (fun pc9 ls hd9 => W.iret hx hb hr (fun t ht _ => ⟨rfl, ht⟩) (fun q h => by cases h) hd9) (t + 1) t x ls (by omega) ht hx0 rfl (lv_sub hl [0, 1, 2, 3] rfl)

set_option maxHeartbeats 4000000 in
set_option maxRecDepth 100000 in
theorem c_X0_isSingle (l : Launch) (Z : Nat) (hZ : Z < 2 ^ 31) : Met l yX0_isSingle wsX0_isSingle (k2_rm 0 0) (fun v _ => v = ([.int (nI Z)]).toArray) (k2_QcV (.int (pb (sng Z)))) 0 0 (fun _ => False) := by
  refine Met.ofW (cc := cX0_isSingle) (maxL := 1) (ret := (some .boolean)) (by decide) rfl ?_
  intro p e s m args below meth c s₁ B hml hv
  obtain rfl := hv
  have hx := B.exec
  have hb := B.bytes
  have hr := B.returns
  have hts := atoms_spec (ws := wsX0_isSingle) B.pre
  have hown : s.vm.findClass RX0 = some m.cls := findClass_of_methodNamed B.named
  have hlocks := B.notSynchronized
  have S : CallFix p m c cX0_isSingle 1 s ([.int (nI Z)]).toArray wsX0_isSingle RX0 := ⟨hx, hb, hml, hown, hts⟩
  change W p l e (k2_rm 0 0) s m _ below meth c s.heap [] 0 0 _ _
  have hl := lv_entry ([.int (nI Z)]) (n := 1) (Nat.le_of_ble_eq_true rfl)
  rw [lg_entry_eq]
  generalize (lg_sl ([.int (nI Z)]) ++ List.replicate (1 - (lg_sl ([.int (nI Z)])).length) Slot.unset).toArray = ls at hl ⊢
  have hl : lv_has ls 1 [(0, .int (nI Z))] := hl
  refine lv_iload_n hx hb dX0_isSingle_0 rfl (lv_at hl 0 rfl) ?_
  refine lv_iload_n hx hb dX0_isSingle_1 rfl (lv_at hl 0 rfl) ?_
  refine lv_iconst (v := nI 1) hx hb dX0_isSingle_2 (by decide) ?_
  refine lv_isub hx hb dX0_isSingle_3 ?_
  refine lv_iand hx hb dX0_isSingle_4 ?_
  refine pw_topi (y := nI (Z &&& (Z - 1))) (ps_sng Z) ?_
  refine pn_ifne_n (tgt := 12) hx hb (Nat.lt_of_le_of_lt Nat.and_le_left (by omega)) dX0_isSingle_5 (by decide) (fun c_5 => ?_) (fun c_5 => ?_)
  · refine lv_iconst (v := nI 0) hx hb dX0_isSingle_12 (by decide) ?_
    refine pw_topi (y := pb (sng Z)) (by first | (rw [show sng Z = true from decide_eq_true c_5]; rfl) | (rw [show sng Z = false from decide_eq_false c_5]; rfl)) ?_
    exact W.zret hx hb hr (pb_nar _) (fun t ht _ => ⟨rfl, ht⟩) (fun q h => by cases h) dX0_isSingle_13
  · refine lv_iconst (v := nI 1) hx hb dX0_isSingle_8 (by decide) ?_
    refine lv_goto (tgt := 13) hx hb dX0_isSingle_9 (by decide) ?_
    refine pw_topi (y := pb (sng Z)) (by first | (rw [show sng Z = true from decide_eq_true c_5]; rfl) | (rw [show sng Z = false from decide_eq_false c_5]; rfl)) ?_
    exact W.zret hx hb hr (pb_nar _) (fun t ht _ => ⟨rfl, ht⟩) (fun q h => by cases h) dX0_isSingle_13

set_option maxHeartbeats 4000000 in
set_option maxRecDepth 100000 in
theorem c_X0_allStates (l : Launch) (D : va_G) (cy : Nat → ClassId) (Ad : Nat → Nat) (n mm : Nat) (C : pw_C) (hn : 1 ≤ n ∧ n ≤ 12) (hF : fX n mm Ad C)  : Met l yX0_allStates wsX0_allStates (k2_rm 0 0) (pw_Pre ([.ref (Ad 1)]) D cy Ad (shX n) C) (k2_QcV (.int (nI (2 ^ n - 1)))) 0 0 (fun _ => False) := by
  refine Met.ofW (cc := cX0_allStates) (maxL := 1) (ret := (some .int)) (by decide) rfl ?_
  intro p e s m args below meth c s₁ B hml hv
  obtain ⟨rfl, hP, hK⟩ := hv
  have hx := B.exec
  have hb := B.bytes
  have hr := B.returns
  have hts := atoms_spec (ws := wsX0_allStates) B.pre
  have hown : s.vm.findClass RX0 = some m.cls := findClass_of_methodNamed B.named
  have hlocks := B.notSynchronized
  have S : CallFix p m c cX0_allStates 1 s ([.ref (Ad 1)]).toArray wsX0_allStates RX0 := ⟨hx, hb, hml, hown, hts⟩
  change W p l e (k2_rm 0 0) s m _ below meth c s.heap [] 0 0 _ _
  have hl := lv_entry ([.ref (Ad 1)]) (n := 1) (Nat.le_of_ble_eq_true rfl)
  rw [lg_entry_eq]
  generalize (lg_sl ([.ref (Ad 1)]) ++ List.replicate (1 - (lg_sl ([.ref (Ad 1)])).length) Slot.unset).toArray = ls at hl ⊢
  have hl : lv_has ls 1 [(0, .ref (Ad 1))] := hl
  refine lv_iconst (v := nI 1) hx hb dX0_allStates_0 (by decide) ?_
  refine lv_aload_n hx hb dX0_allStates_1 rfl (lv_at hl 0 rfl) ?_
  refine pw_get hx hb hts (fun _ h9 => List.mem_cons_of_mem _ (List.mem_append_right _ h9)) hown hK hP 1 rfl rfl 0 (by decide) hF.2.1 rfl (hts (.fieldLink RX0 9 "PastDraws$Chain" "n" "I") (List.mem_of_getElem? (i := 1) rfl)) dX0_allStates_2 ?_
  refine lv_ishl hx hb dX0_allStates_5 ?_
  refine pw_topi (y := nI (2 ^ n)) (ps_shl1 (by omega)) ?_
  refine lv_iconst (v := nI 1) hx hb dX0_allStates_6 (by decide) ?_
  refine lv_isub hx hb dX0_allStates_7 ?_
  refine pw_topi (y := nI (2 ^ n - 1)) (pk_sub (Nat.pow_pos (by decide))) ?_
  exact W.iret hx hb hr (fun t ht _ => ⟨rfl, ht⟩) (fun q h => by cases h) dX0_allStates_8

set_option maxHeartbeats 4000000 in
set_option maxRecDepth 100000 in
theorem L_imageOf {p : Program} {l : Launch} {e : Env} {s : State} {m : MethodId} {args : Array Value} {below : List Frame} {meth : Method} {c : Code} {H : Heap} {locs : List Loc} {Q : State → Prop} (S : CallFix p m c cX0_imageOf 5 s args wsX0_imageOf RX0) {D : va_G} {cy : Nat → ClassId} {Ad : Nat → Nat} {n mm : Nat} {C : pw_C} (hK : pw_K D cy s) (hP : pw_P D cy Ad (shX n) C H) (hF : fX n mm Ad C) (hn : 1 ≤ n ∧ n ≤ 12) {nx : Nat → Nat → Nat} (hN : gN n nx C) (Z u : Nat) (hZ : Z < 2 ^ 12) (hu : u < 8) (hq : ∀ (pc9 : Nat) (ls : Array Slot), decode cX0_imageOf pc9 = .ok (.ireturn, 1) → W p l e (k2_rm 0 0) s m args below meth c H locs 0 0 Q (F0 m pc9 ls [.int (nI (imgF nx Z u n))])) : ∀ (f : Nat) (x : Nat) (ls : Array Slot), n - x < f → (x ≤ n) → lv_has ls 5 [(3, .int (nI (imgF nx Z u x))), (4, .int (nI x)), (0, .ref (Ad 1)), (1, .int (nI Z)), (2, .int (nI u))] → W p l e (k2_rm 0 0) s m args below meth c H locs 0 0 Q (F0 m 5 ls []) := by
  have hx := S.1
  have hb := S.2.1
  have hml := S.2.2.1
  have hown := S.2.2.2.1
  have hts := S.2.2.2.2
  intro f
  induction f with
  | zero => intro x ls hf; exact absurd hf (Nat.not_lt_zero _)
  | succ f ih =>
    intro x ls hf hx0 hl
    refine lv_iload hx hb dX0_imageOf_5 (lv_at hl 1 rfl) ?_
    refine lv_aload_n hx hb dX0_imageOf_7 rfl (lv_at hl 2 rfl) ?_
    refine pw_get hx hb hts (fun _ h9 => List.mem_cons_of_mem _ (List.mem_append_right _ h9)) hown hK hP 1 rfl rfl 0 (by decide) hF.2.1 rfl (hts (.fieldLink RX0 9 "PastDraws$Chain" "n" "I") (List.mem_of_getElem? (i := 1) rfl)) dX0_imageOf_8 ?_
    refine pn_icmp_ge (tgt := 43) hx hb (by omega) (by omega) dX0_imageOf_11 (by decide) (fun c_11 => ?_) (fun c_11 => ?_)
    · have hxe : x = n := by omega
      refine lv_iload_n hx hb dX0_imageOf_43 rfl (lv_at hl 0 rfl) ?_
      refine pw_topi (y := nI (imgF nx Z u n)) (by rw [hxe]) ?_
      exact hq _ ls dX0_imageOf_44
    · refine lv_iload_n hx hb dX0_imageOf_14 rfl (lv_at hl 3 rfl) ?_
      refine lv_iload hx hb dX0_imageOf_15 (lv_at hl 1 rfl) ?_
      refine lv_ishr hx hb dX0_imageOf_17 ?_
      refine lv_iconst (v := nI 1) hx hb dX0_imageOf_18 (by decide) ?_
      refine lv_iand hx hb dX0_imageOf_19 ?_
      refine pw_topi (y := nI (Z / 2 ^ x % 2)) (ps_bit (by omega) (by omega)) ?_
      refine pn_ifeq_n (tgt := 37) hx hb (by omega) dX0_imageOf_20 (by decide) (fun c_20 => ?_) (fun c_20 => ?_)
      · have e0 : imgF nx Z u (x + 1) = imgF nx Z u x := by rw [imgF, if_pos c_20, Nat.or_zero]
        refine lv_iinc (v := nI (x + 1)) (lv' := [(4, .int (nI (x + 1))), (3, .int (nI (imgF nx Z u x))), (0, .ref (Ad 1)), (1, .int (nI Z)), (2, .int (nI u))]) hx hb dX0_imageOf_37 hl (k := 1) rfl (nI_add _ 1) (by decide) rfl (fun ls hl => ?_)
        refine lv_goto (tgt := 5) hx hb dX0_imageOf_40 (by decide) ?_
        exact ih (x + 1) ls (by omega) (by omega) (by rw [e0]; exact (lv_sub hl [1, 0, 2, 3, 4] rfl))
      · refine lv_iload_n hx hb dX0_imageOf_23 rfl (lv_at hl 0 rfl) ?_
        refine lv_iconst (v := nI 1) hx hb dX0_imageOf_24 (by decide) ?_
        refine lv_aload_n hx hb dX0_imageOf_25 rfl (lv_at hl 2 rfl) ?_
        refine pw_get hx hb hts (fun _ h9 => List.mem_cons_of_mem _ (List.mem_append_right _ h9)) hown hK hP 1 rfl rfl 1 (by decide) hF.2.1 rfl (hts (.fieldLink RX0 17 "PastDraws$Chain" "next" "[[I") (List.mem_of_getElem? (i := 2) rfl)) dX0_imageOf_26 ?_
        refine lv_iload_n hx hb dX0_imageOf_29 rfl (lv_at hl 4 rfl) ?_
        refine pw_aald4 hx hb hK hP 5 rfl (by first | exact sgn_lt _ _ | omega) (by decide) dX0_imageOf_30 ?_
        refine lv_iload hx hb dX0_imageOf_31 (lv_at hl 1 rfl) ?_
        have hu_33 : u < 8 := (by first | exact sgn_lt _ _ | omega)
        have hx_33 : x < n := (by first | exact sgn_lt _ _ | omega)
        have q_33 : nx u x < n := (hN _ hu_33 _ hx_33).1
        refine pw_iald hx hb hK hP (21 + u) (shX_nx hu_33) hx_33 (by omega) (hN _ hu_33 _ hx_33).2 dX0_imageOf_33 ?_
        refine lv_ishl hx hb dX0_imageOf_34 ?_
        refine pw_topi (y := nI (2 ^ nx u x)) (ps_shl1 (by omega)) ?_
        refine lv_ior hx hb dX0_imageOf_35 ?_
        refine pw_topi (y := nI (imgF nx Z u x ||| 2 ^ nx u x)) (nx_or _ _) ?_
        refine lv_istore_n (lv' := [(3, .int (nI (imgF nx Z u x ||| 2 ^ nx u x))), (4, .int (nI x)), (0, .ref (Ad 1)), (1, .int (nI Z)), (2, .int (nI u))]) hx hb dX0_imageOf_36 rfl hl (by decide) rfl (fun ls hl => ?_)
        refine lv_iinc (v := nI (x + 1)) (lv' := [(4, .int (nI (x + 1))), (3, .int (nI (imgF nx Z u x ||| 2 ^ nx u x))), (0, .ref (Ad 1)), (1, .int (nI Z)), (2, .int (nI u))]) hx hb dX0_imageOf_37 hl (k := 1) rfl (nI_add _ 1) (by decide) rfl (fun ls hl => ?_)
        refine lv_goto (tgt := 5) hx hb dX0_imageOf_40 (by decide) ?_
        exact ih (x + 1) ls (by omega) (by omega) (by rw [imgF, if_neg c_20]; exact (lv_sub hl [1, 0, 2, 3, 4] rfl))

set_option maxHeartbeats 4000000 in
set_option maxRecDepth 100000 in
theorem c_X0_imageOf (l : Launch) (D : va_G) (cy : Nat → ClassId) (Ad : Nat → Nat) (n mm : Nat) (C : pw_C) (hn : 1 ≤ n ∧ n ≤ 12) (hF : fX n mm Ad C) (nx : Nat → Nat → Nat) (hN : gN n nx C) (Z u : Nat) (hZ : Z < 2 ^ 12) (hu : u < 8) : Met l yX0_imageOf wsX0_imageOf (k2_rm 0 0) (pw_Pre ([.ref (Ad 1), .int (nI Z), .int (nI u)]) D cy Ad (shX n) C) (k2_QcV (.int (nI (imgF nx Z u n)))) 0 0 (fun _ => False) := by
  refine Met.ofW (cc := cX0_imageOf) (maxL := 5) (ret := (some .int)) (by decide) rfl ?_
  intro p e s m args below meth c s₁ B hml hv
  obtain ⟨rfl, hP, hK⟩ := hv
  have hx := B.exec
  have hb := B.bytes
  have hr := B.returns
  have hts := atoms_spec (ws := wsX0_imageOf) B.pre
  have hown : s.vm.findClass RX0 = some m.cls := findClass_of_methodNamed B.named
  have hlocks := B.notSynchronized
  have S : CallFix p m c cX0_imageOf 5 s ([.ref (Ad 1), .int (nI Z), .int (nI u)]).toArray wsX0_imageOf RX0 := ⟨hx, hb, hml, hown, hts⟩
  change W p l e (k2_rm 0 0) s m _ below meth c s.heap [] 0 0 _ _
  have hl := lv_entry ([.ref (Ad 1), .int (nI Z), .int (nI u)]) (n := 5) (Nat.le_of_ble_eq_true rfl)
  rw [lg_entry_eq]
  generalize (lg_sl ([.ref (Ad 1), .int (nI Z), .int (nI u)]) ++ List.replicate (5 - (lg_sl ([.ref (Ad 1), .int (nI Z), .int (nI u)])).length) Slot.unset).toArray = ls at hl ⊢
  have hl : lv_has ls 5 [(0, .ref (Ad 1)), (1, .int (nI Z)), (2, .int (nI u))] := hl
  refine lv_iconst (v := nI 0) hx hb dX0_imageOf_0 (by decide) ?_
  refine lv_istore_n (lv' := [(3, .int (nI 0)), (0, .ref (Ad 1)), (1, .int (nI Z)), (2, .int (nI u))]) hx hb dX0_imageOf_1 rfl hl (by decide) rfl (fun ls hl => ?_)
  refine lv_iconst (v := nI 0) hx hb dX0_imageOf_2 (by decide) ?_
  refine lv_istore (lv' := [(4, .int (nI 0)), (3, .int (nI 0)), (0, .ref (Ad 1)), (1, .int (nI Z)), (2, .int (nI u))]) hx hb dX0_imageOf_3 hl (by decide) rfl (fun ls hl => ?_)
  exact L_imageOf S hK hP hF hn hN Z u hZ hu (fun pc9 ls hd9 => W.iret hx hb hr (fun t ht _ => ⟨rfl, ht⟩) (fun q h => by cases h) hd9) (n + 1) 0 ls (by omega) (by omega) (lv_sub hl [1, 0, 2, 3, 4] rfl)
end
section
theorem ps_min {a b : Nat} (ha : a < 2 ^ 31) (hb : b < 2 ^ 31) : (if nI b < nI a then nI b else nI a) = nI (min a b) := by
  by_cases h : b < a
  · rw [if_pos ((nI_ltI hb ha).mpr h), Nat.min_eq_right (by omega)]
  · rw [if_neg (fun q => h ((nI_ltI hb ha).mp q)), Nat.min_eq_left (by omega)]
theorem ps_max {a b : Nat} (ha : a < 2 ^ 31) (hb : b < 2 ^ 31) : (if nI a < nI b then nI b else nI a) = nI (max a b) := by
  by_cases h : a < b
  · rw [if_pos ((nI_ltI ha hb).mpr h), Nat.max_eq_right (by omega)]
  · rw [if_neg (fun q => h ((nI_ltI ha hb).mp q)), Nat.max_eq_left (by omega)]
def mnF (nx : Nat → Nat → Nat) (u lo : Nat) : Nat → Nat
  | 0 => nx u lo
  | k + 1 => min (mnF nx u lo k) (nx u (lo + k + 1))
def mxF (nx : Nat → Nat → Nat) (u lo : Nat) : Nat → Nat
  | 0 => nx u lo
  | k + 1 => max (mxF nx u lo k) (nx u (lo + k + 1))
theorem mn_mx (nx : Nat → Nat → Nat) (u lo : Nat) : ∀ k, mnF nx u lo k ≤ mxF nx u lo k := by
  intro k
  induction k with
  | zero => exact Nat.le_refl _
  | succ k ih => unfold mnF mxF; omega
theorem mx_lt {n : Nat} {nx : Nat → Nat → Nat} {u lo : Nat} (h : ∀ x, x < n → nx u x < n) : ∀ k, lo + k < n → mxF nx u lo k < n := by
  intro k
  induction k with
  | zero => intro hk; exact h _ (by omega)
  | succ k ih =>
    intro hk
    have h1 := ih (by omega)
    have h2 := h (lo + k + 1) (by omega)
    unfold mxF
    omega
/-- the bounds of a row -/
def bnd (nx : Nat → Nat → Nat) (a : Int32) : Nat → Nat → Nat → Nat × Nat
  | 0, lo, hi => (lo, hi)
  | t + 1, lo, hi => bnd nx a t (mnF nx (sgn a (nI (t + 1))) lo (hi - lo)) (mxF nx (sgn a (nI (t + 1))) lo (hi - lo))
def bmt (nx : Nat → Nat → Nat) (n : Nat) (a : Int32) (t : Nat) : Bool := decide ((bnd nx a t 0 (n - 1)).1 = (bnd nx a t 0 (n - 1)).2)
def oi : Option Nat → Int32
  | none => (-2)
  | some x => nI x
def fstT (P : Nat → Bool) : Nat → Nat → Option Nat
  | 0, _ => none
  | f + 1, t => if P t = true then some t else fstT P f (t + 1)
def ko (n : Nat) (nx : Nat → Nat → Nat) : Bool := (List.range 8).all fun u => (List.range (n - 1)).all fun x => decide (nx u x ≤ nx u (x + 1))
theorem ko_iff {n : Nat} {nx : Nat → Nat → Nat} : ko n nx = true ↔ ∀ u, u < 8 → ∀ x, x < n - 1 → nx u x ≤ nx u (x + 1) := by
  simp [ko, List.all_eq_true, List.mem_range]
theorem ko_f {n : Nat} {nx : Nat → Nat → Nat} (h : ¬ ∀ u, u < 8 → ∀ x, x < n - 1 → nx u x ≤ nx u (x + 1)) : ko n nx = false := by
  cases hb : ko n nx
  · rfl
  · exact absurd (ko_iff.mp hb) h
def tbF (nx : Nat → Nat → Nat) (a : Int32) (bf : Nat) : Nat → Nat → Nat
  | 0, x => x
  | i + 1, x => nx (sgn a (nI (bf + (i + 1)))) (tbF nx a bf i x)
/-- whether a block meets, with the early end -/
def bmF (nx : Nat → Nat → Nat) (n : Nat) (a : Int32) (bf : Nat) : Nat → Nat → Nat → Bool
  | 0, _, Z => sng Z
  | f + 1, i, Z => if sng Z = true then true else bmF nx n a bf f (i + 1) (imgF nx Z (sgn a (nI (bf + i))) n)
def drF (nx : Nat → Nat → Nat) (n : Nat) (a : Int32) (len k : Nat) : Nat → Nat → Bool → Nat → Nat → Option Nat
  | 0, _, _, _, _ => none
  | f + 1, b, hm, dr, st => if (bmF nx n a (len * b) len 1 (2 ^ n - 1) && hm && decide (dr = k)) = true then some st
    else drF nx n a len k f (b + 1) (hm || bmF nx n a (len * b) len 1 (2 ^ n - 1)) (if (bmF nx n a (len * b) len 1 (2 ^ n - 1) && hm) = true then dr + 1 else dr) (tbF nx a (len * b) len st)

set_option maxHeartbeats 4000000 in
set_option maxRecDepth 100000 in
theorem L_boundsMeet_in {p : Program} {l : Launch} {e : Env} {s : State} {m : MethodId} {args : Array Value} {below : List Frame} {meth : Method} {c : Code} {H : Heap} {locs : List Loc} {Q : State → Prop} (S : CallFix p m c cX0_boundsMeet 10 s args wsX0_boundsMeet RX0) {D : va_G} {cy : Nat → ClassId} {Ad : Nat → Nat} {n mm : Nat} {C : pw_C} (hK : pw_K D cy s) (hP : pw_P D cy Ad (shX n) C H) (hF : fX n mm Ad C) (hn : 1 ≤ n ∧ n ≤ 12) {nx : Nat → Nat → Nat} (hN : gN n nx C) (a : Int32) (t u lo hi : Nat) (hu : u < 8) (hlo : lo ≤ hi) (hhi : hi < n) (hk : ∀ ls, lv_has ls 10 [(8, .int (nI (mxF nx u lo (hi - lo)))), (7, .int (nI (mnF nx u lo (hi - lo)))), (0, .ref (Ad 1)), (1, .int a), (5, .int (nI t))] → W p l e (k2_rm 2 43) s m args below meth c H locs 0 0 Q (F0 m 86 ls [])) : ∀ (f : Nat) (k : Nat) (ls : Array Slot), hi - lo - k < f → (k ≤ hi - lo) → lv_has ls 10 [(9, .int (nI (lo + k + 1))), (8, .int (nI (mxF nx u lo k))), (7, .int (nI (mnF nx u lo k))), (6, .ref (Ad (21 + u))), (0, .ref (Ad 1)), (1, .int a), (5, .int (nI t)), (3, .int (nI lo)), (4, .int (nI hi))] → W p l e (k2_rm 2 43) s m args below meth c H locs 0 0 Q (F0 m 49 ls []) := by
  have hx := S.1
  have hb := S.2.1
  have hml := S.2.2.1
  have hown := S.2.2.2.1
  have hts := S.2.2.2.2
  intro f
  induction f with
  | zero => intro k ls hf; exact absurd hf (Nat.not_lt_zero _)
  | succ f ih =>
    intro k ls hf hk0 hl
    refine lv_iload hx hb dX0_boundsMeet_49 (lv_at hl 0 rfl) ?_
    refine lv_iload hx hb dX0_boundsMeet_51 (lv_at hl 8 rfl) ?_
    refine pn_icmp_gt (tgt := 86) hx hb (by omega) (by omega) dX0_boundsMeet_53 (by decide) (fun c_53 => ?_) (fun c_53 => ?_)
    · obtain rfl : k = hi - lo := by omega
      exact hk ls (lv_sub hl [1, 2, 4, 5, 6] rfl)
    · have hb1 := mn_mx nx u lo k
      have hb2 := mx_lt (lo := lo) (fun x h => (hN u hu x h).1) k (by omega)
      refine lv_iload hx hb dX0_boundsMeet_56 (lv_at hl 2 rfl) ?_
      refine lv_aload hx hb dX0_boundsMeet_58 (lv_at hl 3 rfl) ?_
      refine lv_iload hx hb dX0_boundsMeet_60 (lv_at hl 0 rfl) ?_
      have hu_62 : u < 8 := (by first | exact sgn_lt _ _ | omega)
      have hx_62 : lo + k + 1 < n := (by first | exact sgn_lt _ _ | omega)
      have q_62 : nx u (lo + k + 1) < n := (hN _ hu_62 _ hx_62).1
      refine pw_iald hx hb hK hP (21 + u) (shX_nx hu_62) hx_62 (by omega) (hN _ hu_62 _ hx_62).2 dX0_boundsMeet_62 ?_
      refine va_mmin hx hb (hml.trans hl.1.symm) hown (hts (.methodLink RX0 60 Lib.Math.min.name) (List.mem_of_getElem? (i := 3) rfl)) (hts (.static Lib.Math.min.name) (List.mem_of_getElem? (i := 4) rfl)) (hts (.initialized "java/lang/Math") (List.mem_of_getElem? (i := 5) rfl)) (hts (.code Lib.Math.min.name Lib.Math.min.code 2 (some .int)) (List.mem_of_getElem? (i := 6) rfl)) (Nat.le_of_ble_eq_true rfl) (Nat.le_of_ble_eq_true rfl) (Nat.le_refl _) (Nat.le_refl _) dX0_boundsMeet_63 ?_
      refine pw_topi (ps_min (by omega) (by omega)) ?_
      refine lv_istore (lv' := [(7, .int (nI (min (mnF nx u lo k) (nx u (lo + k + 1))))), (9, .int (nI (lo + k + 1))), (8, .int (nI (mxF nx u lo k))), (6, .ref (Ad (21 + u))), (0, .ref (Ad 1)), (1, .int a), (5, .int (nI t)), (3, .int (nI lo)), (4, .int (nI hi))]) hx hb dX0_boundsMeet_66 hl (by decide) rfl (fun ls hl => ?_)
      refine lv_iload hx hb dX0_boundsMeet_68 (lv_at hl 2 rfl) ?_
      refine lv_aload hx hb dX0_boundsMeet_70 (lv_at hl 3 rfl) ?_
      refine lv_iload hx hb dX0_boundsMeet_72 (lv_at hl 1 rfl) ?_
      have hu_74 : u < 8 := (by first | exact sgn_lt _ _ | omega)
      have hx_74 : lo + k + 1 < n := (by first | exact sgn_lt _ _ | omega)
      have q_74 : nx u (lo + k + 1) < n := (hN _ hu_74 _ hx_74).1
      refine pw_iald hx hb hK hP (21 + u) (shX_nx hu_74) hx_74 (by omega) (hN _ hu_74 _ hx_74).2 dX0_boundsMeet_74 ?_
      refine va_mmax hx hb (hml.trans hl.1.symm) hown (hts (.methodLink RX0 65 Lib.Math.max.name) (List.mem_of_getElem? (i := 7) rfl)) (hts (.static Lib.Math.max.name) (List.mem_of_getElem? (i := 8) rfl)) (hts (.initialized "java/lang/Math") (List.mem_of_getElem? (i := 5) rfl)) (hts (.code Lib.Math.max.name Lib.Math.max.code 2 (some .int)) (List.mem_of_getElem? (i := 9) rfl)) (Nat.le_of_ble_eq_true rfl) (Nat.le_of_ble_eq_true rfl) (Nat.le_refl _) (Nat.le_refl _) dX0_boundsMeet_75 ?_
      refine pw_topi (ps_max (by omega) (by omega)) ?_
      refine lv_istore (lv' := [(8, .int (nI (max (mxF nx u lo k) (nx u (lo + k + 1))))), (7, .int (nI (min (mnF nx u lo k) (nx u (lo + k + 1))))), (9, .int (nI (lo + k + 1))), (6, .ref (Ad (21 + u))), (0, .ref (Ad 1)), (1, .int a), (5, .int (nI t)), (3, .int (nI lo)), (4, .int (nI hi))]) hx hb dX0_boundsMeet_78 hl (by decide) rfl (fun ls hl => ?_)
      refine lv_iinc (v := nI ((lo + k + 1) + 1)) (lv' := [(9, .int (nI ((lo + k + 1) + 1))), (8, .int (nI (max (mxF nx u lo k) (nx u (lo + k + 1))))), (7, .int (nI (min (mnF nx u lo k) (nx u (lo + k + 1))))), (6, .ref (Ad (21 + u))), (0, .ref (Ad 1)), (1, .int a), (5, .int (nI t)), (3, .int (nI lo)), (4, .int (nI hi))]) hx hb dX0_boundsMeet_80 hl (k := 2) rfl (nI_add _ 1) (by decide) rfl (fun ls hl => ?_)
      refine lv_goto (tgt := 49) hx hb dX0_boundsMeet_83 (by decide) ?_
      exact ih (k + 1) ls (by omega) (by omega) (lv_sub hl [0, 1, 2, 3, 4, 5, 6, 7, 8] rfl)

set_option maxHeartbeats 4000000 in
set_option maxRecDepth 100000 in
theorem L_boundsMeet {p : Program} {l : Launch} {e : Env} {s : State} {m : MethodId} {args : Array Value} {below : List Frame} {meth : Method} {c : Code} {H : Heap} {locs : List Loc} {Q : State → Prop} (S : CallFix p m c cX0_boundsMeet 10 s args wsX0_boundsMeet RX0) {D : va_G} {cy : Nat → ClassId} {Ad : Nat → Nat} {n mm : Nat} {C : pw_C} (hK : pw_K D cy s) (hP : pw_P D cy Ad (shX n) C H) (hF : fX n mm Ad C) (hn : 1 ≤ n ∧ n ≤ 12) {nx : Nat → Nat → Nat} (hN : gN n nx C) (a : Int32) (r : Bool) (hq : ∀ (pc9 : Nat) (ls : Array Slot), decode cX0_boundsMeet pc9 = .ok (.ireturn, 1) → W p l e (k2_rm 2 43) s m args below meth c H locs 0 0 Q (F0 m pc9 ls [.int (pb r)])) : ∀ (f : Nat) (t : Nat) (lo : Nat) (hi : Nat) (ls : Array Slot), t < f → (t ≤ 4096) → (lo ≤ hi) → (hi < n) → (decide ((bnd nx a t lo hi).1 = (bnd nx a t lo hi).2) = r) → lv_has ls 10 [(5, .int (nI t)), (3, .int (nI lo)), (4, .int (nI hi)), (0, .ref (Ad 1)), (1, .int a)] → W p l e (k2_rm 2 43) s m args below meth c H locs 0 0 Q (F0 m 13 ls []) := by
  have hx := S.1
  have hb := S.2.1
  have hml := S.2.2.1
  have hown := S.2.2.2.1
  have hts := S.2.2.2.2
  intro f
  induction f with
  | zero => intro t lo hi ls hf; exact absurd hf (Nat.not_lt_zero _)
  | succ f ih =>
    intro t lo hi ls hf ht hlo hhi hr0 hl
    refine lv_iload hx hb dX0_boundsMeet_13 (lv_at hl 0 rfl) ?_
    refine lv_iconst (v := nI 1) hx hb dX0_boundsMeet_15 (by decide) ?_
    refine pn_icmp_lt (tgt := 99) hx hb (by omega) (by omega) dX0_boundsMeet_16 (by decide) (fun c_16 => ?_) (fun c_16 => ?_)
    · obtain rfl : t = 0 := by omega
      have hr0 : decide (lo = hi) = r := hr0
      refine lv_iload_n hx hb dX0_boundsMeet_99 rfl (lv_at hl 1 rfl) ?_
      refine lv_iload hx hb dX0_boundsMeet_100 (lv_at hl 2 rfl) ?_
      refine pn_icmp_ne (tgt := 109) hx hb (by omega) (by omega) dX0_boundsMeet_102 (by decide) (fun c_102 => ?_) (fun c_102 => ?_)
      · refine lv_iconst (v := nI 0) hx hb dX0_boundsMeet_109 (by decide) ?_
        refine pw_topi (y := pb r) (by first | (rw [← hr0, show decide (lo = hi) = true from decide_eq_true c_102]; rfl) | (rw [← hr0, show decide (lo = hi) = false from decide_eq_false c_102]; rfl)) ?_
        exact hq _ ls dX0_boundsMeet_110
      · refine lv_iconst (v := nI 1) hx hb dX0_boundsMeet_105 (by decide) ?_
        refine lv_goto (tgt := 110) hx hb dX0_boundsMeet_106 (by decide) ?_
        refine pw_topi (y := pb r) (by first | (rw [← hr0, show decide (lo = hi) = true from decide_eq_true c_102]; rfl) | (rw [← hr0, show decide (lo = hi) = false from decide_eq_false c_102]; rfl)) ?_
        exact hq _ ls dX0_boundsMeet_110
    · obtain ⟨t, rfl⟩ : ∃ t9, t = t9 + 1 := ⟨t - 1, by omega⟩
      refine lv_aload_n hx hb dX0_boundsMeet_19 rfl (lv_at hl 3 rfl) ?_
      refine pw_get hx hb hts (fun _ h9 => List.mem_cons_of_mem _ (List.mem_append_right _ h9)) hown hK hP 1 rfl rfl 1 (by decide) hF.2.1 rfl (hts (.fieldLink RX0 17 "PastDraws$Chain" "next" "[[I") (List.mem_of_getElem? (i := 2) rfl)) dX0_boundsMeet_20 ?_
      refine lv_iload_n hx hb dX0_boundsMeet_23 rfl (lv_at hl 4 rfl) ?_
      refine lv_iload hx hb dX0_boundsMeet_24 (lv_at hl 0 rfl) ?_
      refine pw_cn S hK.2 (hts (.initialized RX4) (List.mem_of_getElem? (i := 11) rfl)) (hts (.static yX4_signAt) (List.mem_of_getElem? (i := 10) rfl)) 2 (c_X4_signAt l a (nI (t + 1))) gX0_boundsMeet_X4_signAt_n38 rfl rfl rfl (by decide +kernel) ⟨Nat.le_of_ble_eq_true rfl, Nat.le_of_ble_eq_true rfl⟩ rfl hl.1 rfl (Nat.le_of_ble_eq_true rfl) dX0_boundsMeet_26 ⟨Nat.le_refl _, Nat.le_refl _⟩ ?_
      refine pw_aald4 hx hb hK hP 5 rfl (by first | exact sgn_lt _ _ | omega) (by decide) dX0_boundsMeet_29 ?_
      refine lv_astore (lv' := [(6, .ref (Ad (21 + (sgn a (nI (t + 1)))))), (5, .int (nI (t + 1))), (3, .int (nI lo)), (4, .int (nI hi)), (0, .ref (Ad 1)), (1, .int a)]) hx hb dX0_boundsMeet_30 hl (by decide) rfl (fun ls hl => ?_)
      refine lv_aload hx hb dX0_boundsMeet_32 (lv_at hl 0 rfl) ?_
      refine lv_iload_n hx hb dX0_boundsMeet_34 rfl (lv_at hl 2 rfl) ?_
      have hu_35 : (sgn a (nI (t + 1))) < 8 := (by first | exact sgn_lt _ _ | omega)
      have hx_35 : lo < n := (by first | exact sgn_lt _ _ | omega)
      have q_35 : nx (sgn a (nI (t + 1))) lo < n := (hN _ hu_35 _ hx_35).1
      refine pw_iald hx hb hK hP (21 + (sgn a (nI (t + 1)))) (shX_nx hu_35) hx_35 (by omega) (hN _ hu_35 _ hx_35).2 dX0_boundsMeet_35 ?_
      refine lv_istore (lv' := [(7, .int (nI (nx (sgn a (nI (t + 1))) lo))), (6, .ref (Ad (21 + (sgn a (nI (t + 1)))))), (5, .int (nI (t + 1))), (3, .int (nI lo)), (4, .int (nI hi)), (0, .ref (Ad 1)), (1, .int a)]) hx hb dX0_boundsMeet_36 hl (by decide) rfl (fun ls hl => ?_)
      refine lv_aload hx hb dX0_boundsMeet_38 (lv_at hl 1 rfl) ?_
      refine lv_iload_n hx hb dX0_boundsMeet_40 rfl (lv_at hl 3 rfl) ?_
      have hu_41 : (sgn a (nI (t + 1))) < 8 := (by first | exact sgn_lt _ _ | omega)
      have hx_41 : lo < n := (by first | exact sgn_lt _ _ | omega)
      have q_41 : nx (sgn a (nI (t + 1))) lo < n := (hN _ hu_41 _ hx_41).1
      refine pw_iald hx hb hK hP (21 + (sgn a (nI (t + 1)))) (shX_nx hu_41) hx_41 (by omega) (hN _ hu_41 _ hx_41).2 dX0_boundsMeet_41 ?_
      refine lv_istore (lv' := [(8, .int (nI (nx (sgn a (nI (t + 1))) lo))), (7, .int (nI (nx (sgn a (nI (t + 1))) lo))), (6, .ref (Ad (21 + (sgn a (nI (t + 1)))))), (5, .int (nI (t + 1))), (3, .int (nI lo)), (4, .int (nI hi)), (0, .ref (Ad 1)), (1, .int a)]) hx hb dX0_boundsMeet_42 hl (by decide) rfl (fun ls hl => ?_)
      refine lv_iload_n hx hb dX0_boundsMeet_44 rfl (lv_at hl 4 rfl) ?_
      refine lv_iconst (v := nI 1) hx hb dX0_boundsMeet_45 (by decide) ?_
      refine lv_iadd hx hb dX0_boundsMeet_46 ?_
      refine pw_topi (nI_add _ _) ?_
      refine lv_istore (lv' := [(9, .int (nI (lo + 1))), (8, .int (nI (nx (sgn a (nI (t + 1))) lo))), (7, .int (nI (nx (sgn a (nI (t + 1))) lo))), (6, .ref (Ad (21 + (sgn a (nI (t + 1)))))), (5, .int (nI (t + 1))), (3, .int (nI lo)), (4, .int (nI hi)), (0, .ref (Ad 1)), (1, .int a)]) hx hb dX0_boundsMeet_47 hl (by decide) rfl (fun ls hl => ?_)
      have hlt := mx_lt (lo := lo) (fun x h => (hN (sgn a (nI (t + 1))) (sgn_lt _ _) x h).1) (hi - lo) (by omega)
      have hle := mn_mx nx (sgn a (nI (t + 1))) lo (hi - lo)
      refine L_boundsMeet_in S hK hP hF hn hN a (t + 1) (sgn a (nI (t + 1))) lo hi (sgn_lt _ _) hlo hhi (fun ls hl => ?_) (hi - lo + 1) 0 ls (by omega) (by omega) (lv_sub hl [0, 1, 2, 3, 7, 8, 4, 5, 6] rfl)
      refine lv_iload hx hb dX0_boundsMeet_86 (lv_at hl 1 rfl) ?_
      refine lv_istore_n (lv' := [(3, .int (nI (mnF nx (sgn a (nI (t + 1))) lo (hi - lo)))), (8, .int (nI (mxF nx (sgn a (nI (t + 1))) lo (hi - lo)))), (7, .int (nI (mnF nx (sgn a (nI (t + 1))) lo (hi - lo)))), (0, .ref (Ad 1)), (1, .int a), (5, .int (nI (t + 1)))]) hx hb dX0_boundsMeet_88 rfl hl (by decide) rfl (fun ls hl => ?_)
      refine lv_iload hx hb dX0_boundsMeet_89 (lv_at hl 1 rfl) ?_
      refine lv_istore (lv' := [(4, .int (nI (mxF nx (sgn a (nI (t + 1))) lo (hi - lo)))), (3, .int (nI (mnF nx (sgn a (nI (t + 1))) lo (hi - lo)))), (8, .int (nI (mxF nx (sgn a (nI (t + 1))) lo (hi - lo)))), (7, .int (nI (mnF nx (sgn a (nI (t + 1))) lo (hi - lo)))), (0, .ref (Ad 1)), (1, .int a), (5, .int (nI (t + 1)))]) hx hb dX0_boundsMeet_91 hl (by decide) rfl (fun ls hl => ?_)
      refine lv_iinc (v := nI t) (lv' := [(5, .int (nI t)), (4, .int (nI (mxF nx (sgn a (nI (t + 1))) lo (hi - lo)))), (3, .int (nI (mnF nx (sgn a (nI (t + 1))) lo (hi - lo)))), (8, .int (nI (mxF nx (sgn a (nI (t + 1))) lo (hi - lo)))), (7, .int (nI (mnF nx (sgn a (nI (t + 1))) lo (hi - lo)))), (0, .ref (Ad 1)), (1, .int a)]) hx hb dX0_boundsMeet_93 hl (k := 6) rfl (pk_m1 _) (by decide) rfl (fun ls hl => ?_)
      refine lv_goto (tgt := 13) hx hb dX0_boundsMeet_96 (by decide) ?_
      exact ih t _ _ ls (by omega) (by omega) hle hlt hr0 (lv_sub hl [0, 2, 1, 5, 6] rfl)

set_option maxHeartbeats 4000000 in
set_option maxRecDepth 100000 in
theorem c_X0_boundsMeet (l : Launch) (D : va_G) (cy : Nat → ClassId) (Ad : Nat → Nat) (n mm : Nat) (C : pw_C) (hn : 1 ≤ n ∧ n ≤ 12) (hF : fX n mm Ad C) (nx : Nat → Nat → Nat) (hN : gN n nx C) (a : Int32) (t : Nat) (ht : t ≤ 4096) : Met l yX0_boundsMeet wsX0_boundsMeet (k2_rm 2 43) (pw_Pre ([.ref (Ad 1), .int a, .int (nI t)]) D cy Ad (shX n) C) (k2_QcV (.int (pb (bmt nx n a t)))) 0 0 (fun _ => False) := by
  refine Met.ofW (cc := cX0_boundsMeet) (maxL := 10) (ret := (some .boolean)) (by decide) rfl ?_
  intro p e s m args below meth c s₁ B hml hv
  obtain ⟨rfl, hP, hK⟩ := hv
  have hx := B.exec
  have hb := B.bytes
  have hr := B.returns
  have hts := atoms_spec (ws := wsX0_boundsMeet) B.pre
  have hown : s.vm.findClass RX0 = some m.cls := findClass_of_methodNamed B.named
  have hlocks := B.notSynchronized
  have S : CallFix p m c cX0_boundsMeet 10 s ([.ref (Ad 1), .int a, .int (nI t)]).toArray wsX0_boundsMeet RX0 := ⟨hx, hb, hml, hown, hts⟩
  change W p l e (k2_rm 2 43) s m _ below meth c s.heap [] 0 0 _ _
  have hl := lv_entry ([.ref (Ad 1), .int a, .int (nI t)]) (n := 10) (Nat.le_of_ble_eq_true rfl)
  rw [lg_entry_eq]
  generalize (lg_sl ([.ref (Ad 1), .int a, .int (nI t)]) ++ List.replicate (10 - (lg_sl ([.ref (Ad 1), .int a, .int (nI t)])).length) Slot.unset).toArray = ls at hl ⊢
  have hl : lv_has ls 10 [(0, .ref (Ad 1)), (1, .int a), (2, .int (nI t))] := hl
  refine lv_iconst (v := nI 0) hx hb dX0_boundsMeet_0 (by decide) ?_
  refine lv_istore_n (lv' := [(3, .int (nI 0)), (0, .ref (Ad 1)), (1, .int a), (2, .int (nI t))]) hx hb dX0_boundsMeet_1 rfl hl (by decide) rfl (fun ls hl => ?_)
  refine lv_aload_n hx hb dX0_boundsMeet_2 rfl (lv_at hl 1 rfl) ?_
  refine pw_get hx hb hts (fun _ h9 => List.mem_cons_of_mem _ (List.mem_append_right _ h9)) hown hK hP 1 rfl rfl 0 (by decide) hF.2.1 rfl (hts (.fieldLink RX0 9 "PastDraws$Chain" "n" "I") (List.mem_of_getElem? (i := 1) rfl)) dX0_boundsMeet_3 ?_
  refine lv_iconst (v := nI 1) hx hb dX0_boundsMeet_6 (by decide) ?_
  refine lv_isub hx hb dX0_boundsMeet_7 ?_
  refine pw_topi (pk_sub (by omega)) ?_
  refine lv_istore (lv' := [(4, .int (nI (n - 1))), (3, .int (nI 0)), (0, .ref (Ad 1)), (1, .int a), (2, .int (nI t))]) hx hb dX0_boundsMeet_8 hl (by decide) rfl (fun ls hl => ?_)
  refine lv_iload_n hx hb dX0_boundsMeet_10 rfl (lv_at hl 4 rfl) ?_
  refine lv_istore (lv' := [(5, .int (nI t)), (4, .int (nI (n - 1))), (3, .int (nI 0)), (0, .ref (Ad 1)), (1, .int a), (2, .int (nI t))]) hx hb dX0_boundsMeet_11 hl (by decide) rfl (fun ls hl => ?_)
  exact L_boundsMeet S hK hP hF hn hN a _ (fun pc9 ls hd9 => W.zret hx hb hr (pb_nar _) (fun t ht _ => ⟨rfl, ht⟩) (fun q h => by cases h) hd9) (t + 1) t 0 (n - 1) ls (by omega) ht (by omega) (by omega) rfl (lv_sub hl [0, 2, 1, 3, 4] rfl)

set_option maxHeartbeats 4000000 in
set_option maxRecDepth 100000 in
theorem L_leastBounded {p : Program} {l : Launch} {e : Env} {s : State} {m : MethodId} {args : Array Value} {below : List Frame} {meth : Method} {c : Code} {H : Heap} {locs : List Loc} {Q : State → Prop} (S : CallFix p m c cX0_leastBounded 4 s args wsX0_leastBounded RX0) {D : va_G} {cy : Nat → ClassId} {Ad : Nat → Nat} {n mm : Nat} {C : pw_C} (hK : pw_K D cy s) (hP : pw_P D cy Ad (shX n) C H) (hF : fX n mm Ad C) (hn : 1 ≤ n ∧ n ≤ 12) {nx : Nat → Nat → Nat} (hN : gN n nx C) (a : Int32) (most : Nat) (hmo : most ≤ 64) (r : Option Nat) (hq : ∀ (pc9 : Nat) (ls : Array Slot), decode cX0_leastBounded pc9 = .ok (.ireturn, 1) → W p l e (k2_rm 3 72) s m args below meth c H locs 0 0 Q (F0 m pc9 ls [.int (oi r)])) : ∀ (f : Nat) (t : Nat) (ls : Array Slot), most + 1 - t < f → (t ≤ 65) → (fstT (fun t => bmt nx n a t) (most + 1 - t) t = r) → lv_has ls 4 [(3, .int (nI t)), (2, .int (nI most)), (0, .ref (Ad 1)), (1, .int a)] → W p l e (k2_rm 3 72) s m args below meth c H locs 0 0 Q (F0 m 2 ls []) := by
  have hx := S.1
  have hb := S.2.1
  have hml := S.2.2.1
  have hown := S.2.2.2.1
  have hts := S.2.2.2.2
  intro f
  induction f with
  | zero => intro t ls hf; exact absurd hf (Nat.not_lt_zero _)
  | succ f ih =>
    intro t ls hf ht hr0 hl
    refine lv_iload_n hx hb dX0_leastBounded_2 rfl (lv_at hl 0 rfl) ?_
    refine lv_iload_n hx hb dX0_leastBounded_3 rfl (lv_at hl 1 rfl) ?_
    refine pn_icmp_gt (tgt := 24) hx hb (by omega) (by omega) dX0_leastBounded_4 (by decide) (fun c_4 => ?_) (fun c_4 => ?_)
    · obtain hz : most + 1 - t = 0 := by omega
      rw [hz] at hr0
      refine lv_bipush (v := (-2)) hx hb dX0_leastBounded_24 (by decide) ?_
      refine pw_topi (y := oi r) (by rw [← hr0]; try rfl) ?_
      exact hq _ ls dX0_leastBounded_26
    · obtain ⟨z, hz⟩ : ∃ z, most + 1 - t = z + 1 := ⟨most - t, by omega⟩
      rw [hz, fstT] at hr0
      refine lv_aload_n hx hb dX0_leastBounded_7 rfl (lv_at hl 2 rfl) ?_
      refine lv_iload_n hx hb dX0_leastBounded_8 rfl (lv_at hl 3 rfl) ?_
      refine lv_iload_n hx hb dX0_leastBounded_9 rfl (lv_at hl 0 rfl) ?_
      refine pw_cv S hK hP 1 0 rfl rfl 2 (c_X0_boundsMeet l D cy Ad n mm C hn hF nx hN a t (by omega)) gX0_leastBounded_X0_boundsMeet rfl rfl rfl (by decide +kernel) ⟨Nat.le_of_ble_eq_true rfl, Nat.le_of_ble_eq_true rfl⟩ rfl hl.1 rfl (Nat.le_of_ble_eq_true rfl) dX0_leastBounded_10 ⟨Nat.le_refl _, Nat.le_refl _⟩ ?_
      refine pn_ifeq_b (tgt := 18) hx hb dX0_leastBounded_13 (by decide) (fun c_13 => ?_) (fun c_13 => ?_)
      · rw [if_neg (by rw [c_13]; decide)] at hr0
        have hz2 : z = most + 1 - (t + 1) := by omega
        refine lv_iinc (v := nI (t + 1)) (lv' := [(3, .int (nI (t + 1))), (2, .int (nI most)), (0, .ref (Ad 1)), (1, .int a)]) hx hb dX0_leastBounded_18 hl (k := 0) rfl (nI_add _ 1) (by decide) rfl (fun ls hl => ?_)
        refine lv_goto (tgt := 2) hx hb dX0_leastBounded_21 (by decide) ?_
        exact ih (t + 1) ls (by omega) (by omega) (by rw [← hz2]; exact hr0) (lv_sub hl [0, 1, 2, 3] rfl)
      · rw [if_pos c_13] at hr0
        refine lv_iload_n hx hb dX0_leastBounded_16 rfl (lv_at hl 0 rfl) ?_
        refine pw_topi (y := oi r) (by rw [← hr0]; try rfl) ?_
        exact hq _ ls dX0_leastBounded_17

set_option maxHeartbeats 4000000 in
set_option maxRecDepth 100000 in
theorem c_X0_leastBounded (l : Launch) (D : va_G) (cy : Nat → ClassId) (Ad : Nat → Nat) (n mm : Nat) (C : pw_C) (hn : 1 ≤ n ∧ n ≤ 12) (hF : fX n mm Ad C) (nx : Nat → Nat → Nat) (hN : gN n nx C) (a : Int32) (most : Nat) (hmo : most ≤ 64) : Met l yX0_leastBounded wsX0_leastBounded (k2_rm 3 72) (pw_Pre ([.ref (Ad 1), .int a, .int (nI most)]) D cy Ad (shX n) C) (k2_QcV (.int (oi (fstT (fun t => bmt nx n a t) most 1)))) 0 0 (fun _ => False) := by
  refine Met.ofW (cc := cX0_leastBounded) (maxL := 4) (ret := (some .int)) (by decide) rfl ?_
  intro p e s m args below meth c s₁ B hml hv
  obtain ⟨rfl, hP, hK⟩ := hv
  have hx := B.exec
  have hb := B.bytes
  have hr := B.returns
  have hts := atoms_spec (ws := wsX0_leastBounded) B.pre
  have hown : s.vm.findClass RX0 = some m.cls := findClass_of_methodNamed B.named
  have hlocks := B.notSynchronized
  have S : CallFix p m c cX0_leastBounded 4 s ([.ref (Ad 1), .int a, .int (nI most)]).toArray wsX0_leastBounded RX0 := ⟨hx, hb, hml, hown, hts⟩
  change W p l e (k2_rm 3 72) s m _ below meth c s.heap [] 0 0 _ _
  have hl := lv_entry ([.ref (Ad 1), .int a, .int (nI most)]) (n := 4) (Nat.le_of_ble_eq_true rfl)
  rw [lg_entry_eq]
  generalize (lg_sl ([.ref (Ad 1), .int a, .int (nI most)]) ++ List.replicate (4 - (lg_sl ([.ref (Ad 1), .int a, .int (nI most)])).length) Slot.unset).toArray = ls at hl ⊢
  have hl : lv_has ls 4 [(0, .ref (Ad 1)), (1, .int a), (2, .int (nI most))] := hl
  refine lv_iconst (v := nI 1) hx hb dX0_leastBounded_0 (by decide) ?_
  refine lv_istore_n (lv' := [(3, .int (nI 1)), (0, .ref (Ad 1)), (1, .int a), (2, .int (nI most))]) hx hb dX0_leastBounded_1 rfl hl (by decide) rfl (fun ls hl => ?_)
  exact L_leastBounded S hK hP hF hn hN a most hmo _ (fun pc9 ls hd9 => W.iret hx hb hr (fun t ht _ => ⟨rfl, ht⟩) (fun q h => by cases h) hd9) (most + 1) 1 ls (by omega) (by omega) rfl (lv_sub hl [0, 3, 1, 2] rfl)

set_option maxHeartbeats 4000000 in
set_option maxRecDepth 100000 in
theorem L_keepsOrder_in {p : Program} {l : Launch} {e : Env} {s : State} {m : MethodId} {args : Array Value} {below : List Frame} {meth : Method} {c : Code} {H : Heap} {locs : List Loc} {Q : State → Prop} (S : CallFix p m c cX0_keepsOrder 3 s args wsX0_keepsOrder RX0) {D : va_G} {cy : Nat → ClassId} {Ad : Nat → Nat} {n mm : Nat} {C : pw_C} (hK : pw_K D cy s) (hP : pw_P D cy Ad (shX n) C H) (hF : fX n mm Ad C) (hn : 1 ≤ n ∧ n ≤ 12) {nx : Nat → Nat → Nat} (hN : gN n nx C) (u : Nat) (hu : u < 8) (hk : ∀ ls, (∀ y, y < n - 1 → nx u y ≤ nx u (y + 1)) → lv_has ls 3 [(1, .int (nI u)), (0, .ref (Ad 1))] → W p l e (k2_rm 0 0) s m args below meth c H locs 0 0 Q (F0 m 47 ls [])) (hq : ∀ (pc9 : Nat) (ls : Array Slot), decode cX0_keepsOrder pc9 = .ok (.ireturn, 1) → W p l e (k2_rm 0 0) s m args below meth c H locs 0 0 Q (F0 m pc9 ls [.int (pb (ko n nx))])) : ∀ (f : Nat) (x : Nat) (ls : Array Slot), n - x < f → (1 ≤ x) → (x ≤ n) → (∀ y, y + 1 < x → nx u y ≤ nx u (y + 1)) → lv_has ls 3 [(2, .int (nI x)), (1, .int (nI u)), (0, .ref (Ad 1))] → W p l e (k2_rm 0 0) s m args below meth c H locs 0 0 Q (F0 m 10 ls []) := by
  have hx := S.1
  have hb := S.2.1
  have hml := S.2.2.1
  have hown := S.2.2.2.1
  have hts := S.2.2.2.2
  intro f
  induction f with
  | zero => intro x ls hf; exact absurd hf (Nat.not_lt_zero _)
  | succ f ih =>
    intro x ls hf hx1 hx2 hr0 hl
    refine lv_iload_n hx hb dX0_keepsOrder_10 rfl (lv_at hl 0 rfl) ?_
    refine lv_aload_n hx hb dX0_keepsOrder_11 rfl (lv_at hl 2 rfl) ?_
    refine pw_get hx hb hts (fun _ h9 => List.mem_cons_of_mem _ (List.mem_append_right _ h9)) hown hK hP 1 rfl rfl 0 (by decide) hF.2.1 rfl (hts (.fieldLink RX0 9 "PastDraws$Chain" "n" "I") (List.mem_of_getElem? (i := 1) rfl)) dX0_keepsOrder_12 ?_
    refine pn_icmp_ge (tgt := 47) hx hb (by omega) (by omega) dX0_keepsOrder_15 (by decide) (fun c_15 => ?_) (fun c_15 => ?_)
    · have hz : ∀ y, y < n - 1 → nx u y ≤ nx u (y + 1) := fun y hy => hr0 y (by omega)
      exact hk ls hz (lv_sub hl [1, 2] rfl)
    · refine lv_aload_n hx hb dX0_keepsOrder_18 rfl (lv_at hl 2 rfl) ?_
      refine pw_get hx hb hts (fun _ h9 => List.mem_cons_of_mem _ (List.mem_append_right _ h9)) hown hK hP 1 rfl rfl 1 (by decide) hF.2.1 rfl (hts (.fieldLink RX0 17 "PastDraws$Chain" "next" "[[I") (List.mem_of_getElem? (i := 2) rfl)) dX0_keepsOrder_19 ?_
      refine lv_iload_n hx hb dX0_keepsOrder_22 rfl (lv_at hl 1 rfl) ?_
      refine pw_aald4 hx hb hK hP 5 rfl (by first | exact sgn_lt _ _ | omega) (by decide) dX0_keepsOrder_23 ?_
      refine lv_iload_n hx hb dX0_keepsOrder_24 rfl (lv_at hl 0 rfl) ?_
      refine lv_iconst (v := nI 1) hx hb dX0_keepsOrder_25 (by decide) ?_
      refine lv_isub hx hb dX0_keepsOrder_26 ?_
      refine pw_topi (pk_sub (by omega)) ?_
      have hu_27 : u < 8 := (by first | exact sgn_lt _ _ | omega)
      have hx_27 : x - 1 < n := (by first | exact sgn_lt _ _ | omega)
      have q_27 : nx u (x - 1) < n := (hN _ hu_27 _ hx_27).1
      refine pw_iald hx hb hK hP (21 + u) (shX_nx hu_27) hx_27 (by omega) (hN _ hu_27 _ hx_27).2 dX0_keepsOrder_27 ?_
      refine lv_aload_n hx hb dX0_keepsOrder_28 rfl (lv_at hl 2 rfl) ?_
      refine pw_get hx hb hts (fun _ h9 => List.mem_cons_of_mem _ (List.mem_append_right _ h9)) hown hK hP 1 rfl rfl 1 (by decide) hF.2.1 rfl (hts (.fieldLink RX0 17 "PastDraws$Chain" "next" "[[I") (List.mem_of_getElem? (i := 2) rfl)) dX0_keepsOrder_29 ?_
      refine lv_iload_n hx hb dX0_keepsOrder_32 rfl (lv_at hl 1 rfl) ?_
      refine pw_aald4 hx hb hK hP 5 rfl (by first | exact sgn_lt _ _ | omega) (by decide) dX0_keepsOrder_33 ?_
      refine lv_iload_n hx hb dX0_keepsOrder_34 rfl (lv_at hl 0 rfl) ?_
      have hu_35 : u < 8 := (by first | exact sgn_lt _ _ | omega)
      have hx_35 : x < n := (by first | exact sgn_lt _ _ | omega)
      have q_35 : nx u x < n := (hN _ hu_35 _ hx_35).1
      refine pw_iald hx hb hK hP (21 + u) (shX_nx hu_35) hx_35 (by omega) (hN _ hu_35 _ hx_35).2 dX0_keepsOrder_35 ?_
      refine pn_icmp_le (tgt := 41) hx hb (by omega) (by omega) dX0_keepsOrder_36 (by decide) (fun c_36 => ?_) (fun c_36 => ?_)
      · have hz : ∀ y, y + 1 < x + 1 → nx u y ≤ nx u (y + 1) := fun y hy => by
          rcases Nat.lt_or_ge (y + 1) x with q | q
          · exact hr0 y q
          · have e9 : y = x - 1 := by omega
            subst e9
            have e8 : x - 1 + 1 = x := by omega
            rw [e8]; exact c_36
        refine lv_iinc (v := nI (x + 1)) (lv' := [(2, .int (nI (x + 1))), (1, .int (nI u)), (0, .ref (Ad 1))]) hx hb dX0_keepsOrder_41 hl (k := 0) rfl (nI_add _ 1) (by decide) rfl (fun ls hl => ?_)
        refine lv_goto (tgt := 10) hx hb dX0_keepsOrder_44 (by decide) ?_
        exact ih (x + 1) ls (by omega) (by omega) (by omega) hz (lv_sub hl [0, 1, 2] rfl)
      · refine lv_iconst (v := nI 0) hx hb dX0_keepsOrder_39 (by decide) ?_
        refine pw_topi (y := pb (ko n nx)) (by rw [show ko n nx = false from ko_f (fun q => by have q9 := q u hu (x - 1) (by omega); have e8 : x - 1 + 1 = x := (by omega); rw [e8] at q9; omega)]; rfl) ?_
        exact hq _ ls dX0_keepsOrder_40

set_option maxHeartbeats 4000000 in
set_option maxRecDepth 100000 in
theorem L_keepsOrder {p : Program} {l : Launch} {e : Env} {s : State} {m : MethodId} {args : Array Value} {below : List Frame} {meth : Method} {c : Code} {H : Heap} {locs : List Loc} {Q : State → Prop} (S : CallFix p m c cX0_keepsOrder 3 s args wsX0_keepsOrder RX0) {D : va_G} {cy : Nat → ClassId} {Ad : Nat → Nat} {n mm : Nat} {C : pw_C} (hK : pw_K D cy s) (hP : pw_P D cy Ad (shX n) C H) (hF : fX n mm Ad C) (hn : 1 ≤ n ∧ n ≤ 12) {nx : Nat → Nat → Nat} (hN : gN n nx C)  (hq : ∀ (pc9 : Nat) (ls : Array Slot), decode cX0_keepsOrder pc9 = .ok (.ireturn, 1) → W p l e (k2_rm 0 0) s m args below meth c H locs 0 0 Q (F0 m pc9 ls [.int (pb (ko n nx))])) : ∀ (f : Nat) (u : Nat) (ls : Array Slot), 8 - u < f → (u ≤ 8) → (∀ v, v < u → ∀ y, y < n - 1 → nx v y ≤ nx v (y + 1)) → lv_has ls 3 [(1, .int (nI u)), (0, .ref (Ad 1))] → W p l e (k2_rm 0 0) s m args below meth c H locs 0 0 Q (F0 m 2 ls []) := by
  have hx := S.1
  have hb := S.2.1
  have hml := S.2.2.1
  have hown := S.2.2.2.1
  have hts := S.2.2.2.2
  intro f
  induction f with
  | zero => intro u ls hf; exact absurd hf (Nat.not_lt_zero _)
  | succ f ih =>
    intro u ls hf hu0 hr0 hl
    refine lv_iload_n hx hb dX0_keepsOrder_2 rfl (lv_at hl 0 rfl) ?_
    refine lv_bipush (v := nI 8) hx hb dX0_keepsOrder_3 (by decide) ?_
    refine pn_icmp_ge (tgt := 53) hx hb (by omega) (by omega) dX0_keepsOrder_5 (by decide) (fun c_5 => ?_) (fun c_5 => ?_)
    · have hz : ∀ v, v < 8 → ∀ y, y < n - 1 → nx v y ≤ nx v (y + 1) := fun v hv => hr0 v (by omega)
      refine lv_iconst (v := nI 1) hx hb dX0_keepsOrder_53 (by decide) ?_
      refine pw_topi (y := pb (ko n nx)) (by rw [show ko n nx = true from ko_iff.mpr hz]; rfl) ?_
      exact hq _ ls dX0_keepsOrder_54
    · refine lv_iconst (v := nI 1) hx hb dX0_keepsOrder_8 (by decide) ?_
      refine lv_istore_n (lv' := [(2, .int (nI 1)), (1, .int (nI u)), (0, .ref (Ad 1))]) hx hb dX0_keepsOrder_9 rfl hl (by decide) rfl (fun ls hl => ?_)
      refine L_keepsOrder_in S hK hP hF hn hN u c_5 (fun ls hz hl => ?_) hq n 1 ls (by omega) (by omega) (by omega) (fun y hy => by omega) (lv_sub hl [0, 1, 2] rfl)
      refine lv_iinc (v := nI (u + 1)) (lv' := [(1, .int (nI (u + 1))), (0, .ref (Ad 1))]) hx hb dX0_keepsOrder_47 hl (k := 0) rfl (nI_add _ 1) (by decide) rfl (fun ls hl => ?_)
      refine lv_goto (tgt := 2) hx hb dX0_keepsOrder_50 (by decide) ?_
      exact ih (u + 1) ls (by omega) (by omega) (fun v hv => by
        rcases Nat.lt_or_ge v u with q | q
        · exact hr0 v q
        · obtain rfl : v = u := by omega
          exact hz) (lv_sub hl [0, 1] rfl)

set_option maxHeartbeats 4000000 in
set_option maxRecDepth 100000 in
theorem c_X0_keepsOrder (l : Launch) (D : va_G) (cy : Nat → ClassId) (Ad : Nat → Nat) (n mm : Nat) (C : pw_C) (hn : 1 ≤ n ∧ n ≤ 12) (hF : fX n mm Ad C) (nx : Nat → Nat → Nat) (hN : gN n nx C) : Met l yX0_keepsOrder wsX0_keepsOrder (k2_rm 0 0) (pw_Pre ([.ref (Ad 1)]) D cy Ad (shX n) C) (k2_QcV (.int (pb (ko n nx)))) 0 0 (fun _ => False) := by
  refine Met.ofW (cc := cX0_keepsOrder) (maxL := 3) (ret := (some .boolean)) (by decide) rfl ?_
  intro p e s m args below meth c s₁ B hml hv
  obtain ⟨rfl, hP, hK⟩ := hv
  have hx := B.exec
  have hb := B.bytes
  have hr := B.returns
  have hts := atoms_spec (ws := wsX0_keepsOrder) B.pre
  have hown : s.vm.findClass RX0 = some m.cls := findClass_of_methodNamed B.named
  have hlocks := B.notSynchronized
  have S : CallFix p m c cX0_keepsOrder 3 s ([.ref (Ad 1)]).toArray wsX0_keepsOrder RX0 := ⟨hx, hb, hml, hown, hts⟩
  change W p l e (k2_rm 0 0) s m _ below meth c s.heap [] 0 0 _ _
  have hl := lv_entry ([.ref (Ad 1)]) (n := 3) (Nat.le_of_ble_eq_true rfl)
  rw [lg_entry_eq]
  generalize (lg_sl ([.ref (Ad 1)]) ++ List.replicate (3 - (lg_sl ([.ref (Ad 1)])).length) Slot.unset).toArray = ls at hl ⊢
  have hl : lv_has ls 3 [(0, .ref (Ad 1))] := hl
  refine lv_iconst (v := nI 0) hx hb dX0_keepsOrder_0 (by decide) ?_
  refine lv_istore_n (lv' := [(1, .int (nI 0)), (0, .ref (Ad 1))]) hx hb dX0_keepsOrder_1 rfl hl (by decide) rfl (fun ls hl => ?_)
  exact L_keepsOrder S hK hP hF hn hN (fun pc9 ls hd9 => W.zret hx hb hr (pb_nar _) (fun t ht _ => ⟨rfl, ht⟩) (fun q h => by cases h) hd9) 9 0 ls (by omega) (by omega) (fun v hv => by omega) (lv_sub hl [0, 1] rfl)

set_option maxHeartbeats 4000000 in
set_option maxRecDepth 100000 in
theorem L_throughBlock {p : Program} {l : Launch} {e : Env} {s : State} {m : MethodId} {args : Array Value} {below : List Frame} {meth : Method} {c : Code} {H : Heap} {locs : List Loc} {Q : State → Prop} (S : CallFix p m c cX0_throughBlock 7 s args wsX0_throughBlock RX0) {D : va_G} {cy : Nat → ClassId} {Ad : Nat → Nat} {n mm : Nat} {C : pw_C} (hK : pw_K D cy s) (hP : pw_P D cy Ad (shX n) C H) (hF : fX n mm Ad C) (hn : 1 ≤ n ∧ n ≤ 12) {nx : Nat → Nat → Nat} (hN : gN n nx C) (a : Int32) (bf len x : Nat) (hbf : bf ≤ 100000) (hle : len ≤ 64) (hq : ∀ (pc9 : Nat) (ls : Array Slot), decode cX0_throughBlock pc9 = .ok (.ireturn, 1) → W p l e (k2_rm 2 43) s m args below meth c H locs 0 0 Q (F0 m pc9 ls [.int (nI (tbF nx a bf len x))])) : ∀ (f : Nat) (i : Nat) (ls : Array Slot), len - i < f → (i ≤ len) → (tbF nx a bf i x < n) → lv_has ls 7 [(6, .int (nI (i + 1))), (5, .int (nI (tbF nx a bf i x))), (3, .int (nI len)), (0, .ref (Ad 1)), (1, .int a), (2, .int (nI bf))] → W p l e (k2_rm 2 43) s m args below meth c H locs 0 0 Q (F0 m 7 ls []) := by
  have hx := S.1
  have hb := S.2.1
  have hml := S.2.2.1
  have hown := S.2.2.2.1
  have hts := S.2.2.2.2
  intro f
  induction f with
  | zero => intro i ls hf; exact absurd hf (Nat.not_lt_zero _)
  | succ f ih =>
    intro i ls hf hi0 hx0 hl
    refine lv_iload hx hb dX0_throughBlock_7 (lv_at hl 0 rfl) ?_
    refine lv_iload_n hx hb dX0_throughBlock_9 rfl (lv_at hl 2 rfl) ?_
    refine pn_icmp_gt (tgt := 37) hx hb (by omega) (by omega) dX0_throughBlock_10 (by decide) (fun c_10 => ?_) (fun c_10 => ?_)
    · have hie : i = len := by omega
      refine lv_iload hx hb dX0_throughBlock_37 (lv_at hl 1 rfl) ?_
      refine pw_topi (y := nI (tbF nx a bf len x)) (by rw [hie]) ?_
      exact hq _ ls dX0_throughBlock_39
    · refine lv_aload_n hx hb dX0_throughBlock_13 rfl (lv_at hl 3 rfl) ?_
      refine pw_get hx hb hts (fun _ h9 => List.mem_cons_of_mem _ (List.mem_append_right _ h9)) hown hK hP 1 rfl rfl 1 (by decide) hF.2.1 rfl (hts (.fieldLink RX0 17 "PastDraws$Chain" "next" "[[I") (List.mem_of_getElem? (i := 1) rfl)) dX0_throughBlock_14 ?_
      refine lv_iload_n hx hb dX0_throughBlock_17 rfl (lv_at hl 4 rfl) ?_
      refine lv_iload_n hx hb dX0_throughBlock_18 rfl (lv_at hl 5 rfl) ?_
      refine lv_iload hx hb dX0_throughBlock_19 (lv_at hl 0 rfl) ?_
      refine lv_iadd hx hb dX0_throughBlock_21 ?_
      refine pw_topi (nI_add _ _) ?_
      refine pw_cn S hK.2 (hts (.initialized RX4) (List.mem_of_getElem? (i := 3) rfl)) (hts (.static yX4_signAt) (List.mem_of_getElem? (i := 2) rfl)) 2 (c_X4_signAt l a (nI (bf + (i + 1)))) gX0_throughBlock_X4_signAt_n38 rfl rfl rfl (by decide +kernel) ⟨Nat.le_of_ble_eq_true rfl, Nat.le_of_ble_eq_true rfl⟩ rfl hl.1 rfl (Nat.le_of_ble_eq_true rfl) dX0_throughBlock_22 ⟨Nat.le_refl _, Nat.le_refl _⟩ ?_
      refine pw_aald4 hx hb hK hP 5 rfl (by first | exact sgn_lt _ _ | omega) (by decide) dX0_throughBlock_25 ?_
      refine lv_iload hx hb dX0_throughBlock_26 (lv_at hl 1 rfl) ?_
      have hu_28 : (sgn a (nI (bf + (i + 1)))) < 8 := (by first | exact sgn_lt _ _ | omega)
      have hx_28 : tbF nx a bf i x < n := (by first | exact sgn_lt _ _ | omega)
      have q_28 : nx (sgn a (nI (bf + (i + 1)))) (tbF nx a bf i x) < n := (hN _ hu_28 _ hx_28).1
      refine pw_iald hx hb hK hP (21 + (sgn a (nI (bf + (i + 1))))) (shX_nx hu_28) hx_28 (by omega) (hN _ hu_28 _ hx_28).2 dX0_throughBlock_28 ?_
      refine lv_istore (lv' := [(5, .int (nI (nx (sgn a (nI (bf + (i + 1)))) (tbF nx a bf i x)))), (6, .int (nI (i + 1))), (3, .int (nI len)), (0, .ref (Ad 1)), (1, .int a), (2, .int (nI bf))]) hx hb dX0_throughBlock_29 hl (by decide) rfl (fun ls hl => ?_)
      refine lv_iinc (v := nI ((i + 1) + 1)) (lv' := [(6, .int (nI ((i + 1) + 1))), (5, .int (nI (nx (sgn a (nI (bf + (i + 1)))) (tbF nx a bf i x)))), (3, .int (nI len)), (0, .ref (Ad 1)), (1, .int a), (2, .int (nI bf))]) hx hb dX0_throughBlock_31 hl (k := 1) rfl (nI_add _ 1) (by decide) rfl (fun ls hl => ?_)
      refine lv_goto (tgt := 7) hx hb dX0_throughBlock_34 (by decide) ?_
      exact ih (i + 1) ls (by omega) (by omega) q_28 (lv_sub hl [0, 1, 2, 3, 4, 5] rfl)

set_option maxHeartbeats 4000000 in
set_option maxRecDepth 100000 in
theorem c_X0_throughBlock (l : Launch) (D : va_G) (cy : Nat → ClassId) (Ad : Nat → Nat) (n mm : Nat) (C : pw_C) (hn : 1 ≤ n ∧ n ≤ 12) (hF : fX n mm Ad C) (nx : Nat → Nat → Nat) (hN : gN n nx C) (a : Int32) (bf len x : Nat) (hbf : bf ≤ 100000) (hle : len ≤ 64) (hx0 : x < n) : Met l yX0_throughBlock wsX0_throughBlock (k2_rm 2 43) (pw_Pre ([.ref (Ad 1), .int a, .int (nI bf), .int (nI len), .int (nI x)]) D cy Ad (shX n) C) (k2_QcV (.int (nI (tbF nx a bf len x)))) 0 0 (fun _ => False) := by
  refine Met.ofW (cc := cX0_throughBlock) (maxL := 7) (ret := (some .int)) (by decide) rfl ?_
  intro p e s m args below meth c s₁ B hml hv
  obtain ⟨rfl, hP, hK⟩ := hv
  have hx := B.exec
  have hb := B.bytes
  have hr := B.returns
  have hts := atoms_spec (ws := wsX0_throughBlock) B.pre
  have hown : s.vm.findClass RX0 = some m.cls := findClass_of_methodNamed B.named
  have hlocks := B.notSynchronized
  have S : CallFix p m c cX0_throughBlock 7 s ([.ref (Ad 1), .int a, .int (nI bf), .int (nI len), .int (nI x)]).toArray wsX0_throughBlock RX0 := ⟨hx, hb, hml, hown, hts⟩
  change W p l e (k2_rm 2 43) s m _ below meth c s.heap [] 0 0 _ _
  have hl := lv_entry ([.ref (Ad 1), .int a, .int (nI bf), .int (nI len), .int (nI x)]) (n := 7) (Nat.le_of_ble_eq_true rfl)
  rw [lg_entry_eq]
  generalize (lg_sl ([.ref (Ad 1), .int a, .int (nI bf), .int (nI len), .int (nI x)]) ++ List.replicate (7 - (lg_sl ([.ref (Ad 1), .int a, .int (nI bf), .int (nI len), .int (nI x)])).length) Slot.unset).toArray = ls at hl ⊢
  have hl : lv_has ls 7 [(0, .ref (Ad 1)), (1, .int a), (2, .int (nI bf)), (3, .int (nI len)), (4, .int (nI x))] := hl
  refine lv_iload hx hb dX0_throughBlock_0 (lv_at hl 4 rfl) ?_
  refine lv_istore (lv' := [(5, .int (nI x)), (0, .ref (Ad 1)), (1, .int a), (2, .int (nI bf)), (3, .int (nI len)), (4, .int (nI x))]) hx hb dX0_throughBlock_2 hl (by decide) rfl (fun ls hl => ?_)
  refine lv_iconst (v := nI 1) hx hb dX0_throughBlock_4 (by decide) ?_
  refine lv_istore (lv' := [(6, .int (nI 1)), (5, .int (nI x)), (0, .ref (Ad 1)), (1, .int a), (2, .int (nI bf)), (3, .int (nI len)), (4, .int (nI x))]) hx hb dX0_throughBlock_5 hl (by decide) rfl (fun ls hl => ?_)
  exact L_throughBlock S hK hP hF hn hN a bf len x hbf hle (fun pc9 ls hd9 => W.iret hx hb hr (fun t ht _ => ⟨rfl, ht⟩) (fun q h => by cases h) hd9) (len + 1) 0 ls (by omega) (by omega) hx0 (lv_sub hl [0, 1, 5, 2, 3, 4] rfl)

set_option maxHeartbeats 4000000 in
set_option maxRecDepth 100000 in
theorem L_blockMeets {p : Program} {l : Launch} {e : Env} {s : State} {m : MethodId} {args : Array Value} {below : List Frame} {meth : Method} {c : Code} {H : Heap} {locs : List Loc} {Q : State → Prop} (S : CallFix p m c cX0_blockMeets 6 s args wsX0_blockMeets RX0) {D : va_G} {cy : Nat → ClassId} {Ad : Nat → Nat} {n mm : Nat} {C : pw_C} (hK : pw_K D cy s) (hP : pw_P D cy Ad (shX n) C H) (hF : fX n mm Ad C) (hn : 1 ≤ n ∧ n ≤ 12) {nx : Nat → Nat → Nat} (hN : gN n nx C) (a : Int32) (bf len : Nat) (hbf : bf ≤ 100000) (hle : len ≤ 64) (r : Bool) (hq : ∀ (pc9 : Nat) (ls : Array Slot), decode cX0_blockMeets pc9 = .ok (.ireturn, 1) → W p l e (k2_rm 2 43) s m args below meth c H locs 0 0 Q (F0 m pc9 ls [.int (pb r)])) : ∀ (f : Nat) (i : Nat) (Z : Nat) (ls : Array Slot), len + 1 - i < f → (i ≤ 65) → (Z < 2 ^ n) → (bmF nx n a bf (len + 1 - i) i Z = r) → lv_has ls 6 [(5, .int (nI i)), (4, .int (nI Z)), (3, .int (nI len)), (0, .ref (Ad 1)), (1, .int a), (2, .int (nI bf))] → W p l e (k2_rm 2 43) s m args below meth c H locs 0 0 Q (F0 m 9 ls []) := by
  have hx := S.1
  have hb := S.2.1
  have hml := S.2.2.1
  have hown := S.2.2.2.1
  have hts := S.2.2.2.2
  intro f
  induction f with
  | zero => intro i Z ls hf; exact absurd hf (Nat.not_lt_zero _)
  | succ f ih =>
    intro i Z ls hf hi0 hZ hr0 hl
    have hpw := pow12 hn.2
    refine lv_iload hx hb dX0_blockMeets_9 (lv_at hl 0 rfl) ?_
    refine lv_iload_n hx hb dX0_blockMeets_11 rfl (lv_at hl 2 rfl) ?_
    refine pn_icmp_gt (tgt := 45) hx hb (by omega) (by omega) dX0_blockMeets_12 (by decide) (fun c_12 => ?_) (fun c_12 => ?_)
    · have hz : len + 1 - i = 0 := by omega
      rw [hz] at hr0
      refine lv_iload hx hb dX0_blockMeets_45 (lv_at hl 1 rfl) ?_
      refine pw_cs S 1 (c_X0_isSingle l Z (by omega)) gX0_blockMeets_X0_isSingle rfl rfl rfl (by decide +kernel) ⟨Nat.le_of_ble_eq_true rfl, Nat.le_of_ble_eq_true rfl⟩ rfl hl.1 rfl (Nat.le_of_ble_eq_true rfl) dX0_blockMeets_47 ⟨Nat.le_refl _, Nat.le_refl _⟩ ?_
      refine pw_topi (y := pb r) (by rw [← hr0]; try rfl) ?_
      exact hq _ ls dX0_blockMeets_50
    · obtain ⟨z, hz⟩ : ∃ z, len + 1 - i = z + 1 := ⟨len - i, by omega⟩
      rw [hz, bmF] at hr0
      refine lv_iload hx hb dX0_blockMeets_15 (lv_at hl 1 rfl) ?_
      refine pw_cs S 1 (c_X0_isSingle l Z (by omega)) gX0_blockMeets_X0_isSingle rfl rfl rfl (by decide +kernel) ⟨Nat.le_of_ble_eq_true rfl, Nat.le_of_ble_eq_true rfl⟩ rfl hl.1 rfl (Nat.le_of_ble_eq_true rfl) dX0_blockMeets_17 ⟨Nat.le_refl _, Nat.le_refl _⟩ ?_
      refine pn_ifne_b (tgt := 45) hx hb dX0_blockMeets_20 (by decide) (fun c_20 => ?_) (fun c_20 => ?_)
      · rw [if_pos c_20] at hr0
        have hr0 : sng Z = r := by rw [c_20]; exact hr0
        refine lv_iload hx hb dX0_blockMeets_45 (lv_at hl 1 rfl) ?_
        refine pw_cs S 1 (c_X0_isSingle l Z (by omega)) gX0_blockMeets_X0_isSingle rfl rfl rfl (by decide +kernel) ⟨Nat.le_of_ble_eq_true rfl, Nat.le_of_ble_eq_true rfl⟩ rfl hl.1 rfl (Nat.le_of_ble_eq_true rfl) dX0_blockMeets_47 ⟨Nat.le_refl _, Nat.le_refl _⟩ ?_
        refine pw_topi (y := pb r) (by rw [← hr0]; try rfl) ?_
        exact hq _ ls dX0_blockMeets_50
      · rw [if_neg (by rw [c_20]; decide)] at hr0
        have hz2 : z = len + 1 - (i + 1) := by omega
        have hZ2 : imgF nx Z (sgn a (nI (bf + i))) n < 2 ^ n := imgF_lt (fun x h => (hN _ (sgn_lt _ _) x h).1) n (Nat.le_refl _)
        refine lv_aload_n hx hb dX0_blockMeets_23 rfl (lv_at hl 3 rfl) ?_
        refine lv_iload hx hb dX0_blockMeets_24 (lv_at hl 1 rfl) ?_
        refine lv_iload_n hx hb dX0_blockMeets_26 rfl (lv_at hl 4 rfl) ?_
        refine lv_iload_n hx hb dX0_blockMeets_27 rfl (lv_at hl 5 rfl) ?_
        refine lv_iload hx hb dX0_blockMeets_28 (lv_at hl 0 rfl) ?_
        refine lv_iadd hx hb dX0_blockMeets_30 ?_
        refine pw_topi (nI_add _ _) ?_
        refine pw_cn S hK.2 (hts (.initialized RX4) (List.mem_of_getElem? (i := 11) rfl)) (hts (.static yX4_signAt) (List.mem_of_getElem? (i := 10) rfl)) 2 (c_X4_signAt l a (nI (bf + i))) gX0_blockMeets_X4_signAt_n38 rfl rfl rfl (by decide +kernel) ⟨Nat.le_of_ble_eq_true rfl, Nat.le_of_ble_eq_true rfl⟩ rfl hl.1 rfl (Nat.le_of_ble_eq_true rfl) dX0_blockMeets_31 ⟨Nat.le_refl _, Nat.le_refl _⟩ ?_
        refine pw_cv S hK hP 1 0 rfl rfl 2 (c_X0_imageOf l D cy Ad n mm C hn hF nx hN Z (sgn a (nI (bf + i))) (by omega) (sgn_lt _ _)) gX0_blockMeets_X0_imageOf rfl rfl rfl (by decide +kernel) ⟨Nat.le_of_ble_eq_true rfl, Nat.le_of_ble_eq_true rfl⟩ rfl hl.1 rfl (Nat.le_of_ble_eq_true rfl) dX0_blockMeets_34 ⟨Nat.le_refl _, Nat.le_refl _⟩ ?_
        refine lv_istore (lv' := [(4, .int (nI (imgF nx Z (sgn a (nI (bf + i))) n))), (5, .int (nI i)), (3, .int (nI len)), (0, .ref (Ad 1)), (1, .int a), (2, .int (nI bf))]) hx hb dX0_blockMeets_37 hl (by decide) rfl (fun ls hl => ?_)
        refine lv_iinc (v := nI (i + 1)) (lv' := [(5, .int (nI (i + 1))), (4, .int (nI (imgF nx Z (sgn a (nI (bf + i))) n))), (3, .int (nI len)), (0, .ref (Ad 1)), (1, .int a), (2, .int (nI bf))]) hx hb dX0_blockMeets_39 hl (k := 1) rfl (nI_add _ 1) (by decide) rfl (fun ls hl => ?_)
        refine lv_goto (tgt := 9) hx hb dX0_blockMeets_42 (by decide) ?_
        exact ih (i + 1) _ ls (by omega) (by omega) hZ2 (by rw [← hz2]; exact hr0) (lv_sub hl [0, 1, 2, 3, 4, 5] rfl)

set_option maxHeartbeats 4000000 in
set_option maxRecDepth 100000 in
theorem c_X0_blockMeets (l : Launch) (D : va_G) (cy : Nat → ClassId) (Ad : Nat → Nat) (n mm : Nat) (C : pw_C) (hn : 1 ≤ n ∧ n ≤ 12) (hF : fX n mm Ad C) (nx : Nat → Nat → Nat) (hN : gN n nx C) (a : Int32) (bf len : Nat) (hbf : bf ≤ 100000) (hle : len ≤ 64) : Met l yX0_blockMeets wsX0_blockMeets (k2_rm 2 43) (pw_Pre ([.ref (Ad 1), .int a, .int (nI bf), .int (nI len)]) D cy Ad (shX n) C) (k2_QcV (.int (pb (bmF nx n a bf len 1 (2 ^ n - 1))))) 0 0 (fun _ => False) := by
  refine Met.ofW (cc := cX0_blockMeets) (maxL := 6) (ret := (some .boolean)) (by decide) rfl ?_
  intro p e s m args below meth c s₁ B hml hv
  obtain ⟨rfl, hP, hK⟩ := hv
  have hx := B.exec
  have hb := B.bytes
  have hr := B.returns
  have hts := atoms_spec (ws := wsX0_blockMeets) B.pre
  have hown : s.vm.findClass RX0 = some m.cls := findClass_of_methodNamed B.named
  have hlocks := B.notSynchronized
  have S : CallFix p m c cX0_blockMeets 6 s ([.ref (Ad 1), .int a, .int (nI bf), .int (nI len)]).toArray wsX0_blockMeets RX0 := ⟨hx, hb, hml, hown, hts⟩
  change W p l e (k2_rm 2 43) s m _ below meth c s.heap [] 0 0 _ _
  have hl := lv_entry ([.ref (Ad 1), .int a, .int (nI bf), .int (nI len)]) (n := 6) (Nat.le_of_ble_eq_true rfl)
  rw [lg_entry_eq]
  generalize (lg_sl ([.ref (Ad 1), .int a, .int (nI bf), .int (nI len)]) ++ List.replicate (6 - (lg_sl ([.ref (Ad 1), .int a, .int (nI bf), .int (nI len)])).length) Slot.unset).toArray = ls at hl ⊢
  have hl : lv_has ls 6 [(0, .ref (Ad 1)), (1, .int a), (2, .int (nI bf)), (3, .int (nI len))] := hl
  refine lv_aload_n hx hb dX0_blockMeets_0 rfl (lv_at hl 0 rfl) ?_
  refine pw_cv S hK hP 1 0 rfl rfl 0 (c_X0_allStates l D cy Ad n mm C hn hF ) gX0_blockMeets_X0_allStates rfl rfl rfl (by decide +kernel) ⟨Nat.le_of_ble_eq_true rfl, Nat.le_of_ble_eq_true rfl⟩ rfl hl.1 rfl (Nat.le_of_ble_eq_true rfl) dX0_blockMeets_1 ⟨Nat.le_refl _, Nat.le_refl _⟩ ?_
  refine lv_istore (lv' := [(4, .int (nI (2 ^ n - 1))), (0, .ref (Ad 1)), (1, .int a), (2, .int (nI bf)), (3, .int (nI len))]) hx hb dX0_blockMeets_4 hl (by decide) rfl (fun ls hl => ?_)
  refine lv_iconst (v := nI 1) hx hb dX0_blockMeets_6 (by decide) ?_
  refine lv_istore (lv' := [(5, .int (nI 1)), (4, .int (nI (2 ^ n - 1))), (0, .ref (Ad 1)), (1, .int a), (2, .int (nI bf)), (3, .int (nI len))]) hx hb dX0_blockMeets_7 hl (by decide) rfl (fun ls hl => ?_)
  exact L_blockMeets S hK hP hF hn hN a bf len hbf hle _ (fun pc9 ls hd9 => W.zret hx hb hr (pb_nar _) (fun t ht _ => ⟨rfl, ht⟩) (fun q h => by cases h) hd9) (len + 1) 1 (2 ^ n - 1) ls (by omega) (by omega) (Nat.sub_lt (Nat.pow_pos (by decide)) (by decide)) rfl (lv_sub hl [0, 1, 5, 2, 3, 4] rfl)
end
section
def iw (x r : Nat) : Nat := if x < r then x else x - 1
set_option maxHeartbeats 4000000 in
set_option maxRecDepth 100000 in
theorem c_X0_indexWithout (l : Launch) (x r : Nat) (hx0 : x < 2 ^ 31) (hr0 : r < 2 ^ 31) (hne : ¬ x = r) : Met l yX0_indexWithout wsX0_indexWithout (k2_rm 0 0) (fun v _ => v = ([.int (nI x), .int (nI r)]).toArray) (k2_QcV (.int (nI (iw x r)))) 0 0 (fun _ => False) := by
  refine Met.ofW (cc := cX0_indexWithout) (maxL := 2) (ret := (some .int)) (by decide) rfl ?_
  intro p e s m args below meth c s₁ B hml hv
  obtain rfl := hv
  have hx := B.exec
  have hb := B.bytes
  have hr := B.returns
  have hts := atoms_spec (ws := wsX0_indexWithout) B.pre
  have hown : s.vm.findClass RX0 = some m.cls := findClass_of_methodNamed B.named
  have hlocks := B.notSynchronized
  have S : CallFix p m c cX0_indexWithout 2 s ([.int (nI x), .int (nI r)]).toArray wsX0_indexWithout RX0 := ⟨hx, hb, hml, hown, hts⟩
  change W p l e (k2_rm 0 0) s m _ below meth c s.heap [] 0 0 _ _
  have hl := lv_entry ([.int (nI x), .int (nI r)]) (n := 2) (Nat.le_of_ble_eq_true rfl)
  rw [lg_entry_eq]
  generalize (lg_sl ([.int (nI x), .int (nI r)]) ++ List.replicate (2 - (lg_sl ([.int (nI x), .int (nI r)])).length) Slot.unset).toArray = ls at hl ⊢
  have hl : lv_has ls 2 [(0, .int (nI x)), (1, .int (nI r))] := hl
  refine lv_iload_n hx hb dX0_indexWithout_0 rfl (lv_at hl 0 rfl) ?_
  refine lv_iload_n hx hb dX0_indexWithout_1 rfl (lv_at hl 1 rfl) ?_
  refine pn_icmp_ge (tgt := 9) hx hb (by omega) (by omega) dX0_indexWithout_2 (by decide) (fun c_2 => ?_) (fun c_2 => ?_)
  · refine lv_iload_n hx hb dX0_indexWithout_9 rfl (lv_at hl 0 rfl) ?_
    refine lv_iconst (v := nI 1) hx hb dX0_indexWithout_10 (by decide) ?_
    refine lv_isub hx hb dX0_indexWithout_11 ?_
    refine pw_topi (pk_sub (by omega)) ?_
    refine pw_topi (y := nI (iw x r)) (by unfold iw; first | rw [if_neg (by omega)] | rw [if_pos (by omega)]) ?_
    exact W.iret hx hb hr (fun t ht _ => ⟨rfl, ht⟩) (fun q h => by cases h) dX0_indexWithout_12
  · refine lv_iload_n hx hb dX0_indexWithout_5 rfl (lv_at hl 0 rfl) ?_
    refine lv_goto (tgt := 12) hx hb dX0_indexWithout_6 (by decide) ?_
    refine pw_topi (y := nI (iw x r)) (by unfold iw; first | rw [if_neg (by omega)] | rw [if_pos (by omega)]) ?_
    exact W.iret hx hb hr (fun t ht _ => ⟨rfl, ht⟩) (fun q h => by cases h) dX0_indexWithout_12

theorem tb_lt {n : Nat} {nx : Nat → Nat → Nat} {C : pw_C} (hN : gN n nx C) {a : Int32} {bf x : Nat} : ∀ i, x < n → tbF nx a bf i x < n := by
  intro i
  induction i with
  | zero => intro h; exact h
  | succ i ih => intro h; exact (hN _ (sgn_lt _ _) _ (ih h)).1

set_option maxHeartbeats 4000000 in
set_option maxRecDepth 100000 in
theorem L_drawOf {p : Program} {l : Launch} {e : Env} {s : State} {m : MethodId} {args : Array Value} {below : List Frame} {meth : Method} {c : Code} {H : Heap} {locs : List Loc} {Q : State → Prop} (S : CallFix p m c cX0_drawOf 10 s args wsX0_drawOf RX0) {D : va_G} {cy : Nat → ClassId} {Ad : Nat → Nat} {n mm : Nat} {C : pw_C} (hK : pw_K D cy s) (hP : pw_P D cy Ad (shX n) C H) (hF : fX n mm Ad C) (hn : 1 ≤ n ∧ n ≤ 12) {nx : Nat → Nat → Nat} (hN : gN n nx C) (a : Int32) (len k : Nat) (hle : len ≤ 64) (hk0 : k ≤ 99) (r : Option Nat) (hq : ∀ (pc9 : Nat) (ls : Array Slot), decode cX0_drawOf pc9 = .ok (.ireturn, 1) → W p l e (k2_rm 3 69) s m args below meth c H locs 0 0 Q (F0 m pc9 ls [.int (oi r)])) : ∀ (f : Nat) (b : Nat) (hm : Bool) (dr : Nat) (st : Nat) (ls : Array Slot), 500 - b < f → (b ≤ 500) → (dr ≤ b) → (st < n) → (drF nx n a len k (500 - b) b hm dr st = r) → lv_has ls 10 [(7, .int (nI b)), (6, .int (nI st)), (5, .int (nI dr)), (4, .int (pb hm)), (0, .ref (Ad 1)), (1, .int a), (2, .int (nI len)), (3, .int (nI k))] → W p l e (k2_rm 3 69) s m args below meth c H locs 0 0 Q (F0 m 12 ls []) := by
  have hx := S.1
  have hb := S.2.1
  have hml := S.2.2.1
  have hown := S.2.2.2.1
  have hts := S.2.2.2.2
  intro f
  induction f with
  | zero => intro b hm dr st ls hf; exact absurd hf (Nat.not_lt_zero _)
  | succ f ih =>
    intro b hm dr st ls hf hb9 hdr hst hr0 hl
    refine lv_iload hx hb dX0_drawOf_12 (lv_at hl 0 rfl) ?_
    refine lv_sipush (v := nI 500) hx hb dX0_drawOf_14 (by decide) ?_
    refine pn_icmp_ge (tgt := 93) hx hb (by omega) (by omega) dX0_drawOf_17 (by decide) (fun c_17 => ?_) (fun c_17 => ?_)
    · have hz : 500 - b = 0 := by omega
      rw [hz] at hr0
      refine lv_bipush (v := (-2)) hx hb dX0_drawOf_93 (by decide) ?_
      refine pw_topi (y := oi r) (by rw [← hr0]; try rfl) ?_
      exact hq _ ls dX0_drawOf_95
    · obtain ⟨z, hz⟩ : ∃ z, 500 - b = z + 1 := ⟨499 - b, by omega⟩
      rw [hz, drF] at hr0
      have hz2 : z = 500 - (b + 1) := by omega
      have hbf : len * b ≤ 100000 := Nat.le_trans (Nat.mul_le_mul hle (show b ≤ 499 by omega)) (by decide)
      have htb : tbF nx a (len * b) len st < n := tb_lt hN len hst
      refine lv_iload_n hx hb dX0_drawOf_20 rfl (lv_at hl 6 rfl) ?_
      refine lv_iload hx hb dX0_drawOf_21 (lv_at hl 0 rfl) ?_
      refine lv_imul hx hb dX0_drawOf_23 ?_
      refine pw_topi (pk_mul _ _) ?_
      refine lv_istore (lv' := [(8, .int (nI (len * b))), (7, .int (nI b)), (6, .int (nI st)), (5, .int (nI dr)), (4, .int (pb hm)), (0, .ref (Ad 1)), (1, .int a), (2, .int (nI len)), (3, .int (nI k))]) hx hb dX0_drawOf_24 hl (by decide) rfl (fun ls hl => ?_)
      refine lv_aload_n hx hb dX0_drawOf_26 rfl (lv_at hl 5 rfl) ?_
      refine lv_iload_n hx hb dX0_drawOf_27 rfl (lv_at hl 6 rfl) ?_
      refine lv_iload hx hb dX0_drawOf_28 (lv_at hl 0 rfl) ?_
      refine lv_iload_n hx hb dX0_drawOf_30 rfl (lv_at hl 7 rfl) ?_
      refine pw_cv S hK hP 1 0 rfl rfl 3 (c_X0_blockMeets l D cy Ad n mm C hn hF nx hN a (len * b) len hbf (by omega)) gX0_drawOf_X0_blockMeets rfl rfl rfl (by decide +kernel) ⟨Nat.le_of_ble_eq_true rfl, Nat.le_of_ble_eq_true rfl⟩ rfl hl.1 rfl (Nat.le_of_ble_eq_true rfl) dX0_drawOf_31 ⟨Nat.le_refl _, Nat.le_refl _⟩ ?_
      refine lv_istore (lv' := [(9, .int (pb (bmF nx n a (len * b) len 1 (2 ^ n - 1)))), (8, .int (nI (len * b))), (7, .int (nI b)), (6, .int (nI st)), (5, .int (nI dr)), (4, .int (pb hm)), (0, .ref (Ad 1)), (1, .int a), (2, .int (nI len)), (3, .int (nI k))]) hx hb dX0_drawOf_34 hl (by decide) rfl (fun ls hl => ?_)
      generalize hmt : bmF nx n a (len * b) len 1 (2 ^ n - 1) = mt at hl hr0 ⊢
      rcases hm with _ | _ <;> rcases mt with _ | _
      · have hl : lv_has ls 10 [(9, .int (pb false)), (8, .int (nI (len * b))), (7, .int (nI b)), (6, .int (nI st)), (5, .int (nI dr)), (4, .int (pb false)), (0, .ref (Ad 1)), (1, .int a), (2, .int (nI len)), (3, .int (nI k))] := hl
        refine lv_iload hx hb dX0_drawOf_36 (lv_at hl 0 rfl) ?_
        refine pn_ifeq_b (tgt := 58) hx hb dX0_drawOf_38 (by decide) (fun _ => ?_) (fun h9 => absurd h9 (by decide))
        refine lv_iload hx hb dX0_drawOf_58 (lv_at hl 5 rfl) ?_
        refine pn_ifne_b (tgt := 68) hx hb dX0_drawOf_60 (by decide) (fun h9 => absurd h9 (by decide)) (fun _ => ?_)
        refine lv_iload hx hb dX0_drawOf_63 (lv_at hl 0 rfl) ?_
        refine pn_ifeq_b (tgt := 72) hx hb dX0_drawOf_65 (by decide) (fun _ => ?_) (fun h9 => absurd h9 (by decide))
        refine lv_iconst (v := nI 0) hx hb dX0_drawOf_72 (by decide) ?_
        refine pw_topi (y := pb false) rfl ?_
        refine lv_istore (lv' := [(4, .int (pb false)), (9, .int (pb false)), (8, .int (nI (len * b))), (7, .int (nI b)), (6, .int (nI st)), (5, .int (nI dr)), (0, .ref (Ad 1)), (1, .int a), (2, .int (nI len)), (3, .int (nI k))]) hx hb dX0_drawOf_73 hl (by decide) rfl (fun ls hl => ?_)
        refine lv_aload_n hx hb dX0_drawOf_75 rfl (lv_at hl 6 rfl) ?_
        refine lv_iload_n hx hb dX0_drawOf_76 rfl (lv_at hl 7 rfl) ?_
        refine lv_iload hx hb dX0_drawOf_77 (lv_at hl 2 rfl) ?_
        refine lv_iload_n hx hb dX0_drawOf_79 rfl (lv_at hl 8 rfl) ?_
        refine lv_iload hx hb dX0_drawOf_80 (lv_at hl 4 rfl) ?_
        refine pw_cv S hK hP 1 0 rfl rfl 4 (c_X0_throughBlock l D cy Ad n mm C hn hF nx hN a (len * b) len st hbf (by omega) hst) gX0_drawOf_X0_throughBlock rfl rfl rfl (by decide +kernel) ⟨Nat.le_of_ble_eq_true rfl, Nat.le_of_ble_eq_true rfl⟩ rfl hl.1 rfl (Nat.le_of_ble_eq_true rfl) dX0_drawOf_82 ⟨Nat.le_refl _, Nat.le_refl _⟩ ?_
        refine lv_istore (lv' := [(6, .int (nI (tbF nx a (len * b) len st))), (4, .int (pb false)), (9, .int (pb false)), (8, .int (nI (len * b))), (7, .int (nI b)), (5, .int (nI dr)), (0, .ref (Ad 1)), (1, .int a), (2, .int (nI len)), (3, .int (nI k))]) hx hb dX0_drawOf_85 hl (by decide) rfl (fun ls hl => ?_)
        refine lv_iinc (v := nI (b + 1)) (lv' := [(7, .int (nI (b + 1))), (6, .int (nI (tbF nx a (len * b) len st))), (4, .int (pb false)), (9, .int (pb false)), (8, .int (nI (len * b))), (5, .int (nI dr)), (0, .ref (Ad 1)), (1, .int a), (2, .int (nI len)), (3, .int (nI k))]) hx hb dX0_drawOf_87 hl (k := 4) rfl (nI_add _ 1) (by decide) rfl (fun ls hl => ?_)
        refine lv_goto (tgt := 12) hx hb dX0_drawOf_90 (by decide) ?_
        exact ih (b + 1) false (dr) _ ls (by omega) (by omega) (by omega) htb (by rw [← hz2]; exact hr0) (lv_sub hl [0, 1, 5, 2, 6, 7, 8, 9] rfl)
      · have hl : lv_has ls 10 [(9, .int (pb true)), (8, .int (nI (len * b))), (7, .int (nI b)), (6, .int (nI st)), (5, .int (nI dr)), (4, .int (pb false)), (0, .ref (Ad 1)), (1, .int a), (2, .int (nI len)), (3, .int (nI k))] := hl
        refine lv_iload hx hb dX0_drawOf_36 (lv_at hl 0 rfl) ?_
        refine pn_ifeq_b (tgt := 58) hx hb dX0_drawOf_38 (by decide) (fun h9 => absurd h9 (by decide)) (fun _ => ?_)
        refine lv_iload hx hb dX0_drawOf_41 (lv_at hl 5 rfl) ?_
        refine pn_ifeq_b (tgt := 58) hx hb dX0_drawOf_43 (by decide) (fun _ => ?_) (fun h9 => absurd h9 (by decide))
        refine lv_iload hx hb dX0_drawOf_58 (lv_at hl 5 rfl) ?_
        refine pn_ifne_b (tgt := 68) hx hb dX0_drawOf_60 (by decide) (fun h9 => absurd h9 (by decide)) (fun _ => ?_)
        refine lv_iload hx hb dX0_drawOf_63 (lv_at hl 0 rfl) ?_
        refine pn_ifeq_b (tgt := 72) hx hb dX0_drawOf_65 (by decide) (fun h9 => absurd h9 (by decide)) (fun _ => ?_)
        refine lv_iconst (v := nI 1) hx hb dX0_drawOf_68 (by decide) ?_
        refine pw_topi (y := pb true) rfl ?_
        refine lv_goto (tgt := 73) hx hb dX0_drawOf_69 (by decide) ?_
        refine lv_istore (lv' := [(4, .int (pb true)), (9, .int (pb true)), (8, .int (nI (len * b))), (7, .int (nI b)), (6, .int (nI st)), (5, .int (nI dr)), (0, .ref (Ad 1)), (1, .int a), (2, .int (nI len)), (3, .int (nI k))]) hx hb dX0_drawOf_73 hl (by decide) rfl (fun ls hl => ?_)
        refine lv_aload_n hx hb dX0_drawOf_75 rfl (lv_at hl 6 rfl) ?_
        refine lv_iload_n hx hb dX0_drawOf_76 rfl (lv_at hl 7 rfl) ?_
        refine lv_iload hx hb dX0_drawOf_77 (lv_at hl 2 rfl) ?_
        refine lv_iload_n hx hb dX0_drawOf_79 rfl (lv_at hl 8 rfl) ?_
        refine lv_iload hx hb dX0_drawOf_80 (lv_at hl 4 rfl) ?_
        refine pw_cv S hK hP 1 0 rfl rfl 4 (c_X0_throughBlock l D cy Ad n mm C hn hF nx hN a (len * b) len st hbf (by omega) hst) gX0_drawOf_X0_throughBlock rfl rfl rfl (by decide +kernel) ⟨Nat.le_of_ble_eq_true rfl, Nat.le_of_ble_eq_true rfl⟩ rfl hl.1 rfl (Nat.le_of_ble_eq_true rfl) dX0_drawOf_82 ⟨Nat.le_refl _, Nat.le_refl _⟩ ?_
        refine lv_istore (lv' := [(6, .int (nI (tbF nx a (len * b) len st))), (4, .int (pb true)), (9, .int (pb true)), (8, .int (nI (len * b))), (7, .int (nI b)), (5, .int (nI dr)), (0, .ref (Ad 1)), (1, .int a), (2, .int (nI len)), (3, .int (nI k))]) hx hb dX0_drawOf_85 hl (by decide) rfl (fun ls hl => ?_)
        refine lv_iinc (v := nI (b + 1)) (lv' := [(7, .int (nI (b + 1))), (6, .int (nI (tbF nx a (len * b) len st))), (4, .int (pb true)), (9, .int (pb true)), (8, .int (nI (len * b))), (5, .int (nI dr)), (0, .ref (Ad 1)), (1, .int a), (2, .int (nI len)), (3, .int (nI k))]) hx hb dX0_drawOf_87 hl (k := 4) rfl (nI_add _ 1) (by decide) rfl (fun ls hl => ?_)
        refine lv_goto (tgt := 12) hx hb dX0_drawOf_90 (by decide) ?_
        exact ih (b + 1) true (dr) _ ls (by omega) (by omega) (by omega) htb (by rw [← hz2]; exact hr0) (lv_sub hl [0, 1, 5, 2, 6, 7, 8, 9] rfl)
      · have hl : lv_has ls 10 [(9, .int (pb false)), (8, .int (nI (len * b))), (7, .int (nI b)), (6, .int (nI st)), (5, .int (nI dr)), (4, .int (pb true)), (0, .ref (Ad 1)), (1, .int a), (2, .int (nI len)), (3, .int (nI k))] := hl
        refine lv_iload hx hb dX0_drawOf_36 (lv_at hl 0 rfl) ?_
        refine pn_ifeq_b (tgt := 58) hx hb dX0_drawOf_38 (by decide) (fun _ => ?_) (fun h9 => absurd h9 (by decide))
        refine lv_iload hx hb dX0_drawOf_58 (lv_at hl 5 rfl) ?_
        refine pn_ifne_b (tgt := 68) hx hb dX0_drawOf_60 (by decide) (fun _ => ?_) (fun h9 => absurd h9 (by decide))
        refine lv_iconst (v := nI 1) hx hb dX0_drawOf_68 (by decide) ?_
        refine pw_topi (y := pb true) rfl ?_
        refine lv_goto (tgt := 73) hx hb dX0_drawOf_69 (by decide) ?_
        refine lv_istore (lv' := [(4, .int (pb true)), (9, .int (pb false)), (8, .int (nI (len * b))), (7, .int (nI b)), (6, .int (nI st)), (5, .int (nI dr)), (0, .ref (Ad 1)), (1, .int a), (2, .int (nI len)), (3, .int (nI k))]) hx hb dX0_drawOf_73 hl (by decide) rfl (fun ls hl => ?_)
        refine lv_aload_n hx hb dX0_drawOf_75 rfl (lv_at hl 6 rfl) ?_
        refine lv_iload_n hx hb dX0_drawOf_76 rfl (lv_at hl 7 rfl) ?_
        refine lv_iload hx hb dX0_drawOf_77 (lv_at hl 2 rfl) ?_
        refine lv_iload_n hx hb dX0_drawOf_79 rfl (lv_at hl 8 rfl) ?_
        refine lv_iload hx hb dX0_drawOf_80 (lv_at hl 4 rfl) ?_
        refine pw_cv S hK hP 1 0 rfl rfl 4 (c_X0_throughBlock l D cy Ad n mm C hn hF nx hN a (len * b) len st hbf (by omega) hst) gX0_drawOf_X0_throughBlock rfl rfl rfl (by decide +kernel) ⟨Nat.le_of_ble_eq_true rfl, Nat.le_of_ble_eq_true rfl⟩ rfl hl.1 rfl (Nat.le_of_ble_eq_true rfl) dX0_drawOf_82 ⟨Nat.le_refl _, Nat.le_refl _⟩ ?_
        refine lv_istore (lv' := [(6, .int (nI (tbF nx a (len * b) len st))), (4, .int (pb true)), (9, .int (pb false)), (8, .int (nI (len * b))), (7, .int (nI b)), (5, .int (nI dr)), (0, .ref (Ad 1)), (1, .int a), (2, .int (nI len)), (3, .int (nI k))]) hx hb dX0_drawOf_85 hl (by decide) rfl (fun ls hl => ?_)
        refine lv_iinc (v := nI (b + 1)) (lv' := [(7, .int (nI (b + 1))), (6, .int (nI (tbF nx a (len * b) len st))), (4, .int (pb true)), (9, .int (pb false)), (8, .int (nI (len * b))), (5, .int (nI dr)), (0, .ref (Ad 1)), (1, .int a), (2, .int (nI len)), (3, .int (nI k))]) hx hb dX0_drawOf_87 hl (k := 4) rfl (nI_add _ 1) (by decide) rfl (fun ls hl => ?_)
        refine lv_goto (tgt := 12) hx hb dX0_drawOf_90 (by decide) ?_
        exact ih (b + 1) true (dr) _ ls (by omega) (by omega) (by omega) htb (by rw [← hz2]; exact hr0) (lv_sub hl [0, 1, 5, 2, 6, 7, 8, 9] rfl)
      · have hl : lv_has ls 10 [(9, .int (pb true)), (8, .int (nI (len * b))), (7, .int (nI b)), (6, .int (nI st)), (5, .int (nI dr)), (4, .int (pb true)), (0, .ref (Ad 1)), (1, .int a), (2, .int (nI len)), (3, .int (nI k))] := hl
        refine lv_iload hx hb dX0_drawOf_36 (lv_at hl 0 rfl) ?_
        refine pn_ifeq_b (tgt := 58) hx hb dX0_drawOf_38 (by decide) (fun h9 => absurd h9 (by decide)) (fun _ => ?_)
        refine lv_iload hx hb dX0_drawOf_41 (lv_at hl 5 rfl) ?_
        refine pn_ifeq_b (tgt := 58) hx hb dX0_drawOf_43 (by decide) (fun h9 => absurd h9 (by decide)) (fun _ => ?_)
        refine lv_iload hx hb dX0_drawOf_46 (lv_at hl 4 rfl) ?_
        refine lv_iload_n hx hb dX0_drawOf_48 rfl (lv_at hl 9 rfl) ?_
        refine pn_icmp_ne (tgt := 55) hx hb (by omega) (by omega) dX0_drawOf_49 (by decide) (fun c_49 => ?_) (fun c_49 => ?_)
        · refine lv_iinc (v := nI (dr + 1)) (lv' := [(5, .int (nI (dr + 1))), (9, .int (pb true)), (8, .int (nI (len * b))), (7, .int (nI b)), (6, .int (nI st)), (4, .int (pb true)), (0, .ref (Ad 1)), (1, .int a), (2, .int (nI len)), (3, .int (nI k))]) hx hb dX0_drawOf_55 hl (k := 4) rfl (nI_add _ 1) (by decide) rfl (fun ls hl => ?_)
          refine lv_iload hx hb dX0_drawOf_58 (lv_at hl 5 rfl) ?_
          refine pn_ifne_b (tgt := 68) hx hb dX0_drawOf_60 (by decide) (fun _ => ?_) (fun h9 => absurd h9 (by decide))
          refine lv_iconst (v := nI 1) hx hb dX0_drawOf_68 (by decide) ?_
          refine pw_topi (y := pb true) rfl ?_
          refine lv_goto (tgt := 73) hx hb dX0_drawOf_69 (by decide) ?_
          refine lv_istore (lv' := [(4, .int (pb true)), (5, .int (nI (dr + 1))), (9, .int (pb true)), (8, .int (nI (len * b))), (7, .int (nI b)), (6, .int (nI st)), (0, .ref (Ad 1)), (1, .int a), (2, .int (nI len)), (3, .int (nI k))]) hx hb dX0_drawOf_73 hl (by decide) rfl (fun ls hl => ?_)
          refine lv_aload_n hx hb dX0_drawOf_75 rfl (lv_at hl 6 rfl) ?_
          refine lv_iload_n hx hb dX0_drawOf_76 rfl (lv_at hl 7 rfl) ?_
          refine lv_iload hx hb dX0_drawOf_77 (lv_at hl 3 rfl) ?_
          refine lv_iload_n hx hb dX0_drawOf_79 rfl (lv_at hl 8 rfl) ?_
          refine lv_iload hx hb dX0_drawOf_80 (lv_at hl 5 rfl) ?_
          refine pw_cv S hK hP 1 0 rfl rfl 4 (c_X0_throughBlock l D cy Ad n mm C hn hF nx hN a (len * b) len st hbf (by omega) hst) gX0_drawOf_X0_throughBlock rfl rfl rfl (by decide +kernel) ⟨Nat.le_of_ble_eq_true rfl, Nat.le_of_ble_eq_true rfl⟩ rfl hl.1 rfl (Nat.le_of_ble_eq_true rfl) dX0_drawOf_82 ⟨Nat.le_refl _, Nat.le_refl _⟩ ?_
          refine lv_istore (lv' := [(6, .int (nI (tbF nx a (len * b) len st))), (4, .int (pb true)), (5, .int (nI (dr + 1))), (9, .int (pb true)), (8, .int (nI (len * b))), (7, .int (nI b)), (0, .ref (Ad 1)), (1, .int a), (2, .int (nI len)), (3, .int (nI k))]) hx hb dX0_drawOf_85 hl (by decide) rfl (fun ls hl => ?_)
          refine lv_iinc (v := nI (b + 1)) (lv' := [(7, .int (nI (b + 1))), (6, .int (nI (tbF nx a (len * b) len st))), (4, .int (pb true)), (5, .int (nI (dr + 1))), (9, .int (pb true)), (8, .int (nI (len * b))), (0, .ref (Ad 1)), (1, .int a), (2, .int (nI len)), (3, .int (nI k))]) hx hb dX0_drawOf_87 hl (k := 5) rfl (nI_add _ 1) (by decide) rfl (fun ls hl => ?_)
          refine lv_goto (tgt := 12) hx hb dX0_drawOf_90 (by decide) ?_
          exact ih (b + 1) true (dr + 1) _ ls (by omega) (by omega) (by omega) htb (by rw [← hz2]; (rw [if_neg (by simpa using c_49)] at hr0; exact hr0)) (lv_sub hl [0, 1, 3, 2, 6, 7, 8, 9] rfl)
        · rw [if_pos (by simp [c_49])] at hr0
          refine lv_iload hx hb dX0_drawOf_52 (lv_at hl 3 rfl) ?_
          refine pw_topi (y := oi r) (by rw [← hr0]; try rfl) ?_
          exact hq _ ls dX0_drawOf_54

set_option maxHeartbeats 4000000 in
set_option maxRecDepth 100000 in
theorem c_X0_drawOf (l : Launch) (D : va_G) (cy : Nat → ClassId) (Ad : Nat → Nat) (n mm : Nat) (C : pw_C) (hn : 1 ≤ n ∧ n ≤ 12) (hF : fX n mm Ad C) (nx : Nat → Nat → Nat) (hN : gN n nx C) (a : Int32) (len k : Nat) (hle : len ≤ 64) (hk0 : k ≤ 99) : Met l yX0_drawOf wsX0_drawOf (k2_rm 3 69) (pw_Pre ([.ref (Ad 1), .int a, .int (nI len), .int (nI k)]) D cy Ad (shX n) C) (k2_QcV (.int (oi (drF nx n a len k 500 0 false 0 0)))) 0 0 (fun _ => False) := by
  refine Met.ofW (cc := cX0_drawOf) (maxL := 10) (ret := (some .int)) (by decide) rfl ?_
  intro p e s m args below meth c s₁ B hml hv
  obtain ⟨rfl, hP, hK⟩ := hv
  have hx := B.exec
  have hb := B.bytes
  have hr := B.returns
  have hts := atoms_spec (ws := wsX0_drawOf) B.pre
  have hown : s.vm.findClass RX0 = some m.cls := findClass_of_methodNamed B.named
  have hlocks := B.notSynchronized
  have S : CallFix p m c cX0_drawOf 10 s ([.ref (Ad 1), .int a, .int (nI len), .int (nI k)]).toArray wsX0_drawOf RX0 := ⟨hx, hb, hml, hown, hts⟩
  change W p l e (k2_rm 3 69) s m _ below meth c s.heap [] 0 0 _ _
  have hl := lv_entry ([.ref (Ad 1), .int a, .int (nI len), .int (nI k)]) (n := 10) (Nat.le_of_ble_eq_true rfl)
  rw [lg_entry_eq]
  generalize (lg_sl ([.ref (Ad 1), .int a, .int (nI len), .int (nI k)]) ++ List.replicate (10 - (lg_sl ([.ref (Ad 1), .int a, .int (nI len), .int (nI k)])).length) Slot.unset).toArray = ls at hl ⊢
  have hl : lv_has ls 10 [(0, .ref (Ad 1)), (1, .int a), (2, .int (nI len)), (3, .int (nI k))] := hl
  refine lv_iconst (v := nI 0) hx hb dX0_drawOf_0 (by decide) ?_
  refine pw_topi (y := pb false) rfl ?_
  refine lv_istore (lv' := [(4, .int (pb false)), (0, .ref (Ad 1)), (1, .int a), (2, .int (nI len)), (3, .int (nI k))]) hx hb dX0_drawOf_1 hl (by decide) rfl (fun ls hl => ?_)
  refine lv_iconst (v := nI 0) hx hb dX0_drawOf_3 (by decide) ?_
  refine lv_istore (lv' := [(5, .int (nI 0)), (4, .int (pb false)), (0, .ref (Ad 1)), (1, .int a), (2, .int (nI len)), (3, .int (nI k))]) hx hb dX0_drawOf_4 hl (by decide) rfl (fun ls hl => ?_)
  refine lv_iconst (v := nI 0) hx hb dX0_drawOf_6 (by decide) ?_
  refine lv_istore (lv' := [(6, .int (nI 0)), (5, .int (nI 0)), (4, .int (pb false)), (0, .ref (Ad 1)), (1, .int a), (2, .int (nI len)), (3, .int (nI k))]) hx hb dX0_drawOf_7 hl (by decide) rfl (fun ls hl => ?_)
  refine lv_iconst (v := nI 0) hx hb dX0_drawOf_9 (by decide) ?_
  refine lv_istore (lv' := [(7, .int (nI 0)), (6, .int (nI 0)), (5, .int (nI 0)), (4, .int (pb false)), (0, .ref (Ad 1)), (1, .int a), (2, .int (nI len)), (3, .int (nI k))]) hx hb dX0_drawOf_10 hl (by decide) rfl (fun ls hl => ?_)
  exact L_drawOf S hK hP hF hn hN a len k hle hk0 _ (fun pc9 ls hd9 => W.iret hx hb hr (fun t ht _ => ⟨rfl, ht⟩) (fun q h => by cases h) hd9) 501 0 false 0 0 ls (by omega) (by omega) (by omega) (by omega) rfl (lv_sub hl [0, 1, 2, 3, 4, 5, 6, 7] rfl)
end
section
def pw_B (ks : Nat → Prop) (C C' : pw_C) : Prop := (∀ k, ¬ ks k → C'.1 k = C.1 k ∧ C'.2.1 k = C.2.1 k) ∧ C'.2.2 = C.2.2
section PB1
variable {ks : Nat → Prop} {C0 C C' : pw_C}
theorem pw_B.rf : pw_B ks C C := ⟨fun _ _ => ⟨rfl, rfl⟩, rfl⟩
theorem pw_B.tr (h : pw_B ks C0 C) (h2 : pw_B ks C C') : pw_B ks C0 C' := ⟨fun k hk => ⟨(h2.1 k hk).1.trans (h.1 k hk).1, (h2.1 k hk).2.trans (h.1 k hk).2⟩, h2.2.trans h.2⟩
theorem pw_B.mono {ks2 : Nat → Prop} (h : pw_B ks C C') (hm : ∀ k, ks k → ks2 k) : pw_B ks2 C C' := ⟨fun k hk => h.1 k (fun q => hk (hm k q)), h.2⟩
theorem pw_B.setI (h : pw_B ks C0 C) {k i : Nat} {x : Int32} (hk : ks k) : pw_B ks C0 (pw_setI C k i x) := ⟨fun j hj => by
  have hne : j ≠ k := fun q => hj (by rw [q]; exact hk)
  refine ⟨?_, (h.1 j hj).2⟩
  show (if j = k then _ else C.1 j) = _
  rw [if_neg hne]; exact (h.1 j hj).1, h.2⟩
theorem pw_B.setL (h : pw_B ks C0 C) {k i : Nat} {x : Int64} (hk : ks k) : pw_B ks C0 (pw_setL C k i x) := ⟨fun j hj => by
  have hne : j ≠ k := fun q => hj (by rw [q]; exact hk)
  refine ⟨(h.1 j hj).1, ?_⟩
  show (if j = k then _ else C.2.1 j) = _
  rw [if_neg hne]; exact (h.1 j hj).2, h.2⟩
theorem pw_B.setR (h : pw_B ks C0 C) {k : Nat} {f : Nat → Int32} (hk : ks k) : pw_B ks C0 (pw_setR C k f) := ⟨fun j hj => by
  have hne : j ≠ k := fun q => hj (by rw [q]; exact hk)
  refine ⟨?_, (h.1 j hj).2⟩
  show (if j = k then _ else C.1 j) = _
  rw [if_neg hne]; exact (h.1 j hj).1, h.2⟩
theorem fX_B {n mm : Nat} {Ad : Nat → Nat} (h : fX n mm Ad C) (hB : pw_B ks C C') : fX n mm Ad C' := by
  unfold fX at h ⊢
  rw [hB.2]; exact h
theorem gN_B {n : Nat} {nx : Nat → Nat → Nat} (h : gN n nx C) (hB : pw_B ks C C') (hk : ∀ u, u < 8 → ¬ ks (21 + u)) : gN n nx C' := fun u hu x hx => by
  rw [(hB.1 _ (hk u hu)).1]; exact h u hu x hx
theorem si_at {k i j : Nat} {x : Int32} : (pw_setI C k i x).1 k j = if j = i then x else C.1 k j := by
  show (if k = k then upd (C.1 k) i x else C.1 k) j = _
  rw [if_pos rfl]; rfl
theorem sl_at {k i j : Nat} {x : Int64} : (pw_setL C k i x).2.1 k j = if j = i then x else C.2.1 k j := by
  show (if k = k then vp_updL (C.2.1 k) i x else C.2.1 k) j = _
  rw [if_pos rfl]; rfl
theorem si_ne {k k2 i : Nat} {x : Int32} (h : k2 ≠ k) : (pw_setI C k i x).1 k2 = C.1 k2 := if_neg h
theorem sl_ne {k k2 i : Nat} {x : Int64} (h : k2 ≠ k) : (pw_setL C k i x).2.1 k2 = C.2.1 k2 := if_neg h
theorem sr_at {k : Nat} {f : Nat → Int32} : (pw_setR C k f).1 k = f := if_pos rfl
theorem sr_ne {k k2 : Nat} {f : Nat → Int32} (h : k2 ≠ k) : (pw_setR C k f).1 k2 = C.1 k2 := if_neg h
end PB1

set_option maxHeartbeats 4000000 in
set_option maxRecDepth 100000 in
theorem L_J7_fill_53178 {p : Program} {l : Launch} {e : Env} {s : State} {m : MethodId} {args : Array Value} {below : List Frame} {meth : Method} {c : Code} {Q : State → Prop} (S : CallFix p m c cJ7_fill_53178 4 s args wsJ7_fill_53178 RJ7) {D : va_G} {cy : Nat → ClassId} {Ad : Nat → Nat} {sh : Nat → Nat × Nat × Nat} {C0 : pw_C} (hK : pw_K D cy s) (hI : pw_I Ad sh) (k len b : Nat) (hs : sh k = (1, len, b)) (hlen : len < 2 ^ 31) (v : Int32) (hq : ∀ (pc9 : Nat) (C : pw_C) (H : Heap) (locs : List Loc) (ls : Array Slot), decode cJ7_fill_53178 pc9 = .ok (.return_, 1) → pw_P D cy Ad sh C H → va_S (pw_fr Ad sh) s.heap H locs → (pw_B (fun k9 => k9 = k) C0 C ∧ ∀ j, j < len → C.1 k j = v) → W p l e (k2_rm 0 0) s m args below meth c H locs 0 0 Q (F0 m pc9 ls [])) : ∀ (f : Nat) (C : pw_C) (H : Heap) (locs : List Loc) (i : Nat) (ls : Array Slot), len - i < f → (pw_P D cy Ad sh C H) → (va_S (pw_fr Ad sh) s.heap H locs) → (pw_B (fun k9 => k9 = k) C0 C) → (i ≤ len) → (∀ j, j < i → C.1 k j = v) → lv_has ls 4 [(2, .int (nI i)), (3, .int (nI len)), (0, .ref (Ad k)), (1, .int v)] → W p l e (k2_rm 0 0) s m args below meth c H locs 0 0 Q (F0 m 5 ls []) := by
  have hx := S.1
  have hb := S.2.1
  have hml := S.2.2.1
  have hown := S.2.2.2.1
  have hts := S.2.2.2.2
  intro f
  induction f with
  | zero => intro C H locs i ls hf; exact absurd hf (Nat.not_lt_zero _)
  | succ f ih =>
    intro C H locs i ls hf hP hS hB hi hv hl
    refine lv_iload_n hx hb dJ7_fill_53178_5 rfl (lv_at hl 0 rfl) ?_
    refine lv_iload_n hx hb dJ7_fill_53178_6 rfl (lv_at hl 1 rfl) ?_
    refine pn_icmp_ge (tgt := 20) hx hb (by omega) (by omega) dJ7_fill_53178_7 (by decide) (fun c_7 => ?_) (fun c_7 => ?_)
    · exact hq _ C H locs ls dJ7_fill_53178_20 hP hS ⟨hB, fun j hj => hv j (by omega)⟩
    · refine lv_aload_n hx hb dJ7_fill_53178_10 rfl (lv_at hl 2 rfl) ?_
      refine lv_iload_n hx hb dJ7_fill_53178_11 rfl (lv_at hl 0 rfl) ?_
      refine lv_iload_n hx hb dJ7_fill_53178_12 rfl (lv_at hl 3 rfl) ?_
      refine pw_iast hx hb hK hP hI hS k hs (by omega) hlen dJ7_fill_53178_13 (fun H locs hP hS => ?_)
      have hB := hB.setI (i := i) (x := v) (show k = k from rfl)
      refine lv_iinc (v := nI (i + 1)) (lv' := [(2, .int (nI (i + 1))), (3, .int (nI len)), (0, .ref (Ad k)), (1, .int v)]) hx hb dJ7_fill_53178_14 hl (k := 0) rfl (nI_add _ 1) (by decide) rfl (fun ls hl => ?_)
      refine lv_goto (tgt := 5) hx hb dJ7_fill_53178_17 (by decide) ?_
      exact ih _ H locs (i + 1) ls (by omega) hP hS hB (by omega) (fun j hj => by
        rw [si_at]
        by_cases q : j = i
        · rw [if_pos q]
        · rw [if_neg q]; exact hv j (by omega)) (lv_sub hl [0, 1, 2, 3] rfl)

set_option maxHeartbeats 4000000 in
set_option maxRecDepth 100000 in
theorem c_J7_fill_53178 (l : Launch) (D : va_G) (cy : Nat → ClassId) (Ad : Nat → Nat) (sh : Nat → Nat × Nat × Nat) (C : pw_C) (hI : pw_I Ad sh) (k len b : Nat) (hs : sh k = (1, len, b)) (hlen : len < 2 ^ 31) (v : Int32) : Met l yJ7_fill_53178 wsJ7_fill_53178 (k2_rm 0 0) (pw_Pre ([.ref (Ad k), .int v]) D cy Ad sh C) (pw_Post (fun r9 C' => r9 = none ∧ (pw_B (fun k9 => k9 = k) C C' ∧ ∀ j, j < len → C'.1 k j = v)) D cy Ad sh) 0 0 (pw_fr Ad sh) := by
  refine Met.ofW (cc := cJ7_fill_53178) (maxL := 4) (ret := none) (by decide) rfl ?_
  intro p e s m args below meth c s₁ B hml hv
  obtain ⟨rfl, hP, hK⟩ := hv
  have hx := B.exec
  have hb := B.bytes
  have hr := B.returns
  have hts := atoms_spec (ws := wsJ7_fill_53178) B.pre
  have hown : s.vm.findClass RJ7 = some m.cls := findClass_of_methodNamed B.named
  have hlocks := B.notSynchronized
  have S : CallFix p m c cJ7_fill_53178 4 s ([.ref (Ad k), .int v]).toArray wsJ7_fill_53178 RJ7 := ⟨hx, hb, hml, hown, hts⟩
  change W p l e (k2_rm 0 0) s m _ below meth c s.heap [] 0 0 _ _
  have hl := lv_entry ([.ref (Ad k), .int v]) (n := 4) (Nat.le_of_ble_eq_true rfl)
  rw [lg_entry_eq]
  generalize (lg_sl ([.ref (Ad k), .int v]) ++ List.replicate (4 - (lg_sl ([.ref (Ad k), .int v])).length) Slot.unset).toArray = ls at hl ⊢
  have hl : lv_has ls 4 [(0, .ref (Ad k)), (1, .int v)] := hl
  have hS : va_S (pw_fr Ad sh) s.heap s.heap [] := va_S.rf
  refine lv_iconst (v := nI 0) hx hb dJ7_fill_53178_0 (by decide) ?_
  refine lv_istore_n (lv' := [(2, .int (nI 0)), (0, .ref (Ad k)), (1, .int v)]) hx hb dJ7_fill_53178_1 rfl hl (by decide) rfl (fun ls hl => ?_)
  refine lv_aload_n hx hb dJ7_fill_53178_2 rfl (lv_at hl 1 rfl) ?_
  refine pw_alen1 hx hb hK hP k hs dJ7_fill_53178_3 ?_
  refine lv_istore_n (lv' := [(3, .int (nI len)), (2, .int (nI 0)), (0, .ref (Ad k)), (1, .int v)]) hx hb dJ7_fill_53178_4 rfl hl (by decide) rfl (fun ls hl => ?_)
  exact L_J7_fill_53178 S hK hI k len b hs hlen v (fun pc9 C9 H9 locs9 ls9 hd9 hP9 hS9 hR9 => W.vret hx hb hr (fun t ht _ => ⟨⟨none, C9, rfl, ⟨rfl, hR9⟩, by rw [ht]; exact hP9⟩, hS9.F ht⟩) hS9.2.2 hd9) (len + 1) C s.heap [] 0 ls (by omega) hP hS pw_B.rf (by omega) (fun j hj => by omega) (lv_sub hl [1, 0, 2, 3] rfl)

set_option maxHeartbeats 4000000 in
set_option maxRecDepth 100000 in
theorem L_J7_fill_d0a16 {p : Program} {l : Launch} {e : Env} {s : State} {m : MethodId} {args : Array Value} {below : List Frame} {meth : Method} {c : Code} {Q : State → Prop} (S : CallFix p m c cJ7_fill_d0a16 5 s args wsJ7_fill_d0a16 RJ7) {D : va_G} {cy : Nat → ClassId} {Ad : Nat → Nat} {sh : Nat → Nat × Nat × Nat} {C0 : pw_C} (hK : pw_K D cy s) (hI : pw_I Ad sh) (k len b : Nat) (hs : sh k = (2, len, b)) (hlen : len < 2 ^ 31) (v : Int64) (hq : ∀ (pc9 : Nat) (C : pw_C) (H : Heap) (locs : List Loc) (ls : Array Slot), decode cJ7_fill_d0a16 pc9 = .ok (.return_, 1) → pw_P D cy Ad sh C H → va_S (pw_fr Ad sh) s.heap H locs → (pw_B (fun k9 => k9 = k) C0 C ∧ ∀ j, j < len → C.2.1 k j = v) → W p l e (k2_rm 0 0) s m args below meth c H locs 0 0 Q (F0 m pc9 ls [])) : ∀ (f : Nat) (C : pw_C) (H : Heap) (locs : List Loc) (i : Nat) (ls : Array Slot), len - i < f → (pw_P D cy Ad sh C H) → (va_S (pw_fr Ad sh) s.heap H locs) → (pw_B (fun k9 => k9 = k) C0 C) → (i ≤ len) → (∀ j, j < i → C.2.1 k j = v) → lv_has ls 5 [(3, .int (nI i)), (4, .int (nI len)), (0, .ref (Ad k)), (1, .long v)] → W p l e (k2_rm 0 0) s m args below meth c H locs 0 0 Q (F0 m 6 ls []) := by
  have hx := S.1
  have hb := S.2.1
  have hml := S.2.2.1
  have hown := S.2.2.2.1
  have hts := S.2.2.2.2
  intro f
  induction f with
  | zero => intro C H locs i ls hf; exact absurd hf (Nat.not_lt_zero _)
  | succ f ih =>
    intro C H locs i ls hf hP hS hB hi hv hl
    refine lv_iload_n hx hb dJ7_fill_d0a16_6 rfl (lv_at hl 0 rfl) ?_
    refine lv_iload hx hb dJ7_fill_d0a16_7 (lv_at hl 1 rfl) ?_
    refine pn_icmp_ge (tgt := 22) hx hb (by omega) (by omega) dJ7_fill_d0a16_9 (by decide) (fun c_9 => ?_) (fun c_9 => ?_)
    · exact hq _ C H locs ls dJ7_fill_d0a16_22 hP hS ⟨hB, fun j hj => hv j (by omega)⟩
    · refine lv_aload_n hx hb dJ7_fill_d0a16_12 rfl (lv_at hl 2 rfl) ?_
      refine lv_iload_n hx hb dJ7_fill_d0a16_13 rfl (lv_at hl 0 rfl) ?_
      refine lv_lload_n hx hb dJ7_fill_d0a16_14 rfl (lv_at hl 3 rfl) ?_
      refine pw_last hx hb hK hP hI hS k hs (by omega) hlen dJ7_fill_d0a16_15 (fun H locs hP hS => ?_)
      have hB := hB.setL (i := i) (x := v) (show k = k from rfl)
      refine lv_iinc (v := nI (i + 1)) (lv' := [(3, .int (nI (i + 1))), (4, .int (nI len)), (0, .ref (Ad k)), (1, .long v)]) hx hb dJ7_fill_d0a16_16 hl (k := 0) rfl (nI_add _ 1) (by decide) rfl (fun ls hl => ?_)
      refine lv_goto (tgt := 6) hx hb dJ7_fill_d0a16_19 (by decide) ?_
      exact ih _ H locs (i + 1) ls (by omega) hP hS hB (by omega) (fun j hj => by
        rw [sl_at]
        by_cases q : j = i
        · rw [if_pos q]
        · rw [if_neg q]; exact hv j (by omega)) (lv_sub hl [0, 1, 2, 3] rfl)

set_option maxHeartbeats 4000000 in
set_option maxRecDepth 100000 in
theorem c_J7_fill_d0a16 (l : Launch) (D : va_G) (cy : Nat → ClassId) (Ad : Nat → Nat) (sh : Nat → Nat × Nat × Nat) (C : pw_C) (hI : pw_I Ad sh) (k len b : Nat) (hs : sh k = (2, len, b)) (hlen : len < 2 ^ 31) (v : Int64) : Met l yJ7_fill_d0a16 wsJ7_fill_d0a16 (k2_rm 0 0) (pw_Pre ([.ref (Ad k), .long v]) D cy Ad sh C) (pw_Post (fun r9 C' => r9 = none ∧ (pw_B (fun k9 => k9 = k) C C' ∧ ∀ j, j < len → C'.2.1 k j = v)) D cy Ad sh) 0 0 (pw_fr Ad sh) := by
  refine Met.ofW (cc := cJ7_fill_d0a16) (maxL := 5) (ret := none) (by decide) rfl ?_
  intro p e s m args below meth c s₁ B hml hv
  obtain ⟨rfl, hP, hK⟩ := hv
  have hx := B.exec
  have hb := B.bytes
  have hr := B.returns
  have hts := atoms_spec (ws := wsJ7_fill_d0a16) B.pre
  have hown : s.vm.findClass RJ7 = some m.cls := findClass_of_methodNamed B.named
  have hlocks := B.notSynchronized
  have S : CallFix p m c cJ7_fill_d0a16 5 s ([.ref (Ad k), .long v]).toArray wsJ7_fill_d0a16 RJ7 := ⟨hx, hb, hml, hown, hts⟩
  change W p l e (k2_rm 0 0) s m _ below meth c s.heap [] 0 0 _ _
  have hl := lv_entry ([.ref (Ad k), .long v]) (n := 5) (Nat.le_of_ble_eq_true rfl)
  rw [lg_entry_eq]
  generalize (lg_sl ([.ref (Ad k), .long v]) ++ List.replicate (5 - (lg_sl ([.ref (Ad k), .long v])).length) Slot.unset).toArray = ls at hl ⊢
  have hl : lv_has ls 5 [(0, .ref (Ad k)), (1, .long v)] := hl
  have hS : va_S (pw_fr Ad sh) s.heap s.heap [] := va_S.rf
  refine lv_iconst (v := nI 0) hx hb dJ7_fill_d0a16_0 (by decide) ?_
  refine lv_istore_n (lv' := [(3, .int (nI 0)), (0, .ref (Ad k)), (1, .long v)]) hx hb dJ7_fill_d0a16_1 rfl hl (by decide) rfl (fun ls hl => ?_)
  refine lv_aload_n hx hb dJ7_fill_d0a16_2 rfl (lv_at hl 1 rfl) ?_
  refine pw_alen2 hx hb hK hP k hs dJ7_fill_d0a16_3 ?_
  refine lv_istore (lv' := [(4, .int (nI len)), (3, .int (nI 0)), (0, .ref (Ad k)), (1, .long v)]) hx hb dJ7_fill_d0a16_4 hl (by decide) rfl (fun ls hl => ?_)
  exact L_J7_fill_d0a16 S hK hI k len b hs hlen v (fun pc9 C9 H9 locs9 ls9 hd9 hP9 hS9 hR9 => W.vret hx hb hr (fun t ht _ => ⟨⟨none, C9, rfl, ⟨rfl, hR9⟩, by rw [ht]; exact hP9⟩, hS9.F ht⟩) hS9.2.2 hd9) (len + 1) C s.heap [] 0 ls (by omega) hP hS pw_B.rf (by omega) (fun j hj => by omega) (lv_sub hl [1, 0, 2, 3] rfl)

set_option maxHeartbeats 4000000 in
set_option maxRecDepth 100000 in
theorem c_X0_setStep (l : Launch) (D : va_G) (cy : Nat → ClassId) (Ad : Nat → Nat) (n mm : Nat) (C : pw_C) (hI : pw_I Ad (shX n)) (hn : 1 ≤ n ∧ n ≤ 12) (hF : fX n mm Ad C) (nx : Nat → Nat → Nat) (hN : gN n nx C) (x u y : Nat) (hx0 : x < n) (hu : u < 8) : Met l yX0_setStep wsX0_setStep (k2_rm 0 0) (pw_Pre ([.ref (Ad 1), .int (nI x), .int (nI u), .int (nI y)]) D cy Ad (shX n) C) (pw_Post (fun r9 C' => r9 = some (.int (nI (nx u x))) ∧ (C' = pw_setI C (21 + u) x (nI y))) D cy Ad (shX n)) 0 0 (pw_fr Ad (shX n)) := by
  refine Met.ofW (cc := cX0_setStep) (maxL := 5) (ret := (some .int)) (by decide) rfl ?_
  intro p e s m args below meth c s₁ B hml hv
  obtain ⟨rfl, hP, hK⟩ := hv
  have hx := B.exec
  have hb := B.bytes
  have hr := B.returns
  have hts := atoms_spec (ws := wsX0_setStep) B.pre
  have hown : s.vm.findClass RX0 = some m.cls := findClass_of_methodNamed B.named
  have hlocks := B.notSynchronized
  have S : CallFix p m c cX0_setStep 5 s ([.ref (Ad 1), .int (nI x), .int (nI u), .int (nI y)]).toArray wsX0_setStep RX0 := ⟨hx, hb, hml, hown, hts⟩
  change W p l e (k2_rm 0 0) s m _ below meth c s.heap [] 0 0 _ _
  have hl := lv_entry ([.ref (Ad 1), .int (nI x), .int (nI u), .int (nI y)]) (n := 5) (Nat.le_of_ble_eq_true rfl)
  rw [lg_entry_eq]
  generalize (lg_sl ([.ref (Ad 1), .int (nI x), .int (nI u), .int (nI y)]) ++ List.replicate (5 - (lg_sl ([.ref (Ad 1), .int (nI x), .int (nI u), .int (nI y)])).length) Slot.unset).toArray = ls at hl ⊢
  have hl : lv_has ls 5 [(0, .ref (Ad 1)), (1, .int (nI x)), (2, .int (nI u)), (3, .int (nI y))] := hl
  have hS : va_S (pw_fr Ad (shX n)) s.heap s.heap [] := va_S.rf
  have hB : pw_B (fun k => k = 21 + u) C C := pw_B.rf
  refine lv_aload_n hx hb dX0_setStep_0 rfl (lv_at hl 0 rfl) ?_
  refine pw_get hx hb hts (fun _ h9 => List.mem_cons_of_mem _ (List.mem_append_right _ h9)) hown hK hP 1 rfl rfl 1 (by decide) hF.2.1 rfl (hts (.fieldLink RX0 17 "PastDraws$Chain" "next" "[[I") (List.mem_of_getElem? (i := 1) rfl)) dX0_setStep_1 ?_
  refine lv_iload_n hx hb dX0_setStep_4 rfl (lv_at hl 2 rfl) ?_
  refine pw_aald4 hx hb hK hP 5 rfl (by first | exact sgn_lt _ _ | omega) (by decide) dX0_setStep_5 ?_
  refine lv_iload_n hx hb dX0_setStep_6 rfl (lv_at hl 1 rfl) ?_
  have hu_7 : u < 8 := (by first | exact sgn_lt _ _ | omega)
  have hx_7 : x < n := (by first | exact sgn_lt _ _ | omega)
  have q_7 : nx u x < n := (hN _ hu_7 _ hx_7).1
  refine pw_iald hx hb hK hP (21 + u) (shX_nx hu_7) hx_7 (by omega) (hN _ hu_7 _ hx_7).2 dX0_setStep_7 ?_
  refine lv_istore (lv' := [(4, .int (nI (nx u x))), (0, .ref (Ad 1)), (1, .int (nI x)), (2, .int (nI u)), (3, .int (nI y))]) hx hb dX0_setStep_8 hl (by decide) rfl (fun ls hl => ?_)
  refine lv_aload_n hx hb dX0_setStep_10 rfl (lv_at hl 1 rfl) ?_
  refine pw_get hx hb hts (fun _ h9 => List.mem_cons_of_mem _ (List.mem_append_right _ h9)) hown hK hP 1 rfl rfl 1 (by decide) hF.2.1 rfl (hts (.fieldLink RX0 17 "PastDraws$Chain" "next" "[[I") (List.mem_of_getElem? (i := 1) rfl)) dX0_setStep_11 ?_
  refine lv_iload_n hx hb dX0_setStep_14 rfl (lv_at hl 3 rfl) ?_
  refine pw_aald4 hx hb hK hP 5 rfl (by first | exact sgn_lt _ _ | omega) (by decide) dX0_setStep_15 ?_
  refine lv_iload_n hx hb dX0_setStep_16 rfl (lv_at hl 2 rfl) ?_
  refine lv_iload_n hx hb dX0_setStep_17 rfl (lv_at hl 4 rfl) ?_
  refine pw_iast hx hb hK hP hI hS (21 + u) (shX_nx (by first | exact sgn_lt _ _ | omega)) (by first | exact sgn_lt _ _ | omega) (by first | decide | omega) dX0_setStep_18 (fun H locs hP hS => ?_)
  obtain ⟨C18, hC18⟩ : ∃ z9, z9 = pw_setI C (21 + u) x (nI y) := ⟨_, rfl⟩
  rw [← hC18] at hP
  have hB := by have hB9 := hB; exact (show pw_B (fun k => k = 21 + u) C C18 by rw [hC18]; exact hB9.setI (by show (21 + u) = 21 + u; first | trivial | omega))
  refine lv_iload hx hb dX0_setStep_19 (lv_at hl 0 rfl) ?_
  exact W.iret hx hb hr (fun t ht _ => ⟨⟨(some (.int (nI (nx u x)))), C18, rfl, ⟨rfl, hC18⟩, by rw [ht]; exact hP⟩, hS.F ht⟩) hS.2.2 dX0_setStep_21

/-- whether all states are taken to one -/
def mtF (mp : Nat → Nat) (n : Nat) : Bool := (List.range n).all fun x => decide (mp x = mp 0)
theorem mt_iff {mp : Nat → Nat} {n : Nat} : mtF mp n = true ↔ ∀ x, x < n → mp x = mp 0 := by
  simp [mtF, List.all_eq_true, List.mem_range]
theorem mt_f {mp : Nat → Nat} {n x : Nat} (hx : x < n) (h : ¬ mp x = mp 0) : mtF mp n = false := by
  cases hb : mtF mp n
  · rfl
  · exact absurd (mt_iff.mp hb x hx) h

set_option maxHeartbeats 4000000 in
set_option maxRecDepth 100000 in
theorem L_mapMeets {p : Program} {l : Launch} {e : Env} {s : State} {m : MethodId} {args : Array Value} {below : List Frame} {meth : Method} {c : Code} {H : Heap} {locs : List Loc} {Q : State → Prop} (S : CallFix p m c cX0_mapMeets 2 s args wsX0_mapMeets RX0) {D : va_G} {cy : Nat → ClassId} {Ad : Nat → Nat} {n mm : Nat} {C : pw_C} (hK : pw_K D cy s) (hP : pw_P D cy Ad (shX n) C H) (hF : fX n mm Ad C) (hn : 1 ≤ n ∧ n ≤ 12) (mp : Nat → Nat) (hmp : ∀ x, x < n → mp x < n ∧ C.1 6 x = nI (mp x)) (hq : ∀ (pc9 : Nat) (ls : Array Slot), decode cX0_mapMeets pc9 = .ok (.ireturn, 1) → W p l e (k2_rm 0 0) s m args below meth c H locs 0 0 Q (F0 m pc9 ls [.int (pb (mtF mp n))])) : ∀ (f : Nat) (x : Nat) (ls : Array Slot), n - x < f → (x ≤ n) → (∀ y, y < x → mp y = mp 0) → lv_has ls 2 [(1, .int (nI x)), (0, .ref (Ad 1))] → W p l e (k2_rm 0 0) s m args below meth c H locs 0 0 Q (F0 m 2 ls []) := by
  have hx := S.1
  have hb := S.2.1
  have hml := S.2.2.1
  have hown := S.2.2.2.1
  have hts := S.2.2.2.2
  intro f
  induction f with
  | zero => intro x ls hf; exact absurd hf (Nat.not_lt_zero _)
  | succ f ih =>
    intro x ls hf hx0 hv hl
    refine lv_iload_n hx hb dX0_mapMeets_2 rfl (lv_at hl 0 rfl) ?_
    refine lv_aload_n hx hb dX0_mapMeets_3 rfl (lv_at hl 1 rfl) ?_
    refine pw_get hx hb hts (fun _ h9 => List.mem_cons_of_mem _ (List.mem_append_right _ h9)) hown hK hP 1 rfl rfl 0 (by decide) hF.2.1 rfl (hts (.fieldLink RX0 9 "PastDraws$Chain" "n" "I") (List.mem_of_getElem? (i := 1) rfl)) dX0_mapMeets_4 ?_
    refine pn_icmp_ge (tgt := 33) hx hb (by first | omega | (have q9 := (hmp x (by omega)).1; have q8 := (hmp 0 (by omega)).1; omega)) (by first | omega | (have q9 := (hmp x (by omega)).1; have q8 := (hmp 0 (by omega)).1; omega)) dX0_mapMeets_7 (by decide) (fun c_7 => ?_) (fun c_7 => ?_)
    · have hz : mtF mp n = true := mt_iff.mpr (fun y hy => hv y (by omega))
      refine lv_iconst (v := nI 1) hx hb dX0_mapMeets_33 (by decide) ?_
      refine pw_topi (y := pb (mtF mp n)) (by rw [hz]; rfl) ?_
      exact hq _ ls dX0_mapMeets_34
    · refine lv_aload_n hx hb dX0_mapMeets_10 rfl (lv_at hl 1 rfl) ?_
      refine pw_get hx hb hts (fun _ h9 => List.mem_cons_of_mem _ (List.mem_append_right _ h9)) hown hK hP 1 rfl rfl 2 (by decide) hF.2.1 rfl (hts (.fieldLink RX0 20 "PastDraws$Chain" "map" "[I") (List.mem_of_getElem? (i := 2) rfl)) dX0_mapMeets_11 ?_
      refine lv_iload_n hx hb dX0_mapMeets_14 rfl (lv_at hl 0 rfl) ?_
      refine pw_iald hx hb hK hP 6 rfl (by first | exact sgn_lt _ _ | omega) (by first | decide | omega) (v := nI (mp x)) (hmp x (by omega)).2 dX0_mapMeets_15 ?_
      refine lv_aload_n hx hb dX0_mapMeets_16 rfl (lv_at hl 1 rfl) ?_
      refine pw_get hx hb hts (fun _ h9 => List.mem_cons_of_mem _ (List.mem_append_right _ h9)) hown hK hP 1 rfl rfl 2 (by decide) hF.2.1 rfl (hts (.fieldLink RX0 20 "PastDraws$Chain" "map" "[I") (List.mem_of_getElem? (i := 2) rfl)) dX0_mapMeets_17 ?_
      refine lv_iconst (v := nI 0) hx hb dX0_mapMeets_20 (by decide) ?_
      refine pw_iald hx hb hK hP 6 rfl (by first | exact sgn_lt _ _ | omega) (by first | decide | omega) (v := nI (mp 0)) (hmp 0 (by omega)).2 dX0_mapMeets_21 ?_
      refine pn_icmp_eq (tgt := 27) hx hb (by first | omega | (have q9 := (hmp x (by omega)).1; have q8 := (hmp 0 (by omega)).1; omega)) (by first | omega | (have q9 := (hmp x (by omega)).1; have q8 := (hmp 0 (by omega)).1; omega)) dX0_mapMeets_22 (by decide) (fun c_22 => ?_) (fun c_22 => ?_)
      · have hv2 : ∀ y, y < x + 1 → mp y = mp 0 := fun y hy => by
          rcases Nat.lt_or_ge y x with q | q
          · exact hv y q
          · obtain rfl : y = x := by omega
            exact c_22
        refine lv_iinc (v := nI (x + 1)) (lv' := [(1, .int (nI (x + 1))), (0, .ref (Ad 1))]) hx hb dX0_mapMeets_27 hl (k := 0) rfl (nI_add _ 1) (by decide) rfl (fun ls hl => ?_)
        refine lv_goto (tgt := 2) hx hb dX0_mapMeets_30 (by decide) ?_
        exact ih (x + 1) ls (by omega) (by omega) hv2 (lv_sub hl [0, 1] rfl)
      · have hz : mtF mp n = false := mt_f c_7 c_22
        refine lv_iconst (v := nI 0) hx hb dX0_mapMeets_25 (by decide) ?_
        refine pw_topi (y := pb (mtF mp n)) (by rw [hz]; rfl) ?_
        exact hq _ ls dX0_mapMeets_26

set_option maxHeartbeats 4000000 in
set_option maxRecDepth 100000 in
theorem c_X0_mapMeets (l : Launch) (D : va_G) (cy : Nat → ClassId) (Ad : Nat → Nat) (n mm : Nat) (C : pw_C) (hn : 1 ≤ n ∧ n ≤ 12) (hF : fX n mm Ad C) (mp : Nat → Nat) (hmp : ∀ x, x < n → mp x < n ∧ C.1 6 x = nI (mp x)) : Met l yX0_mapMeets wsX0_mapMeets (k2_rm 0 0) (pw_Pre ([.ref (Ad 1)]) D cy Ad (shX n) C) (k2_QcV (.int (pb (mtF mp n)))) 0 0 (fun _ => False) := by
  refine Met.ofW (cc := cX0_mapMeets) (maxL := 2) (ret := (some .boolean)) (by decide) rfl ?_
  intro p e s m args below meth c s₁ B hml hv
  obtain ⟨rfl, hP, hK⟩ := hv
  have hx := B.exec
  have hb := B.bytes
  have hr := B.returns
  have hts := atoms_spec (ws := wsX0_mapMeets) B.pre
  have hown : s.vm.findClass RX0 = some m.cls := findClass_of_methodNamed B.named
  have hlocks := B.notSynchronized
  have S : CallFix p m c cX0_mapMeets 2 s ([.ref (Ad 1)]).toArray wsX0_mapMeets RX0 := ⟨hx, hb, hml, hown, hts⟩
  change W p l e (k2_rm 0 0) s m _ below meth c s.heap [] 0 0 _ _
  have hl := lv_entry ([.ref (Ad 1)]) (n := 2) (Nat.le_of_ble_eq_true rfl)
  rw [lg_entry_eq]
  generalize (lg_sl ([.ref (Ad 1)]) ++ List.replicate (2 - (lg_sl ([.ref (Ad 1)])).length) Slot.unset).toArray = ls at hl ⊢
  have hl : lv_has ls 2 [(0, .ref (Ad 1))] := hl
  refine lv_iconst (v := nI 1) hx hb dX0_mapMeets_0 (by decide) ?_
  refine lv_istore_n (lv' := [(1, .int (nI 1)), (0, .ref (Ad 1))]) hx hb dX0_mapMeets_1 rfl hl (by decide) rfl (fun ls hl => ?_)
  exact L_mapMeets S hK hP hF hn mp hmp (fun pc9 ls hd9 => W.zret hx hb hr (pb_nar _) (fun t ht _ => ⟨rfl, ht⟩) (fun q h => by cases h) hd9) n 1 ls (by omega) (by omega) (fun y hy => by obtain rfl : y = 0 := (by omega); rfl) (lv_sub hl [0, 1] rfl)
end
section
set_option maxHeartbeats 4000000 in
set_option maxRecDepth 100000 in
theorem L_lengthenMap {p : Program} {l : Launch} {e : Env} {s : State} {m : MethodId} {args : Array Value} {below : List Frame} {meth : Method} {c : Code} {Q : State → Prop} (S : CallFix p m c cX0_lengthenMap 3 s args wsX0_lengthenMap RX0) {D : va_G} {cy : Nat → ClassId} {Ad : Nat → Nat} {n mm : Nat} {C0 : pw_C} (hK : pw_K D cy s) (hI : pw_I Ad (shX n)) (hF0 : fX n mm Ad C0) (hn : 1 ≤ n ∧ n ≤ 12) {nx : Nat → Nat → Nat} (hN0 : gN n nx C0) (u : Nat) (hu : u < 8) (mp : Nat → Nat) (hmp0 : ∀ x, x < n → C0.1 6 x = nI (mp x)) (hk : ∀ (C : pw_C) (H : Heap) (locs : List Loc) (ls : Array Slot), pw_P D cy Ad (shX n) C H → va_S (pw_fr Ad (shX n)) s.heap H locs → (pw_B (fun k => k = 6 ∨ k = 7) C0 C ∧ C.1 6 = C0.1 6 ∧ ∀ y, y < n → C.1 7 y = nI (mp (nx u y))) → lv_has ls 3 [(2, .int (nI n)), (0, .ref (Ad 1))] → W p l e (k2_rm 1 60) s m args below meth c H locs 0 0 Q (F0 m 35 ls [])) : ∀ (f : Nat) (C : pw_C) (H : Heap) (locs : List Loc) (x : Nat) (ls : Array Slot), n - x < f → (pw_P D cy Ad (shX n) C H) → (va_S (pw_fr Ad (shX n)) s.heap H locs) → (pw_B (fun k => k = 6 ∨ k = 7) C0 C) → (x ≤ n) → (C.1 6 = C0.1 6) → (∀ y, y < x → C.1 7 y = nI (mp (nx u y))) → lv_has ls 3 [(2, .int (nI x)), (1, .int (nI u)), (0, .ref (Ad 1))] → W p l e (k2_rm 1 60) s m args below meth c H locs 0 0 Q (F0 m 2 ls []) := by
  have hx := S.1
  have hb := S.2.1
  have hml := S.2.2.1
  have hown := S.2.2.2.1
  have hts := S.2.2.2.2
  intro f
  induction f with
  | zero => intro C H locs x ls hf; exact absurd hf (Nat.not_lt_zero _)
  | succ f ih =>
    intro C H locs x ls hf hP hS hB hx0 h6 hv hl
    have hF := fX_B hF0 hB
    have hN := gN_B hN0 hB (fun u9 hu9 h9 => by have h8 : 21 + u9 = 6 ∨ 21 + u9 = 7 := h9; omega)
    have hmp : ∀ x, x < n → C.1 6 x = nI (mp x) := fun x hx => by rw [h6]; exact hmp0 x hx
    refine lv_iload_n hx hb dX0_lengthenMap_2 rfl (lv_at hl 0 rfl) ?_
    refine lv_aload_n hx hb dX0_lengthenMap_3 rfl (lv_at hl 2 rfl) ?_
    refine pw_get hx hb hts (fun _ h9 => List.mem_cons_of_mem _ (List.mem_append_right _ h9)) hown hK hP 1 rfl rfl 0 (by decide) hF.2.1 rfl (hts (.fieldLink RX0 9 "PastDraws$Chain" "n" "I") (List.mem_of_getElem? (i := 1) rfl)) dX0_lengthenMap_4 ?_
    refine pn_icmp_ge (tgt := 35) hx hb (by omega) (by omega) dX0_lengthenMap_7 (by decide) (fun c_7 => ?_) (fun c_7 => ?_)
    · obtain rfl : x = n := by omega
      exact hk C H locs ls hP hS ⟨hB, h6, hv⟩ (lv_sub hl [0, 2] rfl)
    · refine lv_aload_n hx hb dX0_lengthenMap_10 rfl (lv_at hl 2 rfl) ?_
      refine pw_get hx hb hts (fun _ h9 => List.mem_cons_of_mem _ (List.mem_append_right _ h9)) hown hK hP 1 rfl rfl 3 (by decide) hF.2.1 rfl (hts (.fieldLink RX0 24 "PastDraws$Chain" "longerMap" "[I") (List.mem_of_getElem? (i := 2) rfl)) dX0_lengthenMap_11 ?_
      refine lv_iload_n hx hb dX0_lengthenMap_14 rfl (lv_at hl 0 rfl) ?_
      refine lv_aload_n hx hb dX0_lengthenMap_15 rfl (lv_at hl 2 rfl) ?_
      refine pw_get hx hb hts (fun _ h9 => List.mem_cons_of_mem _ (List.mem_append_right _ h9)) hown hK hP 1 rfl rfl 2 (by decide) hF.2.1 rfl (hts (.fieldLink RX0 20 "PastDraws$Chain" "map" "[I") (List.mem_of_getElem? (i := 3) rfl)) dX0_lengthenMap_16 ?_
      refine lv_aload_n hx hb dX0_lengthenMap_19 rfl (lv_at hl 2 rfl) ?_
      refine pw_get hx hb hts (fun _ h9 => List.mem_cons_of_mem _ (List.mem_append_right _ h9)) hown hK hP 1 rfl rfl 1 (by decide) hF.2.1 rfl (hts (.fieldLink RX0 17 "PastDraws$Chain" "next" "[[I") (List.mem_of_getElem? (i := 4) rfl)) dX0_lengthenMap_20 ?_
      refine lv_iload_n hx hb dX0_lengthenMap_23 rfl (lv_at hl 1 rfl) ?_
      refine pw_aald4 hx hb hK hP 5 rfl (by first | exact sgn_lt _ _ | omega) (by decide) dX0_lengthenMap_24 ?_
      refine lv_iload_n hx hb dX0_lengthenMap_25 rfl (lv_at hl 0 rfl) ?_
      have hu_26 : u < 8 := (by first | exact sgn_lt _ _ | omega)
      have hx_26 : x < n := (by first | exact sgn_lt _ _ | omega)
      have q_26 : nx u x < n := (hN _ hu_26 _ hx_26).1
      refine pw_iald hx hb hK hP (21 + u) (shX_nx hu_26) hx_26 (by omega) (hN _ hu_26 _ hx_26).2 dX0_lengthenMap_26 ?_
      refine pw_iald hx hb hK hP 6 rfl (by first | exact sgn_lt _ _ | omega) (by first | decide | omega) (v := nI (mp (nx u x))) (hmp _ q_26) dX0_lengthenMap_27 ?_
      refine pw_iast hx hb hK hP hI hS 7 rfl (by first | exact sgn_lt _ _ | omega) (by first | decide | omega) dX0_lengthenMap_28 (fun H locs hP hS => ?_)
      obtain ⟨C28, hC28⟩ : ∃ z9, z9 = pw_setI C 7 x (nI (mp (nx u x))) := ⟨_, rfl⟩
      rw [← hC28] at hP
      have hB := by have hB9 := hB; exact (show pw_B (fun k => k = 6 ∨ k = 7) C0 C28 by rw [hC28]; exact hB9.setI (by show 7 = 6 ∨ 7 = 7; first | trivial | omega))
      have hF := fX_B hF0 hB
      have hN := gN_B hN0 hB (fun u9 hu9 h9 => by have h8 : 21 + u9 = 6 ∨ 21 + u9 = 7 := h9; omega)
      refine lv_iinc (v := nI (x + 1)) (lv' := [(2, .int (nI (x + 1))), (1, .int (nI u)), (0, .ref (Ad 1))]) hx hb dX0_lengthenMap_29 hl (k := 0) rfl (nI_add _ 1) (by decide) rfl (fun ls hl => ?_)
      refine lv_goto (tgt := 2) hx hb dX0_lengthenMap_32 (by decide) ?_
      have e7 : C28.1 6 = C.1 6 := by rw [hC28]; exact si_ne (by decide)
      exact ih C28 H locs (x + 1) ls (by omega) hP hS hB (by omega) (e7.trans h6) (fun y hy => by
        rw [hC28, si_at]
        by_cases q : y = x
        · rw [if_pos q, q]
        · rw [if_neg q]; exact hv y (by omega)) (lv_sub hl [0, 1, 2] rfl)

set_option maxHeartbeats 4000000 in
set_option maxRecDepth 100000 in
theorem c_X0_lengthenMap (l : Launch) (D : va_G) (cy : Nat → ClassId) (Ad : Nat → Nat) (n mm : Nat) (C : pw_C) (hI : pw_I Ad (shX n)) (hn : 1 ≤ n ∧ n ≤ 12) (hF : fX n mm Ad C) (nx : Nat → Nat → Nat) (hN : gN n nx C) (u : Nat) (hu : u < 8) (mp : Nat → Nat) (hmp : ∀ x, x < n → C.1 6 x = nI (mp x)) : Met l yX0_lengthenMap wsX0_lengthenMap (k2_rm 1 60) (pw_Pre ([.ref (Ad 1), .int (nI u)]) D cy Ad (shX n) C) (pw_Post (fun r9 C' => r9 = none ∧ (pw_B (fun k => k = 6 ∨ k = 7) C C' ∧ ∀ x, x < n → C'.1 6 x = nI (mp (nx u x)))) D cy Ad (shX n)) 0 0 (pw_fr Ad (shX n)) := by
  refine Met.ofW (cc := cX0_lengthenMap) (maxL := 3) (ret := none) (by decide) rfl ?_
  intro p e s m args below meth c s₁ B hml hv
  obtain ⟨rfl, hP, hK⟩ := hv
  have hx := B.exec
  have hb := B.bytes
  have hr := B.returns
  have hts := atoms_spec (ws := wsX0_lengthenMap) B.pre
  have hown : s.vm.findClass RX0 = some m.cls := findClass_of_methodNamed B.named
  have hlocks := B.notSynchronized
  have S : CallFix p m c cX0_lengthenMap 3 s ([.ref (Ad 1), .int (nI u)]).toArray wsX0_lengthenMap RX0 := ⟨hx, hb, hml, hown, hts⟩
  change W p l e (k2_rm 1 60) s m _ below meth c s.heap [] 0 0 _ _
  have hl := lv_entry ([.ref (Ad 1), .int (nI u)]) (n := 3) (Nat.le_of_ble_eq_true rfl)
  rw [lg_entry_eq]
  generalize (lg_sl ([.ref (Ad 1), .int (nI u)]) ++ List.replicate (3 - (lg_sl ([.ref (Ad 1), .int (nI u)])).length) Slot.unset).toArray = ls at hl ⊢
  have hl : lv_has ls 3 [(0, .ref (Ad 1)), (1, .int (nI u))] := hl
  have hS : va_S (pw_fr Ad (shX n)) s.heap s.heap [] := va_S.rf
  refine lv_iconst (v := nI 0) hx hb dX0_lengthenMap_0 (by decide) ?_
  refine lv_istore_n (lv' := [(2, .int (nI 0)), (0, .ref (Ad 1)), (1, .int (nI u))]) hx hb dX0_lengthenMap_1 rfl hl (by decide) rfl (fun ls hl => ?_)
  refine L_lengthenMap S hK hI hF hn hN u hu mp hmp (fun C1 H locs ls hP hS hR hl => ?_) (n + 1) C s.heap [] 0 ls (by omega) hP hS pw_B.rf (by omega) rfl (fun y hy => by omega) (lv_sub hl [0, 2, 1] rfl)
  have hB := hR.1
  have hF := fX_B hF hB
  refine lv_aload_n hx hb dX0_lengthenMap_35 rfl (lv_at hl 1 rfl) ?_
  refine pw_get hx hb hts (fun _ h9 => List.mem_cons_of_mem _ (List.mem_append_right _ h9)) hown hK hP 1 rfl rfl 3 (by decide) hF.2.1 rfl (hts (.fieldLink RX0 24 "PastDraws$Chain" "longerMap" "[I") (List.mem_of_getElem? (i := 2) rfl)) dX0_lengthenMap_36 ?_
  refine lv_iconst (v := nI 0) hx hb dX0_lengthenMap_39 (by decide) ?_
  refine lv_aload_n hx hb dX0_lengthenMap_40 rfl (lv_at hl 1 rfl) ?_
  refine pw_get hx hb hts (fun _ h9 => List.mem_cons_of_mem _ (List.mem_append_right _ h9)) hown hK hP 1 rfl rfl 2 (by decide) hF.2.1 rfl (hts (.fieldLink RX0 20 "PastDraws$Chain" "map" "[I") (List.mem_of_getElem? (i := 3) rfl)) dX0_lengthenMap_41 ?_
  refine lv_iconst (v := nI 0) hx hb dX0_lengthenMap_44 (by decide) ?_
  refine lv_aload_n hx hb dX0_lengthenMap_45 rfl (lv_at hl 1 rfl) ?_
  refine pw_get hx hb hts (fun _ h9 => List.mem_cons_of_mem _ (List.mem_append_right _ h9)) hown hK hP 1 rfl rfl 0 (by decide) hF.2.1 rfl (hts (.fieldLink RX0 9 "PastDraws$Chain" "n" "I") (List.mem_of_getElem? (i := 1) rfl)) dX0_lengthenMap_46 ?_
  refine pw_copy hx hb (hml.trans hl.1.symm) hown (hts (.methodLink RX0 50 arraycopyName) (List.mem_of_getElem? (i := 5) rfl)) (hts (.native arraycopyName) (List.mem_of_getElem? (i := 6) rfl)) (hts (.static arraycopyName) (List.mem_of_getElem? (i := 7) rfl)) (hts (.initialized "java/lang/System") (List.mem_of_getElem? (i := 8) rfl)) hK hP hI hS 7 6 rfl rfl (Nat.le_refl _) (Nat.le_refl _) (by omega) (Nat.le_of_ble_eq_true rfl) (Nat.le_of_ble_eq_true rfl) dX0_lengthenMap_49 (fun H locs hP hS => ?_)
  obtain ⟨C49, hC49⟩ : ∃ z9, z9 = pw_setR C1 6 (fun j => if j < n then C1.1 7 j else C1.1 6 j) := ⟨_, rfl⟩
  rw [← hC49] at hP
  have hB := by have hB9 := hB; exact (show pw_B (fun k => k = 6 ∨ k = 7) C C49 by rw [hC49]; exact hB9.setR (by show 6 = 6 ∨ 6 = 7; first | trivial | omega))
  exact W.vret hx hb hr (fun t ht _ => ⟨⟨none, C49, rfl, ⟨rfl, hB, fun x hx => by rw [hC49, sr_at, if_pos hx]; exact hR.2.2 x hx⟩, by rw [ht]; exact hP⟩, hS.F ht⟩) hS.2.2 dX0_lengthenMap_52

set_option maxHeartbeats 4000000 in
set_option maxRecDepth 100000 in
theorem L_leastMeeting_a {p : Program} {l : Launch} {e : Env} {s : State} {m : MethodId} {args : Array Value} {below : List Frame} {meth : Method} {c : Code} {Q : State → Prop} (S : CallFix p m c cX0_leastMeeting 4 s args wsX0_leastMeeting RX0) {D : va_G} {cy : Nat → ClassId} {Ad : Nat → Nat} {n mm : Nat} {C0 : pw_C} (hK : pw_K D cy s) (hI : pw_I Ad (shX n)) (hF0 : fX n mm Ad C0) (hn : 1 ≤ n ∧ n ≤ 12) (a : Int32) (most : Nat) (hk : ∀ (C : pw_C) (H : Heap) (locs : List Loc) (ls : Array Slot), pw_P D cy Ad (shX n) C H → va_S (pw_fr Ad (shX n)) s.heap H locs → (pw_B (fun k => k = 6 ∨ k = 7) C0 C ∧ ∀ y, y < n → C.1 6 y = nI y) → lv_has ls 4 [(0, .ref (Ad 1)), (1, .int a), (2, .int (nI most))] → W p l e (k2_rm 2 82) s m args below meth c H locs 0 0 Q (F0 m 23 ls [])) : ∀ (f : Nat) (C : pw_C) (H : Heap) (locs : List Loc) (x : Nat) (ls : Array Slot), n - x < f → (pw_P D cy Ad (shX n) C H) → (va_S (pw_fr Ad (shX n)) s.heap H locs) → (pw_B (fun k => k = 6 ∨ k = 7) C0 C) → (x ≤ n) → (∀ y, y < x → C.1 6 y = nI y) → lv_has ls 4 [(3, .int (nI x)), (0, .ref (Ad 1)), (1, .int a), (2, .int (nI most))] → W p l e (k2_rm 2 82) s m args below meth c H locs 0 0 Q (F0 m 2 ls []) := by
  have hx := S.1
  have hb := S.2.1
  have hml := S.2.2.1
  have hown := S.2.2.2.1
  have hts := S.2.2.2.2
  intro f
  induction f with
  | zero => intro C H locs x ls hf; exact absurd hf (Nat.not_lt_zero _)
  | succ f ih =>
    intro C H locs x ls hf hP hS hB hx0 hv hl
    have hF := fX_B hF0 hB
    refine lv_iload_n hx hb dX0_leastMeeting_2 rfl (lv_at hl 0 rfl) ?_
    refine lv_aload_n hx hb dX0_leastMeeting_3 rfl (lv_at hl 1 rfl) ?_
    refine pw_get hx hb hts (fun _ h9 => List.mem_cons_of_mem _ (List.mem_append_right _ h9)) hown hK hP 1 rfl rfl 0 (by decide) hF.2.1 rfl (hts (.fieldLink RX0 9 "PastDraws$Chain" "n" "I") (List.mem_of_getElem? (i := 1) rfl)) dX0_leastMeeting_4 ?_
    refine pn_icmp_ge (tgt := 23) hx hb (by omega) (by omega) dX0_leastMeeting_7 (by decide) (fun c_7 => ?_) (fun c_7 => ?_)
    · obtain rfl : x = n := by omega
      exact hk C H locs ls hP hS ⟨hB, hv⟩ (lv_sub hl [1, 2, 3] rfl)
    · refine lv_aload_n hx hb dX0_leastMeeting_10 rfl (lv_at hl 1 rfl) ?_
      refine pw_get hx hb hts (fun _ h9 => List.mem_cons_of_mem _ (List.mem_append_right _ h9)) hown hK hP 1 rfl rfl 2 (by decide) hF.2.1 rfl (hts (.fieldLink RX0 20 "PastDraws$Chain" "map" "[I") (List.mem_of_getElem? (i := 2) rfl)) dX0_leastMeeting_11 ?_
      refine lv_iload_n hx hb dX0_leastMeeting_14 rfl (lv_at hl 0 rfl) ?_
      refine lv_iload_n hx hb dX0_leastMeeting_15 rfl (lv_at hl 0 rfl) ?_
      refine pw_iast hx hb hK hP hI hS 6 rfl (by first | exact sgn_lt _ _ | omega) (by first | decide | omega) dX0_leastMeeting_16 (fun H locs hP hS => ?_)
      obtain ⟨C16, hC16⟩ : ∃ z9, z9 = pw_setI C 6 x (nI x) := ⟨_, rfl⟩
      rw [← hC16] at hP
      have hB := by have hB9 := hB; exact (show pw_B (fun k => k = 6 ∨ k = 7) C0 C16 by rw [hC16]; exact hB9.setI (by show 6 = 6 ∨ 6 = 7; first | trivial | omega))
      have hF := fX_B hF0 hB
      refine lv_iinc (v := nI (x + 1)) (lv' := [(3, .int (nI (x + 1))), (0, .ref (Ad 1)), (1, .int a), (2, .int (nI most))]) hx hb dX0_leastMeeting_17 hl (k := 0) rfl (nI_add _ 1) (by decide) rfl (fun ls hl => ?_)
      refine lv_goto (tgt := 2) hx hb dX0_leastMeeting_20 (by decide) ?_
      exact ih C16 H locs (x + 1) ls (by omega) hP hS hB (by omega) (fun y hy => by
        rw [hC16, si_at]
        by_cases q : y = x
        · rw [if_pos q, q]
        · rw [if_neg q]; exact hv y (by omega)) (lv_sub hl [0, 1, 2, 3] rfl)

theorem thr_lt {n : Nat} {nx : Nat → Nat → Nat} {C : pw_C} (hN : gN n nx C) {a : Int32} : ∀ t x, x < n → thr nx a t x < n := by
  intro t
  induction t with
  | zero => intro x h; exact h
  | succ t ih => intro x h; exact ih _ (hN _ (sgn_lt _ _) _ h).1

set_option maxHeartbeats 4000000 in
set_option maxRecDepth 100000 in
theorem L_leastMeeting {p : Program} {l : Launch} {e : Env} {s : State} {m : MethodId} {args : Array Value} {below : List Frame} {meth : Method} {c : Code} {Q : State → Prop} (S : CallFix p m c cX0_leastMeeting 4 s args wsX0_leastMeeting RX0) {D : va_G} {cy : Nat → ClassId} {Ad : Nat → Nat} {n mm : Nat} {C0 : pw_C} (hK : pw_K D cy s) (hI : pw_I Ad (shX n)) (hF0 : fX n mm Ad C0) (hn : 1 ≤ n ∧ n ≤ 12) {nx : Nat → Nat → Nat} (hN0 : gN n nx C0) (a : Int32) (most : Nat) (hmo : most ≤ 4096) (r : Option Nat) (hq : ∀ (pc9 : Nat) (C : pw_C) (H : Heap) (locs : List Loc) (ls : Array Slot), decode cX0_leastMeeting pc9 = .ok (.ireturn, 1) → pw_P D cy Ad (shX n) C H → va_S (pw_fr Ad (shX n)) s.heap H locs → (pw_B (fun k => k = 6 ∨ k = 7) C0 C) → W p l e (k2_rm 2 82) s m args below meth c H locs 0 0 Q (F0 m pc9 ls [.int (oi r)])) : ∀ (f : Nat) (C : pw_C) (H : Heap) (locs : List Loc) (t : Nat) (ls : Array Slot), most + 1 - t < f → (pw_P D cy Ad (shX n) C H) → (va_S (pw_fr Ad (shX n)) s.heap H locs) → (pw_B (fun k => k = 6 ∨ k = 7) C0 C) → (1 ≤ t) → (t ≤ 4097) → (∀ y, y < n → C.1 6 y = nI (thr nx a (t - 1) y)) → (fstT (fun t => mtF (thr nx a t) n) (most + 1 - t) t = r) → lv_has ls 4 [(3, .int (nI t)), (0, .ref (Ad 1)), (1, .int a), (2, .int (nI most))] → W p l e (k2_rm 2 82) s m args below meth c H locs 0 0 Q (F0 m 25 ls []) := by
  have hx := S.1
  have hb := S.2.1
  have hml := S.2.2.1
  have hown := S.2.2.2.1
  have hts := S.2.2.2.2
  intro f
  induction f with
  | zero => intro C H locs t ls hf; exact absurd hf (Nat.not_lt_zero _)
  | succ f ih =>
    intro C H locs t ls hf hP hS hB ht ht2 hv hr0 hl
    have hF := fX_B hF0 hB
    have hN := gN_B hN0 hB (fun u9 hu9 h9 => by have h8 : 21 + u9 = 6 ∨ 21 + u9 = 7 := h9; omega)
    refine lv_iload_n hx hb dX0_leastMeeting_25 rfl (lv_at hl 0 rfl) ?_
    refine lv_iload_n hx hb dX0_leastMeeting_26 rfl (lv_at hl 3 rfl) ?_
    refine pn_icmp_gt (tgt := 54) hx hb (by omega) (by omega) dX0_leastMeeting_27 (by decide) (fun c_27 => ?_) (fun c_27 => ?_)
    · have hz : most + 1 - t = 0 := by omega
      rw [hz] at hr0
      refine lv_bipush (v := (-2)) hx hb dX0_leastMeeting_54 (by decide) ?_
      refine pw_topi (y := oi r) (by rw [← hr0]; try rfl) ?_
      exact hq _ C H locs ls dX0_leastMeeting_56 hP hS hB
    · obtain ⟨z, hz⟩ : ∃ z, most + 1 - t = z + 1 := ⟨most - t, by omega⟩
      rw [hz, fstT] at hr0
      refine lv_aload_n hx hb dX0_leastMeeting_30 rfl (lv_at hl 1 rfl) ?_
      refine lv_iload_n hx hb dX0_leastMeeting_31 rfl (lv_at hl 2 rfl) ?_
      refine lv_iload_n hx hb dX0_leastMeeting_32 rfl (lv_at hl 0 rfl) ?_
      refine pw_cn S hK.2 (hts (.initialized RX4) (List.mem_of_getElem? (i := 4) rfl)) (hts (.static yX4_signAt) (List.mem_of_getElem? (i := 3) rfl)) 2 (c_X4_signAt l a (nI t)) gX0_leastMeeting_X4_signAt_n38 rfl rfl rfl (by decide +kernel) ⟨Nat.le_of_ble_eq_true rfl, Nat.le_of_ble_eq_true rfl⟩ rfl hl.1 rfl (Nat.le_of_ble_eq_true rfl) dX0_leastMeeting_33 ⟨Nat.le_refl _, Nat.le_refl _⟩ ?_
      refine pw_cvW S hK hP 1 0 rfl rfl 1 (c_X0_lengthenMap l D cy Ad n mm C hI hn hF nx hN (sgn a (nI t)) (sgn_lt _ _) (thr nx a (t - 1)) hv) gX0_leastMeeting_X0_lengthenMap rfl rfl rfl (by decide +kernel) ⟨Nat.le_of_ble_eq_true rfl, Nat.le_of_ble_eq_true rfl⟩ rfl hl.1 rfl (Nat.le_of_ble_eq_true rfl) dX0_leastMeeting_36 ⟨Nat.le_refl _, Nat.le_refl _⟩ hS (fun _ h9 => h9) (fun r9 C36 H locs hR hP _ _ hS => ?_)
      obtain ⟨rfl, hR⟩ := hR
      change W p l e _ s m _ below meth c H locs 0 0 _ (F0 m 39 ls [])
      have hB := hB.tr hR.1
      have hF := fX_B hF0 hB
      have hN := gN_B hN0 hB (fun u9 hu9 h9 => by have h8 : 21 + u9 = 6 ∨ 21 + u9 = 7 := h9; omega)
      have hv2 : ∀ y, y < n → C36.1 6 y = nI (thr nx a t y) := fun y hy => by
        obtain ⟨t9, rfl⟩ : ∃ t9, t = t9 + 1 := ⟨t - 1, by omega⟩
        exact hR.2 y hy
      refine lv_aload_n hx hb dX0_leastMeeting_39 rfl (lv_at hl 1 rfl) ?_
      refine pw_cv S hK hP 1 0 rfl rfl 0 (c_X0_mapMeets l D cy Ad n mm C36 hn hF (thr nx a t) (fun y hy => ⟨thr_lt hN t y hy, hv2 y hy⟩)) gX0_leastMeeting_X0_mapMeets rfl rfl rfl (by decide +kernel) ⟨Nat.le_of_ble_eq_true rfl, Nat.le_of_ble_eq_true rfl⟩ rfl hl.1 rfl (Nat.le_of_ble_eq_true rfl) dX0_leastMeeting_40 ⟨Nat.le_refl _, Nat.le_refl _⟩ ?_
      refine pn_ifeq_b (tgt := 48) hx hb dX0_leastMeeting_43 (by decide) (fun c_43 => ?_) (fun c_43 => ?_)
      · rw [if_neg (by rw [c_43]; decide)] at hr0
        have hz2 : z = most + 1 - (t + 1) := by omega
        refine lv_iinc (v := nI (t + 1)) (lv' := [(3, .int (nI (t + 1))), (0, .ref (Ad 1)), (1, .int a), (2, .int (nI most))]) hx hb dX0_leastMeeting_48 hl (k := 0) rfl (nI_add _ 1) (by decide) rfl (fun ls hl => ?_)
        refine lv_goto (tgt := 25) hx hb dX0_leastMeeting_51 (by decide) ?_
        exact ih C36 H locs (t + 1) ls (by omega) hP hS hB (by omega) (by omega) hv2 (by rw [← hz2]; exact hr0) (lv_sub hl [0, 1, 2, 3] rfl)
      · rw [if_pos c_43] at hr0
        refine lv_iload_n hx hb dX0_leastMeeting_46 rfl (lv_at hl 0 rfl) ?_
        refine pw_topi (y := oi r) (by rw [← hr0]; try rfl) ?_
        exact hq _ C36 H locs ls dX0_leastMeeting_47 hP hS hB

set_option maxHeartbeats 4000000 in
set_option maxRecDepth 100000 in
theorem c_X0_leastMeeting (l : Launch) (D : va_G) (cy : Nat → ClassId) (Ad : Nat → Nat) (n mm : Nat) (C : pw_C) (hI : pw_I Ad (shX n)) (hn : 1 ≤ n ∧ n ≤ 12) (hF : fX n mm Ad C) (nx : Nat → Nat → Nat) (hN : gN n nx C) (a : Int32) (most : Nat) (hmo : most ≤ 4096) : Met l yX0_leastMeeting wsX0_leastMeeting (k2_rm 2 82) (pw_Pre ([.ref (Ad 1), .int a, .int (nI most)]) D cy Ad (shX n) C) (pw_Post (fun r9 C' => r9 = some (.int (oi (fstT (fun t => mtF (thr nx a t) n) most 1))) ∧ (pw_B (fun k => k = 6 ∨ k = 7) C C')) D cy Ad (shX n)) 0 0 (pw_fr Ad (shX n)) := by
  refine Met.ofW (cc := cX0_leastMeeting) (maxL := 4) (ret := (some .int)) (by decide) rfl ?_
  intro p e s m args below meth c s₁ B hml hv
  obtain ⟨rfl, hP, hK⟩ := hv
  have hx := B.exec
  have hb := B.bytes
  have hr := B.returns
  have hts := atoms_spec (ws := wsX0_leastMeeting) B.pre
  have hown : s.vm.findClass RX0 = some m.cls := findClass_of_methodNamed B.named
  have hlocks := B.notSynchronized
  have S : CallFix p m c cX0_leastMeeting 4 s ([.ref (Ad 1), .int a, .int (nI most)]).toArray wsX0_leastMeeting RX0 := ⟨hx, hb, hml, hown, hts⟩
  change W p l e (k2_rm 2 82) s m _ below meth c s.heap [] 0 0 _ _
  have hl := lv_entry ([.ref (Ad 1), .int a, .int (nI most)]) (n := 4) (Nat.le_of_ble_eq_true rfl)
  rw [lg_entry_eq]
  generalize (lg_sl ([.ref (Ad 1), .int a, .int (nI most)]) ++ List.replicate (4 - (lg_sl ([.ref (Ad 1), .int a, .int (nI most)])).length) Slot.unset).toArray = ls at hl ⊢
  have hl : lv_has ls 4 [(0, .ref (Ad 1)), (1, .int a), (2, .int (nI most))] := hl
  have hS : va_S (pw_fr Ad (shX n)) s.heap s.heap [] := va_S.rf
  refine lv_iconst (v := nI 0) hx hb dX0_leastMeeting_0 (by decide) ?_
  refine lv_istore_n (lv' := [(3, .int (nI 0)), (0, .ref (Ad 1)), (1, .int a), (2, .int (nI most))]) hx hb dX0_leastMeeting_1 rfl hl (by decide) rfl (fun ls hl => ?_)
  refine L_leastMeeting_a S hK hI hF hn a most (fun C H locs ls hP hS hR hl => ?_) (n + 1) C s.heap [] 0 ls (by omega) hP hS pw_B.rf (by omega) (fun y hy => by omega) (lv_sub hl [0, 1, 2, 3] rfl)
  refine lv_iconst (v := nI 1) hx hb dX0_leastMeeting_23 (by decide) ?_
  refine lv_istore_n (lv' := [(3, .int (nI 1)), (0, .ref (Ad 1)), (1, .int a), (2, .int (nI most))]) hx hb dX0_leastMeeting_24 rfl hl (by decide) rfl (fun ls hl => ?_)
  exact L_leastMeeting S hK hI hF hn hN a most hmo _ (fun pc9 C9 H9 locs9 ls9 hd9 hP9 hS9 hR9 => W.iret hx hb hr (fun t ht _ => ⟨⟨(some (.int (oi (fstT (fun t => mtF (thr nx a t) n) most 1)))), C9, rfl, ⟨rfl, hR9⟩, by rw [ht]; exact hP9⟩, hS9.F ht⟩) hS9.2.2 hd9) (most + 1) C H locs 1 ls (by omega) hP hS hR.1 (by omega) (by omega) hR.2 rfl (lv_sub hl [0, 1, 2, 3] rfl)
end
section
def acU (nx : Nat → Nat → Nat) (n : Nat) (cnt : Nat → Int32) (Z : Nat) : Nat → (Nat → Int32) → Nat → Int32
  | 0, g => g
  | u + 1, g => fun z => if z = imgF nx Z u n then acU nx n cnt Z u g z + cnt Z else acU nx n cnt Z u g z
def acZ (nx : Nat → Nat → Nat) (n : Nat) (cnt : Nat → Int32) : Nat → Nat → Int32
  | 0 => fun _ => 0
  | k + 1 => acU nx n cnt (k + 1) 8 (acZ nx n cnt k)
theorem acU_0 {nx : Nat → Nat → Nat} {n : Nat} {cnt : Nat → Int32} {Z : Nat} (h : cnt Z = 0) {g : Nat → Int32} : ∀ u z, acU nx n cnt Z u g z = g z := by
  intro u
  induction u with
  | zero => intro z; rfl
  | succ u ih =>
    intro z
    unfold acU
    rw [ih z, h]
    split
    · exact Int32.add_zero _
    · rfl
def rws (nx : Nat → Nat → Nat) (n : Nat) : Nat → Nat → Int32
  | 0 => fun Z => if Z = 2 ^ n - 1 then 1 else 0
  | t + 1 => acZ nx n (rws nx n t) (2 ^ n - 1)
def apF (cnt : Nat → Int32) : Nat → Int32
  | 0 => 0
  | k + 1 => if sng (k + 1) = true then apF cnt k else apF cnt k + cnt (k + 1)

set_option maxHeartbeats 4000000 in
set_option maxRecDepth 100000 in
theorem L_lengthenRows_in {p : Program} {l : Launch} {e : Env} {s : State} {m : MethodId} {args : Array Value} {below : List Frame} {meth : Method} {c : Code} {Q : State → Prop} (S : CallFix p m c cX0_lengthenRows 3 s args wsX0_lengthenRows RX0) {D : va_G} {cy : Nat → ClassId} {Ad : Nat → Nat} {n mm : Nat} {C0 : pw_C} (hK : pw_K D cy s) (hI : pw_I Ad (shX n)) (hF0 : fX n mm Ad C0) (hn : 1 ≤ n ∧ n ≤ 12) {nx : Nat → Nat → Nat} (hN0 : gN n nx C0) (cnt : Nat → Int32) (hc0 : ∀ z, z < 2 ^ n → C0.1 8 z = cnt z) (k : Nat) (hk0 : k + 1 < 2 ^ n) (g : Nat → Int32) (hk : ∀ (C : pw_C) (H : Heap) (locs : List Loc) (ls : Array Slot), pw_P D cy Ad (shX n) C H → va_S (pw_fr Ad (shX n)) s.heap H locs → (pw_B (fun k => k = 8 ∨ k = 9) C0 C ∧ C.1 8 = C0.1 8 ∧ ∀ z, z < 2 ^ n → C.1 9 z = acU nx n cnt (k + 1) 8 g z) → lv_has ls 3 [(1, .int (nI (k + 1))), (0, .ref (Ad 1))] → W p l e (k2_rm 1 60) s m args below meth c H locs 0 0 Q (F0 m 61 ls [])) : ∀ (f : Nat) (C : pw_C) (H : Heap) (locs : List Loc) (u : Nat) (ls : Array Slot), 8 - u < f → (pw_P D cy Ad (shX n) C H) → (va_S (pw_fr Ad (shX n)) s.heap H locs) → (pw_B (fun k => k = 8 ∨ k = 9) C0 C) → (u ≤ 8) → (C.1 8 = C0.1 8) → (∀ z, z < 2 ^ n → C.1 9 z = acU nx n cnt (k + 1) u g z) → lv_has ls 3 [(2, .int (nI u)), (1, .int (nI (k + 1))), (0, .ref (Ad 1))] → W p l e (k2_rm 1 60) s m args below meth c H locs 0 0 Q (F0 m 29 ls []) := by
  have hx := S.1
  have hb := S.2.1
  have hml := S.2.2.1
  have hown := S.2.2.2.1
  have hts := S.2.2.2.2
  intro f
  induction f with
  | zero => intro C H locs u ls hf; exact absurd hf (Nat.not_lt_zero _)
  | succ f ih =>
    intro C H locs u ls hf hP hS hB hu0 h8 hv hl
    have hF := fX_B hF0 hB
    have hN := gN_B hN0 hB (fun u9 hu9 h9 => by have h8 : 21 + u9 = 8 ∨ 21 + u9 = 9 := h9; omega)
    have hpw := pow12 hn.2
    have hpp : 1 ≤ 2 ^ n := Nat.pow_pos (by decide)
    have hc : ∀ z, z < 2 ^ n → C.1 8 z = cnt z := fun z hz => by rw [h8]; exact hc0 z hz
    refine lv_iload_n hx hb dX0_lengthenRows_29 rfl (lv_at hl 0 rfl) ?_
    refine lv_bipush (v := nI 8) hx hb dX0_lengthenRows_30 (by decide) ?_
    refine pn_icmp_ge (tgt := 61) hx hb (by omega) (by omega) dX0_lengthenRows_32 (by decide) (fun c_32 => ?_) (fun c_32 => ?_)
    · obtain rfl : u = 8 := by omega
      exact hk C H locs ls hP hS ⟨hB, h8, hv⟩ (lv_sub hl [1, 2] rfl)
    · have him : imgF nx (k + 1) u n < 2 ^ n := imgF_lt (fun x h => (hN u (by omega) x h).1) n (Nat.le_refl _)
      refine lv_aload_n hx hb dX0_lengthenRows_35 rfl (lv_at hl 2 rfl) ?_
      refine pw_get hx hb hts (fun _ h9 => List.mem_cons_of_mem _ (List.mem_append_right _ h9)) hown hK hP 1 rfl rfl 5 (by decide) hF.2.1 rfl (hts (.fieldLink RX0 30 "PastDraws$Chain" "longerRowsTo" "[I") (List.mem_of_getElem? (i := 1) rfl)) dX0_lengthenRows_36 ?_
      refine lv_aload_n hx hb dX0_lengthenRows_39 rfl (lv_at hl 2 rfl) ?_
      refine lv_iload_n hx hb dX0_lengthenRows_40 rfl (lv_at hl 1 rfl) ?_
      refine lv_iload_n hx hb dX0_lengthenRows_41 rfl (lv_at hl 0 rfl) ?_
      refine pw_cv S hK hP 1 0 rfl rfl 2 (c_X0_imageOf l D cy Ad n mm C hn hF nx hN (k + 1) u (by omega) (by omega)) gX0_lengthenRows_X0_imageOf rfl rfl rfl (by decide +kernel) ⟨Nat.le_of_ble_eq_true rfl, Nat.le_of_ble_eq_true rfl⟩ rfl hl.1 rfl (Nat.le_of_ble_eq_true rfl) dX0_lengthenRows_42 ⟨Nat.le_refl _, Nat.le_refl _⟩ ?_
      refine lv_dup2_11 hx hb dX0_lengthenRows_45 rfl rfl ?_
      refine pw_iald hx hb hK hP 9 rfl him (by first | decide | omega) (v := acU nx n cnt (k + 1) u g (imgF nx (k + 1) u n)) (hv _ him) dX0_lengthenRows_46 ?_
      refine lv_aload_n hx hb dX0_lengthenRows_47 rfl (lv_at hl 2 rfl) ?_
      refine pw_get hx hb hts (fun _ h9 => List.mem_cons_of_mem _ (List.mem_append_right _ h9)) hown hK hP 1 rfl rfl 4 (by decide) hF.2.1 rfl (hts (.fieldLink RX0 27 "PastDraws$Chain" "rowsTo" "[I") (List.mem_of_getElem? (i := 2) rfl)) dX0_lengthenRows_48 ?_
      refine lv_iload_n hx hb dX0_lengthenRows_51 rfl (lv_at hl 1 rfl) ?_
      refine pw_iald hx hb hK hP 8 rfl (by first | exact sgn_lt _ _ | omega) (by first | decide | omega) (v := cnt (k + 1)) (hc (k + 1) (by omega)) dX0_lengthenRows_52 ?_
      refine lv_iadd hx hb dX0_lengthenRows_53 ?_
      refine pw_iast hx hb hK hP hI hS 9 rfl him (by first | decide | omega) dX0_lengthenRows_54 (fun H locs hP hS => ?_)
      obtain ⟨C54, hC54⟩ : ∃ z9, z9 = pw_setI C 9 (imgF nx (k + 1) u n) ((acU nx n cnt (k + 1) u g (imgF nx (k + 1) u n)) + (cnt (k + 1))) := ⟨_, rfl⟩
      rw [← hC54] at hP
      have hB := by have hB9 := hB; exact (show pw_B (fun k => k = 8 ∨ k = 9) C0 C54 by rw [hC54]; exact hB9.setI (by show 9 = 8 ∨ 9 = 9; first | trivial | omega))
      have hF := fX_B hF0 hB
      have hN := gN_B hN0 hB (fun u9 hu9 h9 => by have h8 : 21 + u9 = 8 ∨ 21 + u9 = 9 := h9; omega)
      refine lv_iinc (v := nI (u + 1)) (lv' := [(2, .int (nI (u + 1))), (1, .int (nI (k + 1))), (0, .ref (Ad 1))]) hx hb dX0_lengthenRows_55 hl (k := 0) rfl (nI_add _ 1) (by decide) rfl (fun ls hl => ?_)
      refine lv_goto (tgt := 29) hx hb dX0_lengthenRows_58 (by decide) ?_
      have e8 : C54.1 8 = C.1 8 := by rw [hC54]; exact si_ne (by decide)
      exact ih C54 H locs (u + 1) ls (by omega) hP hS hB (by omega) (e8.trans h8) (fun z hz => by
        rw [hC54, si_at]
        show _ = if z = imgF nx (k + 1) u n then _ else _
        by_cases q : z = imgF nx (k + 1) u n
        · rw [if_pos q, if_pos q, q]
        · rw [if_neg q, if_neg q]; exact hv z hz) (lv_sub hl [0, 1, 2] rfl)

set_option maxHeartbeats 4000000 in
set_option maxRecDepth 100000 in
theorem L_lengthenRows {p : Program} {l : Launch} {e : Env} {s : State} {m : MethodId} {args : Array Value} {below : List Frame} {meth : Method} {c : Code} {Q : State → Prop} (S : CallFix p m c cX0_lengthenRows 3 s args wsX0_lengthenRows RX0) {D : va_G} {cy : Nat → ClassId} {Ad : Nat → Nat} {n mm : Nat} {C0 : pw_C} (hK : pw_K D cy s) (hI : pw_I Ad (shX n)) (hF0 : fX n mm Ad C0) (hn : 1 ≤ n ∧ n ≤ 12) {nx : Nat → Nat → Nat} (hN0 : gN n nx C0) (cnt : Nat → Int32) (hc0 : ∀ z, z < 2 ^ n → C0.1 8 z = cnt z) (hk : ∀ (C : pw_C) (H : Heap) (locs : List Loc) (ls : Array Slot), pw_P D cy Ad (shX n) C H → va_S (pw_fr Ad (shX n)) s.heap H locs → (pw_B (fun k => k = 8 ∨ k = 9) C0 C ∧ C.1 8 = C0.1 8 ∧ ∀ z, z < 2 ^ n → C.1 9 z = acZ nx n cnt (2 ^ n - 1) z) → lv_has ls 3 [(0, .ref (Ad 1))] → W p l e (k2_rm 1 60) s m args below meth c H locs 0 0 Q (F0 m 67 ls [])) : ∀ (f : Nat) (C : pw_C) (H : Heap) (locs : List Loc) (k : Nat) (ls : Array Slot), 2 ^ n - k < f → (pw_P D cy Ad (shX n) C H) → (va_S (pw_fr Ad (shX n)) s.heap H locs) → (pw_B (fun k => k = 8 ∨ k = 9) C0 C) → (k ≤ 2 ^ n - 1) → (C.1 8 = C0.1 8) → (∀ z, z < 2 ^ n → C.1 9 z = acZ nx n cnt k z) → lv_has ls 3 [(1, .int (nI (k + 1))), (0, .ref (Ad 1))] → W p l e (k2_rm 1 60) s m args below meth c H locs 0 0 Q (F0 m 10 ls []) := by
  have hx := S.1
  have hb := S.2.1
  have hml := S.2.2.1
  have hown := S.2.2.2.1
  have hts := S.2.2.2.2
  intro f
  induction f with
  | zero => intro C H locs k ls hf; exact absurd hf (Nat.not_lt_zero _)
  | succ f ih =>
    intro C H locs k ls hf hP hS hB hk0 h8 hv hl
    have hF := fX_B hF0 hB
    have hN := gN_B hN0 hB (fun u9 hu9 h9 => by have h8 : 21 + u9 = 8 ∨ 21 + u9 = 9 := h9; omega)
    have hpw := pow12 hn.2
    have hpp : 1 ≤ 2 ^ n := Nat.pow_pos (by decide)
    have hc : ∀ z, z < 2 ^ n → C.1 8 z = cnt z := fun z hz => by rw [h8]; exact hc0 z hz
    refine lv_iload_n hx hb dX0_lengthenRows_10 rfl (lv_at hl 0 rfl) ?_
    refine lv_aload_n hx hb dX0_lengthenRows_11 rfl (lv_at hl 1 rfl) ?_
    refine pw_cv S hK hP 1 0 rfl rfl 0 (c_X0_allStates l D cy Ad n mm C hn hF ) gX0_lengthenRows_X0_allStates rfl rfl rfl (by decide +kernel) ⟨Nat.le_of_ble_eq_true rfl, Nat.le_of_ble_eq_true rfl⟩ rfl hl.1 rfl (Nat.le_of_ble_eq_true rfl) dX0_lengthenRows_12 ⟨Nat.le_refl _, Nat.le_refl _⟩ ?_
    refine pn_icmp_gt (tgt := 67) hx hb (by omega) (by omega) dX0_lengthenRows_15 (by decide) (fun c_15 => ?_) (fun c_15 => ?_)
    · obtain rfl : k = 2 ^ n - 1 := by omega
      exact hk C H locs ls hP hS ⟨hB, h8, hv⟩ (lv_sub hl [1] rfl)
    · refine lv_aload_n hx hb dX0_lengthenRows_18 rfl (lv_at hl 1 rfl) ?_
      refine pw_get hx hb hts (fun _ h9 => List.mem_cons_of_mem _ (List.mem_append_right _ h9)) hown hK hP 1 rfl rfl 4 (by decide) hF.2.1 rfl (hts (.fieldLink RX0 27 "PastDraws$Chain" "rowsTo" "[I") (List.mem_of_getElem? (i := 2) rfl)) dX0_lengthenRows_19 ?_
      refine lv_iload_n hx hb dX0_lengthenRows_22 rfl (lv_at hl 0 rfl) ?_
      refine pw_iald hx hb hK hP 8 rfl (by first | exact sgn_lt _ _ | omega) (by first | decide | omega) (v := cnt (k + 1)) (hc (k + 1) (by omega)) dX0_lengthenRows_23 ?_
      refine lv_if_eq (tgt := 61) hx hb dX0_lengthenRows_24 (by decide) (fun c_24 => ?_) (fun c_24 => ?_)
      · have hv : ∀ z, z < 2 ^ n → C.1 9 z = acZ nx n cnt (k + 1) z := fun z hz => by
          rw [acZ, acU_0 c_24]; exact hv z hz
        refine lv_iinc (v := nI ((k + 1) + 1)) (lv' := [(1, .int (nI ((k + 1) + 1))), (0, .ref (Ad 1))]) hx hb dX0_lengthenRows_61 hl (k := 0) rfl (nI_add _ 1) (by decide) rfl (fun ls hl => ?_)
        refine lv_goto (tgt := 10) hx hb dX0_lengthenRows_64 (by decide) ?_
        exact ih C H locs (k + 1) ls (by omega) hP hS hB (by omega) h8 hv (lv_sub hl [0, 1] rfl)
      · refine lv_iconst (v := nI 0) hx hb dX0_lengthenRows_27 (by decide) ?_
        refine lv_istore_n (lv' := [(2, .int (nI 0)), (1, .int (nI (k + 1))), (0, .ref (Ad 1))]) hx hb dX0_lengthenRows_28 rfl hl (by decide) rfl (fun ls hl => ?_)
        refine L_lengthenRows_in S hK hI hF0 hn hN0 cnt hc0 k (by omega) (acZ nx n cnt k) (fun C H locs ls hP hS hR hl => ?_) 9 C H locs 0 ls (by omega) hP hS hB (by omega) h8 hv (lv_sub hl [0, 1, 2] rfl)
        obtain ⟨hB, h8, hv⟩ := hR
        refine lv_iinc (v := nI ((k + 1) + 1)) (lv' := [(1, .int (nI ((k + 1) + 1))), (0, .ref (Ad 1))]) hx hb dX0_lengthenRows_61 hl (k := 0) rfl (nI_add _ 1) (by decide) rfl (fun ls hl => ?_)
        refine lv_goto (tgt := 10) hx hb dX0_lengthenRows_64 (by decide) ?_
        exact ih C H locs (k + 1) ls (by omega) hP hS hB (by omega) h8 hv (lv_sub hl [0, 1] rfl)

set_option maxHeartbeats 4000000 in
set_option maxRecDepth 100000 in
theorem c_X0_lengthenRows (l : Launch) (D : va_G) (cy : Nat → ClassId) (Ad : Nat → Nat) (n mm : Nat) (C : pw_C) (hI : pw_I Ad (shX n)) (hn : 1 ≤ n ∧ n ≤ 12) (hF : fX n mm Ad C) (nx : Nat → Nat → Nat) (hN : gN n nx C) (cnt : Nat → Int32) (hc : ∀ z, z < 2 ^ n → C.1 8 z = cnt z) : Met l yX0_lengthenRows wsX0_lengthenRows (k2_rm 1 60) (pw_Pre ([.ref (Ad 1)]) D cy Ad (shX n) C) (pw_Post (fun r9 C' => r9 = none ∧ (pw_B (fun k => k = 8 ∨ k = 9) C C' ∧ ∀ z, z < 2 ^ n → C'.1 8 z = acZ nx n cnt (2 ^ n - 1) z)) D cy Ad (shX n)) 0 0 (pw_fr Ad (shX n)) := by
  refine Met.ofW (cc := cX0_lengthenRows) (maxL := 3) (ret := none) (by decide) rfl ?_
  intro p e s m args below meth c s₁ B hml hv
  obtain ⟨rfl, hP, hK⟩ := hv
  have hx := B.exec
  have hb := B.bytes
  have hr := B.returns
  have hts := atoms_spec (ws := wsX0_lengthenRows) B.pre
  have hown : s.vm.findClass RX0 = some m.cls := findClass_of_methodNamed B.named
  have hlocks := B.notSynchronized
  have S : CallFix p m c cX0_lengthenRows 3 s ([.ref (Ad 1)]).toArray wsX0_lengthenRows RX0 := ⟨hx, hb, hml, hown, hts⟩
  change W p l e (k2_rm 1 60) s m _ below meth c s.heap [] 0 0 _ _
  have hl := lv_entry ([.ref (Ad 1)]) (n := 3) (Nat.le_of_ble_eq_true rfl)
  rw [lg_entry_eq]
  generalize (lg_sl ([.ref (Ad 1)]) ++ List.replicate (3 - (lg_sl ([.ref (Ad 1)])).length) Slot.unset).toArray = ls at hl ⊢
  have hl : lv_has ls 3 [(0, .ref (Ad 1))] := hl
  have hS : va_S (pw_fr Ad (shX n)) s.heap s.heap [] := va_S.rf
  have hpw := pow12 hn.2
  have hpp : 1 ≤ 2 ^ n := Nat.pow_pos (by decide)
  refine lv_aload_n hx hb dX0_lengthenRows_0 rfl (lv_at hl 0 rfl) ?_
  refine pw_get hx hb hts (fun _ h9 => List.mem_cons_of_mem _ (List.mem_append_right _ h9)) hown hK hP 1 rfl rfl 5 (by decide) hF.2.1 rfl (hts (.fieldLink RX0 30 "PastDraws$Chain" "longerRowsTo" "[I") (List.mem_of_getElem? (i := 1) rfl)) dX0_lengthenRows_1 ?_
  refine lv_iconst (v := nI 0) hx hb dX0_lengthenRows_4 (by decide) ?_
  refine pw_csW S hK hP 2 (c_J7_fill_53178 l D cy Ad (shX n) C hI 9 (2 ^ n) 0 rfl (by omega) (nI 0)) gX0_lengthenRows_J7_fill_53178 rfl rfl rfl (by decide +kernel) ⟨Nat.le_of_ble_eq_true rfl, Nat.le_of_ble_eq_true rfl⟩ rfl hl.1 rfl (Nat.le_of_ble_eq_true rfl) dX0_lengthenRows_5 ⟨Nat.le_refl _, Nat.le_refl _⟩ hS (fun _ h9 => h9) (fun r9 C5 H locs hR hP _ _ hS => ?_)
  obtain ⟨rfl, hR⟩ := hR
  change W p l e _ s m _ below meth c H locs 0 0 _ (F0 m 8 ls [])
  have hB : pw_B (fun k => k = 8 ∨ k = 9) C C5 := hR.1.mono (fun k9 h9 => Or.inr h9)
  refine lv_iconst (v := nI 1) hx hb dX0_lengthenRows_8 (by decide) ?_
  refine lv_istore_n (lv' := [(1, .int (nI 1)), (0, .ref (Ad 1))]) hx hb dX0_lengthenRows_9 rfl hl (by decide) rfl (fun ls hl => ?_)
  have h8 : C5.1 8 = C.1 8 := (hR.1.1 8 (by decide)).1
  refine L_lengthenRows S hK hI hF hn hN cnt hc (fun C1 H locs ls hP hS hR hl => ?_) (2 ^ n + 1) C5 H locs 0 ls (by omega) hP hS hB (by omega) h8 (fun z hz => hR.2 z hz) (lv_sub hl [0, 1] rfl)
  obtain ⟨hB, h8, hv⟩ := hR
  have hF := fX_B hF hB
  refine lv_aload_n hx hb dX0_lengthenRows_67 rfl (lv_at hl 0 rfl) ?_
  refine pw_get hx hb hts (fun _ h9 => List.mem_cons_of_mem _ (List.mem_append_right _ h9)) hown hK hP 1 rfl rfl 5 (by decide) hF.2.1 rfl (hts (.fieldLink RX0 30 "PastDraws$Chain" "longerRowsTo" "[I") (List.mem_of_getElem? (i := 1) rfl)) dX0_lengthenRows_68 ?_
  refine lv_iconst (v := nI 0) hx hb dX0_lengthenRows_71 (by decide) ?_
  refine lv_aload_n hx hb dX0_lengthenRows_72 rfl (lv_at hl 0 rfl) ?_
  refine pw_get hx hb hts (fun _ h9 => List.mem_cons_of_mem _ (List.mem_append_right _ h9)) hown hK hP 1 rfl rfl 4 (by decide) hF.2.1 rfl (hts (.fieldLink RX0 27 "PastDraws$Chain" "rowsTo" "[I") (List.mem_of_getElem? (i := 2) rfl)) dX0_lengthenRows_73 ?_
  refine lv_iconst (v := nI 0) hx hb dX0_lengthenRows_76 (by decide) ?_
  refine lv_aload_n hx hb dX0_lengthenRows_77 rfl (lv_at hl 0 rfl) ?_
  refine pw_get hx hb hts (fun _ h9 => List.mem_cons_of_mem _ (List.mem_append_right _ h9)) hown hK hP 1 rfl rfl 4 (by decide) hF.2.1 rfl (hts (.fieldLink RX0 27 "PastDraws$Chain" "rowsTo" "[I") (List.mem_of_getElem? (i := 2) rfl)) dX0_lengthenRows_78 ?_
  refine pw_alen1 hx hb hK hP 8 rfl dX0_lengthenRows_81 ?_
  refine pw_copy hx hb (hml.trans hl.1.symm) hown (hts (.methodLink RX0 50 arraycopyName) (List.mem_of_getElem? (i := 3) rfl)) (hts (.native arraycopyName) (List.mem_of_getElem? (i := 4) rfl)) (hts (.static arraycopyName) (List.mem_of_getElem? (i := 5) rfl)) (hts (.initialized "java/lang/System") (List.mem_of_getElem? (i := 6) rfl)) hK hP hI hS 9 8 rfl rfl (Nat.le_refl _) (Nat.le_refl _) (by omega) (Nat.le_of_ble_eq_true rfl) (Nat.le_of_ble_eq_true rfl) dX0_lengthenRows_82 (fun H locs hP hS => ?_)
  obtain ⟨C82, hC82⟩ : ∃ z9, z9 = pw_setR C1 8 (fun j => if j < 2 ^ n then C1.1 9 j else C1.1 8 j) := ⟨_, rfl⟩
  rw [← hC82] at hP
  have hB := by have hB9 := hB; exact (show pw_B (fun k => k = 8 ∨ k = 9) C C82 by rw [hC82]; exact hB9.setR (by show 8 = 8 ∨ 8 = 9; first | trivial | omega))
  exact W.vret hx hb hr (fun t ht _ => ⟨⟨none, C82, rfl, ⟨rfl, hB, fun z hz => by rw [hC82, sr_at, if_pos hz]; exact hv z hz⟩, by rw [ht]; exact hP⟩, hS.F ht⟩) hS.2.2 dX0_lengthenRows_85

set_option maxHeartbeats 4000000 in
set_option maxRecDepth 100000 in
theorem L_rowsMeeting {p : Program} {l : Launch} {e : Env} {s : State} {m : MethodId} {args : Array Value} {below : List Frame} {meth : Method} {c : Code} {Q : State → Prop} (S : CallFix p m c cX0_rowsMeeting 5 s args wsX0_rowsMeeting RX0) {D : va_G} {cy : Nat → ClassId} {Ad : Nat → Nat} {n mm : Nat} {C0 : pw_C} (hK : pw_K D cy s) (hI : pw_I Ad (shX n)) (hF0 : fX n mm Ad C0) (hn : 1 ≤ n ∧ n ≤ 12) {nx : Nat → Nat → Nat} (hN0 : gN n nx C0) (len : Nat) (hle : len ≤ 5) (st : Int32) (hk : ∀ (C : pw_C) (H : Heap) (locs : List Loc) (ls : Array Slot), pw_P D cy Ad (shX n) C H → va_S (pw_fr Ad (shX n)) s.heap H locs → (pw_B (fun k => k = 8 ∨ k = 9) C0 C ∧ ∀ z, z < 2 ^ n → C.1 8 z = rws nx n len z) → lv_has ls 5 [(0, .ref (Ad 1)), (2, .int st)] → W p l e (k2_rm 2 82) s m args below meth c H locs 0 0 Q (F0 m 35 ls [])) : ∀ (f : Nat) (C : pw_C) (H : Heap) (locs : List Loc) (t : Nat) (ls : Array Slot), len - t < f → (pw_P D cy Ad (shX n) C H) → (va_S (pw_fr Ad (shX n)) s.heap H locs) → (pw_B (fun k => k = 8 ∨ k = 9) C0 C) → (t ≤ len) → (∀ z, z < 2 ^ n → C.1 8 z = rws nx n t z) → lv_has ls 5 [(3, .int (nI t)), (0, .ref (Ad 1)), (2, .int st), (1, .int (nI len))] → W p l e (k2_rm 2 82) s m args below meth c H locs 0 0 Q (F0 m 20 ls []) := by
  have hx := S.1
  have hb := S.2.1
  have hml := S.2.2.1
  have hown := S.2.2.2.1
  have hts := S.2.2.2.2
  intro f
  induction f with
  | zero => intro C H locs t ls hf; exact absurd hf (Nat.not_lt_zero _)
  | succ f ih =>
    intro C H locs t ls hf hP hS hB ht hv hl
    have hF := fX_B hF0 hB
    have hN := gN_B hN0 hB (fun u9 hu9 h9 => by have h8 : 21 + u9 = 8 ∨ 21 + u9 = 9 := h9; omega)
    refine lv_iload_n hx hb dX0_rowsMeeting_20 rfl (lv_at hl 0 rfl) ?_
    refine lv_iload_n hx hb dX0_rowsMeeting_21 rfl (lv_at hl 3 rfl) ?_
    refine pn_icmp_ge (tgt := 35) hx hb (by omega) (by omega) dX0_rowsMeeting_22 (by decide) (fun c_22 => ?_) (fun c_22 => ?_)
    · obtain rfl : t = len := by omega
      exact hk C H locs ls hP hS ⟨hB, hv⟩ (lv_sub hl [1, 2] rfl)
    · refine lv_aload_n hx hb dX0_rowsMeeting_25 rfl (lv_at hl 1 rfl) ?_
      refine pw_cvW S hK hP 1 0 rfl rfl 0 (c_X0_lengthenRows l D cy Ad n mm C hI hn hF nx hN (rws nx n t) hv) gX0_rowsMeeting_X0_lengthenRows rfl rfl rfl (by decide +kernel) ⟨Nat.le_of_ble_eq_true rfl, Nat.le_of_ble_eq_true rfl⟩ rfl hl.1 rfl (Nat.le_of_ble_eq_true rfl) dX0_rowsMeeting_26 ⟨Nat.le_refl _, Nat.le_refl _⟩ hS (fun _ h9 => h9) (fun r9 C26 H locs hR hP _ _ hS => ?_)
      obtain ⟨rfl, hR⟩ := hR
      change W p l e _ s m _ below meth c H locs 0 0 _ (F0 m 29 ls [])
      have hB := hB.tr hR.1
      have hF := fX_B hF0 hB
      have hN := gN_B hN0 hB (fun u9 hu9 h9 => by have h8 : 21 + u9 = 8 ∨ 21 + u9 = 9 := h9; omega)
      refine lv_iinc (v := nI (t + 1)) (lv' := [(3, .int (nI (t + 1))), (0, .ref (Ad 1)), (2, .int st), (1, .int (nI len))]) hx hb dX0_rowsMeeting_29 hl (k := 0) rfl (nI_add _ 1) (by decide) rfl (fun ls hl => ?_)
      refine lv_goto (tgt := 20) hx hb dX0_rowsMeeting_32 (by decide) ?_
      exact ih C26 H locs (t + 1) ls (by omega) hP hS hB (by omega) hR.2 (lv_sub hl [0, 1, 2, 3] rfl)

set_option maxHeartbeats 4000000 in
set_option maxRecDepth 100000 in
theorem L_rowsMeeting_b {p : Program} {l : Launch} {e : Env} {s : State} {m : MethodId} {args : Array Value} {below : List Frame} {meth : Method} {c : Code} {H : Heap} {locs : List Loc} {Q : State → Prop} (S : CallFix p m c cX0_rowsMeeting 5 s args wsX0_rowsMeeting RX0) {D : va_G} {cy : Nat → ClassId} {Ad : Nat → Nat} {n mm : Nat} {C : pw_C} (hK : pw_K D cy s) (hP : pw_P D cy Ad (shX n) C H) (hF : fX n mm Ad C) (hn : 1 ≤ n ∧ n ≤ 12) (cnt : Nat → Int32) (hc : ∀ z, z < 2 ^ n → C.1 8 z = cnt z) (hq : ∀ (pc9 : Nat) (ls : Array Slot), decode cX0_rowsMeeting pc9 = .ok (.ireturn, 1) → W p l e (k2_rm 2 82) s m args below meth c H locs 0 0 Q (F0 m pc9 ls [.int (apF cnt (2 ^ n - 1))])) : ∀ (f : Nat) (k : Nat) (ls : Array Slot), 2 ^ n - k < f → (k ≤ 2 ^ n - 1) → lv_has ls 5 [(4, .int (nI (k + 1))), (3, .int (apF cnt k)), (0, .ref (Ad 1))] → W p l e (k2_rm 2 82) s m args below meth c H locs 0 0 Q (F0 m 53 ls []) := by
  have hx := S.1
  have hb := S.2.1
  have hml := S.2.2.1
  have hown := S.2.2.2.1
  have hts := S.2.2.2.2
  intro f
  induction f with
  | zero => intro k ls hf; exact absurd hf (Nat.not_lt_zero _)
  | succ f ih =>
    intro k ls hf hk0 hl
    have hpw := pow12 hn.2
    have hpp : 1 ≤ 2 ^ n := Nat.pow_pos (by decide)
    refine lv_iload hx hb dX0_rowsMeeting_53 (lv_at hl 0 rfl) ?_
    refine lv_aload_n hx hb dX0_rowsMeeting_55 rfl (lv_at hl 2 rfl) ?_
    refine pw_cv S hK hP 1 0 rfl rfl 0 (c_X0_allStates l D cy Ad n mm C hn hF ) gX0_rowsMeeting_X0_allStates rfl rfl rfl (by decide +kernel) ⟨Nat.le_of_ble_eq_true rfl, Nat.le_of_ble_eq_true rfl⟩ rfl hl.1 rfl (Nat.le_of_ble_eq_true rfl) dX0_rowsMeeting_56 ⟨Nat.le_refl _, Nat.le_refl _⟩ ?_
    refine pn_icmp_gt (tgt := 86) hx hb (by omega) (by omega) dX0_rowsMeeting_59 (by decide) (fun c_59 => ?_) (fun c_59 => ?_)
    · have hke : k = 2 ^ n - 1 := by omega
      refine lv_iload_n hx hb dX0_rowsMeeting_86 rfl (lv_at hl 1 rfl) ?_
      refine pw_topi (y := apF cnt (2 ^ n - 1)) (by rw [hke]) ?_
      exact hq _ ls dX0_rowsMeeting_87
    · refine lv_iload hx hb dX0_rowsMeeting_62 (lv_at hl 0 rfl) ?_
      refine pw_cs S 1 (c_X0_isSingle l (k + 1) (by omega)) gX0_rowsMeeting_X0_isSingle rfl rfl rfl (by decide +kernel) ⟨Nat.le_of_ble_eq_true rfl, Nat.le_of_ble_eq_true rfl⟩ rfl hl.1 rfl (Nat.le_of_ble_eq_true rfl) dX0_rowsMeeting_64 ⟨Nat.le_refl _, Nat.le_refl _⟩ ?_
      refine pn_ifne_b (tgt := 80) hx hb dX0_rowsMeeting_67 (by decide) (fun c_67 => ?_) (fun c_67 => ?_)
      · have e9 : apF cnt (k + 1) = apF cnt k := by rw [apF, if_pos c_67]
        refine lv_iinc (v := nI ((k + 1) + 1)) (lv' := [(4, .int (nI ((k + 1) + 1))), (3, .int (apF cnt k)), (0, .ref (Ad 1))]) hx hb dX0_rowsMeeting_80 hl (k := 0) rfl (nI_add _ 1) (by decide) rfl (fun ls hl => ?_)
        refine lv_goto (tgt := 53) hx hb dX0_rowsMeeting_83 (by decide) ?_
        exact ih (k + 1) ls (by omega) (by omega) (by rw [e9]; exact (lv_sub hl [0, 1, 2] rfl))
      · have e9 : apF cnt (k + 1) = apF cnt k + cnt (k + 1) := by rw [apF, if_neg (by rw [c_67]; decide)]
        refine lv_iload_n hx hb dX0_rowsMeeting_70 rfl (lv_at hl 1 rfl) ?_
        refine lv_aload_n hx hb dX0_rowsMeeting_71 rfl (lv_at hl 2 rfl) ?_
        refine pw_get hx hb hts (fun _ h9 => List.mem_cons_of_mem _ (List.mem_append_right _ h9)) hown hK hP 1 rfl rfl 4 (by decide) hF.2.1 rfl (hts (.fieldLink RX0 27 "PastDraws$Chain" "rowsTo" "[I") (List.mem_of_getElem? (i := 1) rfl)) dX0_rowsMeeting_72 ?_
        refine lv_iload hx hb dX0_rowsMeeting_75 (lv_at hl 0 rfl) ?_
        refine pw_iald hx hb hK hP 8 rfl (by first | exact sgn_lt _ _ | omega) (by first | decide | omega) (v := cnt (k + 1)) (hc (k + 1) (by omega)) dX0_rowsMeeting_77 ?_
        refine lv_iadd hx hb dX0_rowsMeeting_78 ?_
        refine lv_topi (fun x3_79 ex3_79 => ?_)
        refine lv_istore_n (lv' := [(3, .int x3_79), (4, .int (nI (k + 1))), (0, .ref (Ad 1))]) hx hb dX0_rowsMeeting_79 rfl hl (by decide) rfl (fun ls hl => ?_)
        refine lv_iinc (v := nI ((k + 1) + 1)) (lv' := [(4, .int (nI ((k + 1) + 1))), (3, .int x3_79), (0, .ref (Ad 1))]) hx hb dX0_rowsMeeting_80 hl (k := 1) rfl (nI_add _ 1) (by decide) rfl (fun ls hl => ?_)
        refine lv_goto (tgt := 53) hx hb dX0_rowsMeeting_83 (by decide) ?_
        exact ih (k + 1) ls (by omega) (by omega) (by rw [e9, ← ex3_79]; exact (lv_sub hl [0, 1, 2] rfl))

set_option maxHeartbeats 4000000 in
set_option maxRecDepth 100000 in
theorem c_X0_rowsMeeting (l : Launch) (D : va_G) (cy : Nat → ClassId) (Ad : Nat → Nat) (n mm : Nat) (C : pw_C) (hI : pw_I Ad (shX n)) (hn : 1 ≤ n ∧ n ≤ 12) (hF : fX n mm Ad C) (nx : Nat → Nat → Nat) (hN : gN n nx C) (len : Nat) (hle : len ≤ 5) (x : Nat) (hx0 : x < n) : Met l yX0_rowsMeeting wsX0_rowsMeeting (k2_rm 2 82) (pw_Pre ([.ref (Ad 1), .int (nI len), .int (nI x)]) D cy Ad (shX n) C) (pw_Post (fun r9 C' => r9 = some (.int (rws nx n len (2 ^ x))) ∧ (pw_B (fun k => k = 8 ∨ k = 9) C C')) D cy Ad (shX n)) 0 0 (pw_fr Ad (shX n)) := by
  refine Met.ofW (cc := cX0_rowsMeeting) (maxL := 5) (ret := (some .int)) (by decide) rfl ?_
  intro p e s m args below meth c s₁ B hml hv
  obtain ⟨rfl, hP, hK⟩ := hv
  have hx := B.exec
  have hb := B.bytes
  have hr := B.returns
  have hts := atoms_spec (ws := wsX0_rowsMeeting) B.pre
  have hown : s.vm.findClass RX0 = some m.cls := findClass_of_methodNamed B.named
  have hlocks := B.notSynchronized
  have S : CallFix p m c cX0_rowsMeeting 5 s ([.ref (Ad 1), .int (nI len), .int (nI x)]).toArray wsX0_rowsMeeting RX0 := ⟨hx, hb, hml, hown, hts⟩
  change W p l e (k2_rm 2 82) s m _ below meth c s.heap [] 0 0 _ _
  have hl := lv_entry ([.ref (Ad 1), .int (nI len), .int (nI x)]) (n := 5) (Nat.le_of_ble_eq_true rfl)
  rw [lg_entry_eq]
  generalize (lg_sl ([.ref (Ad 1), .int (nI len), .int (nI x)]) ++ List.replicate (5 - (lg_sl ([.ref (Ad 1), .int (nI len), .int (nI x)])).length) Slot.unset).toArray = ls at hl ⊢
  have hl : lv_has ls 5 [(0, .ref (Ad 1)), (1, .int (nI len)), (2, .int (nI x))] := hl
  have hS : va_S (pw_fr Ad (shX n)) s.heap s.heap [] := va_S.rf
  have hpw := pow12 hn.2
  have hpp : 1 ≤ 2 ^ n := Nat.pow_pos (by decide)
  have hx2 : 2 ^ x < 2 ^ n := Nat.pow_lt_pow_right (by decide) hx0
  refine lv_aload_n hx hb dX0_rowsMeeting_0 rfl (lv_at hl 0 rfl) ?_
  refine pw_get hx hb hts (fun _ h9 => List.mem_cons_of_mem _ (List.mem_append_right _ h9)) hown hK hP 1 rfl rfl 4 (by decide) hF.2.1 rfl (hts (.fieldLink RX0 27 "PastDraws$Chain" "rowsTo" "[I") (List.mem_of_getElem? (i := 1) rfl)) dX0_rowsMeeting_1 ?_
  refine lv_iconst (v := nI 0) hx hb dX0_rowsMeeting_4 (by decide) ?_
  refine pw_csW S hK hP 2 (c_J7_fill_53178 l D cy Ad (shX n) C hI 8 (2 ^ n) 0 rfl (by omega) (nI 0)) gX0_rowsMeeting_J7_fill_53178 rfl rfl rfl (by decide +kernel) ⟨Nat.le_of_ble_eq_true rfl, Nat.le_of_ble_eq_true rfl⟩ rfl hl.1 rfl (Nat.le_of_ble_eq_true rfl) dX0_rowsMeeting_5 ⟨Nat.le_refl _, Nat.le_refl _⟩ hS (fun _ h9 => h9) (fun r9 C5 H locs hR hP _ _ hS => ?_)
  obtain ⟨rfl, hR⟩ := hR
  change W p l e _ s m _ below meth c H locs 0 0 _ (F0 m 8 ls [])
  have hB : pw_B (fun k => k = 8 ∨ k = 9) C C5 := hR.1.mono (fun k9 h9 => Or.inl h9)
  have hF0 := hF
  have hF := fX_B hF0 hB
  refine lv_aload_n hx hb dX0_rowsMeeting_8 rfl (lv_at hl 0 rfl) ?_
  refine pw_get hx hb hts (fun _ h9 => List.mem_cons_of_mem _ (List.mem_append_right _ h9)) hown hK hP 1 rfl rfl 4 (by decide) hF.2.1 rfl (hts (.fieldLink RX0 27 "PastDraws$Chain" "rowsTo" "[I") (List.mem_of_getElem? (i := 1) rfl)) dX0_rowsMeeting_9 ?_
  refine lv_aload_n hx hb dX0_rowsMeeting_12 rfl (lv_at hl 0 rfl) ?_
  refine pw_cv S hK hP 1 0 rfl rfl 0 (c_X0_allStates l D cy Ad n mm C5 hn hF ) gX0_rowsMeeting_X0_allStates rfl rfl rfl (by decide +kernel) ⟨Nat.le_of_ble_eq_true rfl, Nat.le_of_ble_eq_true rfl⟩ rfl hl.1 rfl (Nat.le_of_ble_eq_true rfl) dX0_rowsMeeting_13 ⟨Nat.le_refl _, Nat.le_refl _⟩ ?_
  refine lv_iconst (v := nI 1) hx hb dX0_rowsMeeting_16 (by decide) ?_
  refine pw_iast hx hb hK hP hI hS 8 rfl (by omega) (by first | decide | omega) dX0_rowsMeeting_17 (fun H locs hP hS => ?_)
  obtain ⟨C17, hC17⟩ : ∃ z9, z9 = pw_setI C5 8 (2 ^ n - 1) (nI 1) := ⟨_, rfl⟩
  rw [← hC17] at hP
  have hB := by have hB9 := hB; exact (show pw_B (fun k => k = 8 ∨ k = 9) C C17 by rw [hC17]; exact hB9.setI (by show 8 = 8 ∨ 8 = 9; first | trivial | omega))
  refine lv_iconst (v := nI 0) hx hb dX0_rowsMeeting_18 (by decide) ?_
  refine lv_istore_n (lv' := [(3, .int (nI 0)), (0, .ref (Ad 1)), (1, .int (nI len)), (2, .int (nI x))]) hx hb dX0_rowsMeeting_19 rfl hl (by decide) rfl (fun ls hl => ?_)
  refine L_rowsMeeting S hK hI hF0 hn hN len hle (nI x) (fun C1 H locs ls hP hS hR hl => ?_) 6 C17 H locs 0 ls (by omega) hP hS hB (by omega) (fun z hz => by
    rw [hC17, si_at]
    show _ = if z = 2 ^ n - 1 then _ else _
    by_cases q : z = 2 ^ n - 1
    · rw [if_pos q, if_pos q]; rfl
    · rw [if_neg q, if_neg q]; exact hR.2 z hz) (lv_sub hl [0, 1, 3, 2] rfl)
  obtain ⟨hB, hv⟩ := hR
  have hF := fX_B hF0 hB
  refine lv_iload_n hx hb dX0_rowsMeeting_35 rfl (lv_at hl 1 rfl) ?_
  refine lv_if_lt (tgt := 48) hx hb dX0_rowsMeeting_36 (by decide) (fun h9 => absurd h9 (nI_pos (by omega))) (fun _ => ?_)
  refine lv_aload_n hx hb dX0_rowsMeeting_39 rfl (lv_at hl 0 rfl) ?_
  refine pw_get hx hb hts (fun _ h9 => List.mem_cons_of_mem _ (List.mem_append_right _ h9)) hown hK hP 1 rfl rfl 4 (by decide) hF.2.1 rfl (hts (.fieldLink RX0 27 "PastDraws$Chain" "rowsTo" "[I") (List.mem_of_getElem? (i := 1) rfl)) dX0_rowsMeeting_40 ?_
  refine lv_iconst (v := nI 1) hx hb dX0_rowsMeeting_43 (by decide) ?_
  refine lv_iload_n hx hb dX0_rowsMeeting_44 rfl (lv_at hl 1 rfl) ?_
  refine lv_ishl hx hb dX0_rowsMeeting_45 ?_
  refine pw_topi (y := nI (2 ^ x)) (ps_shl1 (by omega)) ?_
  refine pw_iald hx hb hK hP 8 rfl hx2 (by first | decide | omega) (v := rws nx n len (2 ^ x)) (hv _ hx2) dX0_rowsMeeting_46 ?_
  exact W.iret hx hb hr (fun t ht _ => ⟨⟨(some (.int (rws nx n len (2 ^ x)))), C1, rfl, ⟨rfl, hB⟩, by rw [ht]; exact hP⟩, hS.F ht⟩) hS.2.2 dX0_rowsMeeting_47

set_option maxHeartbeats 4000000 in
set_option maxRecDepth 100000 in
theorem c_X0_rowsMeeting_m (l : Launch) (D : va_G) (cy : Nat → ClassId) (Ad : Nat → Nat) (n mm : Nat) (C : pw_C) (hI : pw_I Ad (shX n)) (hn : 1 ≤ n ∧ n ≤ 12) (hF : fX n mm Ad C) (nx : Nat → Nat → Nat) (hN : gN n nx C) (len : Nat) (hle : len ≤ 5) : Met l yX0_rowsMeeting wsX0_rowsMeeting (k2_rm 2 82) (pw_Pre ([.ref (Ad 1), .int (nI len), .int (-1)]) D cy Ad (shX n) C) (pw_Post (fun r9 C' => r9 = some (.int (apF (rws nx n len) (2 ^ n - 1))) ∧ (pw_B (fun k => k = 8 ∨ k = 9) C C')) D cy Ad (shX n)) 0 0 (pw_fr Ad (shX n)) := by
  refine Met.ofW (cc := cX0_rowsMeeting) (maxL := 5) (ret := (some .int)) (by decide) rfl ?_
  intro p e s m args below meth c s₁ B hml hv
  obtain ⟨rfl, hP, hK⟩ := hv
  have hx := B.exec
  have hb := B.bytes
  have hr := B.returns
  have hts := atoms_spec (ws := wsX0_rowsMeeting) B.pre
  have hown : s.vm.findClass RX0 = some m.cls := findClass_of_methodNamed B.named
  have hlocks := B.notSynchronized
  have S : CallFix p m c cX0_rowsMeeting 5 s ([.ref (Ad 1), .int (nI len), .int (-1)]).toArray wsX0_rowsMeeting RX0 := ⟨hx, hb, hml, hown, hts⟩
  change W p l e (k2_rm 2 82) s m _ below meth c s.heap [] 0 0 _ _
  have hl := lv_entry ([.ref (Ad 1), .int (nI len), .int (-1)]) (n := 5) (Nat.le_of_ble_eq_true rfl)
  rw [lg_entry_eq]
  generalize (lg_sl ([.ref (Ad 1), .int (nI len), .int (-1)]) ++ List.replicate (5 - (lg_sl ([.ref (Ad 1), .int (nI len), .int (-1)])).length) Slot.unset).toArray = ls at hl ⊢
  have hl : lv_has ls 5 [(0, .ref (Ad 1)), (1, .int (nI len)), (2, .int (-1))] := hl
  have hS : va_S (pw_fr Ad (shX n)) s.heap s.heap [] := va_S.rf
  have hpw := pow12 hn.2
  have hpp : 1 ≤ 2 ^ n := Nat.pow_pos (by decide)
  refine lv_aload_n hx hb dX0_rowsMeeting_0 rfl (lv_at hl 0 rfl) ?_
  refine pw_get hx hb hts (fun _ h9 => List.mem_cons_of_mem _ (List.mem_append_right _ h9)) hown hK hP 1 rfl rfl 4 (by decide) hF.2.1 rfl (hts (.fieldLink RX0 27 "PastDraws$Chain" "rowsTo" "[I") (List.mem_of_getElem? (i := 1) rfl)) dX0_rowsMeeting_1 ?_
  refine lv_iconst (v := nI 0) hx hb dX0_rowsMeeting_4 (by decide) ?_
  refine pw_csW S hK hP 2 (c_J7_fill_53178 l D cy Ad (shX n) C hI 8 (2 ^ n) 0 rfl (by omega) (nI 0)) gX0_rowsMeeting_J7_fill_53178 rfl rfl rfl (by decide +kernel) ⟨Nat.le_of_ble_eq_true rfl, Nat.le_of_ble_eq_true rfl⟩ rfl hl.1 rfl (Nat.le_of_ble_eq_true rfl) dX0_rowsMeeting_5 ⟨Nat.le_refl _, Nat.le_refl _⟩ hS (fun _ h9 => h9) (fun r9 C5 H locs hR hP _ _ hS => ?_)
  obtain ⟨rfl, hR⟩ := hR
  change W p l e _ s m _ below meth c H locs 0 0 _ (F0 m 8 ls [])
  have hB : pw_B (fun k => k = 8 ∨ k = 9) C C5 := hR.1.mono (fun k9 h9 => Or.inl h9)
  have hF0 := hF
  have hF := fX_B hF0 hB
  refine lv_aload_n hx hb dX0_rowsMeeting_8 rfl (lv_at hl 0 rfl) ?_
  refine pw_get hx hb hts (fun _ h9 => List.mem_cons_of_mem _ (List.mem_append_right _ h9)) hown hK hP 1 rfl rfl 4 (by decide) hF.2.1 rfl (hts (.fieldLink RX0 27 "PastDraws$Chain" "rowsTo" "[I") (List.mem_of_getElem? (i := 1) rfl)) dX0_rowsMeeting_9 ?_
  refine lv_aload_n hx hb dX0_rowsMeeting_12 rfl (lv_at hl 0 rfl) ?_
  refine pw_cv S hK hP 1 0 rfl rfl 0 (c_X0_allStates l D cy Ad n mm C5 hn hF ) gX0_rowsMeeting_X0_allStates rfl rfl rfl (by decide +kernel) ⟨Nat.le_of_ble_eq_true rfl, Nat.le_of_ble_eq_true rfl⟩ rfl hl.1 rfl (Nat.le_of_ble_eq_true rfl) dX0_rowsMeeting_13 ⟨Nat.le_refl _, Nat.le_refl _⟩ ?_
  refine lv_iconst (v := nI 1) hx hb dX0_rowsMeeting_16 (by decide) ?_
  refine pw_iast hx hb hK hP hI hS 8 rfl (by omega) (by first | decide | omega) dX0_rowsMeeting_17 (fun H locs hP hS => ?_)
  obtain ⟨C17, hC17⟩ : ∃ z9, z9 = pw_setI C5 8 (2 ^ n - 1) (nI 1) := ⟨_, rfl⟩
  rw [← hC17] at hP
  have hB := by have hB9 := hB; exact (show pw_B (fun k => k = 8 ∨ k = 9) C C17 by rw [hC17]; exact hB9.setI (by show 8 = 8 ∨ 8 = 9; first | trivial | omega))
  refine lv_iconst (v := nI 0) hx hb dX0_rowsMeeting_18 (by decide) ?_
  refine lv_istore_n (lv' := [(3, .int (nI 0)), (0, .ref (Ad 1)), (1, .int (nI len)), (2, .int (-1))]) hx hb dX0_rowsMeeting_19 rfl hl (by decide) rfl (fun ls hl => ?_)
  refine L_rowsMeeting S hK hI hF0 hn hN len hle (-1) (fun C1 H locs ls hP hS hR hl => ?_) 6 C17 H locs 0 ls (by omega) hP hS hB (by omega) (fun z hz => by
    rw [hC17, si_at]
    show _ = if z = 2 ^ n - 1 then _ else _
    by_cases q : z = 2 ^ n - 1
    · rw [if_pos q, if_pos q]; rfl
    · rw [if_neg q, if_neg q]; exact hR.2 z hz) (lv_sub hl [0, 1, 3, 2] rfl)
  obtain ⟨hB, hv⟩ := hR
  have hF := fX_B hF0 hB
  refine lv_iload_n hx hb dX0_rowsMeeting_35 rfl (lv_at hl 1 rfl) ?_
  refine lv_if_lt (tgt := 48) hx hb dX0_rowsMeeting_36 (by decide) (fun c_36 => ?_) (fun c_36 => absurd (by decide) c_36)
  refine lv_iconst (v := nI 0) hx hb dX0_rowsMeeting_48 (by decide) ?_
  refine lv_istore_n (lv' := [(3, .int (nI 0)), (0, .ref (Ad 1)), (2, .int (-1))]) hx hb dX0_rowsMeeting_49 rfl hl (by decide) rfl (fun ls hl => ?_)
  refine lv_iconst (v := nI 1) hx hb dX0_rowsMeeting_50 (by decide) ?_
  refine lv_istore (lv' := [(4, .int (nI 1)), (3, .int (nI 0)), (0, .ref (Ad 1)), (2, .int (-1))]) hx hb dX0_rowsMeeting_51 hl (by decide) rfl (fun ls hl => ?_)
  exact L_rowsMeeting_b S hK hP hF hn (rws nx n len) hv (fun pc9 ls hd9 => W.iret hx hb hr (fun t ht _ => ⟨⟨_, C1, rfl, ⟨rfl, hB⟩, by rw [ht]; exact hP⟩, hS.F ht⟩) hS.2.2 hd9) (2 ^ n + 1) 0 ls (by omega) (by omega) (lv_sub hl [0, 1, 2] rfl)
end
section
theorem iw_lt {x r n : Nat} (hx : x < n) (hr : r < n) (h : ¬ x = r) : iw x r < n - 1 := by
  unfold iw; split <;> omega
theorem iw_inj {x y r : Nat} (hx : ¬ x = r) (hy : ¬ y = r) (h : iw x r = iw y r) : x = y := by
  unfold iw at h; split at h <;> split at h <;> omega
def frF (nx : Nat → Nat → Nat) (x r : Nat) : Nat → Nat → Int64
  | 0 => fun _ => 0
  | u + 1 => fun j =>
    (if nx u x = x then frF nx x r u j else if nx u x = r then (if j = iw x r then frF nx x r u j + 1 else frF nx x r u j)
     else (if j = iw (nx u x) r then (if j = iw x r then frF nx x r u j + 1 else frF nx x r u j) - 1 else (if j = iw x r then frF nx x r u j + 1 else frF nx x r u j)))
/-- a step of the elimination, up to row i and column j -/
def el2 (z k : Nat) (M : Nat → Nat → Int64) (dv : Int64) (i j a b : Nat) : Int64 := if k < a ∧ k < b ∧ a < z ∧ b < z ∧ (a < i ∨ (a = i ∧ b < j)) then (M a b * M k k - M a k * M k b) / dv else M a b
def elim (z k : Nat) (M : Nat → Nat → Int64) (dv : Int64) (a b : Nat) : Int64 := if k < a ∧ k < b ∧ a < z ∧ b < z then (M a b * M k k - M a k * M k b) / dv else M a b
def detF (z : Nat) : Nat → Nat → (Nat → Nat → Int64) → Int64 → Int64
  | 0, _, _, pv => pv
  | f + 1, k, M, pv => if M k k = 0 then 0 else detF z f (k + 1) (elim z k M pv) (M k k)
theorem elim_congr {z k : Nat} {M M' : Nat → Nat → Int64} {dv : Int64} (hk : k < z) (h : ∀ a b, a < z → b < z → M a b = M' a b) : ∀ a b, a < z → b < z → elim z k M dv a b = elim z k M' dv a b := by
  intro a b ha hb
  unfold elim
  rw [h a b ha hb, h k k hk hk, h a k ha hk, h k b hk hb]
theorem detF_congr {z : Nat} : ∀ (f k : Nat) (M M' : Nat → Nat → Int64) (dv : Int64), k + f = z → (∀ a b, a < z → b < z → M a b = M' a b) → detF z f k M dv = detF z f k M' dv := by
  intro f
  induction f with
  | zero => intro k M M' dv _ _; rfl
  | succ f ih =>
    intro k M M' dv hk h
    unfold detF
    rw [h k k (by omega) (by omega), ih (k + 1) (elim z k M dv) (elim z k M' dv) _ (by omega) (elim_congr (by omega) h)]
/-- the matrix whose minor counts the trees -/
def tmx (nx : Nat → Nat → Nat) (r a b : Nat) : Int64 := frF nx (if a < r then a else a + 1) r 8 b
def trF (nx : Nat → Nat → Nat) (n r : Nat) : Int64 := detF (n - 1) (n - 1) 0 (tmx nx r) 1
def trS (nx : Nat → Nat → Nat) (n : Nat) : Nat → Int64
  | 0 => 0
  | k + 1 => trS nx n k + trF nx n k

set_option maxHeartbeats 4000000 in
set_option maxRecDepth 100000 in
theorem L_fillMinorRow {p : Program} {l : Launch} {e : Env} {s : State} {m : MethodId} {args : Array Value} {below : List Frame} {meth : Method} {c : Code} {Q : State → Prop} (S : CallFix p m c cX0_fillMinorRow 7 s args wsX0_fillMinorRow RX0) {D : va_G} {cy : Nat → ClassId} {Ad : Nat → Nat} {n mm : Nat} {C0 : pw_C} (hK : pw_K D cy s) (hI : pw_I Ad (shX n)) (hF0 : fX n mm Ad C0) (hn : 1 ≤ n ∧ n ≤ 12) {nx : Nat → Nat → Nat} (hN0 : gN n nx C0) (x r : Nat) (hx0 : x < n) (hr0 : r < n) (hne : ¬ x = r) (hq : ∀ (pc9 : Nat) (C : pw_C) (H : Heap) (locs : List Loc) (ls : Array Slot), decode cX0_fillMinorRow pc9 = .ok (.return_, 1) → pw_P D cy Ad (shX n) C H → va_S (pw_fr Ad (shX n)) s.heap H locs → (pw_B (fun k => k = 29 + iw x r) C0 C ∧ ∀ j, j < n → C.2.1 (29 + iw x r) j = frF nx x r 8 j) → W p l e (k2_rm 1 24) s m args below meth c H locs 0 0 Q (F0 m pc9 ls [])) : ∀ (f : Nat) (C : pw_C) (H : Heap) (locs : List Loc) (u : Nat) (ls : Array Slot), 8 - u < f → (pw_P D cy Ad (shX n) C H) → (va_S (pw_fr Ad (shX n)) s.heap H locs) → (pw_B (fun k => k = 29 + iw x r) C0 C) → (u ≤ 8) → (∀ j, j < n → C.2.1 (29 + iw x r) j = frF nx x r u j) → lv_has ls 7 [(5, .int (nI u)), (0, .ref (Ad 1)), (1, .int (nI x)), (2, .int (nI r)), (3, .int (nI (iw x r))), (4, .ref (Ad (29 + iw x r)))] → W p l e (k2_rm 1 24) s m args below meth c H locs 0 0 Q (F0 m 23 ls []) := by
  have hx := S.1
  have hb := S.2.1
  have hml := S.2.2.1
  have hown := S.2.2.2.1
  have hts := S.2.2.2.2
  intro f
  induction f with
  | zero => intro C H locs u ls hf; exact absurd hf (Nat.not_lt_zero _)
  | succ f ih =>
    intro C H locs u ls hf hP hS hB hu0 hv hl
    have hF := fX_B hF0 hB
    have hN := gN_B hN0 hB (fun u9 hu9 h9 => by have h8 : 21 + u9 = 29 + iw x r := h9; omega)
    have hiw := iw_lt hx0 hr0 hne
    refine lv_iload hx hb dX0_fillMinorRow_23 (lv_at hl 0 rfl) ?_
    refine lv_bipush (v := nI 8) hx hb dX0_fillMinorRow_25 (by decide) ?_
    refine pn_icmp_ge (tgt := 86) hx hb (by omega) (by omega) dX0_fillMinorRow_27 (by decide) (fun c_27 => ?_) (fun c_27 => ?_)
    · obtain rfl : u = 8 := by omega
      exact hq _ C H locs ls dX0_fillMinorRow_86 hP hS ⟨hB, hv⟩
    · refine lv_aload_n hx hb dX0_fillMinorRow_30 rfl (lv_at hl 1 rfl) ?_
      refine pw_get hx hb hts (fun _ h9 => List.mem_cons_of_mem _ (List.mem_append_right _ h9)) hown hK hP 1 rfl rfl 1 (by decide) hF.2.1 rfl (hts (.fieldLink RX0 17 "PastDraws$Chain" "next" "[[I") (List.mem_of_getElem? (i := 2) rfl)) dX0_fillMinorRow_31 ?_
      refine lv_iload hx hb dX0_fillMinorRow_34 (lv_at hl 0 rfl) ?_
      refine pw_aald4 hx hb hK hP 5 rfl (by first | exact sgn_lt _ _ | omega) (by decide) dX0_fillMinorRow_36 ?_
      refine lv_iload_n hx hb dX0_fillMinorRow_37 rfl (lv_at hl 2 rfl) ?_
      have hu_38 : u < 8 := (by omega)
      have hx_38 : x < n := (by first | exact sgn_lt _ _ | omega)
      have q_38 : nx u x < n := (hN _ hu_38 _ hx_38).1
      refine pw_iald hx hb hK hP (21 + u) (shX_nx hu_38) hx_38 (by omega) (hN _ hu_38 _ hx_38).2 dX0_fillMinorRow_38 ?_
      refine lv_istore (lv' := [(6, .int (nI (nx u x))), (5, .int (nI u)), (0, .ref (Ad 1)), (1, .int (nI x)), (2, .int (nI r)), (3, .int (nI (iw x r))), (4, .ref (Ad (29 + iw x r)))]) hx hb dX0_fillMinorRow_39 hl (by decide) rfl (fun ls hl => ?_)
      refine lv_iload hx hb dX0_fillMinorRow_41 (lv_at hl 0 rfl) ?_
      refine lv_iload_n hx hb dX0_fillMinorRow_43 rfl (lv_at hl 3 rfl) ?_
      refine pn_icmp_eq (tgt := 55) hx hb (by omega) (by omega) dX0_fillMinorRow_44 (by decide) (fun c_44 => ?_) (fun c_44 => ?_)
      · have hv : ∀ j, j < n → C.2.1 (29 + iw x r) j = frF nx x r (u + 1) j := fun j hj => by
          show _ = if nx u x = x then _ else _
          rw [if_pos c_44]; exact hv j hj
        refine lv_iload hx hb dX0_fillMinorRow_55 (lv_at hl 0 rfl) ?_
        refine lv_iload_n hx hb dX0_fillMinorRow_57 rfl (lv_at hl 3 rfl) ?_
        refine pn_icmp_eq (tgt := 80) hx hb (by omega) (by omega) dX0_fillMinorRow_58 (by decide) (fun c_58 => ?_) (fun c_58 => absurd c_44 c_58)
        refine lv_iinc (v := nI (u + 1)) (lv' := [(5, .int (nI (u + 1))), (6, .int (nI (nx u x))), (0, .ref (Ad 1)), (1, .int (nI x)), (2, .int (nI r)), (3, .int (nI (iw x r))), (4, .ref (Ad (29 + iw x r)))]) hx hb dX0_fillMinorRow_80 hl (k := 1) rfl (nI_add _ 1) (by decide) rfl (fun ls hl => ?_)
        refine lv_goto (tgt := 23) hx hb dX0_fillMinorRow_83 (by decide) ?_
        exact ih C H locs (u + 1) ls (by omega) hP hS hB (by omega) hv (lv_sub hl [0, 2, 3, 4, 5, 6] rfl)
      · refine lv_aload hx hb dX0_fillMinorRow_47 (lv_at hl 6 rfl) ?_
        refine lv_iload_n hx hb dX0_fillMinorRow_49 rfl (lv_at hl 5 rfl) ?_
        refine lv_dup2_11 hx hb dX0_fillMinorRow_50 rfl rfl ?_
        refine pw_lald hx hb hK hP (29 + (iw x r)) (shX_mi (by omega) (by omega)) (by omega) (by omega) (v := frF nx x r u (iw x r)) (hv _ (by omega)) dX0_fillMinorRow_51 ?_
        refine lv_lconst (v := 1) hx hb dX0_fillMinorRow_52 (by decide) ?_
        refine lv_ladd hx hb dX0_fillMinorRow_53 ?_
        refine pw_last hx hb hK hP hI hS (29 + iw x r) (shX_mi (by omega) (by omega)) (by omega) (by first | decide | omega) dX0_fillMinorRow_54 (fun H locs hP hS => ?_)
        obtain ⟨C54, hC54⟩ : ∃ z9, z9 = pw_setL C (29 + iw x r) (iw x r) ((frF nx x r u (iw x r)) + 1) := ⟨_, rfl⟩
        rw [← hC54] at hP
        have hB := by have hB9 := hB; exact (show pw_B (fun k => k = 29 + iw x r) C0 C54 by rw [hC54]; exact hB9.setL (by show (29 + iw x r) = 29 + iw x r; first | trivial | omega))
        have hF := fX_B hF0 hB
        have hN := gN_B hN0 hB (fun u9 hu9 h9 => by have h8 : 21 + u9 = 29 + iw x r := h9; omega)
        refine lv_iload hx hb dX0_fillMinorRow_55 (lv_at hl 0 rfl) ?_
        refine lv_iload_n hx hb dX0_fillMinorRow_57 rfl (lv_at hl 3 rfl) ?_
        refine pn_icmp_eq (tgt := 80) hx hb (by omega) (by omega) dX0_fillMinorRow_58 (by decide) (fun c_58 => absurd c_58 c_44) (fun c_58 => ?_)
        refine lv_iload hx hb dX0_fillMinorRow_61 (lv_at hl 0 rfl) ?_
        refine lv_iload_n hx hb dX0_fillMinorRow_63 rfl (lv_at hl 4 rfl) ?_
        refine pn_icmp_eq (tgt := 80) hx hb (by omega) (by omega) dX0_fillMinorRow_64 (by decide) (fun c_64 => ?_) (fun c_64 => ?_)
        · have hv : ∀ j, j < n → C54.2.1 (29 + iw x r) j = frF nx x r (u + 1) j := fun j hj => by
            show _ = if nx u x = x then _ else if nx u x = r then _ else _
            rw [if_neg c_44, if_pos c_64, hC54, sl_at]
            split <;> rename_i q
            · rw [q]
            · exact hv j hj
          refine lv_iinc (v := nI (u + 1)) (lv' := [(5, .int (nI (u + 1))), (6, .int (nI (nx u x))), (0, .ref (Ad 1)), (1, .int (nI x)), (2, .int (nI r)), (3, .int (nI (iw x r))), (4, .ref (Ad (29 + iw x r)))]) hx hb dX0_fillMinorRow_80 hl (k := 1) rfl (nI_add _ 1) (by decide) rfl (fun ls hl => ?_)
          refine lv_goto (tgt := 23) hx hb dX0_fillMinorRow_83 (by decide) ?_
          exact ih C54 H locs (u + 1) ls (by omega) hP hS hB (by omega) hv (lv_sub hl [0, 2, 3, 4, 5, 6] rfl)
        · have hto : iw (nx u x) r < n := Nat.lt_of_lt_of_le (iw_lt q_38 (by omega) c_64) (Nat.sub_le _ _)
          refine lv_aload hx hb dX0_fillMinorRow_67 (lv_at hl 6 rfl) ?_
          refine lv_iload hx hb dX0_fillMinorRow_69 (lv_at hl 0 rfl) ?_
          refine lv_iload_n hx hb dX0_fillMinorRow_71 rfl (lv_at hl 4 rfl) ?_
          refine pw_cs S 2 (c_X0_indexWithout l (nx u x) r (by omega) (by omega) (by assumption)) gX0_fillMinorRow_X0_indexWithout rfl rfl rfl (by decide +kernel) ⟨Nat.le_of_ble_eq_true rfl, Nat.le_of_ble_eq_true rfl⟩ rfl hl.1 rfl (Nat.le_of_ble_eq_true rfl) dX0_fillMinorRow_72 ⟨Nat.le_refl _, Nat.le_refl _⟩ ?_
          refine lv_dup2_11 hx hb dX0_fillMinorRow_75 rfl rfl ?_
          refine pw_lald hx hb hK hP (29 + (iw x r)) (shX_mi (by omega) (by omega)) hto (by omega) (v := (if iw (nx u x) r = iw x r then frF nx x r u (iw (nx u x) r) + 1 else frF nx x r u (iw (nx u x) r))) (by rw [hC54, sl_at]; split <;> rename_i q; exact congrArg (fun z => frF nx x r u z + 1) q.symm; exact hv _ hto) dX0_fillMinorRow_76 ?_
          refine lv_lconst (v := 1) hx hb dX0_fillMinorRow_77 (by decide) ?_
          refine lv_lsub hx hb dX0_fillMinorRow_78 ?_
          refine pw_last hx hb hK hP hI hS (29 + iw x r) (shX_mi (by omega) (by omega)) hto (by first | decide | omega) dX0_fillMinorRow_79 (fun H locs hP hS => ?_)
          obtain ⟨C79, hC79⟩ : ∃ z9, z9 = pw_setL C54 (29 + iw x r) (iw (nx u x) r) ((if iw (nx u x) r = iw x r then frF nx x r u (iw (nx u x) r) + 1 else frF nx x r u (iw (nx u x) r)) - 1) := ⟨_, rfl⟩
          rw [← hC79] at hP
          have hB := by have hB9 := hB; exact (show pw_B (fun k => k = 29 + iw x r) C0 C79 by rw [hC79]; exact hB9.setL (by show (29 + iw x r) = 29 + iw x r; first | trivial | omega))
          have hF := fX_B hF0 hB
          have hN := gN_B hN0 hB (fun u9 hu9 h9 => by have h8 : 21 + u9 = 29 + iw x r := h9; omega)
          refine lv_iinc (v := nI (u + 1)) (lv' := [(5, .int (nI (u + 1))), (6, .int (nI (nx u x))), (0, .ref (Ad 1)), (1, .int (nI x)), (2, .int (nI r)), (3, .int (nI (iw x r))), (4, .ref (Ad (29 + iw x r)))]) hx hb dX0_fillMinorRow_80 hl (k := 1) rfl (nI_add _ 1) (by decide) rfl (fun ls hl => ?_)
          refine lv_goto (tgt := 23) hx hb dX0_fillMinorRow_83 (by decide) ?_
          have hv : ∀ j, j < n → C79.2.1 (29 + iw x r) j = frF nx x r (u + 1) j := fun j hj => by
            show _ = if nx u x = x then _ else if nx u x = r then _ else _
            rw [if_neg c_44, if_neg c_64, hC79, sl_at]
            by_cases q : j = iw (nx u x) r
            · rw [if_pos q, if_pos q, q]
            · rw [if_neg q, if_neg q, hC54, sl_at]
              split <;> rename_i q2
              · rw [q2]
              · exact hv j hj
          exact ih C79 H locs (u + 1) ls (by omega) hP hS hB (by omega) hv (lv_sub hl [0, 2, 3, 4, 5, 6] rfl)

set_option maxHeartbeats 4000000 in
set_option maxRecDepth 100000 in
theorem c_X0_fillMinorRow (l : Launch) (D : va_G) (cy : Nat → ClassId) (Ad : Nat → Nat) (n mm : Nat) (C : pw_C) (hI : pw_I Ad (shX n)) (hn : 1 ≤ n ∧ n ≤ 12) (hF : fX n mm Ad C) (nx : Nat → Nat → Nat) (hN : gN n nx C) (x r : Nat) (hx0 : x < n) (hr0 : r < n) (hne : ¬ x = r) : Met l yX0_fillMinorRow wsX0_fillMinorRow (k2_rm 1 24) (pw_Pre ([.ref (Ad 1), .int (nI x), .int (nI r)]) D cy Ad (shX n) C) (pw_Post (fun r9 C' => r9 = none ∧ (pw_B (fun k => k = 29 + iw x r) C C' ∧ ∀ j, j < n → C'.2.1 (29 + iw x r) j = frF nx x r 8 j)) D cy Ad (shX n)) 0 0 (pw_fr Ad (shX n)) := by
  refine Met.ofW (cc := cX0_fillMinorRow) (maxL := 7) (ret := none) (by decide) rfl ?_
  intro p e s m args below meth c s₁ B hml hv
  obtain ⟨rfl, hP, hK⟩ := hv
  have hx := B.exec
  have hb := B.bytes
  have hr := B.returns
  have hts := atoms_spec (ws := wsX0_fillMinorRow) B.pre
  have hown : s.vm.findClass RX0 = some m.cls := findClass_of_methodNamed B.named
  have hlocks := B.notSynchronized
  have S : CallFix p m c cX0_fillMinorRow 7 s ([.ref (Ad 1), .int (nI x), .int (nI r)]).toArray wsX0_fillMinorRow RX0 := ⟨hx, hb, hml, hown, hts⟩
  change W p l e (k2_rm 1 24) s m _ below meth c s.heap [] 0 0 _ _
  have hl := lv_entry ([.ref (Ad 1), .int (nI x), .int (nI r)]) (n := 7) (Nat.le_of_ble_eq_true rfl)
  rw [lg_entry_eq]
  generalize (lg_sl ([.ref (Ad 1), .int (nI x), .int (nI r)]) ++ List.replicate (7 - (lg_sl ([.ref (Ad 1), .int (nI x), .int (nI r)])).length) Slot.unset).toArray = ls at hl ⊢
  have hl : lv_has ls 7 [(0, .ref (Ad 1)), (1, .int (nI x)), (2, .int (nI r))] := hl
  have hS : va_S (pw_fr Ad (shX n)) s.heap s.heap [] := va_S.rf
  have hiw := iw_lt hx0 hr0 hne
  refine lv_iload_n hx hb dX0_fillMinorRow_0 rfl (lv_at hl 1 rfl) ?_
  refine lv_iload_n hx hb dX0_fillMinorRow_1 rfl (lv_at hl 2 rfl) ?_
  refine pw_cs S 2 (c_X0_indexWithout l x r (by omega) (by omega) (by assumption)) gX0_fillMinorRow_X0_indexWithout rfl rfl rfl (by decide +kernel) ⟨Nat.le_of_ble_eq_true rfl, Nat.le_of_ble_eq_true rfl⟩ rfl hl.1 rfl (Nat.le_of_ble_eq_true rfl) dX0_fillMinorRow_2 ⟨Nat.le_refl _, Nat.le_refl _⟩ ?_
  refine lv_istore_n (lv' := [(3, .int (nI (iw x r))), (0, .ref (Ad 1)), (1, .int (nI x)), (2, .int (nI r))]) hx hb dX0_fillMinorRow_5 rfl hl (by decide) rfl (fun ls hl => ?_)
  refine lv_aload_n hx hb dX0_fillMinorRow_6 rfl (lv_at hl 1 rfl) ?_
  refine pw_get hx hb hts (fun _ h9 => List.mem_cons_of_mem _ (List.mem_append_right _ h9)) hown hK hP 1 rfl rfl 6 (by decide) hF.2.1 rfl (hts (.fieldLink RX0 35 "PastDraws$Chain" "minor" "[[J") (List.mem_of_getElem? (i := 1) rfl)) dX0_fillMinorRow_7 ?_
  refine lv_iload_n hx hb dX0_fillMinorRow_10 rfl (lv_at hl 0 rfl) ?_
  refine pw_aald5 hx hb hK hP 10 rfl (by omega) (by omega) dX0_fillMinorRow_11 ?_
  refine lv_astore (lv' := [(4, .ref (Ad (29 + (iw x r)))), (3, .int (nI (iw x r))), (0, .ref (Ad 1)), (1, .int (nI x)), (2, .int (nI r))]) hx hb dX0_fillMinorRow_12 hl (by decide) rfl (fun ls hl => ?_)
  refine lv_aload hx hb dX0_fillMinorRow_14 (lv_at hl 0 rfl) ?_
  refine lv_lconst (v := 0) hx hb dX0_fillMinorRow_16 (by decide) ?_
  refine pw_csW S hK hP 2 (c_J7_fill_d0a16 l D cy Ad (shX n) C hI (29 + iw x r) n 0 (shX_mi (by omega) hn.2) (by omega) 0) gX0_fillMinorRow_J7_fill_d0a16 rfl rfl rfl (by decide +kernel) ⟨Nat.le_of_ble_eq_true rfl, Nat.le_of_ble_eq_true rfl⟩ rfl hl.1 rfl (Nat.le_of_ble_eq_true rfl) dX0_fillMinorRow_17 ⟨Nat.le_refl _, Nat.le_refl _⟩ hS (fun _ h9 => h9) (fun r9 C17 H locs hR hP _ _ hS => ?_)
  obtain ⟨rfl, hR⟩ := hR
  change W p l e _ s m _ below meth c H locs 0 0 _ (F0 m 20 ls [])
  have hB : pw_B (fun k => k = 29 + iw x r) C C17 := hR.1
  refine lv_iconst (v := nI 0) hx hb dX0_fillMinorRow_20 (by decide) ?_
  refine lv_istore (lv' := [(5, .int (nI 0)), (4, .ref (Ad (29 + (iw x r)))), (3, .int (nI (iw x r))), (0, .ref (Ad 1)), (1, .int (nI x)), (2, .int (nI r))]) hx hb dX0_fillMinorRow_21 hl (by decide) rfl (fun ls hl => ?_)
  exact L_fillMinorRow S hK hI hF hn hN x r hx0 hr0 hne (fun pc9 C9 H9 locs9 ls9 hd9 hP9 hS9 hR9 => W.vret hx hb hr (fun t ht _ => ⟨⟨none, C9, rfl, ⟨rfl, hR9⟩, by rw [ht]; exact hP9⟩, hS9.F ht⟩) hS9.2.2 hd9) 9 C17 H locs 0 ls (by omega) hP hS hB (by omega) (fun j hj => hR.2 j hj) (lv_sub hl [0, 3, 4, 5, 2, 1] rfl)

set_option maxHeartbeats 4000000 in
set_option maxRecDepth 100000 in
theorem L_determinant_c {p : Program} {l : Launch} {e : Env} {s : State} {m : MethodId} {args : Array Value} {below : List Frame} {meth : Method} {c : Code} {Q : State → Prop} (S : CallFix p m c cX0_determinant 11 s args wsX0_determinant RX0) {D : va_G} {cy : Nat → ClassId} {Ad : Nat → Nat} {n mm : Nat} {C0 : pw_C} (hK : pw_K D cy s) (hI : pw_I Ad (shX n)) (hF0 : fX n mm Ad C0) (hn : 1 ≤ n ∧ n ≤ 12) (z k : Nat) (hz : z ≤ n) (hkz : k < z) (M : Nat → Nat → Int64) (dv : Int64) (hdv : ¬ dv = 0) (i : Nat) (hik : k < i) (hiz : i < z) (hk : ∀ (C : pw_C) (H : Heap) (locs : List Loc) (ls : Array Slot), pw_P D cy Ad (shX n) C H → va_S (pw_fr Ad (shX n)) s.heap H locs → (pw_B (fun k => 29 ≤ k ∧ k < 41) C0 C ∧ ∀ a b, a < n → b < n → C.2.1 (29 + a) b = el2 z k M dv i z a b) → lv_has ls 11 [(7, .int (nI i)), (0, .ref (Ad 1)), (1, .int (nI z)), (2, .long (M k k)), (4, .int (nI k)), (5, .long dv)] → W p l e (k2_rm 0 0) s m args below meth c H locs 0 0 Q (F0 m 114 ls [])) : ∀ (f : Nat) (C : pw_C) (H : Heap) (locs : List Loc) (j : Nat) (ls : Array Slot), z - j < f → (pw_P D cy Ad (shX n) C H) → (va_S (pw_fr Ad (shX n)) s.heap H locs) → (pw_B (fun k => 29 ≤ k ∧ k < 41) C0 C) → (k < j) → (j ≤ z) → (∀ a b, a < n → b < n → C.2.1 (29 + a) b = el2 z k M dv i j a b) → lv_has ls 11 [(8, .int (nI j)), (7, .int (nI i)), (0, .ref (Ad 1)), (1, .int (nI z)), (2, .long (M k k)), (4, .int (nI k)), (5, .long dv)] → W p l e (k2_rm 0 0) s m args below meth c H locs 0 0 Q (F0 m 51 ls []) := by
  have hx := S.1
  have hb := S.2.1
  have hml := S.2.2.1
  have hown := S.2.2.2.1
  have hts := S.2.2.2.2
  intro f
  induction f with
  | zero => intro C H locs j ls hf; exact absurd hf (Nat.not_lt_zero _)
  | succ f ih =>
    intro C H locs j ls hf hP hS hB hjk hjz hv hl
    have hF := fX_B hF0 hB
    refine lv_iload hx hb dX0_determinant_51 (lv_at hl 0 rfl) ?_
    refine lv_iload_n hx hb dX0_determinant_53 rfl (lv_at hl 3 rfl) ?_
    refine pn_icmp_ge (tgt := 114) hx hb (by omega) (by omega) dX0_determinant_54 (by decide) (fun c_54 => ?_) (fun c_54 => ?_)
    · obtain rfl : j = z := by omega
      exact hk C H locs ls hP hS ⟨hB, hv⟩ (lv_sub hl [1, 2, 3, 4, 5, 6] rfl)
    · refine lv_aload_n hx hb dX0_determinant_57 rfl (lv_at hl 2 rfl) ?_
      refine pw_get hx hb hts (fun _ h9 => List.mem_cons_of_mem _ (List.mem_append_right _ h9)) hown hK hP 1 rfl rfl 6 (by decide) hF.2.1 rfl (hts (.fieldLink RX0 35 "PastDraws$Chain" "minor" "[[J") (List.mem_of_getElem? (i := 1) rfl)) dX0_determinant_58 ?_
      refine lv_iload hx hb dX0_determinant_61 (lv_at hl 1 rfl) ?_
      refine pw_aald5 hx hb hK hP 10 rfl (by first | exact sgn_lt _ _ | omega) (by omega) dX0_determinant_63 ?_
      refine lv_iload hx hb dX0_determinant_64 (lv_at hl 0 rfl) ?_
      refine pw_lald hx hb hK hP (29 + i) (shX_mi (by first | exact sgn_lt _ _ | omega) (by omega)) (by first | exact sgn_lt _ _ | omega) (by omega) (v := M i j) (by rw [hv _ _ (by omega) (by omega)]; unfold el2; rw [if_neg (by omega)]) dX0_determinant_66 ?_
      refine lv_lload_n hx hb dX0_determinant_67 rfl (lv_at hl 4 rfl) ?_
      refine lv_lmul hx hb dX0_determinant_68 ?_
      refine lv_aload_n hx hb dX0_determinant_69 rfl (lv_at hl 2 rfl) ?_
      refine pw_get hx hb hts (fun _ h9 => List.mem_cons_of_mem _ (List.mem_append_right _ h9)) hown hK hP 1 rfl rfl 6 (by decide) hF.2.1 rfl (hts (.fieldLink RX0 35 "PastDraws$Chain" "minor" "[[J") (List.mem_of_getElem? (i := 1) rfl)) dX0_determinant_70 ?_
      refine lv_iload hx hb dX0_determinant_73 (lv_at hl 1 rfl) ?_
      refine pw_aald5 hx hb hK hP 10 rfl (by first | exact sgn_lt _ _ | omega) (by omega) dX0_determinant_75 ?_
      refine lv_iload hx hb dX0_determinant_76 (lv_at hl 5 rfl) ?_
      refine pw_lald hx hb hK hP (29 + i) (shX_mi (by first | exact sgn_lt _ _ | omega) (by omega)) (by first | exact sgn_lt _ _ | omega) (by omega) (v := M i k) (by rw [hv _ _ (by omega) (by omega)]; unfold el2; rw [if_neg (by omega)]) dX0_determinant_78 ?_
      refine lv_aload_n hx hb dX0_determinant_79 rfl (lv_at hl 2 rfl) ?_
      refine pw_get hx hb hts (fun _ h9 => List.mem_cons_of_mem _ (List.mem_append_right _ h9)) hown hK hP 1 rfl rfl 6 (by decide) hF.2.1 rfl (hts (.fieldLink RX0 35 "PastDraws$Chain" "minor" "[[J") (List.mem_of_getElem? (i := 1) rfl)) dX0_determinant_80 ?_
      refine lv_iload hx hb dX0_determinant_83 (lv_at hl 5 rfl) ?_
      refine pw_aald5 hx hb hK hP 10 rfl (by first | exact sgn_lt _ _ | omega) (by omega) dX0_determinant_85 ?_
      refine lv_iload hx hb dX0_determinant_86 (lv_at hl 0 rfl) ?_
      refine pw_lald hx hb hK hP (29 + k) (shX_mi (by first | exact sgn_lt _ _ | omega) (by omega)) (by first | exact sgn_lt _ _ | omega) (by omega) (v := M k j) (by rw [hv _ _ (by omega) (by omega)]; unfold el2; rw [if_neg (by omega)]) dX0_determinant_88 ?_
      refine lv_lmul hx hb dX0_determinant_89 ?_
      refine lv_lsub hx hb dX0_determinant_90 ?_
      refine lv_topl (fun x9_91 ex9_91 => ?_)
      refine lv_lstore (lv' := [(9, .long x9_91), (8, .int (nI j)), (7, .int (nI i)), (0, .ref (Ad 1)), (1, .int (nI z)), (2, .long (M k k)), (4, .int (nI k)), (5, .long dv)]) hx hb dX0_determinant_91 hl (by decide) rfl (fun ls hl => ?_)
      refine lv_aload_n hx hb dX0_determinant_93 rfl (lv_at hl 3 rfl) ?_
      refine pw_get hx hb hts (fun _ h9 => List.mem_cons_of_mem _ (List.mem_append_right _ h9)) hown hK hP 1 rfl rfl 6 (by decide) hF.2.1 rfl (hts (.fieldLink RX0 35 "PastDraws$Chain" "minor" "[[J") (List.mem_of_getElem? (i := 1) rfl)) dX0_determinant_94 ?_
      refine lv_iload hx hb dX0_determinant_97 (lv_at hl 2 rfl) ?_
      refine pw_aald5 hx hb hK hP 10 rfl (by first | exact sgn_lt _ _ | omega) (by omega) dX0_determinant_99 ?_
      refine lv_iload hx hb dX0_determinant_100 (lv_at hl 1 rfl) ?_
      refine lv_lload hx hb dX0_determinant_102 (lv_at hl 0 rfl) ?_
      refine lv_lload hx hb dX0_determinant_104 (lv_at hl 7 rfl) ?_
      refine lv_ldiv hx hb dX0_determinant_106 hdv ?_
      refine pw_last hx hb hK hP hI hS (29 + i) (shX_mi (by first | exact sgn_lt _ _ | omega) (by omega)) (by first | exact sgn_lt _ _ | omega) (by first | decide | omega) dX0_determinant_107 (fun H locs hP hS => ?_)
      obtain ⟨C107, hC107⟩ : ∃ z9, z9 = pw_setL C (29 + i) j (x9_91 / dv) := ⟨_, rfl⟩
      rw [← hC107] at hP
      have hB := by have hB9 := hB; exact (show pw_B (fun k => 29 ≤ k ∧ k < 41) C0 C107 by rw [hC107]; exact hB9.setL (by show 29 ≤ (29 + i) ∧ (29 + i) < 41; first | trivial | omega))
      have hF := fX_B hF0 hB
      refine lv_iinc (v := nI (j + 1)) (lv' := [(8, .int (nI (j + 1))), (9, .long x9_91), (7, .int (nI i)), (0, .ref (Ad 1)), (1, .int (nI z)), (2, .long (M k k)), (4, .int (nI k)), (5, .long dv)]) hx hb dX0_determinant_108 hl (k := 1) rfl (nI_add _ 1) (by decide) rfl (fun ls hl => ?_)
      refine lv_goto (tgt := 51) hx hb dX0_determinant_111 (by decide) ?_
      exact ih C107 H locs (j + 1) ls (by omega) hP hS hB (by omega) (by omega) (fun a b ha hb9 => by
        rw [hC107]
        by_cases qa : a = i
        · subst qa
          rw [sl_at]
          by_cases qb : b = j
          · subst qb
            rw [if_pos rfl, ex9_91]
            unfold el2
            rw [if_pos (by omega)]
          · rw [if_neg qb, hv _ _ ha hb9]
            unfold el2
            by_cases q : k < b ∧ b < j
            · rw [if_pos (by omega), if_pos (by omega)]
            · rw [if_neg (by omega), if_neg (by omega)]
        · rw [sl_ne (by omega), hv _ _ ha hb9]
          unfold el2
          by_cases q : k < a ∧ k < b ∧ a < z ∧ b < z ∧ a < i
          · rw [if_pos (by omega), if_pos (by omega)]
          · rw [if_neg (by omega), if_neg (by omega)]) (lv_sub hl [0, 2, 3, 4, 5, 6, 7] rfl)

set_option maxHeartbeats 4000000 in
set_option maxRecDepth 100000 in
theorem L_determinant_r {p : Program} {l : Launch} {e : Env} {s : State} {m : MethodId} {args : Array Value} {below : List Frame} {meth : Method} {c : Code} {Q : State → Prop} (S : CallFix p m c cX0_determinant 11 s args wsX0_determinant RX0) {D : va_G} {cy : Nat → ClassId} {Ad : Nat → Nat} {n mm : Nat} {C0 : pw_C} (hK : pw_K D cy s) (hI : pw_I Ad (shX n)) (hF0 : fX n mm Ad C0) (hn : 1 ≤ n ∧ n ≤ 12) (z k : Nat) (hz : z ≤ n) (hkz : k < z) (M : Nat → Nat → Int64) (dv : Int64) (hdv : ¬ dv = 0) (hk : ∀ (C : pw_C) (H : Heap) (locs : List Loc) (ls : Array Slot), pw_P D cy Ad (shX n) C H → va_S (pw_fr Ad (shX n)) s.heap H locs → (pw_B (fun k => 29 ≤ k ∧ k < 41) C0 C ∧ ∀ a b, a < n → b < n → C.2.1 (29 + a) b = elim z k M dv a b) → lv_has ls 11 [(0, .ref (Ad 1)), (1, .int (nI z)), (2, .long (M k k)), (4, .int (nI k))] → W p l e (k2_rm 0 0) s m args below meth c H locs 0 0 Q (F0 m 120 ls [])) : ∀ (f : Nat) (C : pw_C) (H : Heap) (locs : List Loc) (i : Nat) (ls : Array Slot), z - i < f → (pw_P D cy Ad (shX n) C H) → (va_S (pw_fr Ad (shX n)) s.heap H locs) → (pw_B (fun k => 29 ≤ k ∧ k < 41) C0 C) → (k < i) → (i ≤ z) → (∀ a b, a < n → b < n → C.2.1 (29 + a) b = el2 z k M dv i 0 a b) → lv_has ls 11 [(7, .int (nI i)), (0, .ref (Ad 1)), (1, .int (nI z)), (2, .long (M k k)), (4, .int (nI k)), (5, .long dv)] → W p l e (k2_rm 0 0) s m args below meth c H locs 0 0 Q (F0 m 39 ls []) := by
  have hx := S.1
  have hb := S.2.1
  have hml := S.2.2.1
  have hown := S.2.2.2.1
  have hts := S.2.2.2.2
  intro f
  induction f with
  | zero => intro C H locs i ls hf; exact absurd hf (Nat.not_lt_zero _)
  | succ f ih =>
    intro C H locs i ls hf hP hS hB hik hiz hv hl
    refine lv_iload hx hb dX0_determinant_39 (lv_at hl 0 rfl) ?_
    refine lv_iload_n hx hb dX0_determinant_41 rfl (lv_at hl 2 rfl) ?_
    refine pn_icmp_ge (tgt := 120) hx hb (by omega) (by omega) dX0_determinant_42 (by decide) (fun c_42 => ?_) (fun c_42 => ?_)
    · obtain rfl : i = z := by omega
      exact hk C H locs ls hP hS ⟨hB, fun a b ha hb9 => by
        rw [hv _ _ ha hb9]
        unfold el2 elim
        by_cases q : k < a ∧ k < b ∧ a < i ∧ b < i
        · rw [if_pos (by omega), if_pos q]
        · rw [if_neg (by omega), if_neg q]⟩ (lv_sub hl [1, 2, 3, 4] rfl)
    · refine lv_iload hx hb dX0_determinant_45 (lv_at hl 4 rfl) ?_
      refine lv_iconst (v := nI 1) hx hb dX0_determinant_47 (by decide) ?_
      refine lv_iadd hx hb dX0_determinant_48 ?_
      refine pw_topi (nI_add _ _) ?_
      refine lv_istore (lv' := [(8, .int (nI (k + 1))), (7, .int (nI i)), (0, .ref (Ad 1)), (1, .int (nI z)), (2, .long (M k k)), (4, .int (nI k)), (5, .long dv)]) hx hb dX0_determinant_49 hl (by decide) rfl (fun ls hl => ?_)
      refine L_determinant_c S hK hI hF0 hn z k hz hkz M dv hdv i (by omega) (by omega) (fun C H locs ls hP hS hR hl => ?_) (z + 1) C H locs (k + 1) ls (by omega) hP hS hB (by omega) (by omega) (fun a b ha hb9 => by
        rw [hv _ _ ha hb9]
        unfold el2
        by_cases q : k < a ∧ k < b ∧ a < z ∧ b < z ∧ a < i
        · rw [if_pos (by omega), if_pos (by omega)]
        · rw [if_neg (by omega), if_neg (by omega)]) (lv_sub hl [0, 1, 2, 3, 4, 5, 6] rfl)
      obtain ⟨hB, hv⟩ := hR
      refine lv_iinc (v := nI (i + 1)) (lv' := [(7, .int (nI (i + 1))), (0, .ref (Ad 1)), (1, .int (nI z)), (2, .long (M k k)), (4, .int (nI k)), (5, .long dv)]) hx hb dX0_determinant_114 hl (k := 0) rfl (nI_add _ 1) (by decide) rfl (fun ls hl => ?_)
      refine lv_goto (tgt := 39) hx hb dX0_determinant_117 (by decide) ?_
      exact ih C H locs (i + 1) ls (by omega) hP hS hB (by omega) (by omega) (fun a b ha hb9 => by
        rw [hv _ _ ha hb9]
        unfold el2
        by_cases q : k < a ∧ k < b ∧ a < z ∧ b < z ∧ a < i + 1
        · rw [if_pos (by omega), if_pos (by omega)]
        · rw [if_neg (by omega), if_neg (by omega)]) (lv_sub hl [0, 1, 2, 3, 4, 5] rfl)

set_option maxHeartbeats 4000000 in
set_option maxRecDepth 100000 in
theorem L_determinant {p : Program} {l : Launch} {e : Env} {s : State} {m : MethodId} {args : Array Value} {below : List Frame} {meth : Method} {c : Code} {Q : State → Prop} (S : CallFix p m c cX0_determinant 11 s args wsX0_determinant RX0) {D : va_G} {cy : Nat → ClassId} {Ad : Nat → Nat} {n mm : Nat} {C0 : pw_C} (hK : pw_K D cy s) (hI : pw_I Ad (shX n)) (hF0 : fX n mm Ad C0) (hn : 1 ≤ n ∧ n ≤ 12) (z : Nat) (hz : z ≤ n) (r : Int64) (hq : ∀ (pc9 : Nat) (C : pw_C) (H : Heap) (locs : List Loc) (ls : Array Slot), decode cX0_determinant pc9 = .ok (.lreturn, 1) → pw_P D cy Ad (shX n) C H → va_S (pw_fr Ad (shX n)) s.heap H locs → (pw_B (fun k => 29 ≤ k ∧ k < 41) C0 C) → W p l e (k2_rm 0 0) s m args below meth c H locs 0 0 Q (F0 m pc9 ls [.long r])) : ∀ (f : Nat) (C : pw_C) (H : Heap) (locs : List Loc) (k : Nat) (M : Nat → Nat → Int64) (pv : Int64) (ls : Array Slot), z - k < f → (pw_P D cy Ad (shX n) C H) → (va_S (pw_fr Ad (shX n)) s.heap H locs) → (pw_B (fun k => 29 ≤ k ∧ k < 41) C0 C) → (k ≤ z) → (¬ pv = 0) → (∀ a b, a < n → b < n → C.2.1 (29 + a) b = M a b) → (detF z (z - k) k M pv = r) → lv_has ls 11 [(4, .int (nI k)), (0, .ref (Ad 1)), (1, .int (nI z)), (2, .long pv)] → W p l e (k2_rm 0 0) s m args below meth c H locs 0 0 Q (F0 m 5 ls []) := by
  have hx := S.1
  have hb := S.2.1
  have hml := S.2.2.1
  have hown := S.2.2.2.1
  have hts := S.2.2.2.2
  intro f
  induction f with
  | zero => intro C H locs k M pv ls hf; exact absurd hf (Nat.not_lt_zero _)
  | succ f ih =>
    intro C H locs k M pv ls hf hP hS hB hkz hpv hv hr0 hl
    have hF := fX_B hF0 hB
    refine lv_iload hx hb dX0_determinant_5 (lv_at hl 0 rfl) ?_
    refine lv_iload_n hx hb dX0_determinant_7 rfl (lv_at hl 2 rfl) ?_
    refine pn_icmp_ge (tgt := 126) hx hb (by omega) (by omega) dX0_determinant_8 (by decide) (fun c_8 => ?_) (fun c_8 => ?_)
    · have e9 : z - k = 0 := by omega
      rw [e9] at hr0
      refine lv_lload_n hx hb dX0_determinant_126 rfl (lv_at hl 3 rfl) ?_
      refine pw_topl (y := r) (by rw [← hr0]; try rfl) ?_
      exact hq _ C H locs ls dX0_determinant_127 hP hS hB
    · obtain ⟨y, hy⟩ : ∃ y, z - k = y + 1 := ⟨z - k - 1, by omega⟩
      rw [hy, detF] at hr0
      have hy2 : y = z - (k + 1) := by omega
      refine lv_lload_n hx hb dX0_determinant_11 rfl (lv_at hl 3 rfl) ?_
      refine lv_lstore (lv' := [(5, .long pv), (4, .int (nI k)), (0, .ref (Ad 1)), (1, .int (nI z)), (2, .long pv)]) hx hb dX0_determinant_12 hl (by decide) rfl (fun ls hl => ?_)
      refine lv_aload_n hx hb dX0_determinant_14 rfl (lv_at hl 2 rfl) ?_
      refine pw_get hx hb hts (fun _ h9 => List.mem_cons_of_mem _ (List.mem_append_right _ h9)) hown hK hP 1 rfl rfl 6 (by decide) hF.2.1 rfl (hts (.fieldLink RX0 35 "PastDraws$Chain" "minor" "[[J") (List.mem_of_getElem? (i := 1) rfl)) dX0_determinant_15 ?_
      refine lv_iload hx hb dX0_determinant_18 (lv_at hl 1 rfl) ?_
      refine pw_aald5 hx hb hK hP 10 rfl (by first | exact sgn_lt _ _ | omega) (by omega) dX0_determinant_20 ?_
      refine lv_iload hx hb dX0_determinant_21 (lv_at hl 1 rfl) ?_
      refine pw_lald hx hb hK hP (29 + k) (shX_mi (by first | exact sgn_lt _ _ | omega) (by omega)) (by first | exact sgn_lt _ _ | omega) (by omega) (v := M k k) (hv _ _ (by omega) (by omega)) dX0_determinant_23 ?_
      refine lv_lstore_n (lv' := [(2, .long (M k k)), (5, .long pv), (4, .int (nI k)), (0, .ref (Ad 1)), (1, .int (nI z))]) hx hb dX0_determinant_24 rfl hl (by decide) rfl (fun ls hl => ?_)
      refine lv_lload_n hx hb dX0_determinant_25 rfl (lv_at hl 0 rfl) ?_
      refine lv_lconst (v := 0) hx hb dX0_determinant_26 (by decide) ?_
      refine W.lcmp hx hb dX0_determinant_27 ?_
      refine pn_lif_ne (tgt := 33) hx hb dX0_determinant_28 (by decide) (fun c_28 => ?_) (fun c_28 => ?_)
      · rw [if_neg c_28] at hr0
        refine lv_iload hx hb dX0_determinant_33 (lv_at hl 2 rfl) ?_
        refine lv_iconst (v := nI 1) hx hb dX0_determinant_35 (by decide) ?_
        refine lv_iadd hx hb dX0_determinant_36 ?_
        refine pw_topi (nI_add _ _) ?_
        refine lv_istore (lv' := [(7, .int (nI (k + 1))), (2, .long (M k k)), (5, .long pv), (4, .int (nI k)), (0, .ref (Ad 1)), (1, .int (nI z))]) hx hb dX0_determinant_37 hl (by decide) rfl (fun ls hl => ?_)
        refine L_determinant_r S hK hI hF0 hn z k hz (by omega) M pv hpv (fun C H locs ls hP hS hR hl => ?_) (z + 1) C H locs (k + 1) ls (by omega) hP hS hB (by omega) (by omega) (fun a b ha hb9 => by
          rw [hv _ _ ha hb9]
          unfold el2
          rw [if_neg (by omega)]) (lv_sub hl [0, 4, 5, 1, 3, 2] rfl)
        obtain ⟨hB, hv⟩ := hR
        refine lv_iinc (v := nI (k + 1)) (lv' := [(4, .int (nI (k + 1))), (0, .ref (Ad 1)), (1, .int (nI z)), (2, .long (M k k))]) hx hb dX0_determinant_120 hl (k := 3) rfl (nI_add _ 1) (by decide) rfl (fun ls hl => ?_)
        refine lv_goto (tgt := 5) hx hb dX0_determinant_123 (by decide) ?_
        exact ih C H locs (k + 1) _ _ ls (by omega) hP hS hB (by omega) c_28 hv (by rw [← hy2]; exact hr0) (lv_sub hl [0, 1, 2, 3] rfl)
      · rw [if_pos c_28] at hr0
        refine lv_lconst (v := 0) hx hb dX0_determinant_31 (by decide) ?_
        refine pw_topl (y := r) (by rw [← hr0]; try rfl) ?_
        exact hq _ C H locs ls dX0_determinant_32 hP hS hB

set_option maxHeartbeats 4000000 in
set_option maxRecDepth 100000 in
theorem c_X0_determinant (l : Launch) (D : va_G) (cy : Nat → ClassId) (Ad : Nat → Nat) (n mm : Nat) (C : pw_C) (hI : pw_I Ad (shX n)) (hn : 1 ≤ n ∧ n ≤ 12) (hF : fX n mm Ad C) (z : Nat) (hz : z ≤ n) (M : Nat → Nat → Int64) (hv : ∀ a b, a < n → b < n → C.2.1 (29 + a) b = M a b) : Met l yX0_determinant wsX0_determinant (k2_rm 0 0) (pw_Pre ([.ref (Ad 1), .int (nI z)]) D cy Ad (shX n) C) (pw_Post (fun r9 C' => r9 = some (.long (detF z z 0 M 1)) ∧ (pw_B (fun k => 29 ≤ k ∧ k < 41) C C')) D cy Ad (shX n)) 0 0 (pw_fr Ad (shX n)) := by
  refine Met.ofW (cc := cX0_determinant) (maxL := 11) (ret := (some .long)) (by decide) rfl ?_
  intro p e s m args below meth c s₁ B hml hv
  obtain ⟨rfl, hP, hK⟩ := hv
  have hx := B.exec
  have hb := B.bytes
  have hr := B.returns
  have hts := atoms_spec (ws := wsX0_determinant) B.pre
  have hown : s.vm.findClass RX0 = some m.cls := findClass_of_methodNamed B.named
  have hlocks := B.notSynchronized
  have S : CallFix p m c cX0_determinant 11 s ([.ref (Ad 1), .int (nI z)]).toArray wsX0_determinant RX0 := ⟨hx, hb, hml, hown, hts⟩
  change W p l e (k2_rm 0 0) s m _ below meth c s.heap [] 0 0 _ _
  have hl := lv_entry ([.ref (Ad 1), .int (nI z)]) (n := 11) (Nat.le_of_ble_eq_true rfl)
  rw [lg_entry_eq]
  generalize (lg_sl ([.ref (Ad 1), .int (nI z)]) ++ List.replicate (11 - (lg_sl ([.ref (Ad 1), .int (nI z)])).length) Slot.unset).toArray = ls at hl ⊢
  have hl : lv_has ls 11 [(0, .ref (Ad 1)), (1, .int (nI z))] := hl
  have hS : va_S (pw_fr Ad (shX n)) s.heap s.heap [] := va_S.rf
  refine lv_lconst (v := 1) hx hb dX0_determinant_0 (by decide) ?_
  refine lv_lstore_n (lv' := [(2, .long 1), (0, .ref (Ad 1)), (1, .int (nI z))]) hx hb dX0_determinant_1 rfl hl (by decide) rfl (fun ls hl => ?_)
  refine lv_iconst (v := nI 0) hx hb dX0_determinant_2 (by decide) ?_
  refine lv_istore (lv' := [(4, .int (nI 0)), (2, .long 1), (0, .ref (Ad 1)), (1, .int (nI z))]) hx hb dX0_determinant_3 hl (by decide) rfl (fun ls hl => ?_)
  exact L_determinant S hK hI hF hn z hz _ (fun pc9 C9 H9 locs9 ls9 hd9 hP9 hS9 hR9 => W.lret hx hb hr (fun t ht _ => ⟨⟨(some (.long (detF z z 0 M 1))), C9, rfl, ⟨rfl, hR9⟩, by rw [ht]; exact hP9⟩, hS9.F ht⟩) hS9.2.2 hd9) (z + 1) C s.heap [] 0 M 1 ls (by omega) hP hS pw_B.rf (by omega) (by decide) hv rfl (lv_sub hl [0, 2, 3, 1] rfl)

set_option maxHeartbeats 4000000 in
set_option maxRecDepth 100000 in
theorem L_treesTo {p : Program} {l : Launch} {e : Env} {s : State} {m : MethodId} {args : Array Value} {below : List Frame} {meth : Method} {c : Code} {Q : State → Prop} (S : CallFix p m c cX0_treesTo 3 s args wsX0_treesTo RX0) {D : va_G} {cy : Nat → ClassId} {Ad : Nat → Nat} {n mm : Nat} {C0 : pw_C} (hK : pw_K D cy s) (hI : pw_I Ad (shX n)) (hF0 : fX n mm Ad C0) (hn : 1 ≤ n ∧ n ≤ 12) {nx : Nat → Nat → Nat} (hN0 : gN n nx C0) (r : Nat) (hr0 : r < n) (hk : ∀ (C : pw_C) (H : Heap) (locs : List Loc) (ls : Array Slot), pw_P D cy Ad (shX n) C H → va_S (pw_fr Ad (shX n)) s.heap H locs → (pw_B (fun k => 29 ≤ k ∧ k < 41) C0 C ∧ ∀ y, y < n → ¬ y = r → ∀ j, j < n → C.2.1 (29 + iw y r) j = frF nx y r 8 j) → lv_has ls 3 [(0, .ref (Ad 1))] → W p l e (k2_rm 2 50) s m args below meth c H locs 0 0 Q (F0 m 27 ls [])) : ∀ (f : Nat) (C : pw_C) (H : Heap) (locs : List Loc) (x : Nat) (ls : Array Slot), n - x < f → (pw_P D cy Ad (shX n) C H) → (va_S (pw_fr Ad (shX n)) s.heap H locs) → (pw_B (fun k => 29 ≤ k ∧ k < 41) C0 C) → (x ≤ n) → (∀ y, y < x → ¬ y = r → ∀ j, j < n → C.2.1 (29 + iw y r) j = frF nx y r 8 j) → lv_has ls 3 [(2, .int (nI x)), (0, .ref (Ad 1)), (1, .int (nI r))] → W p l e (k2_rm 2 50) s m args below meth c H locs 0 0 Q (F0 m 2 ls []) := by
  have hx := S.1
  have hb := S.2.1
  have hml := S.2.2.1
  have hown := S.2.2.2.1
  have hts := S.2.2.2.2
  intro f
  induction f with
  | zero => intro C H locs x ls hf; exact absurd hf (Nat.not_lt_zero _)
  | succ f ih =>
    intro C H locs x ls hf hP hS hB hx0 hv hl
    have hF := fX_B hF0 hB
    have hN := gN_B hN0 hB (fun u9 hu9 h9 => by have h8 : 29 ≤ 21 + u9 ∧ 21 + u9 < 41 := h9; omega)
    refine lv_iload_n hx hb dX0_treesTo_2 rfl (lv_at hl 0 rfl) ?_
    refine lv_aload_n hx hb dX0_treesTo_3 rfl (lv_at hl 1 rfl) ?_
    refine pw_get hx hb hts (fun _ h9 => List.mem_cons_of_mem _ (List.mem_append_right _ h9)) hown hK hP 1 rfl rfl 0 (by decide) hF.2.1 rfl (hts (.fieldLink RX0 9 "PastDraws$Chain" "n" "I") (List.mem_of_getElem? (i := 1) rfl)) dX0_treesTo_4 ?_
    refine pn_icmp_ge (tgt := 27) hx hb (by omega) (by omega) dX0_treesTo_7 (by decide) (fun c_7 => ?_) (fun c_7 => ?_)
    · obtain rfl : x = n := by omega
      exact hk C H locs ls hP hS ⟨hB, hv⟩ (lv_sub hl [1] rfl)
    · refine lv_iload_n hx hb dX0_treesTo_10 rfl (lv_at hl 0 rfl) ?_
      refine lv_iload_n hx hb dX0_treesTo_11 rfl (lv_at hl 2 rfl) ?_
      refine pn_icmp_eq (tgt := 21) hx hb (by omega) (by omega) dX0_treesTo_12 (by decide) (fun c_12 => ?_) (fun c_12 => ?_)
      · have hv : ∀ y, y < x + 1 → ¬ y = r → ∀ j, j < n → C.2.1 (29 + iw y r) j = frF nx y r 8 j := fun y hy hyr j hj => hv y (by omega) hyr j hj
        refine lv_iinc (v := nI (x + 1)) (lv' := [(2, .int (nI (x + 1))), (0, .ref (Ad 1)), (1, .int (nI r))]) hx hb dX0_treesTo_21 hl (k := 0) rfl (nI_add _ 1) (by decide) rfl (fun ls hl => ?_)
        refine lv_goto (tgt := 2) hx hb dX0_treesTo_24 (by decide) ?_
        exact ih C H locs (x + 1) ls (by omega) hP hS hB (by omega) hv (lv_sub hl [0, 1, 2] rfl)
      · refine lv_aload_n hx hb dX0_treesTo_15 rfl (lv_at hl 1 rfl) ?_
        refine lv_iload_n hx hb dX0_treesTo_16 rfl (lv_at hl 0 rfl) ?_
        refine lv_iload_n hx hb dX0_treesTo_17 rfl (lv_at hl 2 rfl) ?_
        refine pw_cvW S hK hP 1 0 rfl rfl 2 (c_X0_fillMinorRow l D cy Ad n mm C hI hn hF nx hN x r c_7 hr0 c_12) gX0_treesTo_X0_fillMinorRow rfl rfl rfl (by decide +kernel) ⟨Nat.le_of_ble_eq_true rfl, Nat.le_of_ble_eq_true rfl⟩ rfl hl.1 rfl (Nat.le_of_ble_eq_true rfl) dX0_treesTo_18 ⟨Nat.le_refl _, Nat.le_refl _⟩ hS (fun _ h9 => h9) (fun r9 C18 H locs hR hP _ _ hS => ?_)
        obtain ⟨rfl, hR⟩ := hR
        change W p l e _ s m _ below meth c H locs 0 0 _ (F0 m 21 ls [])
        have hiw := iw_lt c_7 hr0 c_12
        have hB := hB.tr (hR.1.mono (fun k9 h9 => by have h8 : k9 = 29 + iw x r := h9; show 29 ≤ k9 ∧ k9 < 41; omega))
        have hF := fX_B hF0 hB
        have hN := gN_B hN0 hB (fun u9 hu9 h9 => by have h8 : 29 ≤ 21 + u9 ∧ 21 + u9 < 41 := h9; omega)
        have hv : ∀ y, y < x + 1 → ¬ y = r → ∀ j, j < n → C18.2.1 (29 + iw y r) j = frF nx y r 8 j := fun y hy hyr j hj => by
          rcases Nat.lt_or_ge y x with q | q
          · have hne9 : ¬ iw y r = iw x r := fun q9 => by have := iw_inj hyr c_12 q9; omega
            rw [(hR.1.1 (29 + iw y r) (fun q8 => by have q7 : 29 + iw y r = 29 + iw x r := q8; omega)).2]
            exact hv y q hyr j hj
          · obtain rfl : y = x := by omega
            exact hR.2 j hj
        refine lv_iinc (v := nI (x + 1)) (lv' := [(2, .int (nI (x + 1))), (0, .ref (Ad 1)), (1, .int (nI r))]) hx hb dX0_treesTo_21 hl (k := 0) rfl (nI_add _ 1) (by decide) rfl (fun ls hl => ?_)
        refine lv_goto (tgt := 2) hx hb dX0_treesTo_24 (by decide) ?_
        exact ih C18 H locs (x + 1) ls (by omega) hP hS hB (by omega) hv (lv_sub hl [0, 1, 2] rfl)

set_option maxHeartbeats 4000000 in
set_option maxRecDepth 100000 in
theorem c_X0_treesTo (l : Launch) (D : va_G) (cy : Nat → ClassId) (Ad : Nat → Nat) (n mm : Nat) (C : pw_C) (hI : pw_I Ad (shX n)) (hn : 1 ≤ n ∧ n ≤ 12) (hF : fX n mm Ad C) (nx : Nat → Nat → Nat) (hN : gN n nx C) (r : Nat) (hr0 : r < n) : Met l yX0_treesTo wsX0_treesTo (k2_rm 2 50) (pw_Pre ([.ref (Ad 1), .int (nI r)]) D cy Ad (shX n) C) (pw_Post (fun r9 C' => r9 = some (.long (trF nx n r)) ∧ (pw_B (fun k => 29 ≤ k ∧ k < 41) C C')) D cy Ad (shX n)) 0 0 (pw_fr Ad (shX n)) := by
  refine Met.ofW (cc := cX0_treesTo) (maxL := 3) (ret := (some .long)) (by decide) rfl ?_
  intro p e s m args below meth c s₁ B hml hv
  obtain ⟨rfl, hP, hK⟩ := hv
  have hx := B.exec
  have hb := B.bytes
  have hr := B.returns
  have hts := atoms_spec (ws := wsX0_treesTo) B.pre
  have hown : s.vm.findClass RX0 = some m.cls := findClass_of_methodNamed B.named
  have hlocks := B.notSynchronized
  have S : CallFix p m c cX0_treesTo 3 s ([.ref (Ad 1), .int (nI r)]).toArray wsX0_treesTo RX0 := ⟨hx, hb, hml, hown, hts⟩
  change W p l e (k2_rm 2 50) s m _ below meth c s.heap [] 0 0 _ _
  have hl := lv_entry ([.ref (Ad 1), .int (nI r)]) (n := 3) (Nat.le_of_ble_eq_true rfl)
  rw [lg_entry_eq]
  generalize (lg_sl ([.ref (Ad 1), .int (nI r)]) ++ List.replicate (3 - (lg_sl ([.ref (Ad 1), .int (nI r)])).length) Slot.unset).toArray = ls at hl ⊢
  have hl : lv_has ls 3 [(0, .ref (Ad 1)), (1, .int (nI r))] := hl
  have hS : va_S (pw_fr Ad (shX n)) s.heap s.heap [] := va_S.rf
  refine lv_iconst (v := nI 0) hx hb dX0_treesTo_0 (by decide) ?_
  refine lv_istore_n (lv' := [(2, .int (nI 0)), (0, .ref (Ad 1)), (1, .int (nI r))]) hx hb dX0_treesTo_1 rfl hl (by decide) rfl (fun ls hl => ?_)
  refine L_treesTo S hK hI hF hn hN r hr0 (fun C1 H locs ls hP hS hR hl => ?_) (n + 1) C s.heap [] 0 ls (by omega) hP hS pw_B.rf (by omega) (fun y hy => by omega) (lv_sub hl [0, 1, 2] rfl)
  obtain ⟨hB, hv⟩ := hR
  have hF := fX_B hF hB
  have hde : detF (n - 1) (n - 1) 0 (fun a b => C1.2.1 (29 + a) b) 1 = trF nx n r := detF_congr (n - 1) 0 _ _ 1 (by omega) (fun a b ha hb9 => by
    have h9 := hv (if a < r then a else a + 1) (by split <;> omega) (by split <;> omega) b (by omega)
    have e9 : iw (if a < r then a else a + 1) r = a := by
      unfold iw
      by_cases q : a < r
      · rw [if_pos q, if_pos q]
      · rw [if_neg q, if_neg (by omega)]; omega
    rw [e9] at h9
    exact h9)
  refine lv_aload_n hx hb dX0_treesTo_27 rfl (lv_at hl 0 rfl) ?_
  refine lv_aload_n hx hb dX0_treesTo_28 rfl (lv_at hl 0 rfl) ?_
  refine pw_get hx hb hts (fun _ h9 => List.mem_cons_of_mem _ (List.mem_append_right _ h9)) hown hK hP 1 rfl rfl 0 (by decide) hF.2.1 rfl (hts (.fieldLink RX0 9 "PastDraws$Chain" "n" "I") (List.mem_of_getElem? (i := 1) rfl)) dX0_treesTo_29 ?_
  refine lv_iconst (v := nI 1) hx hb dX0_treesTo_32 (by decide) ?_
  refine lv_isub hx hb dX0_treesTo_33 ?_
  refine pw_topi (pk_sub (by omega)) ?_
  refine pw_cvW S hK hP 1 0 rfl rfl 1 (c_X0_determinant l D cy Ad n mm C1 hI hn hF (n - 1) (Nat.sub_le _ _) (fun a b => C1.2.1 (29 + a) b) (fun _ _ _ _ => rfl)) gX0_treesTo_X0_determinant rfl rfl rfl (by decide +kernel) ⟨Nat.le_of_ble_eq_true rfl, Nat.le_of_ble_eq_true rfl⟩ rfl hl.1 rfl (Nat.le_of_ble_eq_true rfl) dX0_treesTo_34 ⟨Nat.le_refl _, Nat.le_refl _⟩ hS (fun _ h9 => h9) (fun r9 C34 H locs hR hP _ _ hS => ?_)
  obtain ⟨rfl, hR⟩ := hR
  change W p l e _ s m _ below meth c H locs 0 0 _ (F0 m 37 ls [.long (detF (n - 1) (n - 1) 0 (fun a b => C1.2.1 (29 + a) b) 1)])
  have hB := hB.tr hR
  refine pw_topl (y := (trF nx n r)) hde ?_
  exact W.lret hx hb hr (fun t ht _ => ⟨⟨(some (.long (trF nx n r))), C34, rfl, ⟨rfl, hB⟩, by rw [ht]; exact hP⟩, hS.F ht⟩) hS.2.2 dX0_treesTo_37

set_option maxHeartbeats 4000000 in
set_option maxRecDepth 100000 in
theorem L_allTrees {p : Program} {l : Launch} {e : Env} {s : State} {m : MethodId} {args : Array Value} {below : List Frame} {meth : Method} {c : Code} {Q : State → Prop} (S : CallFix p m c cX0_allTrees 4 s args wsX0_allTrees RX0) {D : va_G} {cy : Nat → ClassId} {Ad : Nat → Nat} {n mm : Nat} {C0 : pw_C} (hK : pw_K D cy s) (hI : pw_I Ad (shX n)) (hF0 : fX n mm Ad C0) (hn : 1 ≤ n ∧ n ≤ 12) {nx : Nat → Nat → Nat} (hN0 : gN n nx C0) (hq : ∀ (pc9 : Nat) (C : pw_C) (H : Heap) (locs : List Loc) (ls : Array Slot), decode cX0_allTrees pc9 = .ok (.lreturn, 1) → pw_P D cy Ad (shX n) C H → va_S (pw_fr Ad (shX n)) s.heap H locs → (pw_B (fun k => 29 ≤ k ∧ k < 41) C0 C) → W p l e (k2_rm 3 72) s m args below meth c H locs 0 0 Q (F0 m pc9 ls [.long (trS nx n n)])) : ∀ (f : Nat) (C : pw_C) (H : Heap) (locs : List Loc) (x : Nat) (ls : Array Slot), n - x < f → (pw_P D cy Ad (shX n) C H) → (va_S (pw_fr Ad (shX n)) s.heap H locs) → (pw_B (fun k => 29 ≤ k ∧ k < 41) C0 C) → (x ≤ n) → lv_has ls 4 [(3, .int (nI x)), (0, .ref (Ad 1)), (1, .long (trS nx n x))] → W p l e (k2_rm 3 72) s m args below meth c H locs 0 0 Q (F0 m 4 ls []) := by
  have hx := S.1
  have hb := S.2.1
  have hml := S.2.2.1
  have hown := S.2.2.2.1
  have hts := S.2.2.2.2
  intro f
  induction f with
  | zero => intro C H locs x ls hf; exact absurd hf (Nat.not_lt_zero _)
  | succ f ih =>
    intro C H locs x ls hf hP hS hB hx0 hl
    have hF := fX_B hF0 hB
    have hN := gN_B hN0 hB (fun u9 hu9 h9 => by have h8 : 29 ≤ 21 + u9 ∧ 21 + u9 < 41 := h9; omega)
    refine lv_iload_n hx hb dX0_allTrees_4 rfl (lv_at hl 0 rfl) ?_
    refine lv_aload_n hx hb dX0_allTrees_5 rfl (lv_at hl 1 rfl) ?_
    refine pw_get hx hb hts (fun _ h9 => List.mem_cons_of_mem _ (List.mem_append_right _ h9)) hown hK hP 1 rfl rfl 0 (by decide) hF.2.1 rfl (hts (.fieldLink RX0 9 "PastDraws$Chain" "n" "I") (List.mem_of_getElem? (i := 1) rfl)) dX0_allTrees_6 ?_
    refine pn_icmp_ge (tgt := 26) hx hb (by omega) (by omega) dX0_allTrees_9 (by decide) (fun c_9 => ?_) (fun c_9 => ?_)
    · have hxe : x = n := by omega
      refine lv_lload_n hx hb dX0_allTrees_26 rfl (lv_at hl 2 rfl) ?_
      refine pw_topl (y := trS nx n n) (by rw [hxe]) ?_
      exact hq _ C H locs ls dX0_allTrees_27 hP hS hB
    · refine lv_lload_n hx hb dX0_allTrees_12 rfl (lv_at hl 2 rfl) ?_
      refine lv_aload_n hx hb dX0_allTrees_13 rfl (lv_at hl 1 rfl) ?_
      refine lv_iload_n hx hb dX0_allTrees_14 rfl (lv_at hl 0 rfl) ?_
      refine pw_cvW S hK hP 1 0 rfl rfl 1 (c_X0_treesTo l D cy Ad n mm C hI hn hF nx hN x c_9) gX0_allTrees_X0_treesTo rfl rfl rfl (by decide +kernel) ⟨Nat.le_of_ble_eq_true rfl, Nat.le_of_ble_eq_true rfl⟩ rfl hl.1 rfl (Nat.le_of_ble_eq_true rfl) dX0_allTrees_15 ⟨Nat.le_refl _, Nat.le_refl _⟩ hS (fun _ h9 => h9) (fun r9 C15 H locs hR hP _ _ hS => ?_)
      obtain ⟨rfl, hR⟩ := hR
      change W p l e _ s m _ below meth c H locs 0 0 _ (F0 m 18 ls [.long (trF nx n x), .long (trS nx n x)])
      have hB := hB.tr hR
      have hF := fX_B hF0 hB
      refine lv_ladd hx hb dX0_allTrees_18 ?_
      refine pw_topl (y := trS nx n (x + 1)) rfl ?_
      refine lv_topl (fun x1_19 ex1_19 => ?_)
      refine lv_lstore_n (lv' := [(1, .long x1_19), (3, .int (nI x)), (0, .ref (Ad 1))]) hx hb dX0_allTrees_19 rfl hl (by decide) rfl (fun ls hl => ?_)
      refine lv_iinc (v := nI (x + 1)) (lv' := [(3, .int (nI (x + 1))), (1, .long x1_19), (0, .ref (Ad 1))]) hx hb dX0_allTrees_20 hl (k := 1) rfl (nI_add _ 1) (by decide) rfl (fun ls hl => ?_)
      refine lv_goto (tgt := 4) hx hb dX0_allTrees_23 (by decide) ?_
      exact ih C15 H locs (x + 1) ls (by omega) hP hS hB (by omega) (by rw [← ex1_19]; exact (lv_sub hl [0, 2, 1] rfl))

set_option maxHeartbeats 4000000 in
set_option maxRecDepth 100000 in
theorem c_X0_allTrees (l : Launch) (D : va_G) (cy : Nat → ClassId) (Ad : Nat → Nat) (n mm : Nat) (C : pw_C) (hI : pw_I Ad (shX n)) (hn : 1 ≤ n ∧ n ≤ 12) (hF : fX n mm Ad C) (nx : Nat → Nat → Nat) (hN : gN n nx C) : Met l yX0_allTrees wsX0_allTrees (k2_rm 3 72) (pw_Pre ([.ref (Ad 1)]) D cy Ad (shX n) C) (pw_Post (fun r9 C' => r9 = some (.long (trS nx n n)) ∧ (pw_B (fun k => 29 ≤ k ∧ k < 41) C C')) D cy Ad (shX n)) 0 0 (pw_fr Ad (shX n)) := by
  refine Met.ofW (cc := cX0_allTrees) (maxL := 4) (ret := (some .long)) (by decide) rfl ?_
  intro p e s m args below meth c s₁ B hml hv
  obtain ⟨rfl, hP, hK⟩ := hv
  have hx := B.exec
  have hb := B.bytes
  have hr := B.returns
  have hts := atoms_spec (ws := wsX0_allTrees) B.pre
  have hown : s.vm.findClass RX0 = some m.cls := findClass_of_methodNamed B.named
  have hlocks := B.notSynchronized
  have S : CallFix p m c cX0_allTrees 4 s ([.ref (Ad 1)]).toArray wsX0_allTrees RX0 := ⟨hx, hb, hml, hown, hts⟩
  change W p l e (k2_rm 3 72) s m _ below meth c s.heap [] 0 0 _ _
  have hl := lv_entry ([.ref (Ad 1)]) (n := 4) (Nat.le_of_ble_eq_true rfl)
  rw [lg_entry_eq]
  generalize (lg_sl ([.ref (Ad 1)]) ++ List.replicate (4 - (lg_sl ([.ref (Ad 1)])).length) Slot.unset).toArray = ls at hl ⊢
  have hl : lv_has ls 4 [(0, .ref (Ad 1))] := hl
  have hS : va_S (pw_fr Ad (shX n)) s.heap s.heap [] := va_S.rf
  refine lv_lconst (v := 0) hx hb dX0_allTrees_0 (by decide) ?_
  refine lv_lstore_n (lv' := [(1, .long 0), (0, .ref (Ad 1))]) hx hb dX0_allTrees_1 rfl hl (by decide) rfl (fun ls hl => ?_)
  refine lv_iconst (v := nI 0) hx hb dX0_allTrees_2 (by decide) ?_
  refine lv_istore_n (lv' := [(3, .int (nI 0)), (1, .long 0), (0, .ref (Ad 1))]) hx hb dX0_allTrees_3 rfl hl (by decide) rfl (fun ls hl => ?_)
  exact L_allTrees S hK hI hF hn hN (fun pc9 C9 H9 locs9 ls9 hd9 hP9 hS9 hR9 => W.lret hx hb hr (fun t ht _ => ⟨⟨(some (.long (trS nx n n))), C9, rfl, ⟨rfl, hR9⟩, by rw [ht]; exact hP9⟩, hS9.F ht⟩) hS9.2.2 hd9) (n + 1) C s.heap [] 0 ls (by omega) hP hS pw_B.rf (by omega) (lv_sub hl [0, 2, 1] rfl)
end
section
/-- the machine -/
def gM (n : Nat) (mx : Nat → Nat → Option Nat) (C : pw_C) : Prop := ∀ x, x < n → ∀ c, c < 4 → (∀ y, mx x c = some y → y < n) ∧ C.1 (41 + x) c = oi (mx x c)
def gE (n : Nat) (en : Nat → Bool) (C : pw_C) : Prop := ∀ x, x < n → C.1 12 x = pb (en x)
theorem gM_B {n : Nat} {mx : Nat → Nat → Option Nat} {ks : Nat → Prop} {C C' : pw_C} (h : gM n mx C) (hB : pw_B ks C C') (hk : ∀ u, u < n → ¬ ks (41 + u)) : gM n mx C' := fun x hx c hc => by
  rw [(hB.1 _ (hk x hx)).1]; exact h x hx c hc
theorem gE_B {n : Nat} {en : Nat → Bool} {ks : Nat → Prop} {C C' : pw_C} (h : gE n en C) (hB : pw_B ks C C') (hk : ¬ ks 12) : gE n en C' := fun x hx => by
  rw [(hB.1 _ hk).1]; exact h x hx
theorem ni_m2 {y : Nat} (h : y < 2 ^ 31) : ¬ nI y = (-2) := fun q => by
  have h1 := nI_toInt h
  rw [q] at h1
  have : (-2 : Int32).toInt = -2 := by decide
  omega
def wv (mx : Nat → Nat → Option Nat) (g : Nat → Int64) (x c : Nat) : Int64 := match mx x c with
  | none => 0
  | some y => g y
def cbS (mx : Nat → Nat → Option Nat) (g : Nat → Int64) (x : Nat) : Nat → Int64
  | 0 => 0
  | c + 1 => cbS mx g x c + wv mx g x c
def cnW (mx : Nat → Nat → Option Nat) (en : Nat → Bool) : Nat → Nat → Int64
  | 0, x => if en x = true then 1 else 0
  | l + 1, x => cbS mx (cnW mx en l) x 4

set_option maxHeartbeats 4000000 in
set_option maxRecDepth 100000 in
theorem c_X1_setStep (l : Launch) (D : va_G) (cy : Nat → ClassId) (Ad : Nat → Nat) (n mm : Nat) (C : pw_C) (hI : pw_I Ad (shX n)) (hn : 1 ≤ n ∧ n ≤ 12) (hF : fX n mm Ad C) (mx : Nat → Nat → Option Nat) (hM : gM n mx C) (x ch : Nat) (y : Int32) (hx0 : x < n) (hc : ch < 4) : Met l yX1_setStep wsX1_setStep (k2_rm 0 0) (pw_Pre ([.ref (Ad 2), .int (nI x), .int (nI ch), .int y]) D cy Ad (shX n) C) (pw_Post (fun r9 C' => r9 = some (.int (oi (mx x ch))) ∧ (C' = pw_setI C (41 + x) ch y)) D cy Ad (shX n)) 0 0 (pw_fr Ad (shX n)) := by
  refine Met.ofW (cc := cX1_setStep) (maxL := 5) (ret := (some .int)) (by decide) rfl ?_
  intro p e s m args below meth c s₁ B hml hv
  obtain ⟨rfl, hP, hK⟩ := hv
  have hx := B.exec
  have hb := B.bytes
  have hr := B.returns
  have hts := atoms_spec (ws := wsX1_setStep) B.pre
  have hown : s.vm.findClass RX1 = some m.cls := findClass_of_methodNamed B.named
  have hlocks := B.notSynchronized
  have S : CallFix p m c cX1_setStep 5 s ([.ref (Ad 2), .int (nI x), .int (nI ch), .int y]).toArray wsX1_setStep RX1 := ⟨hx, hb, hml, hown, hts⟩
  change W p l e (k2_rm 0 0) s m _ below meth c s.heap [] 0 0 _ _
  have hl := lv_entry ([.ref (Ad 2), .int (nI x), .int (nI ch), .int y]) (n := 5) (Nat.le_of_ble_eq_true rfl)
  rw [lg_entry_eq]
  generalize (lg_sl ([.ref (Ad 2), .int (nI x), .int (nI ch), .int y]) ++ List.replicate (5 - (lg_sl ([.ref (Ad 2), .int (nI x), .int (nI ch), .int y])).length) Slot.unset).toArray = ls at hl ⊢
  have hl : lv_has ls 5 [(0, .ref (Ad 2)), (1, .int (nI x)), (2, .int (nI ch)), (3, .int y)] := hl
  have hS : va_S (pw_fr Ad (shX n)) s.heap s.heap [] := va_S.rf
  have hB : pw_B (fun k => k = 41 + x) C C := pw_B.rf
  refine lv_aload_n hx hb dX1_setStep_0 rfl (lv_at hl 0 rfl) ?_
  refine pw_get hx hb hts (fun _ h9 => List.mem_cons_of_mem _ (List.mem_append_right _ h9)) hown hK hP 2 rfl rfl 1 (by decide) hF.2.2.1 rfl (hts (.fieldLink RX1 17 "PastDraws$Machine" "next" "[[I") (List.mem_of_getElem? (i := 1) rfl)) dX1_setStep_1 ?_
  refine lv_iload_n hx hb dX1_setStep_4 rfl (lv_at hl 1 rfl) ?_
  refine pw_aald4 hx hb hK hP 11 rfl (by first | exact sgn_lt _ _ | omega) (by omega) dX1_setStep_5 ?_
  refine lv_iload_n hx hb dX1_setStep_6 rfl (lv_at hl 2 rfl) ?_
  have hu_7 : x < n := (by first | exact sgn_lt _ _ | omega)
  have hx_7 : ch < 4 := (by first | exact sgn_lt _ _ | omega)
  refine pw_iald hx hb hK hP (41 + x) (shX_mx hu_7 (by omega)) hx_7 (by decide) (hM _ hu_7 _ hx_7).2 dX1_setStep_7 ?_
  refine lv_istore (lv' := [(4, .int (oi (mx x ch))), (0, .ref (Ad 2)), (1, .int (nI x)), (2, .int (nI ch)), (3, .int y)]) hx hb dX1_setStep_8 hl (by decide) rfl (fun ls hl => ?_)
  refine lv_aload_n hx hb dX1_setStep_10 rfl (lv_at hl 1 rfl) ?_
  refine pw_get hx hb hts (fun _ h9 => List.mem_cons_of_mem _ (List.mem_append_right _ h9)) hown hK hP 2 rfl rfl 1 (by decide) hF.2.2.1 rfl (hts (.fieldLink RX1 17 "PastDraws$Machine" "next" "[[I") (List.mem_of_getElem? (i := 1) rfl)) dX1_setStep_11 ?_
  refine lv_iload_n hx hb dX1_setStep_14 rfl (lv_at hl 2 rfl) ?_
  refine pw_aald4 hx hb hK hP 11 rfl (by first | exact sgn_lt _ _ | omega) (by omega) dX1_setStep_15 ?_
  refine lv_iload_n hx hb dX1_setStep_16 rfl (lv_at hl 3 rfl) ?_
  refine lv_iload_n hx hb dX1_setStep_17 rfl (lv_at hl 4 rfl) ?_
  refine pw_iast hx hb hK hP hI hS (41 + x) (shX_mx (by first | exact sgn_lt _ _ | omega) (by omega)) (by first | exact sgn_lt _ _ | omega) (by first | decide | omega) dX1_setStep_18 (fun H locs hP hS => ?_)
  obtain ⟨C18, hC18⟩ : ∃ z9, z9 = pw_setI C (41 + x) ch y := ⟨_, rfl⟩
  rw [← hC18] at hP
  have hB := by have hB9 := hB; exact (show pw_B (fun k => k = 41 + x) C C18 by rw [hC18]; exact hB9.setI (by show (41 + x) = 41 + x; first | trivial | omega))
  refine lv_iload hx hb dX1_setStep_19 (lv_at hl 0 rfl) ?_
  exact W.iret hx hb hr (fun t ht _ => ⟨⟨(some (.int (oi (mx x ch)))), C18, rfl, ⟨rfl, hC18⟩, by rw [ht]; exact hP⟩, hS.F ht⟩) hS.2.2 dX1_setStep_21

set_option maxHeartbeats 4000000 in
set_option maxRecDepth 100000 in
theorem c_X1_setEnd (l : Launch) (D : va_G) (cy : Nat → ClassId) (Ad : Nat → Nat) (n mm : Nat) (C : pw_C) (hI : pw_I Ad (shX n)) (hn : 1 ≤ n ∧ n ≤ 12) (hF : fX n mm Ad C) (en : Nat → Bool) (hE : gE n en C) (x : Nat) (b : Bool) (hx0 : x < n) : Met l yX1_setEnd wsX1_setEnd (k2_rm 0 0) (pw_Pre ([.ref (Ad 2), .int (nI x), .int (pb b)]) D cy Ad (shX n) C) (pw_Post (fun r9 C' => r9 = some (.int (pb (en x))) ∧ (C' = pw_setI C 12 x (pb b))) D cy Ad (shX n)) 0 0 (pw_fr Ad (shX n)) := by
  refine Met.ofW (cc := cX1_setEnd) (maxL := 4) (ret := (some .boolean)) (by decide) rfl ?_
  intro p e s m args below meth c s₁ B hml hv
  obtain ⟨rfl, hP, hK⟩ := hv
  have hx := B.exec
  have hb := B.bytes
  have hr := B.returns
  have hts := atoms_spec (ws := wsX1_setEnd) B.pre
  have hown : s.vm.findClass RX1 = some m.cls := findClass_of_methodNamed B.named
  have hlocks := B.notSynchronized
  have S : CallFix p m c cX1_setEnd 4 s ([.ref (Ad 2), .int (nI x), .int (pb b)]).toArray wsX1_setEnd RX1 := ⟨hx, hb, hml, hown, hts⟩
  change W p l e (k2_rm 0 0) s m _ below meth c s.heap [] 0 0 _ _
  have hl := lv_entry ([.ref (Ad 2), .int (nI x), .int (pb b)]) (n := 4) (Nat.le_of_ble_eq_true rfl)
  rw [lg_entry_eq]
  generalize (lg_sl ([.ref (Ad 2), .int (nI x), .int (pb b)]) ++ List.replicate (4 - (lg_sl ([.ref (Ad 2), .int (nI x), .int (pb b)])).length) Slot.unset).toArray = ls at hl ⊢
  have hl : lv_has ls 4 [(0, .ref (Ad 2)), (1, .int (nI x)), (2, .int (pb b))] := hl
  have hS : va_S (pw_fr Ad (shX n)) s.heap s.heap [] := va_S.rf
  have hB : pw_B (fun k => k = 12) C C := pw_B.rf
  refine lv_aload_n hx hb dX1_setEnd_0 rfl (lv_at hl 0 rfl) ?_
  refine pw_get hx hb hts (fun _ h9 => List.mem_cons_of_mem _ (List.mem_append_right _ h9)) hown hK hP 2 rfl rfl 2 (by decide) hF.2.2.1 rfl (hts (.fieldLink RX1 20 "PastDraws$Machine" "ends" "[Z") (List.mem_of_getElem? (i := 1) rfl)) dX1_setEnd_1 ?_
  refine lv_iload_n hx hb dX1_setEnd_4 rfl (lv_at hl 1 rfl) ?_
  refine pw_zald hx hb hK hP 12 rfl (by first | exact sgn_lt _ _ | omega) (by first | decide | omega) (v := pb (en x)) (hE x hx0) dX1_setEnd_5 ?_
  refine lv_istore_n (lv' := [(3, .int (pb (en x))), (0, .ref (Ad 2)), (1, .int (nI x)), (2, .int (pb b))]) hx hb dX1_setEnd_6 rfl hl (by decide) rfl (fun ls hl => ?_)
  refine lv_aload_n hx hb dX1_setEnd_7 rfl (lv_at hl 1 rfl) ?_
  refine pw_get hx hb hts (fun _ h9 => List.mem_cons_of_mem _ (List.mem_append_right _ h9)) hown hK hP 2 rfl rfl 2 (by decide) hF.2.2.1 rfl (hts (.fieldLink RX1 20 "PastDraws$Machine" "ends" "[Z") (List.mem_of_getElem? (i := 1) rfl)) dX1_setEnd_8 ?_
  refine lv_iload_n hx hb dX1_setEnd_11 rfl (lv_at hl 2 rfl) ?_
  refine lv_iload_n hx hb dX1_setEnd_12 rfl (lv_at hl 3 rfl) ?_
  refine pw_zast hx hb hK hP hI hS 12 rfl (by first | exact sgn_lt _ _ | omega) (by first | decide | omega) (pb_nar _) dX1_setEnd_13 (fun H locs hP hS => ?_)
  obtain ⟨C13, hC13⟩ : ∃ z9, z9 = pw_setI C 12 x (pb b) := ⟨_, rfl⟩
  rw [← hC13] at hP
  have hB := by have hB9 := hB; exact (show pw_B (fun k => k = 12) C C13 by rw [hC13]; exact hB9.setI (by show 12 = 12; first | trivial | omega))
  refine lv_iload_n hx hb dX1_setEnd_14 rfl (lv_at hl 0 rfl) ?_
  exact W.zret hx hb hr (pb_nar _) (fun t ht _ => ⟨⟨(some (.int (pb (en x)))), C13, rfl, ⟨rfl, hC13⟩, by rw [ht]; exact hP⟩, hS.F ht⟩) hS.2.2 dX1_setEnd_15

set_option maxHeartbeats 4000000 in
set_option maxRecDepth 100000 in
theorem c_X1_countWith (l : Launch) (D : va_G) (cy : Nat → ClassId) (Ad : Nat → Nat) (n mm : Nat) (C : pw_C) (hn : 1 ≤ n ∧ n ≤ 12) (hF : fX n mm Ad C) (mx : Nat → Nat → Option Nat) (hM : gM n mx C) (g : Nat → Int64) (b : Nat) (hb0 : b < 26) (hg : ∀ y, y < n → C.2.1 (53 + b) y = g y) (x ch : Nat) (hx0 : x < n) (hc : ch < 4) : Met l yX1_countWith wsX1_countWith (k2_rm 0 0) (pw_Pre ([.ref (Ad 2), .int (nI x), .int (nI ch), .int (nI b)]) D cy Ad (shX n) C) (k2_QcV (.long (wv mx g x ch))) 0 0 (fun _ => False) := by
  refine Met.ofW (cc := cX1_countWith) (maxL := 5) (ret := (some .long)) (by decide) rfl ?_
  intro p e s m args below meth c s₁ B hml hv
  obtain ⟨rfl, hP, hK⟩ := hv
  have hx := B.exec
  have hb := B.bytes
  have hr := B.returns
  have hts := atoms_spec (ws := wsX1_countWith) B.pre
  have hown : s.vm.findClass RX1 = some m.cls := findClass_of_methodNamed B.named
  have hlocks := B.notSynchronized
  have S : CallFix p m c cX1_countWith 5 s ([.ref (Ad 2), .int (nI x), .int (nI ch), .int (nI b)]).toArray wsX1_countWith RX1 := ⟨hx, hb, hml, hown, hts⟩
  change W p l e (k2_rm 0 0) s m _ below meth c s.heap [] 0 0 _ _
  have hl := lv_entry ([.ref (Ad 2), .int (nI x), .int (nI ch), .int (nI b)]) (n := 5) (Nat.le_of_ble_eq_true rfl)
  rw [lg_entry_eq]
  generalize (lg_sl ([.ref (Ad 2), .int (nI x), .int (nI ch), .int (nI b)]) ++ List.replicate (5 - (lg_sl ([.ref (Ad 2), .int (nI x), .int (nI ch), .int (nI b)])).length) Slot.unset).toArray = ls at hl ⊢
  have hl : lv_has ls 5 [(0, .ref (Ad 2)), (1, .int (nI x)), (2, .int (nI ch)), (3, .int (nI b))] := hl
  refine lv_aload_n hx hb dX1_countWith_0 rfl (lv_at hl 0 rfl) ?_
  refine pw_get hx hb hts (fun _ h9 => List.mem_cons_of_mem _ (List.mem_append_right _ h9)) hown hK hP 2 rfl rfl 1 (by decide) hF.2.2.1 rfl (hts (.fieldLink RX1 17 "PastDraws$Machine" "next" "[[I") (List.mem_of_getElem? (i := 1) rfl)) dX1_countWith_1 ?_
  refine lv_iload_n hx hb dX1_countWith_4 rfl (lv_at hl 1 rfl) ?_
  refine pw_aald4 hx hb hK hP 11 rfl (by first | exact sgn_lt _ _ | omega) (by omega) dX1_countWith_5 ?_
  refine lv_iload_n hx hb dX1_countWith_6 rfl (lv_at hl 2 rfl) ?_
  have hu_7 : x < n := (by first | exact sgn_lt _ _ | omega)
  have hx_7 : ch < 4 := (by first | exact sgn_lt _ _ | omega)
  refine pw_iald hx hb hK hP (41 + x) (shX_mx hu_7 (by omega)) hx_7 (by decide) (hM _ hu_7 _ hx_7).2 dX1_countWith_7 ?_
  rcases ho_8 : mx x ch with _ | y_8
  · refine pw_topi (y := (-2)) rfl ?_
    refine lv_istore (lv' := [(4, .int (-2)), (0, .ref (Ad 2)), (1, .int (nI x)), (2, .int (nI ch)), (3, .int (nI b))]) hx hb dX1_countWith_8 hl (by decide) rfl (fun ls hl => ?_)
    refine lv_iload hx hb dX1_countWith_10 (lv_at hl 0 rfl) ?_
    refine lv_bipush (v := (-2)) hx hb dX1_countWith_12 (by decide) ?_
    refine lv_icmp_ne (tgt := 21) hx hb dX1_countWith_14 (by decide) (fun c_14 => absurd rfl c_14) (fun c_14 => ?_)
    refine lv_lconst (v := 0) hx hb dX1_countWith_17 (by decide) ?_
    refine lv_goto (tgt := 30) hx hb dX1_countWith_18 (by decide) ?_
    refine pw_topl (y := wv mx g x ch) (by unfold wv; rw [ho_8]) ?_
    exact W.lret hx hb hr (fun t ht _ => ⟨rfl, ht⟩) (fun q h => by cases h) dX1_countWith_30
  · have hy_8 : y_8 < n := (hM x hx0 ch hc).1 y_8 ho_8
    refine pw_topi (y := nI y_8) rfl ?_
    refine lv_istore (lv' := [(4, .int (nI y_8)), (0, .ref (Ad 2)), (1, .int (nI x)), (2, .int (nI ch)), (3, .int (nI b))]) hx hb dX1_countWith_8 hl (by decide) rfl (fun ls hl => ?_)
    refine lv_iload hx hb dX1_countWith_10 (lv_at hl 0 rfl) ?_
    refine lv_bipush (v := (-2)) hx hb dX1_countWith_12 (by decide) ?_
    refine lv_icmp_ne (tgt := 21) hx hb dX1_countWith_14 (by decide) (fun c_14 => ?_) (fun c_14 => absurd c_14 (ni_m2 (by omega)))
    refine lv_aload_n hx hb dX1_countWith_21 rfl (lv_at hl 1 rfl) ?_
    refine pw_get hx hb hts (fun _ h9 => List.mem_cons_of_mem _ (List.mem_append_right _ h9)) hown hK hP 2 rfl rfl 3 (by decide) hF.2.2.1 rfl (hts (.fieldLink RX1 26 "PastDraws$Machine" "counts" "[[J") (List.mem_of_getElem? (i := 2) rfl)) dX1_countWith_22 ?_
    refine lv_iload_n hx hb dX1_countWith_25 rfl (lv_at hl 4 rfl) ?_
    refine pw_aald5 hx hb hK hP 13 rfl (by first | exact sgn_lt _ _ | omega) (by decide) dX1_countWith_26 ?_
    refine lv_iload hx hb dX1_countWith_27 (lv_at hl 0 rfl) ?_
    refine pw_lald hx hb hK hP (53 + b) (shX_co (by first | exact sgn_lt _ _ | omega)) (by first | exact sgn_lt _ _ | omega) (by omega) (v := g y_8) (hg _ hy_8) dX1_countWith_29 ?_
    refine pw_topl (y := wv mx g x ch) (by unfold wv; rw [ho_8]) ?_
    exact W.lret hx hb hr (fun t ht _ => ⟨rfl, ht⟩) (fun q h => by cases h) dX1_countWith_30

set_option maxHeartbeats 4000000 in
set_option maxRecDepth 100000 in
theorem L_countBefore {p : Program} {l : Launch} {e : Env} {s : State} {m : MethodId} {args : Array Value} {below : List Frame} {meth : Method} {c : Code} {H : Heap} {locs : List Loc} {Q : State → Prop} (S : CallFix p m c cX1_countBefore 7 s args wsX1_countBefore RX1) {D : va_G} {cy : Nat → ClassId} {Ad : Nat → Nat} {n mm : Nat} {C : pw_C} (hK : pw_K D cy s) (hP : pw_P D cy Ad (shX n) C H) (hF : fX n mm Ad C) (hn : 1 ≤ n ∧ n ≤ 12) {mx : Nat → Nat → Option Nat} (hM : gM n mx C) (g : Nat → Int64) (b : Nat) (hb0 : b < 26) (hg : ∀ y, y < n → C.2.1 (53 + b) y = g y) (x d : Nat) (hx0 : x < n) (hd : d ≤ 4) (hq : ∀ (pc9 : Nat) (ls : Array Slot), decode cX1_countBefore pc9 = .ok (.lreturn, 1) → W p l e (k2_rm 1 24) s m args below meth c H locs 0 0 Q (F0 m pc9 ls [.long (cbS mx g x d)])) : ∀ (f : Nat) (ch : Nat) (ls : Array Slot), d - ch < f → (ch ≤ d) → lv_has ls 7 [(6, .int (nI ch)), (4, .long (cbS mx g x ch)), (0, .ref (Ad 2)), (1, .int (nI x)), (2, .int (nI d)), (3, .int (nI b))] → W p l e (k2_rm 1 24) s m args below meth c H locs 0 0 Q (F0 m 6 ls []) := by
  have hx := S.1
  have hb := S.2.1
  have hml := S.2.2.1
  have hown := S.2.2.2.1
  have hts := S.2.2.2.2
  intro f
  induction f with
  | zero => intro ch ls hf; exact absurd hf (Nat.not_lt_zero _)
  | succ f ih =>
    intro ch ls hf hc hl
    refine lv_iload hx hb dX1_countBefore_6 (lv_at hl 0 rfl) ?_
    refine lv_iload_n hx hb dX1_countBefore_8 rfl (lv_at hl 4 rfl) ?_
    refine pn_icmp_ge (tgt := 31) hx hb (by omega) (by omega) dX1_countBefore_9 (by decide) (fun c_9 => ?_) (fun c_9 => ?_)
    · have hce : ch = d := by omega
      refine lv_lload hx hb dX1_countBefore_31 (lv_at hl 1 rfl) ?_
      refine pw_topl (y := cbS mx g x d) (by rw [hce]) ?_
      exact hq _ ls dX1_countBefore_33
    · refine lv_lload hx hb dX1_countBefore_12 (lv_at hl 1 rfl) ?_
      refine lv_aload_n hx hb dX1_countBefore_14 rfl (lv_at hl 2 rfl) ?_
      refine lv_iload_n hx hb dX1_countBefore_15 rfl (lv_at hl 3 rfl) ?_
      refine lv_iload hx hb dX1_countBefore_16 (lv_at hl 0 rfl) ?_
      refine lv_iload_n hx hb dX1_countBefore_18 rfl (lv_at hl 5 rfl) ?_
      refine pw_cv S hK hP 2 1 rfl rfl 3 (c_X1_countWith l D cy Ad n mm C hn hF mx hM g b hb0 hg x ch hx0 (by omega)) gX1_countBefore_X1_countWith rfl rfl rfl (by decide +kernel) ⟨Nat.le_of_ble_eq_true rfl, Nat.le_of_ble_eq_true rfl⟩ rfl hl.1 rfl (Nat.le_of_ble_eq_true rfl) dX1_countBefore_19 ⟨Nat.le_refl _, Nat.le_refl _⟩ ?_
      refine lv_ladd hx hb dX1_countBefore_22 ?_
      refine pw_topl (y := cbS mx g x (ch + 1)) rfl ?_
      refine lv_lstore (lv' := [(4, .long (cbS mx g x (ch + 1))), (6, .int (nI ch)), (0, .ref (Ad 2)), (1, .int (nI x)), (2, .int (nI d)), (3, .int (nI b))]) hx hb dX1_countBefore_23 hl (by decide) rfl (fun ls hl => ?_)
      refine lv_iinc (v := nI (ch + 1)) (lv' := [(6, .int (nI (ch + 1))), (4, .long (cbS mx g x (ch + 1))), (0, .ref (Ad 2)), (1, .int (nI x)), (2, .int (nI d)), (3, .int (nI b))]) hx hb dX1_countBefore_25 hl (k := 1) rfl (nI_add _ 1) (by decide) rfl (fun ls hl => ?_)
      refine lv_goto (tgt := 6) hx hb dX1_countBefore_28 (by decide) ?_
      exact ih (ch + 1) ls (by omega) (by omega) (lv_sub hl [0, 1, 2, 3, 4, 5] rfl)

set_option maxHeartbeats 4000000 in
set_option maxRecDepth 100000 in
theorem c_X1_countBefore (l : Launch) (D : va_G) (cy : Nat → ClassId) (Ad : Nat → Nat) (n mm : Nat) (C : pw_C) (hn : 1 ≤ n ∧ n ≤ 12) (hF : fX n mm Ad C) (mx : Nat → Nat → Option Nat) (hM : gM n mx C) (g : Nat → Int64) (b : Nat) (hb0 : b < 26) (hg : ∀ y, y < n → C.2.1 (53 + b) y = g y) (x d : Nat) (hx0 : x < n) (hd : d ≤ 4) : Met l yX1_countBefore wsX1_countBefore (k2_rm 1 24) (pw_Pre ([.ref (Ad 2), .int (nI x), .int (nI d), .int (nI b)]) D cy Ad (shX n) C) (k2_QcV (.long (cbS mx g x d))) 0 0 (fun _ => False) := by
  refine Met.ofW (cc := cX1_countBefore) (maxL := 7) (ret := (some .long)) (by decide) rfl ?_
  intro p e s m args below meth c s₁ B hml hv
  obtain ⟨rfl, hP, hK⟩ := hv
  have hx := B.exec
  have hb := B.bytes
  have hr := B.returns
  have hts := atoms_spec (ws := wsX1_countBefore) B.pre
  have hown : s.vm.findClass RX1 = some m.cls := findClass_of_methodNamed B.named
  have hlocks := B.notSynchronized
  have S : CallFix p m c cX1_countBefore 7 s ([.ref (Ad 2), .int (nI x), .int (nI d), .int (nI b)]).toArray wsX1_countBefore RX1 := ⟨hx, hb, hml, hown, hts⟩
  change W p l e (k2_rm 1 24) s m _ below meth c s.heap [] 0 0 _ _
  have hl := lv_entry ([.ref (Ad 2), .int (nI x), .int (nI d), .int (nI b)]) (n := 7) (Nat.le_of_ble_eq_true rfl)
  rw [lg_entry_eq]
  generalize (lg_sl ([.ref (Ad 2), .int (nI x), .int (nI d), .int (nI b)]) ++ List.replicate (7 - (lg_sl ([.ref (Ad 2), .int (nI x), .int (nI d), .int (nI b)])).length) Slot.unset).toArray = ls at hl ⊢
  have hl : lv_has ls 7 [(0, .ref (Ad 2)), (1, .int (nI x)), (2, .int (nI d)), (3, .int (nI b))] := hl
  refine lv_lconst (v := 0) hx hb dX1_countBefore_0 (by decide) ?_
  refine lv_lstore (lv' := [(4, .long 0), (0, .ref (Ad 2)), (1, .int (nI x)), (2, .int (nI d)), (3, .int (nI b))]) hx hb dX1_countBefore_1 hl (by decide) rfl (fun ls hl => ?_)
  refine lv_iconst (v := nI 0) hx hb dX1_countBefore_3 (by decide) ?_
  refine lv_istore (lv' := [(6, .int (nI 0)), (4, .long 0), (0, .ref (Ad 2)), (1, .int (nI x)), (2, .int (nI d)), (3, .int (nI b))]) hx hb dX1_countBefore_4 hl (by decide) rfl (fun ls hl => ?_)
  exact L_countBefore S hK hP hF hn hM g b hb0 hg x d hx0 hd (fun pc9 ls hd9 => W.lret hx hb hr (fun t ht _ => ⟨rfl, ht⟩) (fun q h => by cases h) hd9) (d + 1) 0 ls (by omega) (by omega) (lv_sub hl [0, 1, 2, 3, 4, 5] rfl)

set_option maxHeartbeats 4000000 in
set_option maxRecDepth 100000 in
theorem L_countAll_0 {p : Program} {l : Launch} {e : Env} {s : State} {m : MethodId} {args : Array Value} {below : List Frame} {meth : Method} {c : Code} {Q : State → Prop} (S : CallFix p m c cX1_countAll 4 s args wsX1_countAll RX1) {D : va_G} {cy : Nat → ClassId} {Ad : Nat → Nat} {n mm : Nat} {C0 : pw_C} (hK : pw_K D cy s) (hI : pw_I Ad (shX n)) (hF0 : fX n mm Ad C0) (hn : 1 ≤ n ∧ n ≤ 12) {mx : Nat → Nat → Option Nat} (hM0 : gM n mx C0) {en : Nat → Bool} (hE0 : gE n en C0) (len : Nat) (hle : len ≤ 25) (hk : ∀ (C : pw_C) (H : Heap) (locs : List Loc) (ls : Array Slot), pw_P D cy Ad (shX n) C H → va_S (pw_fr Ad (shX n)) s.heap H locs → (pw_B (fun k => 53 ≤ k) C0 C ∧ ∀ y, y < n → C.2.1 (53 + 0) y = cnW mx en 0 y) → lv_has ls 4 [(0, .ref (Ad 2)), (1, .int (nI len))] → W p l e (k2_rm 2 50) s m args below meth c H locs 0 0 Q (F0 m 38 ls [])) : ∀ (f : Nat) (C : pw_C) (H : Heap) (locs : List Loc) (x : Nat) (ls : Array Slot), n - x < f → (pw_P D cy Ad (shX n) C H) → (va_S (pw_fr Ad (shX n)) s.heap H locs) → (pw_B (fun k => 53 ≤ k) C0 C) → (x ≤ n) → (∀ y, y < x → C.2.1 (53 + 0) y = cnW mx en 0 y) → lv_has ls 4 [(2, .int (nI x)), (0, .ref (Ad 2)), (1, .int (nI len))] → W p l e (k2_rm 2 50) s m args below meth c H locs 0 0 Q (F0 m 2 ls []) := by
  have hx := S.1
  have hb := S.2.1
  have hml := S.2.2.1
  have hown := S.2.2.2.1
  have hts := S.2.2.2.2
  intro f
  induction f with
  | zero => intro C H locs x ls hf; exact absurd hf (Nat.not_lt_zero _)
  | succ f ih =>
    intro C H locs x ls hf hP hS hB hx0 hv hl
    have hF := fX_B hF0 hB
    have hM := gM_B hM0 hB (fun u9 hu9 h9 => by have h8 : 53 ≤ 41 + u9 := h9; omega)
    have hE := gE_B hE0 hB (fun h9 => by have h8 : (53 : Nat) ≤ 12 := h9; omega)
    refine lv_iload_n hx hb dX1_countAll_2 rfl (lv_at hl 0 rfl) ?_
    refine lv_aload_n hx hb dX1_countAll_3 rfl (lv_at hl 1 rfl) ?_
    refine pw_get hx hb hts (fun _ h9 => List.mem_cons_of_mem _ (List.mem_append_right _ h9)) hown hK hP 2 rfl rfl 0 (by decide) hF.2.2.1 rfl (hts (.fieldLink RX1 9 "PastDraws$Machine" "n" "I") (List.mem_of_getElem? (i := 1) rfl)) dX1_countAll_4 ?_
    refine pn_icmp_ge (tgt := 38) hx hb (by omega) (by omega) dX1_countAll_7 (by decide) (fun c_7 => ?_) (fun c_7 => ?_)
    · obtain rfl : x = n := by omega
      exact hk C H locs ls hP hS ⟨hB, hv⟩ (lv_sub hl [1, 2] rfl)
    · refine lv_aload_n hx hb dX1_countAll_10 rfl (lv_at hl 1 rfl) ?_
      refine pw_get hx hb hts (fun _ h9 => List.mem_cons_of_mem _ (List.mem_append_right _ h9)) hown hK hP 2 rfl rfl 3 (by decide) hF.2.2.1 rfl (hts (.fieldLink RX1 26 "PastDraws$Machine" "counts" "[[J") (List.mem_of_getElem? (i := 2) rfl)) dX1_countAll_11 ?_
      refine lv_iconst (v := nI 0) hx hb dX1_countAll_14 (by decide) ?_
      refine pw_aald5 hx hb hK hP 13 rfl (by first | exact sgn_lt _ _ | omega) (by decide) dX1_countAll_15 ?_
      refine lv_iload_n hx hb dX1_countAll_16 rfl (lv_at hl 0 rfl) ?_
      refine lv_aload_n hx hb dX1_countAll_17 rfl (lv_at hl 1 rfl) ?_
      refine pw_get hx hb hts (fun _ h9 => List.mem_cons_of_mem _ (List.mem_append_right _ h9)) hown hK hP 2 rfl rfl 2 (by decide) hF.2.2.1 rfl (hts (.fieldLink RX1 20 "PastDraws$Machine" "ends" "[Z") (List.mem_of_getElem? (i := 3) rfl)) dX1_countAll_18 ?_
      refine lv_iload_n hx hb dX1_countAll_21 rfl (lv_at hl 0 rfl) ?_
      refine pw_zald hx hb hK hP 12 rfl (by first | exact sgn_lt _ _ | omega) (by first | decide | omega) (v := pb (en x)) (hE x (by omega)) dX1_countAll_22 ?_
      refine pn_ifeq_b (tgt := 30) hx hb dX1_countAll_23 (by decide) (fun c_23 => ?_) (fun c_23 => ?_)
      · have e9 : cnW mx en 0 x = 0 := by rw [cnW, if_neg (by rw [c_23]; decide)]
        refine lv_lconst (v := 0) hx hb dX1_countAll_30 (by decide) ?_
        refine pw_last hx hb hK hP hI hS (53 + 0) (shX_co (by first | exact sgn_lt _ _ | omega)) (by first | exact sgn_lt _ _ | omega) (by first | decide | omega) dX1_countAll_31 (fun H locs hP hS => ?_)
        obtain ⟨C31, hC31⟩ : ∃ z9, z9 = pw_setL C (53 + 0) x 0 := ⟨_, rfl⟩
        rw [← hC31] at hP
        have hB := by have hB9 := hB; exact (show pw_B (fun k => 53 ≤ k) C0 C31 by rw [hC31]; exact hB9.setL (by show 53 ≤ (53 + 0); first | trivial | omega))
        have hF := fX_B hF0 hB
        have hM := gM_B hM0 hB (fun u9 hu9 h9 => by have h8 : 53 ≤ 41 + u9 := h9; omega)
        have hE := gE_B hE0 hB (fun h9 => by have h8 : (53 : Nat) ≤ 12 := h9; omega)
        refine lv_iinc (v := nI (x + 1)) (lv' := [(2, .int (nI (x + 1))), (0, .ref (Ad 2)), (1, .int (nI len))]) hx hb dX1_countAll_32 hl (k := 0) rfl (nI_add _ 1) (by decide) rfl (fun ls hl => ?_)
        refine lv_goto (tgt := 2) hx hb dX1_countAll_35 (by decide) ?_
        exact ih C31 H locs (x + 1) ls (by omega) hP hS hB (by omega) (fun y hy => by
          rw [hC31, sl_at]
          by_cases q : y = x
          · rw [if_pos q, q]; exact e9.symm
          · rw [if_neg q]; exact hv y (by omega)) (lv_sub hl [0, 1, 2] rfl)
      · have e9 : cnW mx en 0 x = 1 := by rw [cnW, if_pos c_23]
        refine lv_lconst (v := 1) hx hb dX1_countAll_26 (by decide) ?_
        refine lv_goto (tgt := 31) hx hb dX1_countAll_27 (by decide) ?_
        refine pw_last hx hb hK hP hI hS (53 + 0) (shX_co (by first | exact sgn_lt _ _ | omega)) (by first | exact sgn_lt _ _ | omega) (by first | decide | omega) dX1_countAll_31 (fun H locs hP hS => ?_)
        obtain ⟨C31, hC31⟩ : ∃ z9, z9 = pw_setL C (53 + 0) x 1 := ⟨_, rfl⟩
        rw [← hC31] at hP
        have hB := by have hB9 := hB; exact (show pw_B (fun k => 53 ≤ k) C0 C31 by rw [hC31]; exact hB9.setL (by show 53 ≤ (53 + 0); first | trivial | omega))
        have hF := fX_B hF0 hB
        have hM := gM_B hM0 hB (fun u9 hu9 h9 => by have h8 : 53 ≤ 41 + u9 := h9; omega)
        have hE := gE_B hE0 hB (fun h9 => by have h8 : (53 : Nat) ≤ 12 := h9; omega)
        refine lv_iinc (v := nI (x + 1)) (lv' := [(2, .int (nI (x + 1))), (0, .ref (Ad 2)), (1, .int (nI len))]) hx hb dX1_countAll_32 hl (k := 0) rfl (nI_add _ 1) (by decide) rfl (fun ls hl => ?_)
        refine lv_goto (tgt := 2) hx hb dX1_countAll_35 (by decide) ?_
        exact ih C31 H locs (x + 1) ls (by omega) hP hS hB (by omega) (fun y hy => by
          rw [hC31, sl_at]
          by_cases q : y = x
          · rw [if_pos q, q]; exact e9.symm
          · rw [if_neg q]; exact hv y (by omega)) (lv_sub hl [0, 1, 2] rfl)

set_option maxHeartbeats 4000000 in
set_option maxRecDepth 100000 in
theorem L_countAll_in {p : Program} {l : Launch} {e : Env} {s : State} {m : MethodId} {args : Array Value} {below : List Frame} {meth : Method} {c : Code} {Q : State → Prop} (S : CallFix p m c cX1_countAll 4 s args wsX1_countAll RX1) {D : va_G} {cy : Nat → ClassId} {Ad : Nat → Nat} {n mm : Nat} {C0 : pw_C} (hK : pw_K D cy s) (hI : pw_I Ad (shX n)) (hF0 : fX n mm Ad C0) (hn : 1 ≤ n ∧ n ≤ 12) {mx : Nat → Nat → Option Nat} (hM0 : gM n mx C0) {en : Nat → Bool} (hE0 : gE n en C0) (len : Nat) (hle : len ≤ 25) (l9 : Nat) (hl9 : l9 + 1 ≤ len) (hk : ∀ (C : pw_C) (H : Heap) (locs : List Loc) (ls : Array Slot), pw_P D cy Ad (shX n) C H → va_S (pw_fr Ad (shX n)) s.heap H locs → (pw_B (fun k => 53 ≤ k) C0 C ∧ (∀ l, l ≤ l9 → ∀ y, y < n → C.2.1 (53 + l) y = cnW mx en l y) ∧ ∀ y, y < n → C.2.1 (53 + (l9 + 1)) y = cnW mx en (l9 + 1) y) → lv_has ls 4 [(2, .int (nI (l9 + 1))), (0, .ref (Ad 2)), (1, .int (nI len))] → W p l e (k2_rm 2 50) s m args below meth c H locs 0 0 Q (F0 m 78 ls [])) : ∀ (f : Nat) (C : pw_C) (H : Heap) (locs : List Loc) (x : Nat) (ls : Array Slot), n - x < f → (pw_P D cy Ad (shX n) C H) → (va_S (pw_fr Ad (shX n)) s.heap H locs) → (pw_B (fun k => 53 ≤ k) C0 C) → (x ≤ n) → (∀ l, l ≤ l9 → ∀ y, y < n → C.2.1 (53 + l) y = cnW mx en l y) → (∀ y, y < x → C.2.1 (53 + (l9 + 1)) y = cnW mx en (l9 + 1) y) → lv_has ls 4 [(3, .int (nI x)), (2, .int (nI (l9 + 1))), (0, .ref (Ad 2)), (1, .int (nI len))] → W p l e (k2_rm 2 50) s m args below meth c H locs 0 0 Q (F0 m 47 ls []) := by
  have hx := S.1
  have hb := S.2.1
  have hml := S.2.2.1
  have hown := S.2.2.2.1
  have hts := S.2.2.2.2
  intro f
  induction f with
  | zero => intro C H locs x ls hf; exact absurd hf (Nat.not_lt_zero _)
  | succ f ih =>
    intro C H locs x ls hf hP hS hB hx0 hr hv hl
    have hF := fX_B hF0 hB
    have hM := gM_B hM0 hB (fun u9 hu9 h9 => by have h8 : 53 ≤ 41 + u9 := h9; omega)
    have hE := gE_B hE0 hB (fun h9 => by have h8 : (53 : Nat) ≤ 12 := h9; omega)
    refine lv_iload_n hx hb dX1_countAll_47 rfl (lv_at hl 0 rfl) ?_
    refine lv_aload_n hx hb dX1_countAll_48 rfl (lv_at hl 2 rfl) ?_
    refine pw_get hx hb hts (fun _ h9 => List.mem_cons_of_mem _ (List.mem_append_right _ h9)) hown hK hP 2 rfl rfl 0 (by decide) hF.2.2.1 rfl (hts (.fieldLink RX1 9 "PastDraws$Machine" "n" "I") (List.mem_of_getElem? (i := 1) rfl)) dX1_countAll_49 ?_
    refine pn_icmp_ge (tgt := 78) hx hb (by omega) (by omega) dX1_countAll_52 (by decide) (fun c_52 => ?_) (fun c_52 => ?_)
    · obtain rfl : x = n := by omega
      exact hk C H locs ls hP hS ⟨hB, hr, hv⟩ (lv_sub hl [1, 2, 3] rfl)
    · refine lv_aload_n hx hb dX1_countAll_55 rfl (lv_at hl 2 rfl) ?_
      refine pw_get hx hb hts (fun _ h9 => List.mem_cons_of_mem _ (List.mem_append_right _ h9)) hown hK hP 2 rfl rfl 3 (by decide) hF.2.2.1 rfl (hts (.fieldLink RX1 26 "PastDraws$Machine" "counts" "[[J") (List.mem_of_getElem? (i := 2) rfl)) dX1_countAll_56 ?_
      refine lv_iload_n hx hb dX1_countAll_59 rfl (lv_at hl 1 rfl) ?_
      refine pw_aald5 hx hb hK hP 13 rfl (by first | exact sgn_lt _ _ | omega) (by decide) dX1_countAll_60 ?_
      refine lv_iload_n hx hb dX1_countAll_61 rfl (lv_at hl 0 rfl) ?_
      refine lv_aload_n hx hb dX1_countAll_62 rfl (lv_at hl 2 rfl) ?_
      refine lv_iload_n hx hb dX1_countAll_63 rfl (lv_at hl 0 rfl) ?_
      refine lv_iconst (v := nI 4) hx hb dX1_countAll_64 (by decide) ?_
      refine lv_iload_n hx hb dX1_countAll_65 rfl (lv_at hl 1 rfl) ?_
      refine lv_iconst (v := nI 1) hx hb dX1_countAll_66 (by decide) ?_
      refine lv_isub hx hb dX1_countAll_67 ?_
      refine pw_topi (y := nI l9) (pk_sub (by omega)) ?_
      refine pw_cv S hK hP 2 1 rfl rfl 3 (c_X1_countBefore l D cy Ad n mm C hn hF mx hM (cnW mx en l9) l9 (by omega) (hr l9 (by omega)) x 4 (by omega) (by omega)) gX1_countAll_X1_countBefore rfl rfl rfl (by decide +kernel) ⟨Nat.le_of_ble_eq_true rfl, Nat.le_of_ble_eq_true rfl⟩ rfl hl.1 rfl (Nat.le_of_ble_eq_true rfl) dX1_countAll_68 ⟨Nat.le_refl _, Nat.le_refl _⟩ ?_
      refine pw_last hx hb hK hP hI hS (53 + (l9 + 1)) (shX_co (by first | exact sgn_lt _ _ | omega)) (by first | exact sgn_lt _ _ | omega) (by first | decide | omega) dX1_countAll_71 (fun H locs hP hS => ?_)
      obtain ⟨C71, hC71⟩ : ∃ z9, z9 = pw_setL C (53 + (l9 + 1)) x (cbS mx (cnW mx en l9) x 4) := ⟨_, rfl⟩
      rw [← hC71] at hP
      have hB := by have hB9 := hB; exact (show pw_B (fun k => 53 ≤ k) C0 C71 by rw [hC71]; exact hB9.setL (by show 53 ≤ (53 + (l9 + 1)); first | trivial | omega))
      have hF := fX_B hF0 hB
      have hM := gM_B hM0 hB (fun u9 hu9 h9 => by have h8 : 53 ≤ 41 + u9 := h9; omega)
      have hE := gE_B hE0 hB (fun h9 => by have h8 : (53 : Nat) ≤ 12 := h9; omega)
      refine lv_iinc (v := nI (x + 1)) (lv' := [(3, .int (nI (x + 1))), (2, .int (nI (l9 + 1))), (0, .ref (Ad 2)), (1, .int (nI len))]) hx hb dX1_countAll_72 hl (k := 0) rfl (nI_add _ 1) (by decide) rfl (fun ls hl => ?_)
      refine lv_goto (tgt := 47) hx hb dX1_countAll_75 (by decide) ?_
      exact ih C71 H locs (x + 1) ls (by omega) hP hS hB (by omega) (fun l hl9 y hy => by
        rw [hC71, sl_ne (by omega)]; exact hr l hl9 y hy) (fun y hy => by
        rw [hC71, sl_at]
        by_cases q : y = x
        · rw [if_pos q, q]; rfl
        · rw [if_neg q]; exact hv y (by omega)) (lv_sub hl [0, 1, 2, 3] rfl)

set_option maxHeartbeats 4000000 in
set_option maxRecDepth 100000 in
theorem L_countAll {p : Program} {l : Launch} {e : Env} {s : State} {m : MethodId} {args : Array Value} {below : List Frame} {meth : Method} {c : Code} {Q : State → Prop} (S : CallFix p m c cX1_countAll 4 s args wsX1_countAll RX1) {D : va_G} {cy : Nat → ClassId} {Ad : Nat → Nat} {n mm : Nat} {C0 : pw_C} (hK : pw_K D cy s) (hI : pw_I Ad (shX n)) (hF0 : fX n mm Ad C0) (hn : 1 ≤ n ∧ n ≤ 12) {mx : Nat → Nat → Option Nat} (hM0 : gM n mx C0) {en : Nat → Bool} (hE0 : gE n en C0) (len : Nat) (hle : len ≤ 25) (hk : ∀ (C : pw_C) (H : Heap) (locs : List Loc) (ls : Array Slot), pw_P D cy Ad (shX n) C H → va_S (pw_fr Ad (shX n)) s.heap H locs → (pw_B (fun k => 53 ≤ k) C0 C ∧ ∀ l, l ≤ len → ∀ y, y < n → C.2.1 (53 + l) y = cnW mx en l y) → lv_has ls 4 [(0, .ref (Ad 2)), (1, .int (nI len))] → W p l e (k2_rm 2 50) s m args below meth c H locs 0 0 Q (F0 m 84 ls [])) : ∀ (f : Nat) (C : pw_C) (H : Heap) (locs : List Loc) (l9 : Nat) (ls : Array Slot), len - l9 < f → (pw_P D cy Ad (shX n) C H) → (va_S (pw_fr Ad (shX n)) s.heap H locs) → (pw_B (fun k => 53 ≤ k) C0 C) → (l9 ≤ len) → (∀ l, l ≤ l9 → ∀ y, y < n → C.2.1 (53 + l) y = cnW mx en l y) → lv_has ls 4 [(2, .int (nI (l9 + 1))), (0, .ref (Ad 2)), (1, .int (nI len))] → W p l e (k2_rm 2 50) s m args below meth c H locs 0 0 Q (F0 m 40 ls []) := by
  have hx := S.1
  have hb := S.2.1
  have hml := S.2.2.1
  have hown := S.2.2.2.1
  have hts := S.2.2.2.2
  intro f
  induction f with
  | zero => intro C H locs l9 ls hf; exact absurd hf (Nat.not_lt_zero _)
  | succ f ih =>
    intro C H locs l9 ls hf hP hS hB hl0 hr hl
    refine lv_iload_n hx hb dX1_countAll_40 rfl (lv_at hl 0 rfl) ?_
    refine lv_iload_n hx hb dX1_countAll_41 rfl (lv_at hl 2 rfl) ?_
    refine pn_icmp_gt (tgt := 84) hx hb (by omega) (by omega) dX1_countAll_42 (by decide) (fun c_42 => ?_) (fun c_42 => ?_)
    · obtain rfl : l9 = len := by omega
      exact hk C H locs ls hP hS ⟨hB, hr⟩ (lv_sub hl [1, 2] rfl)
    · refine lv_iconst (v := nI 0) hx hb dX1_countAll_45 (by decide) ?_
      refine lv_istore_n (lv' := [(3, .int (nI 0)), (2, .int (nI (l9 + 1))), (0, .ref (Ad 2)), (1, .int (nI len))]) hx hb dX1_countAll_46 rfl hl (by decide) rfl (fun ls hl => ?_)
      refine L_countAll_in S hK hI hF0 hn hM0 hE0 len hle l9 (by omega) (fun C H locs ls hP hS hR hl => ?_) (n + 1) C H locs 0 ls (by omega) hP hS hB (by omega) hr (fun y hy => by omega) (lv_sub hl [0, 1, 2, 3] rfl)
      obtain ⟨hB, hr, hv⟩ := hR
      refine lv_iinc (v := nI ((l9 + 1) + 1)) (lv' := [(2, .int (nI ((l9 + 1) + 1))), (0, .ref (Ad 2)), (1, .int (nI len))]) hx hb dX1_countAll_78 hl (k := 0) rfl (nI_add _ 1) (by decide) rfl (fun ls hl => ?_)
      refine lv_goto (tgt := 40) hx hb dX1_countAll_81 (by decide) ?_
      exact ih C H locs (l9 + 1) ls (by omega) hP hS hB (by omega) (fun l hl9 y hy => by
        rcases Nat.lt_or_ge l (l9 + 1) with q | q
        · exact hr l (by omega) y hy
        · obtain rfl : l = l9 + 1 := by omega
          exact hv y hy) (lv_sub hl [0, 1, 2] rfl)

set_option maxHeartbeats 4000000 in
set_option maxRecDepth 100000 in
theorem c_X1_countAll (l : Launch) (D : va_G) (cy : Nat → ClassId) (Ad : Nat → Nat) (n mm : Nat) (C : pw_C) (hI : pw_I Ad (shX n)) (hn : 1 ≤ n ∧ n ≤ 12) (hF : fX n mm Ad C) (mx : Nat → Nat → Option Nat) (hM : gM n mx C) (en : Nat → Bool) (hE : gE n en C) (len : Nat) (hle : len ≤ 25) : Met l yX1_countAll wsX1_countAll (k2_rm 2 50) (pw_Pre ([.ref (Ad 2), .int (nI len)]) D cy Ad (shX n) C) (pw_Post (fun r9 C' => r9 = some (.long (cnW mx en len 0)) ∧ (pw_B (fun k => 53 ≤ k) C C' ∧ ∀ l, l ≤ len → ∀ y, y < n → C'.2.1 (53 + l) y = cnW mx en l y)) D cy Ad (shX n)) 0 0 (pw_fr Ad (shX n)) := by
  refine Met.ofW (cc := cX1_countAll) (maxL := 4) (ret := (some .long)) (by decide) rfl ?_
  intro p e s m args below meth c s₁ B hml hv
  obtain ⟨rfl, hP, hK⟩ := hv
  have hx := B.exec
  have hb := B.bytes
  have hr := B.returns
  have hts := atoms_spec (ws := wsX1_countAll) B.pre
  have hown : s.vm.findClass RX1 = some m.cls := findClass_of_methodNamed B.named
  have hlocks := B.notSynchronized
  have S : CallFix p m c cX1_countAll 4 s ([.ref (Ad 2), .int (nI len)]).toArray wsX1_countAll RX1 := ⟨hx, hb, hml, hown, hts⟩
  change W p l e (k2_rm 2 50) s m _ below meth c s.heap [] 0 0 _ _
  have hl := lv_entry ([.ref (Ad 2), .int (nI len)]) (n := 4) (Nat.le_of_ble_eq_true rfl)
  rw [lg_entry_eq]
  generalize (lg_sl ([.ref (Ad 2), .int (nI len)]) ++ List.replicate (4 - (lg_sl ([.ref (Ad 2), .int (nI len)])).length) Slot.unset).toArray = ls at hl ⊢
  have hl : lv_has ls 4 [(0, .ref (Ad 2)), (1, .int (nI len))] := hl
  have hS : va_S (pw_fr Ad (shX n)) s.heap s.heap [] := va_S.rf
  refine lv_iconst (v := nI 0) hx hb dX1_countAll_0 (by decide) ?_
  refine lv_istore_n (lv' := [(2, .int (nI 0)), (0, .ref (Ad 2)), (1, .int (nI len))]) hx hb dX1_countAll_1 rfl hl (by decide) rfl (fun ls hl => ?_)
  refine L_countAll_0 S hK hI hF hn hM hE len hle (fun C1 H locs ls hP hS hR hl => ?_) (n + 1) C s.heap [] 0 ls (by omega) hP hS pw_B.rf (by omega) (fun y hy => by omega) (lv_sub hl [0, 1, 2] rfl)
  refine lv_iconst (v := nI 1) hx hb dX1_countAll_38 (by decide) ?_
  refine lv_istore_n (lv' := [(2, .int (nI 1)), (0, .ref (Ad 2)), (1, .int (nI len))]) hx hb dX1_countAll_39 rfl hl (by decide) rfl (fun ls hl => ?_)
  refine L_countAll S hK hI hF hn hM hE len hle (fun C2 H locs ls hP hS hR hl => ?_) (len + 1) C1 H locs 0 ls (by omega) hP hS hR.1 (by omega) (fun l hl9 y hy => by obtain rfl : l = 0 := (by omega); exact hR.2 y hy) (lv_sub hl [0, 1, 2] rfl)
  have hF := fX_B hF hR.1
  refine lv_aload_n hx hb dX1_countAll_84 rfl (lv_at hl 0 rfl) ?_
  refine pw_get hx hb hts (fun _ h9 => List.mem_cons_of_mem _ (List.mem_append_right _ h9)) hown hK hP 2 rfl rfl 3 (by decide) hF.2.2.1 rfl (hts (.fieldLink RX1 26 "PastDraws$Machine" "counts" "[[J") (List.mem_of_getElem? (i := 2) rfl)) dX1_countAll_85 ?_
  refine lv_iload_n hx hb dX1_countAll_88 rfl (lv_at hl 1 rfl) ?_
  refine pw_aald5 hx hb hK hP 13 rfl (by first | exact sgn_lt _ _ | omega) (by decide) dX1_countAll_89 ?_
  refine lv_iconst (v := nI 0) hx hb dX1_countAll_90 (by decide) ?_
  refine pw_lald hx hb hK hP (53 + len) (shX_co (by first | exact sgn_lt _ _ | omega)) (by first | exact sgn_lt _ _ | omega) (by omega) (v := cnW mx en len 0) (hR.2 len (Nat.le_refl _) 0 (by omega)) dX1_countAll_91 ?_
  exact W.lret hx hb hr (fun t ht _ => ⟨⟨(some (.long (cnW mx en len 0))), C2, rfl, ⟨rfl, hR⟩, by rw [ht]; exact hP⟩, hS.F ht⟩) hS.2.2 dX1_countAll_92
end
