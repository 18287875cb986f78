-- ===== PART A: goes FIRST, ahead of the names: the tables' words, and 'selects' of the private methods out of them =====
/-- a private method of a class that the tables say can be made, by its rows of tables_1 -/
def lw_okq (q : MethodName × Nat) : Prop := (q.1.cls ≠ "java/lang/invoke/MethodHandle" ∧ q.1.cls ≠ "java/lang/invoke/VarHandle") ∧ Cond.instantiable q.1.cls q.2 ∈ tables_1 ∧ Cond.privateMethod q.1 ∈ tables_1 ∧ Cond.instanceMethod q.1 ∈ tables_1
theorem lw_p0 : lw_okq (⟨"PastDraws", "isState", "(I)Z"⟩, 5) := ⟨⟨by decide +kernel, by decide +kernel⟩, List.mem_of_getElem? (i := 12) (by decide +kernel), List.mem_of_getElem? (i := 179) (by decide +kernel), List.mem_of_getElem? (i := 180) (by decide +kernel)⟩
theorem lw_p1 : lw_okq (⟨"PastDraws$Chain", "lengthenMap", "(I)V"⟩, 7) := ⟨⟨by decide +kernel, by decide +kernel⟩, List.mem_of_getElem? (i := 26) (by decide +kernel), List.mem_of_getElem? (i := 209) (by decide +kernel), List.mem_of_getElem? (i := 210) (by decide +kernel)⟩
theorem lw_p2 : lw_okq (⟨"PastDraws$Chain", "mapMeets", "()Z"⟩, 7) := ⟨⟨by decide +kernel, by decide +kernel⟩, List.mem_of_getElem? (i := 26) (by decide +kernel), List.mem_of_getElem? (i := 216) (by decide +kernel), List.mem_of_getElem? (i := 217) (by decide +kernel)⟩
theorem lw_p3 : lw_okq (⟨"PastDraws$Chain", "boundsMeet", "(II)Z"⟩, 7) := ⟨⟨by decide +kernel, by decide +kernel⟩, List.mem_of_getElem? (i := 26) (by decide +kernel), List.mem_of_getElem? (i := 235) (by decide +kernel), List.mem_of_getElem? (i := 236) (by decide +kernel)⟩
theorem lw_p4 : lw_okq (⟨"PastDraws$Chain", "allStates", "()I"⟩, 7) := ⟨⟨by decide +kernel, by decide +kernel⟩, List.mem_of_getElem? (i := 26) (by decide +kernel), List.mem_of_getElem? (i := 258) (by decide +kernel), List.mem_of_getElem? (i := 259) (by decide +kernel)⟩
theorem lw_p5 : lw_okq (⟨"PastDraws$Chain", "lengthenRows", "()V"⟩, 7) := ⟨⟨by decide +kernel, by decide +kernel⟩, List.mem_of_getElem? (i := 26) (by decide +kernel), List.mem_of_getElem? (i := 262) (by decide +kernel), List.mem_of_getElem? (i := 263) (by decide +kernel)⟩
theorem lw_p6 : lw_okq (⟨"PastDraws$Chain", "imageOf", "(II)I"⟩, 7) := ⟨⟨by decide +kernel, by decide +kernel⟩, List.mem_of_getElem? (i := 26) (by decide +kernel), List.mem_of_getElem? (i := 266) (by decide +kernel), List.mem_of_getElem? (i := 267) (by decide +kernel)⟩
theorem lw_p7 : lw_okq (⟨"PastDraws$Chain", "fillMinorRow", "(II)V"⟩, 7) := ⟨⟨by decide +kernel, by decide +kernel⟩, List.mem_of_getElem? (i := 26) (by decide +kernel), List.mem_of_getElem? (i := 285) (by decide +kernel), List.mem_of_getElem? (i := 286) (by decide +kernel)⟩
theorem lw_p8 : lw_okq (⟨"PastDraws$Chain", "determinant", "(I)J"⟩, 7) := ⟨⟨by decide +kernel, by decide +kernel⟩, List.mem_of_getElem? (i := 26) (by decide +kernel), List.mem_of_getElem? (i := 295) (by decide +kernel), List.mem_of_getElem? (i := 296) (by decide +kernel)⟩
theorem lw_p9 : lw_okq (⟨"PastDraws$Chain", "blockMeets", "(III)Z"⟩, 7) := ⟨⟨by decide +kernel, by decide +kernel⟩, List.mem_of_getElem? (i := 26) (by decide +kernel), List.mem_of_getElem? (i := 308) (by decide +kernel), List.mem_of_getElem? (i := 309) (by decide +kernel)⟩
theorem lw_p10 : lw_okq (⟨"PastDraws$Chain", "throughBlock", "(IIII)I"⟩, 7) := ⟨⟨by decide +kernel, by decide +kernel⟩, List.mem_of_getElem? (i := 26) (by decide +kernel), List.mem_of_getElem? (i := 312) (by decide +kernel), List.mem_of_getElem? (i := 313) (by decide +kernel)⟩
theorem lw_p11 : lw_okq (⟨"PastDraws$Machine", "countBefore", "(III)J"⟩, 4) := ⟨⟨by decide +kernel, by decide +kernel⟩, List.mem_of_getElem? (i := 60) (by decide +kernel), List.mem_of_getElem? (i := 340) (by decide +kernel), List.mem_of_getElem? (i := 341) (by decide +kernel)⟩
theorem lw_p12 : lw_okq (⟨"PastDraws$Machine", "countWith", "(III)J"⟩, 4) := ⟨⟨by decide +kernel, by decide +kernel⟩, List.mem_of_getElem? (i := 60) (by decide +kernel), List.mem_of_getElem? (i := 344) (by decide +kernel), List.mem_of_getElem? (i := 345) (by decide +kernel)⟩
theorem lw_p13 : lw_okq (⟨"PastDraws$Machine", "letterAt", "(IJI)I"⟩, 4) := ⟨⟨by decide +kernel, by decide +kernel⟩, List.mem_of_getElem? (i := 60) (by decide +kernel), List.mem_of_getElem? (i := 356) (by decide +kernel), List.mem_of_getElem? (i := 357) (by decide +kernel)⟩
theorem lw_p14 : lw_okq (⟨"PastDraws$Orders", "waysBefore", "(III)I"⟩, 2) := ⟨⟨by decide +kernel, by decide +kernel⟩, List.mem_of_getElem? (i := 85) (by decide +kernel), List.mem_of_getElem? (i := 385) (by decide +kernel), List.mem_of_getElem? (i := 386) (by decide +kernel)⟩
theorem lw_p15 : lw_okq (⟨"PastDraws$Orders", "isFree", "(II)Z"⟩, 2) := ⟨⟨by decide +kernel, by decide +kernel⟩, List.mem_of_getElem? (i := 85) (by decide +kernel), List.mem_of_getElem? (i := 389) (by decide +kernel), List.mem_of_getElem? (i := 390) (by decide +kernel)⟩
def lw_privs_1 : List (MethodName × Nat) := [(⟨"PastDraws", "isState", "(I)Z"⟩, 5), (⟨"PastDraws$Chain", "lengthenMap", "(I)V"⟩, 7), (⟨"PastDraws$Chain", "mapMeets", "()Z"⟩, 7), (⟨"PastDraws$Chain", "boundsMeet", "(II)Z"⟩, 7), (⟨"PastDraws$Chain", "allStates", "()I"⟩, 7), (⟨"PastDraws$Chain", "lengthenRows", "()V"⟩, 7), (⟨"PastDraws$Chain", "imageOf", "(II)I"⟩, 7), (⟨"PastDraws$Chain", "fillMinorRow", "(II)V"⟩, 7), (⟨"PastDraws$Chain", "determinant", "(I)J"⟩, 7), (⟨"PastDraws$Chain", "blockMeets", "(III)Z"⟩, 7), (⟨"PastDraws$Chain", "throughBlock", "(IIII)I"⟩, 7), (⟨"PastDraws$Machine", "countBefore", "(III)J"⟩, 4), (⟨"PastDraws$Machine", "countWith", "(III)J"⟩, 4), (⟨"PastDraws$Machine", "letterAt", "(IJI)I"⟩, 4), (⟨"PastDraws$Orders", "waysBefore", "(III)I"⟩, 2), (⟨"PastDraws$Orders", "isFree", "(II)Z"⟩, 2)]
theorem lw_r1 : ∀ q ∈ lw_privs_1, lw_okq q := List.forall_mem_cons.mpr ⟨lw_p0, List.forall_mem_cons.mpr ⟨lw_p1, List.forall_mem_cons.mpr ⟨lw_p2, List.forall_mem_cons.mpr ⟨lw_p3, List.forall_mem_cons.mpr ⟨lw_p4, List.forall_mem_cons.mpr ⟨lw_p5, List.forall_mem_cons.mpr ⟨lw_p6, List.forall_mem_cons.mpr ⟨lw_p7, List.forall_mem_cons.mpr ⟨lw_p8, List.forall_mem_cons.mpr ⟨lw_p9, List.forall_mem_cons.mpr ⟨lw_p10, List.forall_mem_cons.mpr ⟨lw_p11, List.forall_mem_cons.mpr ⟨lw_p12, List.forall_mem_cons.mpr ⟨lw_p13, List.forall_mem_cons.mpr ⟨lw_p14, List.forall_mem_cons.mpr ⟨lw_p15, fun _ h => absurd h List.not_mem_nil⟩⟩⟩⟩⟩⟩⟩⟩⟩⟩⟩⟩⟩⟩⟩⟩
theorem lw_p16 : lw_okq (⟨"PastDraws$Orders", "nextNumber", "(III)I"⟩, 2) := ⟨⟨by decide +kernel, by decide +kernel⟩, List.mem_of_getElem? (i := 85) (by decide +kernel), List.mem_of_getElem? (i := 407) (by decide +kernel), List.mem_of_getElem? (i := 408) (by decide +kernel)⟩
theorem lw_p17 : lw_okq (⟨"PastDraws$Table", "firstUnder", "(I)I"⟩, 6) := ⟨⟨by decide +kernel, by decide +kernel⟩, List.mem_of_getElem? (i := 99) (by decide +kernel), List.mem_of_getElem? (i := 451) (by decide +kernel), List.mem_of_getElem? (i := 452) (by decide +kernel)⟩
theorem lw_p18 : lw_okq (⟨"PastDraws$Table", "firstOver", "(I)I"⟩, 6) := ⟨⟨by decide +kernel, by decide +kernel⟩, List.mem_of_getElem? (i := 99) (by decide +kernel), List.mem_of_getElem? (i := 455) (by decide +kernel), List.mem_of_getElem? (i := 456) (by decide +kernel)⟩
theorem lw_p19 : lw_okq (⟨"PastDrawsModel", "find", "(IJ)V"⟩, 20) := ⟨⟨by decide +kernel, by decide +kernel⟩, List.mem_of_getElem? (i := 481) (by decide +kernel), List.mem_of_getElem? (i := 564) (by decide +kernel), List.mem_of_getElem? (i := 565) (by decide +kernel)⟩
theorem lw_p20 : lw_okq (⟨"PastDrawsModel", "isState", "(I)Z"⟩, 20) := ⟨⟨by decide +kernel, by decide +kernel⟩, List.mem_of_getElem? (i := 481) (by decide +kernel), List.mem_of_getElem? (i := 578) (by decide +kernel), List.mem_of_getElem? (i := 579) (by decide +kernel)⟩
theorem lw_p21 : lw_okq (⟨"PastDrawsModel", "sign", "(II)I"⟩, 20) := ⟨⟨by decide +kernel, by decide +kernel⟩, List.mem_of_getElem? (i := 481) (by decide +kernel), List.mem_of_getElem? (i := 591) (by decide +kernel), List.mem_of_getElem? (i := 592) (by decide +kernel)⟩
theorem lw_p22 : lw_okq (⟨"PastDrawsModel", "begin", "()V"⟩, 20) := ⟨⟨by decide +kernel, by decide +kernel⟩, List.mem_of_getElem? (i := 481) (by decide +kernel), List.mem_of_getElem? (i := 599) (by decide +kernel), List.mem_of_getElem? (i := 600) (by decide +kernel)⟩
theorem lw_p23 : lw_okq (⟨"PastDrawsModel", "ahead", "(I)V"⟩, 20) := ⟨⟨by decide +kernel, by decide +kernel⟩, List.mem_of_getElem? (i := 481) (by decide +kernel), List.mem_of_getElem? (i := 603) (by decide +kernel), List.mem_of_getElem? (i := 604) (by decide +kernel)⟩
theorem lw_p24 : lw_okq (⟨"PastDrawsModel", "meets", "()Z"⟩, 20) := ⟨⟨by decide +kernel, by decide +kernel⟩, List.mem_of_getElem? (i := 481) (by decide +kernel), List.mem_of_getElem? (i := 607) (by decide +kernel), List.mem_of_getElem? (i := 608) (by decide +kernel)⟩
theorem lw_p25 : lw_okq (⟨"PastDrawsModel", "bound", "(III)I"⟩, 20) := ⟨⟨by decide +kernel, by decide +kernel⟩, List.mem_of_getElem? (i := 481) (by decide +kernel), List.mem_of_getElem? (i := 620) (by decide +kernel), List.mem_of_getElem? (i := 621) (by decide +kernel)⟩
theorem lw_p26 : lw_okq (⟨"PastDrawsModel", "behind", "(I)V"⟩, 20) := ⟨⟨by decide +kernel, by decide +kernel⟩, List.mem_of_getElem? (i := 481) (by decide +kernel), List.mem_of_getElem? (i := 633) (by decide +kernel), List.mem_of_getElem? (i := 634) (by decide +kernel)⟩
theorem lw_p27 : lw_okq (⟨"PastDrawsModel", "treesOf", "(I)J"⟩, 20) := ⟨⟨by decide +kernel, by decide +kernel⟩, List.mem_of_getElem? (i := 481) (by decide +kernel), List.mem_of_getElem? (i := 641) (by decide +kernel), List.mem_of_getElem? (i := 642) (by decide +kernel)⟩
theorem lw_p28 : lw_okq (⟨"PastDrawsModel", "cellOf", "(II)J"⟩, 20) := ⟨⟨by decide +kernel, by decide +kernel⟩, List.mem_of_getElem? (i := 481) (by decide +kernel), List.mem_of_getElem? (i := 645) (by decide +kernel), List.mem_of_getElem? (i := 646) (by decide +kernel)⟩
theorem lw_p29 : lw_okq (⟨"PastDrawsModel", "determinant", "(I)J"⟩, 20) := ⟨⟨by decide +kernel, by decide +kernel⟩, List.mem_of_getElem? (i := 481) (by decide +kernel), List.mem_of_getElem? (i := 649) (by decide +kernel), List.mem_of_getElem? (i := 650) (by decide +kernel)⟩
theorem lw_p30 : lw_okq (⟨"PastDrawsModel", "countWords", "(I)V"⟩, 20) := ⟨⟨by decide +kernel, by decide +kernel⟩, List.mem_of_getElem? (i := 481) (by decide +kernel), List.mem_of_getElem? (i := 672) (by decide +kernel), List.mem_of_getElem? (i := 673) (by decide +kernel)⟩
theorem lw_p31 : lw_okq (⟨"PastDrawsModel", "goesOn", "(III)J"⟩, 20) := ⟨⟨by decide +kernel, by decide +kernel⟩, List.mem_of_getElem? (i := 481) (by decide +kernel), List.mem_of_getElem? (i := 680) (by decide +kernel), List.mem_of_getElem? (i := 681) (by decide +kernel)⟩
def lw_privs_2 : List (MethodName × Nat) := [(⟨"PastDraws$Orders", "nextNumber", "(III)I"⟩, 2), (⟨"PastDraws$Table", "firstUnder", "(I)I"⟩, 6), (⟨"PastDraws$Table", "firstOver", "(I)I"⟩, 6), (⟨"PastDrawsModel", "find", "(IJ)V"⟩, 20), (⟨"PastDrawsModel", "isState", "(I)Z"⟩, 20), (⟨"PastDrawsModel", "sign", "(II)I"⟩, 20), (⟨"PastDrawsModel", "begin", "()V"⟩, 20), (⟨"PastDrawsModel", "ahead", "(I)V"⟩, 20), (⟨"PastDrawsModel", "meets", "()Z"⟩, 20), (⟨"PastDrawsModel", "bound", "(III)I"⟩, 20), (⟨"PastDrawsModel", "behind", "(I)V"⟩, 20), (⟨"PastDrawsModel", "treesOf", "(I)J"⟩, 20), (⟨"PastDrawsModel", "cellOf", "(II)J"⟩, 20), (⟨"PastDrawsModel", "determinant", "(I)J"⟩, 20), (⟨"PastDrawsModel", "countWords", "(I)V"⟩, 20), (⟨"PastDrawsModel", "goesOn", "(III)J"⟩, 20)]
theorem lw_r2 : ∀ q ∈ lw_privs_2, lw_okq q := List.forall_mem_cons.mpr ⟨lw_p16, List.forall_mem_cons.mpr ⟨lw_p17, List.forall_mem_cons.mpr ⟨lw_p18, List.forall_mem_cons.mpr ⟨lw_p19, List.forall_mem_cons.mpr ⟨lw_p20, List.forall_mem_cons.mpr ⟨lw_p21, List.forall_mem_cons.mpr ⟨lw_p22, List.forall_mem_cons.mpr ⟨lw_p23, List.forall_mem_cons.mpr ⟨lw_p24, List.forall_mem_cons.mpr ⟨lw_p25, List.forall_mem_cons.mpr ⟨lw_p26, List.forall_mem_cons.mpr ⟨lw_p27, List.forall_mem_cons.mpr ⟨lw_p28, List.forall_mem_cons.mpr ⟨lw_p29, List.forall_mem_cons.mpr ⟨lw_p30, List.forall_mem_cons.mpr ⟨lw_p31, fun _ h => absurd h List.not_mem_nil⟩⟩⟩⟩⟩⟩⟩⟩⟩⟩⟩⟩⟩⟩⟩⟩
theorem lw_p32 : lw_okq (⟨"PastDrawsModel", "countWays", "(I)V"⟩, 20) := ⟨⟨by decide +kernel, by decide +kernel⟩, List.mem_of_getElem? (i := 481) (by decide +kernel), List.mem_of_getElem? (i := 698) (by decide +kernel), List.mem_of_getElem? (i := 699) (by decide +kernel)⟩
theorem lw_p33 : lw_okq (⟨"PastDrawsModel", "wayOn", "(III)I"⟩, 20) := ⟨⟨by decide +kernel, by decide +kernel⟩, List.mem_of_getElem? (i := 481) (by decide +kernel), List.mem_of_getElem? (i := 706) (by decide +kernel), List.mem_of_getElem? (i := 707) (by decide +kernel)⟩
theorem lw_p34 : lw_okq (⟨"PastDrawsModel", "isThing", "(I)Z"⟩, 20) := ⟨⟨by decide +kernel, by decide +kernel⟩, List.mem_of_getElem? (i := 481) (by decide +kernel), List.mem_of_getElem? (i := 723) (by decide +kernel), List.mem_of_getElem? (i := 724) (by decide +kernel)⟩
theorem lw_p35 : lw_okq (⟨"PastDrawsModel", "sum", "()I"⟩, 20) := ⟨⟨by decide +kernel, by decide +kernel⟩, List.mem_of_getElem? (i := 481) (by decide +kernel), List.mem_of_getElem? (i := 733) (by decide +kernel), List.mem_of_getElem? (i := 734) (by decide +kernel)⟩
theorem lw_p36 : lw_okq (⟨"PastDrawsModel", "make", "()V"⟩, 20) := ⟨⟨by decide +kernel, by decide +kernel⟩, List.mem_of_getElem? (i := 481) (by decide +kernel), List.mem_of_getElem? (i := 737) (by decide +kernel), List.mem_of_getElem? (i := 738) (by decide +kernel)⟩
theorem lw_p37 : lw_okq (⟨"PastDrawsModel", "first", "(IZ)I"⟩, 20) := ⟨⟨by decide +kernel, by decide +kernel⟩, List.mem_of_getElem? (i := 481) (by decide +kernel), List.mem_of_getElem? (i := 741) (by decide +kernel), List.mem_of_getElem? (i := 742) (by decide +kernel)⟩
def lw_privs_3 : List (MethodName × Nat) := [(⟨"PastDrawsModel", "countWays", "(I)V"⟩, 20), (⟨"PastDrawsModel", "wayOn", "(III)I"⟩, 20), (⟨"PastDrawsModel", "isThing", "(I)Z"⟩, 20), (⟨"PastDrawsModel", "sum", "()I"⟩, 20), (⟨"PastDrawsModel", "make", "()V"⟩, 20), (⟨"PastDrawsModel", "first", "(IZ)I"⟩, 20)]
theorem lw_r3 : ∀ q ∈ lw_privs_3, lw_okq q := List.forall_mem_cons.mpr ⟨lw_p32, List.forall_mem_cons.mpr ⟨lw_p33, List.forall_mem_cons.mpr ⟨lw_p34, List.forall_mem_cons.mpr ⟨lw_p35, List.forall_mem_cons.mpr ⟨lw_p36, List.forall_mem_cons.mpr ⟨lw_p37, fun _ h => absurd h List.not_mem_nil⟩⟩⟩⟩⟩⟩
def lw_privs : List (MethodName × Nat) := lw_privs_1 ++ (lw_privs_2 ++ (lw_privs_3))
def lw_tbl : List Cond := k2_sels lw_privs ++ tables_1
theorem lw_privs_ok : ∀ q ∈ lw_privs, lw_okq q := by
  show ∀ q ∈ lw_privs_1 ++ (lw_privs_2 ++ (lw_privs_3)), lw_okq q
  exact List.forall_mem_append.mpr ⟨lw_r1, List.forall_mem_append.mpr ⟨lw_r2, lw_r3⟩⟩
/-! ===== BEGIN words of one list among another's, by their places ===== -/
theorem goodIn_r {big : List Cond} (ws : List Cond) (ps : List Nat) (hp : ws = ps.filterMap (fun i => big[i]?)) (h : ws.all goodWord = true) : GoodIn big ws := by
  intro w hw
  have h1 := List.all_eq_true.mp h w hw
  rw [hp] at hw
  obtain ⟨i, -, hi⟩ := List.mem_filterMap.mp hw
  have hm : w ∈ big := by first | exact List.mem_of_getElem? hi | exact List.getElem?_mem hi
  exact ⟨hm, good_of_word h1⟩
theorem goodIn_app {big a b : List Cond} (ha : GoodIn big a) (hb : GoodIn big b) : GoodIn big (a ++ b) := fun w h => (List.mem_append.mp h).elim (ha w) (hb w)
theorem goodIn_ca {big a b : List Cond} {c : Cond} (ha : GoodIn big (c :: a)) (hb : GoodIn big b) : GoodIn big (c :: (a ++ b)) := fun w h => (List.mem_cons.mp h).elim (fun e => ha w (List.mem_cons.mpr (Or.inl e))) (fun h => (List.mem_append.mp h).elim (fun h => ha w (List.mem_cons.mpr (Or.inr h))) (hb w))
theorem goodIn_sub {big ws : List Cond} (hm : ∀ w ∈ ws, w ∈ big) (h : ws.all goodWord = true) : GoodIn big ws := fun w hw => ⟨hm w hw, good_of_word (List.all_eq_true.mp h w hw)⟩
/-! ===== END ===== -/
/-! ===== BEGIN printed: names, fields, word lists, decode rows ===== -/
def RX0 : String := "PastDraws$Chain"
def TX0 : u_T := fun k => match k with
  | 0 => ("PastDraws$Chain", "n", "I", true)
  | 1 => ("PastDraws$Chain", "next", "[[I", true)
  | 2 => ("PastDraws$Chain", "map", "[I", true)
  | 3 => ("PastDraws$Chain", "longerMap", "[I", true)
  | 4 => ("PastDraws$Chain", "rowsTo", "[I", true)
  | 5 => ("PastDraws$Chain", "longerRowsTo", "[I", true)
  | _ => ("PastDraws$Chain", "minor", "[[J", true)
def tyX0 : Nat → FieldType := fun k => match k with
  | 0 => .int
  | 1 => .array (.array .int)
  | 2 => .array .int
  | 3 => .array .int
  | 4 => .array .int
  | 5 => .array .int
  | _ => .array (.array .long)
abbrev wsX00 : List Cond := u_ws RX0 TX0 7
theorem nmX0 : ∀ a, a < 7 → ∀ b, b < 7 → a ≠ b → (TX0 a).2.1 ≠ (TX0 b).2.1 := by decide +kernel
theorem tyX0_ok : ∀ k, k < 7 → parseFieldDescriptor (TX0 k).2.2.1 = some (tyX0 k) := by decide +kernel
abbrev cX0_init : ByteArray := prog_2_method_1_code
def yX0_init : MethodName := ⟨RX0, "<init>", "(I)V"⟩
abbrev cX0_setStep : ByteArray := prog_2_method_2_code
def yX0_setStep : MethodName := ⟨RX0, "setStep", "(III)I"⟩
abbrev cX0_throughPast : ByteArray := prog_2_method_3_code
def yX0_throughPast : MethodName := ⟨RX0, "throughPast", "(III)I"⟩
abbrev cX0_leastMeeting : ByteArray := prog_2_method_4_code
def yX0_leastMeeting : MethodName := ⟨RX0, "leastMeeting", "(II)I"⟩
abbrev cX0_lengthenMap : ByteArray := prog_2_method_5_code
def yX0_lengthenMap : MethodName := ⟨RX0, "lengthenMap", "(I)V"⟩
abbrev cX0_mapMeets : ByteArray := prog_2_method_6_code
def yX0_mapMeets : MethodName := ⟨RX0, "mapMeets", "()Z"⟩
abbrev cX0_leastBounded : ByteArray := prog_2_method_7_code
def yX0_leastBounded : MethodName := ⟨RX0, "leastBounded", "(II)I"⟩
abbrev cX0_boundsMeet : ByteArray := prog_2_method_8_code
def yX0_boundsMeet : MethodName := ⟨RX0, "boundsMeet", "(II)Z"⟩
abbrev cX0_keepsOrder : ByteArray := prog_2_method_9_code
def yX0_keepsOrder : MethodName := ⟨RX0, "keepsOrder", "()Z"⟩
abbrev cX0_allStates : ByteArray := prog_2_method_10_code
def yX0_allStates : MethodName := ⟨RX0, "allStates", "()I"⟩
abbrev cX0_imageOf : ByteArray := prog_2_method_11_code
def yX0_imageOf : MethodName := ⟨RX0, "imageOf", "(II)I"⟩
abbrev cX0_isSingle : ByteArray := prog_2_method_12_code
def yX0_isSingle : MethodName := ⟨RX0, "isSingle", "(I)Z"⟩
abbrev cX0_rowsMeeting : ByteArray := prog_2_method_13_code
def yX0_rowsMeeting : MethodName := ⟨RX0, "rowsMeeting", "(II)I"⟩
abbrev cX0_lengthenRows : ByteArray := prog_2_method_14_code
def yX0_lengthenRows : MethodName := ⟨RX0, "lengthenRows", "()V"⟩
abbrev cX0_allTrees : ByteArray := prog_2_method_15_code
def yX0_allTrees : MethodName := ⟨RX0, "allTrees", "()J"⟩
abbrev cX0_treesTo : ByteArray := prog_2_method_16_code
def yX0_treesTo : MethodName := ⟨RX0, "treesTo", "(I)J"⟩
abbrev cX0_fillMinorRow : ByteArray := prog_2_method_17_code
def yX0_fillMinorRow : MethodName := ⟨RX0, "fillMinorRow", "(II)V"⟩
abbrev cX0_indexWithout : ByteArray := prog_2_method_18_code
def yX0_indexWithout : MethodName := ⟨RX0, "indexWithout", "(II)I"⟩
abbrev cX0_determinant : ByteArray := prog_2_method_19_code
def yX0_determinant : MethodName := ⟨RX0, "determinant", "(I)J"⟩
abbrev cX0_drawOf : ByteArray := prog_2_method_20_code
def yX0_drawOf : MethodName := ⟨RX0, "drawOf", "(III)I"⟩
abbrev cX0_blockMeets : ByteArray := prog_2_method_21_code
def yX0_blockMeets : MethodName := ⟨RX0, "blockMeets", "(III)Z"⟩
abbrev cX0_throughBlock : ByteArray := prog_2_method_22_code
def yX0_throughBlock : MethodName := ⟨RX0, "throughBlock", "(IIII)I"⟩
def RX1 : String := "PastDraws$Machine"
def TX1 : u_T := fun k => match k with
  | 0 => ("PastDraws$Machine", "n", "I", true)
  | 1 => ("PastDraws$Machine", "next", "[[I", true)
  | 2 => ("PastDraws$Machine", "ends", "[Z", true)
  | _ => ("PastDraws$Machine", "counts", "[[J", true)
def tyX1 : Nat → FieldType := fun k => match k with
  | 0 => .int
  | 1 => .array (.array .int)
  | 2 => .array .boolean
  | _ => .array (.array .long)
abbrev wsX10 : List Cond := u_ws RX1 TX1 4
theorem nmX1 : ∀ a, a < 4 → ∀ b, b < 4 → a ≠ b → (TX1 a).2.1 ≠ (TX1 b).2.1 := by decide +kernel
theorem tyX1_ok : ∀ k, k < 4 → parseFieldDescriptor (TX1 k).2.2.1 = some (tyX1 k) := by decide +kernel
abbrev cX1_init : ByteArray := prog_3_method_1_code
def yX1_init : MethodName := ⟨RX1, "<init>", "(I)V"⟩
abbrev cX1_setStep : ByteArray := prog_3_method_2_code
def yX1_setStep : MethodName := ⟨RX1, "setStep", "(III)I"⟩
abbrev cX1_setEnd : ByteArray := prog_3_method_3_code
def yX1_setEnd : MethodName := ⟨RX1, "setEnd", "(IZ)Z"⟩
abbrev cX1_countAll : ByteArray := prog_3_method_4_code
def yX1_countAll : MethodName := ⟨RX1, "countAll", "(I)J"⟩
abbrev cX1_countBefore : ByteArray := prog_3_method_5_code
def yX1_countBefore : MethodName := ⟨RX1, "countBefore", "(III)J"⟩
abbrev cX1_countWith : ByteArray := prog_3_method_6_code
def yX1_countWith : MethodName := ⟨RX1, "countWith", "(III)J"⟩
abbrev cX1_letterOf : ByteArray := prog_3_method_7_code
def yX1_letterOf : MethodName := ⟨RX1, "letterOf", "(IJI)I"⟩
abbrev cX1_letterAt : ByteArray := prog_3_method_8_code
def yX1_letterAt : MethodName := ⟨RX1, "letterAt", "(IJI)I"⟩
abbrev cX1_numberOf : ByteArray := prog_3_method_9_code
def yX1_numberOf : MethodName := ⟨RX1, "numberOf", "(IJ)J"⟩
def RX2 : String := "PastDraws$Orders"
def TX2 : u_T := fun k => match k with
  | 0 => ("PastDraws$Orders", "allowed", "[I", true)
  | _ => ("PastDraws$Orders", "ways", "[I", true)
def tyX2 : Nat → FieldType := fun k => match k with
  | 0 => .array .int
  | _ => .array .int
abbrev wsX20 : List Cond := u_ws RX2 TX2 2
theorem nmX2 : ∀ a, a < 2 → ∀ b, b < 2 → a ≠ b → (TX2 a).2.1 ≠ (TX2 b).2.1 := by decide +kernel
theorem tyX2_ok : ∀ k, k < 2 → parseFieldDescriptor (TX2 k).2.2.1 = some (tyX2 k) := by decide +kernel
abbrev cX2_init : ByteArray := prog_4_method_1_code
def yX2_init : MethodName := ⟨RX2, "<init>", "()V"⟩
abbrev cX2_setAllowed : ByteArray := prog_4_method_2_code
def yX2_setAllowed : MethodName := ⟨RX2, "setAllowed", "(IIZ)Z"⟩
abbrev cX2_countAll : ByteArray := prog_4_method_3_code
def yX2_countAll : MethodName := ⟨RX2, "countAll", "(I)I"⟩
abbrev cX2_isFree : ByteArray := prog_4_method_4_code
def yX2_isFree : MethodName := ⟨RX2, "isFree", "(II)Z"⟩
abbrev cX2_waysBefore : ByteArray := prog_4_method_5_code
def yX2_waysBefore : MethodName := ⟨RX2, "waysBefore", "(III)I"⟩
abbrev cX2_atPlace : ByteArray := prog_4_method_6_code
def yX2_atPlace : MethodName := ⟨RX2, "atPlace", "(III)I"⟩
abbrev cX2_nextNumber : ByteArray := prog_4_method_7_code
def yX2_nextNumber : MethodName := ⟨RX2, "nextNumber", "(III)I"⟩
abbrev cX2_numberOf : ByteArray := prog_4_method_8_code
def yX2_numberOf : MethodName := ⟨RX2, "numberOf", "(II)I"⟩
def RX3 : String := "PastDraws$Table"
def TX3 : u_T := fun k => match k with
  | 0 => ("PastDraws$Table", "weights", "[I", true)
  | 1 => ("PastDraws$Table", "rest", "[I", true)
  | 2 => ("PastDraws$Table", "limit", "[I", true)
  | 3 => ("PastDraws$Table", "other", "[I", true)
  | 4 => ("PastDraws$Table", "isMade", "[Z", true)
  | _ => ("PastDraws$Table", "m", "I", false)
def tyX3 : Nat → FieldType := fun k => match k with
  | 0 => .array .int
  | 1 => .array .int
  | 2 => .array .int
  | 3 => .array .int
  | 4 => .array .boolean
  | _ => .int
abbrev wsX30 : List Cond := u_ws RX3 TX3 6
theorem nmX3 : ∀ a, a < 6 → ∀ b, b < 6 → a ≠ b → (TX3 a).2.1 ≠ (TX3 b).2.1 := by decide +kernel
theorem tyX3_ok : ∀ k, k < 6 → parseFieldDescriptor (TX3 k).2.2.1 = some (tyX3 k) := by decide +kernel
abbrev cX3_init : ByteArray := prog_5_method_1_code
def yX3_init : MethodName := ⟨RX3, "<init>", "()V"⟩
abbrev cX3_isThing : ByteArray := prog_5_method_2_code
def yX3_isThing : MethodName := ⟨RX3, "isThing", "(I)Z"⟩
abbrev cX3_setThings : ByteArray := prog_5_method_3_code
def yX3_setThings : MethodName := ⟨RX3, "setThings", "(I)I"⟩
abbrev cX3_setWeight : ByteArray := prog_5_method_4_code
def yX3_setWeight : MethodName := ⟨RX3, "setWeight", "(II)I"⟩
abbrev cX3_sum : ByteArray := prog_5_method_5_code
def yX3_sum : MethodName := ⟨RX3, "sum", "()I"⟩
abbrev cX3_make : ByteArray := prog_5_method_6_code
def yX3_make : MethodName := ⟨RX3, "make", "(I)V"⟩
abbrev cX3_firstUnder : ByteArray := prog_5_method_7_code
def yX3_firstUnder : MethodName := ⟨RX3, "firstUnder", "(I)I"⟩
abbrev cX3_firstOver : ByteArray := prog_5_method_8_code
def yX3_firstOver : MethodName := ⟨RX3, "firstOver", "(I)I"⟩
abbrev cX3_limitOf : ByteArray := prog_5_method_9_code
def yX3_limitOf : MethodName := ⟨RX3, "limitOf", "(I)I"⟩
abbrev cX3_otherOf : ByteArray := prog_5_method_10_code
def yX3_otherOf : MethodName := ⟨RX3, "otherOf", "(I)I"⟩
abbrev cX3_thingAt : ByteArray := prog_5_method_11_code
def yX3_thingAt : MethodName := ⟨RX3, "thingAt", "(II)I"⟩
def RX4 : String := "PastDraws"
def TX4 : u_T := fun k => match k with
  | 0 => ("PastDraws", "stateCount", "I", true)
  | 1 => ("PastDraws", "chain", "LPastDraws$Chain;", true)
  | 2 => ("PastDraws", "machine", "LPastDraws$Machine;", true)
  | 3 => ("PastDraws", "orders", "LPastDraws$Orders;", true)
  | _ => ("PastDraws", "table", "LPastDraws$Table;", true)
def tyX4 : Nat → FieldType := fun k => match k with
  | 0 => .int
  | 1 => .object "PastDraws$Chain"
  | 2 => .object "PastDraws$Machine"
  | 3 => .object "PastDraws$Orders"
  | _ => .object "PastDraws$Table"
abbrev wsX40 : List Cond := u_ws RX4 TX4 5
theorem nmX4 : ∀ a, a < 5 → ∀ b, b < 5 → a ≠ b → (TX4 a).2.1 ≠ (TX4 b).2.1 := by decide +kernel
theorem tyX4_ok : ∀ k, k < 5 → parseFieldDescriptor (TX4 k).2.2.1 = some (tyX4 k) := by decide +kernel
abbrev cX4_init : ByteArray := prog_1_method_1_code
def yX4_init : MethodName := ⟨RX4, "<init>", "(I)V"⟩
abbrev cX4_hash : ByteArray := prog_1_method_2_code
def yX4_hash : MethodName := ⟨RX4, "hash", "(II)I"⟩
abbrev cX4_pick : ByteArray := prog_1_method_3_code
def yX4_pick : MethodName := ⟨RX4, "pick", "(IJ)J"⟩
abbrev cX4_tries : ByteArray := prog_1_method_4_code
def yX4_tries : MethodName := ⟨RX4, "tries", "(IJ)I"⟩
abbrev cX4_rule : ByteArray := prog_1_method_5_code
def yX4_rule : MethodName := ⟨RX4, "rule", "(III)I"⟩
abbrev cX4_taken : ByteArray := prog_1_method_6_code
def yX4_taken : MethodName := ⟨RX4, "taken", "(III)I"⟩
abbrev cX4_past : ByteArray := prog_1_method_7_code
def yX4_past : MethodName := ⟨RX4, "past", "(II)I"⟩
abbrev cX4_fold : ByteArray := prog_1_method_8_code
def yX4_fold : MethodName := ⟨RX4, "fold", "(II)I"⟩
abbrev cX4_bounding : ByteArray := prog_1_method_9_code
def yX4_bounding : MethodName := ⟨RX4, "bounding", "(II)I"⟩
abbrev cX4_monotone : ByteArray := prog_1_method_10_code
def yX4_monotone : MethodName := ⟨RX4, "monotone", "()I"⟩
abbrev cX4_counted : ByteArray := prog_1_method_11_code
def yX4_counted : MethodName := ⟨RX4, "counted", "(II)I"⟩
abbrev cX4_trees : ByteArray := prog_1_method_12_code
def yX4_trees : MethodName := ⟨RX4, "trees", "(I)J"⟩
abbrev cX4_once : ByteArray := prog_1_method_13_code
def yX4_once : MethodName := ⟨RX4, "once", "(III)I"⟩
abbrev cX4_lead : ByteArray := prog_1_method_14_code
def yX4_lead : MethodName := ⟨RX4, "lead", "(III)I"⟩
abbrev cX4_end : ByteArray := prog_1_method_15_code
def yX4_end : MethodName := ⟨RX4, "end", "(IZ)I"⟩
abbrev cX4_words : ByteArray := prog_1_method_16_code
def yX4_words : MethodName := ⟨RX4, "words", "(I)J"⟩
abbrev cX4_word : ByteArray := prog_1_method_17_code
def yX4_word : MethodName := ⟨RX4, "word", "(IJI)I"⟩
abbrev cX4_rank : ByteArray := prog_1_method_18_code
def yX4_rank : MethodName := ⟨RX4, "rank", "(IJ)J"⟩
abbrev cX4_allow : ByteArray := prog_1_method_19_code
def yX4_allow : MethodName := ⟨RX4, "allow", "(IIZ)I"⟩
abbrev cX4_permutations : ByteArray := prog_1_method_20_code
def yX4_permutations : MethodName := ⟨RX4, "permutations", "(I)I"⟩
abbrev cX4_permutation : ByteArray := prog_1_method_21_code
def yX4_permutation : MethodName := ⟨RX4, "permutation", "(III)I"⟩
abbrev cX4_place : ByteArray := prog_1_method_22_code
def yX4_place : MethodName := ⟨RX4, "place", "(II)I"⟩
abbrev cX4_things : ByteArray := prog_1_method_23_code
def yX4_things : MethodName := ⟨RX4, "things", "(I)I"⟩
abbrev cX4_weight : ByteArray := prog_1_method_24_code
def yX4_weight : MethodName := ⟨RX4, "weight", "(II)I"⟩
abbrev cX4_cell : ByteArray := prog_1_method_25_code
def yX4_cell : MethodName := ⟨RX4, "cell", "(II)I"⟩
abbrev cX4_tell : ByteArray := prog_1_method_26_code
def yX4_tell : MethodName := ⟨RX4, "tell", "(I)I"⟩
abbrev cX4_isState : ByteArray := prog_1_method_27_code
def yX4_isState : MethodName := ⟨RX4, "isState", "(I)Z"⟩
abbrev cX4_isWithin : ByteArray := prog_1_method_28_code
def yX4_isWithin : MethodName := ⟨RX4, "isWithin", "(III)Z"⟩
abbrev cX4_isBound : ByteArray := prog_1_method_29_code
def yX4_isBound : MethodName := ⟨RX4, "isBound", "(J)Z"⟩
abbrev cX4_mixed : ByteArray := prog_1_method_30_code
def yX4_mixed : MethodName := ⟨RX4, "mixed", "(II)I"⟩
abbrev cX4_signAt : ByteArray := prog_1_method_31_code
def yX4_signAt : MethodName := ⟨RX4, "signAt", "(II)I"⟩
abbrev cX4_bitsFor : ByteArray := prog_1_method_32_code
def yX4_bitsFor : MethodName := ⟨RX4, "bitsFor", "(J)I"⟩
abbrev cX4_powerFrom : ByteArray := prog_1_method_33_code
def yX4_powerFrom : MethodName := ⟨RX4, "powerFrom", "(I)I"⟩
abbrev cX4_topBits : ByteArray := prog_1_method_34_code
def yX4_topBits : MethodName := ⟨RX4, "topBits", "(III)J"⟩
abbrev cX4_firstBelow : ByteArray := prog_1_method_35_code
def yX4_firstBelow : MethodName := ⟨RX4, "firstBelow", "(IJI)I"⟩
def RX5 : String := "PastDrawsModel"
def TX5 : u_T := fun k => match k with
  | 0 => ("PastDrawsModel", "n", "I", true)
  | 1 => ("PastDrawsModel", "rules", "[I", true)
  | 2 => ("PastDrawsModel", "leads", "[I", true)
  | 3 => ("PastDrawsModel", "isEnd", "[Z", true)
  | 4 => ("PastDrawsModel", "isAllowed", "[Z", true)
  | 5 => ("PastDrawsModel", "things", "I", false)
  | 6 => ("PastDrawsModel", "weights", "[I", true)
  | 7 => ("PastDrawsModel", "picked", "J", false)
  | 8 => ("PastDrawsModel", "tried", "I", false)
  | 9 => ("PastDrawsModel", "whole", "[I", true)
  | 10 => ("PastDrawsModel", "next", "[I", true)
  | 11 => ("PastDrawsModel", "bounds", "[I", true)
  | 12 => ("PastDrawsModel", "nextBounds", "[I", true)
  | 13 => ("PastDrawsModel", "cells", "[J", true)
  | 14 => ("PastDrawsModel", "from", "[J", true)
  | 15 => ("PastDrawsModel", "ways", "[I", true)
  | 16 => ("PastDrawsModel", "limit", "[I", true)
  | 17 => ("PastDrawsModel", "other", "[I", true)
  | 18 => ("PastDrawsModel", "rest", "[I", true)
  | _ => ("PastDrawsModel", "isMade", "[Z", true)
def tyX5 : Nat → FieldType := fun k => match k with
  | 0 => .int
  | 1 => .array .int
  | 2 => .array .int
  | 3 => .array .boolean
  | 4 => .array .boolean
  | 5 => .int
  | 6 => .array .int
  | 7 => .long
  | 8 => .int
  | 9 => .array .int
  | 10 => .array .int
  | 11 => .array .int
  | 12 => .array .int
  | 13 => .array .long
  | 14 => .array .long
  | 15 => .array .int
  | 16 => .array .int
  | 17 => .array .int
  | 18 => .array .int
  | _ => .array .boolean
abbrev wsX50 : List Cond := u_ws RX5 TX5 20
theorem nmX5 : ∀ a, a < 20 → ∀ b, b < 20 → a ≠ b → (TX5 a).2.1 ≠ (TX5 b).2.1 := by decide +kernel
theorem tyX5_ok : ∀ k, k < 20 → parseFieldDescriptor (TX5 k).2.2.1 = some (tyX5 k) := by decide +kernel
abbrev cX5_init : ByteArray := prog_7_method_1_code
def yX5_init : MethodName := ⟨RX5, "<init>", "(I)V"⟩
abbrev cX5_in : ByteArray := prog_7_method_2_code
def yX5_in : MethodName := ⟨RX5, "in", "(JJJ)Z"⟩
abbrev cX5_isState : ByteArray := prog_7_method_3_code
def yX5_isState : MethodName := ⟨RX5, "isState", "(I)Z"⟩
abbrev cX5_hash : ByteArray := prog_7_method_4_code
def yX5_hash : MethodName := ⟨RX5, "hash", "(II)I"⟩
abbrev cX5_sign : ByteArray := prog_7_method_5_code
def yX5_sign : MethodName := ⟨RX5, "sign", "(II)I"⟩
abbrev cX5_find : ByteArray := prog_7_method_6_code
def yX5_find : MethodName := ⟨RX5, "find", "(IJ)V"⟩
abbrev cX5_pick : ByteArray := prog_7_method_7_code
def yX5_pick : MethodName := ⟨RX5, "pick", "(IJ)J"⟩
abbrev cX5_tries : ByteArray := prog_7_method_8_code
def yX5_tries : MethodName := ⟨RX5, "tries", "(IJ)I"⟩
abbrev cX5_rule : ByteArray := prog_7_method_9_code
def yX5_rule : MethodName := ⟨RX5, "rule", "(III)I"⟩
abbrev cX5_isLong : ByteArray := prog_7_method_10_code
def yX5_isLong : MethodName := ⟨RX5, "isLong", "(I)Z"⟩
abbrev cX5_taken : ByteArray := prog_7_method_11_code
def yX5_taken : MethodName := ⟨RX5, "taken", "(III)I"⟩
abbrev cX5_begin : ByteArray := prog_7_method_12_code
def yX5_begin : MethodName := ⟨RX5, "begin", "()V"⟩
abbrev cX5_ahead : ByteArray := prog_7_method_13_code
def yX5_ahead : MethodName := ⟨RX5, "ahead", "(I)V"⟩
abbrev cX5_behind : ByteArray := prog_7_method_14_code
def yX5_behind : MethodName := ⟨RX5, "behind", "(I)V"⟩
abbrev cX5_meets : ByteArray := prog_7_method_15_code
def yX5_meets : MethodName := ⟨RX5, "meets", "()Z"⟩
abbrev cX5_past : ByteArray := prog_7_method_16_code
def yX5_past : MethodName := ⟨RX5, "past", "(II)I"⟩
abbrev cX5_fold : ByteArray := prog_7_method_17_code
def yX5_fold : MethodName := ⟨RX5, "fold", "(II)I"⟩
abbrev cX5_bound : ByteArray := prog_7_method_18_code
def yX5_bound : MethodName := ⟨RX5, "bound", "(III)I"⟩
abbrev cX5_bounding : ByteArray := prog_7_method_19_code
def yX5_bounding : MethodName := ⟨RX5, "bounding", "(II)I"⟩
abbrev cX5_monotone : ByteArray := prog_7_method_20_code
def yX5_monotone : MethodName := ⟨RX5, "monotone", "()I"⟩
abbrev cX5_counted : ByteArray := prog_7_method_21_code
def yX5_counted : MethodName := ⟨RX5, "counted", "(II)I"⟩
abbrev cX5_treesOf : ByteArray := prog_7_method_22_code
def yX5_treesOf : MethodName := ⟨RX5, "treesOf", "(I)J"⟩
abbrev cX5_cellOf : ByteArray := prog_7_method_23_code
def yX5_cellOf : MethodName := ⟨RX5, "cellOf", "(II)J"⟩
abbrev cX5_determinant : ByteArray := prog_7_method_24_code
def yX5_determinant : MethodName := ⟨RX5, "determinant", "(I)J"⟩
abbrev cX5_trees : ByteArray := prog_7_method_25_code
def yX5_trees : MethodName := ⟨RX5, "trees", "(I)J"⟩
abbrev cX5_once : ByteArray := prog_7_method_26_code
def yX5_once : MethodName := ⟨RX5, "once", "(III)I"⟩
abbrev cX5_lead : ByteArray := prog_7_method_27_code
def yX5_lead : MethodName := ⟨RX5, "lead", "(III)I"⟩
abbrev cX5_end : ByteArray := prog_7_method_28_code
def yX5_end : MethodName := ⟨RX5, "end", "(IZ)I"⟩
abbrev cX5_countWords : ByteArray := prog_7_method_29_code
def yX5_countWords : MethodName := ⟨RX5, "countWords", "(I)V"⟩
abbrev cX5_words : ByteArray := prog_7_method_30_code
def yX5_words : MethodName := ⟨RX5, "words", "(I)J"⟩
abbrev cX5_word : ByteArray := prog_7_method_31_code
def yX5_word : MethodName := ⟨RX5, "word", "(IJI)I"⟩
abbrev cX5_goesOn : ByteArray := prog_7_method_32_code
def yX5_goesOn : MethodName := ⟨RX5, "goesOn", "(III)J"⟩
abbrev cX5_rank : ByteArray := prog_7_method_33_code
def yX5_rank : MethodName := ⟨RX5, "rank", "(IJ)J"⟩
abbrev cX5_allow : ByteArray := prog_7_method_34_code
def yX5_allow : MethodName := ⟨RX5, "allow", "(IIZ)I"⟩
abbrev cX5_countWays : ByteArray := prog_7_method_35_code
def yX5_countWays : MethodName := ⟨RX5, "countWays", "(I)V"⟩
abbrev cX5_wayOn : ByteArray := prog_7_method_36_code
def yX5_wayOn : MethodName := ⟨RX5, "wayOn", "(III)I"⟩
abbrev cX5_permutations : ByteArray := prog_7_method_37_code
def yX5_permutations : MethodName := ⟨RX5, "permutations", "(I)I"⟩
abbrev cX5_permutation : ByteArray := prog_7_method_38_code
def yX5_permutation : MethodName := ⟨RX5, "permutation", "(III)I"⟩
abbrev cX5_place : ByteArray := prog_7_method_39_code
def yX5_place : MethodName := ⟨RX5, "place", "(II)I"⟩
abbrev cX5_things : ByteArray := prog_7_method_40_code
def yX5_things : MethodName := ⟨RX5, "things", "(I)I"⟩
abbrev cX5_isThing : ByteArray := prog_7_method_41_code
def yX5_isThing : MethodName := ⟨RX5, "isThing", "(I)Z"⟩
abbrev cX5_weight : ByteArray := prog_7_method_42_code
def yX5_weight : MethodName := ⟨RX5, "weight", "(II)I"⟩
abbrev cX5_sum : ByteArray := prog_7_method_43_code
def yX5_sum : MethodName := ⟨RX5, "sum", "()I"⟩
abbrev cX5_make : ByteArray := prog_7_method_44_code
def yX5_make : MethodName := ⟨RX5, "make", "()V"⟩
abbrev cX5_first : ByteArray := prog_7_method_45_code
def yX5_first : MethodName := ⟨RX5, "first", "(IZ)I"⟩
abbrev cX5_cell : ByteArray := prog_7_method_46_code
def yX5_cell : MethodName := ⟨RX5, "cell", "(II)I"⟩
abbrev cX5_tell : ByteArray := prog_7_method_47_code
def yX5_tell : MethodName := ⟨RX5, "tell", "(I)I"⟩
def RJ6 : String := "java/lang/Integer"
def TJ6 : u_T := fun k => match k with
  | _ => ("", "", "", false)
def tyJ6 : Nat → FieldType := fun k => match k with
  | _ => .int
abbrev wsJ60 : List Cond := u_ws RJ6 TJ6 0
theorem nmJ6 : ∀ a, a < 0 → ∀ b, b < 0 → a ≠ b → (TJ6 a).2.1 ≠ (TJ6 b).2.1 := by decide +kernel
theorem tyJ6_ok : ∀ k, k < 0 → parseFieldDescriptor (TJ6 k).2.2.1 = some (tyJ6 k) := by decide +kernel
abbrev cJ6_bitCount_0f7a4 : ByteArray := prog_8_method_49_code
def yJ6_bitCount_0f7a4 : MethodName := ⟨RJ6, "bitCount", "(I)I"⟩
def RJ9 : String := "java/lang/Math"
def TJ9 : u_T := fun k => match k with
  | _ => ("", "", "", false)
def tyJ9 : Nat → FieldType := fun k => match k with
  | _ => .int
abbrev wsJ90 : List Cond := u_ws RJ9 TJ9 0
theorem nmJ9 : ∀ a, a < 0 → ∀ b, b < 0 → a ≠ b → (TJ9 a).2.1 ≠ (TJ9 b).2.1 := by decide +kernel
theorem tyJ9_ok : ∀ k, k < 0 → parseFieldDescriptor (TJ9 k).2.2.1 = some (tyJ9 k) := by decide +kernel
abbrev cJ9_floorDiv_7cf53 : ByteArray := prog_9_method_47_code
def yJ9_floorDiv_7cf53 : MethodName := ⟨RJ9, "floorDiv", "(II)I"⟩
abbrev cJ9_max_7cf53 : ByteArray := prog_9_method_65_code
def yJ9_max_7cf53 : MethodName := ⟨RJ9, "max", "(II)I"⟩
abbrev cJ9_min_7cf53 : ByteArray := prog_9_method_69_code
def yJ9_min_7cf53 : MethodName := ⟨RJ9, "min", "(II)I"⟩
def RJ10 : String := "java/lang/System"
def TJ10 : u_T := fun k => match k with
  | _ => ("", "", "", false)
def tyJ10 : Nat → FieldType := fun k => match k with
  | _ => .int
abbrev wsJ100 : List Cond := u_ws RJ10 TJ10 0
theorem nmJ10 : ∀ a, a < 0 → ∀ b, b < 0 → a ≠ b → (TJ10 a).2.1 ≠ (TJ10 b).2.1 := by decide +kernel
theorem tyJ10_ok : ∀ k, k < 0 → parseFieldDescriptor (TJ10 k).2.2.1 = some (tyJ10 k) := by decide +kernel
def RJ7 : String := "java/util/Arrays"
def TJ7 : u_T := fun k => match k with
  | _ => ("", "", "", false)
def tyJ7 : Nat → FieldType := fun k => match k with
  | _ => .int
abbrev wsJ70 : List Cond := u_ws RJ7 TJ7 0
theorem nmJ7 : ∀ a, a < 0 → ∀ b, b < 0 → a ≠ b → (TJ7 a).2.1 ≠ (TJ7 b).2.1 := by decide +kernel
theorem tyJ7_ok : ∀ k, k < 0 → parseFieldDescriptor (TJ7 k).2.2.1 = some (tyJ7 k) := by decide +kernel
abbrev cJ7_fill_d0a16 : ByteArray := prog_11_method_101_code
def yJ7_fill_d0a16 : MethodName := ⟨RJ7, "fill", "([JJ)V"⟩
abbrev cJ7_fill_53178 : ByteArray := prog_11_method_103_code
def yJ7_fill_53178 : MethodName := ⟨RJ7, "fill", "([II)V"⟩
def RL : String := "PastDrawsLaw"
abbrev cL_cell : ByteArray := method_2_code
def yL_cell : MethodName := ⟨RL, "cell", "([II)I"⟩
abbrev cL_law : ByteArray := code
def yL_law : MethodName := ⟨RL, "law", "([I)Z"⟩
def wsX0_init : List Cond := .code yX0_init cX0_init 4 none :: ([.methodLink RX0 3 objectInit, .instanceMethod objectInit, .code objectInit ⟨#[0xb1]⟩ 1 none, .fieldLink RX0 9 "PastDraws$Chain" "n" "I", .classLink RX0 15 "[[I", .arrayClass .int, .fieldLink RX0 17 "PastDraws$Chain" "next" "[[I", .fieldLink RX0 20 "PastDraws$Chain" "map" "[I", .fieldLink RX0 24 "PastDraws$Chain" "longerMap" "[I", .fieldLink RX0 27 "PastDraws$Chain" "rowsTo" "[I", .fieldLink RX0 30 "PastDraws$Chain" "longerRowsTo" "[I", .classLink RX0 33 "[[J", .arrayClass .long, .fieldLink RX0 35 "PastDraws$Chain" "minor" "[[J"] ++ wsX00)
def wsX0_setStep : List Cond := .code yX0_setStep cX0_setStep 5 (some .int) :: ([.fieldLink RX0 17 "PastDraws$Chain" "next" "[[I"] ++ wsX00)
def wsX4_mixed : List Cond := .code yX4_mixed cX4_mixed 3 (some .int) :: ([.constant RX4 172 (-1640531527), .constant RX4 173 (-2048144789), .constant RX4 174 (-1028477387)])
def wsX4_signAt : List Cond := .code yX4_signAt cX4_signAt 2 (some .int) :: ([.methodLink RX4 52 yX4_mixed, .static yX4_mixed, .initialized RX4, .code yX4_mixed cX4_mixed 3 (some .int), .constant RX4 172 (-1640531527), .constant RX4 173 (-2048144789), .constant RX4 174 (-1028477387)])
def wsX0_throughPast : List Cond := .code yX0_throughPast cX0_throughPast 6 (some .int) :: ([.fieldLink RX0 17 "PastDraws$Chain" "next" "[[I", .static yX4_signAt, .initialized RX4, .code yX4_signAt cX4_signAt 2 (some .int), .methodLink RX4 52 yX4_mixed, .static yX4_mixed, .code yX4_mixed cX4_mixed 3 (some .int), .constant RX4 172 (-1640531527), .constant RX4 173 (-2048144789), .constant RX4 174 (-1028477387)] ++ wsX00)
def wsX0_lengthenMap : List Cond := .code yX0_lengthenMap cX0_lengthenMap 3 none :: ([.fieldLink RX0 9 "PastDraws$Chain" "n" "I", .fieldLink RX0 24 "PastDraws$Chain" "longerMap" "[I", .fieldLink RX0 20 "PastDraws$Chain" "map" "[I", .fieldLink RX0 17 "PastDraws$Chain" "next" "[[I", .methodLink RX0 50 arraycopyName, .native arraycopyName, .static arraycopyName, .initialized "java/lang/System"] ++ wsX00)
def wsX0_mapMeets : List Cond := .code yX0_mapMeets cX0_mapMeets 2 (some .boolean) :: ([.fieldLink RX0 9 "PastDraws$Chain" "n" "I", .fieldLink RX0 20 "PastDraws$Chain" "map" "[I"] ++ wsX00)
def wsX0_leastMeeting_r1 : List Cond := [Cond.fieldLink RX0 9 "PastDraws$Chain" "n" "I", Cond.fieldLink RX0 20 "PastDraws$Chain" "map" "[I", Cond.static yX4_signAt, Cond.initialized RX4, Cond.code yX4_signAt cX4_signAt 2 (some .int), Cond.methodLink RX4 52 yX4_mixed, Cond.static yX4_mixed, Cond.code yX4_mixed cX4_mixed 3 (some .int), Cond.constant RX4 172 (-1640531527), Cond.constant RX4 173 (-2048144789), Cond.constant RX4 174 (-1028477387), Cond.methodLink RX0 42 yX0_lengthenMap, Cond.instanceMethod yX0_lengthenMap, Cond.selects RX0 yX0_lengthenMap yX0_lengthenMap, Cond.initialized RX0, Cond.code yX0_lengthenMap cX0_lengthenMap 3 none, Cond.fieldLink RX0 24 "PastDraws$Chain" "longerMap" "[I", Cond.fieldLink RX0 17 "PastDraws$Chain" "next" "[[I", Cond.methodLink RX0 50 arraycopyName, Cond.native arraycopyName, Cond.static arraycopyName, Cond.initialized "java/lang/System", Cond.methodLink RX0 46 yX0_mapMeets, Cond.instanceMethod yX0_mapMeets]
def wsX0_leastMeeting_r2 : List Cond := [Cond.selects RX0 yX0_mapMeets yX0_mapMeets, Cond.code yX0_mapMeets cX0_mapMeets 2 (some .boolean)]
def wsX0_leastMeeting : List Cond := .code yX0_leastMeeting cX0_leastMeeting 4 (some .int) :: ((wsX0_leastMeeting_r1 ++ wsX0_leastMeeting_r2) ++ wsX00)
def wsX0_boundsMeet : List Cond := .code yX0_boundsMeet cX0_boundsMeet 10 (some .boolean) :: ([.fieldLink RX0 9 "PastDraws$Chain" "n" "I", .fieldLink RX0 17 "PastDraws$Chain" "next" "[[I", .methodLink RX0 60 Lib.Math.min.name, .static Lib.Math.min.name, .initialized "java/lang/Math", .code Lib.Math.min.name Lib.Math.min.code 2 (some .int), .methodLink RX0 65 Lib.Math.max.name, .static Lib.Math.max.name, .code Lib.Math.max.name Lib.Math.max.code 2 (some .int), .static yX4_signAt, .initialized RX4, .code yX4_signAt cX4_signAt 2 (some .int), .methodLink RX4 52 yX4_mixed, .static yX4_mixed, .code yX4_mixed cX4_mixed 3 (some .int), .constant RX4 172 (-1640531527), .constant RX4 173 (-2048144789), .constant RX4 174 (-1028477387)] ++ wsX00)
def wsX0_leastBounded : List Cond := .code yX0_leastBounded cX0_leastBounded 4 (some .int) :: ([.methodLink RX0 56 yX0_boundsMeet, .instanceMethod yX0_boundsMeet, .selects RX0 yX0_boundsMeet yX0_boundsMeet, .initialized RX0, .code yX0_boundsMeet cX0_boundsMeet 10 (some .boolean), .fieldLink RX0 9 "PastDraws$Chain" "n" "I", .fieldLink RX0 17 "PastDraws$Chain" "next" "[[I", .methodLink RX0 60 Lib.Math.min.name, .static Lib.Math.min.name, .initialized "java/lang/Math", .code Lib.Math.min.name Lib.Math.min.code 2 (some .int), .methodLink RX0 65 Lib.Math.max.name, .static Lib.Math.max.name, .code Lib.Math.max.name Lib.Math.max.code 2 (some .int), .static yX4_signAt, .initialized RX4, .code yX4_signAt cX4_signAt 2 (some .int), .methodLink RX4 52 yX4_mixed, .static yX4_mixed, .code yX4_mixed cX4_mixed 3 (some .int), .constant RX4 172 (-1640531527), .constant RX4 173 (-2048144789), .constant RX4 174 (-1028477387)] ++ wsX00)
def wsX0_keepsOrder : List Cond := .code yX0_keepsOrder cX0_keepsOrder 3 (some .boolean) :: ([.fieldLink RX0 9 "PastDraws$Chain" "n" "I", .fieldLink RX0 17 "PastDraws$Chain" "next" "[[I"] ++ wsX00)
def wsX0_allStates : List Cond := .code yX0_allStates cX0_allStates 1 (some .int) :: ([.fieldLink RX0 9 "PastDraws$Chain" "n" "I"] ++ wsX00)
def wsX0_imageOf : List Cond := .code yX0_imageOf cX0_imageOf 5 (some .int) :: ([.fieldLink RX0 9 "PastDraws$Chain" "n" "I", .fieldLink RX0 17 "PastDraws$Chain" "next" "[[I"] ++ wsX00)
def wsX0_isSingle : List Cond := .code yX0_isSingle cX0_isSingle 1 (some .boolean) :: ([])
def wsJ7_fill_53178 : List Cond := .code yJ7_fill_53178 cJ7_fill_53178 4 none :: ([])
def wsX0_lengthenRows : List Cond := .code yX0_lengthenRows cX0_lengthenRows 3 none :: ([.fieldLink RX0 30 "PastDraws$Chain" "longerRowsTo" "[I", .fieldLink RX0 27 "PastDraws$Chain" "rowsTo" "[I", .methodLink RX0 50 arraycopyName, .native arraycopyName, .static arraycopyName, .initialized "java/lang/System", .methodLink RX0 68 yJ7_fill_53178, .static yJ7_fill_53178, .initialized RJ7, .code yJ7_fill_53178 cJ7_fill_53178 4 none, .methodLink RX0 74 yX0_allStates, .instanceMethod yX0_allStates, .selects RX0 yX0_allStates yX0_allStates, .initialized RX0, .code yX0_allStates cX0_allStates 1 (some .int), .fieldLink RX0 9 "PastDraws$Chain" "n" "I", .methodLink RX0 85 yX0_imageOf, .instanceMethod yX0_imageOf, .selects RX0 yX0_imageOf yX0_imageOf, .code yX0_imageOf cX0_imageOf 5 (some .int), .fieldLink RX0 17 "PastDraws$Chain" "next" "[[I"] ++ wsX00)
def wsX0_rowsMeeting_r1 : List Cond := [Cond.fieldLink RX0 27 "PastDraws$Chain" "rowsTo" "[I", Cond.methodLink RX0 68 yJ7_fill_53178, Cond.static yJ7_fill_53178, Cond.initialized RJ7, Cond.code yJ7_fill_53178 cJ7_fill_53178 4 none, Cond.methodLink RX0 74 yX0_allStates, Cond.instanceMethod yX0_allStates, Cond.selects RX0 yX0_allStates yX0_allStates, Cond.initialized RX0, Cond.code yX0_allStates cX0_allStates 1 (some .int), Cond.fieldLink RX0 9 "PastDraws$Chain" "n" "I", Cond.methodLink RX0 78 yX0_lengthenRows, Cond.instanceMethod yX0_lengthenRows, Cond.selects RX0 yX0_lengthenRows yX0_lengthenRows, Cond.code yX0_lengthenRows cX0_lengthenRows 3 none, Cond.fieldLink RX0 30 "PastDraws$Chain" "longerRowsTo" "[I", Cond.methodLink RX0 50 arraycopyName, Cond.native arraycopyName, Cond.static arraycopyName, Cond.initialized "java/lang/System", Cond.methodLink RX0 85 yX0_imageOf, Cond.instanceMethod yX0_imageOf, Cond.selects RX0 yX0_imageOf yX0_imageOf, Cond.code yX0_imageOf cX0_imageOf 5 (some .int)]
def wsX0_rowsMeeting_r2 : List Cond := [Cond.fieldLink RX0 17 "PastDraws$Chain" "next" "[[I", Cond.methodLink RX0 81 yX0_isSingle, Cond.static yX0_isSingle, Cond.code yX0_isSingle cX0_isSingle 1 (some .boolean)]
def wsX0_rowsMeeting : List Cond := .code yX0_rowsMeeting cX0_rowsMeeting 5 (some .int) :: ((wsX0_rowsMeeting_r1 ++ wsX0_rowsMeeting_r2) ++ wsX00)
def wsX0_indexWithout : List Cond := .code yX0_indexWithout cX0_indexWithout 2 (some .int) :: ([])
def wsJ7_fill_d0a16 : List Cond := .code yJ7_fill_d0a16 cJ7_fill_d0a16 5 none :: ([])
def wsX0_fillMinorRow : List Cond := .code yX0_fillMinorRow cX0_fillMinorRow 7 none :: ([.fieldLink RX0 35 "PastDraws$Chain" "minor" "[[J", .fieldLink RX0 17 "PastDraws$Chain" "next" "[[I", .methodLink RX0 99 yX0_indexWithout, .static yX0_indexWithout, .initialized RX0, .code yX0_indexWithout cX0_indexWithout 2 (some .int), .methodLink RX0 102 yJ7_fill_d0a16, .static yJ7_fill_d0a16, .initialized RJ7, .code yJ7_fill_d0a16 cJ7_fill_d0a16 5 none] ++ wsX00)
def wsX0_determinant : List Cond := .code yX0_determinant cX0_determinant 11 (some .long) :: ([.fieldLink RX0 35 "PastDraws$Chain" "minor" "[[J"] ++ wsX00)
def wsX0_treesTo : List Cond := .code yX0_treesTo cX0_treesTo 3 (some .long) :: ([.fieldLink RX0 9 "PastDraws$Chain" "n" "I", .methodLink RX0 92 yX0_fillMinorRow, .instanceMethod yX0_fillMinorRow, .selects RX0 yX0_fillMinorRow yX0_fillMinorRow, .initialized RX0, .code yX0_fillMinorRow cX0_fillMinorRow 7 none, .fieldLink RX0 35 "PastDraws$Chain" "minor" "[[J", .fieldLink RX0 17 "PastDraws$Chain" "next" "[[I", .methodLink RX0 99 yX0_indexWithout, .static yX0_indexWithout, .code yX0_indexWithout cX0_indexWithout 2 (some .int), .methodLink RX0 102 yJ7_fill_d0a16, .static yJ7_fill_d0a16, .initialized RJ7, .code yJ7_fill_d0a16 cJ7_fill_d0a16 5 none, .methodLink RX0 96 yX0_determinant, .instanceMethod yX0_determinant, .selects RX0 yX0_determinant yX0_determinant, .code yX0_determinant cX0_determinant 11 (some .long)] ++ wsX00)
def wsX0_allTrees : List Cond := .code yX0_allTrees cX0_allTrees 4 (some .long) :: ([.fieldLink RX0 9 "PastDraws$Chain" "n" "I", .methodLink RX0 88 yX0_treesTo, .instanceMethod yX0_treesTo, .selects RX0 yX0_treesTo yX0_treesTo, .initialized RX0, .code yX0_treesTo cX0_treesTo 3 (some .long), .methodLink RX0 92 yX0_fillMinorRow, .instanceMethod yX0_fillMinorRow, .selects RX0 yX0_fillMinorRow yX0_fillMinorRow, .code yX0_fillMinorRow cX0_fillMinorRow 7 none, .fieldLink RX0 35 "PastDraws$Chain" "minor" "[[J", .fieldLink RX0 17 "PastDraws$Chain" "next" "[[I", .methodLink RX0 99 yX0_indexWithout, .static yX0_indexWithout, .code yX0_indexWithout cX0_indexWithout 2 (some .int), .methodLink RX0 102 yJ7_fill_d0a16, .static yJ7_fill_d0a16, .initialized RJ7, .code yJ7_fill_d0a16 cJ7_fill_d0a16 5 none, .methodLink RX0 96 yX0_determinant, .instanceMethod yX0_determinant, .selects RX0 yX0_determinant yX0_determinant, .code yX0_determinant cX0_determinant 11 (some .long)] ++ wsX00)
def wsX0_blockMeets : List Cond := .code yX0_blockMeets cX0_blockMeets 6 (some .boolean) :: ([.methodLink RX0 74 yX0_allStates, .instanceMethod yX0_allStates, .selects RX0 yX0_allStates yX0_allStates, .initialized RX0, .code yX0_allStates cX0_allStates 1 (some .int), .fieldLink RX0 9 "PastDraws$Chain" "n" "I", .methodLink RX0 81 yX0_isSingle, .static yX0_isSingle, .code yX0_isSingle cX0_isSingle 1 (some .boolean), .static yX4_signAt, .initialized RX4, .code yX4_signAt cX4_signAt 2 (some .int), .methodLink RX4 52 yX4_mixed, .static yX4_mixed, .code yX4_mixed cX4_mixed 3 (some .int), .constant RX4 172 (-1640531527), .constant RX4 173 (-2048144789), .constant RX4 174 (-1028477387), .methodLink RX0 85 yX0_imageOf, .instanceMethod yX0_imageOf, .selects RX0 yX0_imageOf yX0_imageOf, .code yX0_imageOf cX0_imageOf 5 (some .int), .fieldLink RX0 17 "PastDraws$Chain" "next" "[[I"] ++ wsX00)
def wsX0_throughBlock : List Cond := .code yX0_throughBlock cX0_throughBlock 7 (some .int) :: ([.fieldLink RX0 17 "PastDraws$Chain" "next" "[[I", .static yX4_signAt, .initialized RX4, .code yX4_signAt cX4_signAt 2 (some .int), .methodLink RX4 52 yX4_mixed, .static yX4_mixed, .code yX4_mixed cX4_mixed 3 (some .int), .constant RX4 172 (-1640531527), .constant RX4 173 (-2048144789), .constant RX4 174 (-1028477387)] ++ wsX00)
def wsX0_drawOf_r1 : List Cond := [Cond.methodLink RX0 105 yX0_blockMeets, Cond.instanceMethod yX0_blockMeets, Cond.selects RX0 yX0_blockMeets yX0_blockMeets, Cond.initialized RX0, Cond.code yX0_blockMeets cX0_blockMeets 6 (some .boolean), Cond.methodLink RX0 74 yX0_allStates, Cond.instanceMethod yX0_allStates, Cond.selects RX0 yX0_allStates yX0_allStates, Cond.code yX0_allStates cX0_allStates 1 (some .int), Cond.fieldLink RX0 9 "PastDraws$Chain" "n" "I", Cond.methodLink RX0 81 yX0_isSingle, Cond.static yX0_isSingle, Cond.code yX0_isSingle cX0_isSingle 1 (some .boolean), Cond.static yX4_signAt, Cond.initialized RX4, Cond.code yX4_signAt cX4_signAt 2 (some .int), Cond.methodLink RX4 52 yX4_mixed, Cond.static yX4_mixed, Cond.code yX4_mixed cX4_mixed 3 (some .int), Cond.constant RX4 172 (-1640531527), Cond.constant RX4 173 (-2048144789), Cond.constant RX4 174 (-1028477387), Cond.methodLink RX0 85 yX0_imageOf, Cond.instanceMethod yX0_imageOf]
def wsX0_drawOf_r2 : List Cond := [Cond.selects RX0 yX0_imageOf yX0_imageOf, Cond.code yX0_imageOf cX0_imageOf 5 (some .int), Cond.fieldLink RX0 17 "PastDraws$Chain" "next" "[[I", Cond.methodLink RX0 109 yX0_throughBlock, Cond.instanceMethod yX0_throughBlock, Cond.selects RX0 yX0_throughBlock yX0_throughBlock, Cond.code yX0_throughBlock cX0_throughBlock 7 (some .int)]
def wsX0_drawOf : List Cond := .code yX0_drawOf cX0_drawOf 10 (some .int) :: ((wsX0_drawOf_r1 ++ wsX0_drawOf_r2) ++ wsX00)
def wsX1_init : List Cond := .code yX1_init cX1_init 3 none :: ([.methodLink RX1 3 objectInit, .instanceMethod objectInit, .code objectInit ⟨#[0xb1]⟩ 1 none, .fieldLink RX1 9 "PastDraws$Machine" "n" "I", .classLink RX1 15 "[[I", .arrayClass .int, .fieldLink RX1 17 "PastDraws$Machine" "next" "[[I", .arrayClass .boolean, .fieldLink RX1 20 "PastDraws$Machine" "ends" "[Z", .classLink RX1 24 "[[J", .arrayClass .long, .fieldLink RX1 26 "PastDraws$Machine" "counts" "[[J", .methodLink RX1 29 yJ7_fill_53178, .static yJ7_fill_53178, .initialized RJ7, .code yJ7_fill_53178 cJ7_fill_53178 4 none] ++ wsX10)
def wsX1_setStep : List Cond := .code yX1_setStep cX1_setStep 5 (some .int) :: ([.fieldLink RX1 17 "PastDraws$Machine" "next" "[[I"] ++ wsX10)
def wsX1_setEnd : List Cond := .code yX1_setEnd cX1_setEnd 4 (some .boolean) :: ([.fieldLink RX1 20 "PastDraws$Machine" "ends" "[Z"] ++ wsX10)
def wsX1_countWith : List Cond := .code yX1_countWith cX1_countWith 5 (some .long) :: ([.fieldLink RX1 17 "PastDraws$Machine" "next" "[[I", .fieldLink RX1 26 "PastDraws$Machine" "counts" "[[J"] ++ wsX10)
def wsX1_countBefore : List Cond := .code yX1_countBefore cX1_countBefore 7 (some .long) :: ([.methodLink RX1 39 yX1_countWith, .instanceMethod yX1_countWith, .selects RX1 yX1_countWith yX1_countWith, .initialized RX1, .code yX1_countWith cX1_countWith 5 (some .long), .fieldLink RX1 17 "PastDraws$Machine" "next" "[[I", .fieldLink RX1 26 "PastDraws$Machine" "counts" "[[J"] ++ wsX10)
def wsX1_countAll : List Cond := .code yX1_countAll cX1_countAll 4 (some .long) :: ([.fieldLink RX1 9 "PastDraws$Machine" "n" "I", .fieldLink RX1 26 "PastDraws$Machine" "counts" "[[J", .fieldLink RX1 20 "PastDraws$Machine" "ends" "[Z", .methodLink RX1 35 yX1_countBefore, .instanceMethod yX1_countBefore, .selects RX1 yX1_countBefore yX1_countBefore, .initialized RX1, .code yX1_countBefore cX1_countBefore 7 (some .long), .methodLink RX1 39 yX1_countWith, .instanceMethod yX1_countWith, .selects RX1 yX1_countWith yX1_countWith, .code yX1_countWith cX1_countWith 5 (some .long), .fieldLink RX1 17 "PastDraws$Machine" "next" "[[I"] ++ wsX10)
def wsX1_letterAt : List Cond := .code yX1_letterAt cX1_letterAt 6 (some .int) :: ([.methodLink RX1 35 yX1_countBefore, .instanceMethod yX1_countBefore, .selects RX1 yX1_countBefore yX1_countBefore, .initialized RX1, .code yX1_countBefore cX1_countBefore 7 (some .long), .methodLink RX1 39 yX1_countWith, .instanceMethod yX1_countWith, .selects RX1 yX1_countWith yX1_countWith, .code yX1_countWith cX1_countWith 5 (some .long), .fieldLink RX1 17 "PastDraws$Machine" "next" "[[I", .fieldLink RX1 26 "PastDraws$Machine" "counts" "[[J"] ++ wsX10)
def wsX1_letterOf : List Cond := .code yX1_letterOf cX1_letterOf 11 (some .int) :: ([.fieldLink RX1 17 "PastDraws$Machine" "next" "[[I", .methodLink RX1 42 yX1_letterAt, .instanceMethod yX1_letterAt, .selects RX1 yX1_letterAt yX1_letterAt, .initialized RX1, .code yX1_letterAt cX1_letterAt 6 (some .int), .methodLink RX1 35 yX1_countBefore, .instanceMethod yX1_countBefore, .selects RX1 yX1_countBefore yX1_countBefore, .code yX1_countBefore cX1_countBefore 7 (some .long), .methodLink RX1 39 yX1_countWith, .instanceMethod yX1_countWith, .selects RX1 yX1_countWith yX1_countWith, .code yX1_countWith cX1_countWith 5 (some .long), .fieldLink RX1 26 "PastDraws$Machine" "counts" "[[J"] ++ wsX10)
def wsX1_numberOf : List Cond := .code yX1_numberOf cX1_numberOf 9 (some .long) :: ([.fieldLink RX1 17 "PastDraws$Machine" "next" "[[I", .constantLong RX1 46 (-2), .fieldLink RX1 20 "PastDraws$Machine" "ends" "[Z", .methodLink RX1 35 yX1_countBefore, .instanceMethod yX1_countBefore, .selects RX1 yX1_countBefore yX1_countBefore, .initialized RX1, .code yX1_countBefore cX1_countBefore 7 (some .long), .methodLink RX1 39 yX1_countWith, .instanceMethod yX1_countWith, .selects RX1 yX1_countWith yX1_countWith, .code yX1_countWith cX1_countWith 5 (some .long), .fieldLink RX1 26 "PastDraws$Machine" "counts" "[[J"] ++ wsX10)
def wsX2_init : List Cond := .code yX2_init cX2_init 1 none :: ([.methodLink RX2 3 objectInit, .instanceMethod objectInit, .code objectInit ⟨#[0xb1]⟩ 1 none, .arrayClass .int, .fieldLink RX2 9 "PastDraws$Orders" "allowed" "[I", .fieldLink RX2 15 "PastDraws$Orders" "ways" "[I", .methodLink RX2 18 yJ7_fill_53178, .static yJ7_fill_53178, .initialized RJ7, .code yJ7_fill_53178 cJ7_fill_53178 4 none] ++ wsX20)
def wsX2_setAllowed : List Cond := .code yX2_setAllowed cX2_setAllowed 5 (some .boolean) :: ([.fieldLink RX2 9 "PastDraws$Orders" "allowed" "[I"] ++ wsX20)
def wsJ6_bitCount_0f7a4 : List Cond := .code yJ6_bitCount_0f7a4 cJ6_bitCount_0f7a4 1 (some .int) :: ([.constant RJ6 265 (1431655765), .constant RJ6 266 (858993459), .constant RJ6 267 (252645135)])
def wsX2_isFree : List Cond := .code yX2_isFree cX2_isFree 4 (some .boolean) :: ([.fieldLink RX2 9 "PastDraws$Orders" "allowed" "[I", .methodLink RX2 28 yJ6_bitCount_0f7a4, .static yJ6_bitCount_0f7a4, .initialized RJ6, .code yJ6_bitCount_0f7a4 cJ6_bitCount_0f7a4 1 (some .int), .constant RJ6 265 (1431655765), .constant RJ6 266 (858993459), .constant RJ6 267 (252645135)] ++ wsX20)
def wsX2_waysBefore : List Cond := .code yX2_waysBefore cX2_waysBefore 6 (some .int) :: ([.fieldLink RX2 15 "PastDraws$Orders" "ways" "[I", .methodLink RX2 34 yX2_isFree, .instanceMethod yX2_isFree, .selects RX2 yX2_isFree yX2_isFree, .initialized RX2, .code yX2_isFree cX2_isFree 4 (some .boolean), .fieldLink RX2 9 "PastDraws$Orders" "allowed" "[I", .methodLink RX2 28 yJ6_bitCount_0f7a4, .static yJ6_bitCount_0f7a4, .initialized RJ6, .code yJ6_bitCount_0f7a4 cJ6_bitCount_0f7a4 1 (some .int), .constant RJ6 265 (1431655765), .constant RJ6 266 (858993459), .constant RJ6 267 (252645135)] ++ wsX20)
def wsX2_countAll : List Cond := .code yX2_countAll cX2_countAll 4 (some .int) :: ([.fieldLink RX2 15 "PastDraws$Orders" "ways" "[I", .methodLink RX2 24 yX2_waysBefore, .instanceMethod yX2_waysBefore, .selects RX2 yX2_waysBefore yX2_waysBefore, .initialized RX2, .code yX2_waysBefore cX2_waysBefore 6 (some .int), .methodLink RX2 34 yX2_isFree, .instanceMethod yX2_isFree, .selects RX2 yX2_isFree yX2_isFree, .code yX2_isFree cX2_isFree 4 (some .boolean), .fieldLink RX2 9 "PastDraws$Orders" "allowed" "[I", .methodLink RX2 28 yJ6_bitCount_0f7a4, .static yJ6_bitCount_0f7a4, .initialized RJ6, .code yJ6_bitCount_0f7a4 cJ6_bitCount_0f7a4 1 (some .int), .constant RJ6 265 (1431655765), .constant RJ6 266 (858993459), .constant RJ6 267 (252645135)] ++ wsX20)
def wsX2_nextNumber : List Cond := .code yX2_nextNumber cX2_nextNumber 5 (some .int) :: ([.methodLink RX2 24 yX2_waysBefore, .instanceMethod yX2_waysBefore, .selects RX2 yX2_waysBefore yX2_waysBefore, .initialized RX2, .code yX2_waysBefore cX2_waysBefore 6 (some .int), .fieldLink RX2 15 "PastDraws$Orders" "ways" "[I", .methodLink RX2 34 yX2_isFree, .instanceMethod yX2_isFree, .selects RX2 yX2_isFree yX2_isFree, .code yX2_isFree cX2_isFree 4 (some .boolean), .fieldLink RX2 9 "PastDraws$Orders" "allowed" "[I", .methodLink RX2 28 yJ6_bitCount_0f7a4, .static yJ6_bitCount_0f7a4, .initialized RJ6, .code yJ6_bitCount_0f7a4 cJ6_bitCount_0f7a4 1 (some .int), .constant RJ6 265 (1431655765), .constant RJ6 266 (858993459), .constant RJ6 267 (252645135)] ++ wsX20)
def wsX2_atPlace : List Cond := .code yX2_atPlace cX2_atPlace 8 (some .int) :: ([.methodLink RX2 38 yX2_nextNumber, .instanceMethod yX2_nextNumber, .selects RX2 yX2_nextNumber yX2_nextNumber, .initialized RX2, .code yX2_nextNumber cX2_nextNumber 5 (some .int), .methodLink RX2 24 yX2_waysBefore, .instanceMethod yX2_waysBefore, .selects RX2 yX2_waysBefore yX2_waysBefore, .code yX2_waysBefore cX2_waysBefore 6 (some .int), .fieldLink RX2 15 "PastDraws$Orders" "ways" "[I", .methodLink RX2 34 yX2_isFree, .instanceMethod yX2_isFree, .selects RX2 yX2_isFree yX2_isFree, .code yX2_isFree cX2_isFree 4 (some .boolean), .fieldLink RX2 9 "PastDraws$Orders" "allowed" "[I", .methodLink RX2 28 yJ6_bitCount_0f7a4, .static yJ6_bitCount_0f7a4, .initialized RJ6, .code yJ6_bitCount_0f7a4 cJ6_bitCount_0f7a4 1 (some .int), .constant RJ6 265 (1431655765), .constant RJ6 266 (858993459), .constant RJ6 267 (252645135)] ++ wsX20)
def wsX2_numberOf : List Cond := .code yX2_numberOf cX2_numberOf 7 (some .int) :: ([.methodLink RX2 34 yX2_isFree, .instanceMethod yX2_isFree, .selects RX2 yX2_isFree yX2_isFree, .initialized RX2, .code yX2_isFree cX2_isFree 4 (some .boolean), .fieldLink RX2 9 "PastDraws$Orders" "allowed" "[I", .methodLink RX2 28 yJ6_bitCount_0f7a4, .static yJ6_bitCount_0f7a4, .initialized RJ6, .code yJ6_bitCount_0f7a4 cJ6_bitCount_0f7a4 1 (some .int), .constant RJ6 265 (1431655765), .constant RJ6 266 (858993459), .constant RJ6 267 (252645135), .methodLink RX2 24 yX2_waysBefore, .instanceMethod yX2_waysBefore, .selects RX2 yX2_waysBefore yX2_waysBefore, .code yX2_waysBefore cX2_waysBefore 6 (some .int), .fieldLink RX2 15 "PastDraws$Orders" "ways" "[I"] ++ wsX20)
def wsX3_init : List Cond := .code yX3_init cX3_init 1 none :: ([.methodLink RX3 3 objectInit, .instanceMethod objectInit, .code objectInit ⟨#[0xb1]⟩ 1 none, .arrayClass .int, .fieldLink RX3 9 "PastDraws$Table" "weights" "[I", .fieldLink RX3 15 "PastDraws$Table" "rest" "[I", .fieldLink RX3 18 "PastDraws$Table" "limit" "[I", .fieldLink RX3 21 "PastDraws$Table" "other" "[I", .arrayClass .boolean, .fieldLink RX3 24 "PastDraws$Table" "isMade" "[Z", .fieldLink RX3 28 "PastDraws$Table" "m" "I", .methodLink RX3 32 yJ7_fill_53178, .static yJ7_fill_53178, .initialized RJ7, .code yJ7_fill_53178 cJ7_fill_53178 4 none] ++ wsX30)
def wsX3_isThing : List Cond := .code yX3_isThing cX3_isThing 2 (some .boolean) :: ([.fieldLink RX3 28 "PastDraws$Table" "m" "I"] ++ wsX30)
def wsX3_setThings : List Cond := .code yX3_setThings cX3_setThings 3 (some .int) :: ([.fieldLink RX3 28 "PastDraws$Table" "m" "I", .fieldLink RX3 9 "PastDraws$Table" "weights" "[I", .methodLink RX3 32 yJ7_fill_53178, .static yJ7_fill_53178, .initialized RJ7, .code yJ7_fill_53178 cJ7_fill_53178 4 none] ++ wsX30)
def wsX3_setWeight : List Cond := .code yX3_setWeight cX3_setWeight 4 (some .int) :: ([.fieldLink RX3 9 "PastDraws$Table" "weights" "[I"] ++ wsX30)
def wsX3_sum : List Cond := .code yX3_sum cX3_sum 3 (some .int) :: ([.fieldLink RX3 28 "PastDraws$Table" "m" "I", .fieldLink RX3 9 "PastDraws$Table" "weights" "[I"] ++ wsX30)
def wsX3_firstUnder : List Cond := .code yX3_firstUnder cX3_firstUnder 3 (some .int) :: ([.fieldLink RX3 28 "PastDraws$Table" "m" "I", .fieldLink RX3 24 "PastDraws$Table" "isMade" "[Z", .fieldLink RX3 15 "PastDraws$Table" "rest" "[I"] ++ wsX30)
def wsX3_firstOver : List Cond := .code yX3_firstOver cX3_firstOver 3 (some .int) :: ([.fieldLink RX3 28 "PastDraws$Table" "m" "I", .fieldLink RX3 24 "PastDraws$Table" "isMade" "[Z", .fieldLink RX3 15 "PastDraws$Table" "rest" "[I"] ++ wsX30)
def wsX3_make : List Cond := .code yX3_make cX3_make 5 none :: ([.fieldLink RX3 28 "PastDraws$Table" "m" "I", .fieldLink RX3 15 "PastDraws$Table" "rest" "[I", .fieldLink RX3 9 "PastDraws$Table" "weights" "[I", .fieldLink RX3 18 "PastDraws$Table" "limit" "[I", .fieldLink RX3 21 "PastDraws$Table" "other" "[I", .fieldLink RX3 24 "PastDraws$Table" "isMade" "[Z", .methodLink RX3 38 yX3_firstUnder, .instanceMethod yX3_firstUnder, .selects RX3 yX3_firstUnder yX3_firstUnder, .initialized RX3, .code yX3_firstUnder cX3_firstUnder 3 (some .int), .methodLink RX3 42 yX3_firstOver, .instanceMethod yX3_firstOver, .selects RX3 yX3_firstOver yX3_firstOver, .code yX3_firstOver cX3_firstOver 3 (some .int)] ++ wsX30)
def wsX3_limitOf : List Cond := .code yX3_limitOf cX3_limitOf 2 (some .int) :: ([.fieldLink RX3 18 "PastDraws$Table" "limit" "[I"] ++ wsX30)
def wsX3_otherOf : List Cond := .code yX3_otherOf cX3_otherOf 2 (some .int) :: ([.fieldLink RX3 21 "PastDraws$Table" "other" "[I"] ++ wsX30)
def wsX3_thingAt : List Cond := .code yX3_thingAt cX3_thingAt 3 (some .int) :: ([.fieldLink RX3 18 "PastDraws$Table" "limit" "[I", .fieldLink RX3 21 "PastDraws$Table" "other" "[I"] ++ wsX30)
def wsX4_init_r1 : List Cond := [Cond.methodLink RX4 1 objectInit, Cond.instanceMethod objectInit, Cond.code objectInit ⟨#[0xb1]⟩ 1 none, Cond.methodLink RX4 9 Lib.Math.min.name, Cond.static Lib.Math.min.name, Cond.initialized "java/lang/Math", Cond.code Lib.Math.min.name Lib.Math.min.code 2 (some .int), Cond.methodLink RX4 15 Lib.Math.max.name, Cond.static Lib.Math.max.name, Cond.code Lib.Math.max.name Lib.Math.max.code 2 (some .int), Cond.fieldLink RX4 18 "PastDraws" "stateCount" "I", Cond.classLink RX4 22 RX0, Cond.instantiable RX0 7, Cond.initialized RX0, Cond.fieldLink RX4 27 "PastDraws" "chain" "LPastDraws$Chain;", Cond.classLink RX4 31 RX1, Cond.instantiable RX1 4, Cond.initialized RX1, Cond.fieldLink RX4 34 "PastDraws" "machine" "LPastDraws$Machine;", Cond.classLink RX4 38 RX2, Cond.instantiable RX2 2, Cond.initialized RX2, Cond.fieldLink RX4 41 "PastDraws" "orders" "LPastDraws$Orders;", Cond.classLink RX4 45 RX3]
def wsX4_init_r2 : List Cond := [Cond.instantiable RX3 6, Cond.initialized RX3, Cond.fieldLink RX4 48 "PastDraws" "table" "LPastDraws$Table;", Cond.methodLink RX4 24 yX0_init, Cond.instanceMethod yX0_init, Cond.code yX0_init cX0_init 4 none, Cond.methodLink RX0 3 objectInit, Cond.fieldLink RX0 9 "PastDraws$Chain" "n" "I", Cond.classLink RX0 15 "[[I", Cond.arrayClass .int, Cond.fieldLink RX0 17 "PastDraws$Chain" "next" "[[I", Cond.fieldLink RX0 20 "PastDraws$Chain" "map" "[I", Cond.fieldLink RX0 24 "PastDraws$Chain" "longerMap" "[I", Cond.fieldLink RX0 27 "PastDraws$Chain" "rowsTo" "[I", Cond.fieldLink RX0 30 "PastDraws$Chain" "longerRowsTo" "[I", Cond.classLink RX0 33 "[[J", Cond.arrayClass .long, Cond.fieldLink RX0 35 "PastDraws$Chain" "minor" "[[J", Cond.methodLink RX4 33 yX1_init, Cond.instanceMethod yX1_init, Cond.code yX1_init cX1_init 3 none, Cond.methodLink RX1 3 objectInit, Cond.fieldLink RX1 9 "PastDraws$Machine" "n" "I", Cond.classLink RX1 15 "[[I"]
def wsX4_init_r3 : List Cond := [Cond.fieldLink RX1 17 "PastDraws$Machine" "next" "[[I", Cond.arrayClass .boolean, Cond.fieldLink RX1 20 "PastDraws$Machine" "ends" "[Z", Cond.classLink RX1 24 "[[J", Cond.fieldLink RX1 26 "PastDraws$Machine" "counts" "[[J", Cond.methodLink RX1 29 yJ7_fill_53178, Cond.static yJ7_fill_53178, Cond.initialized RJ7, Cond.code yJ7_fill_53178 cJ7_fill_53178 4 none, Cond.methodLink RX4 40 yX2_init, Cond.instanceMethod yX2_init, Cond.code yX2_init cX2_init 1 none, Cond.methodLink RX2 3 objectInit, Cond.fieldLink RX2 9 "PastDraws$Orders" "allowed" "[I", Cond.fieldLink RX2 15 "PastDraws$Orders" "ways" "[I", Cond.methodLink RX2 18 yJ7_fill_53178, Cond.methodLink RX4 47 yX3_init, Cond.instanceMethod yX3_init, Cond.code yX3_init cX3_init 1 none, Cond.methodLink RX3 3 objectInit, Cond.fieldLink RX3 9 "PastDraws$Table" "weights" "[I", Cond.fieldLink RX3 15 "PastDraws$Table" "rest" "[I", Cond.fieldLink RX3 18 "PastDraws$Table" "limit" "[I", Cond.fieldLink RX3 21 "PastDraws$Table" "other" "[I"]
def wsX4_init_r4 : List Cond := [Cond.fieldLink RX3 24 "PastDraws$Table" "isMade" "[Z", Cond.fieldLink RX3 28 "PastDraws$Table" "m" "I", Cond.methodLink RX3 32 yJ7_fill_53178]
def wsX4_init : List Cond := .code yX4_init cX4_init 2 none :: ((wsX4_init_r1 ++ (wsX4_init_r2 ++ (wsX4_init_r3 ++ wsX4_init_r4))) ++ wsX40 ++ wsX00 ++ wsX10 ++ wsX20 ++ wsX30)
def wsX4_hash : List Cond := .code yX4_hash cX4_hash 3 (some .int) :: ([.methodLink RX4 52 yX4_mixed, .static yX4_mixed, .initialized RX4, .code yX4_mixed cX4_mixed 3 (some .int), .constant RX4 172 (-1640531527), .constant RX4 173 (-2048144789), .constant RX4 174 (-1028477387)])
def wsX4_isBound : List Cond := .code yX4_isBound cX4_isBound 2 (some .boolean) :: ([.constantLong RX4 170 (4611686018427387904)])
def wsX4_bitsFor : List Cond := .code yX4_bitsFor cX4_bitsFor 3 (some .int) :: ([])
def wsX4_topBits : List Cond := .code yX4_topBits cX4_topBits 7 (some .long) :: ([.constantLong RX4 175 (4294967295), .methodLink RX4 52 yX4_mixed, .static yX4_mixed, .initialized RX4, .code yX4_mixed cX4_mixed 3 (some .int), .constant RX4 172 (-1640531527), .constant RX4 173 (-2048144789), .constant RX4 174 (-1028477387)])
def wsX4_firstBelow : List Cond := .code yX4_firstBelow cX4_firstBelow 5 (some .int) :: ([.constant RX4 177 (1000000), .methodLink RX4 69 yX4_topBits, .static yX4_topBits, .initialized RX4, .code yX4_topBits cX4_topBits 7 (some .long), .constantLong RX4 175 (4294967295), .methodLink RX4 52 yX4_mixed, .static yX4_mixed, .code yX4_mixed cX4_mixed 3 (some .int), .constant RX4 172 (-1640531527), .constant RX4 173 (-2048144789), .constant RX4 174 (-1028477387)])
def wsX4_pick : List Cond := .code yX4_pick cX4_pick 5 (some .long) :: ([.constantLong RX4 59 (-1), .methodLink RX4 55 yX4_isBound, .static yX4_isBound, .initialized RX4, .code yX4_isBound cX4_isBound 2 (some .boolean), .constantLong RX4 170 (4611686018427387904), .methodLink RX4 61 yX4_bitsFor, .static yX4_bitsFor, .code yX4_bitsFor cX4_bitsFor 3 (some .int), .methodLink RX4 65 yX4_firstBelow, .static yX4_firstBelow, .code yX4_firstBelow cX4_firstBelow 5 (some .int), .constant RX4 177 (1000000), .methodLink RX4 69 yX4_topBits, .static yX4_topBits, .code yX4_topBits cX4_topBits 7 (some .long), .constantLong RX4 175 (4294967295), .methodLink RX4 52 yX4_mixed, .static yX4_mixed, .code yX4_mixed cX4_mixed 3 (some .int), .constant RX4 172 (-1640531527), .constant RX4 173 (-2048144789), .constant RX4 174 (-1028477387)])
def wsX4_tries : List Cond := .code yX4_tries cX4_tries 4 (some .int) :: ([.methodLink RX4 55 yX4_isBound, .static yX4_isBound, .initialized RX4, .code yX4_isBound cX4_isBound 2 (some .boolean), .constantLong RX4 170 (4611686018427387904), .methodLink RX4 61 yX4_bitsFor, .static yX4_bitsFor, .code yX4_bitsFor cX4_bitsFor 3 (some .int), .methodLink RX4 65 yX4_firstBelow, .static yX4_firstBelow, .code yX4_firstBelow cX4_firstBelow 5 (some .int), .constant RX4 177 (1000000), .methodLink RX4 69 yX4_topBits, .static yX4_topBits, .code yX4_topBits cX4_topBits 7 (some .long), .constantLong RX4 175 (4294967295), .methodLink RX4 52 yX4_mixed, .static yX4_mixed, .code yX4_mixed cX4_mixed 3 (some .int), .constant RX4 172 (-1640531527), .constant RX4 173 (-2048144789), .constant RX4 174 (-1028477387)])
def wsX4_isState : List Cond := .code yX4_isState cX4_isState 2 (some .boolean) :: ([.fieldLink RX4 18 "PastDraws" "stateCount" "I"] ++ wsX40)
def wsX4_isWithin : List Cond := .code yX4_isWithin cX4_isWithin 3 (some .boolean) :: ([])
def wsX4_rule : List Cond := .code yX4_rule cX4_rule 4 (some .int) :: ([.fieldLink RX4 27 "PastDraws" "chain" "LPastDraws$Chain;", .methodLink RX4 73 yX4_isState, .instanceMethod yX4_isState, .selects RX4 yX4_isState yX4_isState, .initialized RX4, .code yX4_isState cX4_isState 2 (some .boolean), .fieldLink RX4 18 "PastDraws" "stateCount" "I", .methodLink RX4 77 yX4_isWithin, .static yX4_isWithin, .code yX4_isWithin cX4_isWithin 3 (some .boolean), .methodLink RX4 81 yX0_setStep, .instanceMethod yX0_setStep, .selects RX0 yX0_setStep yX0_setStep, .initialized RX0, .code yX0_setStep cX0_setStep 5 (some .int), .fieldLink RX0 17 "PastDraws$Chain" "next" "[[I"] ++ wsX40 ++ wsX00)
def wsX4_taken : List Cond := .code yX4_taken cX4_taken 4 (some .int) :: ([.fieldLink RX4 27 "PastDraws" "chain" "LPastDraws$Chain;", .methodLink RX4 77 yX4_isWithin, .static yX4_isWithin, .initialized RX4, .code yX4_isWithin cX4_isWithin 3 (some .boolean), .methodLink RX4 73 yX4_isState, .instanceMethod yX4_isState, .selects RX4 yX4_isState yX4_isState, .code yX4_isState cX4_isState 2 (some .boolean), .fieldLink RX4 18 "PastDraws" "stateCount" "I", .methodLink RX4 85 yX0_throughPast, .instanceMethod yX0_throughPast, .selects RX0 yX0_throughPast yX0_throughPast, .initialized RX0, .code yX0_throughPast cX0_throughPast 6 (some .int), .fieldLink RX0 17 "PastDraws$Chain" "next" "[[I", .static yX4_signAt, .code yX4_signAt cX4_signAt 2 (some .int), .methodLink RX4 52 yX4_mixed, .static yX4_mixed, .code yX4_mixed cX4_mixed 3 (some .int), .constant RX4 172 (-1640531527), .constant RX4 173 (-2048144789), .constant RX4 174 (-1028477387)] ++ wsX40 ++ wsX00)
def wsX4_powerFrom : List Cond := .code yX4_powerFrom cX4_powerFrom 2 (some .int) :: ([])
def wsX4_past_r1 : List Cond := [Cond.fieldLink RX4 27 "PastDraws" "chain" "LPastDraws$Chain;", Cond.methodLink RX4 77 yX4_isWithin, Cond.static yX4_isWithin, Cond.initialized RX4, Cond.code yX4_isWithin cX4_isWithin 3 (some .boolean), Cond.methodLink RX4 88 yX0_leastMeeting, Cond.instanceMethod yX0_leastMeeting, Cond.selects RX0 yX0_leastMeeting yX0_leastMeeting, Cond.initialized RX0, Cond.code yX0_leastMeeting cX0_leastMeeting 4 (some .int), Cond.fieldLink RX0 9 "PastDraws$Chain" "n" "I", Cond.fieldLink RX0 20 "PastDraws$Chain" "map" "[I", Cond.static yX4_signAt, Cond.code yX4_signAt cX4_signAt 2 (some .int), Cond.methodLink RX4 52 yX4_mixed, Cond.static yX4_mixed, Cond.code yX4_mixed cX4_mixed 3 (some .int), Cond.constant RX4 172 (-1640531527), Cond.constant RX4 173 (-2048144789), Cond.constant RX4 174 (-1028477387), Cond.methodLink RX0 42 yX0_lengthenMap, Cond.instanceMethod yX0_lengthenMap, Cond.selects RX0 yX0_lengthenMap yX0_lengthenMap, Cond.code yX0_lengthenMap cX0_lengthenMap 3 none]
def wsX4_past_r2 : List Cond := [Cond.fieldLink RX0 24 "PastDraws$Chain" "longerMap" "[I", Cond.fieldLink RX0 17 "PastDraws$Chain" "next" "[[I", Cond.methodLink RX0 50 arraycopyName, Cond.native arraycopyName, Cond.static arraycopyName, Cond.initialized "java/lang/System", Cond.methodLink RX0 46 yX0_mapMeets, Cond.instanceMethod yX0_mapMeets, Cond.selects RX0 yX0_mapMeets yX0_mapMeets, Cond.code yX0_mapMeets cX0_mapMeets 2 (some .boolean), Cond.methodLink RX4 91 yX4_powerFrom, Cond.static yX4_powerFrom, Cond.code yX4_powerFrom cX4_powerFrom 2 (some .int), Cond.methodLink RX4 85 yX0_throughPast, Cond.instanceMethod yX0_throughPast, Cond.selects RX0 yX0_throughPast yX0_throughPast, Cond.code yX0_throughPast cX0_throughPast 6 (some .int)]
def wsX4_past : List Cond := .code yX4_past cX4_past 5 (some .int) :: ((wsX4_past_r1 ++ wsX4_past_r2) ++ wsX40 ++ wsX00)
def wsX4_fold_r1 : List Cond := [Cond.fieldLink RX4 27 "PastDraws" "chain" "LPastDraws$Chain;", Cond.methodLink RX4 77 yX4_isWithin, Cond.static yX4_isWithin, Cond.initialized RX4, Cond.code yX4_isWithin cX4_isWithin 3 (some .boolean), Cond.methodLink RX4 88 yX0_leastMeeting, Cond.instanceMethod yX0_leastMeeting, Cond.selects RX0 yX0_leastMeeting yX0_leastMeeting, Cond.initialized RX0, Cond.code yX0_leastMeeting cX0_leastMeeting 4 (some .int), Cond.fieldLink RX0 9 "PastDraws$Chain" "n" "I", Cond.fieldLink RX0 20 "PastDraws$Chain" "map" "[I", Cond.static yX4_signAt, Cond.code yX4_signAt cX4_signAt 2 (some .int), Cond.methodLink RX4 52 yX4_mixed, Cond.static yX4_mixed, Cond.code yX4_mixed cX4_mixed 3 (some .int), Cond.constant RX4 172 (-1640531527), Cond.constant RX4 173 (-2048144789), Cond.constant RX4 174 (-1028477387), Cond.methodLink RX0 42 yX0_lengthenMap, Cond.instanceMethod yX0_lengthenMap, Cond.selects RX0 yX0_lengthenMap yX0_lengthenMap, Cond.code yX0_lengthenMap cX0_lengthenMap 3 none]
def wsX4_fold_r2 : List Cond := [Cond.fieldLink RX0 24 "PastDraws$Chain" "longerMap" "[I", Cond.fieldLink RX0 17 "PastDraws$Chain" "next" "[[I", Cond.methodLink RX0 50 arraycopyName, Cond.native arraycopyName, Cond.static arraycopyName, Cond.initialized "java/lang/System", Cond.methodLink RX0 46 yX0_mapMeets, Cond.instanceMethod yX0_mapMeets, Cond.selects RX0 yX0_mapMeets yX0_mapMeets, Cond.code yX0_mapMeets cX0_mapMeets 2 (some .boolean)]
def wsX4_fold : List Cond := .code yX4_fold cX4_fold 3 (some .int) :: ((wsX4_fold_r1 ++ wsX4_fold_r2) ++ wsX40 ++ wsX00)
def wsX4_bounding_r1 : List Cond := [Cond.fieldLink RX4 27 "PastDraws" "chain" "LPastDraws$Chain;", Cond.methodLink RX4 77 yX4_isWithin, Cond.static yX4_isWithin, Cond.initialized RX4, Cond.code yX4_isWithin cX4_isWithin 3 (some .boolean), Cond.methodLink RX4 95 yX0_leastBounded, Cond.instanceMethod yX0_leastBounded, Cond.selects RX0 yX0_leastBounded yX0_leastBounded, Cond.initialized RX0, Cond.code yX0_leastBounded cX0_leastBounded 4 (some .int), Cond.methodLink RX0 56 yX0_boundsMeet, Cond.instanceMethod yX0_boundsMeet, Cond.selects RX0 yX0_boundsMeet yX0_boundsMeet, Cond.code yX0_boundsMeet cX0_boundsMeet 10 (some .boolean), Cond.fieldLink RX0 9 "PastDraws$Chain" "n" "I", Cond.fieldLink RX0 17 "PastDraws$Chain" "next" "[[I", Cond.methodLink RX0 60 Lib.Math.min.name, Cond.static Lib.Math.min.name, Cond.initialized "java/lang/Math", Cond.code Lib.Math.min.name Lib.Math.min.code 2 (some .int), Cond.methodLink RX0 65 Lib.Math.max.name, Cond.static Lib.Math.max.name, Cond.code Lib.Math.max.name Lib.Math.max.code 2 (some .int), Cond.static yX4_signAt]
def wsX4_bounding_r2 : List Cond := [Cond.code yX4_signAt cX4_signAt 2 (some .int), Cond.methodLink RX4 52 yX4_mixed, Cond.static yX4_mixed, Cond.code yX4_mixed cX4_mixed 3 (some .int), Cond.constant RX4 172 (-1640531527), Cond.constant RX4 173 (-2048144789), Cond.constant RX4 174 (-1028477387)]
def wsX4_bounding : List Cond := .code yX4_bounding cX4_bounding 3 (some .int) :: ((wsX4_bounding_r1 ++ wsX4_bounding_r2) ++ wsX40 ++ wsX00)
def wsX4_monotone : List Cond := .code yX4_monotone cX4_monotone 1 (some .int) :: ([.fieldLink RX4 27 "PastDraws" "chain" "LPastDraws$Chain;", .methodLink RX4 98 yX0_keepsOrder, .instanceMethod yX0_keepsOrder, .selects RX0 yX0_keepsOrder yX0_keepsOrder, .initialized RX0, .code yX0_keepsOrder cX0_keepsOrder 3 (some .boolean), .fieldLink RX0 9 "PastDraws$Chain" "n" "I", .fieldLink RX0 17 "PastDraws$Chain" "next" "[[I"] ++ wsX40 ++ wsX00)
def wsX4_counted_r1 : List Cond := [Cond.fieldLink RX4 18 "PastDraws" "stateCount" "I", Cond.fieldLink RX4 27 "PastDraws" "chain" "LPastDraws$Chain;", Cond.methodLink RX4 77 yX4_isWithin, Cond.static yX4_isWithin, Cond.initialized RX4, Cond.code yX4_isWithin cX4_isWithin 3 (some .boolean), Cond.methodLink RX4 102 yX0_rowsMeeting, Cond.instanceMethod yX0_rowsMeeting, Cond.selects RX0 yX0_rowsMeeting yX0_rowsMeeting, Cond.initialized RX0, Cond.code yX0_rowsMeeting cX0_rowsMeeting 5 (some .int), Cond.fieldLink RX0 27 "PastDraws$Chain" "rowsTo" "[I", Cond.methodLink RX0 68 yJ7_fill_53178, Cond.static yJ7_fill_53178, Cond.initialized RJ7, Cond.code yJ7_fill_53178 cJ7_fill_53178 4 none, Cond.methodLink RX0 74 yX0_allStates, Cond.instanceMethod yX0_allStates, Cond.selects RX0 yX0_allStates yX0_allStates, Cond.code yX0_allStates cX0_allStates 1 (some .int), Cond.fieldLink RX0 9 "PastDraws$Chain" "n" "I", Cond.methodLink RX0 78 yX0_lengthenRows, Cond.instanceMethod yX0_lengthenRows, Cond.selects RX0 yX0_lengthenRows yX0_lengthenRows]
def wsX4_counted_r2 : List Cond := [Cond.code yX0_lengthenRows cX0_lengthenRows 3 none, Cond.fieldLink RX0 30 "PastDraws$Chain" "longerRowsTo" "[I", Cond.methodLink RX0 50 arraycopyName, Cond.native arraycopyName, Cond.static arraycopyName, Cond.initialized "java/lang/System", Cond.methodLink RX0 85 yX0_imageOf, Cond.instanceMethod yX0_imageOf, Cond.selects RX0 yX0_imageOf yX0_imageOf, Cond.code yX0_imageOf cX0_imageOf 5 (some .int), Cond.fieldLink RX0 17 "PastDraws$Chain" "next" "[[I", Cond.methodLink RX0 81 yX0_isSingle, Cond.static yX0_isSingle, Cond.code yX0_isSingle cX0_isSingle 1 (some .boolean)]
def wsX4_counted : List Cond := .code yX4_counted cX4_counted 3 (some .int) :: ((wsX4_counted_r1 ++ wsX4_counted_r2) ++ wsX40 ++ wsX00)
def wsX4_trees_r1 : List Cond := [Cond.fieldLink RX4 18 "PastDraws" "stateCount" "I", Cond.constantLong RX4 59 (-1), Cond.fieldLink RX4 27 "PastDraws" "chain" "LPastDraws$Chain;", Cond.methodLink RX4 77 yX4_isWithin, Cond.static yX4_isWithin, Cond.initialized RX4, Cond.code yX4_isWithin cX4_isWithin 3 (some .boolean), Cond.methodLink RX4 105 yX0_allTrees, Cond.instanceMethod yX0_allTrees, Cond.selects RX0 yX0_allTrees yX0_allTrees, Cond.initialized RX0, Cond.code yX0_allTrees cX0_allTrees 4 (some .long), Cond.fieldLink RX0 9 "PastDraws$Chain" "n" "I", Cond.methodLink RX0 88 yX0_treesTo, Cond.instanceMethod yX0_treesTo, Cond.selects RX0 yX0_treesTo yX0_treesTo, Cond.code yX0_treesTo cX0_treesTo 3 (some .long), Cond.methodLink RX0 92 yX0_fillMinorRow, Cond.instanceMethod yX0_fillMinorRow, Cond.selects RX0 yX0_fillMinorRow yX0_fillMinorRow, Cond.code yX0_fillMinorRow cX0_fillMinorRow 7 none, Cond.fieldLink RX0 35 "PastDraws$Chain" "minor" "[[J", Cond.fieldLink RX0 17 "PastDraws$Chain" "next" "[[I", Cond.methodLink RX0 99 yX0_indexWithout]
def wsX4_trees_r2 : List Cond := [Cond.static yX0_indexWithout, Cond.code yX0_indexWithout cX0_indexWithout 2 (some .int), Cond.methodLink RX0 102 yJ7_fill_d0a16, Cond.static yJ7_fill_d0a16, Cond.initialized RJ7, Cond.code yJ7_fill_d0a16 cJ7_fill_d0a16 5 none, Cond.methodLink RX0 96 yX0_determinant, Cond.instanceMethod yX0_determinant, Cond.selects RX0 yX0_determinant yX0_determinant, Cond.code yX0_determinant cX0_determinant 11 (some .long), Cond.methodLink RX4 109 yX0_treesTo]
def wsX4_trees : List Cond := .code yX4_trees cX4_trees 2 (some .long) :: ((wsX4_trees_r1 ++ wsX4_trees_r2) ++ wsX40 ++ wsX00)
def wsX4_once_r1 : List Cond := [Cond.fieldLink RX4 27 "PastDraws" "chain" "LPastDraws$Chain;", Cond.methodLink RX4 77 yX4_isWithin, Cond.static yX4_isWithin, Cond.initialized RX4, Cond.code yX4_isWithin cX4_isWithin 3 (some .boolean), Cond.methodLink RX4 113 yX0_drawOf, Cond.instanceMethod yX0_drawOf, Cond.selects RX0 yX0_drawOf yX0_drawOf, Cond.initialized RX0, Cond.code yX0_drawOf cX0_drawOf 10 (some .int), Cond.methodLink RX0 105 yX0_blockMeets, Cond.instanceMethod yX0_blockMeets, Cond.selects RX0 yX0_blockMeets yX0_blockMeets, Cond.code yX0_blockMeets cX0_blockMeets 6 (some .boolean), Cond.methodLink RX0 74 yX0_allStates, Cond.instanceMethod yX0_allStates, Cond.selects RX0 yX0_allStates yX0_allStates, Cond.code yX0_allStates cX0_allStates 1 (some .int), Cond.fieldLink RX0 9 "PastDraws$Chain" "n" "I", Cond.methodLink RX0 81 yX0_isSingle, Cond.static yX0_isSingle, Cond.code yX0_isSingle cX0_isSingle 1 (some .boolean), Cond.static yX4_signAt, Cond.code yX4_signAt cX4_signAt 2 (some .int)]
def wsX4_once_r2 : List Cond := [Cond.methodLink RX4 52 yX4_mixed, Cond.static yX4_mixed, Cond.code yX4_mixed cX4_mixed 3 (some .int), Cond.constant RX4 172 (-1640531527), Cond.constant RX4 173 (-2048144789), Cond.constant RX4 174 (-1028477387), Cond.methodLink RX0 85 yX0_imageOf, Cond.instanceMethod yX0_imageOf, Cond.selects RX0 yX0_imageOf yX0_imageOf, Cond.code yX0_imageOf cX0_imageOf 5 (some .int), Cond.fieldLink RX0 17 "PastDraws$Chain" "next" "[[I", Cond.methodLink RX0 109 yX0_throughBlock, Cond.instanceMethod yX0_throughBlock, Cond.selects RX0 yX0_throughBlock yX0_throughBlock, Cond.code yX0_throughBlock cX0_throughBlock 7 (some .int)]
def wsX4_once : List Cond := .code yX4_once cX4_once 4 (some .int) :: ((wsX4_once_r1 ++ wsX4_once_r2) ++ wsX40 ++ wsX00)
def wsX4_lead : List Cond := .code yX4_lead cX4_lead 4 (some .int) :: ([.fieldLink RX4 34 "PastDraws" "machine" "LPastDraws$Machine;", .methodLink RX4 73 yX4_isState, .instanceMethod yX4_isState, .selects RX4 yX4_isState yX4_isState, .initialized RX4, .code yX4_isState cX4_isState 2 (some .boolean), .fieldLink RX4 18 "PastDraws" "stateCount" "I", .methodLink RX4 77 yX4_isWithin, .static yX4_isWithin, .code yX4_isWithin cX4_isWithin 3 (some .boolean), .methodLink RX4 116 yX1_setStep, .instanceMethod yX1_setStep, .selects RX1 yX1_setStep yX1_setStep, .initialized RX1, .code yX1_setStep cX1_setStep 5 (some .int), .fieldLink RX1 17 "PastDraws$Machine" "next" "[[I"] ++ wsX40 ++ wsX10)
def wsX4_end : List Cond := .code yX4_end cX4_end 3 (some .int) :: ([.fieldLink RX4 34 "PastDraws" "machine" "LPastDraws$Machine;", .methodLink RX4 73 yX4_isState, .instanceMethod yX4_isState, .selects RX4 yX4_isState yX4_isState, .initialized RX4, .code yX4_isState cX4_isState 2 (some .boolean), .fieldLink RX4 18 "PastDraws" "stateCount" "I", .methodLink RX4 117 yX1_setEnd, .instanceMethod yX1_setEnd, .selects RX1 yX1_setEnd yX1_setEnd, .initialized RX1, .code yX1_setEnd cX1_setEnd 4 (some .boolean), .fieldLink RX1 20 "PastDraws$Machine" "ends" "[Z"] ++ wsX40 ++ wsX10)
def wsX4_words : List Cond := .code yX4_words cX4_words 2 (some .long) :: ([.constantLong RX4 59 (-1), .fieldLink RX4 34 "PastDraws" "machine" "LPastDraws$Machine;", .methodLink RX4 77 yX4_isWithin, .static yX4_isWithin, .initialized RX4, .code yX4_isWithin cX4_isWithin 3 (some .boolean), .methodLink RX4 121 yX1_countAll, .instanceMethod yX1_countAll, .selects RX1 yX1_countAll yX1_countAll, .initialized RX1, .code yX1_countAll cX1_countAll 4 (some .long), .fieldLink RX1 9 "PastDraws$Machine" "n" "I", .fieldLink RX1 26 "PastDraws$Machine" "counts" "[[J", .fieldLink RX1 20 "PastDraws$Machine" "ends" "[Z", .methodLink RX1 35 yX1_countBefore, .instanceMethod yX1_countBefore, .selects RX1 yX1_countBefore yX1_countBefore, .code yX1_countBefore cX1_countBefore 7 (some .long), .methodLink RX1 39 yX1_countWith, .instanceMethod yX1_countWith, .selects RX1 yX1_countWith yX1_countWith, .code yX1_countWith cX1_countWith 5 (some .long), .fieldLink RX1 17 "PastDraws$Machine" "next" "[[I"] ++ wsX40 ++ wsX10)
def wsX4_word_r1 : List Cond := [Cond.fieldLink RX4 34 "PastDraws" "machine" "LPastDraws$Machine;", Cond.methodLink RX4 77 yX4_isWithin, Cond.static yX4_isWithin, Cond.initialized RX4, Cond.code yX4_isWithin cX4_isWithin 3 (some .boolean), Cond.methodLink RX4 121 yX1_countAll, Cond.instanceMethod yX1_countAll, Cond.selects RX1 yX1_countAll yX1_countAll, Cond.initialized RX1, Cond.code yX1_countAll cX1_countAll 4 (some .long), Cond.fieldLink RX1 9 "PastDraws$Machine" "n" "I", Cond.fieldLink RX1 26 "PastDraws$Machine" "counts" "[[J", Cond.fieldLink RX1 20 "PastDraws$Machine" "ends" "[Z", Cond.methodLink RX1 35 yX1_countBefore, Cond.instanceMethod yX1_countBefore, Cond.selects RX1 yX1_countBefore yX1_countBefore, Cond.code yX1_countBefore cX1_countBefore 7 (some .long), Cond.methodLink RX1 39 yX1_countWith, Cond.instanceMethod yX1_countWith, Cond.selects RX1 yX1_countWith yX1_countWith, Cond.code yX1_countWith cX1_countWith 5 (some .long), Cond.fieldLink RX1 17 "PastDraws$Machine" "next" "[[I", Cond.methodLink RX4 124 yX1_letterOf, Cond.instanceMethod yX1_letterOf]
def wsX4_word_r2 : List Cond := [Cond.selects RX1 yX1_letterOf yX1_letterOf, Cond.code yX1_letterOf cX1_letterOf 11 (some .int), Cond.methodLink RX1 42 yX1_letterAt, Cond.instanceMethod yX1_letterAt, Cond.selects RX1 yX1_letterAt yX1_letterAt, Cond.code yX1_letterAt cX1_letterAt 6 (some .int)]
def wsX4_word : List Cond := .code yX4_word cX4_word 5 (some .int) :: ((wsX4_word_r1 ++ wsX4_word_r2) ++ wsX40 ++ wsX10)
def wsX4_rank_r1 : List Cond := [Cond.constantLong RX4 59 (-1), Cond.fieldLink RX4 34 "PastDraws" "machine" "LPastDraws$Machine;", Cond.methodLink RX4 77 yX4_isWithin, Cond.static yX4_isWithin, Cond.initialized RX4, Cond.code yX4_isWithin cX4_isWithin 3 (some .boolean), Cond.methodLink RX4 121 yX1_countAll, Cond.instanceMethod yX1_countAll, Cond.selects RX1 yX1_countAll yX1_countAll, Cond.initialized RX1, Cond.code yX1_countAll cX1_countAll 4 (some .long), Cond.fieldLink RX1 9 "PastDraws$Machine" "n" "I", Cond.fieldLink RX1 26 "PastDraws$Machine" "counts" "[[J", Cond.fieldLink RX1 20 "PastDraws$Machine" "ends" "[Z", Cond.methodLink RX1 35 yX1_countBefore, Cond.instanceMethod yX1_countBefore, Cond.selects RX1 yX1_countBefore yX1_countBefore, Cond.code yX1_countBefore cX1_countBefore 7 (some .long), Cond.methodLink RX1 39 yX1_countWith, Cond.instanceMethod yX1_countWith, Cond.selects RX1 yX1_countWith yX1_countWith, Cond.code yX1_countWith cX1_countWith 5 (some .long), Cond.fieldLink RX1 17 "PastDraws$Machine" "next" "[[I", Cond.methodLink RX4 127 yX1_numberOf]
def wsX4_rank_r2 : List Cond := [Cond.instanceMethod yX1_numberOf, Cond.selects RX1 yX1_numberOf yX1_numberOf, Cond.code yX1_numberOf cX1_numberOf 9 (some .long), Cond.constantLong RX1 46 (-2)]
def wsX4_rank : List Cond := .code yX4_rank cX4_rank 4 (some .long) :: ((wsX4_rank_r1 ++ wsX4_rank_r2) ++ wsX40 ++ wsX10)
def wsX4_allow : List Cond := .code yX4_allow cX4_allow 4 (some .int) :: ([.fieldLink RX4 41 "PastDraws" "orders" "LPastDraws$Orders;", .methodLink RX4 77 yX4_isWithin, .static yX4_isWithin, .initialized RX4, .code yX4_isWithin cX4_isWithin 3 (some .boolean), .methodLink RX4 131 yX2_setAllowed, .instanceMethod yX2_setAllowed, .selects RX2 yX2_setAllowed yX2_setAllowed, .initialized RX2, .code yX2_setAllowed cX2_setAllowed 5 (some .boolean), .fieldLink RX2 9 "PastDraws$Orders" "allowed" "[I"] ++ wsX40 ++ wsX20)
def wsX4_permutations_r1 : List Cond := [Cond.fieldLink RX4 41 "PastDraws" "orders" "LPastDraws$Orders;", Cond.methodLink RX4 77 yX4_isWithin, Cond.static yX4_isWithin, Cond.initialized RX4, Cond.code yX4_isWithin cX4_isWithin 3 (some .boolean), Cond.methodLink RX4 135 yX2_countAll, Cond.instanceMethod yX2_countAll, Cond.selects RX2 yX2_countAll yX2_countAll, Cond.initialized RX2, Cond.code yX2_countAll cX2_countAll 4 (some .int), Cond.fieldLink RX2 15 "PastDraws$Orders" "ways" "[I", Cond.methodLink RX2 24 yX2_waysBefore, Cond.instanceMethod yX2_waysBefore, Cond.selects RX2 yX2_waysBefore yX2_waysBefore, Cond.code yX2_waysBefore cX2_waysBefore 6 (some .int), Cond.methodLink RX2 34 yX2_isFree, Cond.instanceMethod yX2_isFree, Cond.selects RX2 yX2_isFree yX2_isFree, Cond.code yX2_isFree cX2_isFree 4 (some .boolean), Cond.fieldLink RX2 9 "PastDraws$Orders" "allowed" "[I", Cond.methodLink RX2 28 yJ6_bitCount_0f7a4, Cond.static yJ6_bitCount_0f7a4, Cond.initialized RJ6, Cond.code yJ6_bitCount_0f7a4 cJ6_bitCount_0f7a4 1 (some .int)]
def wsX4_permutations_r2 : List Cond := [Cond.constant RJ6 265 (1431655765), Cond.constant RJ6 266 (858993459), Cond.constant RJ6 267 (252645135)]
def wsX4_permutations : List Cond := .code yX4_permutations cX4_permutations 2 (some .int) :: ((wsX4_permutations_r1 ++ wsX4_permutations_r2) ++ wsX40 ++ wsX20)
def wsX4_permutation_r1 : List Cond := [Cond.fieldLink RX4 41 "PastDraws" "orders" "LPastDraws$Orders;", Cond.methodLink RX4 77 yX4_isWithin, Cond.static yX4_isWithin, Cond.initialized RX4, Cond.code yX4_isWithin cX4_isWithin 3 (some .boolean), Cond.methodLink RX4 135 yX2_countAll, Cond.instanceMethod yX2_countAll, Cond.selects RX2 yX2_countAll yX2_countAll, Cond.initialized RX2, Cond.code yX2_countAll cX2_countAll 4 (some .int), Cond.fieldLink RX2 15 "PastDraws$Orders" "ways" "[I", Cond.methodLink RX2 24 yX2_waysBefore, Cond.instanceMethod yX2_waysBefore, Cond.selects RX2 yX2_waysBefore yX2_waysBefore, Cond.code yX2_waysBefore cX2_waysBefore 6 (some .int), Cond.methodLink RX2 34 yX2_isFree, Cond.instanceMethod yX2_isFree, Cond.selects RX2 yX2_isFree yX2_isFree, Cond.code yX2_isFree cX2_isFree 4 (some .boolean), Cond.fieldLink RX2 9 "PastDraws$Orders" "allowed" "[I", Cond.methodLink RX2 28 yJ6_bitCount_0f7a4, Cond.static yJ6_bitCount_0f7a4, Cond.initialized RJ6, Cond.code yJ6_bitCount_0f7a4 cJ6_bitCount_0f7a4 1 (some .int)]
def wsX4_permutation_r2 : List Cond := [Cond.constant RJ6 265 (1431655765), Cond.constant RJ6 266 (858993459), Cond.constant RJ6 267 (252645135), Cond.methodLink RX4 137 yX2_atPlace, Cond.instanceMethod yX2_atPlace, Cond.selects RX2 yX2_atPlace yX2_atPlace, Cond.code yX2_atPlace cX2_atPlace 8 (some .int), Cond.methodLink RX2 38 yX2_nextNumber, Cond.instanceMethod yX2_nextNumber, Cond.selects RX2 yX2_nextNumber yX2_nextNumber, Cond.code yX2_nextNumber cX2_nextNumber 5 (some .int)]
def wsX4_permutation : List Cond := .code yX4_permutation cX4_permutation 4 (some .int) :: ((wsX4_permutation_r1 ++ wsX4_permutation_r2) ++ wsX40 ++ wsX20)
def wsX4_place_r1 : List Cond := [Cond.fieldLink RX4 41 "PastDraws" "orders" "LPastDraws$Orders;", Cond.methodLink RX4 77 yX4_isWithin, Cond.static yX4_isWithin, Cond.initialized RX4, Cond.code yX4_isWithin cX4_isWithin 3 (some .boolean), Cond.methodLink RX4 135 yX2_countAll, Cond.instanceMethod yX2_countAll, Cond.selects RX2 yX2_countAll yX2_countAll, Cond.initialized RX2, Cond.code yX2_countAll cX2_countAll 4 (some .int), Cond.fieldLink RX2 15 "PastDraws$Orders" "ways" "[I", Cond.methodLink RX2 24 yX2_waysBefore, Cond.instanceMethod yX2_waysBefore, Cond.selects RX2 yX2_waysBefore yX2_waysBefore, Cond.code yX2_waysBefore cX2_waysBefore 6 (some .int), Cond.methodLink RX2 34 yX2_isFree, Cond.instanceMethod yX2_isFree, Cond.selects RX2 yX2_isFree yX2_isFree, Cond.code yX2_isFree cX2_isFree 4 (some .boolean), Cond.fieldLink RX2 9 "PastDraws$Orders" "allowed" "[I", Cond.methodLink RX2 28 yJ6_bitCount_0f7a4, Cond.static yJ6_bitCount_0f7a4, Cond.initialized RJ6, Cond.code yJ6_bitCount_0f7a4 cJ6_bitCount_0f7a4 1 (some .int)]
def wsX4_place_r2 : List Cond := [Cond.constant RJ6 265 (1431655765), Cond.constant RJ6 266 (858993459), Cond.constant RJ6 267 (252645135), Cond.methodLink RX4 140 yX2_numberOf, Cond.instanceMethod yX2_numberOf, Cond.selects RX2 yX2_numberOf yX2_numberOf, Cond.code yX2_numberOf cX2_numberOf 7 (some .int)]
def wsX4_place : List Cond := .code yX4_place cX4_place 3 (some .int) :: ((wsX4_place_r1 ++ wsX4_place_r2) ++ wsX40 ++ wsX20)
def wsX4_things : List Cond := .code yX4_things cX4_things 2 (some .int) :: ([.fieldLink RX4 48 "PastDraws" "table" "LPastDraws$Table;", .methodLink RX4 77 yX4_isWithin, .static yX4_isWithin, .initialized RX4, .code yX4_isWithin cX4_isWithin 3 (some .boolean), .methodLink RX4 142 yX3_setThings, .instanceMethod yX3_setThings, .selects RX3 yX3_setThings yX3_setThings, .initialized RX3, .code yX3_setThings cX3_setThings 3 (some .int), .fieldLink RX3 28 "PastDraws$Table" "m" "I", .fieldLink RX3 9 "PastDraws$Table" "weights" "[I", .methodLink RX3 32 yJ7_fill_53178, .static yJ7_fill_53178, .initialized RJ7, .code yJ7_fill_53178 cJ7_fill_53178 4 none] ++ wsX40 ++ wsX30)
def wsX4_weight : List Cond := .code yX4_weight cX4_weight 3 (some .int) :: ([.fieldLink RX4 48 "PastDraws" "table" "LPastDraws$Table;", .methodLink RX4 145 yX3_isThing, .instanceMethod yX3_isThing, .selects RX3 yX3_isThing yX3_isThing, .initialized RX3, .code yX3_isThing cX3_isThing 2 (some .boolean), .fieldLink RX3 28 "PastDraws$Table" "m" "I", .methodLink RX4 77 yX4_isWithin, .static yX4_isWithin, .initialized RX4, .code yX4_isWithin cX4_isWithin 3 (some .boolean), .methodLink RX4 148 yX3_setWeight, .instanceMethod yX3_setWeight, .selects RX3 yX3_setWeight yX3_setWeight, .code yX3_setWeight cX3_setWeight 4 (some .int), .fieldLink RX3 9 "PastDraws$Table" "weights" "[I"] ++ wsX40 ++ wsX30)
def wsX4_cell_r1 : List Cond := [Cond.fieldLink RX4 48 "PastDraws" "table" "LPastDraws$Table;", Cond.methodLink RX4 145 yX3_isThing, Cond.instanceMethod yX3_isThing, Cond.selects RX3 yX3_isThing yX3_isThing, Cond.initialized RX3, Cond.code yX3_isThing cX3_isThing 2 (some .boolean), Cond.fieldLink RX3 28 "PastDraws$Table" "m" "I", Cond.methodLink RX4 77 yX4_isWithin, Cond.static yX4_isWithin, Cond.initialized RX4, Cond.code yX4_isWithin cX4_isWithin 3 (some .boolean), Cond.methodLink RX4 151 yX3_sum, Cond.instanceMethod yX3_sum, Cond.selects RX3 yX3_sum yX3_sum, Cond.code yX3_sum cX3_sum 3 (some .int), Cond.fieldLink RX3 9 "PastDraws$Table" "weights" "[I", Cond.methodLink RX4 155 yX3_make, Cond.instanceMethod yX3_make, Cond.selects RX3 yX3_make yX3_make, Cond.code yX3_make cX3_make 5 none, Cond.fieldLink RX3 15 "PastDraws$Table" "rest" "[I", Cond.fieldLink RX3 18 "PastDraws$Table" "limit" "[I", Cond.fieldLink RX3 21 "PastDraws$Table" "other" "[I", Cond.fieldLink RX3 24 "PastDraws$Table" "isMade" "[Z"]
def wsX4_cell_r2 : List Cond := [Cond.methodLink RX3 38 yX3_firstUnder, Cond.instanceMethod yX3_firstUnder, Cond.selects RX3 yX3_firstUnder yX3_firstUnder, Cond.code yX3_firstUnder cX3_firstUnder 3 (some .int), Cond.methodLink RX3 42 yX3_firstOver, Cond.instanceMethod yX3_firstOver, Cond.selects RX3 yX3_firstOver yX3_firstOver, Cond.code yX3_firstOver cX3_firstOver 3 (some .int), Cond.methodLink RX4 158 yX3_limitOf, Cond.instanceMethod yX3_limitOf, Cond.selects RX3 yX3_limitOf yX3_limitOf, Cond.code yX3_limitOf cX3_limitOf 2 (some .int), Cond.methodLink RX4 161 yX3_otherOf, Cond.instanceMethod yX3_otherOf, Cond.selects RX3 yX3_otherOf yX3_otherOf, Cond.code yX3_otherOf cX3_otherOf 2 (some .int)]
def wsX4_cell : List Cond := .code yX4_cell cX4_cell 4 (some .int) :: ((wsX4_cell_r1 ++ wsX4_cell_r2) ++ wsX40 ++ wsX30)
def wsJ9_floorDiv_7cf53 : List Cond := .code yJ9_floorDiv_7cf53 cJ9_floorDiv_7cf53 3 (some .int) :: ([])
def wsX4_tell_r1 : List Cond := [Cond.fieldLink RX4 48 "PastDraws" "table" "LPastDraws$Table;", Cond.methodLink RX4 151 yX3_sum, Cond.instanceMethod yX3_sum, Cond.selects RX3 yX3_sum yX3_sum, Cond.initialized RX3, Cond.code yX3_sum cX3_sum 3 (some .int), Cond.fieldLink RX3 28 "PastDraws$Table" "m" "I", Cond.fieldLink RX3 9 "PastDraws$Table" "weights" "[I", Cond.methodLink RX4 164 yJ9_floorDiv_7cf53, Cond.static yJ9_floorDiv_7cf53, Cond.initialized RJ9, Cond.code yJ9_floorDiv_7cf53 cJ9_floorDiv_7cf53 3 (some .int), Cond.methodLink RX4 145 yX3_isThing, Cond.instanceMethod yX3_isThing, Cond.selects RX3 yX3_isThing yX3_isThing, Cond.code yX3_isThing cX3_isThing 2 (some .boolean), Cond.methodLink RX4 155 yX3_make, Cond.instanceMethod yX3_make, Cond.selects RX3 yX3_make yX3_make, Cond.code yX3_make cX3_make 5 none, Cond.fieldLink RX3 15 "PastDraws$Table" "rest" "[I", Cond.fieldLink RX3 18 "PastDraws$Table" "limit" "[I", Cond.fieldLink RX3 21 "PastDraws$Table" "other" "[I", Cond.fieldLink RX3 24 "PastDraws$Table" "isMade" "[Z"]
def wsX4_tell_r2 : List Cond := [Cond.methodLink RX3 38 yX3_firstUnder, Cond.instanceMethod yX3_firstUnder, Cond.selects RX3 yX3_firstUnder yX3_firstUnder, Cond.code yX3_firstUnder cX3_firstUnder 3 (some .int), Cond.methodLink RX3 42 yX3_firstOver, Cond.instanceMethod yX3_firstOver, Cond.selects RX3 yX3_firstOver yX3_firstOver, Cond.code yX3_firstOver cX3_firstOver 3 (some .int), Cond.methodLink RX4 167 yX3_thingAt, Cond.instanceMethod yX3_thingAt, Cond.selects RX3 yX3_thingAt yX3_thingAt, Cond.code yX3_thingAt cX3_thingAt 3 (some .int)]
def wsX4_tell : List Cond := .code yX4_tell cX4_tell 3 (some .int) :: ((wsX4_tell_r1 ++ wsX4_tell_r2) ++ wsX40 ++ wsX30)
def wsX5_init : List Cond := .code yX5_init cX5_init 4 none :: ([.methodLink RX5 1 objectInit, .instanceMethod objectInit, .code objectInit ⟨#[0xb1]⟩ 1 none, .arrayClass .int, .fieldLink RX5 7 "PastDrawsModel" "rules" "[I", .fieldLink RX5 13 "PastDrawsModel" "leads" "[I", .arrayClass .boolean, .fieldLink RX5 16 "PastDrawsModel" "isEnd" "[Z", .fieldLink RX5 20 "PastDrawsModel" "isAllowed" "[Z", .fieldLink RX5 23 "PastDrawsModel" "things" "I", .fieldLink RX5 27 "PastDrawsModel" "weights" "[I", .fieldLink RX5 30 "PastDrawsModel" "whole" "[I", .fieldLink RX5 33 "PastDrawsModel" "next" "[I", .fieldLink RX5 36 "PastDrawsModel" "bounds" "[I", .fieldLink RX5 39 "PastDrawsModel" "nextBounds" "[I", .arrayClass .long, .fieldLink RX5 42 "PastDrawsModel" "cells" "[J", .fieldLink RX5 46 "PastDrawsModel" "from" "[J", .fieldLink RX5 49 "PastDrawsModel" "ways" "[I", .fieldLink RX5 52 "PastDrawsModel" "limit" "[I", .fieldLink RX5 55 "PastDrawsModel" "other" "[I", .fieldLink RX5 58 "PastDrawsModel" "rest" "[I", .fieldLink RX5 61 "PastDrawsModel" "isMade" "[Z", .fieldLink RX5 64 "PastDrawsModel" "n" "I"] ++ wsX50)
def wsX5_in : List Cond := .code yX5_in cX5_in 6 (some .boolean) :: ([])
def wsX5_isState : List Cond := .code yX5_isState cX5_isState 2 (some .boolean) :: ([.fieldLink RX5 64 "PastDrawsModel" "n" "I", .methodLink RX5 67 yX5_in, .static yX5_in, .initialized RX5, .code yX5_in cX5_in 6 (some .boolean)] ++ wsX50)
def wsX5_hash : List Cond := .code yX5_hash cX5_hash 4 (some .int) :: ([.constant RX5 71 (-1640531527), .constant RX5 72 (-2048144789), .constant RX5 73 (-1028477387)])
def wsX5_sign : List Cond := .code yX5_sign cX5_sign 3 (some .int) :: ([.methodLink RX5 74 yX5_hash, .instanceMethod yX5_hash, .selects RX5 yX5_hash yX5_hash, .initialized RX5, .code yX5_hash cX5_hash 4 (some .int), .constant RX5 71 (-1640531527), .constant RX5 72 (-2048144789), .constant RX5 73 (-1028477387)])
def wsX5_find : List Cond := .code yX5_find cX5_find 7 none :: ([.fieldLink RX5 78 "PastDrawsModel" "tried" "I", .fieldLink RX5 81 "PastDrawsModel" "picked" "J", .constantLong RX5 85 (4294967295), .methodLink RX5 74 yX5_hash, .instanceMethod yX5_hash, .selects RX5 yX5_hash yX5_hash, .initialized RX5, .code yX5_hash cX5_hash 4 (some .int), .constant RX5 71 (-1640531527), .constant RX5 72 (-2048144789), .constant RX5 73 (-1028477387)] ++ wsX50)
def wsX5_pick : List Cond := .code yX5_pick cX5_pick 4 (some .long) :: ([.constantLong RX5 87 (4611686018427387904), .constantLong RX5 89 (-1), .fieldLink RX5 81 "PastDrawsModel" "picked" "J", .methodLink RX5 67 yX5_in, .static yX5_in, .initialized RX5, .code yX5_in cX5_in 6 (some .boolean), .methodLink RX5 91 yX5_find, .instanceMethod yX5_find, .selects RX5 yX5_find yX5_find, .code yX5_find cX5_find 7 none, .fieldLink RX5 78 "PastDrawsModel" "tried" "I", .constantLong RX5 85 (4294967295), .methodLink RX5 74 yX5_hash, .instanceMethod yX5_hash, .selects RX5 yX5_hash yX5_hash, .code yX5_hash cX5_hash 4 (some .int), .constant RX5 71 (-1640531527), .constant RX5 72 (-2048144789), .constant RX5 73 (-1028477387)] ++ wsX50)
def wsX5_tries : List Cond := .code yX5_tries cX5_tries 4 (some .int) :: ([.constantLong RX5 87 (4611686018427387904), .fieldLink RX5 78 "PastDrawsModel" "tried" "I", .methodLink RX5 67 yX5_in, .static yX5_in, .initialized RX5, .code yX5_in cX5_in 6 (some .boolean), .methodLink RX5 91 yX5_find, .instanceMethod yX5_find, .selects RX5 yX5_find yX5_find, .code yX5_find cX5_find 7 none, .fieldLink RX5 81 "PastDrawsModel" "picked" "J", .constantLong RX5 85 (4294967295), .methodLink RX5 74 yX5_hash, .instanceMethod yX5_hash, .selects RX5 yX5_hash yX5_hash, .code yX5_hash cX5_hash 4 (some .int), .constant RX5 71 (-1640531527), .constant RX5 72 (-2048144789), .constant RX5 73 (-1028477387)] ++ wsX50)
def wsX5_rule : List Cond := .code yX5_rule cX5_rule 5 (some .int) :: ([.constantLong RX5 99 (7), .fieldLink RX5 7 "PastDrawsModel" "rules" "[I", .methodLink RX5 95 yX5_isState, .instanceMethod yX5_isState, .selects RX5 yX5_isState yX5_isState, .initialized RX5, .code yX5_isState cX5_isState 2 (some .boolean), .fieldLink RX5 64 "PastDrawsModel" "n" "I", .methodLink RX5 67 yX5_in, .static yX5_in, .code yX5_in cX5_in 6 (some .boolean)] ++ wsX50)
def wsX5_isLong : List Cond := .code yX5_isLong cX5_isLong 1 (some .boolean) :: ([.constantLong RX5 101 (4096), .methodLink RX5 67 yX5_in, .static yX5_in, .initialized RX5, .code yX5_in cX5_in 6 (some .boolean)])
def wsX5_taken_r1 : List Cond := [Cond.fieldLink RX5 7 "PastDrawsModel" "rules" "[I", Cond.methodLink RX5 103 yX5_isLong, Cond.static yX5_isLong, Cond.initialized RX5, Cond.code yX5_isLong cX5_isLong 1 (some .boolean), Cond.constantLong RX5 101 (4096), Cond.methodLink RX5 67 yX5_in, Cond.static yX5_in, Cond.code yX5_in cX5_in 6 (some .boolean), Cond.methodLink RX5 95 yX5_isState, Cond.instanceMethod yX5_isState, Cond.selects RX5 yX5_isState yX5_isState, Cond.code yX5_isState cX5_isState 2 (some .boolean), Cond.fieldLink RX5 64 "PastDrawsModel" "n" "I", Cond.methodLink RX5 106 yX5_sign, Cond.instanceMethod yX5_sign, Cond.selects RX5 yX5_sign yX5_sign, Cond.code yX5_sign cX5_sign 3 (some .int), Cond.methodLink RX5 74 yX5_hash, Cond.instanceMethod yX5_hash, Cond.selects RX5 yX5_hash yX5_hash, Cond.code yX5_hash cX5_hash 4 (some .int), Cond.constant RX5 71 (-1640531527), Cond.constant RX5 72 (-2048144789)]
def wsX5_taken_r2 : List Cond := [Cond.constant RX5 73 (-1028477387)]
def wsX5_taken : List Cond := .code yX5_taken cX5_taken 6 (some .int) :: ((wsX5_taken_r1 ++ wsX5_taken_r2) ++ wsX50)
def wsX5_begin : List Cond := .code yX5_begin cX5_begin 2 none :: ([.fieldLink RX5 64 "PastDrawsModel" "n" "I", .fieldLink RX5 30 "PastDrawsModel" "whole" "[I"] ++ wsX50)
def wsX5_ahead : List Cond := .code yX5_ahead cX5_ahead 3 none :: ([.fieldLink RX5 64 "PastDrawsModel" "n" "I", .fieldLink RX5 33 "PastDrawsModel" "next" "[I", .fieldLink RX5 30 "PastDrawsModel" "whole" "[I", .fieldLink RX5 7 "PastDrawsModel" "rules" "[I"] ++ wsX50)
def wsX5_behind : List Cond := .code yX5_behind cX5_behind 3 none :: ([.fieldLink RX5 64 "PastDrawsModel" "n" "I", .fieldLink RX5 30 "PastDrawsModel" "whole" "[I", .fieldLink RX5 7 "PastDrawsModel" "rules" "[I"] ++ wsX50)
def wsX5_meets : List Cond := .code yX5_meets cX5_meets 3 (some .boolean) :: ([.fieldLink RX5 64 "PastDrawsModel" "n" "I", .fieldLink RX5 30 "PastDrawsModel" "whole" "[I"] ++ wsX50)
def wsX5_past_r1 : List Cond := [Cond.fieldLink RX5 30 "PastDrawsModel" "whole" "[I", Cond.methodLink RX5 103 yX5_isLong, Cond.static yX5_isLong, Cond.initialized RX5, Cond.code yX5_isLong cX5_isLong 1 (some .boolean), Cond.constantLong RX5 101 (4096), Cond.methodLink RX5 67 yX5_in, Cond.static yX5_in, Cond.code yX5_in cX5_in 6 (some .boolean), Cond.methodLink RX5 109 yX5_begin, Cond.instanceMethod yX5_begin, Cond.selects RX5 yX5_begin yX5_begin, Cond.code yX5_begin cX5_begin 2 none, Cond.fieldLink RX5 64 "PastDrawsModel" "n" "I", Cond.methodLink RX5 106 yX5_sign, Cond.instanceMethod yX5_sign, Cond.selects RX5 yX5_sign yX5_sign, Cond.code yX5_sign cX5_sign 3 (some .int), Cond.methodLink RX5 74 yX5_hash, Cond.instanceMethod yX5_hash, Cond.selects RX5 yX5_hash yX5_hash, Cond.code yX5_hash cX5_hash 4 (some .int), Cond.constant RX5 71 (-1640531527), Cond.constant RX5 72 (-2048144789)]
def wsX5_past_r2 : List Cond := [Cond.constant RX5 73 (-1028477387), Cond.methodLink RX5 112 yX5_ahead, Cond.instanceMethod yX5_ahead, Cond.selects RX5 yX5_ahead yX5_ahead, Cond.code yX5_ahead cX5_ahead 3 none, Cond.fieldLink RX5 33 "PastDrawsModel" "next" "[I", Cond.fieldLink RX5 7 "PastDrawsModel" "rules" "[I", Cond.methodLink RX5 116 yX5_meets, Cond.instanceMethod yX5_meets, Cond.selects RX5 yX5_meets yX5_meets, Cond.code yX5_meets cX5_meets 3 (some .boolean)]
def wsX5_past : List Cond := .code yX5_past cX5_past 5 (some .int) :: ((wsX5_past_r1 ++ wsX5_past_r2) ++ wsX50)
def wsX5_fold_r1 : List Cond := [Cond.methodLink RX5 103 yX5_isLong, Cond.static yX5_isLong, Cond.initialized RX5, Cond.code yX5_isLong cX5_isLong 1 (some .boolean), Cond.constantLong RX5 101 (4096), Cond.methodLink RX5 67 yX5_in, Cond.static yX5_in, Cond.code yX5_in cX5_in 6 (some .boolean), Cond.methodLink RX5 109 yX5_begin, Cond.instanceMethod yX5_begin, Cond.selects RX5 yX5_begin yX5_begin, Cond.code yX5_begin cX5_begin 2 none, Cond.fieldLink RX5 64 "PastDrawsModel" "n" "I", Cond.fieldLink RX5 30 "PastDrawsModel" "whole" "[I", Cond.methodLink RX5 106 yX5_sign, Cond.instanceMethod yX5_sign, Cond.selects RX5 yX5_sign yX5_sign, Cond.code yX5_sign cX5_sign 3 (some .int), Cond.methodLink RX5 74 yX5_hash, Cond.instanceMethod yX5_hash, Cond.selects RX5 yX5_hash yX5_hash, Cond.code yX5_hash cX5_hash 4 (some .int), Cond.constant RX5 71 (-1640531527), Cond.constant RX5 72 (-2048144789)]
def wsX5_fold_r2 : List Cond := [Cond.constant RX5 73 (-1028477387), Cond.methodLink RX5 112 yX5_ahead, Cond.instanceMethod yX5_ahead, Cond.selects RX5 yX5_ahead yX5_ahead, Cond.code yX5_ahead cX5_ahead 3 none, Cond.fieldLink RX5 33 "PastDrawsModel" "next" "[I", Cond.fieldLink RX5 7 "PastDrawsModel" "rules" "[I", Cond.methodLink RX5 116 yX5_meets, Cond.instanceMethod yX5_meets, Cond.selects RX5 yX5_meets yX5_meets, Cond.code yX5_meets cX5_meets 3 (some .boolean)]
def wsX5_fold : List Cond := .code yX5_fold cX5_fold 4 (some .int) :: ((wsX5_fold_r1 ++ wsX5_fold_r2) ++ wsX50)
def wsX5_bound : List Cond := .code yX5_bound cX5_bound 8 (some .int) :: ([.fieldLink RX5 64 "PastDrawsModel" "n" "I", .fieldLink RX5 7 "PastDrawsModel" "rules" "[I"] ++ wsX50)
def wsX5_bounding : List Cond := .code yX5_bounding cX5_bounding 7 (some .int) :: ([.constantLong RX5 120 (64), .fieldLink RX5 36 "PastDrawsModel" "bounds" "[I", .fieldLink RX5 64 "PastDrawsModel" "n" "I", .fieldLink RX5 39 "PastDrawsModel" "nextBounds" "[I", .methodLink RX5 67 yX5_in, .static yX5_in, .initialized RX5, .code yX5_in cX5_in 6 (some .boolean), .methodLink RX5 106 yX5_sign, .instanceMethod yX5_sign, .selects RX5 yX5_sign yX5_sign, .code yX5_sign cX5_sign 3 (some .int), .methodLink RX5 74 yX5_hash, .instanceMethod yX5_hash, .selects RX5 yX5_hash yX5_hash, .code yX5_hash cX5_hash 4 (some .int), .constant RX5 71 (-1640531527), .constant RX5 72 (-2048144789), .constant RX5 73 (-1028477387), .methodLink RX5 122 yX5_bound, .instanceMethod yX5_bound, .selects RX5 yX5_bound yX5_bound, .code yX5_bound cX5_bound 8 (some .int), .fieldLink RX5 7 "PastDrawsModel" "rules" "[I"] ++ wsX50)
def wsX5_monotone : List Cond := .code yX5_monotone cX5_monotone 4 (some .int) :: ([.fieldLink RX5 64 "PastDrawsModel" "n" "I", .fieldLink RX5 7 "PastDrawsModel" "rules" "[I"] ++ wsX50)
def wsX5_counted : List Cond := .code yX5_counted cX5_counted 6 (some .int) :: ([.constantLong RX5 126 (5), .fieldLink RX5 30 "PastDrawsModel" "whole" "[I", .methodLink RX5 67 yX5_in, .static yX5_in, .initialized RX5, .code yX5_in cX5_in 6 (some .boolean), .methodLink RX5 95 yX5_isState, .instanceMethod yX5_isState, .selects RX5 yX5_isState yX5_isState, .code yX5_isState cX5_isState 2 (some .boolean), .fieldLink RX5 64 "PastDrawsModel" "n" "I", .methodLink RX5 109 yX5_begin, .instanceMethod yX5_begin, .selects RX5 yX5_begin yX5_begin, .code yX5_begin cX5_begin 2 none, .methodLink RX5 128 yX5_behind, .instanceMethod yX5_behind, .selects RX5 yX5_behind yX5_behind, .code yX5_behind cX5_behind 3 none, .fieldLink RX5 7 "PastDrawsModel" "rules" "[I", .methodLink RX5 116 yX5_meets, .instanceMethod yX5_meets, .selects RX5 yX5_meets yX5_meets, .code yX5_meets cX5_meets 3 (some .boolean)] ++ wsX50)
def wsX5_cellOf : List Cond := .code yX5_cellOf cX5_cellOf 6 (some .long) :: ([.fieldLink RX5 7 "PastDrawsModel" "rules" "[I"] ++ wsX50)
def wsX5_determinant : List Cond := .code yX5_determinant cX5_determinant 11 (some .long) :: ([.fieldLink RX5 42 "PastDrawsModel" "cells" "[J"] ++ wsX50)
def wsX5_treesOf : List Cond := .code yX5_treesOf cX5_treesOf 6 (some .long) :: ([.fieldLink RX5 64 "PastDrawsModel" "n" "I", .fieldLink RX5 42 "PastDrawsModel" "cells" "[J", .methodLink RX5 131 yX5_cellOf, .instanceMethod yX5_cellOf, .selects RX5 yX5_cellOf yX5_cellOf, .initialized RX5, .code yX5_cellOf cX5_cellOf 6 (some .long), .fieldLink RX5 7 "PastDrawsModel" "rules" "[I", .methodLink RX5 135 yX5_determinant, .instanceMethod yX5_determinant, .selects RX5 yX5_determinant yX5_determinant, .code yX5_determinant cX5_determinant 11 (some .long)] ++ wsX50)
def wsX5_trees : List Cond := .code yX5_trees cX5_trees 5 (some .long) :: ([.constantLong RX5 89 (-1), .fieldLink RX5 64 "PastDrawsModel" "n" "I", .methodLink RX5 95 yX5_isState, .instanceMethod yX5_isState, .selects RX5 yX5_isState yX5_isState, .initialized RX5, .code yX5_isState cX5_isState 2 (some .boolean), .methodLink RX5 67 yX5_in, .static yX5_in, .code yX5_in cX5_in 6 (some .boolean), .methodLink RX5 139 yX5_treesOf, .instanceMethod yX5_treesOf, .selects RX5 yX5_treesOf yX5_treesOf, .code yX5_treesOf cX5_treesOf 6 (some .long), .fieldLink RX5 42 "PastDrawsModel" "cells" "[J", .methodLink RX5 131 yX5_cellOf, .instanceMethod yX5_cellOf, .selects RX5 yX5_cellOf yX5_cellOf, .code yX5_cellOf cX5_cellOf 6 (some .long), .fieldLink RX5 7 "PastDrawsModel" "rules" "[I", .methodLink RX5 135 yX5_determinant, .instanceMethod yX5_determinant, .selects RX5 yX5_determinant yX5_determinant, .code yX5_determinant cX5_determinant 11 (some .long)] ++ wsX50)
def wsX5_once_r1 : List Cond := [Cond.constantLong RX5 120 (64), Cond.constantLong RX5 142 (99), Cond.fieldLink RX5 30 "PastDrawsModel" "whole" "[I", Cond.methodLink RX5 67 yX5_in, Cond.static yX5_in, Cond.initialized RX5, Cond.code yX5_in cX5_in 6 (some .boolean), Cond.methodLink RX5 109 yX5_begin, Cond.instanceMethod yX5_begin, Cond.selects RX5 yX5_begin yX5_begin, Cond.code yX5_begin cX5_begin 2 none, Cond.fieldLink RX5 64 "PastDrawsModel" "n" "I", Cond.methodLink RX5 106 yX5_sign, Cond.instanceMethod yX5_sign, Cond.selects RX5 yX5_sign yX5_sign, Cond.code yX5_sign cX5_sign 3 (some .int), Cond.methodLink RX5 74 yX5_hash, Cond.instanceMethod yX5_hash, Cond.selects RX5 yX5_hash yX5_hash, Cond.code yX5_hash cX5_hash 4 (some .int), Cond.constant RX5 71 (-1640531527), Cond.constant RX5 72 (-2048144789), Cond.constant RX5 73 (-1028477387), Cond.methodLink RX5 128 yX5_behind]
def wsX5_once_r2 : List Cond := [Cond.instanceMethod yX5_behind, Cond.selects RX5 yX5_behind yX5_behind, Cond.code yX5_behind cX5_behind 3 none, Cond.fieldLink RX5 7 "PastDrawsModel" "rules" "[I", Cond.methodLink RX5 116 yX5_meets, Cond.instanceMethod yX5_meets, Cond.selects RX5 yX5_meets yX5_meets, Cond.code yX5_meets cX5_meets 3 (some .boolean)]
def wsX5_once : List Cond := .code yX5_once cX5_once 8 (some .int) :: ((wsX5_once_r1 ++ wsX5_once_r2) ++ wsX50)
def wsX5_lead : List Cond := .code yX5_lead cX5_lead 5 (some .int) :: ([.constantLong RX5 144 (3), .fieldLink RX5 13 "PastDrawsModel" "leads" "[I", .methodLink RX5 95 yX5_isState, .instanceMethod yX5_isState, .selects RX5 yX5_isState yX5_isState, .initialized RX5, .code yX5_isState cX5_isState 2 (some .boolean), .fieldLink RX5 64 "PastDrawsModel" "n" "I", .methodLink RX5 67 yX5_in, .static yX5_in, .code yX5_in cX5_in 6 (some .boolean)] ++ wsX50)
def wsX5_end : List Cond := .code yX5_end cX5_end 4 (some .int) :: ([.fieldLink RX5 16 "PastDrawsModel" "isEnd" "[Z", .methodLink RX5 95 yX5_isState, .instanceMethod yX5_isState, .selects RX5 yX5_isState yX5_isState, .initialized RX5, .code yX5_isState cX5_isState 2 (some .boolean), .fieldLink RX5 64 "PastDrawsModel" "n" "I", .methodLink RX5 67 yX5_in, .static yX5_in, .code yX5_in cX5_in 6 (some .boolean)] ++ wsX50)
def wsX5_countWords : List Cond := .code yX5_countWords cX5_countWords 5 none :: ([.fieldLink RX5 64 "PastDrawsModel" "n" "I", .fieldLink RX5 46 "PastDrawsModel" "from" "[J", .fieldLink RX5 16 "PastDrawsModel" "isEnd" "[Z", .fieldLink RX5 13 "PastDrawsModel" "leads" "[I"] ++ wsX50)
def wsX5_words : List Cond := .code yX5_words cX5_words 2 (some .long) :: ([.constantLong RX5 146 (25), .constantLong RX5 89 (-1), .fieldLink RX5 46 "PastDrawsModel" "from" "[J", .methodLink RX5 67 yX5_in, .static yX5_in, .initialized RX5, .code yX5_in cX5_in 6 (some .boolean), .methodLink RX5 148 yX5_countWords, .instanceMethod yX5_countWords, .selects RX5 yX5_countWords yX5_countWords, .code yX5_countWords cX5_countWords 5 none, .fieldLink RX5 64 "PastDrawsModel" "n" "I", .fieldLink RX5 16 "PastDrawsModel" "isEnd" "[Z", .fieldLink RX5 13 "PastDrawsModel" "leads" "[I"] ++ wsX50)
def wsX5_goesOn : List Cond := .code yX5_goesOn cX5_goesOn 5 (some .long) :: ([.fieldLink RX5 13 "PastDrawsModel" "leads" "[I", .fieldLink RX5 46 "PastDrawsModel" "from" "[J"] ++ wsX50)
def wsX5_word : List Cond := .code yX5_word cX5_word 10 (some .int) :: ([.constantLong RX5 146 (25), .fieldLink RX5 46 "PastDrawsModel" "from" "[J", .fieldLink RX5 13 "PastDrawsModel" "leads" "[I", .methodLink RX5 67 yX5_in, .static yX5_in, .initialized RX5, .code yX5_in cX5_in 6 (some .boolean), .methodLink RX5 148 yX5_countWords, .instanceMethod yX5_countWords, .selects RX5 yX5_countWords yX5_countWords, .code yX5_countWords cX5_countWords 5 none, .fieldLink RX5 64 "PastDrawsModel" "n" "I", .fieldLink RX5 16 "PastDrawsModel" "isEnd" "[Z", .methodLink RX5 151 yX5_goesOn, .instanceMethod yX5_goesOn, .selects RX5 yX5_goesOn yX5_goesOn, .code yX5_goesOn cX5_goesOn 5 (some .long)] ++ wsX50)
def wsX5_rank : List Cond := .code yX5_rank cX5_rank 10 (some .long) :: ([.constantLong RX5 146 (25), .constantLong RX5 89 (-1), .constantLong RX5 144 (3), .fieldLink RX5 13 "PastDrawsModel" "leads" "[I", .constantLong RX5 155 (-2), .fieldLink RX5 16 "PastDrawsModel" "isEnd" "[Z", .methodLink RX5 67 yX5_in, .static yX5_in, .initialized RX5, .code yX5_in cX5_in 6 (some .boolean), .methodLink RX5 148 yX5_countWords, .instanceMethod yX5_countWords, .selects RX5 yX5_countWords yX5_countWords, .code yX5_countWords cX5_countWords 5 none, .fieldLink RX5 64 "PastDrawsModel" "n" "I", .fieldLink RX5 46 "PastDrawsModel" "from" "[J", .methodLink RX5 151 yX5_goesOn, .instanceMethod yX5_goesOn, .selects RX5 yX5_goesOn yX5_goesOn, .code yX5_goesOn cX5_goesOn 5 (some .long)] ++ wsX50)
def wsX5_allow : List Cond := .code yX5_allow cX5_allow 5 (some .int) :: ([.constantLong RX5 99 (7), .fieldLink RX5 20 "PastDrawsModel" "isAllowed" "[Z", .methodLink RX5 67 yX5_in, .static yX5_in, .initialized RX5, .code yX5_in cX5_in 6 (some .boolean)] ++ wsX50)
def wsX5_countWays : List Cond := .code yX5_countWays cX5_countWays 5 none :: ([.fieldLink RX5 49 "PastDrawsModel" "ways" "[I", .fieldLink RX5 20 "PastDrawsModel" "isAllowed" "[Z"] ++ wsX50)
def wsX5_wayOn : List Cond := .code yX5_wayOn cX5_wayOn 4 (some .int) :: ([.fieldLink RX5 20 "PastDrawsModel" "isAllowed" "[Z", .fieldLink RX5 49 "PastDrawsModel" "ways" "[I"] ++ wsX50)
def wsX5_permutations : List Cond := .code yX5_permutations cX5_permutations 2 (some .int) :: ([.constantLong RX5 157 (8), .fieldLink RX5 49 "PastDrawsModel" "ways" "[I", .methodLink RX5 67 yX5_in, .static yX5_in, .initialized RX5, .code yX5_in cX5_in 6 (some .boolean), .methodLink RX5 159 yX5_countWays, .instanceMethod yX5_countWays, .selects RX5 yX5_countWays yX5_countWays, .code yX5_countWays cX5_countWays 5 none, .fieldLink RX5 20 "PastDrawsModel" "isAllowed" "[Z"] ++ wsX50)
def wsX5_permutation : List Cond := .code yX5_permutation cX5_permutation 8 (some .int) :: ([.constantLong RX5 157 (8), .fieldLink RX5 49 "PastDrawsModel" "ways" "[I", .methodLink RX5 67 yX5_in, .static yX5_in, .initialized RX5, .code yX5_in cX5_in 6 (some .boolean), .methodLink RX5 159 yX5_countWays, .instanceMethod yX5_countWays, .selects RX5 yX5_countWays yX5_countWays, .code yX5_countWays cX5_countWays 5 none, .fieldLink RX5 20 "PastDrawsModel" "isAllowed" "[Z", .methodLink RX5 162 yX5_wayOn, .instanceMethod yX5_wayOn, .selects RX5 yX5_wayOn yX5_wayOn, .code yX5_wayOn cX5_wayOn 4 (some .int)] ++ wsX50)
def wsX5_place : List Cond := .code yX5_place cX5_place 8 (some .int) :: ([.constantLong RX5 157 (8), .fieldLink RX5 20 "PastDrawsModel" "isAllowed" "[Z", .methodLink RX5 67 yX5_in, .static yX5_in, .initialized RX5, .code yX5_in cX5_in 6 (some .boolean), .methodLink RX5 159 yX5_countWays, .instanceMethod yX5_countWays, .selects RX5 yX5_countWays yX5_countWays, .code yX5_countWays cX5_countWays 5 none, .fieldLink RX5 49 "PastDrawsModel" "ways" "[I", .methodLink RX5 162 yX5_wayOn, .instanceMethod yX5_wayOn, .selects RX5 yX5_wayOn yX5_wayOn, .code yX5_wayOn cX5_wayOn 4 (some .int)] ++ wsX50)
def wsX5_things : List Cond := .code yX5_things cX5_things 4 (some .int) :: ([.constantLong RX5 165 (16), .fieldLink RX5 23 "PastDrawsModel" "things" "I", .fieldLink RX5 27 "PastDrawsModel" "weights" "[I", .methodLink RX5 67 yX5_in, .static yX5_in, .initialized RX5, .code yX5_in cX5_in 6 (some .boolean)] ++ wsX50)
def wsX5_isThing : List Cond := .code yX5_isThing cX5_isThing 2 (some .boolean) :: ([.fieldLink RX5 23 "PastDrawsModel" "things" "I", .methodLink RX5 67 yX5_in, .static yX5_in, .initialized RX5, .code yX5_in cX5_in 6 (some .boolean)] ++ wsX50)
def wsX5_weight : List Cond := .code yX5_weight cX5_weight 4 (some .int) :: ([.constantLong RX5 170 (1000), .fieldLink RX5 27 "PastDrawsModel" "weights" "[I", .methodLink RX5 167 yX5_isThing, .instanceMethod yX5_isThing, .selects RX5 yX5_isThing yX5_isThing, .initialized RX5, .code yX5_isThing cX5_isThing 2 (some .boolean), .fieldLink RX5 23 "PastDrawsModel" "things" "I", .methodLink RX5 67 yX5_in, .static yX5_in, .code yX5_in cX5_in 6 (some .boolean)] ++ wsX50)
def wsX5_sum : List Cond := .code yX5_sum cX5_sum 3 (some .int) :: ([.fieldLink RX5 23 "PastDrawsModel" "things" "I", .fieldLink RX5 27 "PastDrawsModel" "weights" "[I"] ++ wsX50)
def wsX5_first : List Cond := .code yX5_first cX5_first 4 (some .int) :: ([.fieldLink RX5 23 "PastDrawsModel" "things" "I", .fieldLink RX5 61 "PastDrawsModel" "isMade" "[Z", .fieldLink RX5 58 "PastDrawsModel" "rest" "[I"] ++ wsX50)
def wsX5_make : List Cond := .code yX5_make cX5_make 4 none :: ([.fieldLink RX5 23 "PastDrawsModel" "things" "I", .fieldLink RX5 58 "PastDrawsModel" "rest" "[I", .fieldLink RX5 27 "PastDrawsModel" "weights" "[I", .fieldLink RX5 61 "PastDrawsModel" "isMade" "[Z", .fieldLink RX5 52 "PastDrawsModel" "limit" "[I", .fieldLink RX5 55 "PastDrawsModel" "other" "[I", .methodLink RX5 172 yX5_sum, .instanceMethod yX5_sum, .selects RX5 yX5_sum yX5_sum, .initialized RX5, .code yX5_sum cX5_sum 3 (some .int), .methodLink RX5 176 yX5_first, .instanceMethod yX5_first, .selects RX5 yX5_first yX5_first, .code yX5_first cX5_first 4 (some .int)] ++ wsX50)
def wsX5_cell_r1 : List Cond := [Cond.constantLong RX5 180 (2), Cond.fieldLink RX5 52 "PastDrawsModel" "limit" "[I", Cond.fieldLink RX5 55 "PastDrawsModel" "other" "[I", Cond.methodLink RX5 167 yX5_isThing, Cond.instanceMethod yX5_isThing, Cond.selects RX5 yX5_isThing yX5_isThing, Cond.initialized RX5, Cond.code yX5_isThing cX5_isThing 2 (some .boolean), Cond.fieldLink RX5 23 "PastDrawsModel" "things" "I", Cond.methodLink RX5 67 yX5_in, Cond.static yX5_in, Cond.code yX5_in cX5_in 6 (some .boolean), Cond.methodLink RX5 172 yX5_sum, Cond.instanceMethod yX5_sum, Cond.selects RX5 yX5_sum yX5_sum, Cond.code yX5_sum cX5_sum 3 (some .int), Cond.fieldLink RX5 27 "PastDrawsModel" "weights" "[I", Cond.methodLink RX5 182 yX5_make, Cond.instanceMethod yX5_make, Cond.selects RX5 yX5_make yX5_make, Cond.code yX5_make cX5_make 4 none, Cond.fieldLink RX5 58 "PastDrawsModel" "rest" "[I", Cond.fieldLink RX5 61 "PastDrawsModel" "isMade" "[Z", Cond.methodLink RX5 176 yX5_first]
def wsX5_cell_r2 : List Cond := [Cond.instanceMethod yX5_first, Cond.selects RX5 yX5_first yX5_first, Cond.code yX5_first cX5_first 4 (some .int)]
def wsX5_cell : List Cond := .code yX5_cell cX5_cell 3 (some .int) :: ((wsX5_cell_r1 ++ wsX5_cell_r2) ++ wsX50)
def wsX5_tell : List Cond := .code yX5_tell cX5_tell 3 (some .int) :: ([.fieldLink RX5 23 "PastDrawsModel" "things" "I", .fieldLink RX5 52 "PastDrawsModel" "limit" "[I", .fieldLink RX5 55 "PastDrawsModel" "other" "[I", .methodLink RX5 172 yX5_sum, .instanceMethod yX5_sum, .selects RX5 yX5_sum yX5_sum, .initialized RX5, .code yX5_sum cX5_sum 3 (some .int), .fieldLink RX5 27 "PastDrawsModel" "weights" "[I", .methodLink RX5 67 yX5_in, .static yX5_in, .code yX5_in cX5_in 6 (some .boolean), .methodLink RX5 182 yX5_make, .instanceMethod yX5_make, .selects RX5 yX5_make yX5_make, .code yX5_make cX5_make 4 none, .fieldLink RX5 58 "PastDrawsModel" "rest" "[I", .fieldLink RX5 61 "PastDrawsModel" "isMade" "[Z", .methodLink RX5 176 yX5_first, .instanceMethod yX5_first, .selects RX5 yX5_first yX5_first, .code yX5_first cX5_first 4 (some .int)] ++ wsX50)
def wsJ9_max_7cf53 : List Cond := .code yJ9_max_7cf53 cJ9_max_7cf53 2 (some .int) :: ([])
def wsJ9_min_7cf53 : List Cond := .code yJ9_min_7cf53 cJ9_min_7cf53 2 (some .int) :: ([])
def wsL_cell : List Cond := .code yL_cell cL_cell 2 (some .int) :: ([])
theorem inJ6 : ∀ w ∈ wsJ60, w ∈ lw_tbl := by decide +kernel
theorem inJ9 : ∀ w ∈ wsJ90, w ∈ lw_tbl := by decide +kernel
theorem inJ10 : ∀ w ∈ wsJ100, w ∈ lw_tbl := by decide +kernel
theorem inJ7 : ∀ w ∈ wsJ70, w ∈ lw_tbl := by decide +kernel
abbrev vwCl : List vw_C := [(RX0, TX0, 7), (RX1, TX1, 4), (RX2, TX2, 2), (RX3, TX3, 6), (RX4, TX4, 5), (RX5, TX5, 20)]
