section
-- ===== PART A: goes FIRST, ahead of the names: the tables' words, and 'selects' of the private methods out of them =====
/-- a private method of a class that the tables say can be made, by its rows of tables_1 -/
def lw_okq (q : MethodName × Nat) : Prop := (q.1.cls ≠ "java/lang/invoke/MethodHandle" ∧ q.1.cls ≠ "java/lang/invoke/VarHandle") ∧ Cond.instantiable q.1.cls q.2 ∈ tables_1 ∧ Cond.privateMethod q.1 ∈ tables_1 ∧ Cond.instanceMethod q.1 ∈ tables_1
theorem lw_p0 : lw_okq (⟨"JamDays", "codeAt", "(I)I"⟩, 12) := ⟨⟨by decide +kernel, by decide +kernel⟩, List.mem_of_getElem? (i := 11) (by decide +kernel), List.mem_of_getElem? (i := 112) (by decide +kernel), List.mem_of_getElem? (i := 113) (by decide +kernel)⟩
theorem lw_p1 : lw_okq (⟨"JamDays", "pageIsLarder", "()Z"⟩, 12) := ⟨⟨by decide +kernel, by decide +kernel⟩, List.mem_of_getElem? (i := 11) (by decide +kernel), List.mem_of_getElem? (i := 126) (by decide +kernel), List.mem_of_getElem? (i := 127) (by decide +kernel)⟩
theorem lw_p2 : lw_okq (⟨"JamDays", "readJar", "(I)LJamDays$Jar;"⟩, 12) := ⟨⟨by decide +kernel, by decide +kernel⟩, List.mem_of_getElem? (i := 11) (by decide +kernel), List.mem_of_getElem? (i := 131) (by decide +kernel), List.mem_of_getElem? (i := 132) (by decide +kernel)⟩
theorem lw_p3 : lw_okq (⟨"JamDays", "find", "(I)LJamDays$Jar;"⟩, 12) := ⟨⟨by decide +kernel, by decide +kernel⟩, List.mem_of_getElem? (i := 11) (by decide +kernel), List.mem_of_getElem? (i := 215) (by decide +kernel), List.mem_of_getElem? (i := 216) (by decide +kernel)⟩
theorem lw_p4 : lw_okq (⟨"JamDays", "nextWorth", "(I)I"⟩, 12) := ⟨⟨by decide +kernel, by decide +kernel⟩, List.mem_of_getElem? (i := 11) (by decide +kernel), List.mem_of_getElem? (i := 249) (by decide +kernel), List.mem_of_getElem? (i := 250) (by decide +kernel)⟩
theorem lw_p5 : lw_okq (⟨"JamDays", "firstWorth", "(II)I"⟩, 12) := ⟨⟨by decide +kernel, by decide +kernel⟩, List.mem_of_getElem? (i := 11) (by decide +kernel), List.mem_of_getElem? (i := 253) (by decide +kernel), List.mem_of_getElem? (i := 254) (by decide +kernel)⟩
theorem lw_p6 : lw_okq (⟨"JamDays", "yearsToBest", "(I)I"⟩, 12) := ⟨⟨by decide +kernel, by decide +kernel⟩, List.mem_of_getElem? (i := 11) (by decide +kernel), List.mem_of_getElem? (i := 282) (by decide +kernel), List.mem_of_getElem? (i := 283) (by decide +kernel)⟩
theorem lw_p7 : lw_okq (⟨"JamDays", "hasNoLarder", "()Z"⟩, 12) := ⟨⟨by decide +kernel, by decide +kernel⟩, List.mem_of_getElem? (i := 11) (by decide +kernel), List.mem_of_getElem? (i := 321) (by decide +kernel), List.mem_of_getElem? (i := 322) (by decide +kernel)⟩
theorem lw_p8 : lw_okq (⟨"JamDays", "fillMost", "()V"⟩, 12) := ⟨⟨by decide +kernel, by decide +kernel⟩, List.mem_of_getElem? (i := 11) (by decide +kernel), List.mem_of_getElem? (i := 333) (by decide +kernel), List.mem_of_getElem? (i := 334) (by decide +kernel)⟩
theorem lw_p9 : lw_okq (⟨"JamDays", "setMost", "(III)V"⟩, 12) := ⟨⟨by decide +kernel, by decide +kernel⟩, List.mem_of_getElem? (i := 11) (by decide +kernel), List.mem_of_getElem? (i := 338) (by decide +kernel), List.mem_of_getElem? (i := 339) (by decide +kernel)⟩
theorem lw_p10 : lw_okq (⟨"JamDays", "mostFrom", "(II)I"⟩, 12) := ⟨⟨by decide +kernel, by decide +kernel⟩, List.mem_of_getElem? (i := 11) (by decide +kernel), List.mem_of_getElem? (i := 348) (by decide +kernel), List.mem_of_getElem? (i := 349) (by decide +kernel)⟩
theorem lw_p11 : lw_okq (⟨"JamDays", "worthWithPick", "(III)I"⟩, 12) := ⟨⟨by decide +kernel, by decide +kernel⟩, List.mem_of_getElem? (i := 11) (by decide +kernel), List.mem_of_getElem? (i := 352) (by decide +kernel), List.mem_of_getElem? (i := 353) (by decide +kernel)⟩
theorem lw_p12 : lw_okq (⟨"JamDays", "mostWorth", "(II)I"⟩, 12) := ⟨⟨by decide +kernel, by decide +kernel⟩, List.mem_of_getElem? (i := 11) (by decide +kernel), List.mem_of_getElem? (i := 356) (by decide +kernel), List.mem_of_getElem? (i := 357) (by decide +kernel)⟩
theorem lw_p13 : lw_okq (⟨"JamDays", "pickOf", "(II)I"⟩, 12) := ⟨⟨by decide +kernel, by decide +kernel⟩, List.mem_of_getElem? (i := 11) (by decide +kernel), List.mem_of_getElem? (i := 361) (by decide +kernel), List.mem_of_getElem? (i := 362) (by decide +kernel)⟩
theorem lw_p14 : lw_okq (⟨"JamDays", "fewestPick", "(II)I"⟩, 12) := ⟨⟨by decide +kernel, by decide +kernel⟩, List.mem_of_getElem? (i := 11) (by decide +kernel), List.mem_of_getElem? (i := 365) (by decide +kernel), List.mem_of_getElem? (i := 366) (by decide +kernel)⟩
theorem lw_p15 : lw_okq (⟨"JamDays", "candidates", "()I"⟩, 12) := ⟨⟨by decide +kernel, by decide +kernel⟩, List.mem_of_getElem? (i := 11) (by decide +kernel), List.mem_of_getElem? (i := 385) (by decide +kernel), List.mem_of_getElem? (i := 386) (by decide +kernel)⟩
def lw_privs_1 : List (MethodName × Nat) := [(⟨"JamDays", "codeAt", "(I)I"⟩, 12), (⟨"JamDays", "pageIsLarder", "()Z"⟩, 12), (⟨"JamDays", "readJar", "(I)LJamDays$Jar;"⟩, 12), (⟨"JamDays", "find", "(I)LJamDays$Jar;"⟩, 12), (⟨"JamDays", "nextWorth", "(I)I"⟩, 12), (⟨"JamDays", "firstWorth", "(II)I"⟩, 12), (⟨"JamDays", "yearsToBest", "(I)I"⟩, 12), (⟨"JamDays", "hasNoLarder", "()Z"⟩, 12), (⟨"JamDays", "fillMost", "()V"⟩, 12), (⟨"JamDays", "setMost", "(III)V"⟩, 12), (⟨"JamDays", "mostFrom", "(II)I"⟩, 12), (⟨"JamDays", "worthWithPick", "(III)I"⟩, 12), (⟨"JamDays", "mostWorth", "(II)I"⟩, 12), (⟨"JamDays", "pickOf", "(II)I"⟩, 12), (⟨"JamDays", "fewestPick", "(II)I"⟩, 12), (⟨"JamDays", "candidates", "()I"⟩, 12)]
theorem lw_r1 : ∀ q ∈ lw_privs_1, lw_okq q := List.forall_mem_cons.mpr ⟨lw_p0, List.forall_mem_cons.mpr ⟨lw_p1, List.forall_mem_cons.mpr ⟨lw_p2, List.forall_mem_cons.mpr ⟨lw_p3, List.forall_mem_cons.mpr ⟨lw_p4, List.forall_mem_cons.mpr ⟨lw_p5, List.forall_mem_cons.mpr ⟨lw_p6, List.forall_mem_cons.mpr ⟨lw_p7, List.forall_mem_cons.mpr ⟨lw_p8, List.forall_mem_cons.mpr ⟨lw_p9, List.forall_mem_cons.mpr ⟨lw_p10, List.forall_mem_cons.mpr ⟨lw_p11, List.forall_mem_cons.mpr ⟨lw_p12, List.forall_mem_cons.mpr ⟨lw_p13, List.forall_mem_cons.mpr ⟨lw_p14, List.forall_mem_cons.mpr ⟨lw_p15, fun _ h => absurd h List.not_mem_nil⟩⟩⟩⟩⟩⟩⟩⟩⟩⟩⟩⟩⟩⟩⟩⟩
theorem lw_p16 : lw_okq (⟨"JamDays", "agreesWithTastes", "(I)Z"⟩, 12) := ⟨⟨by decide +kernel, by decide +kernel⟩, List.mem_of_getElem? (i := 11) (by decide +kernel), List.mem_of_getElem? (i := 389) (by decide +kernel), List.mem_of_getElem? (i := 390) (by decide +kernel)⟩
theorem lw_p17 : lw_okq (⟨"JamDays", "leftAtWorst", "(II)I"⟩, 12) := ⟨⟨by decide +kernel, by decide +kernel⟩, List.mem_of_getElem? (i := 11) (by decide +kernel), List.mem_of_getElem? (i := 397) (by decide +kernel), List.mem_of_getElem? (i := 398) (by decide +kernel)⟩
theorem lw_p18 : lw_okq (⟨"JamDays", "openJarsLike", "(III)I"⟩, 12) := ⟨⟨by decide +kernel, by decide +kernel⟩, List.mem_of_getElem? (i := 11) (by decide +kernel), List.mem_of_getElem? (i := 404) (by decide +kernel), List.mem_of_getElem? (i := 405) (by decide +kernel)⟩
theorem lw_p19 : lw_okq (⟨"JamDays", "liveOn", "(II)I"⟩, 12) := ⟨⟨by decide +kernel, by decide +kernel⟩, List.mem_of_getElem? (i := 11) (by decide +kernel), List.mem_of_getElem? (i := 412) (by decide +kernel), List.mem_of_getElem? (i := 413) (by decide +kernel)⟩
theorem lw_p20 : lw_okq (⟨"JamDays", "draw", "(I)I"⟩, 12) := ⟨⟨by decide +kernel, by decide +kernel⟩, List.mem_of_getElem? (i := 11) (by decide +kernel), List.mem_of_getElem? (i := 426) (by decide +kernel), List.mem_of_getElem? (i := 427) (by decide +kernel)⟩
theorem lw_p21 : lw_okq (⟨"JamDays", "emptyJars", "()I"⟩, 12) := ⟨⟨by decide +kernel, by decide +kernel⟩, List.mem_of_getElem? (i := 11) (by decide +kernel), List.mem_of_getElem? (i := 447) (by decide +kernel), List.mem_of_getElem? (i := 448) (by decide +kernel)⟩
theorem lw_p22 : lw_okq (⟨"JamDaysModel", "faultOf", "()I"⟩, 25) := ⟨⟨by decide +kernel, by decide +kernel⟩, List.mem_of_getElem? (i := 465) (by decide +kernel), List.mem_of_getElem? (i := 563) (by decide +kernel), List.mem_of_getElem? (i := 564) (by decide +kernel)⟩
theorem lw_p23 : lw_okq (⟨"JamDaysModel", "isJar", "(I)Z"⟩, 25) := ⟨⟨by decide +kernel, by decide +kernel⟩, List.mem_of_getElem? (i := 465) (by decide +kernel), List.mem_of_getElem? (i := 583) (by decide +kernel), List.mem_of_getElem? (i := 584) (by decide +kernel)⟩
theorem lw_p24 : lw_okq (⟨"JamDaysModel", "tell", "(II)I"⟩, 25) := ⟨⟨by decide +kernel, by decide +kernel⟩, List.mem_of_getElem? (i := 465) (by decide +kernel), List.mem_of_getElem? (i := 587) (by decide +kernel), List.mem_of_getElem? (i := 588) (by decide +kernel)⟩
theorem lw_p25 : lw_okq (⟨"JamDaysModel", "mouldIn", "(II)I"⟩, 25) := ⟨⟨by decide +kernel, by decide +kernel⟩, List.mem_of_getElem? (i := 465) (by decide +kernel), List.mem_of_getElem? (i := 591) (by decide +kernel), List.mem_of_getElem? (i := 592) (by decide +kernel)⟩
theorem lw_p26 : lw_okq (⟨"JamDaysModel", "nextNow", "(I)I"⟩, 25) := ⟨⟨by decide +kernel, by decide +kernel⟩, List.mem_of_getElem? (i := 465) (by decide +kernel), List.mem_of_getElem? (i := 595) (by decide +kernel), List.mem_of_getElem? (i := 596) (by decide +kernel)⟩
theorem lw_p27 : lw_okq (⟨"JamDaysModel", "firstIn", "(II)I"⟩, 25) := ⟨⟨by decide +kernel, by decide +kernel⟩, List.mem_of_getElem? (i := 465) (by decide +kernel), List.mem_of_getElem? (i := 599) (by decide +kernel), List.mem_of_getElem? (i := 600) (by decide +kernel)⟩
theorem lw_p28 : lw_okq (⟨"JamDaysModel", "whenOf", "(I)I"⟩, 25) := ⟨⟨by decide +kernel, by decide +kernel⟩, List.mem_of_getElem? (i := 465) (by decide +kernel), List.mem_of_getElem? (i := 603) (by decide +kernel), List.mem_of_getElem? (i := 604) (by decide +kernel)⟩
theorem lw_p29 : lw_okq (⟨"JamDaysModel", "lacks", "()Z"⟩, 25) := ⟨⟨by decide +kernel, by decide +kernel⟩, List.mem_of_getElem? (i := 465) (by decide +kernel), List.mem_of_getElem? (i := 630) (by decide +kernel), List.mem_of_getElem? (i := 631) (by decide +kernel)⟩
theorem lw_p30 : lw_okq (⟨"JamDaysModel", "noneEaten", "()V"⟩, 25) := ⟨⟨by decide +kernel, by decide +kernel⟩, List.mem_of_getElem? (i := 465) (by decide +kernel), List.mem_of_getElem? (i := 634) (by decide +kernel), List.mem_of_getElem? (i := 635) (by decide +kernel)⟩
theorem lw_p31 : lw_okq (⟨"JamDaysModel", "bestOf", "(II)I"⟩, 25) := ⟨⟨by decide +kernel, by decide +kernel⟩, List.mem_of_getElem? (i := 465) (by decide +kernel), List.mem_of_getElem? (i := 645) (by decide +kernel), List.mem_of_getElem? (i := 646) (by decide +kernel)⟩
def lw_privs_2 : List (MethodName × Nat) := [(⟨"JamDays", "agreesWithTastes", "(I)Z"⟩, 12), (⟨"JamDays", "leftAtWorst", "(II)I"⟩, 12), (⟨"JamDays", "openJarsLike", "(III)I"⟩, 12), (⟨"JamDays", "liveOn", "(II)I"⟩, 12), (⟨"JamDays", "draw", "(I)I"⟩, 12), (⟨"JamDays", "emptyJars", "()I"⟩, 12), (⟨"JamDaysModel", "faultOf", "()I"⟩, 25), (⟨"JamDaysModel", "isJar", "(I)Z"⟩, 25), (⟨"JamDaysModel", "tell", "(II)I"⟩, 25), (⟨"JamDaysModel", "mouldIn", "(II)I"⟩, 25), (⟨"JamDaysModel", "nextNow", "(I)I"⟩, 25), (⟨"JamDaysModel", "firstIn", "(II)I"⟩, 25), (⟨"JamDaysModel", "whenOf", "(I)I"⟩, 25), (⟨"JamDaysModel", "lacks", "()Z"⟩, 25), (⟨"JamDaysModel", "noneEaten", "()V"⟩, 25), (⟨"JamDaysModel", "bestOf", "(II)I"⟩, 25)]
theorem lw_r2 : ∀ q ∈ lw_privs_2, lw_okq q := List.forall_mem_cons.mpr ⟨lw_p16, List.forall_mem_cons.mpr ⟨lw_p17, List.forall_mem_cons.mpr ⟨lw_p18, List.forall_mem_cons.mpr ⟨lw_p19, List.forall_mem_cons.mpr ⟨lw_p20, List.forall_mem_cons.mpr ⟨lw_p21, List.forall_mem_cons.mpr ⟨lw_p22, List.forall_mem_cons.mpr ⟨lw_p23, List.forall_mem_cons.mpr ⟨lw_p24, List.forall_mem_cons.mpr ⟨lw_p25, List.forall_mem_cons.mpr ⟨lw_p26, List.forall_mem_cons.mpr ⟨lw_p27, List.forall_mem_cons.mpr ⟨lw_p28, List.forall_mem_cons.mpr ⟨lw_p29, List.forall_mem_cons.mpr ⟨lw_p30, List.forall_mem_cons.mpr ⟨lw_p31, fun _ h => absurd h List.not_mem_nil⟩⟩⟩⟩⟩⟩⟩⟩⟩⟩⟩⟩⟩⟩⟩⟩
theorem lw_p32 : lw_okq (⟨"JamDaysModel", "spoonsAll", "()I"⟩, 25) := ⟨⟨by decide +kernel, by decide +kernel⟩, List.mem_of_getElem? (i := 465) (by decide +kernel), List.mem_of_getElem? (i := 649) (by decide +kernel), List.mem_of_getElem? (i := 650) (by decide +kernel)⟩
theorem lw_p33 : lw_okq (⟨"JamDaysModel", "layTable", "()V"⟩, 25) := ⟨⟨by decide +kernel, by decide +kernel⟩, List.mem_of_getElem? (i := 465) (by decide +kernel), List.mem_of_getElem? (i := 653) (by decide +kernel), List.mem_of_getElem? (i := 654) (by decide +kernel)⟩
theorem lw_p34 : lw_okq (⟨"JamDaysModel", "worthOf", "(II)I"⟩, 25) := ⟨⟨by decide +kernel, by decide +kernel⟩, List.mem_of_getElem? (i := 465) (by decide +kernel), List.mem_of_getElem? (i := 657) (by decide +kernel), List.mem_of_getElem? (i := 658) (by decide +kernel)⟩
theorem lw_p35 : lw_okq (⟨"JamDaysModel", "whichOf", "()I"⟩, 25) := ⟨⟨by decide +kernel, by decide +kernel⟩, List.mem_of_getElem? (i := 465) (by decide +kernel), List.mem_of_getElem? (i := 675) (by decide +kernel), List.mem_of_getElem? (i := 676) (by decide +kernel)⟩
theorem lw_p36 : lw_okq (⟨"JamDaysModel", "tryOf", "()I"⟩, 25) := ⟨⟨by decide +kernel, by decide +kernel⟩, List.mem_of_getElem? (i := 465) (by decide +kernel), List.mem_of_getElem? (i := 683) (by decide +kernel), List.mem_of_getElem? (i := 684) (by decide +kernel)⟩
theorem lw_p37 : lw_okq (⟨"JamDaysModel", "likeIn", "(III)I"⟩, 25) := ⟨⟨by decide +kernel, by decide +kernel⟩, List.mem_of_getElem? (i := 465) (by decide +kernel), List.mem_of_getElem? (i := 687) (by decide +kernel), List.mem_of_getElem? (i := 688) (by decide +kernel)⟩
theorem lw_p38 : lw_okq (⟨"JamDaysModel", "draw", "(I)I"⟩, 25) := ⟨⟨by decide +kernel, by decide +kernel⟩, List.mem_of_getElem? (i := 465) (by decide +kernel), List.mem_of_getElem? (i := 700) (by decide +kernel), List.mem_of_getElem? (i := 701) (by decide +kernel)⟩
theorem lw_p39 : lw_okq (⟨"JamDaysModel", "countOf", "(I)I"⟩, 25) := ⟨⟨by decide +kernel, by decide +kernel⟩, List.mem_of_getElem? (i := 465) (by decide +kernel), List.mem_of_getElem? (i := 720) (by decide +kernel), List.mem_of_getElem? (i := 721) (by decide +kernel)⟩
theorem lw_p40 : lw_okq (⟨"JamDaysModel", "emptyMany", "()I"⟩, 25) := ⟨⟨by decide +kernel, by decide +kernel⟩, List.mem_of_getElem? (i := 465) (by decide +kernel), List.mem_of_getElem? (i := 724) (by decide +kernel), List.mem_of_getElem? (i := 725) (by decide +kernel)⟩
theorem lw_p41 : lw_okq (⟨"JamDaysModel", "say", "(J)V"⟩, 25) := ⟨⟨by decide +kernel, by decide +kernel⟩, List.mem_of_getElem? (i := 465) (by decide +kernel), List.mem_of_getElem? (i := 733) (by decide +kernel), List.mem_of_getElem? (i := 734) (by decide +kernel)⟩
def lw_privs_3 : List (MethodName × Nat) := [(⟨"JamDaysModel", "spoonsAll", "()I"⟩, 25), (⟨"JamDaysModel", "layTable", "()V"⟩, 25), (⟨"JamDaysModel", "worthOf", "(II)I"⟩, 25), (⟨"JamDaysModel", "whichOf", "()I"⟩, 25), (⟨"JamDaysModel", "tryOf", "()I"⟩, 25), (⟨"JamDaysModel", "likeIn", "(III)I"⟩, 25), (⟨"JamDaysModel", "draw", "(I)I"⟩, 25), (⟨"JamDaysModel", "countOf", "(I)I"⟩, 25), (⟨"JamDaysModel", "emptyMany", "()I"⟩, 25), (⟨"JamDaysModel", "say", "(J)V"⟩, 25)]
theorem lw_r3 : ∀ q ∈ lw_privs_3, lw_okq q := List.forall_mem_cons.mpr ⟨lw_p32, List.forall_mem_cons.mpr ⟨lw_p33, List.forall_mem_cons.mpr ⟨lw_p34, List.forall_mem_cons.mpr ⟨lw_p35, List.forall_mem_cons.mpr ⟨lw_p36, List.forall_mem_cons.mpr ⟨lw_p37, List.forall_mem_cons.mpr ⟨lw_p38, List.forall_mem_cons.mpr ⟨lw_p39, List.forall_mem_cons.mpr ⟨lw_p40, List.forall_mem_cons.mpr ⟨lw_p41, fun _ h => absurd h List.not_mem_nil⟩⟩⟩⟩⟩⟩⟩⟩⟩⟩
def lw_privs : List (MethodName × Nat) := lw_privs_1 ++ (lw_privs_2 ++ (lw_privs_3))
def lw_tbl : List Cond := k2_sels lw_privs ++ tables_1
theorem lw_privs_ok : ∀ q ∈ lw_privs, lw_okq q := by
  show ∀ q ∈ lw_privs_1 ++ (lw_privs_2 ++ (lw_privs_3)), lw_okq q
  exact List.forall_mem_append.mpr ⟨lw_r1, List.forall_mem_append.mpr ⟨lw_r2, lw_r3⟩⟩
-- ===== end of PART A; then your names; then what follows =====
/-! ===== BEGIN words of one list among another's, by their places ===== -/
theorem goodIn_r {big : List Cond} (ws : List Cond) (ps : List Nat) (hp : ws = ps.filterMap (fun i => big[i]?)) (h : ws.all goodWord = true) : GoodIn big ws := by
  intro w hw
  have h1 := List.all_eq_true.mp h w hw
  rw [hp] at hw
  obtain ⟨i, -, hi⟩ := List.mem_filterMap.mp hw
  have hm : w ∈ big := by first | exact List.mem_of_getElem? hi | exact List.getElem?_mem hi
  exact ⟨hm, good_of_word h1⟩
theorem goodIn_app {big a b : List Cond} (ha : GoodIn big a) (hb : GoodIn big b) : GoodIn big (a ++ b) := fun w h => (List.mem_append.mp h).elim (ha w) (hb w)
theorem goodIn_ca {big a b : List Cond} {c : Cond} (ha : GoodIn big (c :: a)) (hb : GoodIn big b) : GoodIn big (c :: (a ++ b)) := fun w h => (List.mem_cons.mp h).elim (fun e => ha w (List.mem_cons.mpr (Or.inl e))) (fun h => (List.mem_append.mp h).elim (fun h => ha w (List.mem_cons.mpr (Or.inr h))) (hb w))
theorem goodIn_sub {big ws : List Cond} (hm : ∀ w ∈ ws, w ∈ big) (h : ws.all goodWord = true) : GoodIn big ws := fun w hw => ⟨hm w hw, good_of_word (List.all_eq_true.mp h w hw)⟩
/-! ===== END ===== -/

/-! ===== BEGIN printed: names, fields, word lists, decode rows ===== -/
def RX0 : String := "JamDays$Copper"
def TX0 : u_T := fun k => match k with
  | 0 => ("JamDays$Jar", "good", "I", true)
  | 1 => ("JamDays$Jar", "sugar", "I", true)
  | _ => ("JamDays$Jar", "mouldEachYear", "I", true)
def tyX0 : Nat → FieldType := fun k => match k with
  | 0 => .int
  | 1 => .int
  | _ => .int
abbrev wsX00 : List Cond := u_ws RX0 TX0 3
theorem nmX0 : ∀ a, a < 3 → ∀ b, b < 3 → a ≠ b → (TX0 a).2.1 ≠ (TX0 b).2.1 := by decide +kernel
theorem tyX0_ok : ∀ k, k < 3 → parseFieldDescriptor (TX0 k).2.2.1 = some (tyX0 k) := by decide +kernel
abbrev cX0_init : ByteArray := prog_2_method_1_code
def yX0_init : MethodName := ⟨RX0, "<init>", "(II)V"⟩
abbrev cX0_kindNumber : ByteArray := prog_2_method_2_code
def yX0_kindNumber : MethodName := ⟨RX0, "kindNumber", "()I"⟩
def RX1 : String := "JamDays$Days"
def TX1 : u_T := fun k => match k with
  | 0 => ("JamDays$Days", "year", "I", false)
  | 1 => ("JamDays$Days", "eaten", "I", false)
  | 2 => ("JamDays$Days", "lost", "I", false)
  | 3 => ("JamDays$Days", "joy", "I", false)
  | 4 => ("JamDays$Days", "tasted", "I", false)
  | 5 => ("JamDays$Days", "spoons", "[I", true)
  | 6 => ("JamDays$Days", "eatenNow", "[I", true)
  | 7 => ("JamDays$Days", "tastedYear", "[I", true)
  | _ => ("JamDays$Days", "tastedWorth", "[I", true)
def tyX1 : Nat → FieldType := fun k => match k with
  | 0 => .int
  | 1 => .int
  | 2 => .int
  | 3 => .int
  | 4 => .int
  | 5 => .array .int
  | 6 => .array .int
  | 7 => .array .int
  | _ => .array .int
abbrev wsX10 : List Cond := u_ws RX1 TX1 9
theorem nmX1 : ∀ a, a < 9 → ∀ b, b < 9 → a ≠ b → (TX1 a).2.1 ≠ (TX1 b).2.1 := by decide +kernel
theorem tyX1_ok : ∀ k, k < 9 → parseFieldDescriptor (TX1 k).2.2.1 = some (tyX1 k) := by decide +kernel
abbrev cX1_init : ByteArray := prog_3_method_1_code
def yX1_init : MethodName := ⟨RX1, "<init>", "()V"⟩
abbrev cX1_startAnew : ByteArray := prog_3_method_2_code
def yX1_startAnew : MethodName := ⟨RX1, "startAnew", "(I)V"⟩
abbrev cX1_copyFrom : ByteArray := prog_3_method_3_code
def yX1_copyFrom : MethodName := ⟨RX1, "copyFrom", "(LJamDays$Days;)V"⟩
abbrev cX1_spoonsOf : ByteArray := prog_3_method_4_code
def yX1_spoonsOf : MethodName := ⟨RX1, "spoonsOf", "(I)I"⟩
abbrev cX1_eatenNowOf : ByteArray := prog_3_method_5_code
def yX1_eatenNowOf : MethodName := ⟨RX1, "eatenNowOf", "(I)I"⟩
abbrev cX1_spoonsOfAll : ByteArray := prog_3_method_6_code
def yX1_spoonsOfAll : MethodName := ⟨RX1, "spoonsOfAll", "()I"⟩
abbrev cX1_eatSpoon : ByteArray := prog_3_method_7_code
def yX1_eatSpoon : MethodName := ⟨RX1, "eatSpoon", "(II)Z"⟩
abbrev cX1_loseSpoon : ByteArray := prog_3_method_8_code
def yX1_loseSpoon : MethodName := ⟨RX1, "loseSpoon", "(I)Z"⟩
abbrev cX1_passYear : ByteArray := prog_3_method_9_code
def yX1_passYear : MethodName := ⟨RX1, "passYear", "()V"⟩
abbrev cX1_addTaste : ByteArray := prog_3_method_10_code
def yX1_addTaste : MethodName := ⟨RX1, "addTaste", "(II)Z"⟩
def RX2 : String := "JamDays$Gold"
def TX2 : u_T := fun k => match k with
  | 0 => ("JamDays$Jar", "good", "I", true)
  | 1 => ("JamDays$Jar", "sugar", "I", true)
  | _ => ("JamDays$Jar", "mouldEachYear", "I", true)
def tyX2 : Nat → FieldType := fun k => match k with
  | 0 => .int
  | 1 => .int
  | _ => .int
abbrev wsX20 : List Cond := u_ws RX2 TX2 3
theorem nmX2 : ∀ a, a < 3 → ∀ b, b < 3 → a ≠ b → (TX2 a).2.1 ≠ (TX2 b).2.1 := by decide +kernel
theorem tyX2_ok : ∀ k, k < 3 → parseFieldDescriptor (TX2 k).2.2.1 = some (tyX2 k) := by decide +kernel
abbrev cX2_init : ByteArray := prog_4_method_1_code
def yX2_init : MethodName := ⟨RX2, "<init>", "(II)V"⟩
abbrev cX2_kindNumber : ByteArray := prog_4_method_2_code
def yX2_kindNumber : MethodName := ⟨RX2, "kindNumber", "()I"⟩
abbrev cX2_firstWorthIn : ByteArray := prog_4_method_3_code
def yX2_firstWorthIn : MethodName := ⟨RX2, "firstWorthIn", "(I)I"⟩
def RX3 : String := "JamDays$Jar"
def TX3 : u_T := fun k => match k with
  | 0 => ("JamDays$Jar", "good", "I", true)
  | 1 => ("JamDays$Jar", "sugar", "I", true)
  | _ => ("JamDays$Jar", "mouldEachYear", "I", true)
def tyX3 : Nat → FieldType := fun k => match k with
  | 0 => .int
  | 1 => .int
  | _ => .int
abbrev wsX30 : List Cond := u_ws RX3 TX3 3
theorem nmX3 : ∀ a, a < 3 → ∀ b, b < 3 → a ≠ b → (TX3 a).2.1 ≠ (TX3 b).2.1 := by decide +kernel
theorem tyX3_ok : ∀ k, k < 3 → parseFieldDescriptor (TX3 k).2.2.1 = some (tyX3 k) := by decide +kernel
abbrev cX3_init : ByteArray := prog_5_method_1_code
def yX3_init : MethodName := ⟨RX3, "<init>", "(II)V"⟩
abbrev cX3_init_ : ByteArray := prog_5_method_2_code
def yX3_init_ : MethodName := ⟨RX3, "<init>", "(III)V"⟩
abbrev cX3_plainMould : ByteArray := prog_5_method_3_code
def yX3_plainMould : MethodName := ⟨RX3, "plainMould", "(I)I"⟩
abbrev cX3_kindNumber : ByteArray := prog_5_method_4_code
def yX3_kindNumber : MethodName := ⟨RX3, "kindNumber", "()I"⟩
abbrev cX3_mouldIn : ByteArray := prog_5_method_5_code
def yX3_mouldIn : MethodName := ⟨RX3, "mouldIn", "(I)I"⟩
abbrev cX3_firstWorthIn : ByteArray := prog_5_method_6_code
def yX3_firstWorthIn : MethodName := ⟨RX3, "firstWorthIn", "(I)I"⟩
def RX4 : String := "JamDays$Plum"
def TX4 : u_T := fun k => match k with
  | 0 => ("JamDays$Jar", "good", "I", true)
  | 1 => ("JamDays$Jar", "sugar", "I", true)
  | _ => ("JamDays$Jar", "mouldEachYear", "I", true)
def tyX4 : Nat → FieldType := fun k => match k with
  | 0 => .int
  | 1 => .int
  | _ => .int
abbrev wsX40 : List Cond := u_ws RX4 TX4 3
theorem nmX4 : ∀ a, a < 3 → ∀ b, b < 3 → a ≠ b → (TX4 a).2.1 ≠ (TX4 b).2.1 := by decide +kernel
theorem tyX4_ok : ∀ k, k < 3 → parseFieldDescriptor (TX4 k).2.2.1 = some (tyX4 k) := by decide +kernel
abbrev cX4_init : ByteArray := prog_6_method_1_code
def yX4_init : MethodName := ⟨RX4, "<init>", "(II)V"⟩
abbrev cX4_kindNumber : ByteArray := prog_6_method_2_code
def yX4_kindNumber : MethodName := ⟨RX4, "kindNumber", "()I"⟩
abbrev cX4_firstWorthIn : ByteArray := prog_6_method_3_code
def yX4_firstWorthIn : MethodName := ⟨RX4, "firstWorthIn", "(I)I"⟩
def RX5 : String := "JamDays$Weak"
def TX5 : u_T := fun k => match k with
  | 0 => ("JamDays$Jar", "good", "I", true)
  | 1 => ("JamDays$Jar", "sugar", "I", true)
  | _ => ("JamDays$Jar", "mouldEachYear", "I", true)
def tyX5 : Nat → FieldType := fun k => match k with
  | 0 => .int
  | 1 => .int
  | _ => .int
abbrev wsX50 : List Cond := u_ws RX5 TX5 3
theorem nmX5 : ∀ a, a < 3 → ∀ b, b < 3 → a ≠ b → (TX5 a).2.1 ≠ (TX5 b).2.1 := by decide +kernel
theorem tyX5_ok : ∀ k, k < 3 → parseFieldDescriptor (TX5 k).2.2.1 = some (tyX5 k) := by decide +kernel
abbrev cX5_init : ByteArray := prog_7_method_1_code
def yX5_init : MethodName := ⟨RX5, "<init>", "(II)V"⟩
abbrev cX5_kindNumber : ByteArray := prog_7_method_2_code
def yX5_kindNumber : MethodName := ⟨RX5, "kindNumber", "()I"⟩
def RX6 : String := "JamDays"
def TX6 : u_T := fun k => match k with
  | 0 => ("JamDays", "page", "[I", true)
  | 1 => ("JamDays", "pageSize", "I", false)
  | 2 => ("JamDays", "jars", "[LJamDays$Jar;", true)
  | 3 => ("JamDays", "jarCount", "I", false)
  | 4 => ("JamDays", "now", "LJamDays$Days;", true)
  | 5 => ("JamDays", "kept", "LJamDays$Days;", true)
  | 6 => ("JamDays", "would", "LJamDays$Days;", true)
  | 7 => ("JamDays", "hasImage", "Z", false)
  | 8 => ("JamDays", "lardersRead", "I", false)
  | 9 => ("JamDays", "bestsDone", "I", false)
  | 10 => ("JamDays", "most", "[I", true)
  | _ => ("JamDays", "nextWorths", "[I", true)
def tyX6 : Nat → FieldType := fun k => match k with
  | 0 => .array .int
  | 1 => .int
  | 2 => .array (.object "JamDays$Jar")
  | 3 => .int
  | 4 => .object "JamDays$Days"
  | 5 => .object "JamDays$Days"
  | 6 => .object "JamDays$Days"
  | 7 => .boolean
  | 8 => .int
  | 9 => .int
  | 10 => .array .int
  | _ => .array .int
abbrev wsX60 : List Cond := u_ws RX6 TX6 12
theorem nmX6 : ∀ a, a < 12 → ∀ b, b < 12 → a ≠ b → (TX6 a).2.1 ≠ (TX6 b).2.1 := by decide +kernel
theorem tyX6_ok : ∀ k, k < 12 → parseFieldDescriptor (TX6 k).2.2.1 = some (tyX6 k) := by decide +kernel
abbrev cX6_init : ByteArray := prog_1_method_1_code
def yX6_init : MethodName := ⟨RX6, "<init>", "()V"⟩
abbrev cX6_letter : ByteArray := prog_1_method_2_code
def yX6_letter : MethodName := ⟨RX6, "letter", "(I)I"⟩
abbrev cX6_blank : ByteArray := prog_1_method_3_code
def yX6_blank : MethodName := ⟨RX6, "blank", "()I"⟩
abbrev cX6_fault : ByteArray := prog_1_method_4_code
def yX6_fault : MethodName := ⟨RX6, "fault", "()I"⟩
abbrev cX6_larder : ByteArray := prog_1_method_5_code
def yX6_larder : MethodName := ⟨RX6, "larder", "()I"⟩
abbrev cX6_jar : ByteArray := prog_1_method_6_code
def yX6_jar : MethodName := ⟨RX6, "jar", "(II)I"⟩
abbrev cX6_as : ByteArray := prog_1_method_7_code
def yX6_as : MethodName := ⟨RX6, "as", "(II)I"⟩
abbrev cX6_worth : ByteArray := prog_1_method_8_code
def yX6_worth : MethodName := ⟨RX6, "worth", "(II)I"⟩
abbrev cX6_eat : ByteArray := prog_1_method_9_code
def yX6_eat : MethodName := ⟨RX6, "eat", "(I)I"⟩
abbrev cX6_wasps : ByteArray := prog_1_method_10_code
def yX6_wasps : MethodName := ⟨RX6, "wasps", "(I)I"⟩
abbrev cX6_year : ByteArray := prog_1_method_11_code
def yX6_year : MethodName := ⟨RX6, "year", "()I"⟩
abbrev cX6_best : ByteArray := prog_1_method_12_code
def yX6_best : MethodName := ⟨RX6, "best", "(II)I"⟩
abbrev cX6_taste : ByteArray := prog_1_method_13_code
def yX6_taste : MethodName := ⟨RX6, "taste", "(II)I"⟩
abbrev cX6_forget : ByteArray := prog_1_method_14_code
def yX6_forget : MethodName := ⟨RX6, "forget", "()I"⟩
abbrev cX6_which : ByteArray := prog_1_method_15_code
def yX6_which : MethodName := ⟨RX6, "which", "()I"⟩
abbrev cX6_tasteNext : ByteArray := prog_1_method_16_code
def yX6_tasteNext : MethodName := ⟨RX6, "tasteNext", "()I"⟩
abbrev cX6_times : ByteArray := prog_1_method_17_code
def yX6_times : MethodName := ⟨RX6, "times", "(III)I"⟩
abbrev cX6_image : ByteArray := prog_1_method_18_code
def yX6_image : MethodName := ⟨RX6, "image", "()I"⟩
abbrev cX6_restore : ByteArray := prog_1_method_19_code
def yX6_restore : MethodName := ⟨RX6, "restore", "()I"⟩
abbrev cX6_count : ByteArray := prog_1_method_20_code
def yX6_count : MethodName := ⟨RX6, "count", "(I)I"⟩
abbrev cX6_digest : ByteArray := prog_1_method_21_code
def yX6_digest : MethodName := ⟨RX6, "digest", "()J"⟩
abbrev cX6_mix : ByteArray := prog_1_method_22_code
def yX6_mix : MethodName := ⟨RX6, "mix", "(JI)J"⟩
abbrev cX6_codeAt : ByteArray := prog_1_method_23_code
def yX6_codeAt : MethodName := ⟨RX6, "codeAt", "(I)I"⟩
abbrev cX6_fits : ByteArray := prog_1_method_24_code
def yX6_fits : MethodName := ⟨RX6, "fits", "(II)Z"⟩
abbrev cX6_isKindLetter : ByteArray := prog_1_method_25_code
def yX6_isKindLetter : MethodName := ⟨RX6, "isKindLetter", "(I)Z"⟩
abbrev cX6_pageIsLarder : ByteArray := prog_1_method_26_code
def yX6_pageIsLarder : MethodName := ⟨RX6, "pageIsLarder", "()Z"⟩
abbrev cX6_readJar : ByteArray := prog_1_method_27_code
def yX6_readJar : MethodName := ⟨RX6, "readJar", "(I)LJamDays$Jar;"⟩
abbrev cX6_hasNoLarder : ByteArray := prog_1_method_28_code
def yX6_hasNoLarder : MethodName := ⟨RX6, "hasNoLarder", "()Z"⟩
abbrev cX6_isNoYear : ByteArray := prog_1_method_29_code
def yX6_isNoYear : MethodName := ⟨RX6, "isNoYear", "(I)Z"⟩
abbrev cX6_find : ByteArray := prog_1_method_30_code
def yX6_find : MethodName := ⟨RX6, "find", "(I)LJamDays$Jar;"⟩
abbrev cX6_isOfKind : ByteArray := prog_1_method_31_code
def yX6_isOfKind : MethodName := ⟨RX6, "isOfKind", "(LJamDays$Jar;I)Z"⟩
abbrev cX6_firstWorth : ByteArray := prog_1_method_32_code
def yX6_firstWorth : MethodName := ⟨RX6, "firstWorth", "(II)I"⟩
abbrev cX6_nextWorth : ByteArray := prog_1_method_33_code
def yX6_nextWorth : MethodName := ⟨RX6, "nextWorth", "(I)I"⟩
abbrev cX6_yearsToBest : ByteArray := prog_1_method_34_code
def yX6_yearsToBest : MethodName := ⟨RX6, "yearsToBest", "(I)I"⟩
abbrev cX6_emptyJars : ByteArray := prog_1_method_35_code
def yX6_emptyJars : MethodName := ⟨RX6, "emptyJars", "()I"⟩
abbrev cX6_fillMost : ByteArray := prog_1_method_36_code
def yX6_fillMost : MethodName := ⟨RX6, "fillMost", "()V"⟩
abbrev cX6_mostFrom : ByteArray := prog_1_method_37_code
def yX6_mostFrom : MethodName := ⟨RX6, "mostFrom", "(II)I"⟩
abbrev cX6_worthWithPick : ByteArray := prog_1_method_38_code
def yX6_worthWithPick : MethodName := ⟨RX6, "worthWithPick", "(III)I"⟩
abbrev cX6_pickOf : ByteArray := prog_1_method_39_code
def yX6_pickOf : MethodName := ⟨RX6, "pickOf", "(II)I"⟩
abbrev cX6_fewestPick : ByteArray := prog_1_method_40_code
def yX6_fewestPick : MethodName := ⟨RX6, "fewestPick", "(II)I"⟩
abbrev cX6_isInMost : ByteArray := prog_1_method_41_code
def yX6_isInMost : MethodName := ⟨RX6, "isInMost", "(II)Z"⟩
abbrev cX6_mostWorth : ByteArray := prog_1_method_42_code
def yX6_mostWorth : MethodName := ⟨RX6, "mostWorth", "(II)I"⟩
abbrev cX6_setMost : ByteArray := prog_1_method_43_code
def yX6_setMost : MethodName := ⟨RX6, "setMost", "(III)V"⟩
abbrev cX6_candidates : ByteArray := prog_1_method_44_code
def yX6_candidates : MethodName := ⟨RX6, "candidates", "()I"⟩
abbrev cX6_agreesWithTastes : ByteArray := prog_1_method_45_code
def yX6_agreesWithTastes : MethodName := ⟨RX6, "agreesWithTastes", "(I)Z"⟩
abbrev cX6_leftAtWorst : ByteArray := prog_1_method_46_code
def yX6_leftAtWorst : MethodName := ⟨RX6, "leftAtWorst", "(II)I"⟩
abbrev cX6_openJarsLike : ByteArray := prog_1_method_47_code
def yX6_openJarsLike : MethodName := ⟨RX6, "openJarsLike", "(III)I"⟩
abbrev cX6_isOpen : ByteArray := prog_1_method_48_code
def yX6_isOpen : MethodName := ⟨RX6, "isOpen", "(II)Z"⟩
abbrev cX6_liveOn : ByteArray := prog_1_method_49_code
def yX6_liveOn : MethodName := ⟨RX6, "liveOn", "(II)I"⟩
abbrev cX6_nextSeed : ByteArray := prog_1_method_50_code
def yX6_nextSeed : MethodName := ⟨RX6, "nextSeed", "(I)I"⟩
abbrev cX6_draw : ByteArray := prog_1_method_51_code
def yX6_draw : MethodName := ⟨RX6, "draw", "(I)I"⟩
def RX7 : String := "JamDaysModel"
def TX7 : u_T := fun k => match k with
  | 0 => ("JamDaysModel", "page", "[I", true)
  | 1 => ("JamDaysModel", "pageMany", "I", false)
  | 2 => ("JamDaysModel", "jars", "I", false)
  | 3 => ("JamDaysModel", "yearNow", "I", false)
  | 4 => ("JamDaysModel", "joy", "I", false)
  | 5 => ("JamDaysModel", "eaten", "I", false)
  | 6 => ("JamDaysModel", "taken", "I", false)
  | 7 => ("JamDaysModel", "lardersRead", "I", false)
  | 8 => ("JamDaysModel", "rows", "[I", true)
  | 9 => ("JamDaysModel", "bestDone", "I", false)
  | 10 => ("JamDaysModel", "table", "[I", true)
  | 11 => ("JamDaysModel", "counts", "[I", true)
  | 12 => ("JamDaysModel", "tastedMany", "I", false)
  | 13 => ("JamDaysModel", "tastes", "[I", true)
  | 14 => ("JamDaysModel", "seedNow", "I", false)
  | 15 => ("JamDaysModel", "savedRows", "[I", true)
  | 16 => ("JamDaysModel", "keptLarder", "I", false)
  | 17 => ("JamDaysModel", "keptYear", "I", false)
  | 18 => ("JamDaysModel", "keptJoy", "I", false)
  | 19 => ("JamDaysModel", "keptEaten", "I", false)
  | 20 => ("JamDaysModel", "keptTaken", "I", false)
  | 21 => ("JamDaysModel", "keptTasted", "I", false)
  | 22 => ("JamDaysModel", "keptRows", "[I", true)
  | 23 => ("JamDaysModel", "keptTastes", "[I", true)
  | _ => ("JamDaysModel", "hash", "J", false)
def tyX7 : Nat → FieldType := fun k => match k with
  | 0 => .array .int
  | 1 => .int
  | 2 => .int
  | 3 => .int
  | 4 => .int
  | 5 => .int
  | 6 => .int
  | 7 => .int
  | 8 => .array .int
  | 9 => .int
  | 10 => .array .int
  | 11 => .array .int
  | 12 => .int
  | 13 => .array .int
  | 14 => .int
  | 15 => .array .int
  | 16 => .int
  | 17 => .int
  | 18 => .int
  | 19 => .int
  | 20 => .int
  | 21 => .int
  | 22 => .array .int
  | 23 => .array .int
  | _ => .long
abbrev wsX70 : List Cond := u_ws RX7 TX7 25
theorem nmX7 : ∀ a, a < 25 → ∀ b, b < 25 → a ≠ b → (TX7 a).2.1 ≠ (TX7 b).2.1 := by decide +kernel
theorem tyX7_ok : ∀ k, k < 25 → parseFieldDescriptor (TX7 k).2.2.1 = some (tyX7 k) := by decide +kernel
abbrev cX7_init : ByteArray := prog_9_method_1_code
def yX7_init : MethodName := ⟨RX7, "<init>", "()V"⟩
abbrev cX7_in : ByteArray := prog_9_method_2_code
def yX7_in : MethodName := ⟨RX7, "in", "(JJJ)Z"⟩
abbrev cX7_copy : ByteArray := prog_9_method_3_code
def yX7_copy : MethodName := ⟨RX7, "copy", "([I[I)V"⟩
abbrev cX7_letter : ByteArray := prog_9_method_4_code
def yX7_letter : MethodName := ⟨RX7, "letter", "(I)I"⟩
abbrev cX7_blank : ByteArray := prog_9_method_5_code
def yX7_blank : MethodName := ⟨RX7, "blank", "()I"⟩
abbrev cX7_kindBy : ByteArray := prog_9_method_6_code
def yX7_kindBy : MethodName := ⟨RX7, "kindBy", "(I)I"⟩
abbrev cX7_isGood : ByteArray := prog_9_method_7_code
def yX7_isGood : MethodName := ⟨RX7, "isGood", "(II)Z"⟩
abbrev cX7_faultOf : ByteArray := prog_9_method_8_code
def yX7_faultOf : MethodName := ⟨RX7, "faultOf", "()I"⟩
abbrev cX7_fault : ByteArray := prog_9_method_9_code
def yX7_fault : MethodName := ⟨RX7, "fault", "()I"⟩
abbrev cX7_larder : ByteArray := prog_9_method_10_code
def yX7_larder : MethodName := ⟨RX7, "larder", "()I"⟩
abbrev cX7_lacks : ByteArray := prog_9_method_11_code
def yX7_lacks : MethodName := ⟨RX7, "lacks", "()Z"⟩
abbrev cX7_isJar : ByteArray := prog_9_method_12_code
def yX7_isJar : MethodName := ⟨RX7, "isJar", "(I)Z"⟩
abbrev cX7_mouldIn : ByteArray := prog_9_method_13_code
def yX7_mouldIn : MethodName := ⟨RX7, "mouldIn", "(II)I"⟩
abbrev cX7_firstIn : ByteArray := prog_9_method_14_code
def yX7_firstIn : MethodName := ⟨RX7, "firstIn", "(II)I"⟩
abbrev cX7_nextNow : ByteArray := prog_9_method_15_code
def yX7_nextNow : MethodName := ⟨RX7, "nextNow", "(I)I"⟩
abbrev cX7_whenOf : ByteArray := prog_9_method_16_code
def yX7_whenOf : MethodName := ⟨RX7, "whenOf", "(I)I"⟩
abbrev cX7_tell : ByteArray := prog_9_method_17_code
def yX7_tell : MethodName := ⟨RX7, "tell", "(II)I"⟩
abbrev cX7_jar : ByteArray := prog_9_method_18_code
def yX7_jar : MethodName := ⟨RX7, "jar", "(II)I"⟩
abbrev cX7_as : ByteArray := prog_9_method_19_code
def yX7_as : MethodName := ⟨RX7, "as", "(II)I"⟩
abbrev cX7_worth : ByteArray := prog_9_method_20_code
def yX7_worth : MethodName := ⟨RX7, "worth", "(II)I"⟩
abbrev cX7_eat : ByteArray := prog_9_method_21_code
def yX7_eat : MethodName := ⟨RX7, "eat", "(I)I"⟩
abbrev cX7_wasps : ByteArray := prog_9_method_22_code
def yX7_wasps : MethodName := ⟨RX7, "wasps", "(I)I"⟩
abbrev cX7_noneEaten : ByteArray := prog_9_method_23_code
def yX7_noneEaten : MethodName := ⟨RX7, "noneEaten", "()V"⟩
abbrev cX7_year : ByteArray := prog_9_method_24_code
def yX7_year : MethodName := ⟨RX7, "year", "()I"⟩
abbrev cX7_spoonsAll : ByteArray := prog_9_method_25_code
def yX7_spoonsAll : MethodName := ⟨RX7, "spoonsAll", "()I"⟩
abbrev cX7_worthOf : ByteArray := prog_9_method_26_code
def yX7_worthOf : MethodName := ⟨RX7, "worthOf", "(II)I"⟩
abbrev cX7_layTable : ByteArray := prog_9_method_27_code
def yX7_layTable : MethodName := ⟨RX7, "layTable", "()V"⟩
abbrev cX7_bestOf : ByteArray := prog_9_method_28_code
def yX7_bestOf : MethodName := ⟨RX7, "bestOf", "(II)I"⟩
abbrev cX7_best : ByteArray := prog_9_method_29_code
def yX7_best : MethodName := ⟨RX7, "best", "(II)I"⟩
abbrev cX7_taste : ByteArray := prog_9_method_30_code
def yX7_taste : MethodName := ⟨RX7, "taste", "(II)I"⟩
abbrev cX7_forget : ByteArray := prog_9_method_31_code
def yX7_forget : MethodName := ⟨RX7, "forget", "()I"⟩
abbrev cX7_whichOf : ByteArray := prog_9_method_32_code
def yX7_whichOf : MethodName := ⟨RX7, "whichOf", "()I"⟩
abbrev cX7_which : ByteArray := prog_9_method_33_code
def yX7_which : MethodName := ⟨RX7, "which", "()I"⟩
abbrev cX7_likeIn : ByteArray := prog_9_method_34_code
def yX7_likeIn : MethodName := ⟨RX7, "likeIn", "(III)I"⟩
abbrev cX7_tryOf : ByteArray := prog_9_method_35_code
def yX7_tryOf : MethodName := ⟨RX7, "tryOf", "()I"⟩
abbrev cX7_tasteNext : ByteArray := prog_9_method_36_code
def yX7_tasteNext : MethodName := ⟨RX7, "tasteNext", "()I"⟩
abbrev cX7_draw : ByteArray := prog_9_method_37_code
def yX7_draw : MethodName := ⟨RX7, "draw", "(I)I"⟩
abbrev cX7_times : ByteArray := prog_9_method_38_code
def yX7_times : MethodName := ⟨RX7, "times", "(III)I"⟩
abbrev cX7_image : ByteArray := prog_9_method_39_code
def yX7_image : MethodName := ⟨RX7, "image", "()I"⟩
abbrev cX7_restore : ByteArray := prog_9_method_40_code
def yX7_restore : MethodName := ⟨RX7, "restore", "()I"⟩
abbrev cX7_emptyMany : ByteArray := prog_9_method_41_code
def yX7_emptyMany : MethodName := ⟨RX7, "emptyMany", "()I"⟩
abbrev cX7_countOf : ByteArray := prog_9_method_42_code
def yX7_countOf : MethodName := ⟨RX7, "countOf", "(I)I"⟩
abbrev cX7_count : ByteArray := prog_9_method_43_code
def yX7_count : MethodName := ⟨RX7, "count", "(I)I"⟩
abbrev cX7_say : ByteArray := prog_9_method_44_code
def yX7_say : MethodName := ⟨RX7, "say", "(J)V"⟩
abbrev cX7_digest : ByteArray := prog_9_method_45_code
def yX7_digest : MethodName := ⟨RX7, "digest", "()J"⟩
def RJ9 : String := "java/lang/Math"
def TJ9 : u_T := fun k => match k with
  | _ => ("", "", "", false)
def tyJ9 : Nat → FieldType := fun k => match k with
  | _ => .int
abbrev wsJ90 : List Cond := u_ws RJ9 TJ9 0
theorem nmJ9 : ∀ a, a < 0 → ∀ b, b < 0 → a ≠ b → (TJ9 a).2.1 ≠ (TJ9 b).2.1 := by decide +kernel
theorem tyJ9_ok : ∀ k, k < 0 → parseFieldDescriptor (TJ9 k).2.2.1 = some (tyJ9 k) := by decide +kernel
abbrev cJ9_max_7cf53 : ByteArray := prog_10_method_65_code
def yJ9_max_7cf53 : MethodName := ⟨RJ9, "max", "(II)I"⟩
abbrev cJ9_min_7cf53 : ByteArray := prog_10_method_69_code
def yJ9_min_7cf53 : MethodName := ⟨RJ9, "min", "(II)I"⟩
def RL : String := "JamDaysLaw"
abbrev cL_law : ByteArray := code
def yL_law : MethodName := ⟨RL, "law", "([I)Z"⟩
def wsX3_init_ : List Cond := .code yX3_init_ cX3_init_ 4 none :: ([.methodLink RX3 13 objectInit, .instanceMethod objectInit, .code objectInit ⟨#[0xb1]⟩ 1 none, .fieldLink RX3 18 "JamDays$Jar" "good" "I", .fieldLink RX3 22 "JamDays$Jar" "sugar" "I", .fieldLink RX3 25 "JamDays$Jar" "mouldEachYear" "I"] ++ wsX00 ++ wsX20 ++ wsX30 ++ wsX40 ++ wsX50)
def wsX0_init : List Cond := .code yX0_init cX0_init 3 none :: ([.methodLink RX0 3 yX3_init_, .instanceMethod yX3_init_, .initialized RX3, .code yX3_init_ cX3_init_ 4 none, .methodLink RX3 13 objectInit, .instanceMethod objectInit, .code objectInit ⟨#[0xb1]⟩ 1 none, .fieldLink RX3 18 "JamDays$Jar" "good" "I", .fieldLink RX3 22 "JamDays$Jar" "sugar" "I", .fieldLink RX3 25 "JamDays$Jar" "mouldEachYear" "I"] ++ wsX00 ++ wsX20 ++ wsX30 ++ wsX40 ++ wsX50)
def wsX0_kindNumber : List Cond := .code yX0_kindNumber cX0_kindNumber 1 (some .int) :: ([])
def wsX1_init : List Cond := .code yX1_init cX1_init 1 none :: ([.methodLink RX1 3 objectInit, .instanceMethod objectInit, .code objectInit ⟨#[0xb1]⟩ 1 none, .fieldLink RX1 9 "JamDays$Days" "year" "I", .fieldLink RX1 15 "JamDays$Days" "eaten" "I", .fieldLink RX1 18 "JamDays$Days" "lost" "I", .fieldLink RX1 21 "JamDays$Days" "joy" "I", .fieldLink RX1 24 "JamDays$Days" "tasted" "I", .arrayClass .int, .fieldLink RX1 27 "JamDays$Days" "spoons" "[I", .fieldLink RX1 31 "JamDays$Days" "eatenNow" "[I", .fieldLink RX1 34 "JamDays$Days" "tastedYear" "[I", .fieldLink RX1 37 "JamDays$Days" "tastedWorth" "[I"] ++ wsX10)
def wsX1_startAnew : List Cond := .code yX1_startAnew cX1_startAnew 3 none :: ([.fieldLink RX1 9 "JamDays$Days" "year" "I", .fieldLink RX1 15 "JamDays$Days" "eaten" "I", .fieldLink RX1 18 "JamDays$Days" "lost" "I", .fieldLink RX1 21 "JamDays$Days" "joy" "I", .fieldLink RX1 24 "JamDays$Days" "tasted" "I", .fieldLink RX1 27 "JamDays$Days" "spoons" "[I", .fieldLink RX1 31 "JamDays$Days" "eatenNow" "[I"] ++ wsX10)
def wsX1_copyFrom : List Cond := .code yX1_copyFrom cX1_copyFrom 3 none :: ([.fieldLink RX1 9 "JamDays$Days" "year" "I", .fieldLink RX1 15 "JamDays$Days" "eaten" "I", .fieldLink RX1 18 "JamDays$Days" "lost" "I", .fieldLink RX1 21 "JamDays$Days" "joy" "I", .fieldLink RX1 24 "JamDays$Days" "tasted" "I", .fieldLink RX1 27 "JamDays$Days" "spoons" "[I", .fieldLink RX1 31 "JamDays$Days" "eatenNow" "[I", .fieldLink RX1 34 "JamDays$Days" "tastedYear" "[I", .fieldLink RX1 37 "JamDays$Days" "tastedWorth" "[I"] ++ wsX10)
def wsX1_spoonsOf : List Cond := .code yX1_spoonsOf cX1_spoonsOf 2 (some .int) :: ([.fieldLink RX1 27 "JamDays$Days" "spoons" "[I"] ++ wsX10)
def wsX1_eatenNowOf : List Cond := .code yX1_eatenNowOf cX1_eatenNowOf 2 (some .int) :: ([.fieldLink RX1 31 "JamDays$Days" "eatenNow" "[I"] ++ wsX10)
def wsX1_spoonsOfAll : List Cond := .code yX1_spoonsOfAll cX1_spoonsOfAll 3 (some .int) :: ([.fieldLink RX1 27 "JamDays$Days" "spoons" "[I"] ++ wsX10)
def wsX1_eatSpoon : List Cond := .code yX1_eatSpoon cX1_eatSpoon 3 (some .boolean) :: ([.fieldLink RX1 27 "JamDays$Days" "spoons" "[I", .fieldLink RX1 31 "JamDays$Days" "eatenNow" "[I", .fieldLink RX1 15 "JamDays$Days" "eaten" "I", .fieldLink RX1 21 "JamDays$Days" "joy" "I", .methodLink RX1 40 yX1_spoonsOf, .instanceMethod yX1_spoonsOf, .selects RX1 yX1_spoonsOf yX1_spoonsOf, .initialized RX1, .code yX1_spoonsOf cX1_spoonsOf 2 (some .int)] ++ wsX10)
def wsX1_loseSpoon : List Cond := .code yX1_loseSpoon cX1_loseSpoon 2 (some .boolean) :: ([.fieldLink RX1 27 "JamDays$Days" "spoons" "[I", .fieldLink RX1 18 "JamDays$Days" "lost" "I", .methodLink RX1 40 yX1_spoonsOf, .instanceMethod yX1_spoonsOf, .selects RX1 yX1_spoonsOf yX1_spoonsOf, .initialized RX1, .code yX1_spoonsOf cX1_spoonsOf 2 (some .int)] ++ wsX10)
def wsX1_passYear : List Cond := .code yX1_passYear cX1_passYear 2 none :: ([.fieldLink RX1 9 "JamDays$Days" "year" "I", .fieldLink RX1 31 "JamDays$Days" "eatenNow" "[I"] ++ wsX10)
def wsX1_addTaste : List Cond := .code yX1_addTaste cX1_addTaste 3 (some .boolean) :: ([.fieldLink RX1 24 "JamDays$Days" "tasted" "I", .fieldLink RX1 34 "JamDays$Days" "tastedYear" "[I", .fieldLink RX1 37 "JamDays$Days" "tastedWorth" "[I"] ++ wsX10)
def wsX2_init : List Cond := .code yX2_init cX2_init 3 none :: ([.methodLink RX2 3 yX0_init, .instanceMethod yX0_init, .initialized RX0, .code yX0_init cX0_init 3 none, .methodLink RX0 3 yX3_init_, .instanceMethod yX3_init_, .initialized RX3, .code yX3_init_ cX3_init_ 4 none, .methodLink RX3 13 objectInit, .instanceMethod objectInit, .code objectInit ⟨#[0xb1]⟩ 1 none, .fieldLink RX3 18 "JamDays$Jar" "good" "I", .fieldLink RX3 22 "JamDays$Jar" "sugar" "I", .fieldLink RX3 25 "JamDays$Jar" "mouldEachYear" "I"] ++ wsX00 ++ wsX20 ++ wsX30 ++ wsX40 ++ wsX50)
def wsX2_kindNumber : List Cond := .code yX2_kindNumber cX2_kindNumber 1 (some .int) :: ([])
def wsX3_mouldIn : List Cond := .code yX3_mouldIn cX3_mouldIn 3 (some .int) :: ([.fieldLink RX3 25 "JamDays$Jar" "mouldEachYear" "I"] ++ wsX00 ++ wsX20 ++ wsX30 ++ wsX40 ++ wsX50)
def wsX2_firstWorthIn : List Cond := .code yX2_firstWorthIn cX2_firstWorthIn 2 (some .int) :: ([.fieldLink RX2 9 "JamDays$Gold" "good" "I", .sameField "JamDays$Gold" "JamDays$Jar" "good" "I", .methodLink RX2 15 ⟨"JamDays$Gold", "mouldIn", "(I)I"⟩, .sameMethod "JamDays$Gold" "JamDays$Jar" "mouldIn" "(I)I", .selects RX2 ⟨"JamDays$Gold", "mouldIn", "(I)I"⟩ yX3_mouldIn, .instanceMethod yX3_mouldIn, .initialized RX3, .code yX3_mouldIn cX3_mouldIn 3 (some .int), .fieldLink RX3 25 "JamDays$Jar" "mouldEachYear" "I"] ++ wsX00 ++ wsX20 ++ wsX30 ++ wsX40 ++ wsX50)
def wsX3_plainMould : List Cond := .code yX3_plainMould cX3_plainMould 1 (some .int) :: ([.methodLink RX3 28 Lib.Math.max.name, .static Lib.Math.max.name, .initialized "java/lang/Math", .code Lib.Math.max.name Lib.Math.max.code 2 (some .int)])
def wsX3_init : List Cond := .code yX3_init cX3_init 3 none :: ([.methodLink RX3 3 yX3_plainMould, .static yX3_plainMould, .initialized RX3, .code yX3_plainMould cX3_plainMould 1 (some .int), .methodLink RX3 28 Lib.Math.max.name, .static Lib.Math.max.name, .initialized "java/lang/Math", .code Lib.Math.max.name Lib.Math.max.code 2 (some .int), .methodLink RX3 9 yX3_init_, .instanceMethod yX3_init_, .code yX3_init_ cX3_init_ 4 none, .methodLink RX3 13 objectInit, .instanceMethod objectInit, .code objectInit ⟨#[0xb1]⟩ 1 none, .fieldLink RX3 18 "JamDays$Jar" "good" "I", .fieldLink RX3 22 "JamDays$Jar" "sugar" "I", .fieldLink RX3 25 "JamDays$Jar" "mouldEachYear" "I"] ++ wsX00 ++ wsX20 ++ wsX30 ++ wsX40 ++ wsX50)
def wsX3_kindNumber : List Cond := .code yX3_kindNumber cX3_kindNumber 1 (some .int) :: ([])
def wsX3_firstWorthIn : List Cond := .code yX3_firstWorthIn cX3_firstWorthIn 2 (some .int) :: ([.fieldLink RX3 18 "JamDays$Jar" "good" "I", .methodLink RX3 34 ⟨"JamDays$Jar", "mouldIn", "(I)I"⟩, .sameMethod "JamDays$Jar" "JamDays$Jar" "mouldIn" "(I)I", .selects RX0 ⟨"JamDays$Jar", "mouldIn", "(I)I"⟩ yX3_mouldIn, .instanceMethod yX3_mouldIn, .initialized RX3, .code yX3_mouldIn cX3_mouldIn 3 (some .int), .fieldLink RX3 25 "JamDays$Jar" "mouldEachYear" "I", .selects RX2 ⟨"JamDays$Jar", "mouldIn", "(I)I"⟩ yX3_mouldIn, .methodLink RX3 34 yX3_mouldIn, .selects RX3 yX3_mouldIn yX3_mouldIn, .selects RX4 ⟨"JamDays$Jar", "mouldIn", "(I)I"⟩ yX3_mouldIn, .selects RX5 ⟨"JamDays$Jar", "mouldIn", "(I)I"⟩ yX3_mouldIn] ++ wsX00 ++ wsX20 ++ wsX30 ++ wsX40 ++ wsX50)
def wsX4_init : List Cond := .code yX4_init cX4_init 3 none :: ([.methodLink RX4 3 yX3_init, .instanceMethod yX3_init, .initialized RX3, .code yX3_init cX3_init 3 none, .methodLink RX3 3 yX3_plainMould, .static yX3_plainMould, .code yX3_plainMould cX3_plainMould 1 (some .int), .methodLink RX3 28 Lib.Math.max.name, .static Lib.Math.max.name, .initialized "java/lang/Math", .code Lib.Math.max.name Lib.Math.max.code 2 (some .int), .methodLink RX3 9 yX3_init_, .instanceMethod yX3_init_, .code yX3_init_ cX3_init_ 4 none, .methodLink RX3 13 objectInit, .instanceMethod objectInit, .code objectInit ⟨#[0xb1]⟩ 1 none, .fieldLink RX3 18 "JamDays$Jar" "good" "I", .fieldLink RX3 22 "JamDays$Jar" "sugar" "I", .fieldLink RX3 25 "JamDays$Jar" "mouldEachYear" "I"] ++ wsX00 ++ wsX20 ++ wsX30 ++ wsX40 ++ wsX50)
def wsX4_kindNumber : List Cond := .code yX4_kindNumber cX4_kindNumber 1 (some .int) :: ([])
def wsX4_firstWorthIn : List Cond := .code yX4_firstWorthIn cX4_firstWorthIn 3 (some .int) :: ([.fieldLink RX4 9 "JamDays$Plum" "good" "I", .sameField "JamDays$Plum" "JamDays$Jar" "good" "I", .methodLink RX4 15 ⟨"JamDays$Plum", "mouldIn", "(I)I"⟩, .sameMethod "JamDays$Plum" "JamDays$Jar" "mouldIn" "(I)I", .selects RX4 ⟨"JamDays$Plum", "mouldIn", "(I)I"⟩ yX3_mouldIn, .instanceMethod yX3_mouldIn, .initialized RX3, .code yX3_mouldIn cX3_mouldIn 3 (some .int), .fieldLink RX3 25 "JamDays$Jar" "mouldEachYear" "I"] ++ wsX00 ++ wsX20 ++ wsX30 ++ wsX40 ++ wsX50)
def wsX5_init : List Cond := .code yX5_init cX5_init 3 none :: ([.methodLink RX5 9 yX3_init_, .instanceMethod yX3_init_, .initialized RX3, .code yX3_init_ cX3_init_ 4 none, .methodLink RX3 13 objectInit, .instanceMethod objectInit, .code objectInit ⟨#[0xb1]⟩ 1 none, .fieldLink RX3 18 "JamDays$Jar" "good" "I", .fieldLink RX3 22 "JamDays$Jar" "sugar" "I", .fieldLink RX3 25 "JamDays$Jar" "mouldEachYear" "I"] ++ wsX00 ++ wsX20 ++ wsX30 ++ wsX40 ++ wsX50)
def wsX5_kindNumber : List Cond := .code yX5_kindNumber cX5_kindNumber 1 (some .int) :: ([])
def wsX6_init_r1 : List Cond := [Cond.methodLink RX6 3 objectInit, Cond.instanceMethod objectInit, Cond.code objectInit ⟨#[0xb1]⟩ 1 none, Cond.arrayClass .int, Cond.fieldLink RX6 9 "JamDays" "page" "[I", Cond.fieldLink RX6 13 "JamDays" "pageSize" "I", Cond.classLink RX6 17 RX3, Cond.fieldLink RX6 19 "JamDays" "jars" "[LJamDays$Jar;", Cond.fieldLink RX6 23 "JamDays" "jarCount" "I", Cond.classLink RX6 26 RX1, Cond.instantiable RX1 9, Cond.initialized RX1, Cond.fieldLink RX6 29 "JamDays" "now" "LJamDays$Days;", Cond.fieldLink RX6 33 "JamDays" "kept" "LJamDays$Days;", Cond.fieldLink RX6 36 "JamDays" "would" "LJamDays$Days;", Cond.fieldLink RX6 39 "JamDays" "hasImage" "Z", Cond.fieldLink RX6 43 "JamDays" "lardersRead" "I", Cond.fieldLink RX6 46 "JamDays" "bestsDone" "I", Cond.fieldLink RX6 49 "JamDays" "most" "[I", Cond.fieldLink RX6 52 "JamDays" "nextWorths" "[I", Cond.instanceMethod yX1_init, Cond.code yX1_init cX1_init 1 none, Cond.methodLink RX1 3 objectInit, Cond.fieldLink RX1 9 "JamDays$Days" "year" "I"]
def wsX6_init_r2 : List Cond := [Cond.fieldLink RX1 15 "JamDays$Days" "eaten" "I", Cond.fieldLink RX1 18 "JamDays$Days" "lost" "I", Cond.fieldLink RX1 21 "JamDays$Days" "joy" "I", Cond.fieldLink RX1 24 "JamDays$Days" "tasted" "I", Cond.fieldLink RX1 27 "JamDays$Days" "spoons" "[I", Cond.fieldLink RX1 31 "JamDays$Days" "eatenNow" "[I", Cond.fieldLink RX1 34 "JamDays$Days" "tastedYear" "[I", Cond.fieldLink RX1 37 "JamDays$Days" "tastedWorth" "[I"]
def wsX6_init : List Cond := .code yX6_init cX6_init 1 none :: ((wsX6_init_r1 ++ wsX6_init_r2) ++ wsX60 ++ wsX10)
def wsX6_letter : List Cond := .code yX6_letter cX6_letter 2 (some .int) :: ([.fieldLink RX6 13 "JamDays" "pageSize" "I", .fieldLink RX6 9 "JamDays" "page" "[I"] ++ wsX60)
def wsX6_blank : List Cond := .code yX6_blank cX6_blank 2 (some .int) :: ([.fieldLink RX6 13 "JamDays" "pageSize" "I"] ++ wsX60)
def wsX6_codeAt : List Cond := .code yX6_codeAt cX6_codeAt 2 (some .int) :: ([.fieldLink RX6 9 "JamDays" "page" "[I"] ++ wsX60)
def wsX6_isKindLetter : List Cond := .code yX6_isKindLetter cX6_isKindLetter 1 (some .boolean) :: ([])
def wsX6_fits : List Cond := .code yX6_fits cX6_fits 2 (some .boolean) :: ([.methodLink RX6 197 yX6_isKindLetter, .static yX6_isKindLetter, .initialized RX6, .code yX6_isKindLetter cX6_isKindLetter 1 (some .boolean)])
def wsX6_fault : List Cond := .code yX6_fault cX6_fault 2 (some .int) :: ([.fieldLink RX6 13 "JamDays" "pageSize" "I", .methodLink RX6 55 yX6_codeAt, .instanceMethod yX6_codeAt, .selects RX6 yX6_codeAt yX6_codeAt, .initialized RX6, .code yX6_codeAt cX6_codeAt 2 (some .int), .fieldLink RX6 9 "JamDays" "page" "[I", .methodLink RX6 59 yX6_fits, .static yX6_fits, .code yX6_fits cX6_fits 2 (some .boolean), .methodLink RX6 197 yX6_isKindLetter, .static yX6_isKindLetter, .code yX6_isKindLetter cX6_isKindLetter 1 (some .boolean)] ++ wsX60)
def wsX6_pageIsLarder : List Cond := .code yX6_pageIsLarder cX6_pageIsLarder 2 (some .boolean) :: ([.fieldLink RX6 13 "JamDays" "pageSize" "I", .methodLink RX6 200 yX6_fault, .instanceMethod yX6_fault, .selects RX6 yX6_fault yX6_fault, .initialized RX6, .code yX6_fault cX6_fault 2 (some .int), .methodLink RX6 55 yX6_codeAt, .instanceMethod yX6_codeAt, .selects RX6 yX6_codeAt yX6_codeAt, .code yX6_codeAt cX6_codeAt 2 (some .int), .fieldLink RX6 9 "JamDays" "page" "[I", .methodLink RX6 59 yX6_fits, .static yX6_fits, .code yX6_fits cX6_fits 2 (some .boolean), .methodLink RX6 197 yX6_isKindLetter, .static yX6_isKindLetter, .code yX6_isKindLetter cX6_isKindLetter 1 (some .boolean)] ++ wsX60)
def wsX6_readJar_r1 : List Cond := [Cond.classLink RX6 203 RX5, Cond.instantiable RX5 3, Cond.initialized RX5, Cond.classLink RX6 208 RX0, Cond.instantiable RX0 3, Cond.initialized RX0, Cond.classLink RX6 211 RX4, Cond.instantiable RX4 3, Cond.initialized RX4, Cond.classLink RX6 214 RX2, Cond.instantiable RX2 3, Cond.initialized RX2, Cond.classLink RX6 17 RX3, Cond.instantiable RX3 3, Cond.initialized RX3, Cond.methodLink RX6 55 yX6_codeAt, Cond.instanceMethod yX6_codeAt, Cond.selects RX6 yX6_codeAt yX6_codeAt, Cond.initialized RX6, Cond.code yX6_codeAt cX6_codeAt 2 (some .int), Cond.fieldLink RX6 9 "JamDays" "page" "[I", Cond.methodLink RX6 205 yX5_init, Cond.instanceMethod yX5_init, Cond.code yX5_init cX5_init 3 none]
def wsX6_readJar_r2 : List Cond := [Cond.methodLink RX5 9 yX3_init_, Cond.instanceMethod yX3_init_, Cond.code yX3_init_ cX3_init_ 4 none, Cond.methodLink RX3 13 objectInit, Cond.instanceMethod objectInit, Cond.code objectInit ⟨#[0xb1]⟩ 1 none, Cond.fieldLink RX3 18 "JamDays$Jar" "good" "I", Cond.fieldLink RX3 22 "JamDays$Jar" "sugar" "I", Cond.fieldLink RX3 25 "JamDays$Jar" "mouldEachYear" "I", Cond.methodLink RX6 210 yX0_init, Cond.instanceMethod yX0_init, Cond.code yX0_init cX0_init 3 none, Cond.methodLink RX0 3 yX3_init_, Cond.methodLink RX6 213 yX4_init, Cond.instanceMethod yX4_init, Cond.code yX4_init cX4_init 3 none, Cond.methodLink RX4 3 yX3_init, Cond.instanceMethod yX3_init, Cond.code yX3_init cX3_init 3 none, Cond.methodLink RX3 3 yX3_plainMould, Cond.static yX3_plainMould, Cond.code yX3_plainMould cX3_plainMould 1 (some .int), Cond.methodLink RX3 28 Lib.Math.max.name, Cond.static Lib.Math.max.name]
def wsX6_readJar_r3 : List Cond := [Cond.initialized "java/lang/Math", Cond.code Lib.Math.max.name Lib.Math.max.code 2 (some .int), Cond.methodLink RX3 9 yX3_init_, Cond.methodLink RX6 216 yX2_init, Cond.instanceMethod yX2_init, Cond.code yX2_init cX2_init 3 none, Cond.methodLink RX2 3 yX0_init, Cond.methodLink RX6 217 yX3_init]
def wsX6_readJar : List Cond := .code yX6_readJar cX6_readJar 4 (some (.object "JamDays$Jar")) :: ((wsX6_readJar_r1 ++ (wsX6_readJar_r2 ++ wsX6_readJar_r3)) ++ wsX50 ++ wsX00 ++ wsX40 ++ wsX20 ++ wsX30 ++ wsX60)
def wsX6_larder_r1 : List Cond := [Cond.fieldLink RX6 13 "JamDays" "pageSize" "I", Cond.fieldLink RX6 23 "JamDays" "jarCount" "I", Cond.fieldLink RX6 19 "JamDays" "jars" "[LJamDays$Jar;", Cond.fieldLink RX6 29 "JamDays" "now" "LJamDays$Days;", Cond.fieldLink RX6 39 "JamDays" "hasImage" "Z", Cond.fieldLink RX6 43 "JamDays" "lardersRead" "I", Cond.methodLink RX6 63 yX6_pageIsLarder, Cond.instanceMethod yX6_pageIsLarder, Cond.selects RX6 yX6_pageIsLarder yX6_pageIsLarder, Cond.initialized RX6, Cond.code yX6_pageIsLarder cX6_pageIsLarder 2 (some .boolean), Cond.methodLink RX6 200 yX6_fault, Cond.instanceMethod yX6_fault, Cond.selects RX6 yX6_fault yX6_fault, Cond.code yX6_fault cX6_fault 2 (some .int), Cond.methodLink RX6 55 yX6_codeAt, Cond.instanceMethod yX6_codeAt, Cond.selects RX6 yX6_codeAt yX6_codeAt, Cond.code yX6_codeAt cX6_codeAt 2 (some .int), Cond.fieldLink RX6 9 "JamDays" "page" "[I", Cond.methodLink RX6 59 yX6_fits, Cond.static yX6_fits, Cond.code yX6_fits cX6_fits 2 (some .boolean), Cond.methodLink RX6 197 yX6_isKindLetter]
def wsX6_larder_r2 : List Cond := [Cond.static yX6_isKindLetter, Cond.code yX6_isKindLetter cX6_isKindLetter 1 (some .boolean), Cond.methodLink RX6 67 yX6_readJar, Cond.instanceMethod yX6_readJar, Cond.selects RX6 yX6_readJar yX6_readJar, Cond.code yX6_readJar cX6_readJar 4 (some (.object "JamDays$Jar")), Cond.classLink RX6 203 RX5, Cond.instantiable RX5 3, Cond.initialized RX5, Cond.classLink RX6 208 RX0, Cond.instantiable RX0 3, Cond.initialized RX0, Cond.classLink RX6 211 RX4, Cond.instantiable RX4 3, Cond.initialized RX4, Cond.classLink RX6 214 RX2, Cond.instantiable RX2 3, Cond.initialized RX2, Cond.classLink RX6 17 RX3, Cond.instantiable RX3 3, Cond.initialized RX3, Cond.methodLink RX6 205 yX5_init, Cond.instanceMethod yX5_init, Cond.code yX5_init cX5_init 3 none]
def wsX6_larder_r3 : List Cond := [Cond.methodLink RX5 9 yX3_init_, Cond.instanceMethod yX3_init_, Cond.code yX3_init_ cX3_init_ 4 none, Cond.methodLink RX3 13 objectInit, Cond.instanceMethod objectInit, Cond.code objectInit ⟨#[0xb1]⟩ 1 none, Cond.fieldLink RX3 18 "JamDays$Jar" "good" "I", Cond.fieldLink RX3 22 "JamDays$Jar" "sugar" "I", Cond.fieldLink RX3 25 "JamDays$Jar" "mouldEachYear" "I", Cond.methodLink RX6 210 yX0_init, Cond.instanceMethod yX0_init, Cond.code yX0_init cX0_init 3 none, Cond.methodLink RX0 3 yX3_init_, Cond.methodLink RX6 213 yX4_init, Cond.instanceMethod yX4_init, Cond.code yX4_init cX4_init 3 none, Cond.methodLink RX4 3 yX3_init, Cond.instanceMethod yX3_init, Cond.code yX3_init cX3_init 3 none, Cond.methodLink RX3 3 yX3_plainMould, Cond.static yX3_plainMould, Cond.code yX3_plainMould cX3_plainMould 1 (some .int), Cond.methodLink RX3 28 Lib.Math.max.name, Cond.static Lib.Math.max.name]
def wsX6_larder_r4 : List Cond := [Cond.initialized "java/lang/Math", Cond.code Lib.Math.max.name Lib.Math.max.code 2 (some .int), Cond.methodLink RX3 9 yX3_init_, Cond.methodLink RX6 216 yX2_init, Cond.instanceMethod yX2_init, Cond.code yX2_init cX2_init 3 none, Cond.methodLink RX2 3 yX0_init, Cond.methodLink RX6 217 yX3_init, Cond.methodLink RX6 71 yX1_startAnew, Cond.instanceMethod yX1_startAnew, Cond.selects RX1 yX1_startAnew yX1_startAnew, Cond.initialized RX1, Cond.code yX1_startAnew cX1_startAnew 3 none, Cond.fieldLink RX1 9 "JamDays$Days" "year" "I", Cond.fieldLink RX1 15 "JamDays$Days" "eaten" "I", Cond.fieldLink RX1 18 "JamDays$Days" "lost" "I", Cond.fieldLink RX1 21 "JamDays$Days" "joy" "I", Cond.fieldLink RX1 24 "JamDays$Days" "tasted" "I", Cond.fieldLink RX1 27 "JamDays$Days" "spoons" "[I", Cond.fieldLink RX1 31 "JamDays$Days" "eatenNow" "[I"]
def wsX6_larder : List Cond := .code yX6_larder cX6_larder 2 (some .int) :: ((wsX6_larder_r1 ++ (wsX6_larder_r2 ++ (wsX6_larder_r3 ++ wsX6_larder_r4))) ++ wsX60 ++ wsX50 ++ wsX00 ++ wsX40 ++ wsX20 ++ wsX30 ++ wsX10)
def wsX6_find : List Cond := .code yX6_find cX6_find 2 (some (.object "JamDays$Jar")) :: ([.fieldLink RX6 23 "JamDays" "jarCount" "I", .fieldLink RX6 19 "JamDays" "jars" "[LJamDays$Jar;"] ++ wsX60)
def wsX6_firstWorth_r1 : List Cond := [Cond.methodLink RX6 75 yX6_find, Cond.instanceMethod yX6_find, Cond.selects RX6 yX6_find yX6_find, Cond.initialized RX6, Cond.code yX6_find cX6_find 2 (some (.object "JamDays$Jar")), Cond.fieldLink RX6 23 "JamDays" "jarCount" "I", Cond.fieldLink RX6 19 "JamDays" "jars" "[LJamDays$Jar;", Cond.methodLink RX6 218 ⟨"JamDays$Jar", "firstWorthIn", "(I)I"⟩, Cond.sameMethod "JamDays$Jar" "JamDays$Jar" "firstWorthIn" "(I)I", Cond.selects RX0 ⟨"JamDays$Jar", "firstWorthIn", "(I)I"⟩ yX3_firstWorthIn, Cond.instanceMethod yX3_firstWorthIn, Cond.initialized RX3, Cond.code yX3_firstWorthIn cX3_firstWorthIn 2 (some .int), Cond.fieldLink RX3 18 "JamDays$Jar" "good" "I", Cond.methodLink RX3 34 ⟨"JamDays$Jar", "mouldIn", "(I)I"⟩, Cond.sameMethod "JamDays$Jar" "JamDays$Jar" "mouldIn" "(I)I", Cond.selects RX0 ⟨"JamDays$Jar", "mouldIn", "(I)I"⟩ yX3_mouldIn, Cond.instanceMethod yX3_mouldIn, Cond.code yX3_mouldIn cX3_mouldIn 3 (some .int), Cond.fieldLink RX3 25 "JamDays$Jar" "mouldEachYear" "I", Cond.selects RX2 ⟨"JamDays$Jar", "mouldIn", "(I)I"⟩ yX3_mouldIn, Cond.methodLink RX3 34 yX3_mouldIn, Cond.selects RX3 yX3_mouldIn yX3_mouldIn, Cond.selects RX4 ⟨"JamDays$Jar", "mouldIn", "(I)I"⟩ yX3_mouldIn]
def wsX6_firstWorth_r2 : List Cond := [Cond.selects RX5 ⟨"JamDays$Jar", "mouldIn", "(I)I"⟩ yX3_mouldIn, Cond.instanceMethod ⟨"JamDays$Jar", "firstWorthIn", "(I)I"⟩, Cond.selects RX2 ⟨"JamDays$Jar", "firstWorthIn", "(I)I"⟩ yX2_firstWorthIn, Cond.instanceMethod yX2_firstWorthIn, Cond.initialized RX2, Cond.code yX2_firstWorthIn cX2_firstWorthIn 2 (some .int), Cond.fieldLink RX2 9 "JamDays$Gold" "good" "I", Cond.sameField "JamDays$Gold" "JamDays$Jar" "good" "I", Cond.methodLink RX2 15 ⟨"JamDays$Gold", "mouldIn", "(I)I"⟩, Cond.sameMethod "JamDays$Gold" "JamDays$Jar" "mouldIn" "(I)I", Cond.selects RX2 ⟨"JamDays$Gold", "mouldIn", "(I)I"⟩ yX3_mouldIn, Cond.methodLink RX6 218 yX3_firstWorthIn, Cond.selects RX3 yX3_firstWorthIn yX3_firstWorthIn, Cond.selects RX4 ⟨"JamDays$Jar", "firstWorthIn", "(I)I"⟩ yX4_firstWorthIn, Cond.instanceMethod yX4_firstWorthIn, Cond.initialized RX4, Cond.code yX4_firstWorthIn cX4_firstWorthIn 3 (some .int), Cond.fieldLink RX4 9 "JamDays$Plum" "good" "I", Cond.sameField "JamDays$Plum" "JamDays$Jar" "good" "I", Cond.methodLink RX4 15 ⟨"JamDays$Plum", "mouldIn", "(I)I"⟩, Cond.sameMethod "JamDays$Plum" "JamDays$Jar" "mouldIn" "(I)I", Cond.selects RX4 ⟨"JamDays$Plum", "mouldIn", "(I)I"⟩ yX3_mouldIn, Cond.selects RX5 ⟨"JamDays$Jar", "firstWorthIn", "(I)I"⟩ yX3_firstWorthIn]
def wsX6_firstWorth : List Cond := .code yX6_firstWorth cX6_firstWorth 4 (some .int) :: ((wsX6_firstWorth_r1 ++ wsX6_firstWorth_r2) ++ wsX60 ++ wsX00 ++ wsX20 ++ wsX30 ++ wsX40 ++ wsX50)
def wsX6_nextWorth_r1 : List Cond := [Cond.fieldLink RX6 29 "JamDays" "now" "LJamDays$Days;", Cond.fieldLink RX6 91 "JamDays$Days" "year" "I", Cond.methodLink RX6 114 yX6_firstWorth, Cond.instanceMethod yX6_firstWorth, Cond.selects RX6 yX6_firstWorth yX6_firstWorth, Cond.initialized RX6, Cond.code yX6_firstWorth cX6_firstWorth 4 (some .int), Cond.methodLink RX6 75 yX6_find, Cond.instanceMethod yX6_find, Cond.selects RX6 yX6_find yX6_find, Cond.code yX6_find cX6_find 2 (some (.object "JamDays$Jar")), Cond.fieldLink RX6 23 "JamDays" "jarCount" "I", Cond.fieldLink RX6 19 "JamDays" "jars" "[LJamDays$Jar;", Cond.methodLink RX6 218 ⟨"JamDays$Jar", "firstWorthIn", "(I)I"⟩, Cond.sameMethod "JamDays$Jar" "JamDays$Jar" "firstWorthIn" "(I)I", Cond.selects RX0 ⟨"JamDays$Jar", "firstWorthIn", "(I)I"⟩ yX3_firstWorthIn, Cond.instanceMethod yX3_firstWorthIn, Cond.initialized RX3, Cond.code yX3_firstWorthIn cX3_firstWorthIn 2 (some .int), Cond.fieldLink RX3 18 "JamDays$Jar" "good" "I", Cond.methodLink RX3 34 ⟨"JamDays$Jar", "mouldIn", "(I)I"⟩, Cond.sameMethod "JamDays$Jar" "JamDays$Jar" "mouldIn" "(I)I", Cond.selects RX0 ⟨"JamDays$Jar", "mouldIn", "(I)I"⟩ yX3_mouldIn, Cond.instanceMethod yX3_mouldIn]
def wsX6_nextWorth_r2 : List Cond := [Cond.code yX3_mouldIn cX3_mouldIn 3 (some .int), Cond.fieldLink RX3 25 "JamDays$Jar" "mouldEachYear" "I", Cond.selects RX2 ⟨"JamDays$Jar", "mouldIn", "(I)I"⟩ yX3_mouldIn, Cond.methodLink RX3 34 yX3_mouldIn, Cond.selects RX3 yX3_mouldIn yX3_mouldIn, Cond.selects RX4 ⟨"JamDays$Jar", "mouldIn", "(I)I"⟩ yX3_mouldIn, Cond.selects RX5 ⟨"JamDays$Jar", "mouldIn", "(I)I"⟩ yX3_mouldIn, Cond.instanceMethod ⟨"JamDays$Jar", "firstWorthIn", "(I)I"⟩, Cond.selects RX2 ⟨"JamDays$Jar", "firstWorthIn", "(I)I"⟩ yX2_firstWorthIn, Cond.instanceMethod yX2_firstWorthIn, Cond.initialized RX2, Cond.code yX2_firstWorthIn cX2_firstWorthIn 2 (some .int), Cond.fieldLink RX2 9 "JamDays$Gold" "good" "I", Cond.sameField "JamDays$Gold" "JamDays$Jar" "good" "I", Cond.methodLink RX2 15 ⟨"JamDays$Gold", "mouldIn", "(I)I"⟩, Cond.sameMethod "JamDays$Gold" "JamDays$Jar" "mouldIn" "(I)I", Cond.selects RX2 ⟨"JamDays$Gold", "mouldIn", "(I)I"⟩ yX3_mouldIn, Cond.methodLink RX6 218 yX3_firstWorthIn, Cond.selects RX3 yX3_firstWorthIn yX3_firstWorthIn, Cond.selects RX4 ⟨"JamDays$Jar", "firstWorthIn", "(I)I"⟩ yX4_firstWorthIn, Cond.instanceMethod yX4_firstWorthIn, Cond.initialized RX4, Cond.code yX4_firstWorthIn cX4_firstWorthIn 3 (some .int), Cond.fieldLink RX4 9 "JamDays$Plum" "good" "I"]
def wsX6_nextWorth_r3 : List Cond := [Cond.sameField "JamDays$Plum" "JamDays$Jar" "good" "I", Cond.methodLink RX4 15 ⟨"JamDays$Plum", "mouldIn", "(I)I"⟩, Cond.sameMethod "JamDays$Plum" "JamDays$Jar" "mouldIn" "(I)I", Cond.selects RX4 ⟨"JamDays$Plum", "mouldIn", "(I)I"⟩ yX3_mouldIn, Cond.selects RX5 ⟨"JamDays$Jar", "firstWorthIn", "(I)I"⟩ yX3_firstWorthIn, Cond.methodLink RX6 100 yX1_eatenNowOf, Cond.instanceMethod yX1_eatenNowOf, Cond.selects RX1 yX1_eatenNowOf yX1_eatenNowOf, Cond.initialized RX1, Cond.code yX1_eatenNowOf cX1_eatenNowOf 2 (some .int), Cond.fieldLink RX1 31 "JamDays$Days" "eatenNow" "[I"]
def wsX6_nextWorth : List Cond := .code yX6_nextWorth cX6_nextWorth 2 (some .int) :: ((wsX6_nextWorth_r1 ++ (wsX6_nextWorth_r2 ++ wsX6_nextWorth_r3)) ++ wsX60 ++ wsX10 ++ wsX00 ++ wsX20 ++ wsX30 ++ wsX40 ++ wsX50)
def wsX6_yearsToBest_r1 : List Cond := [Cond.fieldLink RX6 29 "JamDays" "now" "LJamDays$Days;", Cond.fieldLink RX6 91 "JamDays$Days" "year" "I", Cond.methodLink RX6 114 yX6_firstWorth, Cond.instanceMethod yX6_firstWorth, Cond.selects RX6 yX6_firstWorth yX6_firstWorth, Cond.initialized RX6, Cond.code yX6_firstWorth cX6_firstWorth 4 (some .int), Cond.methodLink RX6 75 yX6_find, Cond.instanceMethod yX6_find, Cond.selects RX6 yX6_find yX6_find, Cond.code yX6_find cX6_find 2 (some (.object "JamDays$Jar")), Cond.fieldLink RX6 23 "JamDays" "jarCount" "I", Cond.fieldLink RX6 19 "JamDays" "jars" "[LJamDays$Jar;", Cond.methodLink RX6 218 ⟨"JamDays$Jar", "firstWorthIn", "(I)I"⟩, Cond.sameMethod "JamDays$Jar" "JamDays$Jar" "firstWorthIn" "(I)I", Cond.selects RX0 ⟨"JamDays$Jar", "firstWorthIn", "(I)I"⟩ yX3_firstWorthIn, Cond.instanceMethod yX3_firstWorthIn, Cond.initialized RX3, Cond.code yX3_firstWorthIn cX3_firstWorthIn 2 (some .int), Cond.fieldLink RX3 18 "JamDays$Jar" "good" "I", Cond.methodLink RX3 34 ⟨"JamDays$Jar", "mouldIn", "(I)I"⟩, Cond.sameMethod "JamDays$Jar" "JamDays$Jar" "mouldIn" "(I)I", Cond.selects RX0 ⟨"JamDays$Jar", "mouldIn", "(I)I"⟩ yX3_mouldIn, Cond.instanceMethod yX3_mouldIn]
def wsX6_yearsToBest_r2 : List Cond := [Cond.code yX3_mouldIn cX3_mouldIn 3 (some .int), Cond.fieldLink RX3 25 "JamDays$Jar" "mouldEachYear" "I", Cond.selects RX2 ⟨"JamDays$Jar", "mouldIn", "(I)I"⟩ yX3_mouldIn, Cond.methodLink RX3 34 yX3_mouldIn, Cond.selects RX3 yX3_mouldIn yX3_mouldIn, Cond.selects RX4 ⟨"JamDays$Jar", "mouldIn", "(I)I"⟩ yX3_mouldIn, Cond.selects RX5 ⟨"JamDays$Jar", "mouldIn", "(I)I"⟩ yX3_mouldIn, Cond.instanceMethod ⟨"JamDays$Jar", "firstWorthIn", "(I)I"⟩, Cond.selects RX2 ⟨"JamDays$Jar", "firstWorthIn", "(I)I"⟩ yX2_firstWorthIn, Cond.instanceMethod yX2_firstWorthIn, Cond.initialized RX2, Cond.code yX2_firstWorthIn cX2_firstWorthIn 2 (some .int), Cond.fieldLink RX2 9 "JamDays$Gold" "good" "I", Cond.sameField "JamDays$Gold" "JamDays$Jar" "good" "I", Cond.methodLink RX2 15 ⟨"JamDays$Gold", "mouldIn", "(I)I"⟩, Cond.sameMethod "JamDays$Gold" "JamDays$Jar" "mouldIn" "(I)I", Cond.selects RX2 ⟨"JamDays$Gold", "mouldIn", "(I)I"⟩ yX3_mouldIn, Cond.methodLink RX6 218 yX3_firstWorthIn, Cond.selects RX3 yX3_firstWorthIn yX3_firstWorthIn, Cond.selects RX4 ⟨"JamDays$Jar", "firstWorthIn", "(I)I"⟩ yX4_firstWorthIn, Cond.instanceMethod yX4_firstWorthIn, Cond.initialized RX4, Cond.code yX4_firstWorthIn cX4_firstWorthIn 3 (some .int), Cond.fieldLink RX4 9 "JamDays$Plum" "good" "I"]
def wsX6_yearsToBest_r3 : List Cond := [Cond.sameField "JamDays$Plum" "JamDays$Jar" "good" "I", Cond.methodLink RX4 15 ⟨"JamDays$Plum", "mouldIn", "(I)I"⟩, Cond.sameMethod "JamDays$Plum" "JamDays$Jar" "mouldIn" "(I)I", Cond.selects RX4 ⟨"JamDays$Plum", "mouldIn", "(I)I"⟩ yX3_mouldIn, Cond.selects RX5 ⟨"JamDays$Jar", "firstWorthIn", "(I)I"⟩ yX3_firstWorthIn]
def wsX6_yearsToBest : List Cond := .code yX6_yearsToBest cX6_yearsToBest 4 (some .int) :: ((wsX6_yearsToBest_r1 ++ (wsX6_yearsToBest_r2 ++ wsX6_yearsToBest_r3)) ++ wsX60 ++ wsX10 ++ wsX00 ++ wsX20 ++ wsX30 ++ wsX40 ++ wsX50)
def wsX6_jar_r1 : List Cond := [Cond.fieldLink RX6 82 "JamDays$Jar" "good" "I", Cond.fieldLink RX6 85 "JamDays$Jar" "sugar" "I", Cond.fieldLink RX6 29 "JamDays" "now" "LJamDays$Days;", Cond.fieldLink RX6 91 "JamDays$Days" "year" "I", Cond.methodLink RX6 75 yX6_find, Cond.instanceMethod yX6_find, Cond.selects RX6 yX6_find yX6_find, Cond.initialized RX6, Cond.code yX6_find cX6_find 2 (some (.object "JamDays$Jar")), Cond.fieldLink RX6 23 "JamDays" "jarCount" "I", Cond.fieldLink RX6 19 "JamDays" "jars" "[LJamDays$Jar;", Cond.methodLink RX6 78 ⟨"JamDays$Jar", "kindNumber", "()I"⟩, Cond.sameMethod "JamDays$Jar" "JamDays$Jar" "kindNumber" "()I", Cond.instanceMethod ⟨"JamDays$Jar", "kindNumber", "()I"⟩, Cond.selects RX0 ⟨"JamDays$Jar", "kindNumber", "()I"⟩ yX0_kindNumber, Cond.instanceMethod yX0_kindNumber, Cond.initialized RX0, Cond.code yX0_kindNumber cX0_kindNumber 1 (some .int), Cond.code yX3_kindNumber cX3_kindNumber 1 (some .int), Cond.selects RX2 ⟨"JamDays$Jar", "kindNumber", "()I"⟩ yX2_kindNumber, Cond.instanceMethod yX2_kindNumber, Cond.initialized RX2, Cond.code yX2_kindNumber cX2_kindNumber 1 (some .int), Cond.methodLink RX6 78 yX3_kindNumber]
def wsX6_jar_r2 : List Cond := [Cond.instanceMethod yX3_kindNumber, Cond.selects RX3 yX3_kindNumber yX3_kindNumber, Cond.initialized RX3, Cond.selects RX4 ⟨"JamDays$Jar", "kindNumber", "()I"⟩ yX4_kindNumber, Cond.instanceMethod yX4_kindNumber, Cond.initialized RX4, Cond.code yX4_kindNumber cX4_kindNumber 1 (some .int), Cond.selects RX5 ⟨"JamDays$Jar", "kindNumber", "()I"⟩ yX5_kindNumber, Cond.instanceMethod yX5_kindNumber, Cond.initialized RX5, Cond.code yX5_kindNumber cX5_kindNumber 1 (some .int), Cond.methodLink RX6 88 yX1_spoonsOf, Cond.instanceMethod yX1_spoonsOf, Cond.selects RX1 yX1_spoonsOf yX1_spoonsOf, Cond.initialized RX1, Cond.code yX1_spoonsOf cX1_spoonsOf 2 (some .int), Cond.fieldLink RX1 27 "JamDays$Days" "spoons" "[I", Cond.methodLink RX6 94 ⟨"JamDays$Jar", "mouldIn", "(I)I"⟩, Cond.sameMethod "JamDays$Jar" "JamDays$Jar" "mouldIn" "(I)I", Cond.selects RX0 ⟨"JamDays$Jar", "mouldIn", "(I)I"⟩ yX3_mouldIn, Cond.instanceMethod yX3_mouldIn, Cond.code yX3_mouldIn cX3_mouldIn 3 (some .int), Cond.fieldLink RX3 25 "JamDays$Jar" "mouldEachYear" "I", Cond.selects RX2 ⟨"JamDays$Jar", "mouldIn", "(I)I"⟩ yX3_mouldIn]
def wsX6_jar_r3 : List Cond := [Cond.methodLink RX6 94 yX3_mouldIn, Cond.selects RX3 yX3_mouldIn yX3_mouldIn, Cond.selects RX4 ⟨"JamDays$Jar", "mouldIn", "(I)I"⟩ yX3_mouldIn, Cond.selects RX5 ⟨"JamDays$Jar", "mouldIn", "(I)I"⟩ yX3_mouldIn, Cond.methodLink RX6 97 yX6_nextWorth, Cond.instanceMethod yX6_nextWorth, Cond.selects RX6 yX6_nextWorth yX6_nextWorth, Cond.code yX6_nextWorth cX6_nextWorth 2 (some .int), Cond.methodLink RX6 114 yX6_firstWorth, Cond.instanceMethod yX6_firstWorth, Cond.selects RX6 yX6_firstWorth yX6_firstWorth, Cond.code yX6_firstWorth cX6_firstWorth 4 (some .int), Cond.methodLink RX6 218 ⟨"JamDays$Jar", "firstWorthIn", "(I)I"⟩, Cond.sameMethod "JamDays$Jar" "JamDays$Jar" "firstWorthIn" "(I)I", Cond.selects RX0 ⟨"JamDays$Jar", "firstWorthIn", "(I)I"⟩ yX3_firstWorthIn, Cond.instanceMethod yX3_firstWorthIn, Cond.code yX3_firstWorthIn cX3_firstWorthIn 2 (some .int), Cond.fieldLink RX3 18 "JamDays$Jar" "good" "I", Cond.methodLink RX3 34 ⟨"JamDays$Jar", "mouldIn", "(I)I"⟩, Cond.methodLink RX3 34 yX3_mouldIn, Cond.instanceMethod ⟨"JamDays$Jar", "firstWorthIn", "(I)I"⟩, Cond.selects RX2 ⟨"JamDays$Jar", "firstWorthIn", "(I)I"⟩ yX2_firstWorthIn, Cond.instanceMethod yX2_firstWorthIn, Cond.code yX2_firstWorthIn cX2_firstWorthIn 2 (some .int)]
def wsX6_jar_r4 : List Cond := [Cond.fieldLink RX2 9 "JamDays$Gold" "good" "I", Cond.sameField "JamDays$Gold" "JamDays$Jar" "good" "I", Cond.methodLink RX2 15 ⟨"JamDays$Gold", "mouldIn", "(I)I"⟩, Cond.sameMethod "JamDays$Gold" "JamDays$Jar" "mouldIn" "(I)I", Cond.selects RX2 ⟨"JamDays$Gold", "mouldIn", "(I)I"⟩ yX3_mouldIn, Cond.methodLink RX6 218 yX3_firstWorthIn, Cond.selects RX3 yX3_firstWorthIn yX3_firstWorthIn, Cond.selects RX4 ⟨"JamDays$Jar", "firstWorthIn", "(I)I"⟩ yX4_firstWorthIn, Cond.instanceMethod yX4_firstWorthIn, Cond.code yX4_firstWorthIn cX4_firstWorthIn 3 (some .int), Cond.fieldLink RX4 9 "JamDays$Plum" "good" "I", Cond.sameField "JamDays$Plum" "JamDays$Jar" "good" "I", Cond.methodLink RX4 15 ⟨"JamDays$Plum", "mouldIn", "(I)I"⟩, Cond.sameMethod "JamDays$Plum" "JamDays$Jar" "mouldIn" "(I)I", Cond.selects RX4 ⟨"JamDays$Plum", "mouldIn", "(I)I"⟩ yX3_mouldIn, Cond.selects RX5 ⟨"JamDays$Jar", "firstWorthIn", "(I)I"⟩ yX3_firstWorthIn, Cond.methodLink RX6 100 yX1_eatenNowOf, Cond.instanceMethod yX1_eatenNowOf, Cond.selects RX1 yX1_eatenNowOf yX1_eatenNowOf, Cond.code yX1_eatenNowOf cX1_eatenNowOf 2 (some .int), Cond.fieldLink RX1 31 "JamDays$Days" "eatenNow" "[I", Cond.methodLink RX6 103 yX6_yearsToBest, Cond.instanceMethod yX6_yearsToBest, Cond.selects RX6 yX6_yearsToBest yX6_yearsToBest]
def wsX6_jar_r5 : List Cond := [Cond.code yX6_yearsToBest cX6_yearsToBest 4 (some .int)]
def wsX6_jar : List Cond := .code yX6_jar cX6_jar 4 (some .int) :: ((wsX6_jar_r1 ++ (wsX6_jar_r2 ++ (wsX6_jar_r3 ++ (wsX6_jar_r4 ++ wsX6_jar_r5)))) ++ wsX00 ++ wsX20 ++ wsX30 ++ wsX40 ++ wsX50 ++ wsX60 ++ wsX10)
def wsX6_isOfKind : List Cond := .code yX6_isOfKind cX6_isOfKind 2 (some .boolean) :: ([.classLink RX6 203 "JamDays$Weak", .classLink RX6 208 "JamDays$Copper", .classLink RX6 211 "JamDays$Plum", .classLink RX6 214 "JamDays$Gold"])
def wsX6_as : List Cond := .code yX6_as cX6_as 4 (some .int) :: ([.methodLink RX6 75 yX6_find, .instanceMethod yX6_find, .selects RX6 yX6_find yX6_find, .initialized RX6, .code yX6_find cX6_find 2 (some (.object "JamDays$Jar")), .fieldLink RX6 23 "JamDays" "jarCount" "I", .fieldLink RX6 19 "JamDays" "jars" "[LJamDays$Jar;", .methodLink RX6 106 yX6_isOfKind, .static yX6_isOfKind, .code yX6_isOfKind cX6_isOfKind 2 (some .boolean), .classLink RX6 203 "JamDays$Weak", .classLink RX6 208 "JamDays$Copper", .classLink RX6 211 "JamDays$Plum", .classLink RX6 214 "JamDays$Gold"] ++ wsX60)
def wsX6_isNoYear : List Cond := .code yX6_isNoYear cX6_isNoYear 1 (some .boolean) :: ([])
def wsX6_worth_r1 : List Cond := [Cond.methodLink RX6 75 yX6_find, Cond.instanceMethod yX6_find, Cond.selects RX6 yX6_find yX6_find, Cond.initialized RX6, Cond.code yX6_find cX6_find 2 (some (.object "JamDays$Jar")), Cond.fieldLink RX6 23 "JamDays" "jarCount" "I", Cond.fieldLink RX6 19 "JamDays" "jars" "[LJamDays$Jar;", Cond.methodLink RX6 110 yX6_isNoYear, Cond.static yX6_isNoYear, Cond.code yX6_isNoYear cX6_isNoYear 1 (some .boolean), Cond.methodLink RX6 114 yX6_firstWorth, Cond.instanceMethod yX6_firstWorth, Cond.selects RX6 yX6_firstWorth yX6_firstWorth, Cond.code yX6_firstWorth cX6_firstWorth 4 (some .int), Cond.methodLink RX6 218 ⟨"JamDays$Jar", "firstWorthIn", "(I)I"⟩, Cond.sameMethod "JamDays$Jar" "JamDays$Jar" "firstWorthIn" "(I)I", Cond.selects RX0 ⟨"JamDays$Jar", "firstWorthIn", "(I)I"⟩ yX3_firstWorthIn, Cond.instanceMethod yX3_firstWorthIn, Cond.initialized RX3, Cond.code yX3_firstWorthIn cX3_firstWorthIn 2 (some .int), Cond.fieldLink RX3 18 "JamDays$Jar" "good" "I", Cond.methodLink RX3 34 ⟨"JamDays$Jar", "mouldIn", "(I)I"⟩, Cond.sameMethod "JamDays$Jar" "JamDays$Jar" "mouldIn" "(I)I", Cond.selects RX0 ⟨"JamDays$Jar", "mouldIn", "(I)I"⟩ yX3_mouldIn]
def wsX6_worth_r2 : List Cond := [Cond.instanceMethod yX3_mouldIn, Cond.code yX3_mouldIn cX3_mouldIn 3 (some .int), Cond.fieldLink RX3 25 "JamDays$Jar" "mouldEachYear" "I", Cond.selects RX2 ⟨"JamDays$Jar", "mouldIn", "(I)I"⟩ yX3_mouldIn, Cond.methodLink RX3 34 yX3_mouldIn, Cond.selects RX3 yX3_mouldIn yX3_mouldIn, Cond.selects RX4 ⟨"JamDays$Jar", "mouldIn", "(I)I"⟩ yX3_mouldIn, Cond.selects RX5 ⟨"JamDays$Jar", "mouldIn", "(I)I"⟩ yX3_mouldIn, Cond.instanceMethod ⟨"JamDays$Jar", "firstWorthIn", "(I)I"⟩, Cond.selects RX2 ⟨"JamDays$Jar", "firstWorthIn", "(I)I"⟩ yX2_firstWorthIn, Cond.instanceMethod yX2_firstWorthIn, Cond.initialized RX2, Cond.code yX2_firstWorthIn cX2_firstWorthIn 2 (some .int), Cond.fieldLink RX2 9 "JamDays$Gold" "good" "I", Cond.sameField "JamDays$Gold" "JamDays$Jar" "good" "I", Cond.methodLink RX2 15 ⟨"JamDays$Gold", "mouldIn", "(I)I"⟩, Cond.sameMethod "JamDays$Gold" "JamDays$Jar" "mouldIn" "(I)I", Cond.selects RX2 ⟨"JamDays$Gold", "mouldIn", "(I)I"⟩ yX3_mouldIn, Cond.methodLink RX6 218 yX3_firstWorthIn, Cond.selects RX3 yX3_firstWorthIn yX3_firstWorthIn, Cond.selects RX4 ⟨"JamDays$Jar", "firstWorthIn", "(I)I"⟩ yX4_firstWorthIn, Cond.instanceMethod yX4_firstWorthIn, Cond.initialized RX4, Cond.code yX4_firstWorthIn cX4_firstWorthIn 3 (some .int)]
def wsX6_worth_r3 : List Cond := [Cond.fieldLink RX4 9 "JamDays$Plum" "good" "I", Cond.sameField "JamDays$Plum" "JamDays$Jar" "good" "I", Cond.methodLink RX4 15 ⟨"JamDays$Plum", "mouldIn", "(I)I"⟩, Cond.sameMethod "JamDays$Plum" "JamDays$Jar" "mouldIn" "(I)I", Cond.selects RX4 ⟨"JamDays$Plum", "mouldIn", "(I)I"⟩ yX3_mouldIn, Cond.selects RX5 ⟨"JamDays$Jar", "firstWorthIn", "(I)I"⟩ yX3_firstWorthIn]
def wsX6_worth : List Cond := .code yX6_worth cX6_worth 3 (some .int) :: ((wsX6_worth_r1 ++ (wsX6_worth_r2 ++ wsX6_worth_r3)) ++ wsX60 ++ wsX00 ++ wsX20 ++ wsX30 ++ wsX40 ++ wsX50)
def wsX6_eat_r1 : List Cond := [Cond.fieldLink RX6 29 "JamDays" "now" "LJamDays$Days;", Cond.methodLink RX6 75 yX6_find, Cond.instanceMethod yX6_find, Cond.selects RX6 yX6_find yX6_find, Cond.initialized RX6, Cond.code yX6_find cX6_find 2 (some (.object "JamDays$Jar")), Cond.fieldLink RX6 23 "JamDays" "jarCount" "I", Cond.fieldLink RX6 19 "JamDays" "jars" "[LJamDays$Jar;", Cond.methodLink RX6 97 yX6_nextWorth, Cond.instanceMethod yX6_nextWorth, Cond.selects RX6 yX6_nextWorth yX6_nextWorth, Cond.code yX6_nextWorth cX6_nextWorth 2 (some .int), Cond.fieldLink RX6 91 "JamDays$Days" "year" "I", Cond.methodLink RX6 114 yX6_firstWorth, Cond.instanceMethod yX6_firstWorth, Cond.selects RX6 yX6_firstWorth yX6_firstWorth, Cond.code yX6_firstWorth cX6_firstWorth 4 (some .int), Cond.methodLink RX6 218 ⟨"JamDays$Jar", "firstWorthIn", "(I)I"⟩, Cond.sameMethod "JamDays$Jar" "JamDays$Jar" "firstWorthIn" "(I)I", Cond.selects RX0 ⟨"JamDays$Jar", "firstWorthIn", "(I)I"⟩ yX3_firstWorthIn, Cond.instanceMethod yX3_firstWorthIn, Cond.initialized RX3, Cond.code yX3_firstWorthIn cX3_firstWorthIn 2 (some .int), Cond.fieldLink RX3 18 "JamDays$Jar" "good" "I"]
def wsX6_eat_r2 : List Cond := [Cond.methodLink RX3 34 ⟨"JamDays$Jar", "mouldIn", "(I)I"⟩, Cond.sameMethod "JamDays$Jar" "JamDays$Jar" "mouldIn" "(I)I", Cond.selects RX0 ⟨"JamDays$Jar", "mouldIn", "(I)I"⟩ yX3_mouldIn, Cond.instanceMethod yX3_mouldIn, Cond.code yX3_mouldIn cX3_mouldIn 3 (some .int), Cond.fieldLink RX3 25 "JamDays$Jar" "mouldEachYear" "I", Cond.selects RX2 ⟨"JamDays$Jar", "mouldIn", "(I)I"⟩ yX3_mouldIn, Cond.methodLink RX3 34 yX3_mouldIn, Cond.selects RX3 yX3_mouldIn yX3_mouldIn, Cond.selects RX4 ⟨"JamDays$Jar", "mouldIn", "(I)I"⟩ yX3_mouldIn, Cond.selects RX5 ⟨"JamDays$Jar", "mouldIn", "(I)I"⟩ yX3_mouldIn, Cond.instanceMethod ⟨"JamDays$Jar", "firstWorthIn", "(I)I"⟩, Cond.selects RX2 ⟨"JamDays$Jar", "firstWorthIn", "(I)I"⟩ yX2_firstWorthIn, Cond.instanceMethod yX2_firstWorthIn, Cond.initialized RX2, Cond.code yX2_firstWorthIn cX2_firstWorthIn 2 (some .int), Cond.fieldLink RX2 9 "JamDays$Gold" "good" "I", Cond.sameField "JamDays$Gold" "JamDays$Jar" "good" "I", Cond.methodLink RX2 15 ⟨"JamDays$Gold", "mouldIn", "(I)I"⟩, Cond.sameMethod "JamDays$Gold" "JamDays$Jar" "mouldIn" "(I)I", Cond.selects RX2 ⟨"JamDays$Gold", "mouldIn", "(I)I"⟩ yX3_mouldIn, Cond.methodLink RX6 218 yX3_firstWorthIn, Cond.selects RX3 yX3_firstWorthIn yX3_firstWorthIn, Cond.selects RX4 ⟨"JamDays$Jar", "firstWorthIn", "(I)I"⟩ yX4_firstWorthIn]
def wsX6_eat_r3 : List Cond := [Cond.instanceMethod yX4_firstWorthIn, Cond.initialized RX4, Cond.code yX4_firstWorthIn cX4_firstWorthIn 3 (some .int), Cond.fieldLink RX4 9 "JamDays$Plum" "good" "I", Cond.sameField "JamDays$Plum" "JamDays$Jar" "good" "I", Cond.methodLink RX4 15 ⟨"JamDays$Plum", "mouldIn", "(I)I"⟩, Cond.sameMethod "JamDays$Plum" "JamDays$Jar" "mouldIn" "(I)I", Cond.selects RX4 ⟨"JamDays$Plum", "mouldIn", "(I)I"⟩ yX3_mouldIn, Cond.selects RX5 ⟨"JamDays$Jar", "firstWorthIn", "(I)I"⟩ yX3_firstWorthIn, Cond.methodLink RX6 100 yX1_eatenNowOf, Cond.instanceMethod yX1_eatenNowOf, Cond.selects RX1 yX1_eatenNowOf yX1_eatenNowOf, Cond.initialized RX1, Cond.code yX1_eatenNowOf cX1_eatenNowOf 2 (some .int), Cond.fieldLink RX1 31 "JamDays$Days" "eatenNow" "[I", Cond.methodLink RX6 118 yX1_eatSpoon, Cond.instanceMethod yX1_eatSpoon, Cond.selects RX1 yX1_eatSpoon yX1_eatSpoon, Cond.code yX1_eatSpoon cX1_eatSpoon 3 (some .boolean), Cond.fieldLink RX1 27 "JamDays$Days" "spoons" "[I", Cond.fieldLink RX1 15 "JamDays$Days" "eaten" "I", Cond.fieldLink RX1 21 "JamDays$Days" "joy" "I", Cond.methodLink RX1 40 yX1_spoonsOf, Cond.instanceMethod yX1_spoonsOf]
def wsX6_eat_r4 : List Cond := [Cond.selects RX1 yX1_spoonsOf yX1_spoonsOf, Cond.code yX1_spoonsOf cX1_spoonsOf 2 (some .int)]
def wsX6_eat : List Cond := .code yX6_eat cX6_eat 3 (some .int) :: ((wsX6_eat_r1 ++ (wsX6_eat_r2 ++ (wsX6_eat_r3 ++ wsX6_eat_r4))) ++ wsX60 ++ wsX10 ++ wsX00 ++ wsX20 ++ wsX30 ++ wsX40 ++ wsX50)
def wsX6_wasps : List Cond := .code yX6_wasps cX6_wasps 2 (some .int) :: ([.fieldLink RX6 29 "JamDays" "now" "LJamDays$Days;", .methodLink RX6 75 yX6_find, .instanceMethod yX6_find, .selects RX6 yX6_find yX6_find, .initialized RX6, .code yX6_find cX6_find 2 (some (.object "JamDays$Jar")), .fieldLink RX6 23 "JamDays" "jarCount" "I", .fieldLink RX6 19 "JamDays" "jars" "[LJamDays$Jar;", .methodLink RX6 121 yX1_loseSpoon, .instanceMethod yX1_loseSpoon, .selects RX1 yX1_loseSpoon yX1_loseSpoon, .initialized RX1, .code yX1_loseSpoon cX1_loseSpoon 2 (some .boolean), .fieldLink RX1 27 "JamDays$Days" "spoons" "[I", .fieldLink RX1 18 "JamDays$Days" "lost" "I", .methodLink RX1 40 yX1_spoonsOf, .instanceMethod yX1_spoonsOf, .selects RX1 yX1_spoonsOf yX1_spoonsOf, .code yX1_spoonsOf cX1_spoonsOf 2 (some .int), .methodLink RX6 88 yX1_spoonsOf] ++ wsX60 ++ wsX10)
def wsX6_hasNoLarder : List Cond := .code yX6_hasNoLarder cX6_hasNoLarder 1 (some .boolean) :: ([.fieldLink RX6 23 "JamDays" "jarCount" "I"] ++ wsX60)
def wsX6_year : List Cond := .code yX6_year cX6_year 1 (some .int) :: ([.fieldLink RX6 29 "JamDays" "now" "LJamDays$Days;", .fieldLink RX6 91 "JamDays$Days" "year" "I", .methodLink RX6 124 yX6_hasNoLarder, .instanceMethod yX6_hasNoLarder, .selects RX6 yX6_hasNoLarder yX6_hasNoLarder, .initialized RX6, .code yX6_hasNoLarder cX6_hasNoLarder 1 (some .boolean), .fieldLink RX6 23 "JamDays" "jarCount" "I", .methodLink RX6 127 yX1_passYear, .instanceMethod yX1_passYear, .selects RX1 yX1_passYear yX1_passYear, .initialized RX1, .code yX1_passYear cX1_passYear 2 none, .fieldLink RX1 9 "JamDays$Days" "year" "I", .fieldLink RX1 31 "JamDays$Days" "eatenNow" "[I"] ++ wsX60 ++ wsX10)
def wsX6_isInMost : List Cond := .code yX6_isInMost cX6_isInMost 2 (some .boolean) :: ([])
def wsX6_setMost : List Cond := .code yX6_setMost cX6_setMost 4 none :: ([.fieldLink RX6 49 "JamDays" "most" "[I", .methodLink RX6 243 yX6_isInMost, .static yX6_isInMost, .initialized RX6, .code yX6_isInMost cX6_isInMost 2 (some .boolean)] ++ wsX60)
def wsX6_mostWorth : List Cond := .code yX6_mostWorth cX6_mostWorth 3 (some .int) :: ([.fieldLink RX6 49 "JamDays" "most" "[I", .constant RX6 136 (-1000000), .methodLink RX6 243 yX6_isInMost, .static yX6_isInMost, .initialized RX6, .code yX6_isInMost cX6_isInMost 2 (some .boolean)] ++ wsX60)
def wsX6_worthWithPick : List Cond := .code yX6_worthWithPick cX6_worthWithPick 5 (some .int) :: ([.fieldLink RX6 29 "JamDays" "now" "LJamDays$Days;", .constant RX6 136 (-1000000), .fieldLink RX6 52 "JamDays" "nextWorths" "[I", .methodLink RX6 133 yX6_mostWorth, .instanceMethod yX6_mostWorth, .selects RX6 yX6_mostWorth yX6_mostWorth, .initialized RX6, .code yX6_mostWorth cX6_mostWorth 3 (some .int), .fieldLink RX6 49 "JamDays" "most" "[I", .methodLink RX6 243 yX6_isInMost, .static yX6_isInMost, .code yX6_isInMost cX6_isInMost 2 (some .boolean), .methodLink RX6 75 yX6_find, .instanceMethod yX6_find, .selects RX6 yX6_find yX6_find, .code yX6_find cX6_find 2 (some (.object "JamDays$Jar")), .fieldLink RX6 23 "JamDays" "jarCount" "I", .fieldLink RX6 19 "JamDays" "jars" "[LJamDays$Jar;", .methodLink RX6 88 yX1_spoonsOf, .instanceMethod yX1_spoonsOf, .selects RX1 yX1_spoonsOf yX1_spoonsOf, .initialized RX1, .code yX1_spoonsOf cX1_spoonsOf 2 (some .int), .fieldLink RX1 27 "JamDays$Days" "spoons" "[I"] ++ wsX60 ++ wsX10)
def wsX6_mostFrom_r1 : List Cond := [Cond.constant RX6 136 (-1000000), Cond.methodLink RX6 237 Lib.Math.max.name, Cond.static Lib.Math.max.name, Cond.initialized "java/lang/Math", Cond.code Lib.Math.max.name Lib.Math.max.code 2 (some .int), Cond.methodLink RX6 233 yX6_worthWithPick, Cond.instanceMethod yX6_worthWithPick, Cond.selects RX6 yX6_worthWithPick yX6_worthWithPick, Cond.initialized RX6, Cond.code yX6_worthWithPick cX6_worthWithPick 5 (some .int), Cond.fieldLink RX6 29 "JamDays" "now" "LJamDays$Days;", Cond.fieldLink RX6 52 "JamDays" "nextWorths" "[I", Cond.methodLink RX6 133 yX6_mostWorth, Cond.instanceMethod yX6_mostWorth, Cond.selects RX6 yX6_mostWorth yX6_mostWorth, Cond.code yX6_mostWorth cX6_mostWorth 3 (some .int), Cond.fieldLink RX6 49 "JamDays" "most" "[I", Cond.methodLink RX6 243 yX6_isInMost, Cond.static yX6_isInMost, Cond.code yX6_isInMost cX6_isInMost 2 (some .boolean), Cond.methodLink RX6 75 yX6_find, Cond.instanceMethod yX6_find, Cond.selects RX6 yX6_find yX6_find, Cond.code yX6_find cX6_find 2 (some (.object "JamDays$Jar"))]
def wsX6_mostFrom_r2 : List Cond := [Cond.fieldLink RX6 23 "JamDays" "jarCount" "I", Cond.fieldLink RX6 19 "JamDays" "jars" "[LJamDays$Jar;", Cond.methodLink RX6 88 yX1_spoonsOf, Cond.instanceMethod yX1_spoonsOf, Cond.selects RX1 yX1_spoonsOf yX1_spoonsOf, Cond.initialized RX1, Cond.code yX1_spoonsOf cX1_spoonsOf 2 (some .int), Cond.fieldLink RX1 27 "JamDays$Days" "spoons" "[I"]
def wsX6_mostFrom : List Cond := .code yX6_mostFrom cX6_mostFrom 5 (some .int) :: ((wsX6_mostFrom_r1 ++ wsX6_mostFrom_r2) ++ wsX60 ++ wsX10)
def wsX6_fillMost_r1 : List Cond := [Cond.fieldLink RX6 23 "JamDays" "jarCount" "I", Cond.constant RX6 136 (-1000000), Cond.methodLink RX6 225 Lib.Math.min.name, Cond.static Lib.Math.min.name, Cond.initialized "java/lang/Math", Cond.code Lib.Math.min.name Lib.Math.min.code 2 (some .int), Cond.fieldLink RX6 52 "JamDays" "nextWorths" "[I", Cond.methodLink RX6 221 yX6_setMost, Cond.instanceMethod yX6_setMost, Cond.selects RX6 yX6_setMost yX6_setMost, Cond.initialized RX6, Cond.code yX6_setMost cX6_setMost 4 none, Cond.fieldLink RX6 49 "JamDays" "most" "[I", Cond.methodLink RX6 243 yX6_isInMost, Cond.static yX6_isInMost, Cond.code yX6_isInMost cX6_isInMost 2 (some .boolean), Cond.methodLink RX6 97 yX6_nextWorth, Cond.instanceMethod yX6_nextWorth, Cond.selects RX6 yX6_nextWorth yX6_nextWorth, Cond.code yX6_nextWorth cX6_nextWorth 2 (some .int), Cond.fieldLink RX6 29 "JamDays" "now" "LJamDays$Days;", Cond.fieldLink RX6 91 "JamDays$Days" "year" "I", Cond.methodLink RX6 114 yX6_firstWorth, Cond.instanceMethod yX6_firstWorth]
def wsX6_fillMost_r2 : List Cond := [Cond.selects RX6 yX6_firstWorth yX6_firstWorth, Cond.code yX6_firstWorth cX6_firstWorth 4 (some .int), Cond.methodLink RX6 75 yX6_find, Cond.instanceMethod yX6_find, Cond.selects RX6 yX6_find yX6_find, Cond.code yX6_find cX6_find 2 (some (.object "JamDays$Jar")), Cond.fieldLink RX6 19 "JamDays" "jars" "[LJamDays$Jar;", Cond.methodLink RX6 218 ⟨"JamDays$Jar", "firstWorthIn", "(I)I"⟩, Cond.sameMethod "JamDays$Jar" "JamDays$Jar" "firstWorthIn" "(I)I", Cond.selects RX0 ⟨"JamDays$Jar", "firstWorthIn", "(I)I"⟩ yX3_firstWorthIn, Cond.instanceMethod yX3_firstWorthIn, Cond.initialized RX3, Cond.code yX3_firstWorthIn cX3_firstWorthIn 2 (some .int), Cond.fieldLink RX3 18 "JamDays$Jar" "good" "I", Cond.methodLink RX3 34 ⟨"JamDays$Jar", "mouldIn", "(I)I"⟩, Cond.sameMethod "JamDays$Jar" "JamDays$Jar" "mouldIn" "(I)I", Cond.selects RX0 ⟨"JamDays$Jar", "mouldIn", "(I)I"⟩ yX3_mouldIn, Cond.instanceMethod yX3_mouldIn, Cond.code yX3_mouldIn cX3_mouldIn 3 (some .int), Cond.fieldLink RX3 25 "JamDays$Jar" "mouldEachYear" "I", Cond.selects RX2 ⟨"JamDays$Jar", "mouldIn", "(I)I"⟩ yX3_mouldIn, Cond.methodLink RX3 34 yX3_mouldIn, Cond.selects RX3 yX3_mouldIn yX3_mouldIn, Cond.selects RX4 ⟨"JamDays$Jar", "mouldIn", "(I)I"⟩ yX3_mouldIn]
def wsX6_fillMost_r3 : List Cond := [Cond.selects RX5 ⟨"JamDays$Jar", "mouldIn", "(I)I"⟩ yX3_mouldIn, Cond.instanceMethod ⟨"JamDays$Jar", "firstWorthIn", "(I)I"⟩, Cond.selects RX2 ⟨"JamDays$Jar", "firstWorthIn", "(I)I"⟩ yX2_firstWorthIn, Cond.instanceMethod yX2_firstWorthIn, Cond.initialized RX2, Cond.code yX2_firstWorthIn cX2_firstWorthIn 2 (some .int), Cond.fieldLink RX2 9 "JamDays$Gold" "good" "I", Cond.sameField "JamDays$Gold" "JamDays$Jar" "good" "I", Cond.methodLink RX2 15 ⟨"JamDays$Gold", "mouldIn", "(I)I"⟩, Cond.sameMethod "JamDays$Gold" "JamDays$Jar" "mouldIn" "(I)I", Cond.selects RX2 ⟨"JamDays$Gold", "mouldIn", "(I)I"⟩ yX3_mouldIn, Cond.methodLink RX6 218 yX3_firstWorthIn, Cond.selects RX3 yX3_firstWorthIn yX3_firstWorthIn, Cond.selects RX4 ⟨"JamDays$Jar", "firstWorthIn", "(I)I"⟩ yX4_firstWorthIn, Cond.instanceMethod yX4_firstWorthIn, Cond.initialized RX4, Cond.code yX4_firstWorthIn cX4_firstWorthIn 3 (some .int), Cond.fieldLink RX4 9 "JamDays$Plum" "good" "I", Cond.sameField "JamDays$Plum" "JamDays$Jar" "good" "I", Cond.methodLink RX4 15 ⟨"JamDays$Plum", "mouldIn", "(I)I"⟩, Cond.sameMethod "JamDays$Plum" "JamDays$Jar" "mouldIn" "(I)I", Cond.selects RX4 ⟨"JamDays$Plum", "mouldIn", "(I)I"⟩ yX3_mouldIn, Cond.selects RX5 ⟨"JamDays$Jar", "firstWorthIn", "(I)I"⟩ yX3_firstWorthIn, Cond.methodLink RX6 100 yX1_eatenNowOf]
def wsX6_fillMost_r4 : List Cond := [Cond.instanceMethod yX1_eatenNowOf, Cond.selects RX1 yX1_eatenNowOf yX1_eatenNowOf, Cond.initialized RX1, Cond.code yX1_eatenNowOf cX1_eatenNowOf 2 (some .int), Cond.fieldLink RX1 31 "JamDays$Days" "eatenNow" "[I", Cond.methodLink RX6 230 yX6_mostFrom, Cond.instanceMethod yX6_mostFrom, Cond.selects RX6 yX6_mostFrom yX6_mostFrom, Cond.code yX6_mostFrom cX6_mostFrom 5 (some .int), Cond.methodLink RX6 237 Lib.Math.max.name, Cond.static Lib.Math.max.name, Cond.code Lib.Math.max.name Lib.Math.max.code 2 (some .int), Cond.methodLink RX6 233 yX6_worthWithPick, Cond.instanceMethod yX6_worthWithPick, Cond.selects RX6 yX6_worthWithPick yX6_worthWithPick, Cond.code yX6_worthWithPick cX6_worthWithPick 5 (some .int), Cond.methodLink RX6 133 yX6_mostWorth, Cond.instanceMethod yX6_mostWorth, Cond.selects RX6 yX6_mostWorth yX6_mostWorth, Cond.code yX6_mostWorth cX6_mostWorth 3 (some .int), Cond.methodLink RX6 88 yX1_spoonsOf, Cond.instanceMethod yX1_spoonsOf, Cond.selects RX1 yX1_spoonsOf yX1_spoonsOf, Cond.code yX1_spoonsOf cX1_spoonsOf 2 (some .int)]
def wsX6_fillMost_r5 : List Cond := [Cond.fieldLink RX1 27 "JamDays$Days" "spoons" "[I"]
def wsX6_fillMost : List Cond := .code yX6_fillMost cX6_fillMost 3 none :: ((wsX6_fillMost_r1 ++ (wsX6_fillMost_r2 ++ (wsX6_fillMost_r3 ++ (wsX6_fillMost_r4 ++ wsX6_fillMost_r5)))) ++ wsX60 ++ wsX10 ++ wsX00 ++ wsX20 ++ wsX30 ++ wsX40 ++ wsX50)
def wsX6_fewestPick_r1 : List Cond := [Cond.methodLink RX6 233 yX6_worthWithPick, Cond.instanceMethod yX6_worthWithPick, Cond.selects RX6 yX6_worthWithPick yX6_worthWithPick, Cond.initialized RX6, Cond.code yX6_worthWithPick cX6_worthWithPick 5 (some .int), Cond.fieldLink RX6 29 "JamDays" "now" "LJamDays$Days;", Cond.constant RX6 136 (-1000000), Cond.fieldLink RX6 52 "JamDays" "nextWorths" "[I", Cond.methodLink RX6 133 yX6_mostWorth, Cond.instanceMethod yX6_mostWorth, Cond.selects RX6 yX6_mostWorth yX6_mostWorth, Cond.code yX6_mostWorth cX6_mostWorth 3 (some .int), Cond.fieldLink RX6 49 "JamDays" "most" "[I", Cond.methodLink RX6 243 yX6_isInMost, Cond.static yX6_isInMost, Cond.code yX6_isInMost cX6_isInMost 2 (some .boolean), Cond.methodLink RX6 75 yX6_find, Cond.instanceMethod yX6_find, Cond.selects RX6 yX6_find yX6_find, Cond.code yX6_find cX6_find 2 (some (.object "JamDays$Jar")), Cond.fieldLink RX6 23 "JamDays" "jarCount" "I", Cond.fieldLink RX6 19 "JamDays" "jars" "[LJamDays$Jar;", Cond.methodLink RX6 88 yX1_spoonsOf, Cond.instanceMethod yX1_spoonsOf]
def wsX6_fewestPick_r2 : List Cond := [Cond.selects RX1 yX1_spoonsOf yX1_spoonsOf, Cond.initialized RX1, Cond.code yX1_spoonsOf cX1_spoonsOf 2 (some .int), Cond.fieldLink RX1 27 "JamDays$Days" "spoons" "[I"]
def wsX6_fewestPick : List Cond := .code yX6_fewestPick cX6_fewestPick 4 (some .int) :: ((wsX6_fewestPick_r1 ++ wsX6_fewestPick_r2) ++ wsX60 ++ wsX10)
def wsX6_pickOf_r1 : List Cond := [Cond.methodLink RX6 75 yX6_find, Cond.instanceMethod yX6_find, Cond.selects RX6 yX6_find yX6_find, Cond.initialized RX6, Cond.code yX6_find cX6_find 2 (some (.object "JamDays$Jar")), Cond.fieldLink RX6 23 "JamDays" "jarCount" "I", Cond.fieldLink RX6 19 "JamDays" "jars" "[LJamDays$Jar;", Cond.methodLink RX6 240 yX6_fewestPick, Cond.instanceMethod yX6_fewestPick, Cond.selects RX6 yX6_fewestPick yX6_fewestPick, Cond.code yX6_fewestPick cX6_fewestPick 4 (some .int), Cond.methodLink RX6 233 yX6_worthWithPick, Cond.instanceMethod yX6_worthWithPick, Cond.selects RX6 yX6_worthWithPick yX6_worthWithPick, Cond.code yX6_worthWithPick cX6_worthWithPick 5 (some .int), Cond.fieldLink RX6 29 "JamDays" "now" "LJamDays$Days;", Cond.constant RX6 136 (-1000000), Cond.fieldLink RX6 52 "JamDays" "nextWorths" "[I", Cond.methodLink RX6 133 yX6_mostWorth, Cond.instanceMethod yX6_mostWorth, Cond.selects RX6 yX6_mostWorth yX6_mostWorth, Cond.code yX6_mostWorth cX6_mostWorth 3 (some .int), Cond.fieldLink RX6 49 "JamDays" "most" "[I", Cond.methodLink RX6 243 yX6_isInMost]
def wsX6_pickOf_r2 : List Cond := [Cond.static yX6_isInMost, Cond.code yX6_isInMost cX6_isInMost 2 (some .boolean), Cond.methodLink RX6 88 yX1_spoonsOf, Cond.instanceMethod yX1_spoonsOf, Cond.selects RX1 yX1_spoonsOf yX1_spoonsOf, Cond.initialized RX1, Cond.code yX1_spoonsOf cX1_spoonsOf 2 (some .int), Cond.fieldLink RX1 27 "JamDays$Days" "spoons" "[I"]
def wsX6_pickOf : List Cond := .code yX6_pickOf cX6_pickOf 5 (some .int) :: ((wsX6_pickOf_r1 ++ wsX6_pickOf_r2) ++ wsX60 ++ wsX10)
def wsX6_best_r1 : List Cond := [Cond.fieldLink RX6 46 "JamDays" "bestsDone" "I", Cond.constant RX6 136 (-1000000), Cond.methodLink RX6 124 yX6_hasNoLarder, Cond.instanceMethod yX6_hasNoLarder, Cond.selects RX6 yX6_hasNoLarder yX6_hasNoLarder, Cond.initialized RX6, Cond.code yX6_hasNoLarder cX6_hasNoLarder 1 (some .boolean), Cond.fieldLink RX6 23 "JamDays" "jarCount" "I", Cond.methodLink RX6 130 yX6_fillMost, Cond.instanceMethod yX6_fillMost, Cond.selects RX6 yX6_fillMost yX6_fillMost, Cond.code yX6_fillMost cX6_fillMost 3 none, Cond.methodLink RX6 225 Lib.Math.min.name, Cond.static Lib.Math.min.name, Cond.initialized "java/lang/Math", Cond.code Lib.Math.min.name Lib.Math.min.code 2 (some .int), Cond.fieldLink RX6 52 "JamDays" "nextWorths" "[I", Cond.methodLink RX6 221 yX6_setMost, Cond.instanceMethod yX6_setMost, Cond.selects RX6 yX6_setMost yX6_setMost, Cond.code yX6_setMost cX6_setMost 4 none, Cond.fieldLink RX6 49 "JamDays" "most" "[I", Cond.methodLink RX6 243 yX6_isInMost, Cond.static yX6_isInMost]
def wsX6_best_r2 : List Cond := [Cond.code yX6_isInMost cX6_isInMost 2 (some .boolean), Cond.methodLink RX6 97 yX6_nextWorth, Cond.instanceMethod yX6_nextWorth, Cond.selects RX6 yX6_nextWorth yX6_nextWorth, Cond.code yX6_nextWorth cX6_nextWorth 2 (some .int), Cond.fieldLink RX6 29 "JamDays" "now" "LJamDays$Days;", Cond.fieldLink RX6 91 "JamDays$Days" "year" "I", Cond.methodLink RX6 114 yX6_firstWorth, Cond.instanceMethod yX6_firstWorth, Cond.selects RX6 yX6_firstWorth yX6_firstWorth, Cond.code yX6_firstWorth cX6_firstWorth 4 (some .int), Cond.methodLink RX6 75 yX6_find, Cond.instanceMethod yX6_find, Cond.selects RX6 yX6_find yX6_find, Cond.code yX6_find cX6_find 2 (some (.object "JamDays$Jar")), Cond.fieldLink RX6 19 "JamDays" "jars" "[LJamDays$Jar;", Cond.methodLink RX6 218 ⟨"JamDays$Jar", "firstWorthIn", "(I)I"⟩, Cond.sameMethod "JamDays$Jar" "JamDays$Jar" "firstWorthIn" "(I)I", Cond.selects RX0 ⟨"JamDays$Jar", "firstWorthIn", "(I)I"⟩ yX3_firstWorthIn, Cond.instanceMethod yX3_firstWorthIn, Cond.initialized RX3, Cond.code yX3_firstWorthIn cX3_firstWorthIn 2 (some .int), Cond.fieldLink RX3 18 "JamDays$Jar" "good" "I", Cond.methodLink RX3 34 ⟨"JamDays$Jar", "mouldIn", "(I)I"⟩]
def wsX6_best_r3 : List Cond := [Cond.sameMethod "JamDays$Jar" "JamDays$Jar" "mouldIn" "(I)I", Cond.selects RX0 ⟨"JamDays$Jar", "mouldIn", "(I)I"⟩ yX3_mouldIn, Cond.instanceMethod yX3_mouldIn, Cond.code yX3_mouldIn cX3_mouldIn 3 (some .int), Cond.fieldLink RX3 25 "JamDays$Jar" "mouldEachYear" "I", Cond.selects RX2 ⟨"JamDays$Jar", "mouldIn", "(I)I"⟩ yX3_mouldIn, Cond.methodLink RX3 34 yX3_mouldIn, Cond.selects RX3 yX3_mouldIn yX3_mouldIn, Cond.selects RX4 ⟨"JamDays$Jar", "mouldIn", "(I)I"⟩ yX3_mouldIn, Cond.selects RX5 ⟨"JamDays$Jar", "mouldIn", "(I)I"⟩ yX3_mouldIn, Cond.instanceMethod ⟨"JamDays$Jar", "firstWorthIn", "(I)I"⟩, Cond.selects RX2 ⟨"JamDays$Jar", "firstWorthIn", "(I)I"⟩ yX2_firstWorthIn, Cond.instanceMethod yX2_firstWorthIn, Cond.initialized RX2, Cond.code yX2_firstWorthIn cX2_firstWorthIn 2 (some .int), Cond.fieldLink RX2 9 "JamDays$Gold" "good" "I", Cond.sameField "JamDays$Gold" "JamDays$Jar" "good" "I", Cond.methodLink RX2 15 ⟨"JamDays$Gold", "mouldIn", "(I)I"⟩, Cond.sameMethod "JamDays$Gold" "JamDays$Jar" "mouldIn" "(I)I", Cond.selects RX2 ⟨"JamDays$Gold", "mouldIn", "(I)I"⟩ yX3_mouldIn, Cond.methodLink RX6 218 yX3_firstWorthIn, Cond.selects RX3 yX3_firstWorthIn yX3_firstWorthIn, Cond.selects RX4 ⟨"JamDays$Jar", "firstWorthIn", "(I)I"⟩ yX4_firstWorthIn, Cond.instanceMethod yX4_firstWorthIn]
def wsX6_best_r4 : List Cond := [Cond.initialized RX4, Cond.code yX4_firstWorthIn cX4_firstWorthIn 3 (some .int), Cond.fieldLink RX4 9 "JamDays$Plum" "good" "I", Cond.sameField "JamDays$Plum" "JamDays$Jar" "good" "I", Cond.methodLink RX4 15 ⟨"JamDays$Plum", "mouldIn", "(I)I"⟩, Cond.sameMethod "JamDays$Plum" "JamDays$Jar" "mouldIn" "(I)I", Cond.selects RX4 ⟨"JamDays$Plum", "mouldIn", "(I)I"⟩ yX3_mouldIn, Cond.selects RX5 ⟨"JamDays$Jar", "firstWorthIn", "(I)I"⟩ yX3_firstWorthIn, Cond.methodLink RX6 100 yX1_eatenNowOf, Cond.instanceMethod yX1_eatenNowOf, Cond.selects RX1 yX1_eatenNowOf yX1_eatenNowOf, Cond.initialized RX1, Cond.code yX1_eatenNowOf cX1_eatenNowOf 2 (some .int), Cond.fieldLink RX1 31 "JamDays$Days" "eatenNow" "[I", Cond.methodLink RX6 230 yX6_mostFrom, Cond.instanceMethod yX6_mostFrom, Cond.selects RX6 yX6_mostFrom yX6_mostFrom, Cond.code yX6_mostFrom cX6_mostFrom 5 (some .int), Cond.methodLink RX6 237 Lib.Math.max.name, Cond.static Lib.Math.max.name, Cond.code Lib.Math.max.name Lib.Math.max.code 2 (some .int), Cond.methodLink RX6 233 yX6_worthWithPick, Cond.instanceMethod yX6_worthWithPick, Cond.selects RX6 yX6_worthWithPick yX6_worthWithPick]
def wsX6_best_r5 : List Cond := [Cond.code yX6_worthWithPick cX6_worthWithPick 5 (some .int), Cond.methodLink RX6 133 yX6_mostWorth, Cond.instanceMethod yX6_mostWorth, Cond.selects RX6 yX6_mostWorth yX6_mostWorth, Cond.code yX6_mostWorth cX6_mostWorth 3 (some .int), Cond.methodLink RX6 88 yX1_spoonsOf, Cond.instanceMethod yX1_spoonsOf, Cond.selects RX1 yX1_spoonsOf yX1_spoonsOf, Cond.code yX1_spoonsOf cX1_spoonsOf 2 (some .int), Cond.fieldLink RX1 27 "JamDays$Days" "spoons" "[I", Cond.methodLink RX6 137 yX6_pickOf, Cond.instanceMethod yX6_pickOf, Cond.selects RX6 yX6_pickOf yX6_pickOf, Cond.code yX6_pickOf cX6_pickOf 5 (some .int), Cond.methodLink RX6 240 yX6_fewestPick, Cond.instanceMethod yX6_fewestPick, Cond.selects RX6 yX6_fewestPick yX6_fewestPick, Cond.code yX6_fewestPick cX6_fewestPick 4 (some .int)]
def wsX6_best : List Cond := .code yX6_best cX6_best 5 (some .int) :: ((wsX6_best_r1 ++ (wsX6_best_r2 ++ (wsX6_best_r3 ++ (wsX6_best_r4 ++ wsX6_best_r5)))) ++ wsX60 ++ wsX10 ++ wsX00 ++ wsX20 ++ wsX30 ++ wsX40 ++ wsX50)
def wsX6_taste : List Cond := .code yX6_taste cX6_taste 3 (some .int) :: ([.fieldLink RX6 29 "JamDays" "now" "LJamDays$Days;", .fieldLink RX6 143 "JamDays$Days" "tasted" "I", .methodLink RX6 110 yX6_isNoYear, .static yX6_isNoYear, .initialized RX6, .code yX6_isNoYear cX6_isNoYear 1 (some .boolean), .methodLink RX6 140 yX1_addTaste, .instanceMethod yX1_addTaste, .selects RX1 yX1_addTaste yX1_addTaste, .initialized RX1, .code yX1_addTaste cX1_addTaste 3 (some .boolean), .fieldLink RX1 24 "JamDays$Days" "tasted" "I", .fieldLink RX1 34 "JamDays$Days" "tastedYear" "[I", .fieldLink RX1 37 "JamDays$Days" "tastedWorth" "[I"] ++ wsX60 ++ wsX10)
def wsX6_forget : List Cond := .code yX6_forget cX6_forget 2 (some .int) :: ([.fieldLink RX6 29 "JamDays" "now" "LJamDays$Days;", .fieldLink RX6 143 "JamDays$Days" "tasted" "I"] ++ wsX60 ++ wsX10)
def wsX6_agreesWithTastes_r1 : List Cond := [Cond.fieldLink RX6 29 "JamDays" "now" "LJamDays$Days;", Cond.fieldLink RX6 143 "JamDays$Days" "tasted" "I", Cond.fieldLink RX6 249 "JamDays$Days" "tastedYear" "[I", Cond.fieldLink RX6 252 "JamDays$Days" "tastedWorth" "[I", Cond.methodLink RX6 114 yX6_firstWorth, Cond.instanceMethod yX6_firstWorth, Cond.selects RX6 yX6_firstWorth yX6_firstWorth, Cond.initialized RX6, Cond.code yX6_firstWorth cX6_firstWorth 4 (some .int), Cond.methodLink RX6 75 yX6_find, Cond.instanceMethod yX6_find, Cond.selects RX6 yX6_find yX6_find, Cond.code yX6_find cX6_find 2 (some (.object "JamDays$Jar")), Cond.fieldLink RX6 23 "JamDays" "jarCount" "I", Cond.fieldLink RX6 19 "JamDays" "jars" "[LJamDays$Jar;", Cond.methodLink RX6 218 ⟨"JamDays$Jar", "firstWorthIn", "(I)I"⟩, Cond.sameMethod "JamDays$Jar" "JamDays$Jar" "firstWorthIn" "(I)I", Cond.selects RX0 ⟨"JamDays$Jar", "firstWorthIn", "(I)I"⟩ yX3_firstWorthIn, Cond.instanceMethod yX3_firstWorthIn, Cond.initialized RX3, Cond.code yX3_firstWorthIn cX3_firstWorthIn 2 (some .int), Cond.fieldLink RX3 18 "JamDays$Jar" "good" "I", Cond.methodLink RX3 34 ⟨"JamDays$Jar", "mouldIn", "(I)I"⟩, Cond.sameMethod "JamDays$Jar" "JamDays$Jar" "mouldIn" "(I)I"]
def wsX6_agreesWithTastes_r2 : List Cond := [Cond.selects RX0 ⟨"JamDays$Jar", "mouldIn", "(I)I"⟩ yX3_mouldIn, Cond.instanceMethod yX3_mouldIn, Cond.code yX3_mouldIn cX3_mouldIn 3 (some .int), Cond.fieldLink RX3 25 "JamDays$Jar" "mouldEachYear" "I", Cond.selects RX2 ⟨"JamDays$Jar", "mouldIn", "(I)I"⟩ yX3_mouldIn, Cond.methodLink RX3 34 yX3_mouldIn, Cond.selects RX3 yX3_mouldIn yX3_mouldIn, Cond.selects RX4 ⟨"JamDays$Jar", "mouldIn", "(I)I"⟩ yX3_mouldIn, Cond.selects RX5 ⟨"JamDays$Jar", "mouldIn", "(I)I"⟩ yX3_mouldIn, Cond.instanceMethod ⟨"JamDays$Jar", "firstWorthIn", "(I)I"⟩, Cond.selects RX2 ⟨"JamDays$Jar", "firstWorthIn", "(I)I"⟩ yX2_firstWorthIn, Cond.instanceMethod yX2_firstWorthIn, Cond.initialized RX2, Cond.code yX2_firstWorthIn cX2_firstWorthIn 2 (some .int), Cond.fieldLink RX2 9 "JamDays$Gold" "good" "I", Cond.sameField "JamDays$Gold" "JamDays$Jar" "good" "I", Cond.methodLink RX2 15 ⟨"JamDays$Gold", "mouldIn", "(I)I"⟩, Cond.sameMethod "JamDays$Gold" "JamDays$Jar" "mouldIn" "(I)I", Cond.selects RX2 ⟨"JamDays$Gold", "mouldIn", "(I)I"⟩ yX3_mouldIn, Cond.methodLink RX6 218 yX3_firstWorthIn, Cond.selects RX3 yX3_firstWorthIn yX3_firstWorthIn, Cond.selects RX4 ⟨"JamDays$Jar", "firstWorthIn", "(I)I"⟩ yX4_firstWorthIn, Cond.instanceMethod yX4_firstWorthIn, Cond.initialized RX4]
def wsX6_agreesWithTastes_r3 : List Cond := [Cond.code yX4_firstWorthIn cX4_firstWorthIn 3 (some .int), Cond.fieldLink RX4 9 "JamDays$Plum" "good" "I", Cond.sameField "JamDays$Plum" "JamDays$Jar" "good" "I", Cond.methodLink RX4 15 ⟨"JamDays$Plum", "mouldIn", "(I)I"⟩, Cond.sameMethod "JamDays$Plum" "JamDays$Jar" "mouldIn" "(I)I", Cond.selects RX4 ⟨"JamDays$Plum", "mouldIn", "(I)I"⟩ yX3_mouldIn, Cond.selects RX5 ⟨"JamDays$Jar", "firstWorthIn", "(I)I"⟩ yX3_firstWorthIn]
def wsX6_agreesWithTastes : List Cond := .code yX6_agreesWithTastes cX6_agreesWithTastes 3 (some .boolean) :: ((wsX6_agreesWithTastes_r1 ++ (wsX6_agreesWithTastes_r2 ++ wsX6_agreesWithTastes_r3)) ++ wsX60 ++ wsX10 ++ wsX00 ++ wsX20 ++ wsX30 ++ wsX40 ++ wsX50)
def wsX6_candidates_r1 : List Cond := [Cond.fieldLink RX6 23 "JamDays" "jarCount" "I", Cond.methodLink RX6 246 yX6_agreesWithTastes, Cond.instanceMethod yX6_agreesWithTastes, Cond.selects RX6 yX6_agreesWithTastes yX6_agreesWithTastes, Cond.initialized RX6, Cond.code yX6_agreesWithTastes cX6_agreesWithTastes 3 (some .boolean), Cond.fieldLink RX6 29 "JamDays" "now" "LJamDays$Days;", Cond.fieldLink RX6 143 "JamDays$Days" "tasted" "I", Cond.fieldLink RX6 249 "JamDays$Days" "tastedYear" "[I", Cond.fieldLink RX6 252 "JamDays$Days" "tastedWorth" "[I", Cond.methodLink RX6 114 yX6_firstWorth, Cond.instanceMethod yX6_firstWorth, Cond.selects RX6 yX6_firstWorth yX6_firstWorth, Cond.code yX6_firstWorth cX6_firstWorth 4 (some .int), Cond.methodLink RX6 75 yX6_find, Cond.instanceMethod yX6_find, Cond.selects RX6 yX6_find yX6_find, Cond.code yX6_find cX6_find 2 (some (.object "JamDays$Jar")), Cond.fieldLink RX6 19 "JamDays" "jars" "[LJamDays$Jar;", Cond.methodLink RX6 218 ⟨"JamDays$Jar", "firstWorthIn", "(I)I"⟩, Cond.sameMethod "JamDays$Jar" "JamDays$Jar" "firstWorthIn" "(I)I", Cond.selects RX0 ⟨"JamDays$Jar", "firstWorthIn", "(I)I"⟩ yX3_firstWorthIn, Cond.instanceMethod yX3_firstWorthIn, Cond.initialized RX3]
def wsX6_candidates_r2 : List Cond := [Cond.code yX3_firstWorthIn cX3_firstWorthIn 2 (some .int), Cond.fieldLink RX3 18 "JamDays$Jar" "good" "I", Cond.methodLink RX3 34 ⟨"JamDays$Jar", "mouldIn", "(I)I"⟩, Cond.sameMethod "JamDays$Jar" "JamDays$Jar" "mouldIn" "(I)I", Cond.selects RX0 ⟨"JamDays$Jar", "mouldIn", "(I)I"⟩ yX3_mouldIn, Cond.instanceMethod yX3_mouldIn, Cond.code yX3_mouldIn cX3_mouldIn 3 (some .int), Cond.fieldLink RX3 25 "JamDays$Jar" "mouldEachYear" "I", Cond.selects RX2 ⟨"JamDays$Jar", "mouldIn", "(I)I"⟩ yX3_mouldIn, Cond.methodLink RX3 34 yX3_mouldIn, Cond.selects RX3 yX3_mouldIn yX3_mouldIn, Cond.selects RX4 ⟨"JamDays$Jar", "mouldIn", "(I)I"⟩ yX3_mouldIn, Cond.selects RX5 ⟨"JamDays$Jar", "mouldIn", "(I)I"⟩ yX3_mouldIn, Cond.instanceMethod ⟨"JamDays$Jar", "firstWorthIn", "(I)I"⟩, Cond.selects RX2 ⟨"JamDays$Jar", "firstWorthIn", "(I)I"⟩ yX2_firstWorthIn, Cond.instanceMethod yX2_firstWorthIn, Cond.initialized RX2, Cond.code yX2_firstWorthIn cX2_firstWorthIn 2 (some .int), Cond.fieldLink RX2 9 "JamDays$Gold" "good" "I", Cond.sameField "JamDays$Gold" "JamDays$Jar" "good" "I", Cond.methodLink RX2 15 ⟨"JamDays$Gold", "mouldIn", "(I)I"⟩, Cond.sameMethod "JamDays$Gold" "JamDays$Jar" "mouldIn" "(I)I", Cond.selects RX2 ⟨"JamDays$Gold", "mouldIn", "(I)I"⟩ yX3_mouldIn, Cond.methodLink RX6 218 yX3_firstWorthIn]
def wsX6_candidates_r3 : List Cond := [Cond.selects RX3 yX3_firstWorthIn yX3_firstWorthIn, Cond.selects RX4 ⟨"JamDays$Jar", "firstWorthIn", "(I)I"⟩ yX4_firstWorthIn, Cond.instanceMethod yX4_firstWorthIn, Cond.initialized RX4, Cond.code yX4_firstWorthIn cX4_firstWorthIn 3 (some .int), Cond.fieldLink RX4 9 "JamDays$Plum" "good" "I", Cond.sameField "JamDays$Plum" "JamDays$Jar" "good" "I", Cond.methodLink RX4 15 ⟨"JamDays$Plum", "mouldIn", "(I)I"⟩, Cond.sameMethod "JamDays$Plum" "JamDays$Jar" "mouldIn" "(I)I", Cond.selects RX4 ⟨"JamDays$Plum", "mouldIn", "(I)I"⟩ yX3_mouldIn, Cond.selects RX5 ⟨"JamDays$Jar", "firstWorthIn", "(I)I"⟩ yX3_firstWorthIn]
def wsX6_candidates : List Cond := .code yX6_candidates cX6_candidates 3 (some .int) :: ((wsX6_candidates_r1 ++ (wsX6_candidates_r2 ++ wsX6_candidates_r3)) ++ wsX60 ++ wsX10 ++ wsX00 ++ wsX20 ++ wsX30 ++ wsX40 ++ wsX50)
def wsX6_which_r1 : List Cond := [Cond.methodLink RX6 124 yX6_hasNoLarder, Cond.instanceMethod yX6_hasNoLarder, Cond.selects RX6 yX6_hasNoLarder yX6_hasNoLarder, Cond.initialized RX6, Cond.code yX6_hasNoLarder cX6_hasNoLarder 1 (some .boolean), Cond.fieldLink RX6 23 "JamDays" "jarCount" "I", Cond.methodLink RX6 146 yX6_candidates, Cond.instanceMethod yX6_candidates, Cond.selects RX6 yX6_candidates yX6_candidates, Cond.code yX6_candidates cX6_candidates 3 (some .int), Cond.methodLink RX6 246 yX6_agreesWithTastes, Cond.instanceMethod yX6_agreesWithTastes, Cond.selects RX6 yX6_agreesWithTastes yX6_agreesWithTastes, Cond.code yX6_agreesWithTastes cX6_agreesWithTastes 3 (some .boolean), Cond.fieldLink RX6 29 "JamDays" "now" "LJamDays$Days;", Cond.fieldLink RX6 143 "JamDays$Days" "tasted" "I", Cond.fieldLink RX6 249 "JamDays$Days" "tastedYear" "[I", Cond.fieldLink RX6 252 "JamDays$Days" "tastedWorth" "[I", Cond.methodLink RX6 114 yX6_firstWorth, Cond.instanceMethod yX6_firstWorth, Cond.selects RX6 yX6_firstWorth yX6_firstWorth, Cond.code yX6_firstWorth cX6_firstWorth 4 (some .int), Cond.methodLink RX6 75 yX6_find, Cond.instanceMethod yX6_find]
def wsX6_which_r2 : List Cond := [Cond.selects RX6 yX6_find yX6_find, Cond.code yX6_find cX6_find 2 (some (.object "JamDays$Jar")), Cond.fieldLink RX6 19 "JamDays" "jars" "[LJamDays$Jar;", Cond.methodLink RX6 218 ⟨"JamDays$Jar", "firstWorthIn", "(I)I"⟩, Cond.sameMethod "JamDays$Jar" "JamDays$Jar" "firstWorthIn" "(I)I", Cond.selects RX0 ⟨"JamDays$Jar", "firstWorthIn", "(I)I"⟩ yX3_firstWorthIn, Cond.instanceMethod yX3_firstWorthIn, Cond.initialized RX3, Cond.code yX3_firstWorthIn cX3_firstWorthIn 2 (some .int), Cond.fieldLink RX3 18 "JamDays$Jar" "good" "I", Cond.methodLink RX3 34 ⟨"JamDays$Jar", "mouldIn", "(I)I"⟩, Cond.sameMethod "JamDays$Jar" "JamDays$Jar" "mouldIn" "(I)I", Cond.selects RX0 ⟨"JamDays$Jar", "mouldIn", "(I)I"⟩ yX3_mouldIn, Cond.instanceMethod yX3_mouldIn, Cond.code yX3_mouldIn cX3_mouldIn 3 (some .int), Cond.fieldLink RX3 25 "JamDays$Jar" "mouldEachYear" "I", Cond.selects RX2 ⟨"JamDays$Jar", "mouldIn", "(I)I"⟩ yX3_mouldIn, Cond.methodLink RX3 34 yX3_mouldIn, Cond.selects RX3 yX3_mouldIn yX3_mouldIn, Cond.selects RX4 ⟨"JamDays$Jar", "mouldIn", "(I)I"⟩ yX3_mouldIn, Cond.selects RX5 ⟨"JamDays$Jar", "mouldIn", "(I)I"⟩ yX3_mouldIn, Cond.instanceMethod ⟨"JamDays$Jar", "firstWorthIn", "(I)I"⟩, Cond.selects RX2 ⟨"JamDays$Jar", "firstWorthIn", "(I)I"⟩ yX2_firstWorthIn, Cond.instanceMethod yX2_firstWorthIn]
def wsX6_which_r3 : List Cond := [Cond.initialized RX2, Cond.code yX2_firstWorthIn cX2_firstWorthIn 2 (some .int), Cond.fieldLink RX2 9 "JamDays$Gold" "good" "I", Cond.sameField "JamDays$Gold" "JamDays$Jar" "good" "I", Cond.methodLink RX2 15 ⟨"JamDays$Gold", "mouldIn", "(I)I"⟩, Cond.sameMethod "JamDays$Gold" "JamDays$Jar" "mouldIn" "(I)I", Cond.selects RX2 ⟨"JamDays$Gold", "mouldIn", "(I)I"⟩ yX3_mouldIn, Cond.methodLink RX6 218 yX3_firstWorthIn, Cond.selects RX3 yX3_firstWorthIn yX3_firstWorthIn, Cond.selects RX4 ⟨"JamDays$Jar", "firstWorthIn", "(I)I"⟩ yX4_firstWorthIn, Cond.instanceMethod yX4_firstWorthIn, Cond.initialized RX4, Cond.code yX4_firstWorthIn cX4_firstWorthIn 3 (some .int), Cond.fieldLink RX4 9 "JamDays$Plum" "good" "I", Cond.sameField "JamDays$Plum" "JamDays$Jar" "good" "I", Cond.methodLink RX4 15 ⟨"JamDays$Plum", "mouldIn", "(I)I"⟩, Cond.sameMethod "JamDays$Plum" "JamDays$Jar" "mouldIn" "(I)I", Cond.selects RX4 ⟨"JamDays$Plum", "mouldIn", "(I)I"⟩ yX3_mouldIn, Cond.selects RX5 ⟨"JamDays$Jar", "firstWorthIn", "(I)I"⟩ yX3_firstWorthIn]
def wsX6_which : List Cond := .code yX6_which cX6_which 1 (some .int) :: ((wsX6_which_r1 ++ (wsX6_which_r2 ++ wsX6_which_r3)) ++ wsX60 ++ wsX10 ++ wsX00 ++ wsX20 ++ wsX30 ++ wsX40 ++ wsX50)
def wsX6_isOpen : List Cond := .code yX6_isOpen cX6_isOpen 2 (some .boolean) :: ([])
def wsX6_openJarsLike_r1 : List Cond := [Cond.fieldLink RX6 23 "JamDays" "jarCount" "I", Cond.methodLink RX6 255 yX6_isOpen, Cond.static yX6_isOpen, Cond.initialized RX6, Cond.code yX6_isOpen cX6_isOpen 2 (some .boolean), Cond.methodLink RX6 114 yX6_firstWorth, Cond.instanceMethod yX6_firstWorth, Cond.selects RX6 yX6_firstWorth yX6_firstWorth, Cond.code yX6_firstWorth cX6_firstWorth 4 (some .int), Cond.methodLink RX6 75 yX6_find, Cond.instanceMethod yX6_find, Cond.selects RX6 yX6_find yX6_find, Cond.code yX6_find cX6_find 2 (some (.object "JamDays$Jar")), Cond.fieldLink RX6 19 "JamDays" "jars" "[LJamDays$Jar;", Cond.methodLink RX6 218 ⟨"JamDays$Jar", "firstWorthIn", "(I)I"⟩, Cond.sameMethod "JamDays$Jar" "JamDays$Jar" "firstWorthIn" "(I)I", Cond.selects RX0 ⟨"JamDays$Jar", "firstWorthIn", "(I)I"⟩ yX3_firstWorthIn, Cond.instanceMethod yX3_firstWorthIn, Cond.initialized RX3, Cond.code yX3_firstWorthIn cX3_firstWorthIn 2 (some .int), Cond.fieldLink RX3 18 "JamDays$Jar" "good" "I", Cond.methodLink RX3 34 ⟨"JamDays$Jar", "mouldIn", "(I)I"⟩, Cond.sameMethod "JamDays$Jar" "JamDays$Jar" "mouldIn" "(I)I", Cond.selects RX0 ⟨"JamDays$Jar", "mouldIn", "(I)I"⟩ yX3_mouldIn]
def wsX6_openJarsLike_r2 : List Cond := [Cond.instanceMethod yX3_mouldIn, Cond.code yX3_mouldIn cX3_mouldIn 3 (some .int), Cond.fieldLink RX3 25 "JamDays$Jar" "mouldEachYear" "I", Cond.selects RX2 ⟨"JamDays$Jar", "mouldIn", "(I)I"⟩ yX3_mouldIn, Cond.methodLink RX3 34 yX3_mouldIn, Cond.selects RX3 yX3_mouldIn yX3_mouldIn, Cond.selects RX4 ⟨"JamDays$Jar", "mouldIn", "(I)I"⟩ yX3_mouldIn, Cond.selects RX5 ⟨"JamDays$Jar", "mouldIn", "(I)I"⟩ yX3_mouldIn, Cond.instanceMethod ⟨"JamDays$Jar", "firstWorthIn", "(I)I"⟩, Cond.selects RX2 ⟨"JamDays$Jar", "firstWorthIn", "(I)I"⟩ yX2_firstWorthIn, Cond.instanceMethod yX2_firstWorthIn, Cond.initialized RX2, Cond.code yX2_firstWorthIn cX2_firstWorthIn 2 (some .int), Cond.fieldLink RX2 9 "JamDays$Gold" "good" "I", Cond.sameField "JamDays$Gold" "JamDays$Jar" "good" "I", Cond.methodLink RX2 15 ⟨"JamDays$Gold", "mouldIn", "(I)I"⟩, Cond.sameMethod "JamDays$Gold" "JamDays$Jar" "mouldIn" "(I)I", Cond.selects RX2 ⟨"JamDays$Gold", "mouldIn", "(I)I"⟩ yX3_mouldIn, Cond.methodLink RX6 218 yX3_firstWorthIn, Cond.selects RX3 yX3_firstWorthIn yX3_firstWorthIn, Cond.selects RX4 ⟨"JamDays$Jar", "firstWorthIn", "(I)I"⟩ yX4_firstWorthIn, Cond.instanceMethod yX4_firstWorthIn, Cond.initialized RX4, Cond.code yX4_firstWorthIn cX4_firstWorthIn 3 (some .int)]
def wsX6_openJarsLike_r3 : List Cond := [Cond.fieldLink RX4 9 "JamDays$Plum" "good" "I", Cond.sameField "JamDays$Plum" "JamDays$Jar" "good" "I", Cond.methodLink RX4 15 ⟨"JamDays$Plum", "mouldIn", "(I)I"⟩, Cond.sameMethod "JamDays$Plum" "JamDays$Jar" "mouldIn" "(I)I", Cond.selects RX4 ⟨"JamDays$Plum", "mouldIn", "(I)I"⟩ yX3_mouldIn, Cond.selects RX5 ⟨"JamDays$Jar", "firstWorthIn", "(I)I"⟩ yX3_firstWorthIn]
def wsX6_openJarsLike : List Cond := .code yX6_openJarsLike cX6_openJarsLike 6 (some .int) :: ((wsX6_openJarsLike_r1 ++ (wsX6_openJarsLike_r2 ++ wsX6_openJarsLike_r3)) ++ wsX60 ++ wsX00 ++ wsX20 ++ wsX30 ++ wsX40 ++ wsX50)
def wsX6_leftAtWorst_r1 : List Cond := [Cond.fieldLink RX6 23 "JamDays" "jarCount" "I", Cond.methodLink RX6 237 Lib.Math.max.name, Cond.static Lib.Math.max.name, Cond.initialized "java/lang/Math", Cond.code Lib.Math.max.name Lib.Math.max.code 2 (some .int), Cond.methodLink RX6 255 yX6_isOpen, Cond.static yX6_isOpen, Cond.initialized RX6, Cond.code yX6_isOpen cX6_isOpen 2 (some .boolean), Cond.methodLink RX6 258 yX6_openJarsLike, Cond.instanceMethod yX6_openJarsLike, Cond.selects RX6 yX6_openJarsLike yX6_openJarsLike, Cond.code yX6_openJarsLike cX6_openJarsLike 6 (some .int), Cond.methodLink RX6 114 yX6_firstWorth, Cond.instanceMethod yX6_firstWorth, Cond.selects RX6 yX6_firstWorth yX6_firstWorth, Cond.code yX6_firstWorth cX6_firstWorth 4 (some .int), Cond.methodLink RX6 75 yX6_find, Cond.instanceMethod yX6_find, Cond.selects RX6 yX6_find yX6_find, Cond.code yX6_find cX6_find 2 (some (.object "JamDays$Jar")), Cond.fieldLink RX6 19 "JamDays" "jars" "[LJamDays$Jar;", Cond.methodLink RX6 218 ⟨"JamDays$Jar", "firstWorthIn", "(I)I"⟩, Cond.sameMethod "JamDays$Jar" "JamDays$Jar" "firstWorthIn" "(I)I"]
def wsX6_leftAtWorst_r2 : List Cond := [Cond.selects RX0 ⟨"JamDays$Jar", "firstWorthIn", "(I)I"⟩ yX3_firstWorthIn, Cond.instanceMethod yX3_firstWorthIn, Cond.initialized RX3, Cond.code yX3_firstWorthIn cX3_firstWorthIn 2 (some .int), Cond.fieldLink RX3 18 "JamDays$Jar" "good" "I", Cond.methodLink RX3 34 ⟨"JamDays$Jar", "mouldIn", "(I)I"⟩, Cond.sameMethod "JamDays$Jar" "JamDays$Jar" "mouldIn" "(I)I", Cond.selects RX0 ⟨"JamDays$Jar", "mouldIn", "(I)I"⟩ yX3_mouldIn, Cond.instanceMethod yX3_mouldIn, Cond.code yX3_mouldIn cX3_mouldIn 3 (some .int), Cond.fieldLink RX3 25 "JamDays$Jar" "mouldEachYear" "I", Cond.selects RX2 ⟨"JamDays$Jar", "mouldIn", "(I)I"⟩ yX3_mouldIn, Cond.methodLink RX3 34 yX3_mouldIn, Cond.selects RX3 yX3_mouldIn yX3_mouldIn, Cond.selects RX4 ⟨"JamDays$Jar", "mouldIn", "(I)I"⟩ yX3_mouldIn, Cond.selects RX5 ⟨"JamDays$Jar", "mouldIn", "(I)I"⟩ yX3_mouldIn, Cond.instanceMethod ⟨"JamDays$Jar", "firstWorthIn", "(I)I"⟩, Cond.selects RX2 ⟨"JamDays$Jar", "firstWorthIn", "(I)I"⟩ yX2_firstWorthIn, Cond.instanceMethod yX2_firstWorthIn, Cond.initialized RX2, Cond.code yX2_firstWorthIn cX2_firstWorthIn 2 (some .int), Cond.fieldLink RX2 9 "JamDays$Gold" "good" "I", Cond.sameField "JamDays$Gold" "JamDays$Jar" "good" "I", Cond.methodLink RX2 15 ⟨"JamDays$Gold", "mouldIn", "(I)I"⟩]
def wsX6_leftAtWorst_r3 : List Cond := [Cond.sameMethod "JamDays$Gold" "JamDays$Jar" "mouldIn" "(I)I", Cond.selects RX2 ⟨"JamDays$Gold", "mouldIn", "(I)I"⟩ yX3_mouldIn, Cond.methodLink RX6 218 yX3_firstWorthIn, Cond.selects RX3 yX3_firstWorthIn yX3_firstWorthIn, Cond.selects RX4 ⟨"JamDays$Jar", "firstWorthIn", "(I)I"⟩ yX4_firstWorthIn, Cond.instanceMethod yX4_firstWorthIn, Cond.initialized RX4, Cond.code yX4_firstWorthIn cX4_firstWorthIn 3 (some .int), Cond.fieldLink RX4 9 "JamDays$Plum" "good" "I", Cond.sameField "JamDays$Plum" "JamDays$Jar" "good" "I", Cond.methodLink RX4 15 ⟨"JamDays$Plum", "mouldIn", "(I)I"⟩, Cond.sameMethod "JamDays$Plum" "JamDays$Jar" "mouldIn" "(I)I", Cond.selects RX4 ⟨"JamDays$Plum", "mouldIn", "(I)I"⟩ yX3_mouldIn, Cond.selects RX5 ⟨"JamDays$Jar", "firstWorthIn", "(I)I"⟩ yX3_firstWorthIn]
def wsX6_leftAtWorst : List Cond := .code yX6_leftAtWorst cX6_leftAtWorst 5 (some .int) :: ((wsX6_leftAtWorst_r1 ++ (wsX6_leftAtWorst_r2 ++ wsX6_leftAtWorst_r3)) ++ wsX60 ++ wsX00 ++ wsX20 ++ wsX30 ++ wsX40 ++ wsX50)
def wsX6_tasteNext_r1 : List Cond := [Cond.fieldLink RX6 29 "JamDays" "now" "LJamDays$Days;", Cond.fieldLink RX6 91 "JamDays$Days" "year" "I", Cond.methodLink RX6 124 yX6_hasNoLarder, Cond.instanceMethod yX6_hasNoLarder, Cond.selects RX6 yX6_hasNoLarder yX6_hasNoLarder, Cond.initialized RX6, Cond.code yX6_hasNoLarder cX6_hasNoLarder 1 (some .boolean), Cond.fieldLink RX6 23 "JamDays" "jarCount" "I", Cond.methodLink RX6 146 yX6_candidates, Cond.instanceMethod yX6_candidates, Cond.selects RX6 yX6_candidates yX6_candidates, Cond.code yX6_candidates cX6_candidates 3 (some .int), Cond.methodLink RX6 246 yX6_agreesWithTastes, Cond.instanceMethod yX6_agreesWithTastes, Cond.selects RX6 yX6_agreesWithTastes yX6_agreesWithTastes, Cond.code yX6_agreesWithTastes cX6_agreesWithTastes 3 (some .boolean), Cond.fieldLink RX6 143 "JamDays$Days" "tasted" "I", Cond.fieldLink RX6 249 "JamDays$Days" "tastedYear" "[I", Cond.fieldLink RX6 252 "JamDays$Days" "tastedWorth" "[I", Cond.methodLink RX6 114 yX6_firstWorth, Cond.instanceMethod yX6_firstWorth, Cond.selects RX6 yX6_firstWorth yX6_firstWorth, Cond.code yX6_firstWorth cX6_firstWorth 4 (some .int), Cond.methodLink RX6 75 yX6_find]
def wsX6_tasteNext_r2 : List Cond := [Cond.instanceMethod yX6_find, Cond.selects RX6 yX6_find yX6_find, Cond.code yX6_find cX6_find 2 (some (.object "JamDays$Jar")), Cond.fieldLink RX6 19 "JamDays" "jars" "[LJamDays$Jar;", Cond.methodLink RX6 218 ⟨"JamDays$Jar", "firstWorthIn", "(I)I"⟩, Cond.sameMethod "JamDays$Jar" "JamDays$Jar" "firstWorthIn" "(I)I", Cond.selects RX0 ⟨"JamDays$Jar", "firstWorthIn", "(I)I"⟩ yX3_firstWorthIn, Cond.instanceMethod yX3_firstWorthIn, Cond.initialized RX3, Cond.code yX3_firstWorthIn cX3_firstWorthIn 2 (some .int), Cond.fieldLink RX3 18 "JamDays$Jar" "good" "I", Cond.methodLink RX3 34 ⟨"JamDays$Jar", "mouldIn", "(I)I"⟩, Cond.sameMethod "JamDays$Jar" "JamDays$Jar" "mouldIn" "(I)I", Cond.selects RX0 ⟨"JamDays$Jar", "mouldIn", "(I)I"⟩ yX3_mouldIn, Cond.instanceMethod yX3_mouldIn, Cond.code yX3_mouldIn cX3_mouldIn 3 (some .int), Cond.fieldLink RX3 25 "JamDays$Jar" "mouldEachYear" "I", Cond.selects RX2 ⟨"JamDays$Jar", "mouldIn", "(I)I"⟩ yX3_mouldIn, Cond.methodLink RX3 34 yX3_mouldIn, Cond.selects RX3 yX3_mouldIn yX3_mouldIn, Cond.selects RX4 ⟨"JamDays$Jar", "mouldIn", "(I)I"⟩ yX3_mouldIn, Cond.selects RX5 ⟨"JamDays$Jar", "mouldIn", "(I)I"⟩ yX3_mouldIn, Cond.instanceMethod ⟨"JamDays$Jar", "firstWorthIn", "(I)I"⟩, Cond.selects RX2 ⟨"JamDays$Jar", "firstWorthIn", "(I)I"⟩ yX2_firstWorthIn]
def wsX6_tasteNext_r3 : List Cond := [Cond.instanceMethod yX2_firstWorthIn, Cond.initialized RX2, Cond.code yX2_firstWorthIn cX2_firstWorthIn 2 (some .int), Cond.fieldLink RX2 9 "JamDays$Gold" "good" "I", Cond.sameField "JamDays$Gold" "JamDays$Jar" "good" "I", Cond.methodLink RX2 15 ⟨"JamDays$Gold", "mouldIn", "(I)I"⟩, Cond.sameMethod "JamDays$Gold" "JamDays$Jar" "mouldIn" "(I)I", Cond.selects RX2 ⟨"JamDays$Gold", "mouldIn", "(I)I"⟩ yX3_mouldIn, Cond.methodLink RX6 218 yX3_firstWorthIn, Cond.selects RX3 yX3_firstWorthIn yX3_firstWorthIn, Cond.selects RX4 ⟨"JamDays$Jar", "firstWorthIn", "(I)I"⟩ yX4_firstWorthIn, Cond.instanceMethod yX4_firstWorthIn, Cond.initialized RX4, Cond.code yX4_firstWorthIn cX4_firstWorthIn 3 (some .int), Cond.fieldLink RX4 9 "JamDays$Plum" "good" "I", Cond.sameField "JamDays$Plum" "JamDays$Jar" "good" "I", Cond.methodLink RX4 15 ⟨"JamDays$Plum", "mouldIn", "(I)I"⟩, Cond.sameMethod "JamDays$Plum" "JamDays$Jar" "mouldIn" "(I)I", Cond.selects RX4 ⟨"JamDays$Plum", "mouldIn", "(I)I"⟩ yX3_mouldIn, Cond.selects RX5 ⟨"JamDays$Jar", "firstWorthIn", "(I)I"⟩ yX3_firstWorthIn, Cond.methodLink RX6 149 yX6_leftAtWorst, Cond.instanceMethod yX6_leftAtWorst, Cond.selects RX6 yX6_leftAtWorst yX6_leftAtWorst, Cond.code yX6_leftAtWorst cX6_leftAtWorst 5 (some .int)]
def wsX6_tasteNext_r4 : List Cond := [Cond.methodLink RX6 237 Lib.Math.max.name, Cond.static Lib.Math.max.name, Cond.initialized "java/lang/Math", Cond.code Lib.Math.max.name Lib.Math.max.code 2 (some .int), Cond.methodLink RX6 255 yX6_isOpen, Cond.static yX6_isOpen, Cond.code yX6_isOpen cX6_isOpen 2 (some .boolean), Cond.methodLink RX6 258 yX6_openJarsLike, Cond.instanceMethod yX6_openJarsLike, Cond.selects RX6 yX6_openJarsLike yX6_openJarsLike, Cond.code yX6_openJarsLike cX6_openJarsLike 6 (some .int)]
def wsX6_tasteNext : List Cond := .code yX6_tasteNext cX6_tasteNext 6 (some .int) :: ((wsX6_tasteNext_r1 ++ (wsX6_tasteNext_r2 ++ (wsX6_tasteNext_r3 ++ wsX6_tasteNext_r4))) ++ wsX60 ++ wsX10 ++ wsX00 ++ wsX20 ++ wsX30 ++ wsX40 ++ wsX50)
def wsX6_nextSeed : List Cond := .code yX6_nextSeed cX6_nextSeed 1 (some .int) :: ([.constantLong RX6 267 (1103515245), .constantLong RX6 269 (12345), .constantLong RX6 271 (2147483648)])
def wsX6_draw : List Cond := .code yX6_draw cX6_draw 2 (some .int) :: ([.fieldLink RX6 23 "JamDays" "jarCount" "I", .constantLong RX6 273 (65536)] ++ wsX60)
def wsX6_liveOn_r1 : List Cond := [Cond.fieldLink RX6 36 "JamDays" "would" "LJamDays$Days;", Cond.fieldLink RX6 29 "JamDays" "now" "LJamDays$Days;", Cond.fieldLink RX6 91 "JamDays$Days" "year" "I", Cond.methodLink RX6 161 yX1_copyFrom, Cond.instanceMethod yX1_copyFrom, Cond.selects RX1 yX1_copyFrom yX1_copyFrom, Cond.initialized RX1, Cond.code yX1_copyFrom cX1_copyFrom 3 none, Cond.fieldLink RX1 9 "JamDays$Days" "year" "I", Cond.fieldLink RX1 15 "JamDays$Days" "eaten" "I", Cond.fieldLink RX1 18 "JamDays$Days" "lost" "I", Cond.fieldLink RX1 21 "JamDays$Days" "joy" "I", Cond.fieldLink RX1 24 "JamDays$Days" "tasted" "I", Cond.fieldLink RX1 27 "JamDays$Days" "spoons" "[I", Cond.fieldLink RX1 31 "JamDays$Days" "eatenNow" "[I", Cond.fieldLink RX1 34 "JamDays$Days" "tastedYear" "[I", Cond.fieldLink RX1 37 "JamDays$Days" "tastedWorth" "[I", Cond.methodLink RX6 261 yX6_nextSeed, Cond.static yX6_nextSeed, Cond.initialized RX6, Cond.code yX6_nextSeed cX6_nextSeed 1 (some .int), Cond.constantLong RX6 267 (1103515245), Cond.constantLong RX6 269 (12345), Cond.constantLong RX6 271 (2147483648)]
def wsX6_liveOn_r2 : List Cond := [Cond.methodLink RX6 264 yX6_draw, Cond.instanceMethod yX6_draw, Cond.selects RX6 yX6_draw yX6_draw, Cond.code yX6_draw cX6_draw 2 (some .int), Cond.fieldLink RX6 23 "JamDays" "jarCount" "I", Cond.constantLong RX6 273 (65536), Cond.methodLink RX6 121 yX1_loseSpoon, Cond.instanceMethod yX1_loseSpoon, Cond.selects RX1 yX1_loseSpoon yX1_loseSpoon, Cond.code yX1_loseSpoon cX1_loseSpoon 2 (some .boolean), Cond.methodLink RX1 40 yX1_spoonsOf, Cond.instanceMethod yX1_spoonsOf, Cond.selects RX1 yX1_spoonsOf yX1_spoonsOf, Cond.code yX1_spoonsOf cX1_spoonsOf 2 (some .int), Cond.methodLink RX6 114 yX6_firstWorth, Cond.instanceMethod yX6_firstWorth, Cond.selects RX6 yX6_firstWorth yX6_firstWorth, Cond.code yX6_firstWorth cX6_firstWorth 4 (some .int), Cond.methodLink RX6 75 yX6_find, Cond.instanceMethod yX6_find, Cond.selects RX6 yX6_find yX6_find, Cond.code yX6_find cX6_find 2 (some (.object "JamDays$Jar")), Cond.fieldLink RX6 19 "JamDays" "jars" "[LJamDays$Jar;", Cond.methodLink RX6 218 ⟨"JamDays$Jar", "firstWorthIn", "(I)I"⟩]
def wsX6_liveOn_r3 : List Cond := [Cond.sameMethod "JamDays$Jar" "JamDays$Jar" "firstWorthIn" "(I)I", Cond.selects RX0 ⟨"JamDays$Jar", "firstWorthIn", "(I)I"⟩ yX3_firstWorthIn, Cond.instanceMethod yX3_firstWorthIn, Cond.initialized RX3, Cond.code yX3_firstWorthIn cX3_firstWorthIn 2 (some .int), Cond.fieldLink RX3 18 "JamDays$Jar" "good" "I", Cond.methodLink RX3 34 ⟨"JamDays$Jar", "mouldIn", "(I)I"⟩, Cond.sameMethod "JamDays$Jar" "JamDays$Jar" "mouldIn" "(I)I", Cond.selects RX0 ⟨"JamDays$Jar", "mouldIn", "(I)I"⟩ yX3_mouldIn, Cond.instanceMethod yX3_mouldIn, Cond.code yX3_mouldIn cX3_mouldIn 3 (some .int), Cond.fieldLink RX3 25 "JamDays$Jar" "mouldEachYear" "I", Cond.selects RX2 ⟨"JamDays$Jar", "mouldIn", "(I)I"⟩ yX3_mouldIn, Cond.methodLink RX3 34 yX3_mouldIn, Cond.selects RX3 yX3_mouldIn yX3_mouldIn, Cond.selects RX4 ⟨"JamDays$Jar", "mouldIn", "(I)I"⟩ yX3_mouldIn, Cond.selects RX5 ⟨"JamDays$Jar", "mouldIn", "(I)I"⟩ yX3_mouldIn, Cond.instanceMethod ⟨"JamDays$Jar", "firstWorthIn", "(I)I"⟩, Cond.selects RX2 ⟨"JamDays$Jar", "firstWorthIn", "(I)I"⟩ yX2_firstWorthIn, Cond.instanceMethod yX2_firstWorthIn, Cond.initialized RX2, Cond.code yX2_firstWorthIn cX2_firstWorthIn 2 (some .int), Cond.fieldLink RX2 9 "JamDays$Gold" "good" "I", Cond.sameField "JamDays$Gold" "JamDays$Jar" "good" "I"]
def wsX6_liveOn_r4 : List Cond := [Cond.methodLink RX2 15 ⟨"JamDays$Gold", "mouldIn", "(I)I"⟩, Cond.sameMethod "JamDays$Gold" "JamDays$Jar" "mouldIn" "(I)I", Cond.selects RX2 ⟨"JamDays$Gold", "mouldIn", "(I)I"⟩ yX3_mouldIn, Cond.methodLink RX6 218 yX3_firstWorthIn, Cond.selects RX3 yX3_firstWorthIn yX3_firstWorthIn, Cond.selects RX4 ⟨"JamDays$Jar", "firstWorthIn", "(I)I"⟩ yX4_firstWorthIn, Cond.instanceMethod yX4_firstWorthIn, Cond.initialized RX4, Cond.code yX4_firstWorthIn cX4_firstWorthIn 3 (some .int), Cond.fieldLink RX4 9 "JamDays$Plum" "good" "I", Cond.sameField "JamDays$Plum" "JamDays$Jar" "good" "I", Cond.methodLink RX4 15 ⟨"JamDays$Plum", "mouldIn", "(I)I"⟩, Cond.sameMethod "JamDays$Plum" "JamDays$Jar" "mouldIn" "(I)I", Cond.selects RX4 ⟨"JamDays$Plum", "mouldIn", "(I)I"⟩ yX3_mouldIn, Cond.selects RX5 ⟨"JamDays$Jar", "firstWorthIn", "(I)I"⟩ yX3_firstWorthIn, Cond.methodLink RX6 100 yX1_eatenNowOf, Cond.instanceMethod yX1_eatenNowOf, Cond.selects RX1 yX1_eatenNowOf yX1_eatenNowOf, Cond.code yX1_eatenNowOf cX1_eatenNowOf 2 (some .int), Cond.methodLink RX6 118 yX1_eatSpoon, Cond.instanceMethod yX1_eatSpoon, Cond.selects RX1 yX1_eatSpoon yX1_eatSpoon, Cond.code yX1_eatSpoon cX1_eatSpoon 3 (some .boolean), Cond.methodLink RX6 127 yX1_passYear]
def wsX6_liveOn_r5 : List Cond := [Cond.instanceMethod yX1_passYear, Cond.selects RX1 yX1_passYear yX1_passYear, Cond.code yX1_passYear cX1_passYear 2 none]
def wsX6_liveOn : List Cond := .code yX6_liveOn cX6_liveOn 6 (some .int) :: ((wsX6_liveOn_r1 ++ (wsX6_liveOn_r2 ++ (wsX6_liveOn_r3 ++ (wsX6_liveOn_r4 ++ wsX6_liveOn_r5)))) ++ wsX60 ++ wsX10 ++ wsX00 ++ wsX20 ++ wsX30 ++ wsX40 ++ wsX50)
def wsX6_times_r1 : List Cond := [Cond.fieldLink RX6 36 "JamDays" "would" "LJamDays$Days;", Cond.fieldLink RX6 158 "JamDays$Days" "joy" "I", Cond.methodLink RX6 124 yX6_hasNoLarder, Cond.instanceMethod yX6_hasNoLarder, Cond.selects RX6 yX6_hasNoLarder yX6_hasNoLarder, Cond.initialized RX6, Cond.code yX6_hasNoLarder cX6_hasNoLarder 1 (some .boolean), Cond.fieldLink RX6 23 "JamDays" "jarCount" "I", Cond.methodLink RX6 152 yX6_liveOn, Cond.instanceMethod yX6_liveOn, Cond.selects RX6 yX6_liveOn yX6_liveOn, Cond.code yX6_liveOn cX6_liveOn 6 (some .int), Cond.fieldLink RX6 29 "JamDays" "now" "LJamDays$Days;", Cond.fieldLink RX6 91 "JamDays$Days" "year" "I", Cond.methodLink RX6 161 yX1_copyFrom, Cond.instanceMethod yX1_copyFrom, Cond.selects RX1 yX1_copyFrom yX1_copyFrom, Cond.initialized RX1, Cond.code yX1_copyFrom cX1_copyFrom 3 none, Cond.fieldLink RX1 9 "JamDays$Days" "year" "I", Cond.fieldLink RX1 15 "JamDays$Days" "eaten" "I", Cond.fieldLink RX1 18 "JamDays$Days" "lost" "I", Cond.fieldLink RX1 21 "JamDays$Days" "joy" "I", Cond.fieldLink RX1 24 "JamDays$Days" "tasted" "I"]
def wsX6_times_r2 : List Cond := [Cond.fieldLink RX1 27 "JamDays$Days" "spoons" "[I", Cond.fieldLink RX1 31 "JamDays$Days" "eatenNow" "[I", Cond.fieldLink RX1 34 "JamDays$Days" "tastedYear" "[I", Cond.fieldLink RX1 37 "JamDays$Days" "tastedWorth" "[I", Cond.methodLink RX6 261 yX6_nextSeed, Cond.static yX6_nextSeed, Cond.code yX6_nextSeed cX6_nextSeed 1 (some .int), Cond.constantLong RX6 267 (1103515245), Cond.constantLong RX6 269 (12345), Cond.constantLong RX6 271 (2147483648), Cond.methodLink RX6 264 yX6_draw, Cond.instanceMethod yX6_draw, Cond.selects RX6 yX6_draw yX6_draw, Cond.code yX6_draw cX6_draw 2 (some .int), Cond.constantLong RX6 273 (65536), Cond.methodLink RX6 121 yX1_loseSpoon, Cond.instanceMethod yX1_loseSpoon, Cond.selects RX1 yX1_loseSpoon yX1_loseSpoon, Cond.code yX1_loseSpoon cX1_loseSpoon 2 (some .boolean), Cond.methodLink RX1 40 yX1_spoonsOf, Cond.instanceMethod yX1_spoonsOf, Cond.selects RX1 yX1_spoonsOf yX1_spoonsOf, Cond.code yX1_spoonsOf cX1_spoonsOf 2 (some .int), Cond.methodLink RX6 114 yX6_firstWorth]
def wsX6_times_r3 : List Cond := [Cond.instanceMethod yX6_firstWorth, Cond.selects RX6 yX6_firstWorth yX6_firstWorth, Cond.code yX6_firstWorth cX6_firstWorth 4 (some .int), Cond.methodLink RX6 75 yX6_find, Cond.instanceMethod yX6_find, Cond.selects RX6 yX6_find yX6_find, Cond.code yX6_find cX6_find 2 (some (.object "JamDays$Jar")), Cond.fieldLink RX6 19 "JamDays" "jars" "[LJamDays$Jar;", Cond.methodLink RX6 218 ⟨"JamDays$Jar", "firstWorthIn", "(I)I"⟩, Cond.sameMethod "JamDays$Jar" "JamDays$Jar" "firstWorthIn" "(I)I", Cond.selects RX0 ⟨"JamDays$Jar", "firstWorthIn", "(I)I"⟩ yX3_firstWorthIn, Cond.instanceMethod yX3_firstWorthIn, Cond.initialized RX3, Cond.code yX3_firstWorthIn cX3_firstWorthIn 2 (some .int), Cond.fieldLink RX3 18 "JamDays$Jar" "good" "I", Cond.methodLink RX3 34 ⟨"JamDays$Jar", "mouldIn", "(I)I"⟩, Cond.sameMethod "JamDays$Jar" "JamDays$Jar" "mouldIn" "(I)I", Cond.selects RX0 ⟨"JamDays$Jar", "mouldIn", "(I)I"⟩ yX3_mouldIn, Cond.instanceMethod yX3_mouldIn, Cond.code yX3_mouldIn cX3_mouldIn 3 (some .int), Cond.fieldLink RX3 25 "JamDays$Jar" "mouldEachYear" "I", Cond.selects RX2 ⟨"JamDays$Jar", "mouldIn", "(I)I"⟩ yX3_mouldIn, Cond.methodLink RX3 34 yX3_mouldIn, Cond.selects RX3 yX3_mouldIn yX3_mouldIn]
def wsX6_times_r4 : List Cond := [Cond.selects RX4 ⟨"JamDays$Jar", "mouldIn", "(I)I"⟩ yX3_mouldIn, Cond.selects RX5 ⟨"JamDays$Jar", "mouldIn", "(I)I"⟩ yX3_mouldIn, Cond.instanceMethod ⟨"JamDays$Jar", "firstWorthIn", "(I)I"⟩, Cond.selects RX2 ⟨"JamDays$Jar", "firstWorthIn", "(I)I"⟩ yX2_firstWorthIn, Cond.instanceMethod yX2_firstWorthIn, Cond.initialized RX2, Cond.code yX2_firstWorthIn cX2_firstWorthIn 2 (some .int), Cond.fieldLink RX2 9 "JamDays$Gold" "good" "I", Cond.sameField "JamDays$Gold" "JamDays$Jar" "good" "I", Cond.methodLink RX2 15 ⟨"JamDays$Gold", "mouldIn", "(I)I"⟩, Cond.sameMethod "JamDays$Gold" "JamDays$Jar" "mouldIn" "(I)I", Cond.selects RX2 ⟨"JamDays$Gold", "mouldIn", "(I)I"⟩ yX3_mouldIn, Cond.methodLink RX6 218 yX3_firstWorthIn, Cond.selects RX3 yX3_firstWorthIn yX3_firstWorthIn, Cond.selects RX4 ⟨"JamDays$Jar", "firstWorthIn", "(I)I"⟩ yX4_firstWorthIn, Cond.instanceMethod yX4_firstWorthIn, Cond.initialized RX4, Cond.code yX4_firstWorthIn cX4_firstWorthIn 3 (some .int), Cond.fieldLink RX4 9 "JamDays$Plum" "good" "I", Cond.sameField "JamDays$Plum" "JamDays$Jar" "good" "I", Cond.methodLink RX4 15 ⟨"JamDays$Plum", "mouldIn", "(I)I"⟩, Cond.sameMethod "JamDays$Plum" "JamDays$Jar" "mouldIn" "(I)I", Cond.selects RX4 ⟨"JamDays$Plum", "mouldIn", "(I)I"⟩ yX3_mouldIn, Cond.selects RX5 ⟨"JamDays$Jar", "firstWorthIn", "(I)I"⟩ yX3_firstWorthIn]
def wsX6_times_r5 : List Cond := [Cond.methodLink RX6 100 yX1_eatenNowOf, Cond.instanceMethod yX1_eatenNowOf, Cond.selects RX1 yX1_eatenNowOf yX1_eatenNowOf, Cond.code yX1_eatenNowOf cX1_eatenNowOf 2 (some .int), Cond.methodLink RX6 118 yX1_eatSpoon, Cond.instanceMethod yX1_eatSpoon, Cond.selects RX1 yX1_eatSpoon yX1_eatSpoon, Cond.code yX1_eatSpoon cX1_eatSpoon 3 (some .boolean), Cond.methodLink RX6 127 yX1_passYear, Cond.instanceMethod yX1_passYear, Cond.selects RX1 yX1_passYear yX1_passYear, Cond.code yX1_passYear cX1_passYear 2 none, Cond.methodLink RX6 155 yX1_spoonsOfAll, Cond.instanceMethod yX1_spoonsOfAll, Cond.selects RX1 yX1_spoonsOfAll yX1_spoonsOfAll, Cond.code yX1_spoonsOfAll cX1_spoonsOfAll 3 (some .int)]
def wsX6_times : List Cond := .code yX6_times cX6_times 5 (some .int) :: ((wsX6_times_r1 ++ (wsX6_times_r2 ++ (wsX6_times_r3 ++ (wsX6_times_r4 ++ wsX6_times_r5)))) ++ wsX60 ++ wsX10 ++ wsX00 ++ wsX20 ++ wsX30 ++ wsX40 ++ wsX50)
def wsX6_image : List Cond := .code yX6_image cX6_image 1 (some .int) :: ([.fieldLink RX6 33 "JamDays" "kept" "LJamDays$Days;", .fieldLink RX6 29 "JamDays" "now" "LJamDays$Days;", .fieldLink RX6 39 "JamDays" "hasImage" "Z", .fieldLink RX6 91 "JamDays$Days" "year" "I", .methodLink RX6 124 yX6_hasNoLarder, .instanceMethod yX6_hasNoLarder, .selects RX6 yX6_hasNoLarder yX6_hasNoLarder, .initialized RX6, .code yX6_hasNoLarder cX6_hasNoLarder 1 (some .boolean), .fieldLink RX6 23 "JamDays" "jarCount" "I", .methodLink RX6 161 yX1_copyFrom, .instanceMethod yX1_copyFrom, .selects RX1 yX1_copyFrom yX1_copyFrom, .initialized RX1, .code yX1_copyFrom cX1_copyFrom 3 none, .fieldLink RX1 9 "JamDays$Days" "year" "I", .fieldLink RX1 15 "JamDays$Days" "eaten" "I", .fieldLink RX1 18 "JamDays$Days" "lost" "I", .fieldLink RX1 21 "JamDays$Days" "joy" "I", .fieldLink RX1 24 "JamDays$Days" "tasted" "I", .fieldLink RX1 27 "JamDays$Days" "spoons" "[I", .fieldLink RX1 31 "JamDays$Days" "eatenNow" "[I", .fieldLink RX1 34 "JamDays$Days" "tastedYear" "[I", .fieldLink RX1 37 "JamDays$Days" "tastedWorth" "[I"] ++ wsX60 ++ wsX10)
def wsX6_restore : List Cond := .code yX6_restore cX6_restore 1 (some .int) :: ([.fieldLink RX6 39 "JamDays" "hasImage" "Z", .fieldLink RX6 29 "JamDays" "now" "LJamDays$Days;", .fieldLink RX6 33 "JamDays" "kept" "LJamDays$Days;", .fieldLink RX6 91 "JamDays$Days" "year" "I", .methodLink RX6 161 yX1_copyFrom, .instanceMethod yX1_copyFrom, .selects RX1 yX1_copyFrom yX1_copyFrom, .initialized RX1, .code yX1_copyFrom cX1_copyFrom 3 none, .fieldLink RX1 9 "JamDays$Days" "year" "I", .fieldLink RX1 15 "JamDays$Days" "eaten" "I", .fieldLink RX1 18 "JamDays$Days" "lost" "I", .fieldLink RX1 21 "JamDays$Days" "joy" "I", .fieldLink RX1 24 "JamDays$Days" "tasted" "I", .fieldLink RX1 27 "JamDays$Days" "spoons" "[I", .fieldLink RX1 31 "JamDays$Days" "eatenNow" "[I", .fieldLink RX1 34 "JamDays$Days" "tastedYear" "[I", .fieldLink RX1 37 "JamDays$Days" "tastedWorth" "[I"] ++ wsX60 ++ wsX10)
def wsX6_emptyJars : List Cond := .code yX6_emptyJars cX6_emptyJars 3 (some .int) :: ([.fieldLink RX6 23 "JamDays" "jarCount" "I", .fieldLink RX6 29 "JamDays" "now" "LJamDays$Days;", .methodLink RX6 88 yX1_spoonsOf, .instanceMethod yX1_spoonsOf, .selects RX1 yX1_spoonsOf yX1_spoonsOf, .initialized RX1, .code yX1_spoonsOf cX1_spoonsOf 2 (some .int), .fieldLink RX1 27 "JamDays$Days" "spoons" "[I"] ++ wsX60 ++ wsX10)
def wsX6_count_r1 : List Cond := [Cond.fieldLink RX6 23 "JamDays" "jarCount" "I", Cond.fieldLink RX6 29 "JamDays" "now" "LJamDays$Days;", Cond.fieldLink RX6 91 "JamDays$Days" "year" "I", Cond.fieldLink RX6 158 "JamDays$Days" "joy" "I", Cond.fieldLink RX6 168 "JamDays$Days" "eaten" "I", Cond.fieldLink RX6 171 "JamDays$Days" "lost" "I", Cond.fieldLink RX6 143 "JamDays$Days" "tasted" "I", Cond.fieldLink RX6 13 "JamDays" "pageSize" "I", Cond.fieldLink RX6 43 "JamDays" "lardersRead" "I", Cond.fieldLink RX6 46 "JamDays" "bestsDone" "I", Cond.methodLink RX6 155 yX1_spoonsOfAll, Cond.instanceMethod yX1_spoonsOfAll, Cond.selects RX1 yX1_spoonsOfAll yX1_spoonsOfAll, Cond.initialized RX1, Cond.code yX1_spoonsOfAll cX1_spoonsOfAll 3 (some .int), Cond.fieldLink RX1 27 "JamDays$Days" "spoons" "[I", Cond.methodLink RX6 165 yX6_emptyJars, Cond.instanceMethod yX6_emptyJars, Cond.selects RX6 yX6_emptyJars yX6_emptyJars, Cond.initialized RX6, Cond.code yX6_emptyJars cX6_emptyJars 3 (some .int), Cond.methodLink RX6 88 yX1_spoonsOf, Cond.instanceMethod yX1_spoonsOf, Cond.selects RX1 yX1_spoonsOf yX1_spoonsOf]
def wsX6_count_r2 : List Cond := [Cond.code yX1_spoonsOf cX1_spoonsOf 2 (some .int)]
def wsX6_count : List Cond := .code yX6_count cX6_count 2 (some .int) :: ((wsX6_count_r1 ++ wsX6_count_r2) ++ wsX60 ++ wsX10)
def wsX6_mix : List Cond := .code yX6_mix cX6_mix 3 (some .long) :: ([.constantLong RX6 195 (31)])
def wsX6_digest_r1 : List Cond := [Cond.constantLong RX6 174 (1031), Cond.fieldLink RX6 23 "JamDays" "jarCount" "I", Cond.fieldLink RX6 13 "JamDays" "pageSize" "I", Cond.methodLink RX6 176 yX6_jar, Cond.instanceMethod yX6_jar, Cond.selects RX6 yX6_jar yX6_jar, Cond.initialized RX6, Cond.code yX6_jar cX6_jar 4 (some .int), Cond.fieldLink RX6 82 "JamDays$Jar" "good" "I", Cond.fieldLink RX6 85 "JamDays$Jar" "sugar" "I", Cond.fieldLink RX6 29 "JamDays" "now" "LJamDays$Days;", Cond.fieldLink RX6 91 "JamDays$Days" "year" "I", Cond.methodLink RX6 75 yX6_find, Cond.instanceMethod yX6_find, Cond.selects RX6 yX6_find yX6_find, Cond.code yX6_find cX6_find 2 (some (.object "JamDays$Jar")), Cond.fieldLink RX6 19 "JamDays" "jars" "[LJamDays$Jar;", Cond.methodLink RX6 78 ⟨"JamDays$Jar", "kindNumber", "()I"⟩, Cond.sameMethod "JamDays$Jar" "JamDays$Jar" "kindNumber" "()I", Cond.instanceMethod ⟨"JamDays$Jar", "kindNumber", "()I"⟩, Cond.selects RX0 ⟨"JamDays$Jar", "kindNumber", "()I"⟩ yX0_kindNumber, Cond.instanceMethod yX0_kindNumber, Cond.initialized RX0, Cond.code yX0_kindNumber cX0_kindNumber 1 (some .int)]
def wsX6_digest_r2 : List Cond := [Cond.code yX3_kindNumber cX3_kindNumber 1 (some .int), Cond.selects RX2 ⟨"JamDays$Jar", "kindNumber", "()I"⟩ yX2_kindNumber, Cond.instanceMethod yX2_kindNumber, Cond.initialized RX2, Cond.code yX2_kindNumber cX2_kindNumber 1 (some .int), Cond.methodLink RX6 78 yX3_kindNumber, Cond.instanceMethod yX3_kindNumber, Cond.selects RX3 yX3_kindNumber yX3_kindNumber, Cond.initialized RX3, Cond.selects RX4 ⟨"JamDays$Jar", "kindNumber", "()I"⟩ yX4_kindNumber, Cond.instanceMethod yX4_kindNumber, Cond.initialized RX4, Cond.code yX4_kindNumber cX4_kindNumber 1 (some .int), Cond.selects RX5 ⟨"JamDays$Jar", "kindNumber", "()I"⟩ yX5_kindNumber, Cond.instanceMethod yX5_kindNumber, Cond.initialized RX5, Cond.code yX5_kindNumber cX5_kindNumber 1 (some .int), Cond.methodLink RX6 88 yX1_spoonsOf, Cond.instanceMethod yX1_spoonsOf, Cond.selects RX1 yX1_spoonsOf yX1_spoonsOf, Cond.initialized RX1, Cond.code yX1_spoonsOf cX1_spoonsOf 2 (some .int), Cond.fieldLink RX1 27 "JamDays$Days" "spoons" "[I", Cond.methodLink RX6 94 ⟨"JamDays$Jar", "mouldIn", "(I)I"⟩]
def wsX6_digest_r3 : List Cond := [Cond.sameMethod "JamDays$Jar" "JamDays$Jar" "mouldIn" "(I)I", Cond.selects RX0 ⟨"JamDays$Jar", "mouldIn", "(I)I"⟩ yX3_mouldIn, Cond.instanceMethod yX3_mouldIn, Cond.code yX3_mouldIn cX3_mouldIn 3 (some .int), Cond.fieldLink RX3 25 "JamDays$Jar" "mouldEachYear" "I", Cond.selects RX2 ⟨"JamDays$Jar", "mouldIn", "(I)I"⟩ yX3_mouldIn, Cond.methodLink RX6 94 yX3_mouldIn, Cond.selects RX3 yX3_mouldIn yX3_mouldIn, Cond.selects RX4 ⟨"JamDays$Jar", "mouldIn", "(I)I"⟩ yX3_mouldIn, Cond.selects RX5 ⟨"JamDays$Jar", "mouldIn", "(I)I"⟩ yX3_mouldIn, Cond.methodLink RX6 97 yX6_nextWorth, Cond.instanceMethod yX6_nextWorth, Cond.selects RX6 yX6_nextWorth yX6_nextWorth, Cond.code yX6_nextWorth cX6_nextWorth 2 (some .int), Cond.methodLink RX6 114 yX6_firstWorth, Cond.instanceMethod yX6_firstWorth, Cond.selects RX6 yX6_firstWorth yX6_firstWorth, Cond.code yX6_firstWorth cX6_firstWorth 4 (some .int), Cond.methodLink RX6 218 ⟨"JamDays$Jar", "firstWorthIn", "(I)I"⟩, Cond.sameMethod "JamDays$Jar" "JamDays$Jar" "firstWorthIn" "(I)I", Cond.selects RX0 ⟨"JamDays$Jar", "firstWorthIn", "(I)I"⟩ yX3_firstWorthIn, Cond.instanceMethod yX3_firstWorthIn, Cond.code yX3_firstWorthIn cX3_firstWorthIn 2 (some .int), Cond.fieldLink RX3 18 "JamDays$Jar" "good" "I"]
def wsX6_digest_r4 : List Cond := [Cond.methodLink RX3 34 ⟨"JamDays$Jar", "mouldIn", "(I)I"⟩, Cond.methodLink RX3 34 yX3_mouldIn, Cond.instanceMethod ⟨"JamDays$Jar", "firstWorthIn", "(I)I"⟩, Cond.selects RX2 ⟨"JamDays$Jar", "firstWorthIn", "(I)I"⟩ yX2_firstWorthIn, Cond.instanceMethod yX2_firstWorthIn, Cond.code yX2_firstWorthIn cX2_firstWorthIn 2 (some .int), Cond.fieldLink RX2 9 "JamDays$Gold" "good" "I", Cond.sameField "JamDays$Gold" "JamDays$Jar" "good" "I", Cond.methodLink RX2 15 ⟨"JamDays$Gold", "mouldIn", "(I)I"⟩, Cond.sameMethod "JamDays$Gold" "JamDays$Jar" "mouldIn" "(I)I", Cond.selects RX2 ⟨"JamDays$Gold", "mouldIn", "(I)I"⟩ yX3_mouldIn, Cond.methodLink RX6 218 yX3_firstWorthIn, Cond.selects RX3 yX3_firstWorthIn yX3_firstWorthIn, Cond.selects RX4 ⟨"JamDays$Jar", "firstWorthIn", "(I)I"⟩ yX4_firstWorthIn, Cond.instanceMethod yX4_firstWorthIn, Cond.code yX4_firstWorthIn cX4_firstWorthIn 3 (some .int), Cond.fieldLink RX4 9 "JamDays$Plum" "good" "I", Cond.sameField "JamDays$Plum" "JamDays$Jar" "good" "I", Cond.methodLink RX4 15 ⟨"JamDays$Plum", "mouldIn", "(I)I"⟩, Cond.sameMethod "JamDays$Plum" "JamDays$Jar" "mouldIn" "(I)I", Cond.selects RX4 ⟨"JamDays$Plum", "mouldIn", "(I)I"⟩ yX3_mouldIn, Cond.selects RX5 ⟨"JamDays$Jar", "firstWorthIn", "(I)I"⟩ yX3_firstWorthIn, Cond.methodLink RX6 100 yX1_eatenNowOf, Cond.instanceMethod yX1_eatenNowOf]
def wsX6_digest_r5 : List Cond := [Cond.selects RX1 yX1_eatenNowOf yX1_eatenNowOf, Cond.code yX1_eatenNowOf cX1_eatenNowOf 2 (some .int), Cond.fieldLink RX1 31 "JamDays$Days" "eatenNow" "[I", Cond.methodLink RX6 103 yX6_yearsToBest, Cond.instanceMethod yX6_yearsToBest, Cond.selects RX6 yX6_yearsToBest yX6_yearsToBest, Cond.code yX6_yearsToBest cX6_yearsToBest 4 (some .int), Cond.methodLink RX6 179 yX6_mix, Cond.static yX6_mix, Cond.code yX6_mix cX6_mix 3 (some .long), Cond.constantLong RX6 195 (31), Cond.methodLink RX6 183 yX6_worth, Cond.instanceMethod yX6_worth, Cond.selects RX6 yX6_worth yX6_worth, Cond.code yX6_worth cX6_worth 3 (some .int), Cond.methodLink RX6 110 yX6_isNoYear, Cond.static yX6_isNoYear, Cond.code yX6_isNoYear cX6_isNoYear 1 (some .boolean), Cond.methodLink RX6 124 yX6_hasNoLarder, Cond.instanceMethod yX6_hasNoLarder, Cond.selects RX6 yX6_hasNoLarder yX6_hasNoLarder, Cond.code yX6_hasNoLarder cX6_hasNoLarder 1 (some .boolean), Cond.methodLink RX6 186 yX6_which, Cond.instanceMethod yX6_which]
def wsX6_digest_r6 : List Cond := [Cond.selects RX6 yX6_which yX6_which, Cond.code yX6_which cX6_which 1 (some .int), Cond.methodLink RX6 146 yX6_candidates, Cond.instanceMethod yX6_candidates, Cond.selects RX6 yX6_candidates yX6_candidates, Cond.code yX6_candidates cX6_candidates 3 (some .int), Cond.methodLink RX6 246 yX6_agreesWithTastes, Cond.instanceMethod yX6_agreesWithTastes, Cond.selects RX6 yX6_agreesWithTastes yX6_agreesWithTastes, Cond.code yX6_agreesWithTastes cX6_agreesWithTastes 3 (some .boolean), Cond.fieldLink RX6 143 "JamDays$Days" "tasted" "I", Cond.fieldLink RX6 249 "JamDays$Days" "tastedYear" "[I", Cond.fieldLink RX6 252 "JamDays$Days" "tastedWorth" "[I", Cond.methodLink RX6 189 yX6_tasteNext, Cond.instanceMethod yX6_tasteNext, Cond.selects RX6 yX6_tasteNext yX6_tasteNext, Cond.code yX6_tasteNext cX6_tasteNext 6 (some .int), Cond.methodLink RX6 149 yX6_leftAtWorst, Cond.instanceMethod yX6_leftAtWorst, Cond.selects RX6 yX6_leftAtWorst yX6_leftAtWorst, Cond.code yX6_leftAtWorst cX6_leftAtWorst 5 (some .int), Cond.methodLink RX6 237 Lib.Math.max.name, Cond.static Lib.Math.max.name, Cond.initialized "java/lang/Math"]
def wsX6_digest_r7 : List Cond := [Cond.code Lib.Math.max.name Lib.Math.max.code 2 (some .int), Cond.methodLink RX6 255 yX6_isOpen, Cond.static yX6_isOpen, Cond.code yX6_isOpen cX6_isOpen 2 (some .boolean), Cond.methodLink RX6 258 yX6_openJarsLike, Cond.instanceMethod yX6_openJarsLike, Cond.selects RX6 yX6_openJarsLike yX6_openJarsLike, Cond.code yX6_openJarsLike cX6_openJarsLike 6 (some .int), Cond.methodLink RX6 55 yX6_codeAt, Cond.instanceMethod yX6_codeAt, Cond.selects RX6 yX6_codeAt yX6_codeAt, Cond.code yX6_codeAt cX6_codeAt 2 (some .int), Cond.fieldLink RX6 9 "JamDays" "page" "[I", Cond.methodLink RX6 192 yX6_count, Cond.instanceMethod yX6_count, Cond.selects RX6 yX6_count yX6_count, Cond.code yX6_count cX6_count 2 (some .int), Cond.fieldLink RX6 158 "JamDays$Days" "joy" "I", Cond.fieldLink RX6 168 "JamDays$Days" "eaten" "I", Cond.fieldLink RX6 171 "JamDays$Days" "lost" "I", Cond.fieldLink RX6 43 "JamDays" "lardersRead" "I", Cond.fieldLink RX6 46 "JamDays" "bestsDone" "I", Cond.methodLink RX6 155 yX1_spoonsOfAll, Cond.instanceMethod yX1_spoonsOfAll]
def wsX6_digest_r8 : List Cond := [Cond.selects RX1 yX1_spoonsOfAll yX1_spoonsOfAll, Cond.code yX1_spoonsOfAll cX1_spoonsOfAll 3 (some .int), Cond.methodLink RX6 165 yX6_emptyJars, Cond.instanceMethod yX6_emptyJars, Cond.selects RX6 yX6_emptyJars yX6_emptyJars, Cond.code yX6_emptyJars cX6_emptyJars 3 (some .int)]
def wsX6_digest : List Cond := .code yX6_digest cX6_digest 5 (some .long) :: ((wsX6_digest_r1 ++ (wsX6_digest_r2 ++ (wsX6_digest_r3 ++ (wsX6_digest_r4 ++ (wsX6_digest_r5 ++ (wsX6_digest_r6 ++ (wsX6_digest_r7 ++ wsX6_digest_r8))))))) ++ wsX60 ++ wsX00 ++ wsX20 ++ wsX30 ++ wsX40 ++ wsX50 ++ wsX10)
def wsX7_init : List Cond := .code yX7_init cX7_init 1 none :: ([.methodLink RX7 1 objectInit, .instanceMethod objectInit, .code objectInit ⟨#[0xb1]⟩ 1 none, .arrayClass .int, .fieldLink RX7 7 "JamDaysModel" "page" "[I", .fieldLink RX7 13 "JamDaysModel" "rows" "[I", .fieldLink RX7 16 "JamDaysModel" "table" "[I", .fieldLink RX7 19 "JamDaysModel" "counts" "[I", .fieldLink RX7 22 "JamDaysModel" "tastes" "[I", .fieldLink RX7 25 "JamDaysModel" "savedRows" "[I", .fieldLink RX7 28 "JamDaysModel" "keptRows" "[I", .fieldLink RX7 31 "JamDaysModel" "keptTastes" "[I", .fieldLink RX7 34 "JamDaysModel" "keptLarder" "I"] ++ wsX70)
def wsX7_in : List Cond := .code yX7_in cX7_in 6 (some .boolean) :: ([])
def wsX7_copy : List Cond := .code yX7_copy cX7_copy 3 none :: ([])
def wsX7_letter : List Cond := .code yX7_letter cX7_letter 2 (some .int) :: ([.constantLong RX7 38 (126), .fieldLink RX7 44 "JamDaysModel" "pageMany" "I", .fieldLink RX7 7 "JamDaysModel" "page" "[I", .methodLink RX7 40 yX7_in, .static yX7_in, .initialized RX7, .code yX7_in cX7_in 6 (some .boolean)] ++ wsX70)
def wsX7_blank : List Cond := .code yX7_blank cX7_blank 2 (some .int) :: ([.fieldLink RX7 44 "JamDaysModel" "pageMany" "I"] ++ wsX70)
def wsX7_kindBy : List Cond := .code yX7_kindBy cX7_kindBy 1 (some .int) :: ([])
def wsX7_isGood : List Cond := .code yX7_isGood cX7_isGood 2 (some .boolean) :: ([.constantLong RX7 51 (48), .constantLong RX7 53 (57), .methodLink RX7 47 yX7_kindBy, .static yX7_kindBy, .initialized RX7, .code yX7_kindBy cX7_kindBy 1 (some .int), .methodLink RX7 40 yX7_in, .static yX7_in, .code yX7_in cX7_in 6 (some .boolean)])
def wsX7_faultOf : List Cond := .code yX7_faultOf cX7_faultOf 2 (some .int) :: ([.fieldLink RX7 44 "JamDaysModel" "pageMany" "I", .fieldLink RX7 7 "JamDaysModel" "page" "[I", .methodLink RX7 55 yX7_isGood, .static yX7_isGood, .initialized RX7, .code yX7_isGood cX7_isGood 2 (some .boolean), .constantLong RX7 51 (48), .constantLong RX7 53 (57), .methodLink RX7 47 yX7_kindBy, .static yX7_kindBy, .code yX7_kindBy cX7_kindBy 1 (some .int), .methodLink RX7 40 yX7_in, .static yX7_in, .code yX7_in cX7_in 6 (some .boolean)] ++ wsX70)
def wsX7_fault : List Cond := .code yX7_fault cX7_fault 1 (some .int) :: ([.methodLink RX7 59 yX7_faultOf, .instanceMethod yX7_faultOf, .selects RX7 yX7_faultOf yX7_faultOf, .initialized RX7, .code yX7_faultOf cX7_faultOf 2 (some .int), .fieldLink RX7 44 "JamDaysModel" "pageMany" "I", .fieldLink RX7 7 "JamDaysModel" "page" "[I", .methodLink RX7 55 yX7_isGood, .static yX7_isGood, .code yX7_isGood cX7_isGood 2 (some .boolean), .constantLong RX7 51 (48), .constantLong RX7 53 (57), .methodLink RX7 47 yX7_kindBy, .static yX7_kindBy, .code yX7_kindBy cX7_kindBy 1 (some .int), .methodLink RX7 40 yX7_in, .static yX7_in, .code yX7_in cX7_in 6 (some .boolean)] ++ wsX70)
def wsX7_larder_r1 : List Cond := [Cond.fieldLink RX7 44 "JamDaysModel" "pageMany" "I", Cond.fieldLink RX7 63 "JamDaysModel" "jars" "I", Cond.fieldLink RX7 13 "JamDaysModel" "rows" "[I", Cond.fieldLink RX7 7 "JamDaysModel" "page" "[I", Cond.fieldLink RX7 66 "JamDaysModel" "yearNow" "I", Cond.fieldLink RX7 69 "JamDaysModel" "joy" "I", Cond.fieldLink RX7 72 "JamDaysModel" "eaten" "I", Cond.fieldLink RX7 75 "JamDaysModel" "taken" "I", Cond.fieldLink RX7 78 "JamDaysModel" "tastedMany" "I", Cond.fieldLink RX7 81 "JamDaysModel" "lardersRead" "I", Cond.methodLink RX7 59 yX7_faultOf, Cond.instanceMethod yX7_faultOf, Cond.selects RX7 yX7_faultOf yX7_faultOf, Cond.initialized RX7, Cond.code yX7_faultOf cX7_faultOf 2 (some .int), Cond.methodLink RX7 55 yX7_isGood, Cond.static yX7_isGood, Cond.code yX7_isGood cX7_isGood 2 (some .boolean), Cond.constantLong RX7 51 (48), Cond.constantLong RX7 53 (57), Cond.methodLink RX7 47 yX7_kindBy, Cond.static yX7_kindBy, Cond.code yX7_kindBy cX7_kindBy 1 (some .int), Cond.methodLink RX7 40 yX7_in]
def wsX7_larder_r2 : List Cond := [Cond.static yX7_in, Cond.code yX7_in cX7_in 6 (some .boolean)]
def wsX7_larder : List Cond := .code yX7_larder cX7_larder 2 (some .int) :: ((wsX7_larder_r1 ++ wsX7_larder_r2) ++ wsX70)
def wsX7_lacks : List Cond := .code yX7_lacks cX7_lacks 1 (some .boolean) :: ([.fieldLink RX7 63 "JamDaysModel" "jars" "I"] ++ wsX70)
def wsX7_isJar : List Cond := .code yX7_isJar cX7_isJar 2 (some .boolean) :: ([.fieldLink RX7 63 "JamDaysModel" "jars" "I", .methodLink RX7 40 yX7_in, .static yX7_in, .initialized RX7, .code yX7_in cX7_in 6 (some .boolean)] ++ wsX70)
def wsX7_mouldIn : List Cond := .code yX7_mouldIn cX7_mouldIn 6 (some .int) :: ([.fieldLink RX7 13 "JamDaysModel" "rows" "[I"] ++ wsX70)
def wsX7_firstIn : List Cond := .code yX7_firstIn cX7_firstIn 5 (some .int) :: ([.fieldLink RX7 13 "JamDaysModel" "rows" "[I", .methodLink RX7 84 yX7_mouldIn, .instanceMethod yX7_mouldIn, .selects RX7 yX7_mouldIn yX7_mouldIn, .initialized RX7, .code yX7_mouldIn cX7_mouldIn 6 (some .int)] ++ wsX70)
def wsX7_nextNow : List Cond := .code yX7_nextNow cX7_nextNow 2 (some .int) :: ([.fieldLink RX7 66 "JamDaysModel" "yearNow" "I", .fieldLink RX7 13 "JamDaysModel" "rows" "[I", .methodLink RX7 88 yX7_firstIn, .instanceMethod yX7_firstIn, .selects RX7 yX7_firstIn yX7_firstIn, .initialized RX7, .code yX7_firstIn cX7_firstIn 5 (some .int), .methodLink RX7 84 yX7_mouldIn, .instanceMethod yX7_mouldIn, .selects RX7 yX7_mouldIn yX7_mouldIn, .code yX7_mouldIn cX7_mouldIn 6 (some .int)] ++ wsX70)
def wsX7_whenOf : List Cond := .code yX7_whenOf cX7_whenOf 6 (some .int) :: ([.constant RX7 91 (-99999), .fieldLink RX7 66 "JamDaysModel" "yearNow" "I", .methodLink RX7 88 yX7_firstIn, .instanceMethod yX7_firstIn, .selects RX7 yX7_firstIn yX7_firstIn, .initialized RX7, .code yX7_firstIn cX7_firstIn 5 (some .int), .fieldLink RX7 13 "JamDaysModel" "rows" "[I", .methodLink RX7 84 yX7_mouldIn, .instanceMethod yX7_mouldIn, .selects RX7 yX7_mouldIn yX7_mouldIn, .code yX7_mouldIn cX7_mouldIn 6 (some .int)] ++ wsX70)
def wsX7_tell : List Cond := .code yX7_tell cX7_tell 3 (some .int) :: ([.fieldLink RX7 13 "JamDaysModel" "rows" "[I", .fieldLink RX7 66 "JamDaysModel" "yearNow" "I", .methodLink RX7 84 yX7_mouldIn, .instanceMethod yX7_mouldIn, .selects RX7 yX7_mouldIn yX7_mouldIn, .initialized RX7, .code yX7_mouldIn cX7_mouldIn 6 (some .int), .methodLink RX7 92 yX7_nextNow, .instanceMethod yX7_nextNow, .selects RX7 yX7_nextNow yX7_nextNow, .code yX7_nextNow cX7_nextNow 2 (some .int), .methodLink RX7 88 yX7_firstIn, .instanceMethod yX7_firstIn, .selects RX7 yX7_firstIn yX7_firstIn, .code yX7_firstIn cX7_firstIn 5 (some .int), .methodLink RX7 95 yX7_whenOf, .instanceMethod yX7_whenOf, .selects RX7 yX7_whenOf yX7_whenOf, .code yX7_whenOf cX7_whenOf 6 (some .int), .constant RX7 91 (-99999)] ++ wsX70)
def wsX7_jar_r1 : List Cond := [Cond.methodLink RX7 98 yX7_isJar, Cond.instanceMethod yX7_isJar, Cond.selects RX7 yX7_isJar yX7_isJar, Cond.initialized RX7, Cond.code yX7_isJar cX7_isJar 2 (some .boolean), Cond.fieldLink RX7 63 "JamDaysModel" "jars" "I", Cond.methodLink RX7 40 yX7_in, Cond.static yX7_in, Cond.code yX7_in cX7_in 6 (some .boolean), Cond.methodLink RX7 102 yX7_tell, Cond.instanceMethod yX7_tell, Cond.selects RX7 yX7_tell yX7_tell, Cond.code yX7_tell cX7_tell 3 (some .int), Cond.fieldLink RX7 13 "JamDaysModel" "rows" "[I", Cond.fieldLink RX7 66 "JamDaysModel" "yearNow" "I", Cond.methodLink RX7 84 yX7_mouldIn, Cond.instanceMethod yX7_mouldIn, Cond.selects RX7 yX7_mouldIn yX7_mouldIn, Cond.code yX7_mouldIn cX7_mouldIn 6 (some .int), Cond.methodLink RX7 92 yX7_nextNow, Cond.instanceMethod yX7_nextNow, Cond.selects RX7 yX7_nextNow yX7_nextNow, Cond.code yX7_nextNow cX7_nextNow 2 (some .int), Cond.methodLink RX7 88 yX7_firstIn]
def wsX7_jar_r2 : List Cond := [Cond.instanceMethod yX7_firstIn, Cond.selects RX7 yX7_firstIn yX7_firstIn, Cond.code yX7_firstIn cX7_firstIn 5 (some .int), Cond.methodLink RX7 95 yX7_whenOf, Cond.instanceMethod yX7_whenOf, Cond.selects RX7 yX7_whenOf yX7_whenOf, Cond.code yX7_whenOf cX7_whenOf 6 (some .int), Cond.constant RX7 91 (-99999)]
def wsX7_jar : List Cond := .code yX7_jar cX7_jar 3 (some .int) :: ((wsX7_jar_r1 ++ wsX7_jar_r2) ++ wsX70)
def wsX7_as : List Cond := .code yX7_as cX7_as 5 (some .int) :: ([.constantLong RX7 105 (4), .fieldLink RX7 13 "JamDaysModel" "rows" "[I", .methodLink RX7 98 yX7_isJar, .instanceMethod yX7_isJar, .selects RX7 yX7_isJar yX7_isJar, .initialized RX7, .code yX7_isJar cX7_isJar 2 (some .boolean), .fieldLink RX7 63 "JamDaysModel" "jars" "I", .methodLink RX7 40 yX7_in, .static yX7_in, .code yX7_in cX7_in 6 (some .boolean)] ++ wsX70)
def wsX7_worth : List Cond := .code yX7_worth cX7_worth 3 (some .int) :: ([.constantLong RX7 107 (99), .methodLink RX7 98 yX7_isJar, .instanceMethod yX7_isJar, .selects RX7 yX7_isJar yX7_isJar, .initialized RX7, .code yX7_isJar cX7_isJar 2 (some .boolean), .fieldLink RX7 63 "JamDaysModel" "jars" "I", .methodLink RX7 40 yX7_in, .static yX7_in, .code yX7_in cX7_in 6 (some .boolean), .methodLink RX7 88 yX7_firstIn, .instanceMethod yX7_firstIn, .selects RX7 yX7_firstIn yX7_firstIn, .code yX7_firstIn cX7_firstIn 5 (some .int), .fieldLink RX7 13 "JamDaysModel" "rows" "[I", .methodLink RX7 84 yX7_mouldIn, .instanceMethod yX7_mouldIn, .selects RX7 yX7_mouldIn yX7_mouldIn, .code yX7_mouldIn cX7_mouldIn 6 (some .int)] ++ wsX70)
def wsX7_eat_r1 : List Cond := [Cond.fieldLink RX7 13 "JamDaysModel" "rows" "[I", Cond.fieldLink RX7 69 "JamDaysModel" "joy" "I", Cond.fieldLink RX7 72 "JamDaysModel" "eaten" "I", Cond.methodLink RX7 98 yX7_isJar, Cond.instanceMethod yX7_isJar, Cond.selects RX7 yX7_isJar yX7_isJar, Cond.initialized RX7, Cond.code yX7_isJar cX7_isJar 2 (some .boolean), Cond.fieldLink RX7 63 "JamDaysModel" "jars" "I", Cond.methodLink RX7 40 yX7_in, Cond.static yX7_in, Cond.code yX7_in cX7_in 6 (some .boolean), Cond.methodLink RX7 92 yX7_nextNow, Cond.instanceMethod yX7_nextNow, Cond.selects RX7 yX7_nextNow yX7_nextNow, Cond.code yX7_nextNow cX7_nextNow 2 (some .int), Cond.fieldLink RX7 66 "JamDaysModel" "yearNow" "I", Cond.methodLink RX7 88 yX7_firstIn, Cond.instanceMethod yX7_firstIn, Cond.selects RX7 yX7_firstIn yX7_firstIn, Cond.code yX7_firstIn cX7_firstIn 5 (some .int), Cond.methodLink RX7 84 yX7_mouldIn, Cond.instanceMethod yX7_mouldIn, Cond.selects RX7 yX7_mouldIn yX7_mouldIn]
def wsX7_eat_r2 : List Cond := [Cond.code yX7_mouldIn cX7_mouldIn 6 (some .int)]
def wsX7_eat : List Cond := .code yX7_eat cX7_eat 3 (some .int) :: ((wsX7_eat_r1 ++ wsX7_eat_r2) ++ wsX70)
def wsX7_wasps : List Cond := .code yX7_wasps cX7_wasps 2 (some .int) :: ([.fieldLink RX7 13 "JamDaysModel" "rows" "[I", .fieldLink RX7 75 "JamDaysModel" "taken" "I", .methodLink RX7 98 yX7_isJar, .instanceMethod yX7_isJar, .selects RX7 yX7_isJar yX7_isJar, .initialized RX7, .code yX7_isJar cX7_isJar 2 (some .boolean), .fieldLink RX7 63 "JamDaysModel" "jars" "I", .methodLink RX7 40 yX7_in, .static yX7_in, .code yX7_in cX7_in 6 (some .boolean)] ++ wsX70)
def wsX7_noneEaten : List Cond := .code yX7_noneEaten cX7_noneEaten 2 none :: ([.fieldLink RX7 63 "JamDaysModel" "jars" "I", .fieldLink RX7 13 "JamDaysModel" "rows" "[I"] ++ wsX70)
def wsX7_year : List Cond := .code yX7_year cX7_year 1 (some .int) :: ([.fieldLink RX7 66 "JamDaysModel" "yearNow" "I", .methodLink RX7 109 yX7_lacks, .instanceMethod yX7_lacks, .selects RX7 yX7_lacks yX7_lacks, .initialized RX7, .code yX7_lacks cX7_lacks 1 (some .boolean), .fieldLink RX7 63 "JamDaysModel" "jars" "I", .methodLink RX7 113 yX7_noneEaten, .instanceMethod yX7_noneEaten, .selects RX7 yX7_noneEaten yX7_noneEaten, .code yX7_noneEaten cX7_noneEaten 2 none, .fieldLink RX7 13 "JamDaysModel" "rows" "[I"] ++ wsX70)
def wsX7_spoonsAll : List Cond := .code yX7_spoonsAll cX7_spoonsAll 3 (some .int) :: ([.fieldLink RX7 63 "JamDaysModel" "jars" "I", .fieldLink RX7 13 "JamDaysModel" "rows" "[I"] ++ wsX70)
def wsX7_worthOf : List Cond := .code yX7_worthOf cX7_worthOf 3 (some .int) :: ([.fieldLink RX7 13 "JamDaysModel" "rows" "[I", .constant RX7 91 (-99999), .methodLink RX7 92 yX7_nextNow, .instanceMethod yX7_nextNow, .selects RX7 yX7_nextNow yX7_nextNow, .initialized RX7, .code yX7_nextNow cX7_nextNow 2 (some .int), .fieldLink RX7 66 "JamDaysModel" "yearNow" "I", .methodLink RX7 88 yX7_firstIn, .instanceMethod yX7_firstIn, .selects RX7 yX7_firstIn yX7_firstIn, .code yX7_firstIn cX7_firstIn 5 (some .int), .methodLink RX7 84 yX7_mouldIn, .instanceMethod yX7_mouldIn, .selects RX7 yX7_mouldIn yX7_mouldIn, .code yX7_mouldIn cX7_mouldIn 6 (some .int)] ++ wsX70)
def wsX7_layTable : List Cond := .code yX7_layTable cX7_layTable 6 none :: ([.fieldLink RX7 16 "JamDaysModel" "table" "[I", .fieldLink RX7 63 "JamDaysModel" "jars" "I", .constant RX7 91 (-99999), .methodLink RX7 116 yX7_worthOf, .instanceMethod yX7_worthOf, .selects RX7 yX7_worthOf yX7_worthOf, .initialized RX7, .code yX7_worthOf cX7_worthOf 3 (some .int), .fieldLink RX7 13 "JamDaysModel" "rows" "[I", .methodLink RX7 92 yX7_nextNow, .instanceMethod yX7_nextNow, .selects RX7 yX7_nextNow yX7_nextNow, .code yX7_nextNow cX7_nextNow 2 (some .int), .fieldLink RX7 66 "JamDaysModel" "yearNow" "I", .methodLink RX7 88 yX7_firstIn, .instanceMethod yX7_firstIn, .selects RX7 yX7_firstIn yX7_firstIn, .code yX7_firstIn cX7_firstIn 5 (some .int), .methodLink RX7 84 yX7_mouldIn, .instanceMethod yX7_mouldIn, .selects RX7 yX7_mouldIn yX7_mouldIn, .code yX7_mouldIn cX7_mouldIn 6 (some .int)] ++ wsX70)
def wsX7_bestOf_r1 : List Cond := [Cond.fieldLink RX7 63 "JamDaysModel" "jars" "I", Cond.fieldLink RX7 16 "JamDaysModel" "table" "[I", Cond.fieldLink RX7 19 "JamDaysModel" "counts" "[I", Cond.methodLink RX7 119 yX7_spoonsAll, Cond.instanceMethod yX7_spoonsAll, Cond.selects RX7 yX7_spoonsAll yX7_spoonsAll, Cond.initialized RX7, Cond.code yX7_spoonsAll cX7_spoonsAll 3 (some .int), Cond.fieldLink RX7 13 "JamDaysModel" "rows" "[I", Cond.methodLink RX7 122 yX7_layTable, Cond.instanceMethod yX7_layTable, Cond.selects RX7 yX7_layTable yX7_layTable, Cond.code yX7_layTable cX7_layTable 6 none, Cond.constant RX7 91 (-99999), Cond.methodLink RX7 116 yX7_worthOf, Cond.instanceMethod yX7_worthOf, Cond.selects RX7 yX7_worthOf yX7_worthOf, Cond.code yX7_worthOf cX7_worthOf 3 (some .int), Cond.methodLink RX7 92 yX7_nextNow, Cond.instanceMethod yX7_nextNow, Cond.selects RX7 yX7_nextNow yX7_nextNow, Cond.code yX7_nextNow cX7_nextNow 2 (some .int), Cond.fieldLink RX7 66 "JamDaysModel" "yearNow" "I", Cond.methodLink RX7 88 yX7_firstIn]
def wsX7_bestOf_r2 : List Cond := [Cond.instanceMethod yX7_firstIn, Cond.selects RX7 yX7_firstIn yX7_firstIn, Cond.code yX7_firstIn cX7_firstIn 5 (some .int), Cond.methodLink RX7 84 yX7_mouldIn, Cond.instanceMethod yX7_mouldIn, Cond.selects RX7 yX7_mouldIn yX7_mouldIn, Cond.code yX7_mouldIn cX7_mouldIn 6 (some .int)]
def wsX7_bestOf : List Cond := .code yX7_bestOf cX7_bestOf 6 (some .int) :: ((wsX7_bestOf_r1 ++ wsX7_bestOf_r2) ++ wsX70)
def wsX7_best_r1 : List Cond := [Cond.constantLong RX7 125 (12), Cond.constantLong RX7 127 (10), Cond.constantLong RX7 129 (15), Cond.fieldLink RX7 131 "JamDaysModel" "bestDone" "I", Cond.methodLink RX7 40 yX7_in, Cond.static yX7_in, Cond.initialized RX7, Cond.code yX7_in cX7_in 6 (some .boolean), Cond.methodLink RX7 109 yX7_lacks, Cond.instanceMethod yX7_lacks, Cond.selects RX7 yX7_lacks yX7_lacks, Cond.code yX7_lacks cX7_lacks 1 (some .boolean), Cond.fieldLink RX7 63 "JamDaysModel" "jars" "I", Cond.methodLink RX7 134 yX7_bestOf, Cond.instanceMethod yX7_bestOf, Cond.selects RX7 yX7_bestOf yX7_bestOf, Cond.code yX7_bestOf cX7_bestOf 6 (some .int), Cond.fieldLink RX7 16 "JamDaysModel" "table" "[I", Cond.fieldLink RX7 19 "JamDaysModel" "counts" "[I", Cond.methodLink RX7 119 yX7_spoonsAll, Cond.instanceMethod yX7_spoonsAll, Cond.selects RX7 yX7_spoonsAll yX7_spoonsAll, Cond.code yX7_spoonsAll cX7_spoonsAll 3 (some .int), Cond.fieldLink RX7 13 "JamDaysModel" "rows" "[I"]
def wsX7_best_r2 : List Cond := [Cond.methodLink RX7 122 yX7_layTable, Cond.instanceMethod yX7_layTable, Cond.selects RX7 yX7_layTable yX7_layTable, Cond.code yX7_layTable cX7_layTable 6 none, Cond.constant RX7 91 (-99999), Cond.methodLink RX7 116 yX7_worthOf, Cond.instanceMethod yX7_worthOf, Cond.selects RX7 yX7_worthOf yX7_worthOf, Cond.code yX7_worthOf cX7_worthOf 3 (some .int), Cond.methodLink RX7 92 yX7_nextNow, Cond.instanceMethod yX7_nextNow, Cond.selects RX7 yX7_nextNow yX7_nextNow, Cond.code yX7_nextNow cX7_nextNow 2 (some .int), Cond.fieldLink RX7 66 "JamDaysModel" "yearNow" "I", Cond.methodLink RX7 88 yX7_firstIn, Cond.instanceMethod yX7_firstIn, Cond.selects RX7 yX7_firstIn yX7_firstIn, Cond.code yX7_firstIn cX7_firstIn 5 (some .int), Cond.methodLink RX7 84 yX7_mouldIn, Cond.instanceMethod yX7_mouldIn, Cond.selects RX7 yX7_mouldIn yX7_mouldIn, Cond.code yX7_mouldIn cX7_mouldIn 6 (some .int)]
def wsX7_best : List Cond := .code yX7_best cX7_best 3 (some .int) :: ((wsX7_best_r1 ++ wsX7_best_r2) ++ wsX70)
def wsX7_taste : List Cond := .code yX7_taste cX7_taste 3 (some .int) :: ([.constantLong RX7 107 (99), .constantLong RX7 137 (-20), .constantLong RX7 139 (30), .fieldLink RX7 78 "JamDaysModel" "tastedMany" "I", .fieldLink RX7 22 "JamDaysModel" "tastes" "[I", .methodLink RX7 40 yX7_in, .static yX7_in, .initialized RX7, .code yX7_in cX7_in 6 (some .boolean)] ++ wsX70)
def wsX7_forget : List Cond := .code yX7_forget cX7_forget 2 (some .int) :: ([.fieldLink RX7 78 "JamDaysModel" "tastedMany" "I"] ++ wsX70)
def wsX7_whichOf : List Cond := .code yX7_whichOf cX7_whichOf 5 (some .int) :: ([.fieldLink RX7 63 "JamDaysModel" "jars" "I", .fieldLink RX7 78 "JamDaysModel" "tastedMany" "I", .fieldLink RX7 22 "JamDaysModel" "tastes" "[I", .methodLink RX7 88 yX7_firstIn, .instanceMethod yX7_firstIn, .selects RX7 yX7_firstIn yX7_firstIn, .initialized RX7, .code yX7_firstIn cX7_firstIn 5 (some .int), .fieldLink RX7 13 "JamDaysModel" "rows" "[I", .methodLink RX7 84 yX7_mouldIn, .instanceMethod yX7_mouldIn, .selects RX7 yX7_mouldIn yX7_mouldIn, .code yX7_mouldIn cX7_mouldIn 6 (some .int)] ++ wsX70)
def wsX7_which : List Cond := .code yX7_which cX7_which 1 (some .int) :: ([.methodLink RX7 109 yX7_lacks, .instanceMethod yX7_lacks, .selects RX7 yX7_lacks yX7_lacks, .initialized RX7, .code yX7_lacks cX7_lacks 1 (some .boolean), .fieldLink RX7 63 "JamDaysModel" "jars" "I", .methodLink RX7 141 yX7_whichOf, .instanceMethod yX7_whichOf, .selects RX7 yX7_whichOf yX7_whichOf, .code yX7_whichOf cX7_whichOf 5 (some .int), .fieldLink RX7 78 "JamDaysModel" "tastedMany" "I", .fieldLink RX7 22 "JamDaysModel" "tastes" "[I", .methodLink RX7 88 yX7_firstIn, .instanceMethod yX7_firstIn, .selects RX7 yX7_firstIn yX7_firstIn, .code yX7_firstIn cX7_firstIn 5 (some .int), .fieldLink RX7 13 "JamDaysModel" "rows" "[I", .methodLink RX7 84 yX7_mouldIn, .instanceMethod yX7_mouldIn, .selects RX7 yX7_mouldIn yX7_mouldIn, .code yX7_mouldIn cX7_mouldIn 6 (some .int)] ++ wsX70)
def wsX7_likeIn : List Cond := .code yX7_likeIn cX7_likeIn 6 (some .int) :: ([.fieldLink RX7 63 "JamDaysModel" "jars" "I", .methodLink RX7 88 yX7_firstIn, .instanceMethod yX7_firstIn, .selects RX7 yX7_firstIn yX7_firstIn, .initialized RX7, .code yX7_firstIn cX7_firstIn 5 (some .int), .fieldLink RX7 13 "JamDaysModel" "rows" "[I", .methodLink RX7 84 yX7_mouldIn, .instanceMethod yX7_mouldIn, .selects RX7 yX7_mouldIn yX7_mouldIn, .code yX7_mouldIn cX7_mouldIn 6 (some .int)] ++ wsX70)
def wsX7_tryOf : List Cond := .code yX7_tryOf cX7_tryOf 8 (some .int) :: ([.fieldLink RX7 63 "JamDaysModel" "jars" "I", .fieldLink RX7 66 "JamDaysModel" "yearNow" "I", .methodLink RX7 141 yX7_whichOf, .instanceMethod yX7_whichOf, .selects RX7 yX7_whichOf yX7_whichOf, .initialized RX7, .code yX7_whichOf cX7_whichOf 5 (some .int), .fieldLink RX7 78 "JamDaysModel" "tastedMany" "I", .fieldLink RX7 22 "JamDaysModel" "tastes" "[I", .methodLink RX7 88 yX7_firstIn, .instanceMethod yX7_firstIn, .selects RX7 yX7_firstIn yX7_firstIn, .code yX7_firstIn cX7_firstIn 5 (some .int), .fieldLink RX7 13 "JamDaysModel" "rows" "[I", .methodLink RX7 84 yX7_mouldIn, .instanceMethod yX7_mouldIn, .selects RX7 yX7_mouldIn yX7_mouldIn, .code yX7_mouldIn cX7_mouldIn 6 (some .int), .methodLink RX7 144 yX7_likeIn, .instanceMethod yX7_likeIn, .selects RX7 yX7_likeIn yX7_likeIn, .code yX7_likeIn cX7_likeIn 6 (some .int)] ++ wsX70)
def wsX7_tasteNext_r1 : List Cond := [Cond.methodLink RX7 109 yX7_lacks, Cond.instanceMethod yX7_lacks, Cond.selects RX7 yX7_lacks yX7_lacks, Cond.initialized RX7, Cond.code yX7_lacks cX7_lacks 1 (some .boolean), Cond.fieldLink RX7 63 "JamDaysModel" "jars" "I", Cond.methodLink RX7 148 yX7_tryOf, Cond.instanceMethod yX7_tryOf, Cond.selects RX7 yX7_tryOf yX7_tryOf, Cond.code yX7_tryOf cX7_tryOf 8 (some .int), Cond.fieldLink RX7 66 "JamDaysModel" "yearNow" "I", Cond.methodLink RX7 141 yX7_whichOf, Cond.instanceMethod yX7_whichOf, Cond.selects RX7 yX7_whichOf yX7_whichOf, Cond.code yX7_whichOf cX7_whichOf 5 (some .int), Cond.fieldLink RX7 78 "JamDaysModel" "tastedMany" "I", Cond.fieldLink RX7 22 "JamDaysModel" "tastes" "[I", Cond.methodLink RX7 88 yX7_firstIn, Cond.instanceMethod yX7_firstIn, Cond.selects RX7 yX7_firstIn yX7_firstIn, Cond.code yX7_firstIn cX7_firstIn 5 (some .int), Cond.fieldLink RX7 13 "JamDaysModel" "rows" "[I", Cond.methodLink RX7 84 yX7_mouldIn, Cond.instanceMethod yX7_mouldIn]
def wsX7_tasteNext_r2 : List Cond := [Cond.selects RX7 yX7_mouldIn yX7_mouldIn, Cond.code yX7_mouldIn cX7_mouldIn 6 (some .int), Cond.methodLink RX7 144 yX7_likeIn, Cond.instanceMethod yX7_likeIn, Cond.selects RX7 yX7_likeIn yX7_likeIn, Cond.code yX7_likeIn cX7_likeIn 6 (some .int)]
def wsX7_tasteNext : List Cond := .code yX7_tasteNext cX7_tasteNext 1 (some .int) :: ((wsX7_tasteNext_r1 ++ wsX7_tasteNext_r2) ++ wsX70)
def wsX7_draw : List Cond := .code yX7_draw cX7_draw 2 (some .int) :: ([.constantLong RX7 151 (1103515245), .fieldLink RX7 153 "JamDaysModel" "seedNow" "I", .constantLong RX7 156 (12345), .constantLong RX7 158 (2147483647), .constant RX7 160 (65536)] ++ wsX70)
def wsX7_times_r1 : List Cond := [Cond.constantLong RX7 161 (60), Cond.constantLong RX7 163 (2), Cond.fieldLink RX7 13 "JamDaysModel" "rows" "[I", Cond.fieldLink RX7 25 "JamDaysModel" "savedRows" "[I", Cond.fieldLink RX7 66 "JamDaysModel" "yearNow" "I", Cond.fieldLink RX7 153 "JamDaysModel" "seedNow" "I", Cond.fieldLink RX7 69 "JamDaysModel" "joy" "I", Cond.fieldLink RX7 63 "JamDaysModel" "jars" "I", Cond.methodLink RX7 40 yX7_in, Cond.static yX7_in, Cond.initialized RX7, Cond.code yX7_in cX7_in 6 (some .boolean), Cond.methodLink RX7 109 yX7_lacks, Cond.instanceMethod yX7_lacks, Cond.selects RX7 yX7_lacks yX7_lacks, Cond.code yX7_lacks cX7_lacks 1 (some .boolean), Cond.methodLink RX7 165 yX7_copy, Cond.static yX7_copy, Cond.code yX7_copy cX7_copy 3 none, Cond.methodLink RX7 169 yX7_draw, Cond.instanceMethod yX7_draw, Cond.selects RX7 yX7_draw yX7_draw, Cond.code yX7_draw cX7_draw 2 (some .int), Cond.constantLong RX7 151 (1103515245)]
def wsX7_times_r2 : List Cond := [Cond.constantLong RX7 156 (12345), Cond.constantLong RX7 158 (2147483647), Cond.constant RX7 160 (65536), Cond.methodLink RX7 92 yX7_nextNow, Cond.instanceMethod yX7_nextNow, Cond.selects RX7 yX7_nextNow yX7_nextNow, Cond.code yX7_nextNow cX7_nextNow 2 (some .int), Cond.methodLink RX7 88 yX7_firstIn, Cond.instanceMethod yX7_firstIn, Cond.selects RX7 yX7_firstIn yX7_firstIn, Cond.code yX7_firstIn cX7_firstIn 5 (some .int), Cond.methodLink RX7 84 yX7_mouldIn, Cond.instanceMethod yX7_mouldIn, Cond.selects RX7 yX7_mouldIn yX7_mouldIn, Cond.code yX7_mouldIn cX7_mouldIn 6 (some .int), Cond.methodLink RX7 113 yX7_noneEaten, Cond.instanceMethod yX7_noneEaten, Cond.selects RX7 yX7_noneEaten yX7_noneEaten, Cond.code yX7_noneEaten cX7_noneEaten 2 none, Cond.methodLink RX7 119 yX7_spoonsAll, Cond.instanceMethod yX7_spoonsAll, Cond.selects RX7 yX7_spoonsAll yX7_spoonsAll, Cond.code yX7_spoonsAll cX7_spoonsAll 3 (some .int)]
def wsX7_times : List Cond := .code yX7_times cX7_times 9 (some .int) :: ((wsX7_times_r1 ++ wsX7_times_r2) ++ wsX70)
def wsX7_image_r1 : List Cond := [Cond.fieldLink RX7 13 "JamDaysModel" "rows" "[I", Cond.fieldLink RX7 28 "JamDaysModel" "keptRows" "[I", Cond.fieldLink RX7 22 "JamDaysModel" "tastes" "[I", Cond.fieldLink RX7 31 "JamDaysModel" "keptTastes" "[I", Cond.fieldLink RX7 66 "JamDaysModel" "yearNow" "I", Cond.fieldLink RX7 172 "JamDaysModel" "keptYear" "I", Cond.fieldLink RX7 69 "JamDaysModel" "joy" "I", Cond.fieldLink RX7 175 "JamDaysModel" "keptJoy" "I", Cond.fieldLink RX7 72 "JamDaysModel" "eaten" "I", Cond.fieldLink RX7 178 "JamDaysModel" "keptEaten" "I", Cond.fieldLink RX7 75 "JamDaysModel" "taken" "I", Cond.fieldLink RX7 181 "JamDaysModel" "keptTaken" "I", Cond.fieldLink RX7 78 "JamDaysModel" "tastedMany" "I", Cond.fieldLink RX7 184 "JamDaysModel" "keptTasted" "I", Cond.fieldLink RX7 81 "JamDaysModel" "lardersRead" "I", Cond.fieldLink RX7 34 "JamDaysModel" "keptLarder" "I", Cond.methodLink RX7 109 yX7_lacks, Cond.instanceMethod yX7_lacks, Cond.selects RX7 yX7_lacks yX7_lacks, Cond.initialized RX7, Cond.code yX7_lacks cX7_lacks 1 (some .boolean), Cond.fieldLink RX7 63 "JamDaysModel" "jars" "I", Cond.methodLink RX7 165 yX7_copy, Cond.static yX7_copy]
def wsX7_image_r2 : List Cond := [Cond.code yX7_copy cX7_copy 3 none]
def wsX7_image : List Cond := .code yX7_image cX7_image 1 (some .int) :: ((wsX7_image_r1 ++ wsX7_image_r2) ++ wsX70)
def wsX7_restore : List Cond := .code yX7_restore cX7_restore 1 (some .int) :: ([.fieldLink RX7 34 "JamDaysModel" "keptLarder" "I", .fieldLink RX7 81 "JamDaysModel" "lardersRead" "I", .fieldLink RX7 28 "JamDaysModel" "keptRows" "[I", .fieldLink RX7 13 "JamDaysModel" "rows" "[I", .fieldLink RX7 31 "JamDaysModel" "keptTastes" "[I", .fieldLink RX7 22 "JamDaysModel" "tastes" "[I", .fieldLink RX7 172 "JamDaysModel" "keptYear" "I", .fieldLink RX7 66 "JamDaysModel" "yearNow" "I", .fieldLink RX7 175 "JamDaysModel" "keptJoy" "I", .fieldLink RX7 69 "JamDaysModel" "joy" "I", .fieldLink RX7 178 "JamDaysModel" "keptEaten" "I", .fieldLink RX7 72 "JamDaysModel" "eaten" "I", .fieldLink RX7 181 "JamDaysModel" "keptTaken" "I", .fieldLink RX7 75 "JamDaysModel" "taken" "I", .fieldLink RX7 184 "JamDaysModel" "keptTasted" "I", .fieldLink RX7 78 "JamDaysModel" "tastedMany" "I", .methodLink RX7 165 yX7_copy, .static yX7_copy, .initialized RX7, .code yX7_copy cX7_copy 3 none] ++ wsX70)
def wsX7_emptyMany : List Cond := .code yX7_emptyMany cX7_emptyMany 3 (some .int) :: ([.fieldLink RX7 63 "JamDaysModel" "jars" "I", .fieldLink RX7 13 "JamDaysModel" "rows" "[I"] ++ wsX70)
def wsX7_countOf : List Cond := .code yX7_countOf cX7_countOf 2 (some .int) :: ([.fieldLink RX7 63 "JamDaysModel" "jars" "I", .fieldLink RX7 66 "JamDaysModel" "yearNow" "I", .fieldLink RX7 69 "JamDaysModel" "joy" "I", .fieldLink RX7 72 "JamDaysModel" "eaten" "I", .fieldLink RX7 75 "JamDaysModel" "taken" "I", .fieldLink RX7 78 "JamDaysModel" "tastedMany" "I", .fieldLink RX7 44 "JamDaysModel" "pageMany" "I", .fieldLink RX7 81 "JamDaysModel" "lardersRead" "I", .fieldLink RX7 131 "JamDaysModel" "bestDone" "I", .methodLink RX7 119 yX7_spoonsAll, .instanceMethod yX7_spoonsAll, .selects RX7 yX7_spoonsAll yX7_spoonsAll, .initialized RX7, .code yX7_spoonsAll cX7_spoonsAll 3 (some .int), .fieldLink RX7 13 "JamDaysModel" "rows" "[I", .methodLink RX7 187 yX7_emptyMany, .instanceMethod yX7_emptyMany, .selects RX7 yX7_emptyMany yX7_emptyMany, .code yX7_emptyMany cX7_emptyMany 3 (some .int)] ++ wsX70)
def wsX7_count : List Cond := .code yX7_count cX7_count 2 (some .int) :: ([.methodLink RX7 190 yX7_countOf, .instanceMethod yX7_countOf, .selects RX7 yX7_countOf yX7_countOf, .initialized RX7, .code yX7_countOf cX7_countOf 2 (some .int), .fieldLink RX7 63 "JamDaysModel" "jars" "I", .fieldLink RX7 66 "JamDaysModel" "yearNow" "I", .fieldLink RX7 69 "JamDaysModel" "joy" "I", .fieldLink RX7 72 "JamDaysModel" "eaten" "I", .fieldLink RX7 75 "JamDaysModel" "taken" "I", .fieldLink RX7 78 "JamDaysModel" "tastedMany" "I", .fieldLink RX7 44 "JamDaysModel" "pageMany" "I", .fieldLink RX7 81 "JamDaysModel" "lardersRead" "I", .fieldLink RX7 131 "JamDaysModel" "bestDone" "I", .methodLink RX7 119 yX7_spoonsAll, .instanceMethod yX7_spoonsAll, .selects RX7 yX7_spoonsAll yX7_spoonsAll, .code yX7_spoonsAll cX7_spoonsAll 3 (some .int), .fieldLink RX7 13 "JamDaysModel" "rows" "[I", .methodLink RX7 187 yX7_emptyMany, .instanceMethod yX7_emptyMany, .selects RX7 yX7_emptyMany yX7_emptyMany, .code yX7_emptyMany cX7_emptyMany 3 (some .int)] ++ wsX70)
def wsX7_say : List Cond := .code yX7_say cX7_say 3 none :: ([.constantLong RX7 193 (31), .fieldLink RX7 195 "JamDaysModel" "hash" "J"] ++ wsX70)
def wsX7_digest_r1 : List Cond := [Cond.constantLong RX7 199 (1031), Cond.fieldLink RX7 195 "JamDaysModel" "hash" "J", Cond.fieldLink RX7 63 "JamDaysModel" "jars" "I", Cond.fieldLink RX7 44 "JamDaysModel" "pageMany" "I", Cond.fieldLink RX7 7 "JamDaysModel" "page" "[I", Cond.methodLink RX7 102 yX7_tell, Cond.instanceMethod yX7_tell, Cond.selects RX7 yX7_tell yX7_tell, Cond.initialized RX7, Cond.code yX7_tell cX7_tell 3 (some .int), Cond.fieldLink RX7 13 "JamDaysModel" "rows" "[I", Cond.fieldLink RX7 66 "JamDaysModel" "yearNow" "I", Cond.methodLink RX7 84 yX7_mouldIn, Cond.instanceMethod yX7_mouldIn, Cond.selects RX7 yX7_mouldIn yX7_mouldIn, Cond.code yX7_mouldIn cX7_mouldIn 6 (some .int), Cond.methodLink RX7 92 yX7_nextNow, Cond.instanceMethod yX7_nextNow, Cond.selects RX7 yX7_nextNow yX7_nextNow, Cond.code yX7_nextNow cX7_nextNow 2 (some .int), Cond.methodLink RX7 88 yX7_firstIn, Cond.instanceMethod yX7_firstIn, Cond.selects RX7 yX7_firstIn yX7_firstIn, Cond.code yX7_firstIn cX7_firstIn 5 (some .int)]
def wsX7_digest_r2 : List Cond := [Cond.methodLink RX7 95 yX7_whenOf, Cond.instanceMethod yX7_whenOf, Cond.selects RX7 yX7_whenOf yX7_whenOf, Cond.code yX7_whenOf cX7_whenOf 6 (some .int), Cond.constant RX7 91 (-99999), Cond.methodLink RX7 201 yX7_say, Cond.instanceMethod yX7_say, Cond.selects RX7 yX7_say yX7_say, Cond.code yX7_say cX7_say 3 none, Cond.constantLong RX7 193 (31), Cond.methodLink RX7 109 yX7_lacks, Cond.instanceMethod yX7_lacks, Cond.selects RX7 yX7_lacks yX7_lacks, Cond.code yX7_lacks cX7_lacks 1 (some .boolean), Cond.methodLink RX7 141 yX7_whichOf, Cond.instanceMethod yX7_whichOf, Cond.selects RX7 yX7_whichOf yX7_whichOf, Cond.code yX7_whichOf cX7_whichOf 5 (some .int), Cond.fieldLink RX7 78 "JamDaysModel" "tastedMany" "I", Cond.fieldLink RX7 22 "JamDaysModel" "tastes" "[I", Cond.methodLink RX7 148 yX7_tryOf, Cond.instanceMethod yX7_tryOf, Cond.selects RX7 yX7_tryOf yX7_tryOf, Cond.code yX7_tryOf cX7_tryOf 8 (some .int)]
def wsX7_digest_r3 : List Cond := [Cond.methodLink RX7 144 yX7_likeIn, Cond.instanceMethod yX7_likeIn, Cond.selects RX7 yX7_likeIn yX7_likeIn, Cond.code yX7_likeIn cX7_likeIn 6 (some .int), Cond.methodLink RX7 190 yX7_countOf, Cond.instanceMethod yX7_countOf, Cond.selects RX7 yX7_countOf yX7_countOf, Cond.code yX7_countOf cX7_countOf 2 (some .int), Cond.fieldLink RX7 69 "JamDaysModel" "joy" "I", Cond.fieldLink RX7 72 "JamDaysModel" "eaten" "I", Cond.fieldLink RX7 75 "JamDaysModel" "taken" "I", Cond.fieldLink RX7 81 "JamDaysModel" "lardersRead" "I", Cond.fieldLink RX7 131 "JamDaysModel" "bestDone" "I", Cond.methodLink RX7 119 yX7_spoonsAll, Cond.instanceMethod yX7_spoonsAll, Cond.selects RX7 yX7_spoonsAll yX7_spoonsAll, Cond.code yX7_spoonsAll cX7_spoonsAll 3 (some .int), Cond.methodLink RX7 187 yX7_emptyMany, Cond.instanceMethod yX7_emptyMany, Cond.selects RX7 yX7_emptyMany yX7_emptyMany, Cond.code yX7_emptyMany cX7_emptyMany 3 (some .int)]
def wsX7_digest : List Cond := .code yX7_digest cX7_digest 3 (some .long) :: ((wsX7_digest_r1 ++ (wsX7_digest_r2 ++ wsX7_digest_r3)) ++ wsX70)
def wsJ9_max_7cf53 : List Cond := .code yJ9_max_7cf53 cJ9_max_7cf53 2 (some .int) :: ([])
def wsJ9_min_7cf53 : List Cond := .code yJ9_min_7cf53 cJ9_min_7cf53 2 (some .int) :: ([])
def wsL_law_r1 : List Cond := [Cond.classLink RL 7 RX6, Cond.instantiable RX6 12, Cond.initialized RX6, Cond.classLink RL 10 RX7, Cond.instantiable RX7 25, Cond.initialized RX7, Cond.methodLink RL 9 yX6_init, Cond.instanceMethod yX6_init, Cond.code yX6_init cX6_init 1 none, Cond.methodLink RX6 3 objectInit, Cond.instanceMethod objectInit, Cond.code objectInit ⟨#[0xb1]⟩ 1 none, Cond.arrayClass .int, Cond.fieldLink RX6 9 "JamDays" "page" "[I", Cond.fieldLink RX6 13 "JamDays" "pageSize" "I", Cond.classLink RX6 17 RX3, Cond.fieldLink RX6 19 "JamDays" "jars" "[LJamDays$Jar;", Cond.fieldLink RX6 23 "JamDays" "jarCount" "I", Cond.classLink RX6 26 RX1, Cond.instantiable RX1 9, Cond.initialized RX1, Cond.fieldLink RX6 29 "JamDays" "now" "LJamDays$Days;", Cond.fieldLink RX6 33 "JamDays" "kept" "LJamDays$Days;", Cond.fieldLink RX6 36 "JamDays" "would" "LJamDays$Days;"]
def wsL_law_r2 : List Cond := [Cond.fieldLink RX6 39 "JamDays" "hasImage" "Z", Cond.fieldLink RX6 43 "JamDays" "lardersRead" "I", Cond.fieldLink RX6 46 "JamDays" "bestsDone" "I", Cond.fieldLink RX6 49 "JamDays" "most" "[I", Cond.fieldLink RX6 52 "JamDays" "nextWorths" "[I", Cond.instanceMethod yX1_init, Cond.code yX1_init cX1_init 1 none, Cond.methodLink RX1 3 objectInit, Cond.fieldLink RX1 9 "JamDays$Days" "year" "I", Cond.fieldLink RX1 15 "JamDays$Days" "eaten" "I", Cond.fieldLink RX1 18 "JamDays$Days" "lost" "I", Cond.fieldLink RX1 21 "JamDays$Days" "joy" "I", Cond.fieldLink RX1 24 "JamDays$Days" "tasted" "I", Cond.fieldLink RX1 27 "JamDays$Days" "spoons" "[I", Cond.fieldLink RX1 31 "JamDays$Days" "eatenNow" "[I", Cond.fieldLink RX1 34 "JamDays$Days" "tastedYear" "[I", Cond.fieldLink RX1 37 "JamDays$Days" "tastedWorth" "[I", Cond.methodLink RL 12 yX7_init, Cond.instanceMethod yX7_init, Cond.code yX7_init cX7_init 1 none, Cond.methodLink RX7 1 objectInit, Cond.fieldLink RX7 7 "JamDaysModel" "page" "[I", Cond.fieldLink RX7 13 "JamDaysModel" "rows" "[I", Cond.fieldLink RX7 16 "JamDaysModel" "table" "[I"]
def wsL_law_r3 : List Cond := [Cond.fieldLink RX7 19 "JamDaysModel" "counts" "[I", Cond.fieldLink RX7 22 "JamDaysModel" "tastes" "[I", Cond.fieldLink RX7 25 "JamDaysModel" "savedRows" "[I", Cond.fieldLink RX7 28 "JamDaysModel" "keptRows" "[I", Cond.fieldLink RX7 31 "JamDaysModel" "keptTastes" "[I", Cond.fieldLink RX7 34 "JamDaysModel" "keptLarder" "I", Cond.methodLink RL 13 yX6_letter, Cond.instanceMethod yX6_letter, Cond.selects RX6 yX6_letter yX6_letter, Cond.code yX6_letter cX6_letter 2 (some .int), Cond.methodLink RL 17 yX7_letter, Cond.instanceMethod yX7_letter, Cond.selects RX7 yX7_letter yX7_letter, Cond.code yX7_letter cX7_letter 2 (some .int), Cond.constantLong RX7 38 (126), Cond.fieldLink RX7 44 "JamDaysModel" "pageMany" "I", Cond.methodLink RX7 40 yX7_in, Cond.static yX7_in, Cond.code yX7_in cX7_in 6 (some .boolean), Cond.methodLink RL 18 yX6_blank, Cond.instanceMethod yX6_blank, Cond.selects RX6 yX6_blank yX6_blank, Cond.code yX6_blank cX6_blank 2 (some .int), Cond.methodLink RL 22 yX7_blank]
def wsL_law_r4 : List Cond := [Cond.instanceMethod yX7_blank, Cond.selects RX7 yX7_blank yX7_blank, Cond.code yX7_blank cX7_blank 2 (some .int), Cond.methodLink RL 23 yX6_fault, Cond.instanceMethod yX6_fault, Cond.selects RX6 yX6_fault yX6_fault, Cond.code yX6_fault cX6_fault 2 (some .int), Cond.methodLink RX6 55 yX6_codeAt, Cond.instanceMethod yX6_codeAt, Cond.selects RX6 yX6_codeAt yX6_codeAt, Cond.code yX6_codeAt cX6_codeAt 2 (some .int), Cond.methodLink RX6 59 yX6_fits, Cond.static yX6_fits, Cond.code yX6_fits cX6_fits 2 (some .boolean), Cond.methodLink RX6 197 yX6_isKindLetter, Cond.static yX6_isKindLetter, Cond.code yX6_isKindLetter cX6_isKindLetter 1 (some .boolean), Cond.methodLink RL 26 yX7_fault, Cond.instanceMethod yX7_fault, Cond.selects RX7 yX7_fault yX7_fault, Cond.code yX7_fault cX7_fault 1 (some .int), Cond.methodLink RX7 59 yX7_faultOf, Cond.instanceMethod yX7_faultOf, Cond.selects RX7 yX7_faultOf yX7_faultOf]
def wsL_law_r5 : List Cond := [Cond.code yX7_faultOf cX7_faultOf 2 (some .int), Cond.methodLink RX7 55 yX7_isGood, Cond.static yX7_isGood, Cond.code yX7_isGood cX7_isGood 2 (some .boolean), Cond.constantLong RX7 51 (48), Cond.constantLong RX7 53 (57), Cond.methodLink RX7 47 yX7_kindBy, Cond.static yX7_kindBy, Cond.code yX7_kindBy cX7_kindBy 1 (some .int), Cond.methodLink RL 27 yX6_larder, Cond.instanceMethod yX6_larder, Cond.selects RX6 yX6_larder yX6_larder, Cond.code yX6_larder cX6_larder 2 (some .int), Cond.methodLink RX6 63 yX6_pageIsLarder, Cond.instanceMethod yX6_pageIsLarder, Cond.selects RX6 yX6_pageIsLarder yX6_pageIsLarder, Cond.code yX6_pageIsLarder cX6_pageIsLarder 2 (some .boolean), Cond.methodLink RX6 200 yX6_fault, Cond.methodLink RX6 67 yX6_readJar, Cond.instanceMethod yX6_readJar, Cond.selects RX6 yX6_readJar yX6_readJar, Cond.code yX6_readJar cX6_readJar 4 (some (.object "JamDays$Jar")), Cond.classLink RX6 203 RX5, Cond.instantiable RX5 3]
def wsL_law_r6 : List Cond := [Cond.initialized RX5, Cond.classLink RX6 208 RX0, Cond.instantiable RX0 3, Cond.initialized RX0, Cond.classLink RX6 211 RX4, Cond.instantiable RX4 3, Cond.initialized RX4, Cond.classLink RX6 214 RX2, Cond.instantiable RX2 3, Cond.initialized RX2, Cond.instantiable RX3 3, Cond.initialized RX3, Cond.methodLink RX6 205 yX5_init, Cond.instanceMethod yX5_init, Cond.code yX5_init cX5_init 3 none, Cond.methodLink RX5 9 yX3_init_, Cond.instanceMethod yX3_init_, Cond.code yX3_init_ cX3_init_ 4 none, Cond.methodLink RX3 13 objectInit, Cond.fieldLink RX3 18 "JamDays$Jar" "good" "I", Cond.fieldLink RX3 22 "JamDays$Jar" "sugar" "I", Cond.fieldLink RX3 25 "JamDays$Jar" "mouldEachYear" "I", Cond.methodLink RX6 210 yX0_init, Cond.instanceMethod yX0_init]
def wsL_law_r7 : List Cond := [Cond.code yX0_init cX0_init 3 none, Cond.methodLink RX0 3 yX3_init_, Cond.methodLink RX6 213 yX4_init, Cond.instanceMethod yX4_init, Cond.code yX4_init cX4_init 3 none, Cond.methodLink RX4 3 yX3_init, Cond.instanceMethod yX3_init, Cond.code yX3_init cX3_init 3 none, Cond.methodLink RX3 3 yX3_plainMould, Cond.static yX3_plainMould, Cond.code yX3_plainMould cX3_plainMould 1 (some .int), Cond.methodLink RX3 28 Lib.Math.max.name, Cond.static Lib.Math.max.name, Cond.initialized "java/lang/Math", Cond.code Lib.Math.max.name Lib.Math.max.code 2 (some .int), Cond.methodLink RX3 9 yX3_init_, Cond.methodLink RX6 216 yX2_init, Cond.instanceMethod yX2_init, Cond.code yX2_init cX2_init 3 none, Cond.methodLink RX2 3 yX0_init, Cond.methodLink RX6 217 yX3_init, Cond.methodLink RX6 71 yX1_startAnew, Cond.instanceMethod yX1_startAnew, Cond.selects RX1 yX1_startAnew yX1_startAnew]
def wsL_law_r8 : List Cond := [Cond.code yX1_startAnew cX1_startAnew 3 none, Cond.methodLink RL 30 yX7_larder, Cond.instanceMethod yX7_larder, Cond.selects RX7 yX7_larder yX7_larder, Cond.code yX7_larder cX7_larder 2 (some .int), Cond.fieldLink RX7 63 "JamDaysModel" "jars" "I", Cond.fieldLink RX7 66 "JamDaysModel" "yearNow" "I", Cond.fieldLink RX7 69 "JamDaysModel" "joy" "I", Cond.fieldLink RX7 72 "JamDaysModel" "eaten" "I", Cond.fieldLink RX7 75 "JamDaysModel" "taken" "I", Cond.fieldLink RX7 78 "JamDaysModel" "tastedMany" "I", Cond.fieldLink RX7 81 "JamDaysModel" "lardersRead" "I", Cond.methodLink RL 31 yX6_jar, Cond.instanceMethod yX6_jar, Cond.selects RX6 yX6_jar yX6_jar, Cond.code yX6_jar cX6_jar 4 (some .int), Cond.fieldLink RX6 82 "JamDays$Jar" "good" "I", Cond.fieldLink RX6 85 "JamDays$Jar" "sugar" "I", Cond.fieldLink RX6 91 "JamDays$Days" "year" "I", Cond.methodLink RX6 75 yX6_find, Cond.instanceMethod yX6_find, Cond.selects RX6 yX6_find yX6_find, Cond.code yX6_find cX6_find 2 (some (.object "JamDays$Jar")), Cond.methodLink RX6 78 ⟨"JamDays$Jar", "kindNumber", "()I"⟩]
def wsL_law_r9 : List Cond := [Cond.sameMethod "JamDays$Jar" "JamDays$Jar" "kindNumber" "()I", Cond.instanceMethod ⟨"JamDays$Jar", "kindNumber", "()I"⟩, Cond.selects RX0 ⟨"JamDays$Jar", "kindNumber", "()I"⟩ yX0_kindNumber, Cond.instanceMethod yX0_kindNumber, Cond.code yX0_kindNumber cX0_kindNumber 1 (some .int), Cond.code yX3_kindNumber cX3_kindNumber 1 (some .int), Cond.selects RX2 ⟨"JamDays$Jar", "kindNumber", "()I"⟩ yX2_kindNumber, Cond.instanceMethod yX2_kindNumber, Cond.code yX2_kindNumber cX2_kindNumber 1 (some .int), Cond.methodLink RX6 78 yX3_kindNumber, Cond.instanceMethod yX3_kindNumber, Cond.selects RX3 yX3_kindNumber yX3_kindNumber, Cond.selects RX4 ⟨"JamDays$Jar", "kindNumber", "()I"⟩ yX4_kindNumber, Cond.instanceMethod yX4_kindNumber, Cond.code yX4_kindNumber cX4_kindNumber 1 (some .int), Cond.selects RX5 ⟨"JamDays$Jar", "kindNumber", "()I"⟩ yX5_kindNumber, Cond.instanceMethod yX5_kindNumber, Cond.code yX5_kindNumber cX5_kindNumber 1 (some .int), Cond.methodLink RX6 88 yX1_spoonsOf, Cond.instanceMethod yX1_spoonsOf, Cond.selects RX1 yX1_spoonsOf yX1_spoonsOf, Cond.code yX1_spoonsOf cX1_spoonsOf 2 (some .int), Cond.methodLink RX6 94 ⟨"JamDays$Jar", "mouldIn", "(I)I"⟩, Cond.sameMethod "JamDays$Jar" "JamDays$Jar" "mouldIn" "(I)I"]
def wsL_law_r10 : List Cond := [Cond.selects RX0 ⟨"JamDays$Jar", "mouldIn", "(I)I"⟩ yX3_mouldIn, Cond.instanceMethod yX3_mouldIn, Cond.code yX3_mouldIn cX3_mouldIn 3 (some .int), Cond.selects RX2 ⟨"JamDays$Jar", "mouldIn", "(I)I"⟩ yX3_mouldIn, Cond.methodLink RX6 94 yX3_mouldIn, Cond.selects RX3 yX3_mouldIn yX3_mouldIn, Cond.selects RX4 ⟨"JamDays$Jar", "mouldIn", "(I)I"⟩ yX3_mouldIn, Cond.selects RX5 ⟨"JamDays$Jar", "mouldIn", "(I)I"⟩ yX3_mouldIn, Cond.methodLink RX6 97 yX6_nextWorth, Cond.instanceMethod yX6_nextWorth, Cond.selects RX6 yX6_nextWorth yX6_nextWorth, Cond.code yX6_nextWorth cX6_nextWorth 2 (some .int), Cond.methodLink RX6 114 yX6_firstWorth, Cond.instanceMethod yX6_firstWorth, Cond.selects RX6 yX6_firstWorth yX6_firstWorth, Cond.code yX6_firstWorth cX6_firstWorth 4 (some .int), Cond.methodLink RX6 218 ⟨"JamDays$Jar", "firstWorthIn", "(I)I"⟩, Cond.sameMethod "JamDays$Jar" "JamDays$Jar" "firstWorthIn" "(I)I", Cond.selects RX0 ⟨"JamDays$Jar", "firstWorthIn", "(I)I"⟩ yX3_firstWorthIn, Cond.instanceMethod yX3_firstWorthIn, Cond.code yX3_firstWorthIn cX3_firstWorthIn 2 (some .int), Cond.methodLink RX3 34 ⟨"JamDays$Jar", "mouldIn", "(I)I"⟩, Cond.methodLink RX3 34 yX3_mouldIn, Cond.instanceMethod ⟨"JamDays$Jar", "firstWorthIn", "(I)I"⟩]
def wsL_law_r11 : List Cond := [Cond.selects RX2 ⟨"JamDays$Jar", "firstWorthIn", "(I)I"⟩ yX2_firstWorthIn, Cond.instanceMethod yX2_firstWorthIn, Cond.code yX2_firstWorthIn cX2_firstWorthIn 2 (some .int), Cond.fieldLink RX2 9 "JamDays$Gold" "good" "I", Cond.sameField "JamDays$Gold" "JamDays$Jar" "good" "I", Cond.methodLink RX2 15 ⟨"JamDays$Gold", "mouldIn", "(I)I"⟩, Cond.sameMethod "JamDays$Gold" "JamDays$Jar" "mouldIn" "(I)I", Cond.selects RX2 ⟨"JamDays$Gold", "mouldIn", "(I)I"⟩ yX3_mouldIn, Cond.methodLink RX6 218 yX3_firstWorthIn, Cond.selects RX3 yX3_firstWorthIn yX3_firstWorthIn, Cond.selects RX4 ⟨"JamDays$Jar", "firstWorthIn", "(I)I"⟩ yX4_firstWorthIn, Cond.instanceMethod yX4_firstWorthIn, Cond.code yX4_firstWorthIn cX4_firstWorthIn 3 (some .int), Cond.fieldLink RX4 9 "JamDays$Plum" "good" "I", Cond.sameField "JamDays$Plum" "JamDays$Jar" "good" "I", Cond.methodLink RX4 15 ⟨"JamDays$Plum", "mouldIn", "(I)I"⟩, Cond.sameMethod "JamDays$Plum" "JamDays$Jar" "mouldIn" "(I)I", Cond.selects RX4 ⟨"JamDays$Plum", "mouldIn", "(I)I"⟩ yX3_mouldIn, Cond.selects RX5 ⟨"JamDays$Jar", "firstWorthIn", "(I)I"⟩ yX3_firstWorthIn, Cond.methodLink RX6 100 yX1_eatenNowOf, Cond.instanceMethod yX1_eatenNowOf, Cond.selects RX1 yX1_eatenNowOf yX1_eatenNowOf, Cond.code yX1_eatenNowOf cX1_eatenNowOf 2 (some .int), Cond.methodLink RX6 103 yX6_yearsToBest]
def wsL_law_r12 : List Cond := [Cond.instanceMethod yX6_yearsToBest, Cond.selects RX6 yX6_yearsToBest yX6_yearsToBest, Cond.code yX6_yearsToBest cX6_yearsToBest 4 (some .int), Cond.methodLink RL 35 yX7_jar, Cond.instanceMethod yX7_jar, Cond.selects RX7 yX7_jar yX7_jar, Cond.code yX7_jar cX7_jar 3 (some .int), Cond.methodLink RX7 98 yX7_isJar, Cond.instanceMethod yX7_isJar, Cond.selects RX7 yX7_isJar yX7_isJar, Cond.code yX7_isJar cX7_isJar 2 (some .boolean), Cond.methodLink RX7 102 yX7_tell, Cond.instanceMethod yX7_tell, Cond.selects RX7 yX7_tell yX7_tell, Cond.code yX7_tell cX7_tell 3 (some .int), Cond.methodLink RX7 84 yX7_mouldIn, Cond.instanceMethod yX7_mouldIn, Cond.selects RX7 yX7_mouldIn yX7_mouldIn, Cond.code yX7_mouldIn cX7_mouldIn 6 (some .int), Cond.methodLink RX7 92 yX7_nextNow, Cond.instanceMethod yX7_nextNow, Cond.selects RX7 yX7_nextNow yX7_nextNow, Cond.code yX7_nextNow cX7_nextNow 2 (some .int), Cond.methodLink RX7 88 yX7_firstIn]
def wsL_law_r13 : List Cond := [Cond.instanceMethod yX7_firstIn, Cond.selects RX7 yX7_firstIn yX7_firstIn, Cond.code yX7_firstIn cX7_firstIn 5 (some .int), Cond.methodLink RX7 95 yX7_whenOf, Cond.instanceMethod yX7_whenOf, Cond.selects RX7 yX7_whenOf yX7_whenOf, Cond.code yX7_whenOf cX7_whenOf 6 (some .int), Cond.constant RX7 91 (-99999), Cond.methodLink RL 36 yX6_as, Cond.instanceMethod yX6_as, Cond.selects RX6 yX6_as yX6_as, Cond.code yX6_as cX6_as 4 (some .int), Cond.methodLink RX6 106 yX6_isOfKind, Cond.static yX6_isOfKind, Cond.code yX6_isOfKind cX6_isOfKind 2 (some .boolean), Cond.classLink RX6 203 "JamDays$Weak", Cond.classLink RX6 208 "JamDays$Copper", Cond.classLink RX6 211 "JamDays$Plum", Cond.classLink RX6 214 "JamDays$Gold", Cond.methodLink RL 39 yX7_as, Cond.instanceMethod yX7_as, Cond.selects RX7 yX7_as yX7_as, Cond.code yX7_as cX7_as 5 (some .int), Cond.constantLong RX7 105 (4)]
def wsL_law_r14 : List Cond := [Cond.methodLink RL 40 yX6_worth, Cond.instanceMethod yX6_worth, Cond.selects RX6 yX6_worth yX6_worth, Cond.code yX6_worth cX6_worth 3 (some .int), Cond.methodLink RX6 110 yX6_isNoYear, Cond.static yX6_isNoYear, Cond.code yX6_isNoYear cX6_isNoYear 1 (some .boolean), Cond.methodLink RL 43 yX7_worth, Cond.instanceMethod yX7_worth, Cond.selects RX7 yX7_worth yX7_worth, Cond.code yX7_worth cX7_worth 3 (some .int), Cond.constantLong RX7 107 (99), Cond.methodLink RL 44 yX6_eat, Cond.instanceMethod yX6_eat, Cond.selects RX6 yX6_eat yX6_eat, Cond.code yX6_eat cX6_eat 3 (some .int), Cond.methodLink RX6 118 yX1_eatSpoon, Cond.instanceMethod yX1_eatSpoon, Cond.selects RX1 yX1_eatSpoon yX1_eatSpoon, Cond.code yX1_eatSpoon cX1_eatSpoon 3 (some .boolean), Cond.methodLink RX1 40 yX1_spoonsOf, Cond.methodLink RL 47 yX7_eat, Cond.instanceMethod yX7_eat, Cond.selects RX7 yX7_eat yX7_eat]
def wsL_law_r15 : List Cond := [Cond.code yX7_eat cX7_eat 3 (some .int), Cond.methodLink RL 48 yX6_wasps, Cond.instanceMethod yX6_wasps, Cond.selects RX6 yX6_wasps yX6_wasps, Cond.code yX6_wasps cX6_wasps 2 (some .int), Cond.methodLink RX6 121 yX1_loseSpoon, Cond.instanceMethod yX1_loseSpoon, Cond.selects RX1 yX1_loseSpoon yX1_loseSpoon, Cond.code yX1_loseSpoon cX1_loseSpoon 2 (some .boolean), Cond.methodLink RL 51 yX7_wasps, Cond.instanceMethod yX7_wasps, Cond.selects RX7 yX7_wasps yX7_wasps, Cond.code yX7_wasps cX7_wasps 2 (some .int), Cond.methodLink RL 52 yX6_year, Cond.instanceMethod yX6_year, Cond.selects RX6 yX6_year yX6_year, Cond.code yX6_year cX6_year 1 (some .int), Cond.methodLink RX6 124 yX6_hasNoLarder, Cond.instanceMethod yX6_hasNoLarder, Cond.selects RX6 yX6_hasNoLarder yX6_hasNoLarder, Cond.code yX6_hasNoLarder cX6_hasNoLarder 1 (some .boolean), Cond.methodLink RX6 127 yX1_passYear, Cond.instanceMethod yX1_passYear, Cond.selects RX1 yX1_passYear yX1_passYear]
def wsL_law_r16 : List Cond := [Cond.code yX1_passYear cX1_passYear 2 none, Cond.methodLink RL 55 yX7_year, Cond.instanceMethod yX7_year, Cond.selects RX7 yX7_year yX7_year, Cond.code yX7_year cX7_year 1 (some .int), Cond.methodLink RX7 109 yX7_lacks, Cond.instanceMethod yX7_lacks, Cond.selects RX7 yX7_lacks yX7_lacks, Cond.code yX7_lacks cX7_lacks 1 (some .boolean), Cond.methodLink RX7 113 yX7_noneEaten, Cond.instanceMethod yX7_noneEaten, Cond.selects RX7 yX7_noneEaten yX7_noneEaten, Cond.code yX7_noneEaten cX7_noneEaten 2 none, Cond.methodLink RL 56 yX6_best, Cond.instanceMethod yX6_best, Cond.selects RX6 yX6_best yX6_best, Cond.code yX6_best cX6_best 5 (some .int), Cond.constant RX6 136 (-1000000), Cond.methodLink RX6 130 yX6_fillMost, Cond.instanceMethod yX6_fillMost, Cond.selects RX6 yX6_fillMost yX6_fillMost, Cond.code yX6_fillMost cX6_fillMost 3 none, Cond.methodLink RX6 225 Lib.Math.min.name, Cond.static Lib.Math.min.name]
def wsL_law_r17 : List Cond := [Cond.code Lib.Math.min.name Lib.Math.min.code 2 (some .int), Cond.methodLink RX6 221 yX6_setMost, Cond.instanceMethod yX6_setMost, Cond.selects RX6 yX6_setMost yX6_setMost, Cond.code yX6_setMost cX6_setMost 4 none, Cond.methodLink RX6 243 yX6_isInMost, Cond.static yX6_isInMost, Cond.code yX6_isInMost cX6_isInMost 2 (some .boolean), Cond.methodLink RX6 230 yX6_mostFrom, Cond.instanceMethod yX6_mostFrom, Cond.selects RX6 yX6_mostFrom yX6_mostFrom, Cond.code yX6_mostFrom cX6_mostFrom 5 (some .int), Cond.methodLink RX6 237 Lib.Math.max.name, Cond.methodLink RX6 233 yX6_worthWithPick, Cond.instanceMethod yX6_worthWithPick, Cond.selects RX6 yX6_worthWithPick yX6_worthWithPick, Cond.code yX6_worthWithPick cX6_worthWithPick 5 (some .int), Cond.methodLink RX6 133 yX6_mostWorth, Cond.instanceMethod yX6_mostWorth, Cond.selects RX6 yX6_mostWorth yX6_mostWorth, Cond.code yX6_mostWorth cX6_mostWorth 3 (some .int), Cond.methodLink RX6 137 yX6_pickOf, Cond.instanceMethod yX6_pickOf, Cond.selects RX6 yX6_pickOf yX6_pickOf]
def wsL_law_r18 : List Cond := [Cond.code yX6_pickOf cX6_pickOf 5 (some .int), Cond.methodLink RX6 240 yX6_fewestPick, Cond.instanceMethod yX6_fewestPick, Cond.selects RX6 yX6_fewestPick yX6_fewestPick, Cond.code yX6_fewestPick cX6_fewestPick 4 (some .int), Cond.methodLink RL 59 yX7_best, Cond.instanceMethod yX7_best, Cond.selects RX7 yX7_best yX7_best, Cond.code yX7_best cX7_best 3 (some .int), Cond.constantLong RX7 125 (12), Cond.constantLong RX7 127 (10), Cond.constantLong RX7 129 (15), Cond.fieldLink RX7 131 "JamDaysModel" "bestDone" "I", Cond.methodLink RX7 134 yX7_bestOf, Cond.instanceMethod yX7_bestOf, Cond.selects RX7 yX7_bestOf yX7_bestOf, Cond.code yX7_bestOf cX7_bestOf 6 (some .int), Cond.methodLink RX7 119 yX7_spoonsAll, Cond.instanceMethod yX7_spoonsAll, Cond.selects RX7 yX7_spoonsAll yX7_spoonsAll, Cond.code yX7_spoonsAll cX7_spoonsAll 3 (some .int), Cond.methodLink RX7 122 yX7_layTable, Cond.instanceMethod yX7_layTable, Cond.selects RX7 yX7_layTable yX7_layTable]
def wsL_law_r19 : List Cond := [Cond.code yX7_layTable cX7_layTable 6 none, Cond.methodLink RX7 116 yX7_worthOf, Cond.instanceMethod yX7_worthOf, Cond.selects RX7 yX7_worthOf yX7_worthOf, Cond.code yX7_worthOf cX7_worthOf 3 (some .int), Cond.methodLink RL 60 yX6_taste, Cond.instanceMethod yX6_taste, Cond.selects RX6 yX6_taste yX6_taste, Cond.code yX6_taste cX6_taste 3 (some .int), Cond.fieldLink RX6 143 "JamDays$Days" "tasted" "I", Cond.methodLink RX6 140 yX1_addTaste, Cond.instanceMethod yX1_addTaste, Cond.selects RX1 yX1_addTaste yX1_addTaste, Cond.code yX1_addTaste cX1_addTaste 3 (some .boolean), Cond.methodLink RL 63 yX7_taste, Cond.instanceMethod yX7_taste, Cond.selects RX7 yX7_taste yX7_taste, Cond.code yX7_taste cX7_taste 3 (some .int), Cond.constantLong RX7 137 (-20), Cond.constantLong RX7 139 (30), Cond.methodLink RL 64 yX6_forget, Cond.instanceMethod yX6_forget, Cond.selects RX6 yX6_forget yX6_forget, Cond.code yX6_forget cX6_forget 2 (some .int)]
def wsL_law_r20 : List Cond := [Cond.methodLink RL 67 yX7_forget, Cond.instanceMethod yX7_forget, Cond.selects RX7 yX7_forget yX7_forget, Cond.code yX7_forget cX7_forget 2 (some .int), Cond.methodLink RL 68 yX6_which, Cond.instanceMethod yX6_which, Cond.selects RX6 yX6_which yX6_which, Cond.code yX6_which cX6_which 1 (some .int), Cond.methodLink RX6 146 yX6_candidates, Cond.instanceMethod yX6_candidates, Cond.selects RX6 yX6_candidates yX6_candidates, Cond.code yX6_candidates cX6_candidates 3 (some .int), Cond.methodLink RX6 246 yX6_agreesWithTastes, Cond.instanceMethod yX6_agreesWithTastes, Cond.selects RX6 yX6_agreesWithTastes yX6_agreesWithTastes, Cond.code yX6_agreesWithTastes cX6_agreesWithTastes 3 (some .boolean), Cond.fieldLink RX6 249 "JamDays$Days" "tastedYear" "[I", Cond.fieldLink RX6 252 "JamDays$Days" "tastedWorth" "[I", Cond.methodLink RL 71 yX7_which, Cond.instanceMethod yX7_which, Cond.selects RX7 yX7_which yX7_which, Cond.code yX7_which cX7_which 1 (some .int), Cond.methodLink RX7 141 yX7_whichOf, Cond.instanceMethod yX7_whichOf]
def wsL_law_r21 : List Cond := [Cond.selects RX7 yX7_whichOf yX7_whichOf, Cond.code yX7_whichOf cX7_whichOf 5 (some .int), Cond.methodLink RL 72 yX6_tasteNext, Cond.instanceMethod yX6_tasteNext, Cond.selects RX6 yX6_tasteNext yX6_tasteNext, Cond.code yX6_tasteNext cX6_tasteNext 6 (some .int), Cond.methodLink RX6 149 yX6_leftAtWorst, Cond.instanceMethod yX6_leftAtWorst, Cond.selects RX6 yX6_leftAtWorst yX6_leftAtWorst, Cond.code yX6_leftAtWorst cX6_leftAtWorst 5 (some .int), Cond.methodLink RX6 255 yX6_isOpen, Cond.static yX6_isOpen, Cond.code yX6_isOpen cX6_isOpen 2 (some .boolean), Cond.methodLink RX6 258 yX6_openJarsLike, Cond.instanceMethod yX6_openJarsLike, Cond.selects RX6 yX6_openJarsLike yX6_openJarsLike, Cond.code yX6_openJarsLike cX6_openJarsLike 6 (some .int), Cond.methodLink RL 75 yX7_tasteNext, Cond.instanceMethod yX7_tasteNext, Cond.selects RX7 yX7_tasteNext yX7_tasteNext, Cond.code yX7_tasteNext cX7_tasteNext 1 (some .int), Cond.methodLink RX7 148 yX7_tryOf, Cond.instanceMethod yX7_tryOf, Cond.selects RX7 yX7_tryOf yX7_tryOf]
def wsL_law_r22 : List Cond := [Cond.code yX7_tryOf cX7_tryOf 8 (some .int), Cond.methodLink RX7 144 yX7_likeIn, Cond.instanceMethod yX7_likeIn, Cond.selects RX7 yX7_likeIn yX7_likeIn, Cond.code yX7_likeIn cX7_likeIn 6 (some .int), Cond.methodLink RL 76 yX6_times, Cond.instanceMethod yX6_times, Cond.selects RX6 yX6_times yX6_times, Cond.code yX6_times cX6_times 5 (some .int), Cond.fieldLink RX6 158 "JamDays$Days" "joy" "I", Cond.methodLink RX6 152 yX6_liveOn, Cond.instanceMethod yX6_liveOn, Cond.selects RX6 yX6_liveOn yX6_liveOn, Cond.code yX6_liveOn cX6_liveOn 6 (some .int), Cond.methodLink RX6 161 yX1_copyFrom, Cond.instanceMethod yX1_copyFrom, Cond.selects RX1 yX1_copyFrom yX1_copyFrom, Cond.code yX1_copyFrom cX1_copyFrom 3 none, Cond.methodLink RX6 261 yX6_nextSeed, Cond.static yX6_nextSeed, Cond.code yX6_nextSeed cX6_nextSeed 1 (some .int), Cond.constantLong RX6 267 (1103515245), Cond.constantLong RX6 269 (12345), Cond.constantLong RX6 271 (2147483648)]
def wsL_law_r23 : List Cond := [Cond.methodLink RX6 264 yX6_draw, Cond.instanceMethod yX6_draw, Cond.selects RX6 yX6_draw yX6_draw, Cond.code yX6_draw cX6_draw 2 (some .int), Cond.constantLong RX6 273 (65536), Cond.methodLink RX6 155 yX1_spoonsOfAll, Cond.instanceMethod yX1_spoonsOfAll, Cond.selects RX1 yX1_spoonsOfAll yX1_spoonsOfAll, Cond.code yX1_spoonsOfAll cX1_spoonsOfAll 3 (some .int), Cond.methodLink RL 80 yX7_times, Cond.instanceMethod yX7_times, Cond.selects RX7 yX7_times yX7_times, Cond.code yX7_times cX7_times 9 (some .int), Cond.constantLong RX7 161 (60), Cond.constantLong RX7 163 (2), Cond.fieldLink RX7 153 "JamDaysModel" "seedNow" "I", Cond.methodLink RX7 165 yX7_copy, Cond.static yX7_copy, Cond.code yX7_copy cX7_copy 3 none, Cond.methodLink RX7 169 yX7_draw, Cond.instanceMethod yX7_draw, Cond.selects RX7 yX7_draw yX7_draw, Cond.code yX7_draw cX7_draw 2 (some .int), Cond.constantLong RX7 151 (1103515245)]
def wsL_law_r24 : List Cond := [Cond.constantLong RX7 156 (12345), Cond.constantLong RX7 158 (2147483647), Cond.constant RX7 160 (65536), Cond.methodLink RL 81 yX6_image, Cond.instanceMethod yX6_image, Cond.selects RX6 yX6_image yX6_image, Cond.code yX6_image cX6_image 1 (some .int), Cond.methodLink RL 84 yX7_image, Cond.instanceMethod yX7_image, Cond.selects RX7 yX7_image yX7_image, Cond.code yX7_image cX7_image 1 (some .int), Cond.fieldLink RX7 172 "JamDaysModel" "keptYear" "I", Cond.fieldLink RX7 175 "JamDaysModel" "keptJoy" "I", Cond.fieldLink RX7 178 "JamDaysModel" "keptEaten" "I", Cond.fieldLink RX7 181 "JamDaysModel" "keptTaken" "I", Cond.fieldLink RX7 184 "JamDaysModel" "keptTasted" "I", Cond.methodLink RL 85 yX6_restore, Cond.instanceMethod yX6_restore, Cond.selects RX6 yX6_restore yX6_restore, Cond.code yX6_restore cX6_restore 1 (some .int), Cond.methodLink RL 88 yX7_restore, Cond.instanceMethod yX7_restore, Cond.selects RX7 yX7_restore yX7_restore, Cond.code yX7_restore cX7_restore 1 (some .int)]
def wsL_law_r25 : List Cond := [Cond.methodLink RL 89 yX6_count, Cond.instanceMethod yX6_count, Cond.selects RX6 yX6_count yX6_count, Cond.code yX6_count cX6_count 2 (some .int), Cond.fieldLink RX6 168 "JamDays$Days" "eaten" "I", Cond.fieldLink RX6 171 "JamDays$Days" "lost" "I", Cond.methodLink RX6 165 yX6_emptyJars, Cond.instanceMethod yX6_emptyJars, Cond.selects RX6 yX6_emptyJars yX6_emptyJars, Cond.code yX6_emptyJars cX6_emptyJars 3 (some .int), Cond.methodLink RL 92 yX7_count, Cond.instanceMethod yX7_count, Cond.selects RX7 yX7_count yX7_count, Cond.code yX7_count cX7_count 2 (some .int), Cond.methodLink RX7 190 yX7_countOf, Cond.instanceMethod yX7_countOf, Cond.selects RX7 yX7_countOf yX7_countOf, Cond.code yX7_countOf cX7_countOf 2 (some .int), Cond.methodLink RX7 187 yX7_emptyMany, Cond.instanceMethod yX7_emptyMany, Cond.selects RX7 yX7_emptyMany yX7_emptyMany, Cond.code yX7_emptyMany cX7_emptyMany 3 (some .int), Cond.methodLink RL 93 yX6_digest, Cond.instanceMethod yX6_digest]
def wsL_law_r26 : List Cond := [Cond.selects RX6 yX6_digest yX6_digest, Cond.code yX6_digest cX6_digest 5 (some .long), Cond.constantLong RX6 174 (1031), Cond.methodLink RX6 176 yX6_jar, Cond.methodLink RX6 179 yX6_mix, Cond.static yX6_mix, Cond.code yX6_mix cX6_mix 3 (some .long), Cond.constantLong RX6 195 (31), Cond.methodLink RX6 183 yX6_worth, Cond.methodLink RX6 186 yX6_which, Cond.methodLink RX6 189 yX6_tasteNext, Cond.methodLink RX6 192 yX6_count, Cond.methodLink RL 97 yX7_digest, Cond.instanceMethod yX7_digest, Cond.selects RX7 yX7_digest yX7_digest, Cond.code yX7_digest cX7_digest 3 (some .long), Cond.constantLong RX7 199 (1031), Cond.fieldLink RX7 195 "JamDaysModel" "hash" "J", Cond.methodLink RX7 201 yX7_say, Cond.instanceMethod yX7_say, Cond.selects RX7 yX7_say yX7_say, Cond.code yX7_say cX7_say 3 none, Cond.constantLong RX7 193 (31)]
def wsL_law : List Cond := (wsL_law_r1 ++ (wsL_law_r2 ++ (wsL_law_r3 ++ (wsL_law_r4 ++ (wsL_law_r5 ++ (wsL_law_r6 ++ (wsL_law_r7 ++ (wsL_law_r8 ++ (wsL_law_r9 ++ (wsL_law_r10 ++ (wsL_law_r11 ++ (wsL_law_r12 ++ (wsL_law_r13 ++ (wsL_law_r14 ++ (wsL_law_r15 ++ (wsL_law_r16 ++ (wsL_law_r17 ++ (wsL_law_r18 ++ (wsL_law_r19 ++ (wsL_law_r20 ++ (wsL_law_r21 ++ (wsL_law_r22 ++ (wsL_law_r23 ++ (wsL_law_r24 ++ (wsL_law_r25 ++ wsL_law_r26))))))))))))))))))))))))) ++ wsX60 ++ wsX70 ++ wsX10 ++ wsX50 ++ wsX00 ++ wsX40 ++ wsX20 ++ wsX30 ++ ([] : List Cond)
abbrev vwCl : List vw_C := [(RX0, TX0, 3), (RX1, TX1, 9), (RX2, TX2, 3), (RX3, TX3, 3), (RX4, TX4, 3), (RX5, TX5, 3), (RX6, TX6, 12), (RX7, TX7, 25)]
end
section
set_option maxRecDepth 20000 in
theorem jin_wsL_law_r1 : ∀ w ∈ wsL_law_r1, w ∈ lw_tbl := fun w h => (goodIn_p wsL_law_r1 [56, 59] (by decide +kernel) (by decide +kernel) w h).1
set_option maxRecDepth 20000 in
theorem jin_wsL_law_r2 : ∀ w ∈ wsL_law_r2, w ∈ lw_tbl := fun w h => (goodIn_p wsL_law_r2 [66, 510] (by decide +kernel) (by decide +kernel) w h).1
set_option maxRecDepth 20000 in
theorem jin_wsL_law_r3 : ∀ w ∈ wsL_law_r3, w ∈ lw_tbl := fun w h => (goodIn_p wsL_law_r3 [144, 591, 595, 148] (by decide +kernel) (by decide +kernel) w h).1
set_option maxRecDepth 20000 in
theorem jin_wsL_law_r4 : ∀ w ∈ wsL_law_r4, w ∈ lw_tbl := fun w h => (goodIn_p wsL_law_r4 [599, 152, 156, 159, 162, 603] (by decide +kernel) (by decide +kernel) w h).1
set_option maxRecDepth 20000 in
theorem jin_wsL_law_r5 : ∀ w ∈ wsL_law_r5, w ∈ lw_tbl := fun w h => (goodIn_p wsL_law_r5 [607, 610, 613, 166, 170, 175] (by decide +kernel) (by decide +kernel) w h).1
set_option maxRecDepth 20000 in
theorem jin_wsL_law_r6 : ∀ w ∈ wsL_law_r6, w ∈ lw_tbl := fun w h => (goodIn_p wsL_law_r6 [180, 190] (by decide +kernel) (by decide +kernel) w h).1
set_option maxRecDepth 20000 in
theorem jin_wsL_law_r7 : ∀ w ∈ wsL_law_r7, w ∈ lw_tbl := fun w h => (goodIn_p wsL_law_r7 [212, 222, 225, 184, 187, 236] (by decide +kernel) (by decide +kernel) w h).1
set_option maxRecDepth 20000 in
theorem jin_wsL_law_r8 : ∀ w ∈ wsL_law_r8, w ∈ lw_tbl := fun w h => (goodIn_p wsL_law_r8 [251, 619, 255, 259] (by decide +kernel) (by decide +kernel) w h).1
set_option maxRecDepth 20000 in
theorem jin_wsL_law_r9 : ∀ w ∈ wsL_law_r9, w ∈ lw_tbl := fun w h => (goodIn_p wsL_law_r9 [266, 276, 269, 272, 275, 280] (by decide +kernel) (by decide +kernel) w h).1
set_option maxRecDepth 20000 in
theorem jin_wsL_law_r10 : ∀ w ∈ wsL_law_r10, w ∈ lw_tbl := fun w h => (goodIn_p wsL_law_r10 [289, 293, 297, 317] (by decide +kernel) (by decide +kernel) w h).1
set_option maxRecDepth 20000 in
theorem jin_wsL_law_r11 : ∀ w ∈ wsL_law_r11, w ∈ lw_tbl := fun w h => (goodIn_p wsL_law_r11 [305, 312, 322] (by decide +kernel) (by decide +kernel) w h).1
set_option maxRecDepth 20000 in
theorem jin_wsL_law_r12 : ∀ w ∈ wsL_law_r12, w ∈ lw_tbl := fun w h => (goodIn_p wsL_law_r12 [326, 623, 627, 631, 635, 639] (by decide +kernel) (by decide +kernel) w h).1
set_option maxRecDepth 20000 in
theorem jin_wsL_law_r13 : ∀ w ∈ wsL_law_r13, w ∈ lw_tbl := fun w h => (goodIn_p wsL_law_r13 [643, 647, 330, 333, 652] (by decide +kernel) (by decide +kernel) w h).1
set_option maxRecDepth 20000 in
theorem jin_wsL_law_r14 : ∀ w ∈ wsL_law_r14, w ∈ lw_tbl := fun w h => (goodIn_p wsL_law_r14 [337, 340, 657, 344, 348] (by decide +kernel) (by decide +kernel) w h).1
set_option maxRecDepth 20000 in
theorem jin_wsL_law_r15 : ∀ w ∈ wsL_law_r15, w ∈ lw_tbl := fun w h => (goodIn_p wsL_law_r15 [662, 353, 357, 666, 361, 365] (by decide +kernel) (by decide +kernel) w h).1
set_option maxRecDepth 20000 in
theorem jin_wsL_law_r16 : ∀ w ∈ wsL_law_r16, w ∈ lw_tbl := fun w h => (goodIn_p wsL_law_r16 [369, 670, 674, 678, 373, 377] (by decide +kernel) (by decide +kernel) w h).1
set_option maxRecDepth 20000 in
theorem jin_wsL_law_r17 : ∀ w ∈ wsL_law_r17, w ∈ lw_tbl := fun w h => (goodIn_p wsL_law_r17 [388, 382, 385, 392, 396, 400] (by decide +kernel) (by decide +kernel) w h).1
set_option maxRecDepth 20000 in
theorem jin_wsL_law_r18 : ∀ w ∈ wsL_law_r18, w ∈ lw_tbl := fun w h => (goodIn_p wsL_law_r18 [405, 409, 682, 689, 693] (by decide +kernel) (by decide +kernel) w h).1
set_option maxRecDepth 20000 in
theorem jin_wsL_law_r19 : ∀ w ∈ wsL_law_r19, w ∈ lw_tbl := fun w h => (goodIn_p wsL_law_r19 [697, 701, 413, 417, 705, 421] (by decide +kernel) (by decide +kernel) w h).1
set_option maxRecDepth 20000 in
theorem jin_wsL_law_r20 : ∀ w ∈ wsL_law_r20, w ∈ lw_tbl := fun w h => (goodIn_p wsL_law_r20 [711, 425, 429, 433, 715] (by decide +kernel) (by decide +kernel) w h).1
set_option maxRecDepth 20000 in
theorem jin_wsL_law_r21 : ∀ w ∈ wsL_law_r21, w ∈ lw_tbl := fun w h => (goodIn_p wsL_law_r21 [719, 437, 441, 444, 448, 723] (by decide +kernel) (by decide +kernel) w h).1
set_option maxRecDepth 20000 in
theorem jin_wsL_law_r22 : ∀ w ∈ wsL_law_r22, w ∈ lw_tbl := fun w h => (goodIn_p wsL_law_r22 [727, 731, 452, 456, 460, 463] (by decide +kernel) (by decide +kernel) w h).1
set_option maxRecDepth 20000 in
theorem jin_wsL_law_r23 : ∀ w ∈ wsL_law_r23, w ∈ lw_tbl := fun w h => (goodIn_p wsL_law_r23 [470, 475, 735, 740, 744] (by decide +kernel) (by decide +kernel) w h).1
set_option maxRecDepth 20000 in
theorem jin_wsL_law_r24 : ∀ w ∈ wsL_law_r24, w ∈ lw_tbl := fun w h => (goodIn_p wsL_law_r24 [479, 752, 483, 756] (by decide +kernel) (by decide +kernel) w h).1
set_option maxRecDepth 20000 in
theorem jin_wsL_law_r25 : ∀ w ∈ wsL_law_r25, w ∈ lw_tbl := fun w h => (goodIn_p wsL_law_r25 [487, 491, 760, 764, 768] (by decide +kernel) (by decide +kernel) w h).1
set_option maxRecDepth 20000 in
theorem jin_wsL_law_r26 : ∀ w ∈ wsL_law_r26, w ∈ lw_tbl := fun w h => (goodIn_p wsL_law_r26 [495, 500, 772, 777] (by decide +kernel) (by decide +kernel) w h).1
set_option maxRecDepth 20000 in
theorem jin_wsX60 : ∀ w ∈ wsX60, w ∈ lw_tbl := by decide +kernel
set_option maxRecDepth 20000 in
theorem jin_wsX70 : ∀ w ∈ wsX70, w ∈ lw_tbl := by decide +kernel
set_option maxRecDepth 20000 in
theorem jin_wsX10 : ∀ w ∈ wsX10, w ∈ lw_tbl := by decide +kernel
set_option maxRecDepth 20000 in
theorem jin_wsX50 : ∀ w ∈ wsX50, w ∈ lw_tbl := by decide +kernel
set_option maxRecDepth 20000 in
theorem jin_wsX00 : ∀ w ∈ wsX00, w ∈ lw_tbl := by decide +kernel
set_option maxRecDepth 20000 in
theorem jin_wsX40 : ∀ w ∈ wsX40, w ∈ lw_tbl := by decide +kernel
set_option maxRecDepth 20000 in
theorem jin_wsX20 : ∀ w ∈ wsX20, w ∈ lw_tbl := by decide +kernel
set_option maxRecDepth 20000 in
theorem jin_wsX30 : ∀ w ∈ wsX30, w ∈ lw_tbl := by decide +kernel
theorem wsL_law_in : ∀ w ∈ wsL_law, w ∈ lw_tbl := by
  intro w h
  unfold wsL_law at h
  simp only [List.mem_append] at h
  rcases h with (((((((((h | h | h | h | h | h | h | h | h | h | h | h | h | h | h | h | h | h | h | h | h | h | h | h | h | h) | h) | h) | h) | h) | h) | h) | h) | h) | h
  · exact jin_wsL_law_r1 w h
  · exact jin_wsL_law_r2 w h
  · exact jin_wsL_law_r3 w h
  · exact jin_wsL_law_r4 w h
  · exact jin_wsL_law_r5 w h
  · exact jin_wsL_law_r6 w h
  · exact jin_wsL_law_r7 w h
  · exact jin_wsL_law_r8 w h
  · exact jin_wsL_law_r9 w h
  · exact jin_wsL_law_r10 w h
  · exact jin_wsL_law_r11 w h
  · exact jin_wsL_law_r12 w h
  · exact jin_wsL_law_r13 w h
  · exact jin_wsL_law_r14 w h
  · exact jin_wsL_law_r15 w h
  · exact jin_wsL_law_r16 w h
  · exact jin_wsL_law_r17 w h
  · exact jin_wsL_law_r18 w h
  · exact jin_wsL_law_r19 w h
  · exact jin_wsL_law_r20 w h
  · exact jin_wsL_law_r21 w h
  · exact jin_wsL_law_r22 w h
  · exact jin_wsL_law_r23 w h
  · exact jin_wsL_law_r24 w h
  · exact jin_wsL_law_r25 w h
  · exact jin_wsL_law_r26 w h
  · exact jin_wsX60 w h
  · exact jin_wsX70 w h
  · exact jin_wsX10 w h
  · exact jin_wsX50 w h
  · exact jin_wsX00 w h
  · exact jin_wsX40 w h
  · exact jin_wsX20 w h
  · exact jin_wsX30 w h
  · exact absurd h List.not_mem_nil
theorem inlX0 : ∀ w ∈ wsX00, w ∈ wsL_law := fun _ h => List.mem_append_left _ (List.mem_append_left _ (List.mem_append_left _ (List.mem_append_left _ (List.mem_append_right _ h))))
theorem inX0 : ∀ w ∈ wsX00, w ∈ lw_tbl := fun w h => wsL_law_in w (inlX0 w h)
theorem inlX1 : ∀ w ∈ wsX10, w ∈ wsL_law := fun _ h => List.mem_append_left _ (List.mem_append_left _ (List.mem_append_left _ (List.mem_append_left _ (List.mem_append_left _ (List.mem_append_left _ (List.mem_append_right _ h))))))
theorem inX1 : ∀ w ∈ wsX10, w ∈ lw_tbl := fun w h => wsL_law_in w (inlX1 w h)
theorem inlX2 : ∀ w ∈ wsX20, w ∈ wsL_law := fun _ h => List.mem_append_left _ (List.mem_append_left _ (List.mem_append_right _ h))
theorem inX2 : ∀ w ∈ wsX20, w ∈ lw_tbl := fun w h => wsL_law_in w (inlX2 w h)
theorem inlX3 : ∀ w ∈ wsX30, w ∈ wsL_law := fun _ h => List.mem_append_left _ (List.mem_append_right _ h)
theorem inX3 : ∀ w ∈ wsX30, w ∈ lw_tbl := fun w h => wsL_law_in w (inlX3 w h)
theorem inlX4 : ∀ w ∈ wsX40, w ∈ wsL_law := fun _ h => List.mem_append_left _ (List.mem_append_left _ (List.mem_append_left _ (List.mem_append_right _ h)))
theorem inX4 : ∀ w ∈ wsX40, w ∈ lw_tbl := fun w h => wsL_law_in w (inlX4 w h)
theorem inlX5 : ∀ w ∈ wsX50, w ∈ wsL_law := fun _ h => List.mem_append_left _ (List.mem_append_left _ (List.mem_append_left _ (List.mem_append_left _ (List.mem_append_left _ (List.mem_append_right _ h)))))
theorem inX5 : ∀ w ∈ wsX50, w ∈ lw_tbl := fun w h => wsL_law_in w (inlX5 w h)
theorem inlX6 : ∀ w ∈ wsX60, w ∈ wsL_law := fun _ h => List.mem_append_left _ (List.mem_append_left _ (List.mem_append_left _ (List.mem_append_left _ (List.mem_append_left _ (List.mem_append_left _ (List.mem_append_left _ (List.mem_append_left _ (List.mem_append_right _ h))))))))
theorem inX6 : ∀ w ∈ wsX60, w ∈ lw_tbl := fun w h => wsL_law_in w (inlX6 w h)
theorem inlX7 : ∀ w ∈ wsX70, w ∈ wsL_law := fun _ h => List.mem_append_left _ (List.mem_append_left _ (List.mem_append_left _ (List.mem_append_left _ (List.mem_append_left _ (List.mem_append_left _ (List.mem_append_left _ (List.mem_append_right _ h)))))))
theorem inX7 : ∀ w ∈ wsX70, w ∈ lw_tbl := fun w h => wsL_law_in w (inlX7 w h)
theorem inJ9 : ∀ w ∈ wsJ90, w ∈ lw_tbl := by decide +kernel
end
section
set_option maxRecDepth 20000 in
theorem ggX0_init_X3_init_ : GoodIn wsX0_init wsX3_init_ := goodIn_r _ [4, 5, 6, 7, 8, 9, 10, 11, 12, 13, 14, 15, 16, 17, 18, 19, 20, 21, 22, 23, 24, 25] (by decide +kernel) (by decide +kernel)
set_option maxRecDepth 20000 in
theorem gX0_init_X3_init_ : GoodIn wsX0_init (wsX3_init_) := ggX0_init_X3_init_
theorem dX0_init_0 : decode cX0_init 0 = .ok (.aload_n 0, 1) := by decide +kernel
theorem dX0_init_1 : decode cX0_init 1 = .ok (.iload_n 1, 1) := by decide +kernel
theorem dX0_init_2 : decode cX0_init 2 = .ok (.iload_n 2, 1) := by decide +kernel
theorem dX0_init_3 : decode cX0_init 3 = .ok (.iconst 0, 1) := by decide +kernel
theorem dX0_init_4 : decode cX0_init 4 = .ok (.invokespecial 3, 3) := by decide +kernel
theorem dX0_init_7 : decode cX0_init 7 = .ok (.return_, 1) := by decide +kernel
theorem dX0_kindNumber_0 : decode cX0_kindNumber 0 = .ok (.iconst 2, 1) := by decide +kernel
theorem dX0_kindNumber_1 : decode cX0_kindNumber 1 = .ok (.ireturn, 1) := by decide +kernel
theorem dX1_init_0 : decode cX1_init 0 = .ok (.aload_n 0, 1) := by decide +kernel
theorem dX1_init_1 : decode cX1_init 1 = .ok (.invokespecial 3, 3) := by decide +kernel
theorem dX1_init_4 : decode cX1_init 4 = .ok (.aload_n 0, 1) := by decide +kernel
theorem dX1_init_5 : decode cX1_init 5 = .ok (.iconst 0, 1) := by decide +kernel
theorem dX1_init_6 : decode cX1_init 6 = .ok (.putfield 9, 3) := by decide +kernel
theorem dX1_init_9 : decode cX1_init 9 = .ok (.aload_n 0, 1) := by decide +kernel
theorem dX1_init_10 : decode cX1_init 10 = .ok (.iconst 0, 1) := by decide +kernel
theorem dX1_init_11 : decode cX1_init 11 = .ok (.putfield 15, 3) := by decide +kernel
theorem dX1_init_14 : decode cX1_init 14 = .ok (.aload_n 0, 1) := by decide +kernel
theorem dX1_init_15 : decode cX1_init 15 = .ok (.iconst 0, 1) := by decide +kernel
theorem dX1_init_16 : decode cX1_init 16 = .ok (.putfield 18, 3) := by decide +kernel
theorem dX1_init_19 : decode cX1_init 19 = .ok (.aload_n 0, 1) := by decide +kernel
theorem dX1_init_20 : decode cX1_init 20 = .ok (.iconst 0, 1) := by decide +kernel
theorem dX1_init_21 : decode cX1_init 21 = .ok (.putfield 21, 3) := by decide +kernel
theorem dX1_init_24 : decode cX1_init 24 = .ok (.aload_n 0, 1) := by decide +kernel
theorem dX1_init_25 : decode cX1_init 25 = .ok (.iconst 0, 1) := by decide +kernel
theorem dX1_init_26 : decode cX1_init 26 = .ok (.putfield 24, 3) := by decide +kernel
theorem dX1_init_29 : decode cX1_init 29 = .ok (.aload_n 0, 1) := by decide +kernel
theorem dX1_init_30 : decode cX1_init 30 = .ok (.bipush 6, 2) := by decide +kernel
theorem dX1_init_32 : decode cX1_init 32 = .ok (.newarray .int, 2) := by decide +kernel
theorem dX1_init_34 : decode cX1_init 34 = .ok (.putfield 27, 3) := by decide +kernel
theorem dX1_init_37 : decode cX1_init 37 = .ok (.aload_n 0, 1) := by decide +kernel
theorem dX1_init_38 : decode cX1_init 38 = .ok (.bipush 6, 2) := by decide +kernel
theorem dX1_init_40 : decode cX1_init 40 = .ok (.newarray .int, 2) := by decide +kernel
theorem dX1_init_42 : decode cX1_init 42 = .ok (.putfield 31, 3) := by decide +kernel
theorem dX1_init_45 : decode cX1_init 45 = .ok (.aload_n 0, 1) := by decide +kernel
theorem dX1_init_46 : decode cX1_init 46 = .ok (.bipush 6, 2) := by decide +kernel
theorem dX1_init_48 : decode cX1_init 48 = .ok (.newarray .int, 2) := by decide +kernel
theorem dX1_init_50 : decode cX1_init 50 = .ok (.putfield 34, 3) := by decide +kernel
theorem dX1_init_53 : decode cX1_init 53 = .ok (.aload_n 0, 1) := by decide +kernel
theorem dX1_init_54 : decode cX1_init 54 = .ok (.bipush 6, 2) := by decide +kernel
theorem dX1_init_56 : decode cX1_init 56 = .ok (.newarray .int, 2) := by decide +kernel
theorem dX1_init_58 : decode cX1_init 58 = .ok (.putfield 37, 3) := by decide +kernel
theorem dX1_init_61 : decode cX1_init 61 = .ok (.return_, 1) := by decide +kernel
theorem dX1_startAnew_0 : decode cX1_startAnew 0 = .ok (.aload_n 0, 1) := by decide +kernel
theorem dX1_startAnew_1 : decode cX1_startAnew 1 = .ok (.iconst 0, 1) := by decide +kernel
theorem dX1_startAnew_2 : decode cX1_startAnew 2 = .ok (.putfield 9, 3) := by decide +kernel
theorem dX1_startAnew_5 : decode cX1_startAnew 5 = .ok (.aload_n 0, 1) := by decide +kernel
theorem dX1_startAnew_6 : decode cX1_startAnew 6 = .ok (.iconst 0, 1) := by decide +kernel
theorem dX1_startAnew_7 : decode cX1_startAnew 7 = .ok (.putfield 15, 3) := by decide +kernel
theorem dX1_startAnew_10 : decode cX1_startAnew 10 = .ok (.aload_n 0, 1) := by decide +kernel
theorem dX1_startAnew_11 : decode cX1_startAnew 11 = .ok (.iconst 0, 1) := by decide +kernel
theorem dX1_startAnew_12 : decode cX1_startAnew 12 = .ok (.putfield 18, 3) := by decide +kernel
theorem dX1_startAnew_15 : decode cX1_startAnew 15 = .ok (.aload_n 0, 1) := by decide +kernel
theorem dX1_startAnew_16 : decode cX1_startAnew 16 = .ok (.iconst 0, 1) := by decide +kernel
theorem dX1_startAnew_17 : decode cX1_startAnew 17 = .ok (.putfield 21, 3) := by decide +kernel
theorem dX1_startAnew_20 : decode cX1_startAnew 20 = .ok (.aload_n 0, 1) := by decide +kernel
theorem dX1_startAnew_21 : decode cX1_startAnew 21 = .ok (.iconst 0, 1) := by decide +kernel
theorem dX1_startAnew_22 : decode cX1_startAnew 22 = .ok (.putfield 24, 3) := by decide +kernel
theorem dX1_startAnew_25 : decode cX1_startAnew 25 = .ok (.iconst 0, 1) := by decide +kernel
theorem dX1_startAnew_26 : decode cX1_startAnew 26 = .ok (.istore_n 2, 1) := by decide +kernel
theorem dX1_startAnew_27 : decode cX1_startAnew 27 = .ok (.iload_n 2, 1) := by decide +kernel
theorem dX1_startAnew_28 : decode cX1_startAnew 28 = .ok (.bipush 6, 2) := by decide +kernel
theorem dX1_startAnew_30 : decode cX1_startAnew 30 = .ok (.if_icmp .ge 33, 3) := by decide +kernel
theorem dX1_startAnew_33 : decode cX1_startAnew 33 = .ok (.aload_n 0, 1) := by decide +kernel
theorem dX1_startAnew_34 : decode cX1_startAnew 34 = .ok (.getfield 27, 3) := by decide +kernel
theorem dX1_startAnew_37 : decode cX1_startAnew 37 = .ok (.iload_n 2, 1) := by decide +kernel
theorem dX1_startAnew_38 : decode cX1_startAnew 38 = .ok (.iload_n 2, 1) := by decide +kernel
theorem dX1_startAnew_39 : decode cX1_startAnew 39 = .ok (.iload_n 1, 1) := by decide +kernel
theorem dX1_startAnew_40 : decode cX1_startAnew 40 = .ok (.if_icmp .ge 8, 3) := by decide +kernel
theorem dX1_startAnew_43 : decode cX1_startAnew 43 = .ok (.bipush 12, 2) := by decide +kernel
theorem dX1_startAnew_45 : decode cX1_startAnew 45 = .ok (.goto 4, 3) := by decide +kernel
theorem dX1_startAnew_48 : decode cX1_startAnew 48 = .ok (.iconst 0, 1) := by decide +kernel
theorem dX1_startAnew_49 : decode cX1_startAnew 49 = .ok (.iastore, 1) := by decide +kernel
theorem dX1_startAnew_50 : decode cX1_startAnew 50 = .ok (.aload_n 0, 1) := by decide +kernel
theorem dX1_startAnew_51 : decode cX1_startAnew 51 = .ok (.getfield 31, 3) := by decide +kernel
theorem dX1_startAnew_54 : decode cX1_startAnew 54 = .ok (.iload_n 2, 1) := by decide +kernel
theorem dX1_startAnew_55 : decode cX1_startAnew 55 = .ok (.iconst 0, 1) := by decide +kernel
theorem dX1_startAnew_56 : decode cX1_startAnew 56 = .ok (.iastore, 1) := by decide +kernel
theorem dX1_startAnew_57 : decode cX1_startAnew 57 = .ok (.iinc 2 1, 3) := by decide +kernel
theorem dX1_startAnew_60 : decode cX1_startAnew 60 = .ok (.goto (-33), 3) := by decide +kernel
theorem dX1_startAnew_63 : decode cX1_startAnew 63 = .ok (.return_, 1) := by decide +kernel
theorem dX1_copyFrom_0 : decode cX1_copyFrom 0 = .ok (.aload_n 1, 1) := by decide +kernel
theorem dX1_copyFrom_1 : decode cX1_copyFrom 1 = .ok (.ifnonnull 4, 3) := by decide +kernel
theorem dX1_copyFrom_4 : decode cX1_copyFrom 4 = .ok (.return_, 1) := by decide +kernel
theorem dX1_copyFrom_5 : decode cX1_copyFrom 5 = .ok (.aload_n 0, 1) := by decide +kernel
theorem dX1_copyFrom_6 : decode cX1_copyFrom 6 = .ok (.aload_n 1, 1) := by decide +kernel
theorem dX1_copyFrom_7 : decode cX1_copyFrom 7 = .ok (.getfield 9, 3) := by decide +kernel
theorem dX1_copyFrom_10 : decode cX1_copyFrom 10 = .ok (.putfield 9, 3) := by decide +kernel
theorem dX1_copyFrom_13 : decode cX1_copyFrom 13 = .ok (.aload_n 0, 1) := by decide +kernel
theorem dX1_copyFrom_14 : decode cX1_copyFrom 14 = .ok (.aload_n 1, 1) := by decide +kernel
theorem dX1_copyFrom_15 : decode cX1_copyFrom 15 = .ok (.getfield 15, 3) := by decide +kernel
theorem dX1_copyFrom_18 : decode cX1_copyFrom 18 = .ok (.putfield 15, 3) := by decide +kernel
theorem dX1_copyFrom_21 : decode cX1_copyFrom 21 = .ok (.aload_n 0, 1) := by decide +kernel
theorem dX1_copyFrom_22 : decode cX1_copyFrom 22 = .ok (.aload_n 1, 1) := by decide +kernel
theorem dX1_copyFrom_23 : decode cX1_copyFrom 23 = .ok (.getfield 18, 3) := by decide +kernel
theorem dX1_copyFrom_26 : decode cX1_copyFrom 26 = .ok (.putfield 18, 3) := by decide +kernel
theorem dX1_copyFrom_29 : decode cX1_copyFrom 29 = .ok (.aload_n 0, 1) := by decide +kernel
theorem dX1_copyFrom_30 : decode cX1_copyFrom 30 = .ok (.aload_n 1, 1) := by decide +kernel
theorem dX1_copyFrom_31 : decode cX1_copyFrom 31 = .ok (.getfield 21, 3) := by decide +kernel
theorem dX1_copyFrom_34 : decode cX1_copyFrom 34 = .ok (.putfield 21, 3) := by decide +kernel
theorem dX1_copyFrom_37 : decode cX1_copyFrom 37 = .ok (.aload_n 0, 1) := by decide +kernel
theorem dX1_copyFrom_38 : decode cX1_copyFrom 38 = .ok (.aload_n 1, 1) := by decide +kernel
theorem dX1_copyFrom_39 : decode cX1_copyFrom 39 = .ok (.getfield 24, 3) := by decide +kernel
theorem dX1_copyFrom_42 : decode cX1_copyFrom 42 = .ok (.putfield 24, 3) := by decide +kernel
theorem dX1_copyFrom_45 : decode cX1_copyFrom 45 = .ok (.iconst 0, 1) := by decide +kernel
theorem dX1_copyFrom_46 : decode cX1_copyFrom 46 = .ok (.istore_n 2, 1) := by decide +kernel
theorem dX1_copyFrom_47 : decode cX1_copyFrom 47 = .ok (.iload_n 2, 1) := by decide +kernel
theorem dX1_copyFrom_48 : decode cX1_copyFrom 48 = .ok (.bipush 6, 2) := by decide +kernel
theorem dX1_copyFrom_50 : decode cX1_copyFrom 50 = .ok (.if_icmp .ge 33, 3) := by decide +kernel
theorem dX1_copyFrom_53 : decode cX1_copyFrom 53 = .ok (.aload_n 0, 1) := by decide +kernel
theorem dX1_copyFrom_54 : decode cX1_copyFrom 54 = .ok (.getfield 27, 3) := by decide +kernel
theorem dX1_copyFrom_57 : decode cX1_copyFrom 57 = .ok (.iload_n 2, 1) := by decide +kernel
theorem dX1_copyFrom_58 : decode cX1_copyFrom 58 = .ok (.aload_n 1, 1) := by decide +kernel
theorem dX1_copyFrom_59 : decode cX1_copyFrom 59 = .ok (.getfield 27, 3) := by decide +kernel
theorem dX1_copyFrom_62 : decode cX1_copyFrom 62 = .ok (.iload_n 2, 1) := by decide +kernel
theorem dX1_copyFrom_63 : decode cX1_copyFrom 63 = .ok (.iaload, 1) := by decide +kernel
theorem dX1_copyFrom_64 : decode cX1_copyFrom 64 = .ok (.iastore, 1) := by decide +kernel
theorem dX1_copyFrom_65 : decode cX1_copyFrom 65 = .ok (.aload_n 0, 1) := by decide +kernel
theorem dX1_copyFrom_66 : decode cX1_copyFrom 66 = .ok (.getfield 31, 3) := by decide +kernel
theorem dX1_copyFrom_69 : decode cX1_copyFrom 69 = .ok (.iload_n 2, 1) := by decide +kernel
theorem dX1_copyFrom_70 : decode cX1_copyFrom 70 = .ok (.aload_n 1, 1) := by decide +kernel
theorem dX1_copyFrom_71 : decode cX1_copyFrom 71 = .ok (.getfield 31, 3) := by decide +kernel
theorem dX1_copyFrom_74 : decode cX1_copyFrom 74 = .ok (.iload_n 2, 1) := by decide +kernel
theorem dX1_copyFrom_75 : decode cX1_copyFrom 75 = .ok (.iaload, 1) := by decide +kernel
theorem dX1_copyFrom_76 : decode cX1_copyFrom 76 = .ok (.iastore, 1) := by decide +kernel
theorem dX1_copyFrom_77 : decode cX1_copyFrom 77 = .ok (.iinc 2 1, 3) := by decide +kernel
theorem dX1_copyFrom_80 : decode cX1_copyFrom 80 = .ok (.goto (-33), 3) := by decide +kernel
theorem dX1_copyFrom_83 : decode cX1_copyFrom 83 = .ok (.iconst 0, 1) := by decide +kernel
theorem dX1_copyFrom_84 : decode cX1_copyFrom 84 = .ok (.istore_n 2, 1) := by decide +kernel
theorem dX1_copyFrom_85 : decode cX1_copyFrom 85 = .ok (.iload_n 2, 1) := by decide +kernel
theorem dX1_copyFrom_86 : decode cX1_copyFrom 86 = .ok (.bipush 6, 2) := by decide +kernel
theorem dX1_copyFrom_88 : decode cX1_copyFrom 88 = .ok (.if_icmp .ge 33, 3) := by decide +kernel
theorem dX1_copyFrom_91 : decode cX1_copyFrom 91 = .ok (.aload_n 0, 1) := by decide +kernel
theorem dX1_copyFrom_92 : decode cX1_copyFrom 92 = .ok (.getfield 34, 3) := by decide +kernel
theorem dX1_copyFrom_95 : decode cX1_copyFrom 95 = .ok (.iload_n 2, 1) := by decide +kernel
theorem dX1_copyFrom_96 : decode cX1_copyFrom 96 = .ok (.aload_n 1, 1) := by decide +kernel
theorem dX1_copyFrom_97 : decode cX1_copyFrom 97 = .ok (.getfield 34, 3) := by decide +kernel
theorem dX1_copyFrom_100 : decode cX1_copyFrom 100 = .ok (.iload_n 2, 1) := by decide +kernel
theorem dX1_copyFrom_101 : decode cX1_copyFrom 101 = .ok (.iaload, 1) := by decide +kernel
theorem dX1_copyFrom_102 : decode cX1_copyFrom 102 = .ok (.iastore, 1) := by decide +kernel
theorem dX1_copyFrom_103 : decode cX1_copyFrom 103 = .ok (.aload_n 0, 1) := by decide +kernel
theorem dX1_copyFrom_104 : decode cX1_copyFrom 104 = .ok (.getfield 37, 3) := by decide +kernel
theorem dX1_copyFrom_107 : decode cX1_copyFrom 107 = .ok (.iload_n 2, 1) := by decide +kernel
theorem dX1_copyFrom_108 : decode cX1_copyFrom 108 = .ok (.aload_n 1, 1) := by decide +kernel
theorem dX1_copyFrom_109 : decode cX1_copyFrom 109 = .ok (.getfield 37, 3) := by decide +kernel
theorem dX1_copyFrom_112 : decode cX1_copyFrom 112 = .ok (.iload_n 2, 1) := by decide +kernel
theorem dX1_copyFrom_113 : decode cX1_copyFrom 113 = .ok (.iaload, 1) := by decide +kernel
theorem dX1_copyFrom_114 : decode cX1_copyFrom 114 = .ok (.iastore, 1) := by decide +kernel
theorem dX1_copyFrom_115 : decode cX1_copyFrom 115 = .ok (.iinc 2 1, 3) := by decide +kernel
theorem dX1_copyFrom_118 : decode cX1_copyFrom 118 = .ok (.goto (-33), 3) := by decide +kernel
theorem dX1_copyFrom_121 : decode cX1_copyFrom 121 = .ok (.return_, 1) := by decide +kernel
theorem dX1_spoonsOf_0 : decode cX1_spoonsOf 0 = .ok (.iload_n 1, 1) := by decide +kernel
theorem dX1_spoonsOf_1 : decode cX1_spoonsOf 1 = .ok (.ifCond .lt 18, 3) := by decide +kernel
theorem dX1_spoonsOf_4 : decode cX1_spoonsOf 4 = .ok (.iload_n 1, 1) := by decide +kernel
theorem dX1_spoonsOf_5 : decode cX1_spoonsOf 5 = .ok (.bipush 6, 2) := by decide +kernel
theorem dX1_spoonsOf_7 : decode cX1_spoonsOf 7 = .ok (.if_icmp .ge 12, 3) := by decide +kernel
theorem dX1_spoonsOf_10 : decode cX1_spoonsOf 10 = .ok (.aload_n 0, 1) := by decide +kernel
theorem dX1_spoonsOf_11 : decode cX1_spoonsOf 11 = .ok (.getfield 27, 3) := by decide +kernel
theorem dX1_spoonsOf_14 : decode cX1_spoonsOf 14 = .ok (.iload_n 1, 1) := by decide +kernel
theorem dX1_spoonsOf_15 : decode cX1_spoonsOf 15 = .ok (.iaload, 1) := by decide +kernel
theorem dX1_spoonsOf_16 : decode cX1_spoonsOf 16 = .ok (.goto 4, 3) := by decide +kernel
theorem dX1_spoonsOf_19 : decode cX1_spoonsOf 19 = .ok (.iconst 0, 1) := by decide +kernel
theorem dX1_spoonsOf_20 : decode cX1_spoonsOf 20 = .ok (.ireturn, 1) := by decide +kernel
theorem dX1_eatenNowOf_0 : decode cX1_eatenNowOf 0 = .ok (.iload_n 1, 1) := by decide +kernel
theorem dX1_eatenNowOf_1 : decode cX1_eatenNowOf 1 = .ok (.ifCond .lt 18, 3) := by decide +kernel
theorem dX1_eatenNowOf_4 : decode cX1_eatenNowOf 4 = .ok (.iload_n 1, 1) := by decide +kernel
theorem dX1_eatenNowOf_5 : decode cX1_eatenNowOf 5 = .ok (.bipush 6, 2) := by decide +kernel
theorem dX1_eatenNowOf_7 : decode cX1_eatenNowOf 7 = .ok (.if_icmp .ge 12, 3) := by decide +kernel
theorem dX1_eatenNowOf_10 : decode cX1_eatenNowOf 10 = .ok (.aload_n 0, 1) := by decide +kernel
theorem dX1_eatenNowOf_11 : decode cX1_eatenNowOf 11 = .ok (.getfield 31, 3) := by decide +kernel
theorem dX1_eatenNowOf_14 : decode cX1_eatenNowOf 14 = .ok (.iload_n 1, 1) := by decide +kernel
theorem dX1_eatenNowOf_15 : decode cX1_eatenNowOf 15 = .ok (.iaload, 1) := by decide +kernel
theorem dX1_eatenNowOf_16 : decode cX1_eatenNowOf 16 = .ok (.goto 4, 3) := by decide +kernel
theorem dX1_eatenNowOf_19 : decode cX1_eatenNowOf 19 = .ok (.iconst 0, 1) := by decide +kernel
theorem dX1_eatenNowOf_20 : decode cX1_eatenNowOf 20 = .ok (.ireturn, 1) := by decide +kernel
theorem dX1_spoonsOfAll_0 : decode cX1_spoonsOfAll 0 = .ok (.iconst 0, 1) := by decide +kernel
theorem dX1_spoonsOfAll_1 : decode cX1_spoonsOfAll 1 = .ok (.istore_n 1, 1) := by decide +kernel
theorem dX1_spoonsOfAll_2 : decode cX1_spoonsOfAll 2 = .ok (.iconst 0, 1) := by decide +kernel
theorem dX1_spoonsOfAll_3 : decode cX1_spoonsOfAll 3 = .ok (.istore_n 2, 1) := by decide +kernel
theorem dX1_spoonsOfAll_4 : decode cX1_spoonsOfAll 4 = .ok (.iload_n 2, 1) := by decide +kernel
theorem dX1_spoonsOfAll_5 : decode cX1_spoonsOfAll 5 = .ok (.bipush 6, 2) := by decide +kernel
theorem dX1_spoonsOfAll_7 : decode cX1_spoonsOfAll 7 = .ok (.if_icmp .ge 18, 3) := by decide +kernel
theorem dX1_spoonsOfAll_10 : decode cX1_spoonsOfAll 10 = .ok (.iload_n 1, 1) := by decide +kernel
theorem dX1_spoonsOfAll_11 : decode cX1_spoonsOfAll 11 = .ok (.aload_n 0, 1) := by decide +kernel
theorem dX1_spoonsOfAll_12 : decode cX1_spoonsOfAll 12 = .ok (.getfield 27, 3) := by decide +kernel
theorem dX1_spoonsOfAll_15 : decode cX1_spoonsOfAll 15 = .ok (.iload_n 2, 1) := by decide +kernel
theorem dX1_spoonsOfAll_16 : decode cX1_spoonsOfAll 16 = .ok (.iaload, 1) := by decide +kernel
theorem dX1_spoonsOfAll_17 : decode cX1_spoonsOfAll 17 = .ok (.iadd, 1) := by decide +kernel
theorem dX1_spoonsOfAll_18 : decode cX1_spoonsOfAll 18 = .ok (.istore_n 1, 1) := by decide +kernel
theorem dX1_spoonsOfAll_19 : decode cX1_spoonsOfAll 19 = .ok (.iinc 2 1, 3) := by decide +kernel
theorem dX1_spoonsOfAll_22 : decode cX1_spoonsOfAll 22 = .ok (.goto (-18), 3) := by decide +kernel
theorem dX1_spoonsOfAll_25 : decode cX1_spoonsOfAll 25 = .ok (.iload_n 1, 1) := by decide +kernel
theorem dX1_spoonsOfAll_26 : decode cX1_spoonsOfAll 26 = .ok (.ireturn, 1) := by decide +kernel
set_option maxRecDepth 20000 in
theorem ggX1_eatSpoon_X1_spoonsOf : GoodIn wsX1_eatSpoon wsX1_spoonsOf := goodIn_r _ [9, 1, 10, 11, 12, 13, 14, 15, 16, 17, 18] (by decide +kernel) (by decide +kernel)
set_option maxRecDepth 20000 in
theorem gX1_eatSpoon_X1_spoonsOf : GoodIn wsX1_eatSpoon (wsV RX1 40 RX1 yX1_spoonsOf wsX1_spoonsOf) := goodIn_app (goodIn_of _ (by decide +kernel)) ggX1_eatSpoon_X1_spoonsOf
theorem dX1_eatSpoon_0 : decode cX1_eatSpoon 0 = .ok (.aload_n 0, 1) := by decide +kernel
theorem dX1_eatSpoon_1 : decode cX1_eatSpoon 1 = .ok (.iload_n 1, 1) := by decide +kernel
theorem dX1_eatSpoon_2 : decode cX1_eatSpoon 2 = .ok (.invokevirtual 40, 3) := by decide +kernel
theorem dX1_eatSpoon_5 : decode cX1_eatSpoon 5 = .ok (.ifCond .gt 5, 3) := by decide +kernel
theorem dX1_eatSpoon_8 : decode cX1_eatSpoon 8 = .ok (.iconst 0, 1) := by decide +kernel
theorem dX1_eatSpoon_9 : decode cX1_eatSpoon 9 = .ok (.ireturn, 1) := by decide +kernel
theorem dX1_eatSpoon_10 : decode cX1_eatSpoon 10 = .ok (.aload_n 0, 1) := by decide +kernel
theorem dX1_eatSpoon_11 : decode cX1_eatSpoon 11 = .ok (.getfield 27, 3) := by decide +kernel
theorem dX1_eatSpoon_14 : decode cX1_eatSpoon 14 = .ok (.iload_n 1, 1) := by decide +kernel
theorem dX1_eatSpoon_15 : decode cX1_eatSpoon 15 = .ok (.dup2, 1) := by decide +kernel
theorem dX1_eatSpoon_16 : decode cX1_eatSpoon 16 = .ok (.iaload, 1) := by decide +kernel
theorem dX1_eatSpoon_17 : decode cX1_eatSpoon 17 = .ok (.iconst 1, 1) := by decide +kernel
theorem dX1_eatSpoon_18 : decode cX1_eatSpoon 18 = .ok (.isub, 1) := by decide +kernel
theorem dX1_eatSpoon_19 : decode cX1_eatSpoon 19 = .ok (.iastore, 1) := by decide +kernel
theorem dX1_eatSpoon_20 : decode cX1_eatSpoon 20 = .ok (.aload_n 0, 1) := by decide +kernel
theorem dX1_eatSpoon_21 : decode cX1_eatSpoon 21 = .ok (.getfield 31, 3) := by decide +kernel
theorem dX1_eatSpoon_24 : decode cX1_eatSpoon 24 = .ok (.iload_n 1, 1) := by decide +kernel
theorem dX1_eatSpoon_25 : decode cX1_eatSpoon 25 = .ok (.dup2, 1) := by decide +kernel
theorem dX1_eatSpoon_26 : decode cX1_eatSpoon 26 = .ok (.iaload, 1) := by decide +kernel
theorem dX1_eatSpoon_27 : decode cX1_eatSpoon 27 = .ok (.iconst 1, 1) := by decide +kernel
theorem dX1_eatSpoon_28 : decode cX1_eatSpoon 28 = .ok (.iadd, 1) := by decide +kernel
theorem dX1_eatSpoon_29 : decode cX1_eatSpoon 29 = .ok (.iastore, 1) := by decide +kernel
theorem dX1_eatSpoon_30 : decode cX1_eatSpoon 30 = .ok (.aload_n 0, 1) := by decide +kernel
theorem dX1_eatSpoon_31 : decode cX1_eatSpoon 31 = .ok (.dup, 1) := by decide +kernel
theorem dX1_eatSpoon_32 : decode cX1_eatSpoon 32 = .ok (.getfield 15, 3) := by decide +kernel
theorem dX1_eatSpoon_35 : decode cX1_eatSpoon 35 = .ok (.iconst 1, 1) := by decide +kernel
theorem dX1_eatSpoon_36 : decode cX1_eatSpoon 36 = .ok (.iadd, 1) := by decide +kernel
theorem dX1_eatSpoon_37 : decode cX1_eatSpoon 37 = .ok (.putfield 15, 3) := by decide +kernel
theorem dX1_eatSpoon_40 : decode cX1_eatSpoon 40 = .ok (.aload_n 0, 1) := by decide +kernel
theorem dX1_eatSpoon_41 : decode cX1_eatSpoon 41 = .ok (.dup, 1) := by decide +kernel
theorem dX1_eatSpoon_42 : decode cX1_eatSpoon 42 = .ok (.getfield 21, 3) := by decide +kernel
theorem dX1_eatSpoon_45 : decode cX1_eatSpoon 45 = .ok (.iload_n 2, 1) := by decide +kernel
theorem dX1_eatSpoon_46 : decode cX1_eatSpoon 46 = .ok (.iadd, 1) := by decide +kernel
theorem dX1_eatSpoon_47 : decode cX1_eatSpoon 47 = .ok (.putfield 21, 3) := by decide +kernel
theorem dX1_eatSpoon_50 : decode cX1_eatSpoon 50 = .ok (.iconst 1, 1) := by decide +kernel
theorem dX1_eatSpoon_51 : decode cX1_eatSpoon 51 = .ok (.ireturn, 1) := by decide +kernel
set_option maxRecDepth 20000 in
theorem ggX1_loseSpoon_X1_spoonsOf : GoodIn wsX1_loseSpoon wsX1_spoonsOf := goodIn_r _ [7, 1, 8, 9, 10, 11, 12, 13, 14, 15, 16] (by decide +kernel) (by decide +kernel)
set_option maxRecDepth 20000 in
theorem gX1_loseSpoon_X1_spoonsOf : GoodIn wsX1_loseSpoon (wsV RX1 40 RX1 yX1_spoonsOf wsX1_spoonsOf) := goodIn_app (goodIn_of _ (by decide +kernel)) ggX1_loseSpoon_X1_spoonsOf
theorem dX1_loseSpoon_0 : decode cX1_loseSpoon 0 = .ok (.aload_n 0, 1) := by decide +kernel
theorem dX1_loseSpoon_1 : decode cX1_loseSpoon 1 = .ok (.iload_n 1, 1) := by decide +kernel
theorem dX1_loseSpoon_2 : decode cX1_loseSpoon 2 = .ok (.invokevirtual 40, 3) := by decide +kernel
theorem dX1_loseSpoon_5 : decode cX1_loseSpoon 5 = .ok (.ifCond .gt 5, 3) := by decide +kernel
theorem dX1_loseSpoon_8 : decode cX1_loseSpoon 8 = .ok (.iconst 0, 1) := by decide +kernel
theorem dX1_loseSpoon_9 : decode cX1_loseSpoon 9 = .ok (.ireturn, 1) := by decide +kernel
theorem dX1_loseSpoon_10 : decode cX1_loseSpoon 10 = .ok (.aload_n 0, 1) := by decide +kernel
theorem dX1_loseSpoon_11 : decode cX1_loseSpoon 11 = .ok (.getfield 27, 3) := by decide +kernel
theorem dX1_loseSpoon_14 : decode cX1_loseSpoon 14 = .ok (.iload_n 1, 1) := by decide +kernel
theorem dX1_loseSpoon_15 : decode cX1_loseSpoon 15 = .ok (.dup2, 1) := by decide +kernel
theorem dX1_loseSpoon_16 : decode cX1_loseSpoon 16 = .ok (.iaload, 1) := by decide +kernel
theorem dX1_loseSpoon_17 : decode cX1_loseSpoon 17 = .ok (.iconst 1, 1) := by decide +kernel
theorem dX1_loseSpoon_18 : decode cX1_loseSpoon 18 = .ok (.isub, 1) := by decide +kernel
theorem dX1_loseSpoon_19 : decode cX1_loseSpoon 19 = .ok (.iastore, 1) := by decide +kernel
theorem dX1_loseSpoon_20 : decode cX1_loseSpoon 20 = .ok (.aload_n 0, 1) := by decide +kernel
theorem dX1_loseSpoon_21 : decode cX1_loseSpoon 21 = .ok (.dup, 1) := by decide +kernel
theorem dX1_loseSpoon_22 : decode cX1_loseSpoon 22 = .ok (.getfield 18, 3) := by decide +kernel
theorem dX1_loseSpoon_25 : decode cX1_loseSpoon 25 = .ok (.iconst 1, 1) := by decide +kernel
theorem dX1_loseSpoon_26 : decode cX1_loseSpoon 26 = .ok (.iadd, 1) := by decide +kernel
theorem dX1_loseSpoon_27 : decode cX1_loseSpoon 27 = .ok (.putfield 18, 3) := by decide +kernel
theorem dX1_loseSpoon_30 : decode cX1_loseSpoon 30 = .ok (.iconst 1, 1) := by decide +kernel
theorem dX1_loseSpoon_31 : decode cX1_loseSpoon 31 = .ok (.ireturn, 1) := by decide +kernel
theorem dX1_passYear_0 : decode cX1_passYear 0 = .ok (.aload_n 0, 1) := by decide +kernel
theorem dX1_passYear_1 : decode cX1_passYear 1 = .ok (.dup, 1) := by decide +kernel
theorem dX1_passYear_2 : decode cX1_passYear 2 = .ok (.getfield 9, 3) := by decide +kernel
theorem dX1_passYear_5 : decode cX1_passYear 5 = .ok (.iconst 1, 1) := by decide +kernel
theorem dX1_passYear_6 : decode cX1_passYear 6 = .ok (.iadd, 1) := by decide +kernel
theorem dX1_passYear_7 : decode cX1_passYear 7 = .ok (.putfield 9, 3) := by decide +kernel
theorem dX1_passYear_10 : decode cX1_passYear 10 = .ok (.iconst 0, 1) := by decide +kernel
theorem dX1_passYear_11 : decode cX1_passYear 11 = .ok (.istore_n 1, 1) := by decide +kernel
theorem dX1_passYear_12 : decode cX1_passYear 12 = .ok (.iload_n 1, 1) := by decide +kernel
theorem dX1_passYear_13 : decode cX1_passYear 13 = .ok (.bipush 6, 2) := by decide +kernel
theorem dX1_passYear_15 : decode cX1_passYear 15 = .ok (.if_icmp .ge 16, 3) := by decide +kernel
theorem dX1_passYear_18 : decode cX1_passYear 18 = .ok (.aload_n 0, 1) := by decide +kernel
theorem dX1_passYear_19 : decode cX1_passYear 19 = .ok (.getfield 31, 3) := by decide +kernel
theorem dX1_passYear_22 : decode cX1_passYear 22 = .ok (.iload_n 1, 1) := by decide +kernel
theorem dX1_passYear_23 : decode cX1_passYear 23 = .ok (.iconst 0, 1) := by decide +kernel
theorem dX1_passYear_24 : decode cX1_passYear 24 = .ok (.iastore, 1) := by decide +kernel
theorem dX1_passYear_25 : decode cX1_passYear 25 = .ok (.iinc 1 1, 3) := by decide +kernel
theorem dX1_passYear_28 : decode cX1_passYear 28 = .ok (.goto (-16), 3) := by decide +kernel
theorem dX1_passYear_31 : decode cX1_passYear 31 = .ok (.return_, 1) := by decide +kernel
theorem dX1_addTaste_0 : decode cX1_addTaste 0 = .ok (.aload_n 0, 1) := by decide +kernel
theorem dX1_addTaste_1 : decode cX1_addTaste 1 = .ok (.getfield 24, 3) := by decide +kernel
theorem dX1_addTaste_4 : decode cX1_addTaste 4 = .ok (.ifCond .lt 12, 3) := by decide +kernel
theorem dX1_addTaste_7 : decode cX1_addTaste 7 = .ok (.aload_n 0, 1) := by decide +kernel
theorem dX1_addTaste_8 : decode cX1_addTaste 8 = .ok (.getfield 24, 3) := by decide +kernel
theorem dX1_addTaste_11 : decode cX1_addTaste 11 = .ok (.bipush 6, 2) := by decide +kernel
theorem dX1_addTaste_13 : decode cX1_addTaste 13 = .ok (.if_icmp .lt 5, 3) := by decide +kernel
theorem dX1_addTaste_16 : decode cX1_addTaste 16 = .ok (.iconst 0, 1) := by decide +kernel
theorem dX1_addTaste_17 : decode cX1_addTaste 17 = .ok (.ireturn, 1) := by decide +kernel
theorem dX1_addTaste_18 : decode cX1_addTaste 18 = .ok (.aload_n 0, 1) := by decide +kernel
theorem dX1_addTaste_19 : decode cX1_addTaste 19 = .ok (.getfield 34, 3) := by decide +kernel
theorem dX1_addTaste_22 : decode cX1_addTaste 22 = .ok (.aload_n 0, 1) := by decide +kernel
theorem dX1_addTaste_23 : decode cX1_addTaste 23 = .ok (.getfield 24, 3) := by decide +kernel
theorem dX1_addTaste_26 : decode cX1_addTaste 26 = .ok (.iload_n 1, 1) := by decide +kernel
theorem dX1_addTaste_27 : decode cX1_addTaste 27 = .ok (.iastore, 1) := by decide +kernel
theorem dX1_addTaste_28 : decode cX1_addTaste 28 = .ok (.aload_n 0, 1) := by decide +kernel
theorem dX1_addTaste_29 : decode cX1_addTaste 29 = .ok (.getfield 37, 3) := by decide +kernel
theorem dX1_addTaste_32 : decode cX1_addTaste 32 = .ok (.aload_n 0, 1) := by decide +kernel
theorem dX1_addTaste_33 : decode cX1_addTaste 33 = .ok (.getfield 24, 3) := by decide +kernel
theorem dX1_addTaste_36 : decode cX1_addTaste 36 = .ok (.iload_n 2, 1) := by decide +kernel
theorem dX1_addTaste_37 : decode cX1_addTaste 37 = .ok (.iastore, 1) := by decide +kernel
theorem dX1_addTaste_38 : decode cX1_addTaste 38 = .ok (.aload_n 0, 1) := by decide +kernel
theorem dX1_addTaste_39 : decode cX1_addTaste 39 = .ok (.dup, 1) := by decide +kernel
theorem dX1_addTaste_40 : decode cX1_addTaste 40 = .ok (.getfield 24, 3) := by decide +kernel
theorem dX1_addTaste_43 : decode cX1_addTaste 43 = .ok (.iconst 1, 1) := by decide +kernel
theorem dX1_addTaste_44 : decode cX1_addTaste 44 = .ok (.iadd, 1) := by decide +kernel
theorem dX1_addTaste_45 : decode cX1_addTaste 45 = .ok (.putfield 24, 3) := by decide +kernel
theorem dX1_addTaste_48 : decode cX1_addTaste 48 = .ok (.iconst 1, 1) := by decide +kernel
theorem dX1_addTaste_49 : decode cX1_addTaste 49 = .ok (.ireturn, 1) := by decide +kernel
set_option maxRecDepth 20000 in
theorem ggX2_init_X0_init : GoodIn wsX2_init wsX0_init := goodIn_r _ [4, 5, 6, 7, 8, 9, 10, 11, 12, 13, 14, 15, 16, 17, 18, 19, 20, 21, 22, 23, 24, 25, 26, 27, 28, 29] (by decide +kernel) (by decide +kernel)
set_option maxRecDepth 20000 in
theorem gX2_init_X0_init : GoodIn wsX2_init (wsX0_init) := ggX2_init_X0_init
theorem dX2_init_0 : decode cX2_init 0 = .ok (.aload_n 0, 1) := by decide +kernel
theorem dX2_init_1 : decode cX2_init 1 = .ok (.iload_n 1, 1) := by decide +kernel
theorem dX2_init_2 : decode cX2_init 2 = .ok (.iload_n 2, 1) := by decide +kernel
theorem dX2_init_3 : decode cX2_init 3 = .ok (.invokespecial 3, 3) := by decide +kernel
theorem dX2_init_6 : decode cX2_init 6 = .ok (.return_, 1) := by decide +kernel
theorem dX2_kindNumber_0 : decode cX2_kindNumber 0 = .ok (.iconst 4, 1) := by decide +kernel
theorem dX2_kindNumber_1 : decode cX2_kindNumber 1 = .ok (.ireturn, 1) := by decide +kernel
set_option maxRecDepth 20000 in
theorem ggX2_firstWorthIn_X3_mouldIn : GoodIn wsX2_firstWorthIn wsX3_mouldIn := goodIn_r _ [8, 9, 10, 11, 12, 13, 14, 15, 16, 17, 18, 19, 20, 21, 22, 23, 24] (by decide +kernel) (by decide +kernel)
set_option maxRecDepth 20000 in
theorem gX2_firstWorthIn_X3_mouldIn_u15X2 : GoodIn wsX2_firstWorthIn (va_wsU RX2 15 RX2 "JamDays$Jar" ⟨"JamDays$Gold", "mouldIn", "(I)I"⟩ yX3_mouldIn wsX3_mouldIn) := goodIn_app (goodIn_of _ (by decide +kernel)) ggX2_firstWorthIn_X3_mouldIn
theorem dX2_firstWorthIn_0 : decode cX2_firstWorthIn 0 = .ok (.iconst 2, 1) := by decide +kernel
theorem dX2_firstWorthIn_1 : decode cX2_firstWorthIn 1 = .ok (.aload_n 0, 1) := by decide +kernel
theorem dX2_firstWorthIn_2 : decode cX2_firstWorthIn 2 = .ok (.getfield 9, 3) := by decide +kernel
theorem dX2_firstWorthIn_5 : decode cX2_firstWorthIn 5 = .ok (.aload_n 0, 1) := by decide +kernel
theorem dX2_firstWorthIn_6 : decode cX2_firstWorthIn 6 = .ok (.iload_n 1, 1) := by decide +kernel
theorem dX2_firstWorthIn_7 : decode cX2_firstWorthIn 7 = .ok (.invokevirtual 15, 3) := by decide +kernel
theorem dX2_firstWorthIn_10 : decode cX2_firstWorthIn 10 = .ok (.isub, 1) := by decide +kernel
theorem dX2_firstWorthIn_11 : decode cX2_firstWorthIn 11 = .ok (.imul, 1) := by decide +kernel
theorem dX2_firstWorthIn_12 : decode cX2_firstWorthIn 12 = .ok (.ireturn, 1) := by decide +kernel
set_option maxRecDepth 20000 in
theorem ggX3_init_X3_plainMould : GoodIn wsX3_init wsX3_plainMould := goodIn_r _ [4, 5, 6, 7, 8] (by decide +kernel) (by decide +kernel)
set_option maxRecDepth 20000 in
theorem gX3_init_X3_plainMould : GoodIn wsX3_init (va_wsS RX3 3 yX3_plainMould wsX3_plainMould) := goodIn_app (goodIn_of _ (by decide +kernel)) ggX3_init_X3_plainMould
set_option maxRecDepth 20000 in
theorem ggX3_init_X3_init_ : GoodIn wsX3_init wsX3_init_ := goodIn_r _ [11, 12, 13, 14, 15, 16, 17, 18, 19, 20, 21, 22, 23, 24, 25, 26, 27, 28, 29, 30, 31, 32] (by decide +kernel) (by decide +kernel)
set_option maxRecDepth 20000 in
theorem gX3_init_X3_init_ : GoodIn wsX3_init (wsX3_init_) := ggX3_init_X3_init_
theorem dX3_init_0 : decode cX3_init 0 = .ok (.aload_n 0, 1) := by decide +kernel
theorem dX3_init_1 : decode cX3_init 1 = .ok (.iload_n 1, 1) := by decide +kernel
theorem dX3_init_2 : decode cX3_init 2 = .ok (.iload_n 2, 1) := by decide +kernel
theorem dX3_init_3 : decode cX3_init 3 = .ok (.iload_n 2, 1) := by decide +kernel
theorem dX3_init_4 : decode cX3_init 4 = .ok (.invokestatic 3, 3) := by decide +kernel
theorem dX3_init_7 : decode cX3_init 7 = .ok (.invokespecial 9, 3) := by decide +kernel
theorem dX3_init_10 : decode cX3_init 10 = .ok (.return_, 1) := by decide +kernel
theorem dX3_init__0 : decode cX3_init_ 0 = .ok (.aload_n 0, 1) := by decide +kernel
theorem dX3_init__1 : decode cX3_init_ 1 = .ok (.invokespecial 13, 3) := by decide +kernel
theorem dX3_init__4 : decode cX3_init_ 4 = .ok (.aload_n 0, 1) := by decide +kernel
theorem dX3_init__5 : decode cX3_init_ 5 = .ok (.iload_n 1, 1) := by decide +kernel
theorem dX3_init__6 : decode cX3_init_ 6 = .ok (.putfield 18, 3) := by decide +kernel
theorem dX3_init__9 : decode cX3_init_ 9 = .ok (.aload_n 0, 1) := by decide +kernel
theorem dX3_init__10 : decode cX3_init_ 10 = .ok (.iload_n 2, 1) := by decide +kernel
theorem dX3_init__11 : decode cX3_init_ 11 = .ok (.putfield 22, 3) := by decide +kernel
theorem dX3_init__14 : decode cX3_init_ 14 = .ok (.aload_n 0, 1) := by decide +kernel
theorem dX3_init__15 : decode cX3_init_ 15 = .ok (.iload_n 3, 1) := by decide +kernel
theorem dX3_init__16 : decode cX3_init_ 16 = .ok (.putfield 25, 3) := by decide +kernel
theorem dX3_init__19 : decode cX3_init_ 19 = .ok (.return_, 1) := by decide +kernel
theorem dX3_plainMould_0 : decode cX3_plainMould 0 = .ok (.iconst 0, 1) := by decide +kernel
theorem dX3_plainMould_1 : decode cX3_plainMould 1 = .ok (.iconst 3, 1) := by decide +kernel
theorem dX3_plainMould_2 : decode cX3_plainMould 2 = .ok (.iload_n 0, 1) := by decide +kernel
theorem dX3_plainMould_3 : decode cX3_plainMould 3 = .ok (.iconst 3, 1) := by decide +kernel
theorem dX3_plainMould_4 : decode cX3_plainMould 4 = .ok (.idiv, 1) := by decide +kernel
theorem dX3_plainMould_5 : decode cX3_plainMould 5 = .ok (.isub, 1) := by decide +kernel
theorem dX3_plainMould_6 : decode cX3_plainMould 6 = .ok (.invokestatic 28, 3) := by decide +kernel
theorem dX3_plainMould_9 : decode cX3_plainMould 9 = .ok (.ireturn, 1) := by decide +kernel
theorem dX3_kindNumber_0 : decode cX3_kindNumber 0 = .ok (.iconst 0, 1) := by decide +kernel
theorem dX3_kindNumber_1 : decode cX3_kindNumber 1 = .ok (.ireturn, 1) := by decide +kernel
theorem dX3_mouldIn_0 : decode cX3_mouldIn 0 = .ok (.iload_n 1, 1) := by decide +kernel
theorem dX3_mouldIn_1 : decode cX3_mouldIn 1 = .ok (.aload_n 0, 1) := by decide +kernel
theorem dX3_mouldIn_2 : decode cX3_mouldIn 2 = .ok (.getfield 25, 3) := by decide +kernel
theorem dX3_mouldIn_5 : decode cX3_mouldIn 5 = .ok (.imul, 1) := by decide +kernel
theorem dX3_mouldIn_6 : decode cX3_mouldIn 6 = .ok (.istore_n 2, 1) := by decide +kernel
theorem dX3_mouldIn_7 : decode cX3_mouldIn 7 = .ok (.iload_n 2, 1) := by decide +kernel
theorem dX3_mouldIn_8 : decode cX3_mouldIn 8 = .ok (.bipush 20, 2) := by decide +kernel
theorem dX3_mouldIn_10 : decode cX3_mouldIn 10 = .ok (.if_icmp .ge 7, 3) := by decide +kernel
theorem dX3_mouldIn_13 : decode cX3_mouldIn 13 = .ok (.iload_n 2, 1) := by decide +kernel
theorem dX3_mouldIn_14 : decode cX3_mouldIn 14 = .ok (.goto 5, 3) := by decide +kernel
theorem dX3_mouldIn_17 : decode cX3_mouldIn 17 = .ok (.bipush 20, 2) := by decide +kernel
theorem dX3_mouldIn_19 : decode cX3_mouldIn 19 = .ok (.ireturn, 1) := by decide +kernel
set_option maxRecDepth 20000 in
theorem ggX3_firstWorthIn_X3_mouldIn : GoodIn wsX3_firstWorthIn wsX3_mouldIn := goodIn_r _ [7, 8, 14, 15, 16, 17, 18, 19, 20, 21, 22, 23, 24, 25, 26, 27, 28] (by decide +kernel) (by decide +kernel)
set_option maxRecDepth 20000 in
theorem gX3_firstWorthIn_X3_mouldIn_u34X0 : GoodIn wsX3_firstWorthIn (va_wsU RX3 34 RX0 "JamDays$Jar" ⟨"JamDays$Jar", "mouldIn", "(I)I"⟩ yX3_mouldIn wsX3_mouldIn) := goodIn_app (goodIn_of _ (by decide +kernel)) ggX3_firstWorthIn_X3_mouldIn
set_option maxRecDepth 20000 in
theorem gX3_firstWorthIn_X3_mouldIn_u34X2 : GoodIn wsX3_firstWorthIn (va_wsU RX3 34 RX2 "JamDays$Jar" ⟨"JamDays$Jar", "mouldIn", "(I)I"⟩ yX3_mouldIn wsX3_mouldIn) := goodIn_app (goodIn_of _ (by decide +kernel)) ggX3_firstWorthIn_X3_mouldIn
set_option maxRecDepth 20000 in
theorem gX3_firstWorthIn_X3_mouldIn : GoodIn wsX3_firstWorthIn (wsV RX3 34 RX3 yX3_mouldIn wsX3_mouldIn) := goodIn_app (goodIn_of _ (by decide +kernel)) ggX3_firstWorthIn_X3_mouldIn
set_option maxRecDepth 20000 in
theorem gX3_firstWorthIn_X3_mouldIn_u34X4 : GoodIn wsX3_firstWorthIn (va_wsU RX3 34 RX4 "JamDays$Jar" ⟨"JamDays$Jar", "mouldIn", "(I)I"⟩ yX3_mouldIn wsX3_mouldIn) := goodIn_app (goodIn_of _ (by decide +kernel)) ggX3_firstWorthIn_X3_mouldIn
set_option maxRecDepth 20000 in
theorem gX3_firstWorthIn_X3_mouldIn_u34X5 : GoodIn wsX3_firstWorthIn (va_wsU RX3 34 RX5 "JamDays$Jar" ⟨"JamDays$Jar", "mouldIn", "(I)I"⟩ yX3_mouldIn wsX3_mouldIn) := goodIn_app (goodIn_of _ (by decide +kernel)) ggX3_firstWorthIn_X3_mouldIn
theorem dX3_firstWorthIn_0 : decode cX3_firstWorthIn 0 = .ok (.aload_n 0, 1) := by decide +kernel
theorem dX3_firstWorthIn_1 : decode cX3_firstWorthIn 1 = .ok (.getfield 18, 3) := by decide +kernel
theorem dX3_firstWorthIn_4 : decode cX3_firstWorthIn 4 = .ok (.aload_n 0, 1) := by decide +kernel
theorem dX3_firstWorthIn_5 : decode cX3_firstWorthIn 5 = .ok (.iload_n 1, 1) := by decide +kernel
theorem dX3_firstWorthIn_6 : decode cX3_firstWorthIn 6 = .ok (.invokevirtual 34, 3) := by decide +kernel
theorem dX3_firstWorthIn_9 : decode cX3_firstWorthIn 9 = .ok (.isub, 1) := by decide +kernel
theorem dX3_firstWorthIn_10 : decode cX3_firstWorthIn 10 = .ok (.ireturn, 1) := by decide +kernel
set_option maxRecDepth 20000 in
theorem ggX4_init_X3_init : GoodIn wsX4_init wsX3_init := goodIn_r _ [4, 5, 6, 3, 7, 8, 9, 10, 11, 12, 13, 14, 15, 16, 17, 18, 19, 20, 21, 22, 23, 24, 25, 26, 27, 28, 29, 30, 31, 32, 33, 34, 35] (by decide +kernel) (by decide +kernel)
set_option maxRecDepth 20000 in
theorem gX4_init_X3_init : GoodIn wsX4_init (wsX3_init) := ggX4_init_X3_init
theorem dX4_init_0 : decode cX4_init 0 = .ok (.aload_n 0, 1) := by decide +kernel
theorem dX4_init_1 : decode cX4_init 1 = .ok (.iload_n 1, 1) := by decide +kernel
theorem dX4_init_2 : decode cX4_init 2 = .ok (.iload_n 2, 1) := by decide +kernel
theorem dX4_init_3 : decode cX4_init 3 = .ok (.invokespecial 3, 3) := by decide +kernel
theorem dX4_init_6 : decode cX4_init 6 = .ok (.return_, 1) := by decide +kernel
theorem dX4_kindNumber_0 : decode cX4_kindNumber 0 = .ok (.iconst 3, 1) := by decide +kernel
theorem dX4_kindNumber_1 : decode cX4_kindNumber 1 = .ok (.ireturn, 1) := by decide +kernel
set_option maxRecDepth 20000 in
theorem ggX4_firstWorthIn_X3_mouldIn : GoodIn wsX4_firstWorthIn wsX3_mouldIn := goodIn_r _ [8, 9, 10, 11, 12, 13, 14, 15, 16, 17, 18, 19, 20, 21, 22, 23, 24] (by decide +kernel) (by decide +kernel)
set_option maxRecDepth 20000 in
theorem gX4_firstWorthIn_X3_mouldIn_u15X4 : GoodIn wsX4_firstWorthIn (va_wsU RX4 15 RX4 "JamDays$Jar" ⟨"JamDays$Plum", "mouldIn", "(I)I"⟩ yX3_mouldIn wsX3_mouldIn) := goodIn_app (goodIn_of _ (by decide +kernel)) ggX4_firstWorthIn_X3_mouldIn
theorem dX4_firstWorthIn_0 : decode cX4_firstWorthIn 0 = .ok (.iload_n 1, 1) := by decide +kernel
theorem dX4_firstWorthIn_1 : decode cX4_firstWorthIn 1 = .ok (.iconst 2, 1) := by decide +kernel
theorem dX4_firstWorthIn_2 : decode cX4_firstWorthIn 2 = .ok (.irem, 1) := by decide +kernel
theorem dX4_firstWorthIn_3 : decode cX4_firstWorthIn 3 = .ok (.iconst 1, 1) := by decide +kernel
theorem dX4_firstWorthIn_4 : decode cX4_firstWorthIn 4 = .ok (.if_icmp .ne 7, 3) := by decide +kernel
theorem dX4_firstWorthIn_7 : decode cX4_firstWorthIn 7 = .ok (.iconst 3, 1) := by decide +kernel
theorem dX4_firstWorthIn_8 : decode cX4_firstWorthIn 8 = .ok (.goto 4, 3) := by decide +kernel
theorem dX4_firstWorthIn_11 : decode cX4_firstWorthIn 11 = .ok (.iconst 0, 1) := by decide +kernel
theorem dX4_firstWorthIn_12 : decode cX4_firstWorthIn 12 = .ok (.istore_n 2, 1) := by decide +kernel
theorem dX4_firstWorthIn_13 : decode cX4_firstWorthIn 13 = .ok (.aload_n 0, 1) := by decide +kernel
theorem dX4_firstWorthIn_14 : decode cX4_firstWorthIn 14 = .ok (.getfield 9, 3) := by decide +kernel
theorem dX4_firstWorthIn_17 : decode cX4_firstWorthIn 17 = .ok (.aload_n 0, 1) := by decide +kernel
theorem dX4_firstWorthIn_18 : decode cX4_firstWorthIn 18 = .ok (.iload_n 1, 1) := by decide +kernel
theorem dX4_firstWorthIn_19 : decode cX4_firstWorthIn 19 = .ok (.invokevirtual 15, 3) := by decide +kernel
theorem dX4_firstWorthIn_22 : decode cX4_firstWorthIn 22 = .ok (.isub, 1) := by decide +kernel
theorem dX4_firstWorthIn_23 : decode cX4_firstWorthIn 23 = .ok (.iload_n 2, 1) := by decide +kernel
theorem dX4_firstWorthIn_24 : decode cX4_firstWorthIn 24 = .ok (.iadd, 1) := by decide +kernel
theorem dX4_firstWorthIn_25 : decode cX4_firstWorthIn 25 = .ok (.ireturn, 1) := by decide +kernel
set_option maxRecDepth 20000 in
theorem ggX5_init_X3_init_ : GoodIn wsX5_init wsX3_init_ := goodIn_r _ [4, 5, 6, 7, 8, 9, 10, 11, 12, 13, 14, 15, 16, 17, 18, 19, 20, 21, 22, 23, 24, 25] (by decide +kernel) (by decide +kernel)
set_option maxRecDepth 20000 in
theorem gX5_init_X3_init_ : GoodIn wsX5_init (wsX3_init_) := ggX5_init_X3_init_
theorem dX5_init_0 : decode cX5_init 0 = .ok (.aload_n 0, 1) := by decide +kernel
theorem dX5_init_1 : decode cX5_init 1 = .ok (.iload_n 1, 1) := by decide +kernel
theorem dX5_init_2 : decode cX5_init 2 = .ok (.iload_n 2, 1) := by decide +kernel
theorem dX5_init_3 : decode cX5_init 3 = .ok (.iload_n 2, 1) := by decide +kernel
theorem dX5_init_4 : decode cX5_init 4 = .ok (.invokestatic 3, 3) := by decide +kernel
theorem dX5_init_7 : decode cX5_init 7 = .ok (.iconst 1, 1) := by decide +kernel
theorem dX5_init_8 : decode cX5_init 8 = .ok (.iadd, 1) := by decide +kernel
theorem dX5_init_9 : decode cX5_init 9 = .ok (.invokespecial 9, 3) := by decide +kernel
theorem dX5_init_12 : decode cX5_init 12 = .ok (.return_, 1) := by decide +kernel
theorem dX5_kindNumber_0 : decode cX5_kindNumber 0 = .ok (.iconst 1, 1) := by decide +kernel
theorem dX5_kindNumber_1 : decode cX5_kindNumber 1 = .ok (.ireturn, 1) := by decide +kernel
set_option maxRecDepth 20000 in
theorem ggX6_init_X1_init : GoodIn wsX6_init wsX1_init := goodIn_r _ [22, 23, 2, 3, 24, 25, 26, 27, 28, 4, 29, 30, 31, 32, 45, 46, 47, 48, 49, 50, 51, 52, 53] (by decide +kernel) (by decide +kernel)
set_option maxRecDepth 20000 in
theorem gX6_init_X1_init_n28 : GoodIn wsX6_init (wsX1_init) := ggX6_init_X1_init
theorem dX6_init_0 : decode cX6_init 0 = .ok (.aload_n 0, 1) := by decide +kernel
theorem dX6_init_1 : decode cX6_init 1 = .ok (.invokespecial 3, 3) := by decide +kernel
theorem dX6_init_4 : decode cX6_init 4 = .ok (.aload_n 0, 1) := by decide +kernel
theorem dX6_init_5 : decode cX6_init 5 = .ok (.bipush 25, 2) := by decide +kernel
theorem dX6_init_7 : decode cX6_init 7 = .ok (.newarray .int, 2) := by decide +kernel
theorem dX6_init_9 : decode cX6_init 9 = .ok (.putfield 9, 3) := by decide +kernel
theorem dX6_init_12 : decode cX6_init 12 = .ok (.aload_n 0, 1) := by decide +kernel
theorem dX6_init_13 : decode cX6_init 13 = .ok (.iconst 0, 1) := by decide +kernel
theorem dX6_init_14 : decode cX6_init 14 = .ok (.putfield 13, 3) := by decide +kernel
theorem dX6_init_17 : decode cX6_init 17 = .ok (.aload_n 0, 1) := by decide +kernel
theorem dX6_init_18 : decode cX6_init 18 = .ok (.bipush 6, 2) := by decide +kernel
theorem dX6_init_20 : decode cX6_init 20 = .ok (.anewarray 17, 3) := by decide +kernel
theorem dX6_init_23 : decode cX6_init 23 = .ok (.putfield 19, 3) := by decide +kernel
theorem dX6_init_26 : decode cX6_init 26 = .ok (.aload_n 0, 1) := by decide +kernel
theorem dX6_init_27 : decode cX6_init 27 = .ok (.iconst 0, 1) := by decide +kernel
theorem dX6_init_28 : decode cX6_init 28 = .ok (.putfield 23, 3) := by decide +kernel
theorem dX6_init_31 : decode cX6_init 31 = .ok (.aload_n 0, 1) := by decide +kernel
theorem dX6_init_32 : decode cX6_init 32 = .ok (.new 26, 3) := by decide +kernel
theorem dX6_init_35 : decode cX6_init 35 = .ok (.dup, 1) := by decide +kernel
theorem dX6_init_36 : decode cX6_init 36 = .ok (.invokespecial 28, 3) := by decide +kernel
theorem dX6_init_39 : decode cX6_init 39 = .ok (.putfield 29, 3) := by decide +kernel
theorem dX6_init_42 : decode cX6_init 42 = .ok (.aload_n 0, 1) := by decide +kernel
theorem dX6_init_43 : decode cX6_init 43 = .ok (.new 26, 3) := by decide +kernel
theorem dX6_init_46 : decode cX6_init 46 = .ok (.dup, 1) := by decide +kernel
theorem dX6_init_47 : decode cX6_init 47 = .ok (.invokespecial 28, 3) := by decide +kernel
theorem dX6_init_50 : decode cX6_init 50 = .ok (.putfield 33, 3) := by decide +kernel
theorem dX6_init_53 : decode cX6_init 53 = .ok (.aload_n 0, 1) := by decide +kernel
theorem dX6_init_54 : decode cX6_init 54 = .ok (.new 26, 3) := by decide +kernel
theorem dX6_init_57 : decode cX6_init 57 = .ok (.dup, 1) := by decide +kernel
theorem dX6_init_58 : decode cX6_init 58 = .ok (.invokespecial 28, 3) := by decide +kernel
theorem dX6_init_61 : decode cX6_init 61 = .ok (.putfield 36, 3) := by decide +kernel
theorem dX6_init_64 : decode cX6_init 64 = .ok (.aload_n 0, 1) := by decide +kernel
theorem dX6_init_65 : decode cX6_init 65 = .ok (.iconst 0, 1) := by decide +kernel
theorem dX6_init_66 : decode cX6_init 66 = .ok (.putfield 39, 3) := by decide +kernel
theorem dX6_init_69 : decode cX6_init 69 = .ok (.aload_n 0, 1) := by decide +kernel
theorem dX6_init_70 : decode cX6_init 70 = .ok (.iconst 0, 1) := by decide +kernel
theorem dX6_init_71 : decode cX6_init 71 = .ok (.putfield 43, 3) := by decide +kernel
theorem dX6_init_74 : decode cX6_init 74 = .ok (.aload_n 0, 1) := by decide +kernel
theorem dX6_init_75 : decode cX6_init 75 = .ok (.iconst 0, 1) := by decide +kernel
theorem dX6_init_76 : decode cX6_init 76 = .ok (.putfield 46, 3) := by decide +kernel
theorem dX6_init_79 : decode cX6_init 79 = .ok (.aload_n 0, 1) := by decide +kernel
theorem dX6_init_80 : decode cX6_init 80 = .ok (.bipush 91, 2) := by decide +kernel
theorem dX6_init_82 : decode cX6_init 82 = .ok (.newarray .int, 2) := by decide +kernel
theorem dX6_init_84 : decode cX6_init 84 = .ok (.putfield 49, 3) := by decide +kernel
theorem dX6_init_87 : decode cX6_init 87 = .ok (.aload_n 0, 1) := by decide +kernel
theorem dX6_init_88 : decode cX6_init 88 = .ok (.bipush 6, 2) := by decide +kernel
theorem dX6_init_90 : decode cX6_init 90 = .ok (.newarray .int, 2) := by decide +kernel
theorem dX6_init_92 : decode cX6_init 92 = .ok (.putfield 52, 3) := by decide +kernel
theorem dX6_init_95 : decode cX6_init 95 = .ok (.return_, 1) := by decide +kernel
theorem dX6_letter_0 : decode cX6_letter 0 = .ok (.iload_n 1, 1) := by decide +kernel
theorem dX6_letter_1 : decode cX6_letter 1 = .ok (.iconst 1, 1) := by decide +kernel
theorem dX6_letter_2 : decode cX6_letter 2 = .ok (.if_icmp .lt 9, 3) := by decide +kernel
theorem dX6_letter_5 : decode cX6_letter 5 = .ok (.iload_n 1, 1) := by decide +kernel
theorem dX6_letter_6 : decode cX6_letter 6 = .ok (.bipush 126, 2) := by decide +kernel
theorem dX6_letter_8 : decode cX6_letter 8 = .ok (.if_icmp .le 6, 3) := by decide +kernel
theorem dX6_letter_11 : decode cX6_letter 11 = .ok (.bipush (-102), 2) := by decide +kernel
theorem dX6_letter_13 : decode cX6_letter 13 = .ok (.ireturn, 1) := by decide +kernel
theorem dX6_letter_14 : decode cX6_letter 14 = .ok (.aload_n 0, 1) := by decide +kernel
theorem dX6_letter_15 : decode cX6_letter 15 = .ok (.getfield 13, 3) := by decide +kernel
theorem dX6_letter_18 : decode cX6_letter 18 = .ok (.ifCond .lt 12, 3) := by decide +kernel
theorem dX6_letter_21 : decode cX6_letter 21 = .ok (.aload_n 0, 1) := by decide +kernel
theorem dX6_letter_22 : decode cX6_letter 22 = .ok (.getfield 13, 3) := by decide +kernel
theorem dX6_letter_25 : decode cX6_letter 25 = .ok (.bipush 25, 2) := by decide +kernel
theorem dX6_letter_27 : decode cX6_letter 27 = .ok (.if_icmp .lt 6, 3) := by decide +kernel
theorem dX6_letter_30 : decode cX6_letter 30 = .ok (.bipush (-104), 2) := by decide +kernel
theorem dX6_letter_32 : decode cX6_letter 32 = .ok (.ireturn, 1) := by decide +kernel
theorem dX6_letter_33 : decode cX6_letter 33 = .ok (.aload_n 0, 1) := by decide +kernel
theorem dX6_letter_34 : decode cX6_letter 34 = .ok (.getfield 9, 3) := by decide +kernel
theorem dX6_letter_37 : decode cX6_letter 37 = .ok (.aload_n 0, 1) := by decide +kernel
theorem dX6_letter_38 : decode cX6_letter 38 = .ok (.getfield 13, 3) := by decide +kernel
theorem dX6_letter_41 : decode cX6_letter 41 = .ok (.iload_n 1, 1) := by decide +kernel
theorem dX6_letter_42 : decode cX6_letter 42 = .ok (.iastore, 1) := by decide +kernel
theorem dX6_letter_43 : decode cX6_letter 43 = .ok (.aload_n 0, 1) := by decide +kernel
theorem dX6_letter_44 : decode cX6_letter 44 = .ok (.dup, 1) := by decide +kernel
theorem dX6_letter_45 : decode cX6_letter 45 = .ok (.getfield 13, 3) := by decide +kernel
theorem dX6_letter_48 : decode cX6_letter 48 = .ok (.iconst 1, 1) := by decide +kernel
theorem dX6_letter_49 : decode cX6_letter 49 = .ok (.iadd, 1) := by decide +kernel
theorem dX6_letter_50 : decode cX6_letter 50 = .ok (.putfield 13, 3) := by decide +kernel
theorem dX6_letter_53 : decode cX6_letter 53 = .ok (.aload_n 0, 1) := by decide +kernel
theorem dX6_letter_54 : decode cX6_letter 54 = .ok (.getfield 13, 3) := by decide +kernel
theorem dX6_letter_57 : decode cX6_letter 57 = .ok (.ireturn, 1) := by decide +kernel
theorem dX6_blank_0 : decode cX6_blank 0 = .ok (.aload_n 0, 1) := by decide +kernel
theorem dX6_blank_1 : decode cX6_blank 1 = .ok (.getfield 13, 3) := by decide +kernel
theorem dX6_blank_4 : decode cX6_blank 4 = .ok (.istore_n 1, 1) := by decide +kernel
theorem dX6_blank_5 : decode cX6_blank 5 = .ok (.aload_n 0, 1) := by decide +kernel
theorem dX6_blank_6 : decode cX6_blank 6 = .ok (.iconst 0, 1) := by decide +kernel
theorem dX6_blank_7 : decode cX6_blank 7 = .ok (.putfield 13, 3) := by decide +kernel
theorem dX6_blank_10 : decode cX6_blank 10 = .ok (.iload_n 1, 1) := by decide +kernel
theorem dX6_blank_11 : decode cX6_blank 11 = .ok (.ireturn, 1) := by decide +kernel
set_option maxRecDepth 20000 in
theorem ggX6_fault_X6_codeAt : GoodIn wsX6_fault wsX6_codeAt := goodIn_r _ [6, 7, 14, 15, 16, 17, 18, 19, 20, 21, 22, 23, 24, 25] (by decide +kernel) (by decide +kernel)
set_option maxRecDepth 20000 in
theorem gX6_fault_X6_codeAt : GoodIn wsX6_fault (wsV RX6 55 RX6 yX6_codeAt wsX6_codeAt) := goodIn_app (goodIn_of _ (by decide +kernel)) ggX6_fault_X6_codeAt
set_option maxRecDepth 20000 in
theorem ggX6_fault_X6_fits : GoodIn wsX6_fault wsX6_fits := goodIn_r _ [10, 11, 12, 5, 13] (by decide +kernel) (by decide +kernel)
set_option maxRecDepth 20000 in
theorem gX6_fault_X6_fits : GoodIn wsX6_fault (va_wsS RX6 59 yX6_fits wsX6_fits) := goodIn_app (goodIn_of _ (by decide +kernel)) ggX6_fault_X6_fits
theorem dX6_fault_0 : decode cX6_fault 0 = .ok (.iconst 0, 1) := by decide +kernel
theorem dX6_fault_1 : decode cX6_fault 1 = .ok (.istore_n 1, 1) := by decide +kernel
theorem dX6_fault_2 : decode cX6_fault 2 = .ok (.iload_n 1, 1) := by decide +kernel
theorem dX6_fault_3 : decode cX6_fault 3 = .ok (.aload_n 0, 1) := by decide +kernel
theorem dX6_fault_4 : decode cX6_fault 4 = .ok (.getfield 13, 3) := by decide +kernel
theorem dX6_fault_7 : decode cX6_fault 7 = .ok (.if_icmp .ge 23, 3) := by decide +kernel
theorem dX6_fault_10 : decode cX6_fault 10 = .ok (.iload_n 1, 1) := by decide +kernel
theorem dX6_fault_11 : decode cX6_fault 11 = .ok (.aload_n 0, 1) := by decide +kernel
theorem dX6_fault_12 : decode cX6_fault 12 = .ok (.iload_n 1, 1) := by decide +kernel
theorem dX6_fault_13 : decode cX6_fault 13 = .ok (.invokevirtual 55, 3) := by decide +kernel
theorem dX6_fault_16 : decode cX6_fault 16 = .ok (.invokestatic 59, 3) := by decide +kernel
theorem dX6_fault_19 : decode cX6_fault 19 = .ok (.ifCond .ne 5, 3) := by decide +kernel
theorem dX6_fault_22 : decode cX6_fault 22 = .ok (.iload_n 1, 1) := by decide +kernel
theorem dX6_fault_23 : decode cX6_fault 23 = .ok (.ireturn, 1) := by decide +kernel
theorem dX6_fault_24 : decode cX6_fault 24 = .ok (.iinc 1 1, 3) := by decide +kernel
theorem dX6_fault_27 : decode cX6_fault 27 = .ok (.goto (-25), 3) := by decide +kernel
theorem dX6_fault_30 : decode cX6_fault 30 = .ok (.aload_n 0, 1) := by decide +kernel
theorem dX6_fault_31 : decode cX6_fault 31 = .ok (.getfield 13, 3) := by decide +kernel
theorem dX6_fault_34 : decode cX6_fault 34 = .ok (.ireturn, 1) := by decide +kernel
set_option maxRecDepth 20000 in
theorem ggX6_larder_X6_pageIsLarder : GoodIn wsX6_larder wsX6_pageIsLarder := goodIn_r _ [11, 1, 12, 13, 14, 10, 15, 16, 17, 18, 19, 20, 21, 22, 23, 24, 25, 26, 93, 94, 95, 96, 97, 98, 99, 100, 101, 102, 103, 104] (by decide +kernel) (by decide +kernel)
set_option maxRecDepth 20000 in
theorem gX6_larder_X6_pageIsLarder : GoodIn wsX6_larder (wsV RX6 63 RX6 yX6_pageIsLarder wsX6_pageIsLarder) := goodIn_app (goodIn_of _ (by decide +kernel)) ggX6_larder_X6_pageIsLarder
set_option maxRecDepth 20000 in
theorem ggX6_larder_X6_readJar : GoodIn wsX6_larder wsX6_readJar := goodIn_r _ [30, 31, 32, 33, 34, 35, 36, 37, 38, 39, 40, 41, 42, 43, 44, 45, 16, 17, 18, 10, 19, 20, 46, 47, 48, 49, 50, 51, 52, 53, 54, 55, 56, 57, 58, 59, 60, 61, 62, 63, 64, 65, 66, 67, 68, 69, 70, 71, 72, 73, 74, 75, 76, 77, 78, 79, 80, 105, 106, 107, 108, 109, 110, 111, 112, 113, 114, 115, 116, 117, 118, 119, 93, 94, 95, 96, 97, 98, 99, 100, 101, 102, 103, 104] (by decide +kernel) (by decide +kernel)
set_option maxRecDepth 20000 in
theorem gX6_larder_X6_readJar : GoodIn wsX6_larder (wsV RX6 67 RX6 yX6_readJar wsX6_readJar) := goodIn_app (goodIn_of _ (by decide +kernel)) ggX6_larder_X6_readJar
set_option maxRecDepth 20000 in
theorem ggX6_larder_X1_startAnew : GoodIn wsX6_larder wsX1_startAnew := goodIn_r _ [85, 86, 87, 88, 89, 90, 91, 92, 120, 121, 122, 123, 124, 125, 126, 127, 128] (by decide +kernel) (by decide +kernel)
set_option maxRecDepth 20000 in
theorem gX6_larder_X1_startAnew : GoodIn wsX6_larder (wsV RX6 71 RX1 yX1_startAnew wsX1_startAnew) := goodIn_app (goodIn_of _ (by decide +kernel)) ggX6_larder_X1_startAnew
theorem dX6_larder_0 : decode cX6_larder 0 = .ok (.aload_n 0, 1) := by decide +kernel
theorem dX6_larder_1 : decode cX6_larder 1 = .ok (.invokevirtual 63, 3) := by decide +kernel
theorem dX6_larder_4 : decode cX6_larder 4 = .ok (.ifCond .ne 6, 3) := by decide +kernel
theorem dX6_larder_7 : decode cX6_larder 7 = .ok (.bipush (-103), 2) := by decide +kernel
theorem dX6_larder_9 : decode cX6_larder 9 = .ok (.ireturn, 1) := by decide +kernel
theorem dX6_larder_10 : decode cX6_larder 10 = .ok (.aload_n 0, 1) := by decide +kernel
theorem dX6_larder_11 : decode cX6_larder 11 = .ok (.aload_n 0, 1) := by decide +kernel
theorem dX6_larder_12 : decode cX6_larder 12 = .ok (.getfield 13, 3) := by decide +kernel
theorem dX6_larder_15 : decode cX6_larder 15 = .ok (.iconst 1, 1) := by decide +kernel
theorem dX6_larder_16 : decode cX6_larder 16 = .ok (.iadd, 1) := by decide +kernel
theorem dX6_larder_17 : decode cX6_larder 17 = .ok (.iconst 4, 1) := by decide +kernel
theorem dX6_larder_18 : decode cX6_larder 18 = .ok (.idiv, 1) := by decide +kernel
theorem dX6_larder_19 : decode cX6_larder 19 = .ok (.putfield 23, 3) := by decide +kernel
theorem dX6_larder_22 : decode cX6_larder 22 = .ok (.iconst 0, 1) := by decide +kernel
theorem dX6_larder_23 : decode cX6_larder 23 = .ok (.istore_n 1, 1) := by decide +kernel
theorem dX6_larder_24 : decode cX6_larder 24 = .ok (.iload_n 1, 1) := by decide +kernel
theorem dX6_larder_25 : decode cX6_larder 25 = .ok (.bipush 6, 2) := by decide +kernel
theorem dX6_larder_27 : decode cX6_larder 27 = .ok (.if_icmp .ge 34, 3) := by decide +kernel
theorem dX6_larder_30 : decode cX6_larder 30 = .ok (.aload_n 0, 1) := by decide +kernel
theorem dX6_larder_31 : decode cX6_larder 31 = .ok (.getfield 19, 3) := by decide +kernel
theorem dX6_larder_34 : decode cX6_larder 34 = .ok (.iload_n 1, 1) := by decide +kernel
theorem dX6_larder_35 : decode cX6_larder 35 = .ok (.iload_n 1, 1) := by decide +kernel
theorem dX6_larder_36 : decode cX6_larder 36 = .ok (.aload_n 0, 1) := by decide +kernel
theorem dX6_larder_37 : decode cX6_larder 37 = .ok (.getfield 23, 3) := by decide +kernel
theorem dX6_larder_40 : decode cX6_larder 40 = .ok (.if_icmp .ge 13, 3) := by decide +kernel
theorem dX6_larder_43 : decode cX6_larder 43 = .ok (.aload_n 0, 1) := by decide +kernel
theorem dX6_larder_44 : decode cX6_larder 44 = .ok (.iload_n 1, 1) := by decide +kernel
theorem dX6_larder_45 : decode cX6_larder 45 = .ok (.iconst 4, 1) := by decide +kernel
theorem dX6_larder_46 : decode cX6_larder 46 = .ok (.imul, 1) := by decide +kernel
theorem dX6_larder_47 : decode cX6_larder 47 = .ok (.invokevirtual 67, 3) := by decide +kernel
theorem dX6_larder_50 : decode cX6_larder 50 = .ok (.goto 4, 3) := by decide +kernel
theorem dX6_larder_53 : decode cX6_larder 53 = .ok (.aconst_null, 1) := by decide +kernel
theorem dX6_larder_54 : decode cX6_larder 54 = .ok (.aastore, 1) := by decide +kernel
theorem dX6_larder_55 : decode cX6_larder 55 = .ok (.iinc 1 1, 3) := by decide +kernel
theorem dX6_larder_58 : decode cX6_larder 58 = .ok (.goto (-34), 3) := by decide +kernel
theorem dX6_larder_61 : decode cX6_larder 61 = .ok (.aload_n 0, 1) := by decide +kernel
theorem dX6_larder_62 : decode cX6_larder 62 = .ok (.getfield 29, 3) := by decide +kernel
theorem dX6_larder_65 : decode cX6_larder 65 = .ok (.aload_n 0, 1) := by decide +kernel
theorem dX6_larder_66 : decode cX6_larder 66 = .ok (.getfield 23, 3) := by decide +kernel
theorem dX6_larder_69 : decode cX6_larder 69 = .ok (.invokevirtual 71, 3) := by decide +kernel
theorem dX6_larder_72 : decode cX6_larder 72 = .ok (.aload_n 0, 1) := by decide +kernel
theorem dX6_larder_73 : decode cX6_larder 73 = .ok (.iconst 0, 1) := by decide +kernel
theorem dX6_larder_74 : decode cX6_larder 74 = .ok (.putfield 39, 3) := by decide +kernel
theorem dX6_larder_77 : decode cX6_larder 77 = .ok (.aload_n 0, 1) := by decide +kernel
theorem dX6_larder_78 : decode cX6_larder 78 = .ok (.dup, 1) := by decide +kernel
theorem dX6_larder_79 : decode cX6_larder 79 = .ok (.getfield 43, 3) := by decide +kernel
theorem dX6_larder_82 : decode cX6_larder 82 = .ok (.iconst 1, 1) := by decide +kernel
theorem dX6_larder_83 : decode cX6_larder 83 = .ok (.iadd, 1) := by decide +kernel
theorem dX6_larder_84 : decode cX6_larder 84 = .ok (.putfield 43, 3) := by decide +kernel
theorem dX6_larder_87 : decode cX6_larder 87 = .ok (.aload_n 0, 1) := by decide +kernel
theorem dX6_larder_88 : decode cX6_larder 88 = .ok (.iconst 0, 1) := by decide +kernel
theorem dX6_larder_89 : decode cX6_larder 89 = .ok (.putfield 13, 3) := by decide +kernel
theorem dX6_larder_92 : decode cX6_larder 92 = .ok (.aload_n 0, 1) := by decide +kernel
theorem dX6_larder_93 : decode cX6_larder 93 = .ok (.getfield 23, 3) := by decide +kernel
theorem dX6_larder_96 : decode cX6_larder 96 = .ok (.ireturn, 1) := by decide +kernel
set_option maxRecDepth 20000 in
theorem ggX6_jar_X6_find : GoodIn wsX6_jar wsX6_find := goodIn_r _ [9, 10, 11, 113, 114, 115, 116, 117, 118, 119, 120, 121, 122, 123, 124] (by decide +kernel) (by decide +kernel)
set_option maxRecDepth 20000 in
theorem gX6_jar_X6_find : GoodIn wsX6_jar (wsV RX6 75 RX6 yX6_find wsX6_find) := goodIn_app (goodIn_of _ (by decide +kernel)) ggX6_jar_X6_find
set_option maxRecDepth 20000 in
theorem ggX6_jar_X0_kindNumber : GoodIn wsX6_jar wsX0_kindNumber := goodIn_r _ [18] (by decide +kernel) (by decide +kernel)
set_option maxRecDepth 20000 in
theorem gX6_jar_X0_kindNumber_u78X0 : GoodIn wsX6_jar (va_wsO RX6 78 RX0 "JamDays$Jar" ⟨"JamDays$Jar", "kindNumber", "()I"⟩ yX0_kindNumber wsX0_kindNumber) := goodIn_app (goodIn_of _ (by decide +kernel)) ggX6_jar_X0_kindNumber
set_option maxRecDepth 20000 in
theorem ggX6_jar_X2_kindNumber : GoodIn wsX6_jar wsX2_kindNumber := goodIn_r _ [23] (by decide +kernel) (by decide +kernel)
set_option maxRecDepth 20000 in
theorem gX6_jar_X2_kindNumber_u78X2 : GoodIn wsX6_jar (va_wsO RX6 78 RX2 "JamDays$Jar" ⟨"JamDays$Jar", "kindNumber", "()I"⟩ yX2_kindNumber wsX2_kindNumber) := goodIn_app (goodIn_of _ (by decide +kernel)) ggX6_jar_X2_kindNumber
set_option maxRecDepth 20000 in
theorem ggX6_jar_X3_kindNumber : GoodIn wsX6_jar wsX3_kindNumber := goodIn_r _ [19] (by decide +kernel) (by decide +kernel)
set_option maxRecDepth 20000 in
theorem gX6_jar_X3_kindNumber : GoodIn wsX6_jar (wsV RX6 78 RX3 yX3_kindNumber wsX3_kindNumber) := goodIn_app (goodIn_of _ (by decide +kernel)) ggX6_jar_X3_kindNumber
set_option maxRecDepth 20000 in
theorem ggX6_jar_X4_kindNumber : GoodIn wsX6_jar wsX4_kindNumber := goodIn_r _ [31] (by decide +kernel) (by decide +kernel)
set_option maxRecDepth 20000 in
theorem gX6_jar_X4_kindNumber_u78X4 : GoodIn wsX6_jar (va_wsO RX6 78 RX4 "JamDays$Jar" ⟨"JamDays$Jar", "kindNumber", "()I"⟩ yX4_kindNumber wsX4_kindNumber) := goodIn_app (goodIn_of _ (by decide +kernel)) ggX6_jar_X4_kindNumber
set_option maxRecDepth 20000 in
theorem ggX6_jar_X5_kindNumber : GoodIn wsX6_jar wsX5_kindNumber := goodIn_r _ [35] (by decide +kernel) (by decide +kernel)
set_option maxRecDepth 20000 in
theorem gX6_jar_X5_kindNumber_u78X5 : GoodIn wsX6_jar (va_wsO RX6 78 RX5 "JamDays$Jar" ⟨"JamDays$Jar", "kindNumber", "()I"⟩ yX5_kindNumber wsX5_kindNumber) := goodIn_app (goodIn_of _ (by decide +kernel)) ggX6_jar_X5_kindNumber
set_option maxRecDepth 20000 in
theorem ggX6_jar_X1_spoonsOf : GoodIn wsX6_jar wsX1_spoonsOf := goodIn_r _ [40, 41, 125, 126, 127, 128, 129, 130, 131, 132, 133] (by decide +kernel) (by decide +kernel)
set_option maxRecDepth 20000 in
theorem gX6_jar_X1_spoonsOf : GoodIn wsX6_jar (wsV RX6 88 RX1 yX1_spoonsOf wsX1_spoonsOf) := goodIn_app (goodIn_of _ (by decide +kernel)) ggX6_jar_X1_spoonsOf
set_option maxRecDepth 20000 in
theorem ggX6_jar_X3_mouldIn : GoodIn wsX6_jar wsX3_mouldIn := goodIn_r _ [46, 47, 98, 99, 100, 101, 102, 103, 104, 105, 106, 107, 108, 109, 110, 111, 112] (by decide +kernel) (by decide +kernel)
set_option maxRecDepth 20000 in
theorem gX6_jar_X3_mouldIn_u94X0 : GoodIn wsX6_jar (va_wsU RX6 94 RX0 "JamDays$Jar" ⟨"JamDays$Jar", "mouldIn", "(I)I"⟩ yX3_mouldIn wsX3_mouldIn) := goodIn_app (goodIn_of _ (by decide +kernel)) ggX6_jar_X3_mouldIn
set_option maxRecDepth 20000 in
theorem gX6_jar_X3_mouldIn_u94X2 : GoodIn wsX6_jar (va_wsU RX6 94 RX2 "JamDays$Jar" ⟨"JamDays$Jar", "mouldIn", "(I)I"⟩ yX3_mouldIn wsX3_mouldIn) := goodIn_app (goodIn_of _ (by decide +kernel)) ggX6_jar_X3_mouldIn
set_option maxRecDepth 20000 in
theorem gX6_jar_X3_mouldIn : GoodIn wsX6_jar (wsV RX6 94 RX3 yX3_mouldIn wsX3_mouldIn) := goodIn_app (goodIn_of _ (by decide +kernel)) ggX6_jar_X3_mouldIn
set_option maxRecDepth 20000 in
theorem gX6_jar_X3_mouldIn_u94X4 : GoodIn wsX6_jar (va_wsU RX6 94 RX4 "JamDays$Jar" ⟨"JamDays$Jar", "mouldIn", "(I)I"⟩ yX3_mouldIn wsX3_mouldIn) := goodIn_app (goodIn_of _ (by decide +kernel)) ggX6_jar_X3_mouldIn
set_option maxRecDepth 20000 in
theorem gX6_jar_X3_mouldIn_u94X5 : GoodIn wsX6_jar (va_wsU RX6 94 RX5 "JamDays$Jar" ⟨"JamDays$Jar", "mouldIn", "(I)I"⟩ yX3_mouldIn wsX3_mouldIn) := goodIn_app (goodIn_of _ (by decide +kernel)) ggX6_jar_X3_mouldIn
set_option maxRecDepth 20000 in
theorem ggX6_jar_X6_nextWorth : GoodIn wsX6_jar wsX6_nextWorth := goodIn_r _ [56, 3, 4, 57, 58, 59, 8, 60, 5, 6, 7, 9, 10, 11, 61, 62, 63, 64, 27, 65, 66, 67, 43, 44, 45, 46, 47, 48, 68, 50, 51, 52, 69, 70, 71, 22, 72, 73, 74, 75, 76, 77, 78, 79, 80, 81, 30, 82, 83, 84, 85, 86, 87, 88, 89, 90, 91, 39, 92, 93, 113, 114, 115, 116, 117, 118, 119, 120, 121, 122, 123, 124, 125, 126, 127, 128, 129, 130, 131, 132, 133, 98, 99, 100, 101, 102, 103, 104, 105, 106, 107, 108, 109, 110, 111, 112] (by decide +kernel) (by decide +kernel)
set_option maxRecDepth 20000 in
theorem gX6_jar_X6_nextWorth : GoodIn wsX6_jar (wsV RX6 97 RX6 yX6_nextWorth wsX6_nextWorth) := goodIn_app (goodIn_of _ (by decide +kernel)) ggX6_jar_X6_nextWorth
set_option maxRecDepth 20000 in
theorem ggX6_jar_X1_eatenNowOf : GoodIn wsX6_jar wsX1_eatenNowOf := goodIn_r _ [92, 93, 125, 126, 127, 128, 129, 130, 131, 132, 133] (by decide +kernel) (by decide +kernel)
set_option maxRecDepth 20000 in
theorem gX6_jar_X1_eatenNowOf : GoodIn wsX6_jar (wsV RX6 100 RX1 yX1_eatenNowOf wsX1_eatenNowOf) := goodIn_app (goodIn_of _ (by decide +kernel)) ggX6_jar_X1_eatenNowOf
set_option maxRecDepth 20000 in
theorem ggX6_jar_X6_yearsToBest : GoodIn wsX6_jar wsX6_yearsToBest := goodIn_r _ [97, 3, 4, 57, 58, 59, 8, 60, 5, 6, 7, 9, 10, 11, 61, 62, 63, 64, 27, 65, 66, 67, 43, 44, 45, 46, 47, 48, 68, 50, 51, 52, 69, 70, 71, 22, 72, 73, 74, 75, 76, 77, 78, 79, 80, 81, 30, 82, 83, 84, 85, 86, 87, 88, 113, 114, 115, 116, 117, 118, 119, 120, 121, 122, 123, 124, 125, 126, 127, 128, 129, 130, 131, 132, 133, 98, 99, 100, 101, 102, 103, 104, 105, 106, 107, 108, 109, 110, 111, 112] (by decide +kernel) (by decide +kernel)
set_option maxRecDepth 20000 in
theorem gX6_jar_X6_yearsToBest : GoodIn wsX6_jar (wsV RX6 103 RX6 yX6_yearsToBest wsX6_yearsToBest) := goodIn_app (goodIn_of _ (by decide +kernel)) ggX6_jar_X6_yearsToBest
theorem dX6_jar_0 : decode cX6_jar 0 = .ok (.aload_n 0, 1) := by decide +kernel
theorem dX6_jar_1 : decode cX6_jar 1 = .ok (.iload_n 1, 1) := by decide +kernel
theorem dX6_jar_2 : decode cX6_jar 2 = .ok (.invokevirtual 75, 3) := by decide +kernel
theorem dX6_jar_5 : decode cX6_jar 5 = .ok (.astore_n 3, 1) := by decide +kernel
theorem dX6_jar_6 : decode cX6_jar 6 = .ok (.aload_n 3, 1) := by decide +kernel
theorem dX6_jar_7 : decode cX6_jar 7 = .ok (.ifnonnull 6, 3) := by decide +kernel
theorem dX6_jar_10 : decode cX6_jar 10 = .ok (.bipush (-101), 2) := by decide +kernel
theorem dX6_jar_12 : decode cX6_jar 12 = .ok (.ireturn, 1) := by decide +kernel
theorem dX6_jar_13 : decode cX6_jar 13 = .ok (.iload_n 2, 1) := by decide +kernel
theorem dX6_jar_14 : decode cX6_jar 14 = .ok (.tableswitch 106 0 7 #[46, 51, 56, 61, 70, 82, 91, 100], 46) := by decide +kernel
theorem dX6_jar_60 : decode cX6_jar 60 = .ok (.aload_n 3, 1) := by decide +kernel
theorem dX6_jar_61 : decode cX6_jar 61 = .ok (.invokevirtual 78, 3) := by decide +kernel
theorem dX6_jar_64 : decode cX6_jar 64 = .ok (.ireturn, 1) := by decide +kernel
theorem dX6_jar_65 : decode cX6_jar 65 = .ok (.aload_n 3, 1) := by decide +kernel
theorem dX6_jar_66 : decode cX6_jar 66 = .ok (.getfield 82, 3) := by decide +kernel
theorem dX6_jar_69 : decode cX6_jar 69 = .ok (.ireturn, 1) := by decide +kernel
theorem dX6_jar_70 : decode cX6_jar 70 = .ok (.aload_n 3, 1) := by decide +kernel
theorem dX6_jar_71 : decode cX6_jar 71 = .ok (.getfield 85, 3) := by decide +kernel
theorem dX6_jar_74 : decode cX6_jar 74 = .ok (.ireturn, 1) := by decide +kernel
theorem dX6_jar_75 : decode cX6_jar 75 = .ok (.aload_n 0, 1) := by decide +kernel
theorem dX6_jar_76 : decode cX6_jar 76 = .ok (.getfield 29, 3) := by decide +kernel
theorem dX6_jar_79 : decode cX6_jar 79 = .ok (.iload_n 1, 1) := by decide +kernel
theorem dX6_jar_80 : decode cX6_jar 80 = .ok (.invokevirtual 88, 3) := by decide +kernel
theorem dX6_jar_83 : decode cX6_jar 83 = .ok (.ireturn, 1) := by decide +kernel
theorem dX6_jar_84 : decode cX6_jar 84 = .ok (.aload_n 3, 1) := by decide +kernel
theorem dX6_jar_85 : decode cX6_jar 85 = .ok (.aload_n 0, 1) := by decide +kernel
theorem dX6_jar_86 : decode cX6_jar 86 = .ok (.getfield 29, 3) := by decide +kernel
theorem dX6_jar_89 : decode cX6_jar 89 = .ok (.getfield 91, 3) := by decide +kernel
theorem dX6_jar_92 : decode cX6_jar 92 = .ok (.invokevirtual 94, 3) := by decide +kernel
theorem dX6_jar_95 : decode cX6_jar 95 = .ok (.ireturn, 1) := by decide +kernel
theorem dX6_jar_96 : decode cX6_jar 96 = .ok (.aload_n 0, 1) := by decide +kernel
theorem dX6_jar_97 : decode cX6_jar 97 = .ok (.iload_n 1, 1) := by decide +kernel
theorem dX6_jar_98 : decode cX6_jar 98 = .ok (.invokevirtual 97, 3) := by decide +kernel
theorem dX6_jar_101 : decode cX6_jar 101 = .ok (.bipush 100, 2) := by decide +kernel
theorem dX6_jar_103 : decode cX6_jar 103 = .ok (.iadd, 1) := by decide +kernel
theorem dX6_jar_104 : decode cX6_jar 104 = .ok (.ireturn, 1) := by decide +kernel
theorem dX6_jar_105 : decode cX6_jar 105 = .ok (.aload_n 0, 1) := by decide +kernel
theorem dX6_jar_106 : decode cX6_jar 106 = .ok (.getfield 29, 3) := by decide +kernel
theorem dX6_jar_109 : decode cX6_jar 109 = .ok (.iload_n 1, 1) := by decide +kernel
theorem dX6_jar_110 : decode cX6_jar 110 = .ok (.invokevirtual 100, 3) := by decide +kernel
theorem dX6_jar_113 : decode cX6_jar 113 = .ok (.ireturn, 1) := by decide +kernel
theorem dX6_jar_114 : decode cX6_jar 114 = .ok (.aload_n 0, 1) := by decide +kernel
theorem dX6_jar_115 : decode cX6_jar 115 = .ok (.iload_n 1, 1) := by decide +kernel
theorem dX6_jar_116 : decode cX6_jar 116 = .ok (.invokevirtual 103, 3) := by decide +kernel
theorem dX6_jar_119 : decode cX6_jar 119 = .ok (.ireturn, 1) := by decide +kernel
theorem dX6_jar_120 : decode cX6_jar 120 = .ok (.bipush (-102), 2) := by decide +kernel
theorem dX6_jar_122 : decode cX6_jar 122 = .ok (.ireturn, 1) := by decide +kernel
set_option maxRecDepth 20000 in
theorem ggX6_as_X6_find : GoodIn wsX6_as wsX6_find := goodIn_r _ [5, 6, 7, 15, 16, 17, 18, 19, 20, 21, 22, 23, 24, 25, 26] (by decide +kernel) (by decide +kernel)
set_option maxRecDepth 20000 in
theorem gX6_as_X6_find : GoodIn wsX6_as (wsV RX6 75 RX6 yX6_find wsX6_find) := goodIn_app (goodIn_of _ (by decide +kernel)) ggX6_as_X6_find
set_option maxRecDepth 20000 in
theorem ggX6_as_X6_isOfKind : GoodIn wsX6_as wsX6_isOfKind := goodIn_r _ [10, 11, 12, 13, 14] (by decide +kernel) (by decide +kernel)
set_option maxRecDepth 20000 in
theorem gX6_as_X6_isOfKind : GoodIn wsX6_as (va_wsS RX6 106 yX6_isOfKind wsX6_isOfKind) := goodIn_app (goodIn_of _ (by decide +kernel)) ggX6_as_X6_isOfKind
theorem dX6_as_0 : decode cX6_as 0 = .ok (.aload_n 0, 1) := by decide +kernel
theorem dX6_as_1 : decode cX6_as 1 = .ok (.iload_n 1, 1) := by decide +kernel
theorem dX6_as_2 : decode cX6_as 2 = .ok (.invokevirtual 75, 3) := by decide +kernel
theorem dX6_as_5 : decode cX6_as 5 = .ok (.astore_n 3, 1) := by decide +kernel
theorem dX6_as_6 : decode cX6_as 6 = .ok (.aload_n 3, 1) := by decide +kernel
theorem dX6_as_7 : decode cX6_as 7 = .ok (.ifnonnull 6, 3) := by decide +kernel
theorem dX6_as_10 : decode cX6_as 10 = .ok (.bipush (-101), 2) := by decide +kernel
theorem dX6_as_12 : decode cX6_as 12 = .ok (.ireturn, 1) := by decide +kernel
theorem dX6_as_13 : decode cX6_as 13 = .ok (.iload_n 2, 1) := by decide +kernel
theorem dX6_as_14 : decode cX6_as 14 = .ok (.ifCond .lt 8, 3) := by decide +kernel
theorem dX6_as_17 : decode cX6_as 17 = .ok (.iload_n 2, 1) := by decide +kernel
theorem dX6_as_18 : decode cX6_as 18 = .ok (.iconst 4, 1) := by decide +kernel
theorem dX6_as_19 : decode cX6_as 19 = .ok (.if_icmp .le 6, 3) := by decide +kernel
theorem dX6_as_22 : decode cX6_as 22 = .ok (.bipush (-102), 2) := by decide +kernel
theorem dX6_as_24 : decode cX6_as 24 = .ok (.ireturn, 1) := by decide +kernel
theorem dX6_as_25 : decode cX6_as 25 = .ok (.aload_n 3, 1) := by decide +kernel
theorem dX6_as_26 : decode cX6_as 26 = .ok (.iload_n 2, 1) := by decide +kernel
theorem dX6_as_27 : decode cX6_as 27 = .ok (.invokestatic 106, 3) := by decide +kernel
theorem dX6_as_30 : decode cX6_as 30 = .ok (.ifCond .eq 7, 3) := by decide +kernel
theorem dX6_as_33 : decode cX6_as 33 = .ok (.iload_n 1, 1) := by decide +kernel
theorem dX6_as_34 : decode cX6_as 34 = .ok (.goto 4, 3) := by decide +kernel
theorem dX6_as_37 : decode cX6_as 37 = .ok (.iconst (-1), 1) := by decide +kernel
theorem dX6_as_38 : decode cX6_as 38 = .ok (.ireturn, 1) := by decide +kernel
set_option maxRecDepth 20000 in
theorem ggX6_worth_X6_find : GoodIn wsX6_worth wsX6_find := goodIn_r _ [5, 6, 7, 55, 56, 57, 58, 59, 60, 61, 62, 63, 64, 65, 66] (by decide +kernel) (by decide +kernel)
set_option maxRecDepth 20000 in
theorem gX6_worth_X6_find : GoodIn wsX6_worth (wsV RX6 75 RX6 yX6_find wsX6_find) := goodIn_app (goodIn_of _ (by decide +kernel)) ggX6_worth_X6_find
set_option maxRecDepth 20000 in
theorem ggX6_worth_X6_isNoYear : GoodIn wsX6_worth wsX6_isNoYear := goodIn_r _ [10] (by decide +kernel) (by decide +kernel)
set_option maxRecDepth 20000 in
theorem gX6_worth_X6_isNoYear : GoodIn wsX6_worth (va_wsS RX6 110 yX6_isNoYear wsX6_isNoYear) := goodIn_app (goodIn_of _ (by decide +kernel)) ggX6_worth_X6_isNoYear
set_option maxRecDepth 20000 in
theorem ggX6_worth_X6_firstWorth : GoodIn wsX6_worth wsX6_firstWorth := goodIn_r _ [14, 1, 2, 3, 4, 5, 6, 7, 15, 16, 17, 18, 19, 20, 21, 22, 23, 24, 25, 26, 27, 28, 29, 30, 31, 32, 33, 34, 35, 36, 37, 38, 39, 40, 41, 42, 43, 44, 45, 46, 47, 48, 49, 50, 51, 52, 53, 54, 55, 56, 57, 58, 59, 60, 61, 62, 63, 64, 65, 66, 67, 68, 69, 70, 71, 72, 73, 74, 75, 76, 77, 78, 79, 80, 81] (by decide +kernel) (by decide +kernel)
set_option maxRecDepth 20000 in
theorem gX6_worth_X6_firstWorth : GoodIn wsX6_worth (wsV RX6 114 RX6 yX6_firstWorth wsX6_firstWorth) := goodIn_app (goodIn_of _ (by decide +kernel)) ggX6_worth_X6_firstWorth
theorem dX6_worth_0 : decode cX6_worth 0 = .ok (.aload_n 0, 1) := by decide +kernel
theorem dX6_worth_1 : decode cX6_worth 1 = .ok (.iload_n 1, 1) := by decide +kernel
theorem dX6_worth_2 : decode cX6_worth 2 = .ok (.invokevirtual 75, 3) := by decide +kernel
theorem dX6_worth_5 : decode cX6_worth 5 = .ok (.ifnonnull 6, 3) := by decide +kernel
theorem dX6_worth_8 : decode cX6_worth 8 = .ok (.bipush (-101), 2) := by decide +kernel
theorem dX6_worth_10 : decode cX6_worth 10 = .ok (.ireturn, 1) := by decide +kernel
theorem dX6_worth_11 : decode cX6_worth 11 = .ok (.iload_n 2, 1) := by decide +kernel
theorem dX6_worth_12 : decode cX6_worth 12 = .ok (.invokestatic 110, 3) := by decide +kernel
theorem dX6_worth_15 : decode cX6_worth 15 = .ok (.ifCond .eq 6, 3) := by decide +kernel
theorem dX6_worth_18 : decode cX6_worth 18 = .ok (.bipush (-102), 2) := by decide +kernel
theorem dX6_worth_20 : decode cX6_worth 20 = .ok (.ireturn, 1) := by decide +kernel
theorem dX6_worth_21 : decode cX6_worth 21 = .ok (.aload_n 0, 1) := by decide +kernel
theorem dX6_worth_22 : decode cX6_worth 22 = .ok (.iload_n 1, 1) := by decide +kernel
theorem dX6_worth_23 : decode cX6_worth 23 = .ok (.iload_n 2, 1) := by decide +kernel
theorem dX6_worth_24 : decode cX6_worth 24 = .ok (.invokevirtual 114, 3) := by decide +kernel
theorem dX6_worth_27 : decode cX6_worth 27 = .ok (.bipush 100, 2) := by decide +kernel
theorem dX6_worth_29 : decode cX6_worth 29 = .ok (.iadd, 1) := by decide +kernel
theorem dX6_worth_30 : decode cX6_worth 30 = .ok (.ireturn, 1) := by decide +kernel
set_option maxRecDepth 20000 in
theorem ggX6_eat_X6_find : GoodIn wsX6_eat wsX6_find := goodIn_r _ [6, 7, 8, 75, 76, 77, 78, 79, 80, 81, 82, 83, 84, 85, 86] (by decide +kernel) (by decide +kernel)
set_option maxRecDepth 20000 in
theorem gX6_eat_X6_find : GoodIn wsX6_eat (wsV RX6 75 RX6 yX6_find wsX6_find) := goodIn_app (goodIn_of _ (by decide +kernel)) ggX6_eat_X6_find
set_option maxRecDepth 20000 in
theorem ggX6_eat_X6_nextWorth : GoodIn wsX6_eat wsX6_nextWorth := goodIn_r _ [12, 1, 13, 14, 15, 16, 5, 17, 2, 3, 4, 6, 7, 8, 18, 19, 20, 21, 22, 23, 24, 25, 26, 27, 28, 29, 30, 31, 32, 33, 34, 35, 36, 37, 38, 39, 40, 41, 42, 43, 44, 45, 46, 47, 48, 49, 50, 51, 52, 53, 54, 55, 56, 57, 58, 59, 60, 61, 62, 63, 75, 76, 77, 78, 79, 80, 81, 82, 83, 84, 85, 86, 87, 88, 89, 90, 91, 92, 93, 94, 95, 96, 97, 98, 99, 100, 101, 102, 103, 104, 105, 106, 107, 108, 109, 110] (by decide +kernel) (by decide +kernel)
set_option maxRecDepth 20000 in
theorem gX6_eat_X6_nextWorth : GoodIn wsX6_eat (wsV RX6 97 RX6 yX6_nextWorth wsX6_nextWorth) := goodIn_app (goodIn_of _ (by decide +kernel)) ggX6_eat_X6_nextWorth
set_option maxRecDepth 20000 in
theorem ggX6_eat_X1_eatSpoon : GoodIn wsX6_eat wsX1_eatSpoon := goodIn_r _ [67, 68, 63, 69, 70, 71, 72, 73, 61, 74, 87, 88, 89, 90, 91, 92, 93, 94, 95] (by decide +kernel) (by decide +kernel)
set_option maxRecDepth 20000 in
theorem gX6_eat_X1_eatSpoon : GoodIn wsX6_eat (wsV RX6 118 RX1 yX1_eatSpoon wsX1_eatSpoon) := goodIn_app (goodIn_of _ (by decide +kernel)) ggX6_eat_X1_eatSpoon
theorem dX6_eat_0 : decode cX6_eat 0 = .ok (.aload_n 0, 1) := by decide +kernel
theorem dX6_eat_1 : decode cX6_eat 1 = .ok (.iload_n 1, 1) := by decide +kernel
theorem dX6_eat_2 : decode cX6_eat 2 = .ok (.invokevirtual 75, 3) := by decide +kernel
theorem dX6_eat_5 : decode cX6_eat 5 = .ok (.ifnonnull 6, 3) := by decide +kernel
theorem dX6_eat_8 : decode cX6_eat 8 = .ok (.bipush (-101), 2) := by decide +kernel
theorem dX6_eat_10 : decode cX6_eat 10 = .ok (.ireturn, 1) := by decide +kernel
theorem dX6_eat_11 : decode cX6_eat 11 = .ok (.aload_n 0, 1) := by decide +kernel
theorem dX6_eat_12 : decode cX6_eat 12 = .ok (.iload_n 1, 1) := by decide +kernel
theorem dX6_eat_13 : decode cX6_eat 13 = .ok (.invokevirtual 97, 3) := by decide +kernel
theorem dX6_eat_16 : decode cX6_eat 16 = .ok (.istore_n 2, 1) := by decide +kernel
theorem dX6_eat_17 : decode cX6_eat 17 = .ok (.aload_n 0, 1) := by decide +kernel
theorem dX6_eat_18 : decode cX6_eat 18 = .ok (.getfield 29, 3) := by decide +kernel
theorem dX6_eat_21 : decode cX6_eat 21 = .ok (.iload_n 1, 1) := by decide +kernel
theorem dX6_eat_22 : decode cX6_eat 22 = .ok (.iload_n 2, 1) := by decide +kernel
theorem dX6_eat_23 : decode cX6_eat 23 = .ok (.invokevirtual 118, 3) := by decide +kernel
theorem dX6_eat_26 : decode cX6_eat 26 = .ok (.ifCond .eq 10, 3) := by decide +kernel
theorem dX6_eat_29 : decode cX6_eat 29 = .ok (.iload_n 2, 1) := by decide +kernel
theorem dX6_eat_30 : decode cX6_eat 30 = .ok (.bipush 100, 2) := by decide +kernel
theorem dX6_eat_32 : decode cX6_eat 32 = .ok (.iadd, 1) := by decide +kernel
theorem dX6_eat_33 : decode cX6_eat 33 = .ok (.goto 5, 3) := by decide +kernel
theorem dX6_eat_36 : decode cX6_eat 36 = .ok (.bipush (-103), 2) := by decide +kernel
theorem dX6_eat_38 : decode cX6_eat 38 = .ok (.ireturn, 1) := by decide +kernel
set_option maxRecDepth 20000 in
theorem ggX6_wasps_X6_find : GoodIn wsX6_wasps wsX6_find := goodIn_r _ [6, 7, 8, 21, 22, 23, 24, 25, 26, 27, 28, 29, 30, 31, 32] (by decide +kernel) (by decide +kernel)
set_option maxRecDepth 20000 in
theorem gX6_wasps_X6_find : GoodIn wsX6_wasps (wsV RX6 75 RX6 yX6_find wsX6_find) := goodIn_app (goodIn_of _ (by decide +kernel)) ggX6_wasps_X6_find
set_option maxRecDepth 20000 in
theorem ggX6_wasps_X1_loseSpoon : GoodIn wsX6_wasps wsX1_loseSpoon := goodIn_r _ [13, 14, 15, 16, 17, 18, 12, 19, 33, 34, 35, 36, 37, 38, 39, 40, 41] (by decide +kernel) (by decide +kernel)
set_option maxRecDepth 20000 in
theorem gX6_wasps_X1_loseSpoon : GoodIn wsX6_wasps (wsV RX6 121 RX1 yX1_loseSpoon wsX1_loseSpoon) := goodIn_app (goodIn_of _ (by decide +kernel)) ggX6_wasps_X1_loseSpoon
set_option maxRecDepth 20000 in
theorem ggX6_wasps_X1_spoonsOf : GoodIn wsX6_wasps wsX1_spoonsOf := goodIn_r _ [19, 14, 33, 34, 35, 36, 37, 38, 39, 40, 41] (by decide +kernel) (by decide +kernel)
set_option maxRecDepth 20000 in
theorem gX6_wasps_X1_spoonsOf : GoodIn wsX6_wasps (wsV RX6 88 RX1 yX1_spoonsOf wsX1_spoonsOf) := goodIn_app (goodIn_of _ (by decide +kernel)) ggX6_wasps_X1_spoonsOf
theorem dX6_wasps_0 : decode cX6_wasps 0 = .ok (.aload_n 0, 1) := by decide +kernel
theorem dX6_wasps_1 : decode cX6_wasps 1 = .ok (.iload_n 1, 1) := by decide +kernel
theorem dX6_wasps_2 : decode cX6_wasps 2 = .ok (.invokevirtual 75, 3) := by decide +kernel
theorem dX6_wasps_5 : decode cX6_wasps 5 = .ok (.ifnonnull 6, 3) := by decide +kernel
theorem dX6_wasps_8 : decode cX6_wasps 8 = .ok (.bipush (-101), 2) := by decide +kernel
theorem dX6_wasps_10 : decode cX6_wasps 10 = .ok (.ireturn, 1) := by decide +kernel
theorem dX6_wasps_11 : decode cX6_wasps 11 = .ok (.aload_n 0, 1) := by decide +kernel
theorem dX6_wasps_12 : decode cX6_wasps 12 = .ok (.getfield 29, 3) := by decide +kernel
theorem dX6_wasps_15 : decode cX6_wasps 15 = .ok (.iload_n 1, 1) := by decide +kernel
theorem dX6_wasps_16 : decode cX6_wasps 16 = .ok (.invokevirtual 121, 3) := by decide +kernel
theorem dX6_wasps_19 : decode cX6_wasps 19 = .ok (.ifCond .eq 14, 3) := by decide +kernel
theorem dX6_wasps_22 : decode cX6_wasps 22 = .ok (.aload_n 0, 1) := by decide +kernel
theorem dX6_wasps_23 : decode cX6_wasps 23 = .ok (.getfield 29, 3) := by decide +kernel
theorem dX6_wasps_26 : decode cX6_wasps 26 = .ok (.iload_n 1, 1) := by decide +kernel
theorem dX6_wasps_27 : decode cX6_wasps 27 = .ok (.invokevirtual 88, 3) := by decide +kernel
theorem dX6_wasps_30 : decode cX6_wasps 30 = .ok (.goto 5, 3) := by decide +kernel
theorem dX6_wasps_33 : decode cX6_wasps 33 = .ok (.bipush (-103), 2) := by decide +kernel
theorem dX6_wasps_35 : decode cX6_wasps 35 = .ok (.ireturn, 1) := by decide +kernel
set_option maxRecDepth 20000 in
theorem ggX6_year_X6_hasNoLarder : GoodIn wsX6_year wsX6_hasNoLarder := goodIn_r _ [7, 8, 16, 17, 18, 19, 20, 21, 22, 23, 24, 25, 26, 27] (by decide +kernel) (by decide +kernel)
set_option maxRecDepth 20000 in
theorem gX6_year_X6_hasNoLarder : GoodIn wsX6_year (wsV RX6 124 RX6 yX6_hasNoLarder wsX6_hasNoLarder) := goodIn_app (goodIn_of _ (by decide +kernel)) ggX6_year_X6_hasNoLarder
set_option maxRecDepth 20000 in
theorem ggX6_year_X1_passYear : GoodIn wsX6_year wsX1_passYear := goodIn_r _ [13, 14, 15, 28, 29, 30, 31, 32, 33, 34, 35, 36] (by decide +kernel) (by decide +kernel)
set_option maxRecDepth 20000 in
theorem gX6_year_X1_passYear : GoodIn wsX6_year (wsV RX6 127 RX1 yX1_passYear wsX1_passYear) := goodIn_app (goodIn_of _ (by decide +kernel)) ggX6_year_X1_passYear
theorem dX6_year_0 : decode cX6_year 0 = .ok (.aload_n 0, 1) := by decide +kernel
theorem dX6_year_1 : decode cX6_year 1 = .ok (.invokevirtual 124, 3) := by decide +kernel
theorem dX6_year_4 : decode cX6_year 4 = .ok (.ifCond .eq 6, 3) := by decide +kernel
theorem dX6_year_7 : decode cX6_year 7 = .ok (.bipush (-103), 2) := by decide +kernel
theorem dX6_year_9 : decode cX6_year 9 = .ok (.ireturn, 1) := by decide +kernel
theorem dX6_year_10 : decode cX6_year 10 = .ok (.aload_n 0, 1) := by decide +kernel
theorem dX6_year_11 : decode cX6_year 11 = .ok (.getfield 29, 3) := by decide +kernel
theorem dX6_year_14 : decode cX6_year 14 = .ok (.getfield 91, 3) := by decide +kernel
theorem dX6_year_17 : decode cX6_year 17 = .ok (.bipush 99, 2) := by decide +kernel
theorem dX6_year_19 : decode cX6_year 19 = .ok (.if_icmp .lt 6, 3) := by decide +kernel
theorem dX6_year_22 : decode cX6_year 22 = .ok (.bipush (-104), 2) := by decide +kernel
theorem dX6_year_24 : decode cX6_year 24 = .ok (.ireturn, 1) := by decide +kernel
theorem dX6_year_25 : decode cX6_year 25 = .ok (.aload_n 0, 1) := by decide +kernel
theorem dX6_year_26 : decode cX6_year 26 = .ok (.getfield 29, 3) := by decide +kernel
theorem dX6_year_29 : decode cX6_year 29 = .ok (.invokevirtual 127, 3) := by decide +kernel
theorem dX6_year_32 : decode cX6_year 32 = .ok (.aload_n 0, 1) := by decide +kernel
theorem dX6_year_33 : decode cX6_year 33 = .ok (.getfield 29, 3) := by decide +kernel
theorem dX6_year_36 : decode cX6_year 36 = .ok (.getfield 91, 3) := by decide +kernel
theorem dX6_year_39 : decode cX6_year 39 = .ok (.ireturn, 1) := by decide +kernel
set_option maxRecDepth 20000 in
theorem ggX6_best_X6_hasNoLarder : GoodIn wsX6_best wsX6_hasNoLarder := goodIn_r _ [7, 8, 115, 116, 117, 118, 119, 120, 121, 122, 123, 124, 125, 126] (by decide +kernel) (by decide +kernel)
set_option maxRecDepth 20000 in
theorem gX6_best_X6_hasNoLarder : GoodIn wsX6_best (wsV RX6 124 RX6 yX6_hasNoLarder wsX6_hasNoLarder) := goodIn_app (goodIn_of _ (by decide +kernel)) ggX6_best_X6_hasNoLarder
set_option maxRecDepth 20000 in
theorem ggX6_best_X6_fillMost : GoodIn wsX6_best wsX6_fillMost := goodIn_r _ [12, 8, 2, 13, 14, 15, 16, 17, 18, 19, 20, 6, 21, 22, 23, 24, 25, 26, 27, 28, 29, 30, 31, 32, 33, 34, 35, 36, 37, 38, 39, 40, 41, 42, 43, 44, 45, 46, 47, 48, 49, 50, 51, 52, 53, 54, 55, 56, 57, 58, 59, 60, 61, 62, 63, 64, 65, 66, 67, 68, 69, 70, 71, 72, 73, 74, 75, 76, 77, 78, 79, 80, 81, 82, 83, 84, 85, 86, 87, 88, 89, 90, 91, 92, 93, 94, 95, 96, 97, 98, 99, 100, 101, 102, 103, 104, 105, 106, 115, 116, 117, 118, 119, 120, 121, 122, 123, 124, 125, 126, 127, 128, 129, 130, 131, 132, 133, 134, 135, 136, 137, 138, 139, 140, 141, 142, 143, 144, 145, 146, 147, 148, 149, 150] (by decide +kernel) (by decide +kernel)
set_option maxRecDepth 20000 in
theorem gX6_best_X6_fillMost : GoodIn wsX6_best (wsV RX6 130 RX6 yX6_fillMost wsX6_fillMost) := goodIn_app (goodIn_of _ (by decide +kernel)) ggX6_best_X6_fillMost
set_option maxRecDepth 20000 in
theorem ggX6_best_X6_mostWorth : GoodIn wsX6_best wsX6_mostWorth := goodIn_r _ [101, 22, 2, 23, 24, 6, 25, 115, 116, 117, 118, 119, 120, 121, 122, 123, 124, 125, 126] (by decide +kernel) (by decide +kernel)
set_option maxRecDepth 20000 in
theorem gX6_best_X6_mostWorth : GoodIn wsX6_best (wsV RX6 133 RX6 yX6_mostWorth wsX6_mostWorth) := goodIn_app (goodIn_of _ (by decide +kernel)) ggX6_best_X6_mostWorth
set_option maxRecDepth 20000 in
theorem ggX6_best_X6_pickOf : GoodIn wsX6_best wsX6_pickOf := goodIn_r _ [110, 36, 37, 38, 6, 39, 8, 40, 111, 112, 113, 114, 94, 95, 96, 97, 30, 2, 17, 98, 99, 100, 101, 22, 23, 24, 25, 102, 103, 104, 84, 105, 106, 115, 116, 117, 118, 119, 120, 121, 122, 123, 124, 125, 126, 127, 128, 129, 130, 131, 132, 133, 134, 135] (by decide +kernel) (by decide +kernel)
set_option maxRecDepth 20000 in
theorem gX6_best_X6_pickOf : GoodIn wsX6_best (wsV RX6 137 RX6 yX6_pickOf wsX6_pickOf) := goodIn_app (goodIn_of _ (by decide +kernel)) ggX6_best_X6_pickOf
theorem dX6_best_0 : decode cX6_best 0 = .ok (.iload_n 2, 1) := by decide +kernel
theorem dX6_best_1 : decode cX6_best 1 = .ok (.bipush 10, 2) := by decide +kernel
theorem dX6_best_3 : decode cX6_best 3 = .ok (.if_icmp .lt 13, 3) := by decide +kernel
theorem dX6_best_6 : decode cX6_best 6 = .ok (.iload_n 2, 1) := by decide +kernel
theorem dX6_best_7 : decode cX6_best 7 = .ok (.bipush 16, 2) := by decide +kernel
theorem dX6_best_9 : decode cX6_best 9 = .ok (.if_icmp .ge 7, 3) := by decide +kernel
theorem dX6_best_12 : decode cX6_best 12 = .ok (.iconst 1, 1) := by decide +kernel
theorem dX6_best_13 : decode cX6_best 13 = .ok (.goto 4, 3) := by decide +kernel
theorem dX6_best_16 : decode cX6_best 16 = .ok (.iconst 0, 1) := by decide +kernel
theorem dX6_best_17 : decode cX6_best 17 = .ok (.istore_n 3, 1) := by decide +kernel
theorem dX6_best_18 : decode cX6_best 18 = .ok (.iload_n 1, 1) := by decide +kernel
theorem dX6_best_19 : decode cX6_best 19 = .ok (.ifCond .lt 17, 3) := by decide +kernel
theorem dX6_best_22 : decode cX6_best 22 = .ok (.iload_n 1, 1) := by decide +kernel
theorem dX6_best_23 : decode cX6_best 23 = .ok (.bipush 12, 2) := by decide +kernel
theorem dX6_best_25 : decode cX6_best 25 = .ok (.if_icmp .gt 11, 3) := by decide +kernel
theorem dX6_best_28 : decode cX6_best 28 = .ok (.iload_n 2, 1) := by decide +kernel
theorem dX6_best_29 : decode cX6_best 29 = .ok (.ifCond .eq 10, 3) := by decide +kernel
theorem dX6_best_32 : decode cX6_best 32 = .ok (.iload_n 3, 1) := by decide +kernel
theorem dX6_best_33 : decode cX6_best 33 = .ok (.ifCond .ne 6, 3) := by decide +kernel
theorem dX6_best_36 : decode cX6_best 36 = .ok (.bipush (-102), 2) := by decide +kernel
theorem dX6_best_38 : decode cX6_best 38 = .ok (.ireturn, 1) := by decide +kernel
theorem dX6_best_39 : decode cX6_best 39 = .ok (.aload_n 0, 1) := by decide +kernel
theorem dX6_best_40 : decode cX6_best 40 = .ok (.invokevirtual 124, 3) := by decide +kernel
theorem dX6_best_43 : decode cX6_best 43 = .ok (.ifCond .ne 12, 3) := by decide +kernel
theorem dX6_best_46 : decode cX6_best 46 = .ok (.aload_n 0, 1) := by decide +kernel
theorem dX6_best_47 : decode cX6_best 47 = .ok (.getfield 46, 3) := by decide +kernel
theorem dX6_best_50 : decode cX6_best 50 = .ok (.bipush 40, 2) := by decide +kernel
theorem dX6_best_52 : decode cX6_best 52 = .ok (.if_icmp .lt 6, 3) := by decide +kernel
theorem dX6_best_55 : decode cX6_best 55 = .ok (.bipush (-103), 2) := by decide +kernel
theorem dX6_best_57 : decode cX6_best 57 = .ok (.ireturn, 1) := by decide +kernel
theorem dX6_best_58 : decode cX6_best 58 = .ok (.aload_n 0, 1) := by decide +kernel
theorem dX6_best_59 : decode cX6_best 59 = .ok (.dup, 1) := by decide +kernel
theorem dX6_best_60 : decode cX6_best 60 = .ok (.getfield 46, 3) := by decide +kernel
theorem dX6_best_63 : decode cX6_best 63 = .ok (.iconst 1, 1) := by decide +kernel
theorem dX6_best_64 : decode cX6_best 64 = .ok (.iadd, 1) := by decide +kernel
theorem dX6_best_65 : decode cX6_best 65 = .ok (.putfield 46, 3) := by decide +kernel
theorem dX6_best_68 : decode cX6_best 68 = .ok (.aload_n 0, 1) := by decide +kernel
theorem dX6_best_69 : decode cX6_best 69 = .ok (.invokevirtual 130, 3) := by decide +kernel
theorem dX6_best_72 : decode cX6_best 72 = .ok (.aload_n 0, 1) := by decide +kernel
theorem dX6_best_73 : decode cX6_best 73 = .ok (.iconst 0, 1) := by decide +kernel
theorem dX6_best_74 : decode cX6_best 74 = .ok (.iload_n 1, 1) := by decide +kernel
theorem dX6_best_75 : decode cX6_best 75 = .ok (.invokevirtual 133, 3) := by decide +kernel
theorem dX6_best_78 : decode cX6_best 78 = .ok (.istore 4, 2) := by decide +kernel
theorem dX6_best_80 : decode cX6_best 80 = .ok (.iload 4, 2) := by decide +kernel
theorem dX6_best_82 : decode cX6_best 82 = .ok (.ldc 136, 2) := by decide +kernel
theorem dX6_best_84 : decode cX6_best 84 = .ok (.if_icmp .ne 5, 3) := by decide +kernel
theorem dX6_best_87 : decode cX6_best 87 = .ok (.iconst (-1), 1) := by decide +kernel
theorem dX6_best_88 : decode cX6_best 88 = .ok (.ireturn, 1) := by decide +kernel
theorem dX6_best_89 : decode cX6_best 89 = .ok (.iload_n 2, 1) := by decide +kernel
theorem dX6_best_90 : decode cX6_best 90 = .ok (.ifCond .ne 12, 3) := by decide +kernel
theorem dX6_best_93 : decode cX6_best 93 = .ok (.iload 4, 2) := by decide +kernel
theorem dX6_best_95 : decode cX6_best 95 = .ok (.sipush 1000, 3) := by decide +kernel
theorem dX6_best_98 : decode cX6_best 98 = .ok (.iadd, 1) := by decide +kernel
theorem dX6_best_99 : decode cX6_best 99 = .ok (.goto 12, 3) := by decide +kernel
theorem dX6_best_102 : decode cX6_best 102 = .ok (.aload_n 0, 1) := by decide +kernel
theorem dX6_best_103 : decode cX6_best 103 = .ok (.iload_n 2, 1) := by decide +kernel
theorem dX6_best_104 : decode cX6_best 104 = .ok (.bipush 10, 2) := by decide +kernel
theorem dX6_best_106 : decode cX6_best 106 = .ok (.isub, 1) := by decide +kernel
theorem dX6_best_107 : decode cX6_best 107 = .ok (.iload_n 1, 1) := by decide +kernel
theorem dX6_best_108 : decode cX6_best 108 = .ok (.invokevirtual 137, 3) := by decide +kernel
theorem dX6_best_111 : decode cX6_best 111 = .ok (.ireturn, 1) := by decide +kernel
set_option maxRecDepth 20000 in
theorem ggX6_taste_X6_isNoYear : GoodIn wsX6_taste wsX6_isNoYear := goodIn_r _ [6] (by decide +kernel) (by decide +kernel)
set_option maxRecDepth 20000 in
theorem gX6_taste_X6_isNoYear : GoodIn wsX6_taste (va_wsS RX6 110 yX6_isNoYear wsX6_isNoYear) := goodIn_app (goodIn_of _ (by decide +kernel)) ggX6_taste_X6_isNoYear
set_option maxRecDepth 20000 in
theorem ggX6_taste_X1_addTaste : GoodIn wsX6_taste wsX1_addTaste := goodIn_r _ [11, 12, 13, 14, 27, 28, 29, 30, 31, 32, 33, 34, 35] (by decide +kernel) (by decide +kernel)
set_option maxRecDepth 20000 in
theorem gX6_taste_X1_addTaste : GoodIn wsX6_taste (wsV RX6 140 RX1 yX1_addTaste wsX1_addTaste) := goodIn_app (goodIn_of _ (by decide +kernel)) ggX6_taste_X1_addTaste
theorem dX6_taste_0 : decode cX6_taste 0 = .ok (.iload_n 1, 1) := by decide +kernel
theorem dX6_taste_1 : decode cX6_taste 1 = .ok (.invokestatic 110, 3) := by decide +kernel
theorem dX6_taste_4 : decode cX6_taste 4 = .ok (.ifCond .ne 15, 3) := by decide +kernel
theorem dX6_taste_7 : decode cX6_taste 7 = .ok (.iload_n 2, 1) := by decide +kernel
theorem dX6_taste_8 : decode cX6_taste 8 = .ok (.bipush (-20), 2) := by decide +kernel
theorem dX6_taste_10 : decode cX6_taste 10 = .ok (.if_icmp .lt 9, 3) := by decide +kernel
theorem dX6_taste_13 : decode cX6_taste 13 = .ok (.iload_n 2, 1) := by decide +kernel
theorem dX6_taste_14 : decode cX6_taste 14 = .ok (.bipush 30, 2) := by decide +kernel
theorem dX6_taste_16 : decode cX6_taste 16 = .ok (.if_icmp .le 6, 3) := by decide +kernel
theorem dX6_taste_19 : decode cX6_taste 19 = .ok (.bipush (-102), 2) := by decide +kernel
theorem dX6_taste_21 : decode cX6_taste 21 = .ok (.ireturn, 1) := by decide +kernel
theorem dX6_taste_22 : decode cX6_taste 22 = .ok (.aload_n 0, 1) := by decide +kernel
theorem dX6_taste_23 : decode cX6_taste 23 = .ok (.getfield 29, 3) := by decide +kernel
theorem dX6_taste_26 : decode cX6_taste 26 = .ok (.iload_n 1, 1) := by decide +kernel
theorem dX6_taste_27 : decode cX6_taste 27 = .ok (.iload_n 2, 1) := by decide +kernel
theorem dX6_taste_28 : decode cX6_taste 28 = .ok (.invokevirtual 140, 3) := by decide +kernel
theorem dX6_taste_31 : decode cX6_taste 31 = .ok (.ifCond .eq 13, 3) := by decide +kernel
theorem dX6_taste_34 : decode cX6_taste 34 = .ok (.aload_n 0, 1) := by decide +kernel
theorem dX6_taste_35 : decode cX6_taste 35 = .ok (.getfield 29, 3) := by decide +kernel
theorem dX6_taste_38 : decode cX6_taste 38 = .ok (.getfield 143, 3) := by decide +kernel
theorem dX6_taste_41 : decode cX6_taste 41 = .ok (.goto 5, 3) := by decide +kernel
theorem dX6_taste_44 : decode cX6_taste 44 = .ok (.bipush (-104), 2) := by decide +kernel
theorem dX6_taste_46 : decode cX6_taste 46 = .ok (.ireturn, 1) := by decide +kernel
theorem dX6_forget_0 : decode cX6_forget 0 = .ok (.aload_n 0, 1) := by decide +kernel
theorem dX6_forget_1 : decode cX6_forget 1 = .ok (.getfield 29, 3) := by decide +kernel
theorem dX6_forget_4 : decode cX6_forget 4 = .ok (.getfield 143, 3) := by decide +kernel
theorem dX6_forget_7 : decode cX6_forget 7 = .ok (.istore_n 1, 1) := by decide +kernel
theorem dX6_forget_8 : decode cX6_forget 8 = .ok (.aload_n 0, 1) := by decide +kernel
theorem dX6_forget_9 : decode cX6_forget 9 = .ok (.getfield 29, 3) := by decide +kernel
theorem dX6_forget_12 : decode cX6_forget 12 = .ok (.iconst 0, 1) := by decide +kernel
theorem dX6_forget_13 : decode cX6_forget 13 = .ok (.putfield 143, 3) := by decide +kernel
theorem dX6_forget_16 : decode cX6_forget 16 = .ok (.iload_n 1, 1) := by decide +kernel
theorem dX6_forget_17 : decode cX6_forget 17 = .ok (.ireturn, 1) := by decide +kernel
set_option maxRecDepth 20000 in
theorem ggX6_which_X6_hasNoLarder : GoodIn wsX6_which wsX6_hasNoLarder := goodIn_r _ [5, 6, 68, 69, 70, 71, 72, 73, 74, 75, 76, 77, 78, 79] (by decide +kernel) (by decide +kernel)
set_option maxRecDepth 20000 in
theorem gX6_which_X6_hasNoLarder : GoodIn wsX6_which (wsV RX6 124 RX6 yX6_hasNoLarder wsX6_hasNoLarder) := goodIn_app (goodIn_of _ (by decide +kernel)) ggX6_which_X6_hasNoLarder
set_option maxRecDepth 20000 in
theorem ggX6_which_X6_candidates : GoodIn wsX6_which wsX6_candidates := goodIn_r _ [10, 6, 11, 12, 13, 4, 14, 15, 16, 17, 18, 19, 20, 21, 22, 23, 24, 25, 26, 27, 28, 29, 30, 31, 32, 33, 34, 35, 36, 37, 38, 39, 40, 41, 42, 43, 44, 45, 46, 47, 48, 49, 50, 51, 52, 53, 54, 55, 56, 57, 58, 59, 60, 61, 62, 63, 64, 65, 66, 67, 68, 69, 70, 71, 72, 73, 74, 75, 76, 77, 78, 79, 80, 81, 82, 83, 84, 85, 86, 87, 88, 89, 90, 91, 92, 93, 94, 95, 96, 97, 98, 99, 100, 101, 102, 103] (by decide +kernel) (by decide +kernel)
set_option maxRecDepth 20000 in
theorem gX6_which_X6_candidates : GoodIn wsX6_which (wsV RX6 146 RX6 yX6_candidates wsX6_candidates) := goodIn_app (goodIn_of _ (by decide +kernel)) ggX6_which_X6_candidates
theorem dX6_which_0 : decode cX6_which 0 = .ok (.aload_n 0, 1) := by decide +kernel
theorem dX6_which_1 : decode cX6_which 1 = .ok (.invokevirtual 124, 3) := by decide +kernel
theorem dX6_which_4 : decode cX6_which 4 = .ok (.ifCond .eq 8, 3) := by decide +kernel
theorem dX6_which_7 : decode cX6_which 7 = .ok (.bipush (-103), 2) := by decide +kernel
theorem dX6_which_9 : decode cX6_which 9 = .ok (.goto 7, 3) := by decide +kernel
theorem dX6_which_12 : decode cX6_which 12 = .ok (.aload_n 0, 1) := by decide +kernel
theorem dX6_which_13 : decode cX6_which 13 = .ok (.invokevirtual 146, 3) := by decide +kernel
theorem dX6_which_16 : decode cX6_which 16 = .ok (.ireturn, 1) := by decide +kernel
set_option maxRecDepth 20000 in
theorem ggX6_tasteNext_X6_hasNoLarder : GoodIn wsX6_tasteNext wsX6_hasNoLarder := goodIn_r _ [7, 8, 84, 85, 86, 87, 88, 89, 90, 91, 92, 93, 94, 95] (by decide +kernel) (by decide +kernel)
set_option maxRecDepth 20000 in
theorem gX6_tasteNext_X6_hasNoLarder : GoodIn wsX6_tasteNext (wsV RX6 124 RX6 yX6_hasNoLarder wsX6_hasNoLarder) := goodIn_app (goodIn_of _ (by decide +kernel)) ggX6_tasteNext_X6_hasNoLarder
set_option maxRecDepth 20000 in
theorem ggX6_tasteNext_X6_candidates : GoodIn wsX6_tasteNext wsX6_candidates := goodIn_r _ [12, 8, 13, 14, 15, 6, 16, 1, 17, 18, 19, 20, 21, 22, 23, 24, 25, 26, 27, 28, 29, 30, 31, 32, 33, 34, 35, 36, 37, 38, 39, 40, 41, 42, 43, 44, 45, 46, 47, 48, 49, 50, 51, 52, 53, 54, 55, 56, 57, 58, 59, 60, 61, 62, 63, 64, 65, 66, 67, 68, 84, 85, 86, 87, 88, 89, 90, 91, 92, 93, 94, 95, 96, 97, 98, 99, 100, 101, 102, 103, 104, 105, 106, 107, 108, 109, 110, 111, 112, 113, 114, 115, 116, 117, 118, 119] (by decide +kernel) (by decide +kernel)
set_option maxRecDepth 20000 in
theorem gX6_tasteNext_X6_candidates : GoodIn wsX6_tasteNext (wsV RX6 146 RX6 yX6_candidates wsX6_candidates) := goodIn_app (goodIn_of _ (by decide +kernel)) ggX6_tasteNext_X6_candidates
set_option maxRecDepth 20000 in
theorem ggX6_tasteNext_X6_leftAtWorst : GoodIn wsX6_tasteNext wsX6_leftAtWorst := goodIn_r _ [72, 8, 73, 74, 75, 76, 77, 78, 6, 79, 80, 81, 82, 83, 20, 21, 22, 23, 24, 25, 26, 27, 28, 29, 30, 31, 32, 33, 34, 35, 36, 37, 38, 39, 40, 41, 42, 43, 44, 45, 46, 47, 48, 49, 50, 51, 52, 53, 54, 55, 56, 57, 58, 59, 60, 61, 62, 63, 64, 65, 66, 67, 68, 84, 85, 86, 87, 88, 89, 90, 91, 92, 93, 94, 95, 105, 106, 107, 108, 109, 110, 111, 112, 113, 114, 115, 116, 117, 118, 119] (by decide +kernel) (by decide +kernel)
set_option maxRecDepth 20000 in
theorem gX6_tasteNext_X6_leftAtWorst : GoodIn wsX6_tasteNext (wsV RX6 149 RX6 yX6_leftAtWorst wsX6_leftAtWorst) := goodIn_app (goodIn_of _ (by decide +kernel)) ggX6_tasteNext_X6_leftAtWorst
theorem dX6_tasteNext_0 : decode cX6_tasteNext 0 = .ok (.aload_n 0, 1) := by decide +kernel
theorem dX6_tasteNext_1 : decode cX6_tasteNext 1 = .ok (.invokevirtual 124, 3) := by decide +kernel
theorem dX6_tasteNext_4 : decode cX6_tasteNext 4 = .ok (.ifCond .eq 6, 3) := by decide +kernel
theorem dX6_tasteNext_7 : decode cX6_tasteNext 7 = .ok (.bipush (-103), 2) := by decide +kernel
theorem dX6_tasteNext_9 : decode cX6_tasteNext 9 = .ok (.ireturn, 1) := by decide +kernel
theorem dX6_tasteNext_10 : decode cX6_tasteNext 10 = .ok (.aload_n 0, 1) := by decide +kernel
theorem dX6_tasteNext_11 : decode cX6_tasteNext 11 = .ok (.invokevirtual 146, 3) := by decide +kernel
theorem dX6_tasteNext_14 : decode cX6_tasteNext 14 = .ok (.istore_n 1, 1) := by decide +kernel
theorem dX6_tasteNext_15 : decode cX6_tasteNext 15 = .ok (.iconst (-1), 1) := by decide +kernel
theorem dX6_tasteNext_16 : decode cX6_tasteNext 16 = .ok (.istore_n 2, 1) := by decide +kernel
theorem dX6_tasteNext_17 : decode cX6_tasteNext 17 = .ok (.bipush 7, 2) := by decide +kernel
theorem dX6_tasteNext_19 : decode cX6_tasteNext 19 = .ok (.istore_n 3, 1) := by decide +kernel
theorem dX6_tasteNext_20 : decode cX6_tasteNext 20 = .ok (.iconst 0, 1) := by decide +kernel
theorem dX6_tasteNext_21 : decode cX6_tasteNext 21 = .ok (.istore 4, 2) := by decide +kernel
theorem dX6_tasteNext_23 : decode cX6_tasteNext 23 = .ok (.iload 4, 2) := by decide +kernel
theorem dX6_tasteNext_25 : decode cX6_tasteNext 25 = .ok (.bipush 10, 2) := by decide +kernel
theorem dX6_tasteNext_27 : decode cX6_tasteNext 27 = .ok (.if_icmp .ge 42, 3) := by decide +kernel
theorem dX6_tasteNext_30 : decode cX6_tasteNext 30 = .ok (.iload_n 1, 1) := by decide +kernel
theorem dX6_tasteNext_31 : decode cX6_tasteNext 31 = .ok (.ifCond .eq 38, 3) := by decide +kernel
theorem dX6_tasteNext_34 : decode cX6_tasteNext 34 = .ok (.aload_n 0, 1) := by decide +kernel
theorem dX6_tasteNext_35 : decode cX6_tasteNext 35 = .ok (.iload_n 1, 1) := by decide +kernel
theorem dX6_tasteNext_36 : decode cX6_tasteNext 36 = .ok (.aload_n 0, 1) := by decide +kernel
theorem dX6_tasteNext_37 : decode cX6_tasteNext 37 = .ok (.getfield 29, 3) := by decide +kernel
theorem dX6_tasteNext_40 : decode cX6_tasteNext 40 = .ok (.getfield 91, 3) := by decide +kernel
theorem dX6_tasteNext_43 : decode cX6_tasteNext 43 = .ok (.iload 4, 2) := by decide +kernel
theorem dX6_tasteNext_45 : decode cX6_tasteNext 45 = .ok (.iadd, 1) := by decide +kernel
theorem dX6_tasteNext_46 : decode cX6_tasteNext 46 = .ok (.invokevirtual 149, 3) := by decide +kernel
theorem dX6_tasteNext_49 : decode cX6_tasteNext 49 = .ok (.istore 5, 2) := by decide +kernel
theorem dX6_tasteNext_51 : decode cX6_tasteNext 51 = .ok (.iload 5, 2) := by decide +kernel
theorem dX6_tasteNext_53 : decode cX6_tasteNext 53 = .ok (.iload_n 3, 1) := by decide +kernel
theorem dX6_tasteNext_54 : decode cX6_tasteNext 54 = .ok (.if_icmp .ge 9, 3) := by decide +kernel
theorem dX6_tasteNext_57 : decode cX6_tasteNext 57 = .ok (.iload 5, 2) := by decide +kernel
theorem dX6_tasteNext_59 : decode cX6_tasteNext 59 = .ok (.istore_n 3, 1) := by decide +kernel
theorem dX6_tasteNext_60 : decode cX6_tasteNext 60 = .ok (.iload 4, 2) := by decide +kernel
theorem dX6_tasteNext_62 : decode cX6_tasteNext 62 = .ok (.istore_n 2, 1) := by decide +kernel
theorem dX6_tasteNext_63 : decode cX6_tasteNext 63 = .ok (.iinc 4 1, 3) := by decide +kernel
theorem dX6_tasteNext_66 : decode cX6_tasteNext 66 = .ok (.goto (-43), 3) := by decide +kernel
theorem dX6_tasteNext_69 : decode cX6_tasteNext 69 = .ok (.iload_n 2, 1) := by decide +kernel
theorem dX6_tasteNext_70 : decode cX6_tasteNext 70 = .ok (.ireturn, 1) := by decide +kernel
set_option maxRecDepth 20000 in
theorem ggX6_times_X6_hasNoLarder : GoodIn wsX6_times wsX6_hasNoLarder := goodIn_r _ [7, 8, 113, 114, 115, 116, 117, 118, 119, 120, 121, 122, 123, 124] (by decide +kernel) (by decide +kernel)
set_option maxRecDepth 20000 in
theorem gX6_times_X6_hasNoLarder : GoodIn wsX6_times (wsV RX6 124 RX6 yX6_hasNoLarder wsX6_hasNoLarder) := goodIn_app (goodIn_of _ (by decide +kernel)) ggX6_times_X6_hasNoLarder
set_option maxRecDepth 20000 in
theorem ggX6_times_X6_liveOn : GoodIn wsX6_times wsX6_liveOn := goodIn_r _ [12, 1, 13, 14, 15, 16, 17, 18, 19, 20, 21, 22, 23, 24, 25, 26, 27, 28, 29, 30, 6, 31, 32, 33, 34, 35, 36, 37, 38, 8, 39, 40, 41, 42, 43, 44, 45, 46, 47, 48, 49, 50, 51, 52, 53, 54, 55, 56, 57, 58, 59, 60, 61, 62, 63, 64, 65, 66, 67, 68, 69, 70, 71, 72, 73, 74, 75, 76, 77, 78, 79, 80, 81, 82, 83, 84, 85, 86, 87, 88, 89, 90, 91, 92, 93, 94, 95, 96, 97, 98, 99, 100, 101, 102, 103, 104, 105, 106, 107, 108, 113, 114, 115, 116, 117, 118, 119, 120, 121, 122, 123, 124, 125, 126, 127, 128, 129, 130, 131, 132, 133, 134, 135, 136, 137, 138, 139, 140, 141, 142, 143, 144, 145, 146, 147, 148] (by decide +kernel) (by decide +kernel)
set_option maxRecDepth 20000 in
theorem gX6_times_X6_liveOn : GoodIn wsX6_times (wsV RX6 152 RX6 yX6_liveOn wsX6_liveOn) := goodIn_app (goodIn_of _ (by decide +kernel)) ggX6_times_X6_liveOn
set_option maxRecDepth 20000 in
theorem ggX6_times_X1_spoonsOfAll : GoodIn wsX6_times wsX1_spoonsOfAll := goodIn_r _ [112, 25, 125, 126, 127, 128, 129, 130, 131, 132, 133] (by decide +kernel) (by decide +kernel)
set_option maxRecDepth 20000 in
theorem gX6_times_X1_spoonsOfAll : GoodIn wsX6_times (wsV RX6 155 RX1 yX1_spoonsOfAll wsX1_spoonsOfAll) := goodIn_app (goodIn_of _ (by decide +kernel)) ggX6_times_X1_spoonsOfAll
theorem dX6_times_0 : decode cX6_times 0 = .ok (.iload_n 1, 1) := by decide +kernel
theorem dX6_times_1 : decode cX6_times 1 = .ok (.iconst 1, 1) := by decide +kernel
theorem dX6_times_2 : decode cX6_times 2 = .ok (.if_icmp .lt 22, 3) := by decide +kernel
theorem dX6_times_5 : decode cX6_times 5 = .ok (.iload_n 1, 1) := by decide +kernel
theorem dX6_times_6 : decode cX6_times 6 = .ok (.bipush 60, 2) := by decide +kernel
theorem dX6_times_8 : decode cX6_times 8 = .ok (.if_icmp .gt 16, 3) := by decide +kernel
theorem dX6_times_11 : decode cX6_times 11 = .ok (.iload_n 2, 1) := by decide +kernel
theorem dX6_times_12 : decode cX6_times 12 = .ok (.ifCond .lt 12, 3) := by decide +kernel
theorem dX6_times_15 : decode cX6_times 15 = .ok (.iload_n 3, 1) := by decide +kernel
theorem dX6_times_16 : decode cX6_times 16 = .ok (.ifCond .lt 8, 3) := by decide +kernel
theorem dX6_times_19 : decode cX6_times 19 = .ok (.iload_n 3, 1) := by decide +kernel
theorem dX6_times_20 : decode cX6_times 20 = .ok (.iconst 2, 1) := by decide +kernel
theorem dX6_times_21 : decode cX6_times 21 = .ok (.if_icmp .le 6, 3) := by decide +kernel
theorem dX6_times_24 : decode cX6_times 24 = .ok (.bipush (-102), 2) := by decide +kernel
theorem dX6_times_26 : decode cX6_times 26 = .ok (.ireturn, 1) := by decide +kernel
theorem dX6_times_27 : decode cX6_times 27 = .ok (.aload_n 0, 1) := by decide +kernel
theorem dX6_times_28 : decode cX6_times 28 = .ok (.invokevirtual 124, 3) := by decide +kernel
theorem dX6_times_31 : decode cX6_times 31 = .ok (.ifCond .eq 6, 3) := by decide +kernel
theorem dX6_times_34 : decode cX6_times 34 = .ok (.bipush (-103), 2) := by decide +kernel
theorem dX6_times_36 : decode cX6_times 36 = .ok (.ireturn, 1) := by decide +kernel
theorem dX6_times_37 : decode cX6_times 37 = .ok (.aload_n 0, 1) := by decide +kernel
theorem dX6_times_38 : decode cX6_times 38 = .ok (.iload_n 1, 1) := by decide +kernel
theorem dX6_times_39 : decode cX6_times 39 = .ok (.iload_n 2, 1) := by decide +kernel
theorem dX6_times_40 : decode cX6_times 40 = .ok (.invokevirtual 152, 3) := by decide +kernel
theorem dX6_times_43 : decode cX6_times 43 = .ok (.istore 4, 2) := by decide +kernel
theorem dX6_times_45 : decode cX6_times 45 = .ok (.iload_n 3, 1) := by decide +kernel
theorem dX6_times_46 : decode cX6_times 46 = .ok (.lookupswitch 46 #[(0, 26), (1, 34)], 26) := by decide +kernel
theorem dX6_times_72 : decode cX6_times 72 = .ok (.aload_n 0, 1) := by decide +kernel
theorem dX6_times_73 : decode cX6_times 73 = .ok (.getfield 36, 3) := by decide +kernel
theorem dX6_times_76 : decode cX6_times 76 = .ok (.invokevirtual 155, 3) := by decide +kernel
theorem dX6_times_79 : decode cX6_times 79 = .ok (.ireturn, 1) := by decide +kernel
theorem dX6_times_80 : decode cX6_times 80 = .ok (.aload_n 0, 1) := by decide +kernel
theorem dX6_times_81 : decode cX6_times 81 = .ok (.getfield 36, 3) := by decide +kernel
theorem dX6_times_84 : decode cX6_times 84 = .ok (.getfield 158, 3) := by decide +kernel
theorem dX6_times_87 : decode cX6_times 87 = .ok (.sipush 2000, 3) := by decide +kernel
theorem dX6_times_90 : decode cX6_times 90 = .ok (.iadd, 1) := by decide +kernel
theorem dX6_times_91 : decode cX6_times 91 = .ok (.ireturn, 1) := by decide +kernel
theorem dX6_times_92 : decode cX6_times 92 = .ok (.iload 4, 2) := by decide +kernel
theorem dX6_times_94 : decode cX6_times 94 = .ok (.ireturn, 1) := by decide +kernel
set_option maxRecDepth 20000 in
theorem ggX6_image_X6_hasNoLarder : GoodIn wsX6_image wsX6_hasNoLarder := goodIn_r _ [9, 10, 25, 26, 27, 28, 29, 30, 31, 32, 33, 34, 35, 36] (by decide +kernel) (by decide +kernel)
set_option maxRecDepth 20000 in
theorem gX6_image_X6_hasNoLarder : GoodIn wsX6_image (wsV RX6 124 RX6 yX6_hasNoLarder wsX6_hasNoLarder) := goodIn_app (goodIn_of _ (by decide +kernel)) ggX6_image_X6_hasNoLarder
set_option maxRecDepth 20000 in
theorem ggX6_image_X1_copyFrom : GoodIn wsX6_image wsX1_copyFrom := goodIn_r _ [15, 16, 17, 18, 19, 20, 21, 22, 23, 24, 37, 38, 39, 40, 41, 42, 43, 44, 45] (by decide +kernel) (by decide +kernel)
set_option maxRecDepth 20000 in
theorem gX6_image_X1_copyFrom : GoodIn wsX6_image (wsV RX6 161 RX1 yX1_copyFrom wsX1_copyFrom) := goodIn_app (goodIn_of _ (by decide +kernel)) ggX6_image_X1_copyFrom
theorem dX6_image_0 : decode cX6_image 0 = .ok (.aload_n 0, 1) := by decide +kernel
theorem dX6_image_1 : decode cX6_image 1 = .ok (.invokevirtual 124, 3) := by decide +kernel
theorem dX6_image_4 : decode cX6_image 4 = .ok (.ifCond .eq 6, 3) := by decide +kernel
theorem dX6_image_7 : decode cX6_image 7 = .ok (.bipush (-103), 2) := by decide +kernel
theorem dX6_image_9 : decode cX6_image 9 = .ok (.ireturn, 1) := by decide +kernel
theorem dX6_image_10 : decode cX6_image 10 = .ok (.aload_n 0, 1) := by decide +kernel
theorem dX6_image_11 : decode cX6_image 11 = .ok (.getfield 33, 3) := by decide +kernel
theorem dX6_image_14 : decode cX6_image 14 = .ok (.aload_n 0, 1) := by decide +kernel
theorem dX6_image_15 : decode cX6_image 15 = .ok (.getfield 29, 3) := by decide +kernel
theorem dX6_image_18 : decode cX6_image 18 = .ok (.invokevirtual 161, 3) := by decide +kernel
theorem dX6_image_21 : decode cX6_image 21 = .ok (.aload_n 0, 1) := by decide +kernel
theorem dX6_image_22 : decode cX6_image 22 = .ok (.iconst 1, 1) := by decide +kernel
theorem dX6_image_23 : decode cX6_image 23 = .ok (.putfield 39, 3) := by decide +kernel
theorem dX6_image_26 : decode cX6_image 26 = .ok (.aload_n 0, 1) := by decide +kernel
theorem dX6_image_27 : decode cX6_image 27 = .ok (.getfield 29, 3) := by decide +kernel
theorem dX6_image_30 : decode cX6_image 30 = .ok (.getfield 91, 3) := by decide +kernel
theorem dX6_image_33 : decode cX6_image 33 = .ok (.ireturn, 1) := by decide +kernel
set_option maxRecDepth 20000 in
theorem ggX6_restore_X1_copyFrom : GoodIn wsX6_restore wsX1_copyFrom := goodIn_r _ [9, 10, 11, 12, 13, 14, 15, 16, 17, 18, 31, 32, 33, 34, 35, 36, 37, 38, 39] (by decide +kernel) (by decide +kernel)
set_option maxRecDepth 20000 in
theorem gX6_restore_X1_copyFrom : GoodIn wsX6_restore (wsV RX6 161 RX1 yX1_copyFrom wsX1_copyFrom) := goodIn_app (goodIn_of _ (by decide +kernel)) ggX6_restore_X1_copyFrom
theorem dX6_restore_0 : decode cX6_restore 0 = .ok (.aload_n 0, 1) := by decide +kernel
theorem dX6_restore_1 : decode cX6_restore 1 = .ok (.getfield 39, 3) := by decide +kernel
theorem dX6_restore_4 : decode cX6_restore 4 = .ok (.ifCond .ne 6, 3) := by decide +kernel
theorem dX6_restore_7 : decode cX6_restore 7 = .ok (.bipush (-103), 2) := by decide +kernel
theorem dX6_restore_9 : decode cX6_restore 9 = .ok (.ireturn, 1) := by decide +kernel
theorem dX6_restore_10 : decode cX6_restore 10 = .ok (.aload_n 0, 1) := by decide +kernel
theorem dX6_restore_11 : decode cX6_restore 11 = .ok (.getfield 29, 3) := by decide +kernel
theorem dX6_restore_14 : decode cX6_restore 14 = .ok (.aload_n 0, 1) := by decide +kernel
theorem dX6_restore_15 : decode cX6_restore 15 = .ok (.getfield 33, 3) := by decide +kernel
theorem dX6_restore_18 : decode cX6_restore 18 = .ok (.invokevirtual 161, 3) := by decide +kernel
theorem dX6_restore_21 : decode cX6_restore 21 = .ok (.aload_n 0, 1) := by decide +kernel
theorem dX6_restore_22 : decode cX6_restore 22 = .ok (.getfield 29, 3) := by decide +kernel
theorem dX6_restore_25 : decode cX6_restore 25 = .ok (.getfield 91, 3) := by decide +kernel
theorem dX6_restore_28 : decode cX6_restore 28 = .ok (.ireturn, 1) := by decide +kernel
set_option maxRecDepth 20000 in
theorem ggX6_count_X1_spoonsOfAll : GoodIn wsX6_count wsX1_spoonsOfAll := goodIn_r _ [15, 16, 38, 39, 40, 41, 42, 43, 44, 45, 46] (by decide +kernel) (by decide +kernel)
set_option maxRecDepth 20000 in
theorem gX6_count_X1_spoonsOfAll : GoodIn wsX6_count (wsV RX6 155 RX1 yX1_spoonsOfAll wsX1_spoonsOfAll) := goodIn_app (goodIn_of _ (by decide +kernel)) ggX6_count_X1_spoonsOfAll
set_option maxRecDepth 20000 in
theorem ggX6_count_X6_emptyJars : GoodIn wsX6_count wsX6_emptyJars := goodIn_r _ [21, 1, 2, 22, 23, 24, 14, 25, 16, 26, 27, 28, 29, 30, 31, 32, 33, 34, 35, 36, 37, 38, 39, 40, 41, 42, 43, 44, 45, 46] (by decide +kernel) (by decide +kernel)
set_option maxRecDepth 20000 in
theorem gX6_count_X6_emptyJars : GoodIn wsX6_count (wsV RX6 165 RX6 yX6_emptyJars wsX6_emptyJars) := goodIn_app (goodIn_of _ (by decide +kernel)) ggX6_count_X6_emptyJars
theorem dX6_count_0 : decode cX6_count 0 = .ok (.iload_n 1, 1) := by decide +kernel
theorem dX6_count_1 : decode cX6_count 1 = .ok (.tableswitch 136 0 10 #[59, 64, 72, 80, 92, 97, 105, 113, 121, 126, 131], 59) := by decide +kernel
theorem dX6_count_60 : decode cX6_count 60 = .ok (.aload_n 0, 1) := by decide +kernel
theorem dX6_count_61 : decode cX6_count 61 = .ok (.getfield 23, 3) := by decide +kernel
theorem dX6_count_64 : decode cX6_count 64 = .ok (.ireturn, 1) := by decide +kernel
theorem dX6_count_65 : decode cX6_count 65 = .ok (.aload_n 0, 1) := by decide +kernel
theorem dX6_count_66 : decode cX6_count 66 = .ok (.getfield 29, 3) := by decide +kernel
theorem dX6_count_69 : decode cX6_count 69 = .ok (.getfield 91, 3) := by decide +kernel
theorem dX6_count_72 : decode cX6_count 72 = .ok (.ireturn, 1) := by decide +kernel
theorem dX6_count_73 : decode cX6_count 73 = .ok (.aload_n 0, 1) := by decide +kernel
theorem dX6_count_74 : decode cX6_count 74 = .ok (.getfield 29, 3) := by decide +kernel
theorem dX6_count_77 : decode cX6_count 77 = .ok (.invokevirtual 155, 3) := by decide +kernel
theorem dX6_count_80 : decode cX6_count 80 = .ok (.ireturn, 1) := by decide +kernel
theorem dX6_count_81 : decode cX6_count 81 = .ok (.aload_n 0, 1) := by decide +kernel
theorem dX6_count_82 : decode cX6_count 82 = .ok (.getfield 29, 3) := by decide +kernel
theorem dX6_count_85 : decode cX6_count 85 = .ok (.getfield 158, 3) := by decide +kernel
theorem dX6_count_88 : decode cX6_count 88 = .ok (.sipush 2000, 3) := by decide +kernel
theorem dX6_count_91 : decode cX6_count 91 = .ok (.iadd, 1) := by decide +kernel
theorem dX6_count_92 : decode cX6_count 92 = .ok (.ireturn, 1) := by decide +kernel
theorem dX6_count_93 : decode cX6_count 93 = .ok (.aload_n 0, 1) := by decide +kernel
theorem dX6_count_94 : decode cX6_count 94 = .ok (.invokevirtual 165, 3) := by decide +kernel
theorem dX6_count_97 : decode cX6_count 97 = .ok (.ireturn, 1) := by decide +kernel
theorem dX6_count_98 : decode cX6_count 98 = .ok (.aload_n 0, 1) := by decide +kernel
theorem dX6_count_99 : decode cX6_count 99 = .ok (.getfield 29, 3) := by decide +kernel
theorem dX6_count_102 : decode cX6_count 102 = .ok (.getfield 168, 3) := by decide +kernel
theorem dX6_count_105 : decode cX6_count 105 = .ok (.ireturn, 1) := by decide +kernel
theorem dX6_count_106 : decode cX6_count 106 = .ok (.aload_n 0, 1) := by decide +kernel
theorem dX6_count_107 : decode cX6_count 107 = .ok (.getfield 29, 3) := by decide +kernel
theorem dX6_count_110 : decode cX6_count 110 = .ok (.getfield 171, 3) := by decide +kernel
theorem dX6_count_113 : decode cX6_count 113 = .ok (.ireturn, 1) := by decide +kernel
theorem dX6_count_114 : decode cX6_count 114 = .ok (.aload_n 0, 1) := by decide +kernel
theorem dX6_count_115 : decode cX6_count 115 = .ok (.getfield 29, 3) := by decide +kernel
theorem dX6_count_118 : decode cX6_count 118 = .ok (.getfield 143, 3) := by decide +kernel
theorem dX6_count_121 : decode cX6_count 121 = .ok (.ireturn, 1) := by decide +kernel
theorem dX6_count_122 : decode cX6_count 122 = .ok (.aload_n 0, 1) := by decide +kernel
theorem dX6_count_123 : decode cX6_count 123 = .ok (.getfield 13, 3) := by decide +kernel
theorem dX6_count_126 : decode cX6_count 126 = .ok (.ireturn, 1) := by decide +kernel
theorem dX6_count_127 : decode cX6_count 127 = .ok (.aload_n 0, 1) := by decide +kernel
theorem dX6_count_128 : decode cX6_count 128 = .ok (.getfield 43, 3) := by decide +kernel
theorem dX6_count_131 : decode cX6_count 131 = .ok (.ireturn, 1) := by decide +kernel
theorem dX6_count_132 : decode cX6_count 132 = .ok (.aload_n 0, 1) := by decide +kernel
theorem dX6_count_133 : decode cX6_count 133 = .ok (.getfield 46, 3) := by decide +kernel
theorem dX6_count_136 : decode cX6_count 136 = .ok (.ireturn, 1) := by decide +kernel
theorem dX6_count_137 : decode cX6_count 137 = .ok (.bipush (-102), 2) := by decide +kernel
theorem dX6_count_139 : decode cX6_count 139 = .ok (.ireturn, 1) := by decide +kernel
set_option maxRecDepth 20000 in
theorem ggX6_digest_X6_jar : GoodIn wsX6_digest wsX6_jar := goodIn_r _ [8, 9, 10, 11, 12, 13, 14, 15, 7, 16, 2, 17, 18, 19, 20, 21, 22, 23, 24, 25, 26, 27, 28, 29, 30, 31, 32, 33, 34, 35, 36, 37, 38, 39, 40, 41, 42, 43, 44, 45, 46, 47, 48, 49, 50, 51, 52, 53, 54, 55, 56, 57, 58, 59, 60, 61, 62, 63, 64, 65, 66, 67, 68, 69, 70, 71, 72, 73, 74, 75, 76, 77, 78, 79, 80, 81, 82, 83, 84, 85, 86, 87, 88, 89, 90, 91, 92, 93, 94, 95, 96, 97, 98, 99, 100, 101, 102, 103, 187, 188, 189, 190, 191, 192, 193, 194, 195, 196, 197, 198, 199, 200, 201, 175, 176, 177, 178, 179, 180, 181, 182, 183, 184, 185, 186, 202, 203, 204, 205, 206, 207, 208, 209, 210] (by decide +kernel) (by decide +kernel)
set_option maxRecDepth 20000 in
theorem gX6_digest_X6_jar : GoodIn wsX6_digest (wsV RX6 176 RX6 yX6_jar wsX6_jar) := goodIn_app (goodIn_of _ (by decide +kernel)) ggX6_digest_X6_jar
set_option maxRecDepth 20000 in
theorem ggX6_digest_X6_mix : GoodIn wsX6_digest wsX6_mix := goodIn_r _ [106, 107] (by decide +kernel) (by decide +kernel)
set_option maxRecDepth 20000 in
theorem gX6_digest_X6_mix : GoodIn wsX6_digest (va_wsS RX6 179 yX6_mix wsX6_mix) := goodIn_app (goodIn_of _ (by decide +kernel)) ggX6_digest_X6_mix
set_option maxRecDepth 20000 in
theorem ggX6_digest_X6_worth : GoodIn wsX6_digest wsX6_worth := goodIn_r _ [111, 13, 14, 15, 7, 16, 2, 17, 112, 113, 114, 63, 64, 65, 66, 67, 68, 69, 70, 33, 71, 72, 73, 49, 50, 51, 52, 53, 54, 74, 56, 57, 58, 75, 76, 77, 28, 78, 79, 80, 81, 82, 83, 84, 85, 86, 87, 36, 88, 89, 90, 91, 92, 93, 94, 175, 176, 177, 178, 179, 180, 181, 182, 183, 184, 185, 186, 187, 188, 189, 190, 191, 192, 193, 194, 195, 196, 197, 198, 199, 200, 201] (by decide +kernel) (by decide +kernel)
set_option maxRecDepth 20000 in
theorem gX6_digest_X6_worth : GoodIn wsX6_digest (wsV RX6 183 RX6 yX6_worth wsX6_worth) := goodIn_app (goodIn_of _ (by decide +kernel)) ggX6_digest_X6_worth
set_option maxRecDepth 20000 in
theorem ggX6_digest_X6_hasNoLarder : GoodIn wsX6_digest wsX6_hasNoLarder := goodIn_r _ [118, 2, 175, 176, 177, 178, 179, 180, 181, 182, 183, 184, 185, 186] (by decide +kernel) (by decide +kernel)
set_option maxRecDepth 20000 in
theorem gX6_digest_X6_hasNoLarder : GoodIn wsX6_digest (wsV RX6 124 RX6 yX6_hasNoLarder wsX6_hasNoLarder) := goodIn_app (goodIn_of _ (by decide +kernel)) ggX6_digest_X6_hasNoLarder
set_option maxRecDepth 20000 in
theorem ggX6_digest_X6_which : GoodIn wsX6_digest wsX6_which := goodIn_r _ [122, 115, 116, 117, 7, 118, 2, 123, 124, 125, 126, 127, 128, 129, 130, 11, 131, 132, 133, 63, 64, 65, 66, 13, 14, 15, 16, 17, 67, 68, 69, 70, 33, 71, 72, 73, 49, 50, 51, 52, 53, 54, 74, 56, 57, 58, 75, 76, 77, 28, 78, 79, 80, 81, 82, 83, 84, 85, 86, 87, 36, 88, 89, 90, 91, 92, 93, 94, 175, 176, 177, 178, 179, 180, 181, 182, 183, 184, 185, 186, 202, 203, 204, 205, 206, 207, 208, 209, 210, 187, 188, 189, 190, 191, 192, 193, 194, 195, 196, 197, 198, 199, 200, 201] (by decide +kernel) (by decide +kernel)
set_option maxRecDepth 20000 in
theorem gX6_digest_X6_which : GoodIn wsX6_digest (wsV RX6 186 RX6 yX6_which wsX6_which) := goodIn_app (goodIn_of _ (by decide +kernel)) ggX6_digest_X6_which
set_option maxRecDepth 20000 in
theorem ggX6_digest_X6_tasteNext : GoodIn wsX6_digest wsX6_tasteNext := goodIn_r _ [137, 11, 12, 115, 116, 117, 7, 118, 2, 123, 124, 125, 126, 127, 128, 129, 130, 131, 132, 133, 63, 64, 65, 66, 13, 14, 15, 16, 17, 67, 68, 69, 70, 33, 71, 72, 73, 49, 50, 51, 52, 53, 54, 74, 56, 57, 58, 75, 76, 77, 28, 78, 79, 80, 81, 82, 83, 84, 85, 86, 87, 36, 88, 89, 90, 91, 92, 93, 94, 138, 139, 140, 141, 142, 143, 144, 145, 146, 147, 148, 149, 150, 151, 152, 175, 176, 177, 178, 179, 180, 181, 182, 183, 184, 185, 186, 202, 203, 204, 205, 206, 207, 208, 209, 210, 187, 188, 189, 190, 191, 192, 193, 194, 195, 196, 197, 198, 199, 200, 201] (by decide +kernel) (by decide +kernel)
set_option maxRecDepth 20000 in
theorem gX6_digest_X6_tasteNext : GoodIn wsX6_digest (wsV RX6 189 RX6 yX6_tasteNext wsX6_tasteNext) := goodIn_app (goodIn_of _ (by decide +kernel)) ggX6_digest_X6_tasteNext
set_option maxRecDepth 20000 in
theorem ggX6_digest_X6_codeAt : GoodIn wsX6_digest wsX6_codeAt := goodIn_r _ [156, 157, 175, 176, 177, 178, 179, 180, 181, 182, 183, 184, 185, 186] (by decide +kernel) (by decide +kernel)
set_option maxRecDepth 20000 in
theorem gX6_digest_X6_codeAt : GoodIn wsX6_digest (wsV RX6 55 RX6 yX6_codeAt wsX6_codeAt) := goodIn_app (goodIn_of _ (by decide +kernel)) ggX6_digest_X6_codeAt
set_option maxRecDepth 20000 in
theorem ggX6_digest_X6_count : GoodIn wsX6_digest wsX6_count := goodIn_r _ [161, 2, 11, 12, 162, 163, 164, 131, 3, 165, 166, 167, 168, 169, 45, 170, 47, 171, 172, 173, 7, 174, 42, 43, 44, 46, 175, 176, 177, 178, 179, 180, 181, 182, 183, 184, 185, 186, 202, 203, 204, 205, 206, 207, 208, 209, 210] (by decide +kernel) (by decide +kernel)
set_option maxRecDepth 20000 in
theorem gX6_digest_X6_count : GoodIn wsX6_digest (wsV RX6 192 RX6 yX6_count wsX6_count) := goodIn_app (goodIn_of _ (by decide +kernel)) ggX6_digest_X6_count
theorem dX6_digest_0 : decode cX6_digest 0 = .ok (.ldc2_w 174, 3) := by decide +kernel
theorem dX6_digest_3 : decode cX6_digest 3 = .ok (.lstore_n 1, 1) := by decide +kernel
theorem dX6_digest_4 : decode cX6_digest 4 = .ok (.iconst 0, 1) := by decide +kernel
theorem dX6_digest_5 : decode cX6_digest 5 = .ok (.istore_n 3, 1) := by decide +kernel
theorem dX6_digest_6 : decode cX6_digest 6 = .ok (.iload_n 3, 1) := by decide +kernel
theorem dX6_digest_7 : decode cX6_digest 7 = .ok (.aload_n 0, 1) := by decide +kernel
theorem dX6_digest_8 : decode cX6_digest 8 = .ok (.getfield 23, 3) := by decide +kernel
theorem dX6_digest_11 : decode cX6_digest 11 = .ok (.if_icmp .ge 59, 3) := by decide +kernel
theorem dX6_digest_14 : decode cX6_digest 14 = .ok (.iconst 0, 1) := by decide +kernel
theorem dX6_digest_15 : decode cX6_digest 15 = .ok (.istore 4, 2) := by decide +kernel
theorem dX6_digest_17 : decode cX6_digest 17 = .ok (.iload 4, 2) := by decide +kernel
theorem dX6_digest_19 : decode cX6_digest 19 = .ok (.bipush 7, 2) := by decide +kernel
theorem dX6_digest_21 : decode cX6_digest 21 = .ok (.if_icmp .gt 21, 3) := by decide +kernel
theorem dX6_digest_24 : decode cX6_digest 24 = .ok (.lload_n 1, 1) := by decide +kernel
theorem dX6_digest_25 : decode cX6_digest 25 = .ok (.aload_n 0, 1) := by decide +kernel
theorem dX6_digest_26 : decode cX6_digest 26 = .ok (.iload_n 3, 1) := by decide +kernel
theorem dX6_digest_27 : decode cX6_digest 27 = .ok (.iload 4, 2) := by decide +kernel
theorem dX6_digest_29 : decode cX6_digest 29 = .ok (.invokevirtual 176, 3) := by decide +kernel
theorem dX6_digest_32 : decode cX6_digest 32 = .ok (.invokestatic 179, 3) := by decide +kernel
theorem dX6_digest_35 : decode cX6_digest 35 = .ok (.lstore_n 1, 1) := by decide +kernel
theorem dX6_digest_36 : decode cX6_digest 36 = .ok (.iinc 4 1, 3) := by decide +kernel
theorem dX6_digest_39 : decode cX6_digest 39 = .ok (.goto (-22), 3) := by decide +kernel
theorem dX6_digest_42 : decode cX6_digest 42 = .ok (.lload_n 1, 1) := by decide +kernel
theorem dX6_digest_43 : decode cX6_digest 43 = .ok (.aload_n 0, 1) := by decide +kernel
theorem dX6_digest_44 : decode cX6_digest 44 = .ok (.iload_n 3, 1) := by decide +kernel
theorem dX6_digest_45 : decode cX6_digest 45 = .ok (.iconst 1, 1) := by decide +kernel
theorem dX6_digest_46 : decode cX6_digest 46 = .ok (.invokevirtual 183, 3) := by decide +kernel
theorem dX6_digest_49 : decode cX6_digest 49 = .ok (.invokestatic 179, 3) := by decide +kernel
theorem dX6_digest_52 : decode cX6_digest 52 = .ok (.lstore_n 1, 1) := by decide +kernel
theorem dX6_digest_53 : decode cX6_digest 53 = .ok (.lload_n 1, 1) := by decide +kernel
theorem dX6_digest_54 : decode cX6_digest 54 = .ok (.aload_n 0, 1) := by decide +kernel
theorem dX6_digest_55 : decode cX6_digest 55 = .ok (.iload_n 3, 1) := by decide +kernel
theorem dX6_digest_56 : decode cX6_digest 56 = .ok (.iconst 2, 1) := by decide +kernel
theorem dX6_digest_57 : decode cX6_digest 57 = .ok (.invokevirtual 183, 3) := by decide +kernel
theorem dX6_digest_60 : decode cX6_digest 60 = .ok (.invokestatic 179, 3) := by decide +kernel
theorem dX6_digest_63 : decode cX6_digest 63 = .ok (.lstore_n 1, 1) := by decide +kernel
theorem dX6_digest_64 : decode cX6_digest 64 = .ok (.iinc 3 1, 3) := by decide +kernel
theorem dX6_digest_67 : decode cX6_digest 67 = .ok (.goto (-61), 3) := by decide +kernel
theorem dX6_digest_70 : decode cX6_digest 70 = .ok (.aload_n 0, 1) := by decide +kernel
theorem dX6_digest_71 : decode cX6_digest 71 = .ok (.invokevirtual 124, 3) := by decide +kernel
theorem dX6_digest_74 : decode cX6_digest 74 = .ok (.ifCond .ne 21, 3) := by decide +kernel
theorem dX6_digest_77 : decode cX6_digest 77 = .ok (.lload_n 1, 1) := by decide +kernel
theorem dX6_digest_78 : decode cX6_digest 78 = .ok (.aload_n 0, 1) := by decide +kernel
theorem dX6_digest_79 : decode cX6_digest 79 = .ok (.invokevirtual 186, 3) := by decide +kernel
theorem dX6_digest_82 : decode cX6_digest 82 = .ok (.invokestatic 179, 3) := by decide +kernel
theorem dX6_digest_85 : decode cX6_digest 85 = .ok (.lstore_n 1, 1) := by decide +kernel
theorem dX6_digest_86 : decode cX6_digest 86 = .ok (.lload_n 1, 1) := by decide +kernel
theorem dX6_digest_87 : decode cX6_digest 87 = .ok (.aload_n 0, 1) := by decide +kernel
theorem dX6_digest_88 : decode cX6_digest 88 = .ok (.invokevirtual 189, 3) := by decide +kernel
theorem dX6_digest_91 : decode cX6_digest 91 = .ok (.invokestatic 179, 3) := by decide +kernel
theorem dX6_digest_94 : decode cX6_digest 94 = .ok (.lstore_n 1, 1) := by decide +kernel
theorem dX6_digest_95 : decode cX6_digest 95 = .ok (.iconst 0, 1) := by decide +kernel
theorem dX6_digest_96 : decode cX6_digest 96 = .ok (.istore_n 3, 1) := by decide +kernel
theorem dX6_digest_97 : decode cX6_digest 97 = .ok (.iload_n 3, 1) := by decide +kernel
theorem dX6_digest_98 : decode cX6_digest 98 = .ok (.aload_n 0, 1) := by decide +kernel
theorem dX6_digest_99 : decode cX6_digest 99 = .ok (.getfield 13, 3) := by decide +kernel
theorem dX6_digest_102 : decode cX6_digest 102 = .ok (.if_icmp .ge 19, 3) := by decide +kernel
theorem dX6_digest_105 : decode cX6_digest 105 = .ok (.lload_n 1, 1) := by decide +kernel
theorem dX6_digest_106 : decode cX6_digest 106 = .ok (.aload_n 0, 1) := by decide +kernel
theorem dX6_digest_107 : decode cX6_digest 107 = .ok (.iload_n 3, 1) := by decide +kernel
theorem dX6_digest_108 : decode cX6_digest 108 = .ok (.invokevirtual 55, 3) := by decide +kernel
theorem dX6_digest_111 : decode cX6_digest 111 = .ok (.invokestatic 179, 3) := by decide +kernel
theorem dX6_digest_114 : decode cX6_digest 114 = .ok (.lstore_n 1, 1) := by decide +kernel
theorem dX6_digest_115 : decode cX6_digest 115 = .ok (.iinc 3 1, 3) := by decide +kernel
theorem dX6_digest_118 : decode cX6_digest 118 = .ok (.goto (-21), 3) := by decide +kernel
theorem dX6_digest_121 : decode cX6_digest 121 = .ok (.iconst 0, 1) := by decide +kernel
theorem dX6_digest_122 : decode cX6_digest 122 = .ok (.istore_n 3, 1) := by decide +kernel
theorem dX6_digest_123 : decode cX6_digest 123 = .ok (.iload_n 3, 1) := by decide +kernel
theorem dX6_digest_124 : decode cX6_digest 124 = .ok (.bipush 10, 2) := by decide +kernel
theorem dX6_digest_126 : decode cX6_digest 126 = .ok (.if_icmp .gt 19, 3) := by decide +kernel
theorem dX6_digest_129 : decode cX6_digest 129 = .ok (.lload_n 1, 1) := by decide +kernel
theorem dX6_digest_130 : decode cX6_digest 130 = .ok (.aload_n 0, 1) := by decide +kernel
theorem dX6_digest_131 : decode cX6_digest 131 = .ok (.iload_n 3, 1) := by decide +kernel
theorem dX6_digest_132 : decode cX6_digest 132 = .ok (.invokevirtual 192, 3) := by decide +kernel
theorem dX6_digest_135 : decode cX6_digest 135 = .ok (.invokestatic 179, 3) := by decide +kernel
theorem dX6_digest_138 : decode cX6_digest 138 = .ok (.lstore_n 1, 1) := by decide +kernel
theorem dX6_digest_139 : decode cX6_digest 139 = .ok (.iinc 3 1, 3) := by decide +kernel
theorem dX6_digest_142 : decode cX6_digest 142 = .ok (.goto (-19), 3) := by decide +kernel
theorem dX6_digest_145 : decode cX6_digest 145 = .ok (.lload_n 1, 1) := by decide +kernel
theorem dX6_digest_146 : decode cX6_digest 146 = .ok (.lreturn, 1) := by decide +kernel
theorem dX6_mix_0 : decode cX6_mix 0 = .ok (.ldc2_w 195, 3) := by decide +kernel
theorem dX6_mix_3 : decode cX6_mix 3 = .ok (.lload_n 0, 1) := by decide +kernel
theorem dX6_mix_4 : decode cX6_mix 4 = .ok (.lmul, 1) := by decide +kernel
theorem dX6_mix_5 : decode cX6_mix 5 = .ok (.iload_n 2, 1) := by decide +kernel
theorem dX6_mix_6 : decode cX6_mix 6 = .ok (.i2l, 1) := by decide +kernel
theorem dX6_mix_7 : decode cX6_mix 7 = .ok (.ladd, 1) := by decide +kernel
theorem dX6_mix_8 : decode cX6_mix 8 = .ok (.lreturn, 1) := by decide +kernel
theorem dX6_codeAt_0 : decode cX6_codeAt 0 = .ok (.iload_n 1, 1) := by decide +kernel
theorem dX6_codeAt_1 : decode cX6_codeAt 1 = .ok (.ifCond .lt 18, 3) := by decide +kernel
theorem dX6_codeAt_4 : decode cX6_codeAt 4 = .ok (.iload_n 1, 1) := by decide +kernel
theorem dX6_codeAt_5 : decode cX6_codeAt 5 = .ok (.bipush 25, 2) := by decide +kernel
theorem dX6_codeAt_7 : decode cX6_codeAt 7 = .ok (.if_icmp .ge 12, 3) := by decide +kernel
theorem dX6_codeAt_10 : decode cX6_codeAt 10 = .ok (.aload_n 0, 1) := by decide +kernel
theorem dX6_codeAt_11 : decode cX6_codeAt 11 = .ok (.getfield 9, 3) := by decide +kernel
theorem dX6_codeAt_14 : decode cX6_codeAt 14 = .ok (.iload_n 1, 1) := by decide +kernel
theorem dX6_codeAt_15 : decode cX6_codeAt 15 = .ok (.iaload, 1) := by decide +kernel
theorem dX6_codeAt_16 : decode cX6_codeAt 16 = .ok (.goto 4, 3) := by decide +kernel
theorem dX6_codeAt_19 : decode cX6_codeAt 19 = .ok (.iconst 0, 1) := by decide +kernel
theorem dX6_codeAt_20 : decode cX6_codeAt 20 = .ok (.ireturn, 1) := by decide +kernel
set_option maxRecDepth 20000 in
theorem ggX6_fits_X6_isKindLetter : GoodIn wsX6_fits wsX6_isKindLetter := goodIn_r _ [4] (by decide +kernel) (by decide +kernel)
set_option maxRecDepth 20000 in
theorem gX6_fits_X6_isKindLetter : GoodIn wsX6_fits (va_wsS RX6 197 yX6_isKindLetter wsX6_isKindLetter) := goodIn_app (goodIn_of _ (by decide +kernel)) ggX6_fits_X6_isKindLetter
theorem dX6_fits_0 : decode cX6_fits 0 = .ok (.iload_n 0, 1) := by decide +kernel
theorem dX6_fits_1 : decode cX6_fits 1 = .ok (.ifCond .lt 9, 3) := by decide +kernel
theorem dX6_fits_4 : decode cX6_fits 4 = .ok (.iload_n 0, 1) := by decide +kernel
theorem dX6_fits_5 : decode cX6_fits 5 = .ok (.bipush 23, 2) := by decide +kernel
theorem dX6_fits_7 : decode cX6_fits 7 = .ok (.if_icmp .lt 5, 3) := by decide +kernel
theorem dX6_fits_10 : decode cX6_fits 10 = .ok (.iconst 0, 1) := by decide +kernel
theorem dX6_fits_11 : decode cX6_fits 11 = .ok (.ireturn, 1) := by decide +kernel
theorem dX6_fits_12 : decode cX6_fits 12 = .ok (.iload_n 0, 1) := by decide +kernel
theorem dX6_fits_13 : decode cX6_fits 13 = .ok (.iconst 4, 1) := by decide +kernel
theorem dX6_fits_14 : decode cX6_fits 14 = .ok (.irem, 1) := by decide +kernel
theorem dX6_fits_15 : decode cX6_fits 15 = .ok (.lookupswitch 42 #[(0, 25), (3, 30)], 25) := by decide +kernel
theorem dX6_fits_40 : decode cX6_fits 40 = .ok (.iload_n 1, 1) := by decide +kernel
theorem dX6_fits_41 : decode cX6_fits 41 = .ok (.invokestatic 197, 3) := by decide +kernel
theorem dX6_fits_44 : decode cX6_fits 44 = .ok (.ireturn, 1) := by decide +kernel
theorem dX6_fits_45 : decode cX6_fits 45 = .ok (.iload_n 1, 1) := by decide +kernel
theorem dX6_fits_46 : decode cX6_fits 46 = .ok (.bipush 44, 2) := by decide +kernel
theorem dX6_fits_48 : decode cX6_fits 48 = .ok (.if_icmp .ne 7, 3) := by decide +kernel
theorem dX6_fits_51 : decode cX6_fits 51 = .ok (.iconst 1, 1) := by decide +kernel
theorem dX6_fits_52 : decode cX6_fits 52 = .ok (.goto 4, 3) := by decide +kernel
theorem dX6_fits_55 : decode cX6_fits 55 = .ok (.iconst 0, 1) := by decide +kernel
theorem dX6_fits_56 : decode cX6_fits 56 = .ok (.ireturn, 1) := by decide +kernel
theorem dX6_fits_57 : decode cX6_fits 57 = .ok (.iload_n 1, 1) := by decide +kernel
theorem dX6_fits_58 : decode cX6_fits 58 = .ok (.bipush 48, 2) := by decide +kernel
theorem dX6_fits_60 : decode cX6_fits 60 = .ok (.if_icmp .lt 13, 3) := by decide +kernel
theorem dX6_fits_63 : decode cX6_fits 63 = .ok (.iload_n 1, 1) := by decide +kernel
theorem dX6_fits_64 : decode cX6_fits 64 = .ok (.bipush 57, 2) := by decide +kernel
theorem dX6_fits_66 : decode cX6_fits 66 = .ok (.if_icmp .gt 7, 3) := by decide +kernel
theorem dX6_fits_69 : decode cX6_fits 69 = .ok (.iconst 1, 1) := by decide +kernel
theorem dX6_fits_70 : decode cX6_fits 70 = .ok (.goto 4, 3) := by decide +kernel
theorem dX6_fits_73 : decode cX6_fits 73 = .ok (.iconst 0, 1) := by decide +kernel
theorem dX6_fits_74 : decode cX6_fits 74 = .ok (.ireturn, 1) := by decide +kernel
theorem dX6_isKindLetter_0 : decode cX6_isKindLetter 0 = .ok (.iload_n 0, 1) := by decide +kernel
theorem dX6_isKindLetter_1 : decode cX6_isKindLetter 1 = .ok (.bipush 106, 2) := by decide +kernel
theorem dX6_isKindLetter_3 : decode cX6_isKindLetter 3 = .ok (.if_icmp .eq 27, 3) := by decide +kernel
theorem dX6_isKindLetter_6 : decode cX6_isKindLetter 6 = .ok (.iload_n 0, 1) := by decide +kernel
theorem dX6_isKindLetter_7 : decode cX6_isKindLetter 7 = .ok (.bipush 119, 2) := by decide +kernel
theorem dX6_isKindLetter_9 : decode cX6_isKindLetter 9 = .ok (.if_icmp .eq 21, 3) := by decide +kernel
theorem dX6_isKindLetter_12 : decode cX6_isKindLetter 12 = .ok (.iload_n 0, 1) := by decide +kernel
theorem dX6_isKindLetter_13 : decode cX6_isKindLetter 13 = .ok (.bipush 99, 2) := by decide +kernel
theorem dX6_isKindLetter_15 : decode cX6_isKindLetter 15 = .ok (.if_icmp .eq 15, 3) := by decide +kernel
theorem dX6_isKindLetter_18 : decode cX6_isKindLetter 18 = .ok (.iload_n 0, 1) := by decide +kernel
theorem dX6_isKindLetter_19 : decode cX6_isKindLetter 19 = .ok (.bipush 112, 2) := by decide +kernel
theorem dX6_isKindLetter_21 : decode cX6_isKindLetter 21 = .ok (.if_icmp .eq 9, 3) := by decide +kernel
theorem dX6_isKindLetter_24 : decode cX6_isKindLetter 24 = .ok (.iload_n 0, 1) := by decide +kernel
theorem dX6_isKindLetter_25 : decode cX6_isKindLetter 25 = .ok (.bipush 103, 2) := by decide +kernel
theorem dX6_isKindLetter_27 : decode cX6_isKindLetter 27 = .ok (.if_icmp .ne 7, 3) := by decide +kernel
theorem dX6_isKindLetter_30 : decode cX6_isKindLetter 30 = .ok (.iconst 1, 1) := by decide +kernel
theorem dX6_isKindLetter_31 : decode cX6_isKindLetter 31 = .ok (.goto 4, 3) := by decide +kernel
theorem dX6_isKindLetter_34 : decode cX6_isKindLetter 34 = .ok (.iconst 0, 1) := by decide +kernel
theorem dX6_isKindLetter_35 : decode cX6_isKindLetter 35 = .ok (.ireturn, 1) := by decide +kernel
set_option maxRecDepth 20000 in
theorem ggX6_pageIsLarder_X6_fault : GoodIn wsX6_pageIsLarder wsX6_fault := goodIn_r _ [6, 1, 7, 8, 9, 5, 10, 11, 12, 13, 14, 15, 16, 17, 18, 19, 20, 21, 22, 23, 24, 25, 26, 27, 28, 29] (by decide +kernel) (by decide +kernel)
set_option maxRecDepth 20000 in
theorem gX6_pageIsLarder_X6_fault : GoodIn wsX6_pageIsLarder (wsV RX6 200 RX6 yX6_fault wsX6_fault) := goodIn_app (goodIn_of _ (by decide +kernel)) ggX6_pageIsLarder_X6_fault
theorem dX6_pageIsLarder_0 : decode cX6_pageIsLarder 0 = .ok (.aload_n 0, 1) := by decide +kernel
theorem dX6_pageIsLarder_1 : decode cX6_pageIsLarder 1 = .ok (.getfield 13, 3) := by decide +kernel
theorem dX6_pageIsLarder_4 : decode cX6_pageIsLarder 4 = .ok (.iconst 4, 1) := by decide +kernel
theorem dX6_pageIsLarder_5 : decode cX6_pageIsLarder 5 = .ok (.irem, 1) := by decide +kernel
theorem dX6_pageIsLarder_6 : decode cX6_pageIsLarder 6 = .ok (.iconst 3, 1) := by decide +kernel
theorem dX6_pageIsLarder_7 : decode cX6_pageIsLarder 7 = .ok (.if_icmp .ne 7, 3) := by decide +kernel
theorem dX6_pageIsLarder_10 : decode cX6_pageIsLarder 10 = .ok (.iconst 1, 1) := by decide +kernel
theorem dX6_pageIsLarder_11 : decode cX6_pageIsLarder 11 = .ok (.goto 4, 3) := by decide +kernel
theorem dX6_pageIsLarder_14 : decode cX6_pageIsLarder 14 = .ok (.iconst 0, 1) := by decide +kernel
theorem dX6_pageIsLarder_15 : decode cX6_pageIsLarder 15 = .ok (.istore_n 1, 1) := by decide +kernel
theorem dX6_pageIsLarder_16 : decode cX6_pageIsLarder 16 = .ok (.iload_n 1, 1) := by decide +kernel
theorem dX6_pageIsLarder_17 : decode cX6_pageIsLarder 17 = .ok (.ifCond .eq 27, 3) := by decide +kernel
theorem dX6_pageIsLarder_20 : decode cX6_pageIsLarder 20 = .ok (.aload_n 0, 1) := by decide +kernel
theorem dX6_pageIsLarder_21 : decode cX6_pageIsLarder 21 = .ok (.getfield 13, 3) := by decide +kernel
theorem dX6_pageIsLarder_24 : decode cX6_pageIsLarder 24 = .ok (.bipush 7, 2) := by decide +kernel
theorem dX6_pageIsLarder_26 : decode cX6_pageIsLarder 26 = .ok (.if_icmp .lt 18, 3) := by decide +kernel
theorem dX6_pageIsLarder_29 : decode cX6_pageIsLarder 29 = .ok (.aload_n 0, 1) := by decide +kernel
theorem dX6_pageIsLarder_30 : decode cX6_pageIsLarder 30 = .ok (.invokevirtual 200, 3) := by decide +kernel
theorem dX6_pageIsLarder_33 : decode cX6_pageIsLarder 33 = .ok (.aload_n 0, 1) := by decide +kernel
theorem dX6_pageIsLarder_34 : decode cX6_pageIsLarder 34 = .ok (.getfield 13, 3) := by decide +kernel
theorem dX6_pageIsLarder_37 : decode cX6_pageIsLarder 37 = .ok (.if_icmp .ne 7, 3) := by decide +kernel
theorem dX6_pageIsLarder_40 : decode cX6_pageIsLarder 40 = .ok (.iconst 1, 1) := by decide +kernel
theorem dX6_pageIsLarder_41 : decode cX6_pageIsLarder 41 = .ok (.goto 4, 3) := by decide +kernel
theorem dX6_pageIsLarder_44 : decode cX6_pageIsLarder 44 = .ok (.iconst 0, 1) := by decide +kernel
theorem dX6_pageIsLarder_45 : decode cX6_pageIsLarder 45 = .ok (.ireturn, 1) := by decide +kernel
set_option maxRecDepth 20000 in
theorem ggX6_readJar_X6_codeAt : GoodIn wsX6_readJar wsX6_codeAt := goodIn_r _ [20, 21, 72, 73, 74, 75, 76, 77, 78, 79, 80, 81, 82, 83] (by decide +kernel) (by decide +kernel)
set_option maxRecDepth 20000 in
theorem gX6_readJar_X6_codeAt : GoodIn wsX6_readJar (wsV RX6 55 RX6 yX6_codeAt wsX6_codeAt) := goodIn_app (goodIn_of _ (by decide +kernel)) ggX6_readJar_X6_codeAt
set_option maxRecDepth 20000 in
theorem ggX6_readJar_X5_init : GoodIn wsX6_readJar wsX5_init := goodIn_r _ [24, 25, 26, 15, 27, 28, 29, 30, 31, 32, 33, 60, 61, 62, 66, 67, 68, 69, 70, 71, 63, 64, 65, 57, 58, 59] (by decide +kernel) (by decide +kernel)
set_option maxRecDepth 20000 in
theorem gX6_readJar_X5_init : GoodIn wsX6_readJar (wsX5_init) := ggX6_readJar_X5_init
set_option maxRecDepth 20000 in
theorem ggX6_readJar_X0_init : GoodIn wsX6_readJar wsX0_init := goodIn_r _ [36, 37, 26, 15, 27, 28, 29, 30, 31, 32, 33, 60, 61, 62, 66, 67, 68, 69, 70, 71, 63, 64, 65, 57, 58, 59] (by decide +kernel) (by decide +kernel)
set_option maxRecDepth 20000 in
theorem gX6_readJar_X0_init : GoodIn wsX6_readJar (wsX0_init) := ggX6_readJar_X0_init
set_option maxRecDepth 20000 in
theorem ggX6_readJar_X4_init : GoodIn wsX6_readJar wsX4_init := goodIn_r _ [40, 41, 42, 15, 43, 44, 45, 46, 47, 48, 49, 50, 51, 26, 27, 28, 29, 30, 31, 32, 33, 60, 61, 62, 66, 67, 68, 69, 70, 71, 63, 64, 65, 57, 58, 59] (by decide +kernel) (by decide +kernel)
set_option maxRecDepth 20000 in
theorem gX6_readJar_X4_init : GoodIn wsX6_readJar (wsX4_init) := ggX6_readJar_X4_init
set_option maxRecDepth 20000 in
theorem ggX6_readJar_X2_init : GoodIn wsX6_readJar wsX2_init := goodIn_r _ [54, 55, 35, 6, 36, 37, 26, 15, 27, 28, 29, 30, 31, 32, 33, 60, 61, 62, 66, 67, 68, 69, 70, 71, 63, 64, 65, 57, 58, 59] (by decide +kernel) (by decide +kernel)
set_option maxRecDepth 20000 in
theorem gX6_readJar_X2_init : GoodIn wsX6_readJar (wsX2_init) := ggX6_readJar_X2_init
set_option maxRecDepth 20000 in
theorem ggX6_readJar_X3_init : GoodIn wsX6_readJar wsX3_init := goodIn_r _ [43, 44, 45, 15, 46, 47, 48, 49, 50, 51, 26, 27, 28, 29, 30, 31, 32, 33, 60, 61, 62, 66, 67, 68, 69, 70, 71, 63, 64, 65, 57, 58, 59] (by decide +kernel) (by decide +kernel)
set_option maxRecDepth 20000 in
theorem gX6_readJar_X3_init : GoodIn wsX6_readJar (wsX3_init) := ggX6_readJar_X3_init
theorem dX6_readJar_0 : decode cX6_readJar 0 = .ok (.aload_n 0, 1) := by decide +kernel
theorem dX6_readJar_1 : decode cX6_readJar 1 = .ok (.iload_n 1, 1) := by decide +kernel
theorem dX6_readJar_2 : decode cX6_readJar 2 = .ok (.iconst 1, 1) := by decide +kernel
theorem dX6_readJar_3 : decode cX6_readJar 3 = .ok (.iadd, 1) := by decide +kernel
theorem dX6_readJar_4 : decode cX6_readJar 4 = .ok (.invokevirtual 55, 3) := by decide +kernel
theorem dX6_readJar_7 : decode cX6_readJar 7 = .ok (.bipush 48, 2) := by decide +kernel
theorem dX6_readJar_9 : decode cX6_readJar 9 = .ok (.isub, 1) := by decide +kernel
theorem dX6_readJar_10 : decode cX6_readJar 10 = .ok (.istore_n 2, 1) := by decide +kernel
theorem dX6_readJar_11 : decode cX6_readJar 11 = .ok (.aload_n 0, 1) := by decide +kernel
theorem dX6_readJar_12 : decode cX6_readJar 12 = .ok (.iload_n 1, 1) := by decide +kernel
theorem dX6_readJar_13 : decode cX6_readJar 13 = .ok (.iconst 2, 1) := by decide +kernel
theorem dX6_readJar_14 : decode cX6_readJar 14 = .ok (.iadd, 1) := by decide +kernel
theorem dX6_readJar_15 : decode cX6_readJar 15 = .ok (.invokevirtual 55, 3) := by decide +kernel
theorem dX6_readJar_18 : decode cX6_readJar 18 = .ok (.bipush 48, 2) := by decide +kernel
theorem dX6_readJar_20 : decode cX6_readJar 20 = .ok (.isub, 1) := by decide +kernel
theorem dX6_readJar_21 : decode cX6_readJar 21 = .ok (.istore_n 3, 1) := by decide +kernel
theorem dX6_readJar_22 : decode cX6_readJar 22 = .ok (.aload_n 0, 1) := by decide +kernel
theorem dX6_readJar_23 : decode cX6_readJar 23 = .ok (.iload_n 1, 1) := by decide +kernel
theorem dX6_readJar_24 : decode cX6_readJar 24 = .ok (.invokevirtual 55, 3) := by decide +kernel
theorem dX6_readJar_27 : decode cX6_readJar 27 = .ok (.lookupswitch 81 #[(99, 51), (103, 71), (112, 61), (119, 41)], 41) := by decide +kernel
theorem dX6_readJar_68 : decode cX6_readJar 68 = .ok (.new 203, 3) := by decide +kernel
theorem dX6_readJar_71 : decode cX6_readJar 71 = .ok (.dup, 1) := by decide +kernel
theorem dX6_readJar_72 : decode cX6_readJar 72 = .ok (.iload_n 2, 1) := by decide +kernel
theorem dX6_readJar_73 : decode cX6_readJar 73 = .ok (.iload_n 3, 1) := by decide +kernel
theorem dX6_readJar_74 : decode cX6_readJar 74 = .ok (.invokespecial 205, 3) := by decide +kernel
theorem dX6_readJar_77 : decode cX6_readJar 77 = .ok (.areturn, 1) := by decide +kernel
theorem dX6_readJar_78 : decode cX6_readJar 78 = .ok (.new 208, 3) := by decide +kernel
theorem dX6_readJar_81 : decode cX6_readJar 81 = .ok (.dup, 1) := by decide +kernel
theorem dX6_readJar_82 : decode cX6_readJar 82 = .ok (.iload_n 2, 1) := by decide +kernel
theorem dX6_readJar_83 : decode cX6_readJar 83 = .ok (.iload_n 3, 1) := by decide +kernel
theorem dX6_readJar_84 : decode cX6_readJar 84 = .ok (.invokespecial 210, 3) := by decide +kernel
theorem dX6_readJar_87 : decode cX6_readJar 87 = .ok (.areturn, 1) := by decide +kernel
theorem dX6_readJar_88 : decode cX6_readJar 88 = .ok (.new 211, 3) := by decide +kernel
theorem dX6_readJar_91 : decode cX6_readJar 91 = .ok (.dup, 1) := by decide +kernel
theorem dX6_readJar_92 : decode cX6_readJar 92 = .ok (.iload_n 2, 1) := by decide +kernel
theorem dX6_readJar_93 : decode cX6_readJar 93 = .ok (.iload_n 3, 1) := by decide +kernel
theorem dX6_readJar_94 : decode cX6_readJar 94 = .ok (.invokespecial 213, 3) := by decide +kernel
theorem dX6_readJar_97 : decode cX6_readJar 97 = .ok (.areturn, 1) := by decide +kernel
theorem dX6_readJar_98 : decode cX6_readJar 98 = .ok (.new 214, 3) := by decide +kernel
theorem dX6_readJar_101 : decode cX6_readJar 101 = .ok (.dup, 1) := by decide +kernel
theorem dX6_readJar_102 : decode cX6_readJar 102 = .ok (.iload_n 2, 1) := by decide +kernel
theorem dX6_readJar_103 : decode cX6_readJar 103 = .ok (.iload_n 3, 1) := by decide +kernel
theorem dX6_readJar_104 : decode cX6_readJar 104 = .ok (.invokespecial 216, 3) := by decide +kernel
theorem dX6_readJar_107 : decode cX6_readJar 107 = .ok (.areturn, 1) := by decide +kernel
theorem dX6_readJar_108 : decode cX6_readJar 108 = .ok (.new 17, 3) := by decide +kernel
theorem dX6_readJar_111 : decode cX6_readJar 111 = .ok (.dup, 1) := by decide +kernel
theorem dX6_readJar_112 : decode cX6_readJar 112 = .ok (.iload_n 2, 1) := by decide +kernel
theorem dX6_readJar_113 : decode cX6_readJar 113 = .ok (.iload_n 3, 1) := by decide +kernel
theorem dX6_readJar_114 : decode cX6_readJar 114 = .ok (.invokespecial 217, 3) := by decide +kernel
theorem dX6_readJar_117 : decode cX6_readJar 117 = .ok (.areturn, 1) := by decide +kernel
theorem dX6_hasNoLarder_0 : decode cX6_hasNoLarder 0 = .ok (.aload_n 0, 1) := by decide +kernel
theorem dX6_hasNoLarder_1 : decode cX6_hasNoLarder 1 = .ok (.getfield 23, 3) := by decide +kernel
theorem dX6_hasNoLarder_4 : decode cX6_hasNoLarder 4 = .ok (.ifCond .ne 7, 3) := by decide +kernel
theorem dX6_hasNoLarder_7 : decode cX6_hasNoLarder 7 = .ok (.iconst 1, 1) := by decide +kernel
theorem dX6_hasNoLarder_8 : decode cX6_hasNoLarder 8 = .ok (.goto 4, 3) := by decide +kernel
theorem dX6_hasNoLarder_11 : decode cX6_hasNoLarder 11 = .ok (.iconst 0, 1) := by decide +kernel
theorem dX6_hasNoLarder_12 : decode cX6_hasNoLarder 12 = .ok (.ireturn, 1) := by decide +kernel
theorem dX6_isNoYear_0 : decode cX6_isNoYear 0 = .ok (.iload_n 0, 1) := by decide +kernel
theorem dX6_isNoYear_1 : decode cX6_isNoYear 1 = .ok (.ifCond .lt 9, 3) := by decide +kernel
theorem dX6_isNoYear_4 : decode cX6_isNoYear 4 = .ok (.iload_n 0, 1) := by decide +kernel
theorem dX6_isNoYear_5 : decode cX6_isNoYear 5 = .ok (.bipush 99, 2) := by decide +kernel
theorem dX6_isNoYear_7 : decode cX6_isNoYear 7 = .ok (.if_icmp .le 7, 3) := by decide +kernel
theorem dX6_isNoYear_10 : decode cX6_isNoYear 10 = .ok (.iconst 1, 1) := by decide +kernel
theorem dX6_isNoYear_11 : decode cX6_isNoYear 11 = .ok (.goto 4, 3) := by decide +kernel
theorem dX6_isNoYear_14 : decode cX6_isNoYear 14 = .ok (.iconst 0, 1) := by decide +kernel
theorem dX6_isNoYear_15 : decode cX6_isNoYear 15 = .ok (.ireturn, 1) := by decide +kernel
theorem dX6_find_0 : decode cX6_find 0 = .ok (.iload_n 1, 1) := by decide +kernel
theorem dX6_find_1 : decode cX6_find 1 = .ok (.ifCond .lt 26, 3) := by decide +kernel
theorem dX6_find_4 : decode cX6_find 4 = .ok (.iload_n 1, 1) := by decide +kernel
theorem dX6_find_5 : decode cX6_find 5 = .ok (.aload_n 0, 1) := by decide +kernel
theorem dX6_find_6 : decode cX6_find 6 = .ok (.getfield 23, 3) := by decide +kernel
theorem dX6_find_9 : decode cX6_find 9 = .ok (.if_icmp .ge 18, 3) := by decide +kernel
theorem dX6_find_12 : decode cX6_find 12 = .ok (.iload_n 1, 1) := by decide +kernel
theorem dX6_find_13 : decode cX6_find 13 = .ok (.bipush 6, 2) := by decide +kernel
theorem dX6_find_15 : decode cX6_find 15 = .ok (.if_icmp .ge 12, 3) := by decide +kernel
theorem dX6_find_18 : decode cX6_find 18 = .ok (.aload_n 0, 1) := by decide +kernel
theorem dX6_find_19 : decode cX6_find 19 = .ok (.getfield 19, 3) := by decide +kernel
theorem dX6_find_22 : decode cX6_find 22 = .ok (.iload_n 1, 1) := by decide +kernel
theorem dX6_find_23 : decode cX6_find 23 = .ok (.aaload, 1) := by decide +kernel
theorem dX6_find_24 : decode cX6_find 24 = .ok (.goto 4, 3) := by decide +kernel
theorem dX6_find_27 : decode cX6_find 27 = .ok (.aconst_null, 1) := by decide +kernel
theorem dX6_find_28 : decode cX6_find 28 = .ok (.areturn, 1) := by decide +kernel
theorem dX6_isOfKind_0 : decode cX6_isOfKind 0 = .ok (.iload_n 1, 1) := by decide +kernel
theorem dX6_isOfKind_1 : decode cX6_isOfKind 1 = .ok (.tableswitch 65 0 4 #[35, 45, 50, 55, 60], 35) := by decide +kernel
theorem dX6_isOfKind_36 : decode cX6_isOfKind 36 = .ok (.aload_n 0, 1) := by decide +kernel
theorem dX6_isOfKind_37 : decode cX6_isOfKind 37 = .ok (.ifnull 7, 3) := by decide +kernel
theorem dX6_isOfKind_40 : decode cX6_isOfKind 40 = .ok (.iconst 1, 1) := by decide +kernel
theorem dX6_isOfKind_41 : decode cX6_isOfKind 41 = .ok (.goto 4, 3) := by decide +kernel
theorem dX6_isOfKind_44 : decode cX6_isOfKind 44 = .ok (.iconst 0, 1) := by decide +kernel
theorem dX6_isOfKind_45 : decode cX6_isOfKind 45 = .ok (.ireturn, 1) := by decide +kernel
theorem dX6_isOfKind_46 : decode cX6_isOfKind 46 = .ok (.aload_n 0, 1) := by decide +kernel
theorem dX6_isOfKind_47 : decode cX6_isOfKind 47 = .ok (.instanceof 203, 3) := by decide +kernel
theorem dX6_isOfKind_50 : decode cX6_isOfKind 50 = .ok (.ireturn, 1) := by decide +kernel
theorem dX6_isOfKind_51 : decode cX6_isOfKind 51 = .ok (.aload_n 0, 1) := by decide +kernel
theorem dX6_isOfKind_52 : decode cX6_isOfKind 52 = .ok (.instanceof 208, 3) := by decide +kernel
theorem dX6_isOfKind_55 : decode cX6_isOfKind 55 = .ok (.ireturn, 1) := by decide +kernel
theorem dX6_isOfKind_56 : decode cX6_isOfKind 56 = .ok (.aload_n 0, 1) := by decide +kernel
theorem dX6_isOfKind_57 : decode cX6_isOfKind 57 = .ok (.instanceof 211, 3) := by decide +kernel
theorem dX6_isOfKind_60 : decode cX6_isOfKind 60 = .ok (.ireturn, 1) := by decide +kernel
theorem dX6_isOfKind_61 : decode cX6_isOfKind 61 = .ok (.aload_n 0, 1) := by decide +kernel
theorem dX6_isOfKind_62 : decode cX6_isOfKind 62 = .ok (.instanceof 214, 3) := by decide +kernel
theorem dX6_isOfKind_65 : decode cX6_isOfKind 65 = .ok (.ireturn, 1) := by decide +kernel
theorem dX6_isOfKind_66 : decode cX6_isOfKind 66 = .ok (.iconst 0, 1) := by decide +kernel
theorem dX6_isOfKind_67 : decode cX6_isOfKind 67 = .ok (.ireturn, 1) := by decide +kernel
set_option maxRecDepth 20000 in
theorem ggX6_firstWorth_X6_find : GoodIn wsX6_firstWorth wsX6_find := goodIn_r _ [5, 6, 7, 48, 49, 50, 51, 52, 53, 54, 55, 56, 57, 58, 59] (by decide +kernel) (by decide +kernel)
set_option maxRecDepth 20000 in
theorem gX6_firstWorth_X6_find : GoodIn wsX6_firstWorth (wsV RX6 75 RX6 yX6_find wsX6_find) := goodIn_app (goodIn_of _ (by decide +kernel)) ggX6_firstWorth_X6_find
set_option maxRecDepth 20000 in
theorem ggX6_firstWorth_X3_firstWorthIn : GoodIn wsX6_firstWorth wsX3_firstWorthIn := goodIn_r _ [13, 14, 15, 16, 17, 18, 12, 19, 20, 21, 22, 23, 24, 25, 60, 61, 62, 63, 64, 65, 66, 67, 68, 69, 70, 71, 72, 73, 74] (by decide +kernel) (by decide +kernel)
set_option maxRecDepth 20000 in
theorem gX6_firstWorth_X3_firstWorthIn_u218X0 : GoodIn wsX6_firstWorth (va_wsU RX6 218 RX0 "JamDays$Jar" ⟨"JamDays$Jar", "firstWorthIn", "(I)I"⟩ yX3_firstWorthIn wsX3_firstWorthIn) := goodIn_app (goodIn_of _ (by decide +kernel)) ggX6_firstWorth_X3_firstWorthIn
set_option maxRecDepth 20000 in
theorem ggX6_firstWorth_X2_firstWorthIn : GoodIn wsX6_firstWorth wsX2_firstWorthIn := goodIn_r _ [30, 31, 32, 33, 34, 35, 18, 12, 19, 20, 60, 61, 62, 63, 64, 65, 66, 67, 68, 69, 70, 71, 72, 73, 74] (by decide +kernel) (by decide +kernel)
set_option maxRecDepth 20000 in
theorem gX6_firstWorth_X2_firstWorthIn_u218X2 : GoodIn wsX6_firstWorth (va_wsO RX6 218 RX2 "JamDays$Jar" ⟨"JamDays$Jar", "firstWorthIn", "(I)I"⟩ yX2_firstWorthIn wsX2_firstWorthIn) := goodIn_app (goodIn_of _ (by decide +kernel)) ggX6_firstWorth_X2_firstWorthIn
set_option maxRecDepth 20000 in
theorem gX6_firstWorth_X3_firstWorthIn : GoodIn wsX6_firstWorth (wsV RX6 218 RX3 yX3_firstWorthIn wsX3_firstWorthIn) := goodIn_app (goodIn_of _ (by decide +kernel)) ggX6_firstWorth_X3_firstWorthIn
set_option maxRecDepth 20000 in
theorem ggX6_firstWorth_X4_firstWorthIn : GoodIn wsX6_firstWorth wsX4_firstWorthIn := goodIn_r _ [41, 42, 43, 44, 45, 46, 18, 12, 19, 20, 60, 61, 62, 63, 64, 65, 66, 67, 68, 69, 70, 71, 72, 73, 74] (by decide +kernel) (by decide +kernel)
set_option maxRecDepth 20000 in
theorem gX6_firstWorth_X4_firstWorthIn_u218X4 : GoodIn wsX6_firstWorth (va_wsO RX6 218 RX4 "JamDays$Jar" ⟨"JamDays$Jar", "firstWorthIn", "(I)I"⟩ yX4_firstWorthIn wsX4_firstWorthIn) := goodIn_app (goodIn_of _ (by decide +kernel)) ggX6_firstWorth_X4_firstWorthIn
set_option maxRecDepth 20000 in
theorem gX6_firstWorth_X3_firstWorthIn_u218X5 : GoodIn wsX6_firstWorth (va_wsU RX6 218 RX5 "JamDays$Jar" ⟨"JamDays$Jar", "firstWorthIn", "(I)I"⟩ yX3_firstWorthIn wsX3_firstWorthIn) := goodIn_app (goodIn_of _ (by decide +kernel)) ggX6_firstWorth_X3_firstWorthIn
theorem dX6_firstWorth_0 : decode cX6_firstWorth 0 = .ok (.aload_n 0, 1) := by decide +kernel
theorem dX6_firstWorth_1 : decode cX6_firstWorth 1 = .ok (.iload_n 1, 1) := by decide +kernel
theorem dX6_firstWorth_2 : decode cX6_firstWorth 2 = .ok (.invokevirtual 75, 3) := by decide +kernel
theorem dX6_firstWorth_5 : decode cX6_firstWorth 5 = .ok (.astore_n 3, 1) := by decide +kernel
theorem dX6_firstWorth_6 : decode cX6_firstWorth 6 = .ok (.aload_n 3, 1) := by decide +kernel
theorem dX6_firstWorth_7 : decode cX6_firstWorth 7 = .ok (.ifnonnull 7, 3) := by decide +kernel
theorem dX6_firstWorth_10 : decode cX6_firstWorth 10 = .ok (.iconst 0, 1) := by decide +kernel
theorem dX6_firstWorth_11 : decode cX6_firstWorth 11 = .ok (.goto 8, 3) := by decide +kernel
theorem dX6_firstWorth_14 : decode cX6_firstWorth 14 = .ok (.aload_n 3, 1) := by decide +kernel
theorem dX6_firstWorth_15 : decode cX6_firstWorth 15 = .ok (.iload_n 2, 1) := by decide +kernel
theorem dX6_firstWorth_16 : decode cX6_firstWorth 16 = .ok (.invokevirtual 218, 3) := by decide +kernel
theorem dX6_firstWorth_19 : decode cX6_firstWorth 19 = .ok (.ireturn, 1) := by decide +kernel
set_option maxRecDepth 20000 in
theorem ggX6_nextWorth_X6_firstWorth : GoodIn wsX6_nextWorth wsX6_firstWorth := goodIn_r _ [7, 8, 9, 10, 6, 11, 12, 13, 14, 15, 16, 17, 18, 19, 20, 21, 22, 23, 24, 25, 26, 27, 28, 29, 30, 31, 32, 33, 34, 35, 36, 37, 38, 39, 40, 41, 42, 43, 44, 45, 46, 47, 48, 49, 50, 51, 52, 53, 60, 61, 62, 63, 64, 65, 66, 67, 68, 69, 70, 71, 81, 82, 83, 84, 85, 86, 87, 88, 89, 90, 91, 92, 93, 94, 95] (by decide +kernel) (by decide +kernel)
set_option maxRecDepth 20000 in
theorem gX6_nextWorth_X6_firstWorth : GoodIn wsX6_nextWorth (wsV RX6 114 RX6 yX6_firstWorth wsX6_firstWorth) := goodIn_app (goodIn_of _ (by decide +kernel)) ggX6_nextWorth_X6_firstWorth
set_option maxRecDepth 20000 in
theorem ggX6_nextWorth_X1_eatenNowOf : GoodIn wsX6_nextWorth wsX1_eatenNowOf := goodIn_r _ [58, 59, 72, 73, 74, 75, 76, 77, 78, 79, 80] (by decide +kernel) (by decide +kernel)
set_option maxRecDepth 20000 in
theorem gX6_nextWorth_X1_eatenNowOf : GoodIn wsX6_nextWorth (wsV RX6 100 RX1 yX1_eatenNowOf wsX1_eatenNowOf) := goodIn_app (goodIn_of _ (by decide +kernel)) ggX6_nextWorth_X1_eatenNowOf
theorem dX6_nextWorth_0 : decode cX6_nextWorth 0 = .ok (.aload_n 0, 1) := by decide +kernel
theorem dX6_nextWorth_1 : decode cX6_nextWorth 1 = .ok (.iload_n 1, 1) := by decide +kernel
theorem dX6_nextWorth_2 : decode cX6_nextWorth 2 = .ok (.aload_n 0, 1) := by decide +kernel
theorem dX6_nextWorth_3 : decode cX6_nextWorth 3 = .ok (.getfield 29, 3) := by decide +kernel
theorem dX6_nextWorth_6 : decode cX6_nextWorth 6 = .ok (.getfield 91, 3) := by decide +kernel
theorem dX6_nextWorth_9 : decode cX6_nextWorth 9 = .ok (.invokevirtual 114, 3) := by decide +kernel
theorem dX6_nextWorth_12 : decode cX6_nextWorth 12 = .ok (.aload_n 0, 1) := by decide +kernel
theorem dX6_nextWorth_13 : decode cX6_nextWorth 13 = .ok (.getfield 29, 3) := by decide +kernel
theorem dX6_nextWorth_16 : decode cX6_nextWorth 16 = .ok (.iload_n 1, 1) := by decide +kernel
theorem dX6_nextWorth_17 : decode cX6_nextWorth 17 = .ok (.invokevirtual 100, 3) := by decide +kernel
theorem dX6_nextWorth_20 : decode cX6_nextWorth 20 = .ok (.isub, 1) := by decide +kernel
theorem dX6_nextWorth_21 : decode cX6_nextWorth 21 = .ok (.ireturn, 1) := by decide +kernel
set_option maxRecDepth 20000 in
theorem ggX6_yearsToBest_X6_firstWorth : GoodIn wsX6_yearsToBest wsX6_firstWorth := goodIn_r _ [7, 8, 9, 10, 6, 11, 12, 13, 14, 15, 16, 17, 18, 19, 20, 21, 22, 23, 24, 25, 26, 27, 28, 29, 30, 31, 32, 33, 34, 35, 36, 37, 38, 39, 40, 41, 42, 43, 44, 45, 46, 47, 48, 49, 50, 51, 52, 53, 54, 55, 56, 57, 58, 59, 60, 61, 62, 63, 64, 65, 75, 76, 77, 78, 79, 80, 81, 82, 83, 84, 85, 86, 87, 88, 89] (by decide +kernel) (by decide +kernel)
set_option maxRecDepth 20000 in
theorem gX6_yearsToBest_X6_firstWorth : GoodIn wsX6_yearsToBest (wsV RX6 114 RX6 yX6_firstWorth wsX6_firstWorth) := goodIn_app (goodIn_of _ (by decide +kernel)) ggX6_yearsToBest_X6_firstWorth
theorem dX6_yearsToBest_0 : decode cX6_yearsToBest 0 = .ok (.iconst 0, 1) := by decide +kernel
theorem dX6_yearsToBest_1 : decode cX6_yearsToBest 1 = .ok (.istore_n 2, 1) := by decide +kernel
theorem dX6_yearsToBest_2 : decode cX6_yearsToBest 2 = .ok (.iconst 1, 1) := by decide +kernel
theorem dX6_yearsToBest_3 : decode cX6_yearsToBest 3 = .ok (.istore_n 3, 1) := by decide +kernel
theorem dX6_yearsToBest_4 : decode cX6_yearsToBest 4 = .ok (.iload_n 3, 1) := by decide +kernel
theorem dX6_yearsToBest_5 : decode cX6_yearsToBest 5 = .ok (.bipush 10, 2) := by decide +kernel
theorem dX6_yearsToBest_7 : decode cX6_yearsToBest 7 = .ok (.if_icmp .ge 42, 3) := by decide +kernel
theorem dX6_yearsToBest_10 : decode cX6_yearsToBest 10 = .ok (.aload_n 0, 1) := by decide +kernel
theorem dX6_yearsToBest_11 : decode cX6_yearsToBest 11 = .ok (.iload_n 1, 1) := by decide +kernel
theorem dX6_yearsToBest_12 : decode cX6_yearsToBest 12 = .ok (.aload_n 0, 1) := by decide +kernel
theorem dX6_yearsToBest_13 : decode cX6_yearsToBest 13 = .ok (.getfield 29, 3) := by decide +kernel
theorem dX6_yearsToBest_16 : decode cX6_yearsToBest 16 = .ok (.getfield 91, 3) := by decide +kernel
theorem dX6_yearsToBest_19 : decode cX6_yearsToBest 19 = .ok (.iload_n 3, 1) := by decide +kernel
theorem dX6_yearsToBest_20 : decode cX6_yearsToBest 20 = .ok (.iadd, 1) := by decide +kernel
theorem dX6_yearsToBest_21 : decode cX6_yearsToBest 21 = .ok (.invokevirtual 114, 3) := by decide +kernel
theorem dX6_yearsToBest_24 : decode cX6_yearsToBest 24 = .ok (.aload_n 0, 1) := by decide +kernel
theorem dX6_yearsToBest_25 : decode cX6_yearsToBest 25 = .ok (.iload_n 1, 1) := by decide +kernel
theorem dX6_yearsToBest_26 : decode cX6_yearsToBest 26 = .ok (.aload_n 0, 1) := by decide +kernel
theorem dX6_yearsToBest_27 : decode cX6_yearsToBest 27 = .ok (.getfield 29, 3) := by decide +kernel
theorem dX6_yearsToBest_30 : decode cX6_yearsToBest 30 = .ok (.getfield 91, 3) := by decide +kernel
theorem dX6_yearsToBest_33 : decode cX6_yearsToBest 33 = .ok (.iload_n 2, 1) := by decide +kernel
theorem dX6_yearsToBest_34 : decode cX6_yearsToBest 34 = .ok (.iadd, 1) := by decide +kernel
theorem dX6_yearsToBest_35 : decode cX6_yearsToBest 35 = .ok (.invokevirtual 114, 3) := by decide +kernel
theorem dX6_yearsToBest_38 : decode cX6_yearsToBest 38 = .ok (.if_icmp .le 5, 3) := by decide +kernel
theorem dX6_yearsToBest_41 : decode cX6_yearsToBest 41 = .ok (.iload_n 3, 1) := by decide +kernel
theorem dX6_yearsToBest_42 : decode cX6_yearsToBest 42 = .ok (.istore_n 2, 1) := by decide +kernel
theorem dX6_yearsToBest_43 : decode cX6_yearsToBest 43 = .ok (.iinc 3 1, 3) := by decide +kernel
theorem dX6_yearsToBest_46 : decode cX6_yearsToBest 46 = .ok (.goto (-42), 3) := by decide +kernel
theorem dX6_yearsToBest_49 : decode cX6_yearsToBest 49 = .ok (.iload_n 2, 1) := by decide +kernel
theorem dX6_yearsToBest_50 : decode cX6_yearsToBest 50 = .ok (.ireturn, 1) := by decide +kernel
set_option maxRecDepth 20000 in
theorem ggX6_emptyJars_X1_spoonsOf : GoodIn wsX6_emptyJars wsX1_spoonsOf := goodIn_r _ [7, 8, 21, 22, 23, 24, 25, 26, 27, 28, 29] (by decide +kernel) (by decide +kernel)
set_option maxRecDepth 20000 in
theorem gX6_emptyJars_X1_spoonsOf : GoodIn wsX6_emptyJars (wsV RX6 88 RX1 yX1_spoonsOf wsX1_spoonsOf) := goodIn_app (goodIn_of _ (by decide +kernel)) ggX6_emptyJars_X1_spoonsOf
theorem dX6_emptyJars_0 : decode cX6_emptyJars 0 = .ok (.iconst 0, 1) := by decide +kernel
theorem dX6_emptyJars_1 : decode cX6_emptyJars 1 = .ok (.istore_n 1, 1) := by decide +kernel
theorem dX6_emptyJars_2 : decode cX6_emptyJars 2 = .ok (.iconst 0, 1) := by decide +kernel
theorem dX6_emptyJars_3 : decode cX6_emptyJars 3 = .ok (.istore_n 2, 1) := by decide +kernel
theorem dX6_emptyJars_4 : decode cX6_emptyJars 4 = .ok (.iload_n 2, 1) := by decide +kernel
theorem dX6_emptyJars_5 : decode cX6_emptyJars 5 = .ok (.aload_n 0, 1) := by decide +kernel
theorem dX6_emptyJars_6 : decode cX6_emptyJars 6 = .ok (.getfield 23, 3) := by decide +kernel
theorem dX6_emptyJars_9 : decode cX6_emptyJars 9 = .ok (.if_icmp .ge 23, 3) := by decide +kernel
theorem dX6_emptyJars_12 : decode cX6_emptyJars 12 = .ok (.aload_n 0, 1) := by decide +kernel
theorem dX6_emptyJars_13 : decode cX6_emptyJars 13 = .ok (.getfield 29, 3) := by decide +kernel
theorem dX6_emptyJars_16 : decode cX6_emptyJars 16 = .ok (.iload_n 2, 1) := by decide +kernel
theorem dX6_emptyJars_17 : decode cX6_emptyJars 17 = .ok (.invokevirtual 88, 3) := by decide +kernel
theorem dX6_emptyJars_20 : decode cX6_emptyJars 20 = .ok (.ifCond .ne 6, 3) := by decide +kernel
theorem dX6_emptyJars_23 : decode cX6_emptyJars 23 = .ok (.iinc 1 1, 3) := by decide +kernel
theorem dX6_emptyJars_26 : decode cX6_emptyJars 26 = .ok (.iinc 2 1, 3) := by decide +kernel
theorem dX6_emptyJars_29 : decode cX6_emptyJars 29 = .ok (.goto (-25), 3) := by decide +kernel
theorem dX6_emptyJars_32 : decode cX6_emptyJars 32 = .ok (.iload_n 1, 1) := by decide +kernel
theorem dX6_emptyJars_33 : decode cX6_emptyJars 33 = .ok (.ireturn, 1) := by decide +kernel
set_option maxRecDepth 20000 in
theorem ggX6_fillMost_X6_setMost : GoodIn wsX6_fillMost wsX6_setMost := goodIn_r _ [12, 13, 14, 15, 11, 16, 98, 99, 100, 101, 102, 103, 104, 105, 106, 107, 108, 109] (by decide +kernel) (by decide +kernel)
set_option maxRecDepth 20000 in
theorem gX6_fillMost_X6_setMost : GoodIn wsX6_fillMost (wsV RX6 221 RX6 yX6_setMost wsX6_setMost) := goodIn_app (goodIn_of _ (by decide +kernel)) ggX6_fillMost_X6_setMost
set_option maxRecDepth 20000 in
theorem ggX6_fillMost_X6_nextWorth : GoodIn wsX6_fillMost wsX6_nextWorth := goodIn_r _ [20, 21, 22, 23, 24, 25, 11, 26, 27, 28, 29, 30, 1, 31, 32, 33, 34, 35, 36, 37, 38, 39, 40, 41, 42, 43, 44, 45, 46, 47, 48, 49, 50, 51, 52, 53, 54, 55, 56, 57, 58, 59, 60, 61, 62, 63, 64, 65, 66, 67, 68, 69, 70, 71, 72, 73, 74, 75, 76, 77, 98, 99, 100, 101, 102, 103, 104, 105, 106, 107, 108, 109, 110, 111, 112, 113, 114, 115, 116, 117, 118, 119, 120, 121, 122, 123, 124, 125, 126, 127, 128, 129, 130, 131, 132, 133] (by decide +kernel) (by decide +kernel)
set_option maxRecDepth 20000 in
theorem gX6_fillMost_X6_nextWorth : GoodIn wsX6_fillMost (wsV RX6 97 RX6 yX6_nextWorth wsX6_nextWorth) := goodIn_app (goodIn_of _ (by decide +kernel)) ggX6_fillMost_X6_nextWorth
set_option maxRecDepth 20000 in
theorem ggX6_fillMost_X6_mostFrom : GoodIn wsX6_fillMost wsX6_mostFrom := goodIn_r _ [81, 2, 82, 83, 5, 84, 85, 86, 87, 11, 88, 21, 7, 89, 90, 91, 92, 13, 14, 15, 16, 27, 28, 29, 30, 1, 31, 93, 94, 95, 75, 96, 97, 98, 99, 100, 101, 102, 103, 104, 105, 106, 107, 108, 109, 110, 111, 112, 113, 114, 115, 116, 117, 118] (by decide +kernel) (by decide +kernel)
set_option maxRecDepth 20000 in
theorem gX6_fillMost_X6_mostFrom : GoodIn wsX6_fillMost (wsV RX6 230 RX6 yX6_mostFrom wsX6_mostFrom) := goodIn_app (goodIn_of _ (by decide +kernel)) ggX6_fillMost_X6_mostFrom
theorem dX6_fillMost_0 : decode cX6_fillMost 0 = .ok (.iconst 0, 1) := by decide +kernel
theorem dX6_fillMost_1 : decode cX6_fillMost 1 = .ok (.istore_n 1, 1) := by decide +kernel
theorem dX6_fillMost_2 : decode cX6_fillMost 2 = .ok (.iload_n 1, 1) := by decide +kernel
theorem dX6_fillMost_3 : decode cX6_fillMost 3 = .ok (.bipush 13, 2) := by decide +kernel
theorem dX6_fillMost_5 : decode cX6_fillMost 5 = .ok (.if_icmp .ge 28, 3) := by decide +kernel
theorem dX6_fillMost_8 : decode cX6_fillMost 8 = .ok (.aload_n 0, 1) := by decide +kernel
theorem dX6_fillMost_9 : decode cX6_fillMost 9 = .ok (.aload_n 0, 1) := by decide +kernel
theorem dX6_fillMost_10 : decode cX6_fillMost 10 = .ok (.getfield 23, 3) := by decide +kernel
theorem dX6_fillMost_13 : decode cX6_fillMost 13 = .ok (.iload_n 1, 1) := by decide +kernel
theorem dX6_fillMost_14 : decode cX6_fillMost 14 = .ok (.iload_n 1, 1) := by decide +kernel
theorem dX6_fillMost_15 : decode cX6_fillMost 15 = .ok (.ifCond .ne 7, 3) := by decide +kernel
theorem dX6_fillMost_18 : decode cX6_fillMost 18 = .ok (.iconst 0, 1) := by decide +kernel
theorem dX6_fillMost_19 : decode cX6_fillMost 19 = .ok (.goto 5, 3) := by decide +kernel
theorem dX6_fillMost_22 : decode cX6_fillMost 22 = .ok (.ldc 136, 2) := by decide +kernel
theorem dX6_fillMost_24 : decode cX6_fillMost 24 = .ok (.invokevirtual 221, 3) := by decide +kernel
theorem dX6_fillMost_27 : decode cX6_fillMost 27 = .ok (.iinc 1 1, 3) := by decide +kernel
theorem dX6_fillMost_30 : decode cX6_fillMost 30 = .ok (.goto (-28), 3) := by decide +kernel
theorem dX6_fillMost_33 : decode cX6_fillMost 33 = .ok (.aload_n 0, 1) := by decide +kernel
theorem dX6_fillMost_34 : decode cX6_fillMost 34 = .ok (.getfield 23, 3) := by decide +kernel
theorem dX6_fillMost_37 : decode cX6_fillMost 37 = .ok (.bipush 6, 2) := by decide +kernel
theorem dX6_fillMost_39 : decode cX6_fillMost 39 = .ok (.invokestatic 225, 3) := by decide +kernel
theorem dX6_fillMost_42 : decode cX6_fillMost 42 = .ok (.iconst 1, 1) := by decide +kernel
theorem dX6_fillMost_43 : decode cX6_fillMost 43 = .ok (.isub, 1) := by decide +kernel
theorem dX6_fillMost_44 : decode cX6_fillMost 44 = .ok (.istore_n 1, 1) := by decide +kernel
theorem dX6_fillMost_45 : decode cX6_fillMost 45 = .ok (.iload_n 1, 1) := by decide +kernel
theorem dX6_fillMost_46 : decode cX6_fillMost 46 = .ok (.ifCond .lt 46, 3) := by decide +kernel
theorem dX6_fillMost_49 : decode cX6_fillMost 49 = .ok (.aload_n 0, 1) := by decide +kernel
theorem dX6_fillMost_50 : decode cX6_fillMost 50 = .ok (.getfield 52, 3) := by decide +kernel
theorem dX6_fillMost_53 : decode cX6_fillMost 53 = .ok (.iload_n 1, 1) := by decide +kernel
theorem dX6_fillMost_54 : decode cX6_fillMost 54 = .ok (.aload_n 0, 1) := by decide +kernel
theorem dX6_fillMost_55 : decode cX6_fillMost 55 = .ok (.iload_n 1, 1) := by decide +kernel
theorem dX6_fillMost_56 : decode cX6_fillMost 56 = .ok (.invokevirtual 97, 3) := by decide +kernel
theorem dX6_fillMost_59 : decode cX6_fillMost 59 = .ok (.iastore, 1) := by decide +kernel
theorem dX6_fillMost_60 : decode cX6_fillMost 60 = .ok (.iconst 0, 1) := by decide +kernel
theorem dX6_fillMost_61 : decode cX6_fillMost 61 = .ok (.istore_n 2, 1) := by decide +kernel
theorem dX6_fillMost_62 : decode cX6_fillMost 62 = .ok (.iload_n 2, 1) := by decide +kernel
theorem dX6_fillMost_63 : decode cX6_fillMost 63 = .ok (.bipush 13, 2) := by decide +kernel
theorem dX6_fillMost_65 : decode cX6_fillMost 65 = .ok (.if_icmp .ge 21, 3) := by decide +kernel
theorem dX6_fillMost_68 : decode cX6_fillMost 68 = .ok (.aload_n 0, 1) := by decide +kernel
theorem dX6_fillMost_69 : decode cX6_fillMost 69 = .ok (.iload_n 1, 1) := by decide +kernel
theorem dX6_fillMost_70 : decode cX6_fillMost 70 = .ok (.iload_n 2, 1) := by decide +kernel
theorem dX6_fillMost_71 : decode cX6_fillMost 71 = .ok (.aload_n 0, 1) := by decide +kernel
theorem dX6_fillMost_72 : decode cX6_fillMost 72 = .ok (.iload_n 1, 1) := by decide +kernel
theorem dX6_fillMost_73 : decode cX6_fillMost 73 = .ok (.iload_n 2, 1) := by decide +kernel
theorem dX6_fillMost_74 : decode cX6_fillMost 74 = .ok (.invokevirtual 230, 3) := by decide +kernel
theorem dX6_fillMost_77 : decode cX6_fillMost 77 = .ok (.invokevirtual 221, 3) := by decide +kernel
theorem dX6_fillMost_80 : decode cX6_fillMost 80 = .ok (.iinc 2 1, 3) := by decide +kernel
theorem dX6_fillMost_83 : decode cX6_fillMost 83 = .ok (.goto (-21), 3) := by decide +kernel
theorem dX6_fillMost_86 : decode cX6_fillMost 86 = .ok (.iinc 1 (-1), 3) := by decide +kernel
theorem dX6_fillMost_89 : decode cX6_fillMost 89 = .ok (.goto (-44), 3) := by decide +kernel
theorem dX6_fillMost_92 : decode cX6_fillMost 92 = .ok (.return_, 1) := by decide +kernel
set_option maxRecDepth 20000 in
theorem ggX6_mostFrom_X6_worthWithPick : GoodIn wsX6_mostFrom wsX6_worthWithPick := goodIn_r _ [10, 11, 1, 12, 13, 14, 15, 9, 16, 17, 18, 19, 20, 21, 22, 23, 24, 25, 26, 27, 28, 29, 30, 31, 32, 33, 34, 35, 36, 37, 38, 39, 40, 41, 42, 43, 44, 45, 46, 47, 48, 49, 50, 51, 52, 53] (by decide +kernel) (by decide +kernel)
set_option maxRecDepth 20000 in
theorem gX6_mostFrom_X6_worthWithPick : GoodIn wsX6_mostFrom (wsV RX6 233 RX6 yX6_worthWithPick wsX6_worthWithPick) := goodIn_app (goodIn_of _ (by decide +kernel)) ggX6_mostFrom_X6_worthWithPick
theorem dX6_mostFrom_0 : decode cX6_mostFrom 0 = .ok (.ldc 136, 2) := by decide +kernel
theorem dX6_mostFrom_2 : decode cX6_mostFrom 2 = .ok (.istore_n 3, 1) := by decide +kernel
theorem dX6_mostFrom_3 : decode cX6_mostFrom 3 = .ok (.iconst 0, 1) := by decide +kernel
theorem dX6_mostFrom_4 : decode cX6_mostFrom 4 = .ok (.istore 4, 2) := by decide +kernel
theorem dX6_mostFrom_6 : decode cX6_mostFrom 6 = .ok (.iload 4, 2) := by decide +kernel
theorem dX6_mostFrom_8 : decode cX6_mostFrom 8 = .ok (.iload_n 2, 1) := by decide +kernel
theorem dX6_mostFrom_9 : decode cX6_mostFrom 9 = .ok (.if_icmp .gt 22, 3) := by decide +kernel
theorem dX6_mostFrom_12 : decode cX6_mostFrom 12 = .ok (.iload_n 3, 1) := by decide +kernel
theorem dX6_mostFrom_13 : decode cX6_mostFrom 13 = .ok (.aload_n 0, 1) := by decide +kernel
theorem dX6_mostFrom_14 : decode cX6_mostFrom 14 = .ok (.iload_n 1, 1) := by decide +kernel
theorem dX6_mostFrom_15 : decode cX6_mostFrom 15 = .ok (.iload_n 2, 1) := by decide +kernel
theorem dX6_mostFrom_16 : decode cX6_mostFrom 16 = .ok (.iload 4, 2) := by decide +kernel
theorem dX6_mostFrom_18 : decode cX6_mostFrom 18 = .ok (.invokevirtual 233, 3) := by decide +kernel
theorem dX6_mostFrom_21 : decode cX6_mostFrom 21 = .ok (.invokestatic 237, 3) := by decide +kernel
theorem dX6_mostFrom_24 : decode cX6_mostFrom 24 = .ok (.istore_n 3, 1) := by decide +kernel
theorem dX6_mostFrom_25 : decode cX6_mostFrom 25 = .ok (.iinc 4 1, 3) := by decide +kernel
theorem dX6_mostFrom_28 : decode cX6_mostFrom 28 = .ok (.goto (-22), 3) := by decide +kernel
theorem dX6_mostFrom_31 : decode cX6_mostFrom 31 = .ok (.iload_n 3, 1) := by decide +kernel
theorem dX6_mostFrom_32 : decode cX6_mostFrom 32 = .ok (.ireturn, 1) := by decide +kernel
set_option maxRecDepth 20000 in
theorem ggX6_worthWithPick_X6_mostWorth : GoodIn wsX6_worthWithPick wsX6_mostWorth := goodIn_r _ [8, 9, 2, 10, 11, 7, 12, 25, 26, 27, 28, 29, 30, 31, 32, 33, 34, 35, 36] (by decide +kernel) (by decide +kernel)
set_option maxRecDepth 20000 in
theorem gX6_worthWithPick_X6_mostWorth : GoodIn wsX6_worthWithPick (wsV RX6 133 RX6 yX6_mostWorth wsX6_mostWorth) := goodIn_app (goodIn_of _ (by decide +kernel)) ggX6_worthWithPick_X6_mostWorth
set_option maxRecDepth 20000 in
theorem ggX6_worthWithPick_X6_find : GoodIn wsX6_worthWithPick wsX6_find := goodIn_r _ [16, 17, 18, 25, 26, 27, 28, 29, 30, 31, 32, 33, 34, 35, 36] (by decide +kernel) (by decide +kernel)
set_option maxRecDepth 20000 in
theorem gX6_worthWithPick_X6_find : GoodIn wsX6_worthWithPick (wsV RX6 75 RX6 yX6_find wsX6_find) := goodIn_app (goodIn_of _ (by decide +kernel)) ggX6_worthWithPick_X6_find
set_option maxRecDepth 20000 in
theorem ggX6_worthWithPick_X1_spoonsOf : GoodIn wsX6_worthWithPick wsX1_spoonsOf := goodIn_r _ [23, 24, 37, 38, 39, 40, 41, 42, 43, 44, 45] (by decide +kernel) (by decide +kernel)
set_option maxRecDepth 20000 in
theorem gX6_worthWithPick_X1_spoonsOf : GoodIn wsX6_worthWithPick (wsV RX6 88 RX1 yX1_spoonsOf wsX1_spoonsOf) := goodIn_app (goodIn_of _ (by decide +kernel)) ggX6_worthWithPick_X1_spoonsOf
theorem dX6_worthWithPick_0 : decode cX6_worthWithPick 0 = .ok (.aload_n 0, 1) := by decide +kernel
theorem dX6_worthWithPick_1 : decode cX6_worthWithPick 1 = .ok (.iload_n 1, 1) := by decide +kernel
theorem dX6_worthWithPick_2 : decode cX6_worthWithPick 2 = .ok (.iconst 1, 1) := by decide +kernel
theorem dX6_worthWithPick_3 : decode cX6_worthWithPick 3 = .ok (.iadd, 1) := by decide +kernel
theorem dX6_worthWithPick_4 : decode cX6_worthWithPick 4 = .ok (.iload_n 2, 1) := by decide +kernel
theorem dX6_worthWithPick_5 : decode cX6_worthWithPick 5 = .ok (.iload_n 3, 1) := by decide +kernel
theorem dX6_worthWithPick_6 : decode cX6_worthWithPick 6 = .ok (.isub, 1) := by decide +kernel
theorem dX6_worthWithPick_7 : decode cX6_worthWithPick 7 = .ok (.invokevirtual 133, 3) := by decide +kernel
theorem dX6_worthWithPick_10 : decode cX6_worthWithPick 10 = .ok (.istore 4, 2) := by decide +kernel
theorem dX6_worthWithPick_12 : decode cX6_worthWithPick 12 = .ok (.aload_n 0, 1) := by decide +kernel
theorem dX6_worthWithPick_13 : decode cX6_worthWithPick 13 = .ok (.iload_n 1, 1) := by decide +kernel
theorem dX6_worthWithPick_14 : decode cX6_worthWithPick 14 = .ok (.invokevirtual 75, 3) := by decide +kernel
theorem dX6_worthWithPick_17 : decode cX6_worthWithPick 17 = .ok (.ifnull 22, 3) := by decide +kernel
theorem dX6_worthWithPick_20 : decode cX6_worthWithPick 20 = .ok (.iload_n 3, 1) := by decide +kernel
theorem dX6_worthWithPick_21 : decode cX6_worthWithPick 21 = .ok (.aload_n 0, 1) := by decide +kernel
theorem dX6_worthWithPick_22 : decode cX6_worthWithPick 22 = .ok (.getfield 29, 3) := by decide +kernel
theorem dX6_worthWithPick_25 : decode cX6_worthWithPick 25 = .ok (.iload_n 1, 1) := by decide +kernel
theorem dX6_worthWithPick_26 : decode cX6_worthWithPick 26 = .ok (.invokevirtual 88, 3) := by decide +kernel
theorem dX6_worthWithPick_29 : decode cX6_worthWithPick 29 = .ok (.if_icmp .gt 10, 3) := by decide +kernel
theorem dX6_worthWithPick_32 : decode cX6_worthWithPick 32 = .ok (.iload 4, 2) := by decide +kernel
theorem dX6_worthWithPick_34 : decode cX6_worthWithPick 34 = .ok (.ldc 136, 2) := by decide +kernel
theorem dX6_worthWithPick_36 : decode cX6_worthWithPick 36 = .ok (.if_icmp .ne 6, 3) := by decide +kernel
theorem dX6_worthWithPick_39 : decode cX6_worthWithPick 39 = .ok (.ldc 136, 2) := by decide +kernel
theorem dX6_worthWithPick_41 : decode cX6_worthWithPick 41 = .ok (.ireturn, 1) := by decide +kernel
theorem dX6_worthWithPick_42 : decode cX6_worthWithPick 42 = .ok (.iload_n 3, 1) := by decide +kernel
theorem dX6_worthWithPick_43 : decode cX6_worthWithPick 43 = .ok (.aload_n 0, 1) := by decide +kernel
theorem dX6_worthWithPick_44 : decode cX6_worthWithPick 44 = .ok (.getfield 52, 3) := by decide +kernel
theorem dX6_worthWithPick_47 : decode cX6_worthWithPick 47 = .ok (.iload_n 1, 1) := by decide +kernel
theorem dX6_worthWithPick_48 : decode cX6_worthWithPick 48 = .ok (.iaload, 1) := by decide +kernel
theorem dX6_worthWithPick_49 : decode cX6_worthWithPick 49 = .ok (.imul, 1) := by decide +kernel
theorem dX6_worthWithPick_50 : decode cX6_worthWithPick 50 = .ok (.iload_n 3, 1) := by decide +kernel
theorem dX6_worthWithPick_51 : decode cX6_worthWithPick 51 = .ok (.iload_n 3, 1) := by decide +kernel
theorem dX6_worthWithPick_52 : decode cX6_worthWithPick 52 = .ok (.iconst 1, 1) := by decide +kernel
theorem dX6_worthWithPick_53 : decode cX6_worthWithPick 53 = .ok (.isub, 1) := by decide +kernel
theorem dX6_worthWithPick_54 : decode cX6_worthWithPick 54 = .ok (.imul, 1) := by decide +kernel
theorem dX6_worthWithPick_55 : decode cX6_worthWithPick 55 = .ok (.iconst 2, 1) := by decide +kernel
theorem dX6_worthWithPick_56 : decode cX6_worthWithPick 56 = .ok (.idiv, 1) := by decide +kernel
theorem dX6_worthWithPick_57 : decode cX6_worthWithPick 57 = .ok (.isub, 1) := by decide +kernel
theorem dX6_worthWithPick_58 : decode cX6_worthWithPick 58 = .ok (.iload 4, 2) := by decide +kernel
theorem dX6_worthWithPick_60 : decode cX6_worthWithPick 60 = .ok (.iadd, 1) := by decide +kernel
theorem dX6_worthWithPick_61 : decode cX6_worthWithPick 61 = .ok (.ireturn, 1) := by decide +kernel
set_option maxRecDepth 20000 in
theorem ggX6_pickOf_X6_find : GoodIn wsX6_pickOf wsX6_find := goodIn_r _ [5, 6, 7, 33, 34, 35, 36, 37, 38, 39, 40, 41, 42, 43, 44] (by decide +kernel) (by decide +kernel)
set_option maxRecDepth 20000 in
theorem gX6_pickOf_X6_find : GoodIn wsX6_pickOf (wsV RX6 75 RX6 yX6_find wsX6_find) := goodIn_app (goodIn_of _ (by decide +kernel)) ggX6_pickOf_X6_find
set_option maxRecDepth 20000 in
theorem ggX6_pickOf_X6_fewestPick : GoodIn wsX6_pickOf wsX6_fewestPick := goodIn_r _ [11, 12, 13, 14, 4, 15, 16, 17, 18, 19, 20, 21, 22, 23, 24, 25, 26, 1, 2, 3, 5, 6, 7, 27, 28, 29, 30, 31, 32, 33, 34, 35, 36, 37, 38, 39, 40, 41, 42, 43, 44, 45, 46, 47, 48, 49, 50, 51, 52, 53] (by decide +kernel) (by decide +kernel)
set_option maxRecDepth 20000 in
theorem gX6_pickOf_X6_fewestPick : GoodIn wsX6_pickOf (wsV RX6 240 RX6 yX6_fewestPick wsX6_fewestPick) := goodIn_app (goodIn_of _ (by decide +kernel)) ggX6_pickOf_X6_fewestPick
theorem dX6_pickOf_0 : decode cX6_pickOf 0 = .ok (.aload_n 0, 1) := by decide +kernel
theorem dX6_pickOf_1 : decode cX6_pickOf 1 = .ok (.iload_n 1, 1) := by decide +kernel
theorem dX6_pickOf_2 : decode cX6_pickOf 2 = .ok (.invokevirtual 75, 3) := by decide +kernel
theorem dX6_pickOf_5 : decode cX6_pickOf 5 = .ok (.ifnonnull 5, 3) := by decide +kernel
theorem dX6_pickOf_8 : decode cX6_pickOf 8 = .ok (.iconst (-1), 1) := by decide +kernel
theorem dX6_pickOf_9 : decode cX6_pickOf 9 = .ok (.ireturn, 1) := by decide +kernel
theorem dX6_pickOf_10 : decode cX6_pickOf 10 = .ok (.iload_n 2, 1) := by decide +kernel
theorem dX6_pickOf_11 : decode cX6_pickOf 11 = .ok (.istore_n 3, 1) := by decide +kernel
theorem dX6_pickOf_12 : decode cX6_pickOf 12 = .ok (.iconst 0, 1) := by decide +kernel
theorem dX6_pickOf_13 : decode cX6_pickOf 13 = .ok (.istore 4, 2) := by decide +kernel
theorem dX6_pickOf_15 : decode cX6_pickOf 15 = .ok (.iload 4, 2) := by decide +kernel
theorem dX6_pickOf_17 : decode cX6_pickOf 17 = .ok (.iload_n 1, 1) := by decide +kernel
theorem dX6_pickOf_18 : decode cX6_pickOf 18 = .ok (.if_icmp .ge 19, 3) := by decide +kernel
theorem dX6_pickOf_21 : decode cX6_pickOf 21 = .ok (.iload_n 3, 1) := by decide +kernel
theorem dX6_pickOf_22 : decode cX6_pickOf 22 = .ok (.aload_n 0, 1) := by decide +kernel
theorem dX6_pickOf_23 : decode cX6_pickOf 23 = .ok (.iload 4, 2) := by decide +kernel
theorem dX6_pickOf_25 : decode cX6_pickOf 25 = .ok (.iload_n 3, 1) := by decide +kernel
theorem dX6_pickOf_26 : decode cX6_pickOf 26 = .ok (.invokevirtual 240, 3) := by decide +kernel
theorem dX6_pickOf_29 : decode cX6_pickOf 29 = .ok (.isub, 1) := by decide +kernel
theorem dX6_pickOf_30 : decode cX6_pickOf 30 = .ok (.istore_n 3, 1) := by decide +kernel
theorem dX6_pickOf_31 : decode cX6_pickOf 31 = .ok (.iinc 4 1, 3) := by decide +kernel
theorem dX6_pickOf_34 : decode cX6_pickOf 34 = .ok (.goto (-19), 3) := by decide +kernel
theorem dX6_pickOf_37 : decode cX6_pickOf 37 = .ok (.aload_n 0, 1) := by decide +kernel
theorem dX6_pickOf_38 : decode cX6_pickOf 38 = .ok (.iload_n 1, 1) := by decide +kernel
theorem dX6_pickOf_39 : decode cX6_pickOf 39 = .ok (.iload_n 3, 1) := by decide +kernel
theorem dX6_pickOf_40 : decode cX6_pickOf 40 = .ok (.invokevirtual 240, 3) := by decide +kernel
theorem dX6_pickOf_43 : decode cX6_pickOf 43 = .ok (.ireturn, 1) := by decide +kernel
set_option maxRecDepth 20000 in
theorem ggX6_fewestPick_X6_worthWithPick : GoodIn wsX6_fewestPick wsX6_worthWithPick := goodIn_r _ [5, 6, 7, 8, 9, 10, 11, 4, 12, 13, 14, 15, 16, 17, 18, 19, 20, 21, 22, 23, 24, 25, 26, 27, 28, 29, 30, 31, 32, 33, 34, 35, 36, 37, 38, 39, 40, 41, 42, 43, 44, 45, 46, 47, 48, 49] (by decide +kernel) (by decide +kernel)
set_option maxRecDepth 20000 in
theorem gX6_fewestPick_X6_worthWithPick : GoodIn wsX6_fewestPick (wsV RX6 233 RX6 yX6_worthWithPick wsX6_worthWithPick) := goodIn_app (goodIn_of _ (by decide +kernel)) ggX6_fewestPick_X6_worthWithPick
set_option maxRecDepth 20000 in
theorem ggX6_fewestPick_X6_mostWorth : GoodIn wsX6_fewestPick wsX6_mostWorth := goodIn_r _ [12, 13, 7, 14, 15, 4, 16, 29, 30, 31, 32, 33, 34, 35, 36, 37, 38, 39, 40] (by decide +kernel) (by decide +kernel)
set_option maxRecDepth 20000 in
theorem gX6_fewestPick_X6_mostWorth : GoodIn wsX6_fewestPick (wsV RX6 133 RX6 yX6_mostWorth wsX6_mostWorth) := goodIn_app (goodIn_of _ (by decide +kernel)) ggX6_fewestPick_X6_mostWorth
theorem dX6_fewestPick_0 : decode cX6_fewestPick 0 = .ok (.iconst 0, 1) := by decide +kernel
theorem dX6_fewestPick_1 : decode cX6_fewestPick 1 = .ok (.istore_n 3, 1) := by decide +kernel
theorem dX6_fewestPick_2 : decode cX6_fewestPick 2 = .ok (.iload_n 3, 1) := by decide +kernel
theorem dX6_fewestPick_3 : decode cX6_fewestPick 3 = .ok (.iload_n 2, 1) := by decide +kernel
theorem dX6_fewestPick_4 : decode cX6_fewestPick 4 = .ok (.if_icmp .ge 27, 3) := by decide +kernel
theorem dX6_fewestPick_7 : decode cX6_fewestPick 7 = .ok (.aload_n 0, 1) := by decide +kernel
theorem dX6_fewestPick_8 : decode cX6_fewestPick 8 = .ok (.iload_n 1, 1) := by decide +kernel
theorem dX6_fewestPick_9 : decode cX6_fewestPick 9 = .ok (.iload_n 2, 1) := by decide +kernel
theorem dX6_fewestPick_10 : decode cX6_fewestPick 10 = .ok (.iload_n 3, 1) := by decide +kernel
theorem dX6_fewestPick_11 : decode cX6_fewestPick 11 = .ok (.invokevirtual 233, 3) := by decide +kernel
theorem dX6_fewestPick_14 : decode cX6_fewestPick 14 = .ok (.aload_n 0, 1) := by decide +kernel
theorem dX6_fewestPick_15 : decode cX6_fewestPick 15 = .ok (.iload_n 1, 1) := by decide +kernel
theorem dX6_fewestPick_16 : decode cX6_fewestPick 16 = .ok (.iload_n 2, 1) := by decide +kernel
theorem dX6_fewestPick_17 : decode cX6_fewestPick 17 = .ok (.invokevirtual 133, 3) := by decide +kernel
theorem dX6_fewestPick_20 : decode cX6_fewestPick 20 = .ok (.if_icmp .ne 5, 3) := by decide +kernel
theorem dX6_fewestPick_23 : decode cX6_fewestPick 23 = .ok (.iload_n 3, 1) := by decide +kernel
theorem dX6_fewestPick_24 : decode cX6_fewestPick 24 = .ok (.ireturn, 1) := by decide +kernel
theorem dX6_fewestPick_25 : decode cX6_fewestPick 25 = .ok (.iinc 3 1, 3) := by decide +kernel
theorem dX6_fewestPick_28 : decode cX6_fewestPick 28 = .ok (.goto (-26), 3) := by decide +kernel
theorem dX6_fewestPick_31 : decode cX6_fewestPick 31 = .ok (.iload_n 2, 1) := by decide +kernel
theorem dX6_fewestPick_32 : decode cX6_fewestPick 32 = .ok (.ireturn, 1) := by decide +kernel
theorem dX6_isInMost_0 : decode cX6_isInMost 0 = .ok (.iload_n 0, 1) := by decide +kernel
theorem dX6_isInMost_1 : decode cX6_isInMost 1 = .ok (.ifCond .lt 23, 3) := by decide +kernel
theorem dX6_isInMost_4 : decode cX6_isInMost 4 = .ok (.iload_n 0, 1) := by decide +kernel
theorem dX6_isInMost_5 : decode cX6_isInMost 5 = .ok (.bipush 6, 2) := by decide +kernel
theorem dX6_isInMost_7 : decode cX6_isInMost 7 = .ok (.if_icmp .gt 17, 3) := by decide +kernel
theorem dX6_isInMost_10 : decode cX6_isInMost 10 = .ok (.iload_n 1, 1) := by decide +kernel
theorem dX6_isInMost_11 : decode cX6_isInMost 11 = .ok (.ifCond .lt 13, 3) := by decide +kernel
theorem dX6_isInMost_14 : decode cX6_isInMost 14 = .ok (.iload_n 1, 1) := by decide +kernel
theorem dX6_isInMost_15 : decode cX6_isInMost 15 = .ok (.bipush 13, 2) := by decide +kernel
theorem dX6_isInMost_17 : decode cX6_isInMost 17 = .ok (.if_icmp .ge 7, 3) := by decide +kernel
theorem dX6_isInMost_20 : decode cX6_isInMost 20 = .ok (.iconst 1, 1) := by decide +kernel
theorem dX6_isInMost_21 : decode cX6_isInMost 21 = .ok (.goto 4, 3) := by decide +kernel
theorem dX6_isInMost_24 : decode cX6_isInMost 24 = .ok (.iconst 0, 1) := by decide +kernel
theorem dX6_isInMost_25 : decode cX6_isInMost 25 = .ok (.ireturn, 1) := by decide +kernel
set_option maxRecDepth 20000 in
theorem ggX6_mostWorth_X6_isInMost : GoodIn wsX6_mostWorth wsX6_isInMost := goodIn_r _ [6] (by decide +kernel) (by decide +kernel)
set_option maxRecDepth 20000 in
theorem gX6_mostWorth_X6_isInMost : GoodIn wsX6_mostWorth (va_wsS RX6 243 yX6_isInMost wsX6_isInMost) := goodIn_app (goodIn_of _ (by decide +kernel)) ggX6_mostWorth_X6_isInMost
theorem dX6_mostWorth_0 : decode cX6_mostWorth 0 = .ok (.iload_n 1, 1) := by decide +kernel
theorem dX6_mostWorth_1 : decode cX6_mostWorth 1 = .ok (.iload_n 2, 1) := by decide +kernel
theorem dX6_mostWorth_2 : decode cX6_mostWorth 2 = .ok (.invokestatic 243, 3) := by decide +kernel
theorem dX6_mostWorth_5 : decode cX6_mostWorth 5 = .ok (.ifCond .eq 17, 3) := by decide +kernel
theorem dX6_mostWorth_8 : decode cX6_mostWorth 8 = .ok (.aload_n 0, 1) := by decide +kernel
theorem dX6_mostWorth_9 : decode cX6_mostWorth 9 = .ok (.getfield 49, 3) := by decide +kernel
theorem dX6_mostWorth_12 : decode cX6_mostWorth 12 = .ok (.iload_n 1, 1) := by decide +kernel
theorem dX6_mostWorth_13 : decode cX6_mostWorth 13 = .ok (.bipush 13, 2) := by decide +kernel
theorem dX6_mostWorth_15 : decode cX6_mostWorth 15 = .ok (.imul, 1) := by decide +kernel
theorem dX6_mostWorth_16 : decode cX6_mostWorth 16 = .ok (.iload_n 2, 1) := by decide +kernel
theorem dX6_mostWorth_17 : decode cX6_mostWorth 17 = .ok (.iadd, 1) := by decide +kernel
theorem dX6_mostWorth_18 : decode cX6_mostWorth 18 = .ok (.iaload, 1) := by decide +kernel
theorem dX6_mostWorth_19 : decode cX6_mostWorth 19 = .ok (.goto 5, 3) := by decide +kernel
theorem dX6_mostWorth_22 : decode cX6_mostWorth 22 = .ok (.ldc 136, 2) := by decide +kernel
theorem dX6_mostWorth_24 : decode cX6_mostWorth 24 = .ok (.ireturn, 1) := by decide +kernel
set_option maxRecDepth 20000 in
theorem ggX6_setMost_X6_isInMost : GoodIn wsX6_setMost wsX6_isInMost := goodIn_r _ [5] (by decide +kernel) (by decide +kernel)
set_option maxRecDepth 20000 in
theorem gX6_setMost_X6_isInMost : GoodIn wsX6_setMost (va_wsS RX6 243 yX6_isInMost wsX6_isInMost) := goodIn_app (goodIn_of _ (by decide +kernel)) ggX6_setMost_X6_isInMost
theorem dX6_setMost_0 : decode cX6_setMost 0 = .ok (.iload_n 1, 1) := by decide +kernel
theorem dX6_setMost_1 : decode cX6_setMost 1 = .ok (.iload_n 2, 1) := by decide +kernel
theorem dX6_setMost_2 : decode cX6_setMost 2 = .ok (.invokestatic 243, 3) := by decide +kernel
theorem dX6_setMost_5 : decode cX6_setMost 5 = .ok (.ifCond .eq 15, 3) := by decide +kernel
theorem dX6_setMost_8 : decode cX6_setMost 8 = .ok (.aload_n 0, 1) := by decide +kernel
theorem dX6_setMost_9 : decode cX6_setMost 9 = .ok (.getfield 49, 3) := by decide +kernel
theorem dX6_setMost_12 : decode cX6_setMost 12 = .ok (.iload_n 1, 1) := by decide +kernel
theorem dX6_setMost_13 : decode cX6_setMost 13 = .ok (.bipush 13, 2) := by decide +kernel
theorem dX6_setMost_15 : decode cX6_setMost 15 = .ok (.imul, 1) := by decide +kernel
theorem dX6_setMost_16 : decode cX6_setMost 16 = .ok (.iload_n 2, 1) := by decide +kernel
theorem dX6_setMost_17 : decode cX6_setMost 17 = .ok (.iadd, 1) := by decide +kernel
theorem dX6_setMost_18 : decode cX6_setMost 18 = .ok (.iload_n 3, 1) := by decide +kernel
theorem dX6_setMost_19 : decode cX6_setMost 19 = .ok (.iastore, 1) := by decide +kernel
theorem dX6_setMost_20 : decode cX6_setMost 20 = .ok (.return_, 1) := by decide +kernel
set_option maxRecDepth 20000 in
theorem ggX6_candidates_X6_agreesWithTastes : GoodIn wsX6_candidates wsX6_agreesWithTastes := goodIn_r _ [6, 7, 8, 9, 10, 11, 12, 13, 5, 14, 15, 16, 17, 18, 1, 19, 20, 21, 22, 23, 24, 25, 26, 27, 28, 29, 30, 31, 32, 33, 34, 35, 36, 37, 38, 39, 40, 41, 42, 43, 44, 45, 46, 47, 48, 49, 50, 51, 52, 53, 54, 55, 56, 57, 58, 59, 60, 61, 62, 63, 64, 65, 66, 67, 68, 69, 70, 71, 72, 73, 74, 75, 76, 77, 78, 79, 80, 81, 82, 83, 84, 85, 86, 87, 88, 89, 90, 91, 92, 93, 94, 95] (by decide +kernel) (by decide +kernel)
set_option maxRecDepth 20000 in
theorem gX6_candidates_X6_agreesWithTastes : GoodIn wsX6_candidates (wsV RX6 246 RX6 yX6_agreesWithTastes wsX6_agreesWithTastes) := goodIn_app (goodIn_of _ (by decide +kernel)) ggX6_candidates_X6_agreesWithTastes
theorem dX6_candidates_0 : decode cX6_candidates 0 = .ok (.iconst 0, 1) := by decide +kernel
theorem dX6_candidates_1 : decode cX6_candidates 1 = .ok (.istore_n 1, 1) := by decide +kernel
theorem dX6_candidates_2 : decode cX6_candidates 2 = .ok (.iconst 0, 1) := by decide +kernel
theorem dX6_candidates_3 : decode cX6_candidates 3 = .ok (.istore_n 2, 1) := by decide +kernel
theorem dX6_candidates_4 : decode cX6_candidates 4 = .ok (.iload_n 2, 1) := by decide +kernel
theorem dX6_candidates_5 : decode cX6_candidates 5 = .ok (.aload_n 0, 1) := by decide +kernel
theorem dX6_candidates_6 : decode cX6_candidates 6 = .ok (.getfield 23, 3) := by decide +kernel
theorem dX6_candidates_9 : decode cX6_candidates 9 = .ok (.if_icmp .ge 23, 3) := by decide +kernel
theorem dX6_candidates_12 : decode cX6_candidates 12 = .ok (.aload_n 0, 1) := by decide +kernel
theorem dX6_candidates_13 : decode cX6_candidates 13 = .ok (.iload_n 2, 1) := by decide +kernel
theorem dX6_candidates_14 : decode cX6_candidates 14 = .ok (.invokevirtual 246, 3) := by decide +kernel
theorem dX6_candidates_17 : decode cX6_candidates 17 = .ok (.ifCond .eq 9, 3) := by decide +kernel
theorem dX6_candidates_20 : decode cX6_candidates 20 = .ok (.iload_n 1, 1) := by decide +kernel
theorem dX6_candidates_21 : decode cX6_candidates 21 = .ok (.iconst 1, 1) := by decide +kernel
theorem dX6_candidates_22 : decode cX6_candidates 22 = .ok (.iload_n 2, 1) := by decide +kernel
theorem dX6_candidates_23 : decode cX6_candidates 23 = .ok (.ishl, 1) := by decide +kernel
theorem dX6_candidates_24 : decode cX6_candidates 24 = .ok (.ior, 1) := by decide +kernel
theorem dX6_candidates_25 : decode cX6_candidates 25 = .ok (.istore_n 1, 1) := by decide +kernel
theorem dX6_candidates_26 : decode cX6_candidates 26 = .ok (.iinc 2 1, 3) := by decide +kernel
theorem dX6_candidates_29 : decode cX6_candidates 29 = .ok (.goto (-25), 3) := by decide +kernel
theorem dX6_candidates_32 : decode cX6_candidates 32 = .ok (.iload_n 1, 1) := by decide +kernel
theorem dX6_candidates_33 : decode cX6_candidates 33 = .ok (.ireturn, 1) := by decide +kernel
set_option maxRecDepth 20000 in
theorem ggX6_agreesWithTastes_X6_firstWorth : GoodIn wsX6_agreesWithTastes wsX6_firstWorth := goodIn_r _ [9, 10, 11, 12, 8, 13, 14, 15, 16, 17, 18, 19, 20, 21, 22, 23, 24, 25, 26, 27, 28, 29, 30, 31, 32, 33, 34, 35, 36, 37, 38, 39, 40, 41, 42, 43, 44, 45, 46, 47, 48, 49, 50, 51, 52, 53, 54, 55, 56, 57, 58, 59, 60, 61, 62, 63, 64, 65, 66, 67, 77, 78, 79, 80, 81, 82, 83, 84, 85, 86, 87, 88, 89, 90, 91] (by decide +kernel) (by decide +kernel)
set_option maxRecDepth 20000 in
theorem gX6_agreesWithTastes_X6_firstWorth : GoodIn wsX6_agreesWithTastes (wsV RX6 114 RX6 yX6_firstWorth wsX6_firstWorth) := goodIn_app (goodIn_of _ (by decide +kernel)) ggX6_agreesWithTastes_X6_firstWorth
theorem dX6_agreesWithTastes_0 : decode cX6_agreesWithTastes 0 = .ok (.iconst 0, 1) := by decide +kernel
theorem dX6_agreesWithTastes_1 : decode cX6_agreesWithTastes 1 = .ok (.istore_n 2, 1) := by decide +kernel
theorem dX6_agreesWithTastes_2 : decode cX6_agreesWithTastes 2 = .ok (.iload_n 2, 1) := by decide +kernel
theorem dX6_agreesWithTastes_3 : decode cX6_agreesWithTastes 3 = .ok (.aload_n 0, 1) := by decide +kernel
theorem dX6_agreesWithTastes_4 : decode cX6_agreesWithTastes 4 = .ok (.getfield 29, 3) := by decide +kernel
theorem dX6_agreesWithTastes_7 : decode cX6_agreesWithTastes 7 = .ok (.getfield 143, 3) := by decide +kernel
theorem dX6_agreesWithTastes_10 : decode cX6_agreesWithTastes 10 = .ok (.if_icmp .ge 43, 3) := by decide +kernel
theorem dX6_agreesWithTastes_13 : decode cX6_agreesWithTastes 13 = .ok (.iload_n 2, 1) := by decide +kernel
theorem dX6_agreesWithTastes_14 : decode cX6_agreesWithTastes 14 = .ok (.bipush 6, 2) := by decide +kernel
theorem dX6_agreesWithTastes_16 : decode cX6_agreesWithTastes 16 = .ok (.if_icmp .ge 37, 3) := by decide +kernel
theorem dX6_agreesWithTastes_19 : decode cX6_agreesWithTastes 19 = .ok (.aload_n 0, 1) := by decide +kernel
theorem dX6_agreesWithTastes_20 : decode cX6_agreesWithTastes 20 = .ok (.iload_n 1, 1) := by decide +kernel
theorem dX6_agreesWithTastes_21 : decode cX6_agreesWithTastes 21 = .ok (.aload_n 0, 1) := by decide +kernel
theorem dX6_agreesWithTastes_22 : decode cX6_agreesWithTastes 22 = .ok (.getfield 29, 3) := by decide +kernel
theorem dX6_agreesWithTastes_25 : decode cX6_agreesWithTastes 25 = .ok (.getfield 249, 3) := by decide +kernel
theorem dX6_agreesWithTastes_28 : decode cX6_agreesWithTastes 28 = .ok (.iload_n 2, 1) := by decide +kernel
theorem dX6_agreesWithTastes_29 : decode cX6_agreesWithTastes 29 = .ok (.iaload, 1) := by decide +kernel
theorem dX6_agreesWithTastes_30 : decode cX6_agreesWithTastes 30 = .ok (.invokevirtual 114, 3) := by decide +kernel
theorem dX6_agreesWithTastes_33 : decode cX6_agreesWithTastes 33 = .ok (.aload_n 0, 1) := by decide +kernel
theorem dX6_agreesWithTastes_34 : decode cX6_agreesWithTastes 34 = .ok (.getfield 29, 3) := by decide +kernel
theorem dX6_agreesWithTastes_37 : decode cX6_agreesWithTastes 37 = .ok (.getfield 252, 3) := by decide +kernel
theorem dX6_agreesWithTastes_40 : decode cX6_agreesWithTastes 40 = .ok (.iload_n 2, 1) := by decide +kernel
theorem dX6_agreesWithTastes_41 : decode cX6_agreesWithTastes 41 = .ok (.iaload, 1) := by decide +kernel
theorem dX6_agreesWithTastes_42 : decode cX6_agreesWithTastes 42 = .ok (.if_icmp .eq 5, 3) := by decide +kernel
theorem dX6_agreesWithTastes_45 : decode cX6_agreesWithTastes 45 = .ok (.iconst 0, 1) := by decide +kernel
theorem dX6_agreesWithTastes_46 : decode cX6_agreesWithTastes 46 = .ok (.ireturn, 1) := by decide +kernel
theorem dX6_agreesWithTastes_47 : decode cX6_agreesWithTastes 47 = .ok (.iinc 2 1, 3) := by decide +kernel
theorem dX6_agreesWithTastes_50 : decode cX6_agreesWithTastes 50 = .ok (.goto (-48), 3) := by decide +kernel
theorem dX6_agreesWithTastes_53 : decode cX6_agreesWithTastes 53 = .ok (.iconst 1, 1) := by decide +kernel
theorem dX6_agreesWithTastes_54 : decode cX6_agreesWithTastes 54 = .ok (.ireturn, 1) := by decide +kernel
set_option maxRecDepth 20000 in
theorem ggX6_leftAtWorst_X6_isOpen : GoodIn wsX6_leftAtWorst wsX6_isOpen := goodIn_r _ [9] (by decide +kernel) (by decide +kernel)
set_option maxRecDepth 20000 in
theorem gX6_leftAtWorst_X6_isOpen : GoodIn wsX6_leftAtWorst (va_wsS RX6 255 yX6_isOpen wsX6_isOpen) := goodIn_app (goodIn_of _ (by decide +kernel)) ggX6_leftAtWorst_X6_isOpen
set_option maxRecDepth 20000 in
theorem ggX6_leftAtWorst_X6_openJarsLike : GoodIn wsX6_leftAtWorst wsX6_openJarsLike := goodIn_r _ [13, 1, 6, 7, 8, 9, 14, 15, 16, 17, 18, 19, 20, 21, 22, 23, 24, 25, 26, 27, 28, 29, 30, 31, 32, 33, 34, 35, 36, 37, 38, 39, 40, 41, 42, 43, 44, 45, 46, 47, 48, 49, 50, 51, 52, 53, 54, 55, 56, 57, 58, 59, 60, 61, 62, 63, 64, 65, 66, 67, 68, 69, 70, 71, 72, 73, 74, 75, 76, 77, 78, 79, 80, 81, 82, 83, 84, 85, 86, 87, 88, 89] (by decide +kernel) (by decide +kernel)
set_option maxRecDepth 20000 in
theorem gX6_leftAtWorst_X6_openJarsLike : GoodIn wsX6_leftAtWorst (wsV RX6 258 RX6 yX6_openJarsLike wsX6_openJarsLike) := goodIn_app (goodIn_of _ (by decide +kernel)) ggX6_leftAtWorst_X6_openJarsLike
theorem dX6_leftAtWorst_0 : decode cX6_leftAtWorst 0 = .ok (.iconst 0, 1) := by decide +kernel
theorem dX6_leftAtWorst_1 : decode cX6_leftAtWorst 1 = .ok (.istore_n 3, 1) := by decide +kernel
theorem dX6_leftAtWorst_2 : decode cX6_leftAtWorst 2 = .ok (.iconst 0, 1) := by decide +kernel
theorem dX6_leftAtWorst_3 : decode cX6_leftAtWorst 3 = .ok (.istore 4, 2) := by decide +kernel
theorem dX6_leftAtWorst_5 : decode cX6_leftAtWorst 5 = .ok (.iload 4, 2) := by decide +kernel
theorem dX6_leftAtWorst_7 : decode cX6_leftAtWorst 7 = .ok (.aload_n 0, 1) := by decide +kernel
theorem dX6_leftAtWorst_8 : decode cX6_leftAtWorst 8 = .ok (.getfield 23, 3) := by decide +kernel
theorem dX6_leftAtWorst_11 : decode cX6_leftAtWorst 11 = .ok (.if_icmp .ge 31, 3) := by decide +kernel
theorem dX6_leftAtWorst_14 : decode cX6_leftAtWorst 14 = .ok (.iload_n 1, 1) := by decide +kernel
theorem dX6_leftAtWorst_15 : decode cX6_leftAtWorst 15 = .ok (.iload 4, 2) := by decide +kernel
theorem dX6_leftAtWorst_17 : decode cX6_leftAtWorst 17 = .ok (.invokestatic 255, 3) := by decide +kernel
theorem dX6_leftAtWorst_20 : decode cX6_leftAtWorst 20 = .ok (.ifCond .eq 16, 3) := by decide +kernel
theorem dX6_leftAtWorst_23 : decode cX6_leftAtWorst 23 = .ok (.iload_n 3, 1) := by decide +kernel
theorem dX6_leftAtWorst_24 : decode cX6_leftAtWorst 24 = .ok (.aload_n 0, 1) := by decide +kernel
theorem dX6_leftAtWorst_25 : decode cX6_leftAtWorst 25 = .ok (.iload 4, 2) := by decide +kernel
theorem dX6_leftAtWorst_27 : decode cX6_leftAtWorst 27 = .ok (.iload_n 1, 1) := by decide +kernel
theorem dX6_leftAtWorst_28 : decode cX6_leftAtWorst 28 = .ok (.iload_n 2, 1) := by decide +kernel
theorem dX6_leftAtWorst_29 : decode cX6_leftAtWorst 29 = .ok (.invokevirtual 258, 3) := by decide +kernel
theorem dX6_leftAtWorst_32 : decode cX6_leftAtWorst 32 = .ok (.invokestatic 237, 3) := by decide +kernel
theorem dX6_leftAtWorst_35 : decode cX6_leftAtWorst 35 = .ok (.istore_n 3, 1) := by decide +kernel
theorem dX6_leftAtWorst_36 : decode cX6_leftAtWorst 36 = .ok (.iinc 4 1, 3) := by decide +kernel
theorem dX6_leftAtWorst_39 : decode cX6_leftAtWorst 39 = .ok (.goto (-34), 3) := by decide +kernel
theorem dX6_leftAtWorst_42 : decode cX6_leftAtWorst 42 = .ok (.iload_n 3, 1) := by decide +kernel
theorem dX6_leftAtWorst_43 : decode cX6_leftAtWorst 43 = .ok (.ireturn, 1) := by decide +kernel
set_option maxRecDepth 20000 in
theorem ggX6_openJarsLike_X6_isOpen : GoodIn wsX6_openJarsLike wsX6_isOpen := goodIn_r _ [5] (by decide +kernel) (by decide +kernel)
set_option maxRecDepth 20000 in
theorem gX6_openJarsLike_X6_isOpen : GoodIn wsX6_openJarsLike (va_wsS RX6 255 yX6_isOpen wsX6_isOpen) := goodIn_app (goodIn_of _ (by decide +kernel)) ggX6_openJarsLike_X6_isOpen
set_option maxRecDepth 20000 in
theorem ggX6_openJarsLike_X6_firstWorth : GoodIn wsX6_openJarsLike wsX6_firstWorth := goodIn_r _ [9, 10, 11, 12, 4, 13, 1, 14, 15, 16, 17, 18, 19, 20, 21, 22, 23, 24, 25, 26, 27, 28, 29, 30, 31, 32, 33, 34, 35, 36, 37, 38, 39, 40, 41, 42, 43, 44, 45, 46, 47, 48, 49, 50, 51, 52, 53, 54, 55, 56, 57, 58, 59, 60, 61, 62, 63, 64, 65, 66, 67, 68, 69, 70, 71, 72, 73, 74, 75, 76, 77, 78, 79, 80, 81] (by decide +kernel) (by decide +kernel)
set_option maxRecDepth 20000 in
theorem gX6_openJarsLike_X6_firstWorth : GoodIn wsX6_openJarsLike (wsV RX6 114 RX6 yX6_firstWorth wsX6_firstWorth) := goodIn_app (goodIn_of _ (by decide +kernel)) ggX6_openJarsLike_X6_firstWorth
theorem dX6_openJarsLike_0 : decode cX6_openJarsLike 0 = .ok (.iconst 0, 1) := by decide +kernel
theorem dX6_openJarsLike_1 : decode cX6_openJarsLike 1 = .ok (.istore 4, 2) := by decide +kernel
theorem dX6_openJarsLike_3 : decode cX6_openJarsLike 3 = .ok (.iconst 0, 1) := by decide +kernel
theorem dX6_openJarsLike_4 : decode cX6_openJarsLike 4 = .ok (.istore 5, 2) := by decide +kernel
theorem dX6_openJarsLike_6 : decode cX6_openJarsLike 6 = .ok (.iload 5, 2) := by decide +kernel
theorem dX6_openJarsLike_8 : decode cX6_openJarsLike 8 = .ok (.aload_n 0, 1) := by decide +kernel
theorem dX6_openJarsLike_9 : decode cX6_openJarsLike 9 = .ok (.getfield 23, 3) := by decide +kernel
theorem dX6_openJarsLike_12 : decode cX6_openJarsLike 12 = .ok (.if_icmp .ge 37, 3) := by decide +kernel
theorem dX6_openJarsLike_15 : decode cX6_openJarsLike 15 = .ok (.iload_n 2, 1) := by decide +kernel
theorem dX6_openJarsLike_16 : decode cX6_openJarsLike 16 = .ok (.iload 5, 2) := by decide +kernel
theorem dX6_openJarsLike_18 : decode cX6_openJarsLike 18 = .ok (.invokestatic 255, 3) := by decide +kernel
theorem dX6_openJarsLike_21 : decode cX6_openJarsLike 21 = .ok (.ifCond .eq 22, 3) := by decide +kernel
theorem dX6_openJarsLike_24 : decode cX6_openJarsLike 24 = .ok (.aload_n 0, 1) := by decide +kernel
theorem dX6_openJarsLike_25 : decode cX6_openJarsLike 25 = .ok (.iload 5, 2) := by decide +kernel
theorem dX6_openJarsLike_27 : decode cX6_openJarsLike 27 = .ok (.iload_n 3, 1) := by decide +kernel
theorem dX6_openJarsLike_28 : decode cX6_openJarsLike 28 = .ok (.invokevirtual 114, 3) := by decide +kernel
theorem dX6_openJarsLike_31 : decode cX6_openJarsLike 31 = .ok (.aload_n 0, 1) := by decide +kernel
theorem dX6_openJarsLike_32 : decode cX6_openJarsLike 32 = .ok (.iload_n 1, 1) := by decide +kernel
theorem dX6_openJarsLike_33 : decode cX6_openJarsLike 33 = .ok (.iload_n 3, 1) := by decide +kernel
theorem dX6_openJarsLike_34 : decode cX6_openJarsLike 34 = .ok (.invokevirtual 114, 3) := by decide +kernel
theorem dX6_openJarsLike_37 : decode cX6_openJarsLike 37 = .ok (.if_icmp .ne 6, 3) := by decide +kernel
theorem dX6_openJarsLike_40 : decode cX6_openJarsLike 40 = .ok (.iinc 4 1, 3) := by decide +kernel
theorem dX6_openJarsLike_43 : decode cX6_openJarsLike 43 = .ok (.iinc 5 1, 3) := by decide +kernel
theorem dX6_openJarsLike_46 : decode cX6_openJarsLike 46 = .ok (.goto (-40), 3) := by decide +kernel
theorem dX6_openJarsLike_49 : decode cX6_openJarsLike 49 = .ok (.iload 4, 2) := by decide +kernel
theorem dX6_openJarsLike_51 : decode cX6_openJarsLike 51 = .ok (.ireturn, 1) := by decide +kernel
theorem dX6_isOpen_0 : decode cX6_isOpen 0 = .ok (.iload_n 0, 1) := by decide +kernel
theorem dX6_isOpen_1 : decode cX6_isOpen 1 = .ok (.iload_n 1, 1) := by decide +kernel
theorem dX6_isOpen_2 : decode cX6_isOpen 2 = .ok (.ishr, 1) := by decide +kernel
theorem dX6_isOpen_3 : decode cX6_isOpen 3 = .ok (.iconst 1, 1) := by decide +kernel
theorem dX6_isOpen_4 : decode cX6_isOpen 4 = .ok (.iand, 1) := by decide +kernel
theorem dX6_isOpen_5 : decode cX6_isOpen 5 = .ok (.iconst 1, 1) := by decide +kernel
theorem dX6_isOpen_6 : decode cX6_isOpen 6 = .ok (.if_icmp .ne 7, 3) := by decide +kernel
theorem dX6_isOpen_9 : decode cX6_isOpen 9 = .ok (.iconst 1, 1) := by decide +kernel
theorem dX6_isOpen_10 : decode cX6_isOpen 10 = .ok (.goto 4, 3) := by decide +kernel
theorem dX6_isOpen_13 : decode cX6_isOpen 13 = .ok (.iconst 0, 1) := by decide +kernel
theorem dX6_isOpen_14 : decode cX6_isOpen 14 = .ok (.ireturn, 1) := by decide +kernel
set_option maxRecDepth 20000 in
theorem ggX6_liveOn_X1_copyFrom : GoodIn wsX6_liveOn wsX1_copyFrom := goodIn_r _ [8, 9, 10, 11, 12, 13, 14, 15, 16, 17, 112, 113, 114, 115, 116, 117, 118, 119, 120] (by decide +kernel) (by decide +kernel)
set_option maxRecDepth 20000 in
theorem gX6_liveOn_X1_copyFrom : GoodIn wsX6_liveOn (wsV RX6 161 RX1 yX1_copyFrom wsX1_copyFrom) := goodIn_app (goodIn_of _ (by decide +kernel)) ggX6_liveOn_X1_copyFrom
set_option maxRecDepth 20000 in
theorem ggX6_liveOn_X6_nextSeed : GoodIn wsX6_liveOn wsX6_nextSeed := goodIn_r _ [21, 22, 23, 24] (by decide +kernel) (by decide +kernel)
set_option maxRecDepth 20000 in
theorem gX6_liveOn_X6_nextSeed : GoodIn wsX6_liveOn (va_wsS RX6 261 yX6_nextSeed wsX6_nextSeed) := goodIn_app (goodIn_of _ (by decide +kernel)) ggX6_liveOn_X6_nextSeed
set_option maxRecDepth 20000 in
theorem ggX6_liveOn_X6_draw : GoodIn wsX6_liveOn wsX6_draw := goodIn_r _ [28, 29, 30, 100, 101, 102, 103, 104, 105, 106, 107, 108, 109, 110, 111] (by decide +kernel) (by decide +kernel)
set_option maxRecDepth 20000 in
theorem gX6_liveOn_X6_draw : GoodIn wsX6_liveOn (wsV RX6 264 RX6 yX6_draw wsX6_draw) := goodIn_app (goodIn_of _ (by decide +kernel)) ggX6_liveOn_X6_draw
set_option maxRecDepth 20000 in
theorem ggX6_liveOn_X1_loseSpoon : GoodIn wsX6_liveOn wsX1_loseSpoon := goodIn_r _ [34, 14, 11, 35, 36, 37, 7, 38, 112, 113, 114, 115, 116, 117, 118, 119, 120] (by decide +kernel) (by decide +kernel)
set_option maxRecDepth 20000 in
theorem gX6_liveOn_X1_loseSpoon : GoodIn wsX6_liveOn (wsV RX6 121 RX1 yX1_loseSpoon wsX1_loseSpoon) := goodIn_app (goodIn_of _ (by decide +kernel)) ggX6_liveOn_X1_loseSpoon
set_option maxRecDepth 20000 in
theorem ggX6_liveOn_X6_firstWorth : GoodIn wsX6_liveOn wsX6_firstWorth := goodIn_r _ [42, 43, 44, 45, 20, 46, 29, 47, 48, 49, 50, 51, 52, 53, 54, 55, 56, 57, 58, 59, 60, 61, 62, 63, 64, 65, 66, 67, 68, 69, 70, 71, 72, 73, 74, 75, 76, 77, 78, 79, 80, 81, 82, 83, 84, 85, 86, 87, 100, 101, 102, 103, 104, 105, 106, 107, 108, 109, 110, 111, 121, 122, 123, 124, 125, 126, 127, 128, 129, 130, 131, 132, 133, 134, 135] (by decide +kernel) (by decide +kernel)
set_option maxRecDepth 20000 in
theorem gX6_liveOn_X6_firstWorth : GoodIn wsX6_liveOn (wsV RX6 114 RX6 yX6_firstWorth wsX6_firstWorth) := goodIn_app (goodIn_of _ (by decide +kernel)) ggX6_liveOn_X6_firstWorth
set_option maxRecDepth 20000 in
theorem ggX6_liveOn_X1_eatenNowOf : GoodIn wsX6_liveOn wsX1_eatenNowOf := goodIn_r _ [91, 15, 112, 113, 114, 115, 116, 117, 118, 119, 120] (by decide +kernel) (by decide +kernel)
set_option maxRecDepth 20000 in
theorem gX6_liveOn_X1_eatenNowOf : GoodIn wsX6_liveOn (wsV RX6 100 RX1 yX1_eatenNowOf wsX1_eatenNowOf) := goodIn_app (goodIn_of _ (by decide +kernel)) ggX6_liveOn_X1_eatenNowOf
set_option maxRecDepth 20000 in
theorem ggX6_liveOn_X1_eatSpoon : GoodIn wsX6_liveOn wsX1_eatSpoon := goodIn_r _ [95, 14, 15, 10, 12, 35, 36, 37, 7, 38, 112, 113, 114, 115, 116, 117, 118, 119, 120] (by decide +kernel) (by decide +kernel)
set_option maxRecDepth 20000 in
theorem gX6_liveOn_X1_eatSpoon : GoodIn wsX6_liveOn (wsV RX6 118 RX1 yX1_eatSpoon wsX1_eatSpoon) := goodIn_app (goodIn_of _ (by decide +kernel)) ggX6_liveOn_X1_eatSpoon
set_option maxRecDepth 20000 in
theorem ggX6_liveOn_X1_passYear : GoodIn wsX6_liveOn wsX1_passYear := goodIn_r _ [99, 9, 15, 112, 113, 114, 115, 116, 117, 118, 119, 120] (by decide +kernel) (by decide +kernel)
set_option maxRecDepth 20000 in
theorem gX6_liveOn_X1_passYear : GoodIn wsX6_liveOn (wsV RX6 127 RX1 yX1_passYear wsX1_passYear) := goodIn_app (goodIn_of _ (by decide +kernel)) ggX6_liveOn_X1_passYear
theorem dX6_liveOn_0 : decode cX6_liveOn 0 = .ok (.iload_n 2, 1) := by decide +kernel
theorem dX6_liveOn_1 : decode cX6_liveOn 1 = .ok (.istore_n 3, 1) := by decide +kernel
theorem dX6_liveOn_2 : decode cX6_liveOn 2 = .ok (.aload_n 0, 1) := by decide +kernel
theorem dX6_liveOn_3 : decode cX6_liveOn 3 = .ok (.getfield 36, 3) := by decide +kernel
theorem dX6_liveOn_6 : decode cX6_liveOn 6 = .ok (.aload_n 0, 1) := by decide +kernel
theorem dX6_liveOn_7 : decode cX6_liveOn 7 = .ok (.getfield 29, 3) := by decide +kernel
theorem dX6_liveOn_10 : decode cX6_liveOn 10 = .ok (.invokevirtual 161, 3) := by decide +kernel
theorem dX6_liveOn_13 : decode cX6_liveOn 13 = .ok (.iconst 0, 1) := by decide +kernel
theorem dX6_liveOn_14 : decode cX6_liveOn 14 = .ok (.istore 4, 2) := by decide +kernel
theorem dX6_liveOn_16 : decode cX6_liveOn 16 = .ok (.iload 4, 2) := by decide +kernel
theorem dX6_liveOn_18 : decode cX6_liveOn 18 = .ok (.iload_n 1, 1) := by decide +kernel
theorem dX6_liveOn_19 : decode cX6_liveOn 19 = .ok (.if_icmp .ge 79, 3) := by decide +kernel
theorem dX6_liveOn_22 : decode cX6_liveOn 22 = .ok (.iload_n 3, 1) := by decide +kernel
theorem dX6_liveOn_23 : decode cX6_liveOn 23 = .ok (.invokestatic 261, 3) := by decide +kernel
theorem dX6_liveOn_26 : decode cX6_liveOn 26 = .ok (.istore_n 3, 1) := by decide +kernel
theorem dX6_liveOn_27 : decode cX6_liveOn 27 = .ok (.aload_n 0, 1) := by decide +kernel
theorem dX6_liveOn_28 : decode cX6_liveOn 28 = .ok (.getfield 36, 3) := by decide +kernel
theorem dX6_liveOn_31 : decode cX6_liveOn 31 = .ok (.aload_n 0, 1) := by decide +kernel
theorem dX6_liveOn_32 : decode cX6_liveOn 32 = .ok (.iload_n 3, 1) := by decide +kernel
theorem dX6_liveOn_33 : decode cX6_liveOn 33 = .ok (.invokevirtual 264, 3) := by decide +kernel
theorem dX6_liveOn_36 : decode cX6_liveOn 36 = .ok (.invokevirtual 121, 3) := by decide +kernel
theorem dX6_liveOn_39 : decode cX6_liveOn 39 = .ok (.pop, 1) := by decide +kernel
theorem dX6_liveOn_40 : decode cX6_liveOn 40 = .ok (.iload_n 3, 1) := by decide +kernel
theorem dX6_liveOn_41 : decode cX6_liveOn 41 = .ok (.invokestatic 261, 3) := by decide +kernel
theorem dX6_liveOn_44 : decode cX6_liveOn 44 = .ok (.istore_n 3, 1) := by decide +kernel
theorem dX6_liveOn_45 : decode cX6_liveOn 45 = .ok (.aload_n 0, 1) := by decide +kernel
theorem dX6_liveOn_46 : decode cX6_liveOn 46 = .ok (.iload_n 3, 1) := by decide +kernel
theorem dX6_liveOn_47 : decode cX6_liveOn 47 = .ok (.invokevirtual 264, 3) := by decide +kernel
theorem dX6_liveOn_50 : decode cX6_liveOn 50 = .ok (.istore 5, 2) := by decide +kernel
theorem dX6_liveOn_52 : decode cX6_liveOn 52 = .ok (.aload_n 0, 1) := by decide +kernel
theorem dX6_liveOn_53 : decode cX6_liveOn 53 = .ok (.getfield 36, 3) := by decide +kernel
theorem dX6_liveOn_56 : decode cX6_liveOn 56 = .ok (.iload 5, 2) := by decide +kernel
theorem dX6_liveOn_58 : decode cX6_liveOn 58 = .ok (.aload_n 0, 1) := by decide +kernel
theorem dX6_liveOn_59 : decode cX6_liveOn 59 = .ok (.iload 5, 2) := by decide +kernel
theorem dX6_liveOn_61 : decode cX6_liveOn 61 = .ok (.aload_n 0, 1) := by decide +kernel
theorem dX6_liveOn_62 : decode cX6_liveOn 62 = .ok (.getfield 36, 3) := by decide +kernel
theorem dX6_liveOn_65 : decode cX6_liveOn 65 = .ok (.getfield 91, 3) := by decide +kernel
theorem dX6_liveOn_68 : decode cX6_liveOn 68 = .ok (.invokevirtual 114, 3) := by decide +kernel
theorem dX6_liveOn_71 : decode cX6_liveOn 71 = .ok (.aload_n 0, 1) := by decide +kernel
theorem dX6_liveOn_72 : decode cX6_liveOn 72 = .ok (.getfield 36, 3) := by decide +kernel
theorem dX6_liveOn_75 : decode cX6_liveOn 75 = .ok (.iload 5, 2) := by decide +kernel
theorem dX6_liveOn_77 : decode cX6_liveOn 77 = .ok (.invokevirtual 100, 3) := by decide +kernel
theorem dX6_liveOn_80 : decode cX6_liveOn 80 = .ok (.isub, 1) := by decide +kernel
theorem dX6_liveOn_81 : decode cX6_liveOn 81 = .ok (.invokevirtual 118, 3) := by decide +kernel
theorem dX6_liveOn_84 : decode cX6_liveOn 84 = .ok (.pop, 1) := by decide +kernel
theorem dX6_liveOn_85 : decode cX6_liveOn 85 = .ok (.aload_n 0, 1) := by decide +kernel
theorem dX6_liveOn_86 : decode cX6_liveOn 86 = .ok (.getfield 36, 3) := by decide +kernel
theorem dX6_liveOn_89 : decode cX6_liveOn 89 = .ok (.invokevirtual 127, 3) := by decide +kernel
theorem dX6_liveOn_92 : decode cX6_liveOn 92 = .ok (.iinc 4 1, 3) := by decide +kernel
theorem dX6_liveOn_95 : decode cX6_liveOn 95 = .ok (.goto (-79), 3) := by decide +kernel
theorem dX6_liveOn_98 : decode cX6_liveOn 98 = .ok (.iload_n 3, 1) := by decide +kernel
theorem dX6_liveOn_99 : decode cX6_liveOn 99 = .ok (.ireturn, 1) := by decide +kernel
theorem dX6_nextSeed_0 : decode cX6_nextSeed 0 = .ok (.ldc2_w 267, 3) := by decide +kernel
theorem dX6_nextSeed_3 : decode cX6_nextSeed 3 = .ok (.iload_n 0, 1) := by decide +kernel
theorem dX6_nextSeed_4 : decode cX6_nextSeed 4 = .ok (.i2l, 1) := by decide +kernel
theorem dX6_nextSeed_5 : decode cX6_nextSeed 5 = .ok (.lmul, 1) := by decide +kernel
theorem dX6_nextSeed_6 : decode cX6_nextSeed 6 = .ok (.ldc2_w 269, 3) := by decide +kernel
theorem dX6_nextSeed_9 : decode cX6_nextSeed 9 = .ok (.ladd, 1) := by decide +kernel
theorem dX6_nextSeed_10 : decode cX6_nextSeed 10 = .ok (.ldc2_w 271, 3) := by decide +kernel
theorem dX6_nextSeed_13 : decode cX6_nextSeed 13 = .ok (.lrem, 1) := by decide +kernel
theorem dX6_nextSeed_14 : decode cX6_nextSeed 14 = .ok (.l2i, 1) := by decide +kernel
theorem dX6_nextSeed_15 : decode cX6_nextSeed 15 = .ok (.ireturn, 1) := by decide +kernel
theorem dX6_draw_0 : decode cX6_draw 0 = .ok (.aload_n 0, 1) := by decide +kernel
theorem dX6_draw_1 : decode cX6_draw 1 = .ok (.getfield 23, 3) := by decide +kernel
theorem dX6_draw_4 : decode cX6_draw 4 = .ok (.ifCond .le 19, 3) := by decide +kernel
theorem dX6_draw_7 : decode cX6_draw 7 = .ok (.iload_n 1, 1) := by decide +kernel
theorem dX6_draw_8 : decode cX6_draw 8 = .ok (.i2l, 1) := by decide +kernel
theorem dX6_draw_9 : decode cX6_draw 9 = .ok (.ldc2_w 273, 3) := by decide +kernel
theorem dX6_draw_12 : decode cX6_draw 12 = .ok (.ldiv, 1) := by decide +kernel
theorem dX6_draw_13 : decode cX6_draw 13 = .ok (.aload_n 0, 1) := by decide +kernel
theorem dX6_draw_14 : decode cX6_draw 14 = .ok (.getfield 23, 3) := by decide +kernel
theorem dX6_draw_17 : decode cX6_draw 17 = .ok (.i2l, 1) := by decide +kernel
theorem dX6_draw_18 : decode cX6_draw 18 = .ok (.lrem, 1) := by decide +kernel
theorem dX6_draw_19 : decode cX6_draw 19 = .ok (.l2i, 1) := by decide +kernel
theorem dX6_draw_20 : decode cX6_draw 20 = .ok (.goto 4, 3) := by decide +kernel
theorem dX6_draw_23 : decode cX6_draw 23 = .ok (.iconst 0, 1) := by decide +kernel
theorem dX6_draw_24 : decode cX6_draw 24 = .ok (.ireturn, 1) := by decide +kernel
theorem dX7_init_0 : decode cX7_init 0 = .ok (.aload_n 0, 1) := by decide +kernel
theorem dX7_init_1 : decode cX7_init 1 = .ok (.invokespecial 1, 3) := by decide +kernel
theorem dX7_init_4 : decode cX7_init 4 = .ok (.aload_n 0, 1) := by decide +kernel
theorem dX7_init_5 : decode cX7_init 5 = .ok (.bipush 25, 2) := by decide +kernel
theorem dX7_init_7 : decode cX7_init 7 = .ok (.newarray .int, 2) := by decide +kernel
theorem dX7_init_9 : decode cX7_init 9 = .ok (.putfield 7, 3) := by decide +kernel
theorem dX7_init_12 : decode cX7_init 12 = .ok (.aload_n 0, 1) := by decide +kernel
theorem dX7_init_13 : decode cX7_init 13 = .ok (.bipush 30, 2) := by decide +kernel
theorem dX7_init_15 : decode cX7_init 15 = .ok (.newarray .int, 2) := by decide +kernel
theorem dX7_init_17 : decode cX7_init 17 = .ok (.putfield 13, 3) := by decide +kernel
theorem dX7_init_20 : decode cX7_init 20 = .ok (.aload_n 0, 1) := by decide +kernel
theorem dX7_init_21 : decode cX7_init 21 = .ok (.bipush 91, 2) := by decide +kernel
theorem dX7_init_23 : decode cX7_init 23 = .ok (.newarray .int, 2) := by decide +kernel
theorem dX7_init_25 : decode cX7_init 25 = .ok (.putfield 16, 3) := by decide +kernel
theorem dX7_init_28 : decode cX7_init 28 = .ok (.aload_n 0, 1) := by decide +kernel
theorem dX7_init_29 : decode cX7_init 29 = .ok (.bipush 6, 2) := by decide +kernel
theorem dX7_init_31 : decode cX7_init 31 = .ok (.newarray .int, 2) := by decide +kernel
theorem dX7_init_33 : decode cX7_init 33 = .ok (.putfield 19, 3) := by decide +kernel
theorem dX7_init_36 : decode cX7_init 36 = .ok (.aload_n 0, 1) := by decide +kernel
theorem dX7_init_37 : decode cX7_init 37 = .ok (.bipush 12, 2) := by decide +kernel
theorem dX7_init_39 : decode cX7_init 39 = .ok (.newarray .int, 2) := by decide +kernel
theorem dX7_init_41 : decode cX7_init 41 = .ok (.putfield 22, 3) := by decide +kernel
theorem dX7_init_44 : decode cX7_init 44 = .ok (.aload_n 0, 1) := by decide +kernel
theorem dX7_init_45 : decode cX7_init 45 = .ok (.bipush 30, 2) := by decide +kernel
theorem dX7_init_47 : decode cX7_init 47 = .ok (.newarray .int, 2) := by decide +kernel
theorem dX7_init_49 : decode cX7_init 49 = .ok (.putfield 25, 3) := by decide +kernel
theorem dX7_init_52 : decode cX7_init 52 = .ok (.aload_n 0, 1) := by decide +kernel
theorem dX7_init_53 : decode cX7_init 53 = .ok (.bipush 30, 2) := by decide +kernel
theorem dX7_init_55 : decode cX7_init 55 = .ok (.newarray .int, 2) := by decide +kernel
theorem dX7_init_57 : decode cX7_init 57 = .ok (.putfield 28, 3) := by decide +kernel
theorem dX7_init_60 : decode cX7_init 60 = .ok (.aload_n 0, 1) := by decide +kernel
theorem dX7_init_61 : decode cX7_init 61 = .ok (.bipush 12, 2) := by decide +kernel
theorem dX7_init_63 : decode cX7_init 63 = .ok (.newarray .int, 2) := by decide +kernel
theorem dX7_init_65 : decode cX7_init 65 = .ok (.putfield 31, 3) := by decide +kernel
theorem dX7_init_68 : decode cX7_init 68 = .ok (.aload_n 0, 1) := by decide +kernel
theorem dX7_init_69 : decode cX7_init 69 = .ok (.iconst (-1), 1) := by decide +kernel
theorem dX7_init_70 : decode cX7_init 70 = .ok (.putfield 34, 3) := by decide +kernel
theorem dX7_init_73 : decode cX7_init 73 = .ok (.return_, 1) := by decide +kernel
theorem dX7_in_0 : decode cX7_in 0 = .ok (.lload_n 0, 1) := by decide +kernel
theorem dX7_in_1 : decode cX7_in 1 = .ok (.lload_n 2, 1) := by decide +kernel
theorem dX7_in_2 : decode cX7_in 2 = .ok (.lcmp, 1) := by decide +kernel
theorem dX7_in_3 : decode cX7_in 3 = .ok (.ifCond .lt 14, 3) := by decide +kernel
theorem dX7_in_6 : decode cX7_in 6 = .ok (.lload_n 0, 1) := by decide +kernel
theorem dX7_in_7 : decode cX7_in 7 = .ok (.lload 4, 2) := by decide +kernel
theorem dX7_in_9 : decode cX7_in 9 = .ok (.lcmp, 1) := by decide +kernel
theorem dX7_in_10 : decode cX7_in 10 = .ok (.ifCond .gt 7, 3) := by decide +kernel
theorem dX7_in_13 : decode cX7_in 13 = .ok (.iconst 1, 1) := by decide +kernel
theorem dX7_in_14 : decode cX7_in 14 = .ok (.goto 4, 3) := by decide +kernel
theorem dX7_in_17 : decode cX7_in 17 = .ok (.iconst 0, 1) := by decide +kernel
theorem dX7_in_18 : decode cX7_in 18 = .ok (.ireturn, 1) := by decide +kernel
theorem dX7_copy_0 : decode cX7_copy 0 = .ok (.iconst 0, 1) := by decide +kernel
theorem dX7_copy_1 : decode cX7_copy 1 = .ok (.istore_n 2, 1) := by decide +kernel
theorem dX7_copy_2 : decode cX7_copy 2 = .ok (.iload_n 2, 1) := by decide +kernel
theorem dX7_copy_3 : decode cX7_copy 3 = .ok (.aload_n 0, 1) := by decide +kernel
theorem dX7_copy_4 : decode cX7_copy 4 = .ok (.arraylength, 1) := by decide +kernel
theorem dX7_copy_5 : decode cX7_copy 5 = .ok (.if_icmp .ge 15, 3) := by decide +kernel
theorem dX7_copy_8 : decode cX7_copy 8 = .ok (.aload_n 1, 1) := by decide +kernel
theorem dX7_copy_9 : decode cX7_copy 9 = .ok (.iload_n 2, 1) := by decide +kernel
theorem dX7_copy_10 : decode cX7_copy 10 = .ok (.aload_n 0, 1) := by decide +kernel
theorem dX7_copy_11 : decode cX7_copy 11 = .ok (.iload_n 2, 1) := by decide +kernel
theorem dX7_copy_12 : decode cX7_copy 12 = .ok (.iaload, 1) := by decide +kernel
theorem dX7_copy_13 : decode cX7_copy 13 = .ok (.iastore, 1) := by decide +kernel
theorem dX7_copy_14 : decode cX7_copy 14 = .ok (.iinc 2 1, 3) := by decide +kernel
theorem dX7_copy_17 : decode cX7_copy 17 = .ok (.goto (-15), 3) := by decide +kernel
theorem dX7_copy_20 : decode cX7_copy 20 = .ok (.return_, 1) := by decide +kernel
set_option maxRecDepth 20000 in
theorem ggX7_letter_X7_in : GoodIn wsX7_letter wsX7_in := goodIn_r _ [7] (by decide +kernel) (by decide +kernel)
set_option maxRecDepth 20000 in
theorem gX7_letter_X7_in : GoodIn wsX7_letter (va_wsS RX7 40 yX7_in wsX7_in) := goodIn_app (goodIn_of _ (by decide +kernel)) ggX7_letter_X7_in
theorem dX7_letter_0 : decode cX7_letter 0 = .ok (.iload_n 1, 1) := by decide +kernel
theorem dX7_letter_1 : decode cX7_letter 1 = .ok (.i2l, 1) := by decide +kernel
theorem dX7_letter_2 : decode cX7_letter 2 = .ok (.lconst 1, 1) := by decide +kernel
theorem dX7_letter_3 : decode cX7_letter 3 = .ok (.ldc2_w 38, 3) := by decide +kernel
theorem dX7_letter_6 : decode cX7_letter 6 = .ok (.invokestatic 40, 3) := by decide +kernel
theorem dX7_letter_9 : decode cX7_letter 9 = .ok (.ifCond .ne 6, 3) := by decide +kernel
theorem dX7_letter_12 : decode cX7_letter 12 = .ok (.bipush (-102), 2) := by decide +kernel
theorem dX7_letter_14 : decode cX7_letter 14 = .ok (.ireturn, 1) := by decide +kernel
theorem dX7_letter_15 : decode cX7_letter 15 = .ok (.aload_n 0, 1) := by decide +kernel
theorem dX7_letter_16 : decode cX7_letter 16 = .ok (.getfield 44, 3) := by decide +kernel
theorem dX7_letter_19 : decode cX7_letter 19 = .ok (.bipush 25, 2) := by decide +kernel
theorem dX7_letter_21 : decode cX7_letter 21 = .ok (.if_icmp .ne 6, 3) := by decide +kernel
theorem dX7_letter_24 : decode cX7_letter 24 = .ok (.bipush (-104), 2) := by decide +kernel
theorem dX7_letter_26 : decode cX7_letter 26 = .ok (.ireturn, 1) := by decide +kernel
theorem dX7_letter_27 : decode cX7_letter 27 = .ok (.aload_n 0, 1) := by decide +kernel
theorem dX7_letter_28 : decode cX7_letter 28 = .ok (.getfield 7, 3) := by decide +kernel
theorem dX7_letter_31 : decode cX7_letter 31 = .ok (.aload_n 0, 1) := by decide +kernel
theorem dX7_letter_32 : decode cX7_letter 32 = .ok (.getfield 44, 3) := by decide +kernel
theorem dX7_letter_35 : decode cX7_letter 35 = .ok (.iload_n 1, 1) := by decide +kernel
theorem dX7_letter_36 : decode cX7_letter 36 = .ok (.iastore, 1) := by decide +kernel
theorem dX7_letter_37 : decode cX7_letter 37 = .ok (.aload_n 0, 1) := by decide +kernel
theorem dX7_letter_38 : decode cX7_letter 38 = .ok (.dup, 1) := by decide +kernel
theorem dX7_letter_39 : decode cX7_letter 39 = .ok (.getfield 44, 3) := by decide +kernel
theorem dX7_letter_42 : decode cX7_letter 42 = .ok (.iconst 1, 1) := by decide +kernel
theorem dX7_letter_43 : decode cX7_letter 43 = .ok (.iadd, 1) := by decide +kernel
theorem dX7_letter_44 : decode cX7_letter 44 = .ok (.putfield 44, 3) := by decide +kernel
theorem dX7_letter_47 : decode cX7_letter 47 = .ok (.aload_n 0, 1) := by decide +kernel
theorem dX7_letter_48 : decode cX7_letter 48 = .ok (.getfield 44, 3) := by decide +kernel
theorem dX7_letter_51 : decode cX7_letter 51 = .ok (.ireturn, 1) := by decide +kernel
theorem dX7_blank_0 : decode cX7_blank 0 = .ok (.aload_n 0, 1) := by decide +kernel
theorem dX7_blank_1 : decode cX7_blank 1 = .ok (.getfield 44, 3) := by decide +kernel
theorem dX7_blank_4 : decode cX7_blank 4 = .ok (.istore_n 1, 1) := by decide +kernel
theorem dX7_blank_5 : decode cX7_blank 5 = .ok (.aload_n 0, 1) := by decide +kernel
theorem dX7_blank_6 : decode cX7_blank 6 = .ok (.iconst 0, 1) := by decide +kernel
theorem dX7_blank_7 : decode cX7_blank 7 = .ok (.putfield 44, 3) := by decide +kernel
theorem dX7_blank_10 : decode cX7_blank 10 = .ok (.iload_n 1, 1) := by decide +kernel
theorem dX7_blank_11 : decode cX7_blank 11 = .ok (.ireturn, 1) := by decide +kernel
theorem dX7_kindBy_0 : decode cX7_kindBy 0 = .ok (.iload_n 0, 1) := by decide +kernel
theorem dX7_kindBy_1 : decode cX7_kindBy 1 = .ok (.bipush 106, 2) := by decide +kernel
theorem dX7_kindBy_3 : decode cX7_kindBy 3 = .ok (.if_icmp .ne 7, 3) := by decide +kernel
theorem dX7_kindBy_6 : decode cX7_kindBy 6 = .ok (.iconst 0, 1) := by decide +kernel
theorem dX7_kindBy_7 : decode cX7_kindBy 7 = .ok (.goto 44, 3) := by decide +kernel
theorem dX7_kindBy_10 : decode cX7_kindBy 10 = .ok (.iload_n 0, 1) := by decide +kernel
theorem dX7_kindBy_11 : decode cX7_kindBy 11 = .ok (.bipush 119, 2) := by decide +kernel
theorem dX7_kindBy_13 : decode cX7_kindBy 13 = .ok (.if_icmp .ne 7, 3) := by decide +kernel
theorem dX7_kindBy_16 : decode cX7_kindBy 16 = .ok (.iconst 1, 1) := by decide +kernel
theorem dX7_kindBy_17 : decode cX7_kindBy 17 = .ok (.goto 34, 3) := by decide +kernel
theorem dX7_kindBy_20 : decode cX7_kindBy 20 = .ok (.iload_n 0, 1) := by decide +kernel
theorem dX7_kindBy_21 : decode cX7_kindBy 21 = .ok (.bipush 99, 2) := by decide +kernel
theorem dX7_kindBy_23 : decode cX7_kindBy 23 = .ok (.if_icmp .ne 7, 3) := by decide +kernel
theorem dX7_kindBy_26 : decode cX7_kindBy 26 = .ok (.iconst 2, 1) := by decide +kernel
theorem dX7_kindBy_27 : decode cX7_kindBy 27 = .ok (.goto 24, 3) := by decide +kernel
theorem dX7_kindBy_30 : decode cX7_kindBy 30 = .ok (.iload_n 0, 1) := by decide +kernel
theorem dX7_kindBy_31 : decode cX7_kindBy 31 = .ok (.bipush 112, 2) := by decide +kernel
theorem dX7_kindBy_33 : decode cX7_kindBy 33 = .ok (.if_icmp .ne 7, 3) := by decide +kernel
theorem dX7_kindBy_36 : decode cX7_kindBy 36 = .ok (.iconst 3, 1) := by decide +kernel
theorem dX7_kindBy_37 : decode cX7_kindBy 37 = .ok (.goto 14, 3) := by decide +kernel
theorem dX7_kindBy_40 : decode cX7_kindBy 40 = .ok (.iload_n 0, 1) := by decide +kernel
theorem dX7_kindBy_41 : decode cX7_kindBy 41 = .ok (.bipush 103, 2) := by decide +kernel
theorem dX7_kindBy_43 : decode cX7_kindBy 43 = .ok (.if_icmp .ne 7, 3) := by decide +kernel
theorem dX7_kindBy_46 : decode cX7_kindBy 46 = .ok (.iconst 4, 1) := by decide +kernel
theorem dX7_kindBy_47 : decode cX7_kindBy 47 = .ok (.goto 4, 3) := by decide +kernel
theorem dX7_kindBy_50 : decode cX7_kindBy 50 = .ok (.iconst (-1), 1) := by decide +kernel
theorem dX7_kindBy_51 : decode cX7_kindBy 51 = .ok (.ireturn, 1) := by decide +kernel
set_option maxRecDepth 20000 in
theorem ggX7_isGood_X7_kindBy : GoodIn wsX7_isGood wsX7_kindBy := goodIn_r _ [6] (by decide +kernel) (by decide +kernel)
set_option maxRecDepth 20000 in
theorem gX7_isGood_X7_kindBy : GoodIn wsX7_isGood (va_wsS RX7 47 yX7_kindBy wsX7_kindBy) := goodIn_app (goodIn_of _ (by decide +kernel)) ggX7_isGood_X7_kindBy
set_option maxRecDepth 20000 in
theorem ggX7_isGood_X7_in : GoodIn wsX7_isGood wsX7_in := goodIn_r _ [9] (by decide +kernel) (by decide +kernel)
set_option maxRecDepth 20000 in
theorem gX7_isGood_X7_in : GoodIn wsX7_isGood (va_wsS RX7 40 yX7_in wsX7_in) := goodIn_app (goodIn_of _ (by decide +kernel)) ggX7_isGood_X7_in
theorem dX7_isGood_0 : decode cX7_isGood 0 = .ok (.iload_n 0, 1) := by decide +kernel
theorem dX7_isGood_1 : decode cX7_isGood 1 = .ok (.iconst 4, 1) := by decide +kernel
theorem dX7_isGood_2 : decode cX7_isGood 2 = .ok (.irem, 1) := by decide +kernel
theorem dX7_isGood_3 : decode cX7_isGood 3 = .ok (.tableswitch 57 0 2 #[25, 45, 45], 25) := by decide +kernel
theorem dX7_isGood_28 : decode cX7_isGood 28 = .ok (.iload_n 0, 1) := by decide +kernel
theorem dX7_isGood_29 : decode cX7_isGood 29 = .ok (.bipush 24, 2) := by decide +kernel
theorem dX7_isGood_31 : decode cX7_isGood 31 = .ok (.if_icmp .ge 15, 3) := by decide +kernel
theorem dX7_isGood_34 : decode cX7_isGood 34 = .ok (.iload_n 1, 1) := by decide +kernel
theorem dX7_isGood_35 : decode cX7_isGood 35 = .ok (.invokestatic 47, 3) := by decide +kernel
theorem dX7_isGood_38 : decode cX7_isGood 38 = .ok (.iconst (-1), 1) := by decide +kernel
theorem dX7_isGood_39 : decode cX7_isGood 39 = .ok (.if_icmp .eq 7, 3) := by decide +kernel
theorem dX7_isGood_42 : decode cX7_isGood 42 = .ok (.iconst 1, 1) := by decide +kernel
theorem dX7_isGood_43 : decode cX7_isGood 43 = .ok (.goto 4, 3) := by decide +kernel
theorem dX7_isGood_46 : decode cX7_isGood 46 = .ok (.iconst 0, 1) := by decide +kernel
theorem dX7_isGood_47 : decode cX7_isGood 47 = .ok (.ireturn, 1) := by decide +kernel
theorem dX7_isGood_48 : decode cX7_isGood 48 = .ok (.iload_n 1, 1) := by decide +kernel
theorem dX7_isGood_49 : decode cX7_isGood 49 = .ok (.i2l, 1) := by decide +kernel
theorem dX7_isGood_50 : decode cX7_isGood 50 = .ok (.ldc2_w 51, 3) := by decide +kernel
theorem dX7_isGood_53 : decode cX7_isGood 53 = .ok (.ldc2_w 53, 3) := by decide +kernel
theorem dX7_isGood_56 : decode cX7_isGood 56 = .ok (.invokestatic 40, 3) := by decide +kernel
theorem dX7_isGood_59 : decode cX7_isGood 59 = .ok (.ireturn, 1) := by decide +kernel
theorem dX7_isGood_60 : decode cX7_isGood 60 = .ok (.iload_n 1, 1) := by decide +kernel
theorem dX7_isGood_61 : decode cX7_isGood 61 = .ok (.bipush 44, 2) := by decide +kernel
theorem dX7_isGood_63 : decode cX7_isGood 63 = .ok (.if_icmp .ne 13, 3) := by decide +kernel
theorem dX7_isGood_66 : decode cX7_isGood 66 = .ok (.iload_n 0, 1) := by decide +kernel
theorem dX7_isGood_67 : decode cX7_isGood 67 = .ok (.bipush 23, 2) := by decide +kernel
theorem dX7_isGood_69 : decode cX7_isGood 69 = .ok (.if_icmp .ge 7, 3) := by decide +kernel
theorem dX7_isGood_72 : decode cX7_isGood 72 = .ok (.iconst 1, 1) := by decide +kernel
theorem dX7_isGood_73 : decode cX7_isGood 73 = .ok (.goto 4, 3) := by decide +kernel
theorem dX7_isGood_76 : decode cX7_isGood 76 = .ok (.iconst 0, 1) := by decide +kernel
theorem dX7_isGood_77 : decode cX7_isGood 77 = .ok (.ireturn, 1) := by decide +kernel
set_option maxRecDepth 20000 in
theorem ggX7_faultOf_X7_isGood : GoodIn wsX7_faultOf wsX7_isGood := goodIn_r _ [6, 7, 8, 9, 10, 5, 11, 12, 13, 14] (by decide +kernel) (by decide +kernel)
set_option maxRecDepth 20000 in
theorem gX7_faultOf_X7_isGood : GoodIn wsX7_faultOf (va_wsS RX7 55 yX7_isGood wsX7_isGood) := goodIn_app (goodIn_of _ (by decide +kernel)) ggX7_faultOf_X7_isGood
theorem dX7_faultOf_0 : decode cX7_faultOf 0 = .ok (.iconst 0, 1) := by decide +kernel
theorem dX7_faultOf_1 : decode cX7_faultOf 1 = .ok (.istore_n 1, 1) := by decide +kernel
theorem dX7_faultOf_2 : decode cX7_faultOf 2 = .ok (.iload_n 1, 1) := by decide +kernel
theorem dX7_faultOf_3 : decode cX7_faultOf 3 = .ok (.aload_n 0, 1) := by decide +kernel
theorem dX7_faultOf_4 : decode cX7_faultOf 4 = .ok (.getfield 44, 3) := by decide +kernel
theorem dX7_faultOf_7 : decode cX7_faultOf 7 = .ok (.if_icmp .ge 22, 3) := by decide +kernel
theorem dX7_faultOf_10 : decode cX7_faultOf 10 = .ok (.iload_n 1, 1) := by decide +kernel
theorem dX7_faultOf_11 : decode cX7_faultOf 11 = .ok (.aload_n 0, 1) := by decide +kernel
theorem dX7_faultOf_12 : decode cX7_faultOf 12 = .ok (.getfield 7, 3) := by decide +kernel
theorem dX7_faultOf_15 : decode cX7_faultOf 15 = .ok (.iload_n 1, 1) := by decide +kernel
theorem dX7_faultOf_16 : decode cX7_faultOf 16 = .ok (.iaload, 1) := by decide +kernel
theorem dX7_faultOf_17 : decode cX7_faultOf 17 = .ok (.invokestatic 55, 3) := by decide +kernel
theorem dX7_faultOf_20 : decode cX7_faultOf 20 = .ok (.ifCond .eq 9, 3) := by decide +kernel
theorem dX7_faultOf_23 : decode cX7_faultOf 23 = .ok (.iinc 1 1, 3) := by decide +kernel
theorem dX7_faultOf_26 : decode cX7_faultOf 26 = .ok (.goto (-24), 3) := by decide +kernel
theorem dX7_faultOf_29 : decode cX7_faultOf 29 = .ok (.iload_n 1, 1) := by decide +kernel
theorem dX7_faultOf_30 : decode cX7_faultOf 30 = .ok (.ireturn, 1) := by decide +kernel
set_option maxRecDepth 20000 in
theorem ggX7_fault_X7_faultOf : GoodIn wsX7_fault wsX7_faultOf := goodIn_r _ [5, 6, 7, 8, 9, 4, 10, 11, 12, 13, 14, 15, 16, 17, 18, 19, 20, 21, 22, 23, 24, 25, 26, 27, 28, 29, 30, 31, 32, 33, 34, 35, 36, 37, 38, 39, 40, 41, 42, 43] (by decide +kernel) (by decide +kernel)
set_option maxRecDepth 20000 in
theorem gX7_fault_X7_faultOf : GoodIn wsX7_fault (wsV RX7 59 RX7 yX7_faultOf wsX7_faultOf) := goodIn_app (goodIn_of _ (by decide +kernel)) ggX7_fault_X7_faultOf
theorem dX7_fault_0 : decode cX7_fault 0 = .ok (.aload_n 0, 1) := by decide +kernel
theorem dX7_fault_1 : decode cX7_fault 1 = .ok (.invokevirtual 59, 3) := by decide +kernel
theorem dX7_fault_4 : decode cX7_fault 4 = .ok (.ireturn, 1) := by decide +kernel
set_option maxRecDepth 20000 in
theorem ggX7_larder_X7_faultOf : GoodIn wsX7_larder wsX7_faultOf := goodIn_r _ [15, 1, 4, 16, 17, 14, 18, 19, 20, 21, 22, 23, 24, 25, 26, 27, 28, 29, 30, 31, 32, 33, 34, 35, 36, 37, 38, 39, 40, 41, 42, 43, 44, 45, 46, 47, 48, 49, 50, 51] (by decide +kernel) (by decide +kernel)
set_option maxRecDepth 20000 in
theorem gX7_larder_X7_faultOf : GoodIn wsX7_larder (wsV RX7 59 RX7 yX7_faultOf wsX7_faultOf) := goodIn_app (goodIn_of _ (by decide +kernel)) ggX7_larder_X7_faultOf
set_option maxRecDepth 20000 in
theorem ggX7_larder_X7_kindBy : GoodIn wsX7_larder wsX7_kindBy := goodIn_r _ [23] (by decide +kernel) (by decide +kernel)
set_option maxRecDepth 20000 in
theorem gX7_larder_X7_kindBy : GoodIn wsX7_larder (va_wsS RX7 47 yX7_kindBy wsX7_kindBy) := goodIn_app (goodIn_of _ (by decide +kernel)) ggX7_larder_X7_kindBy
theorem dX7_larder_0 : decode cX7_larder 0 = .ok (.aload_n 0, 1) := by decide +kernel
theorem dX7_larder_1 : decode cX7_larder 1 = .ok (.getfield 44, 3) := by decide +kernel
theorem dX7_larder_4 : decode cX7_larder 4 = .ok (.bipush 7, 2) := by decide +kernel
theorem dX7_larder_6 : decode cX7_larder 6 = .ok (.if_icmp .lt 24, 3) := by decide +kernel
theorem dX7_larder_9 : decode cX7_larder 9 = .ok (.aload_n 0, 1) := by decide +kernel
theorem dX7_larder_10 : decode cX7_larder 10 = .ok (.getfield 44, 3) := by decide +kernel
theorem dX7_larder_13 : decode cX7_larder 13 = .ok (.iconst 4, 1) := by decide +kernel
theorem dX7_larder_14 : decode cX7_larder 14 = .ok (.irem, 1) := by decide +kernel
theorem dX7_larder_15 : decode cX7_larder 15 = .ok (.iconst 3, 1) := by decide +kernel
theorem dX7_larder_16 : decode cX7_larder 16 = .ok (.if_icmp .ne 14, 3) := by decide +kernel
theorem dX7_larder_19 : decode cX7_larder 19 = .ok (.aload_n 0, 1) := by decide +kernel
theorem dX7_larder_20 : decode cX7_larder 20 = .ok (.invokevirtual 59, 3) := by decide +kernel
theorem dX7_larder_23 : decode cX7_larder 23 = .ok (.aload_n 0, 1) := by decide +kernel
theorem dX7_larder_24 : decode cX7_larder 24 = .ok (.getfield 44, 3) := by decide +kernel
theorem dX7_larder_27 : decode cX7_larder 27 = .ok (.if_icmp .ge 6, 3) := by decide +kernel
theorem dX7_larder_30 : decode cX7_larder 30 = .ok (.bipush (-103), 2) := by decide +kernel
theorem dX7_larder_32 : decode cX7_larder 32 = .ok (.ireturn, 1) := by decide +kernel
theorem dX7_larder_33 : decode cX7_larder 33 = .ok (.aload_n 0, 1) := by decide +kernel
theorem dX7_larder_34 : decode cX7_larder 34 = .ok (.aload_n 0, 1) := by decide +kernel
theorem dX7_larder_35 : decode cX7_larder 35 = .ok (.getfield 44, 3) := by decide +kernel
theorem dX7_larder_38 : decode cX7_larder 38 = .ok (.iconst 1, 1) := by decide +kernel
theorem dX7_larder_39 : decode cX7_larder 39 = .ok (.iadd, 1) := by decide +kernel
theorem dX7_larder_40 : decode cX7_larder 40 = .ok (.iconst 4, 1) := by decide +kernel
theorem dX7_larder_41 : decode cX7_larder 41 = .ok (.idiv, 1) := by decide +kernel
theorem dX7_larder_42 : decode cX7_larder 42 = .ok (.putfield 63, 3) := by decide +kernel
theorem dX7_larder_45 : decode cX7_larder 45 = .ok (.iconst 0, 1) := by decide +kernel
theorem dX7_larder_46 : decode cX7_larder 46 = .ok (.istore_n 1, 1) := by decide +kernel
theorem dX7_larder_47 : decode cX7_larder 47 = .ok (.iload_n 1, 1) := by decide +kernel
theorem dX7_larder_48 : decode cX7_larder 48 = .ok (.aload_n 0, 1) := by decide +kernel
theorem dX7_larder_49 : decode cX7_larder 49 = .ok (.getfield 63, 3) := by decide +kernel
theorem dX7_larder_52 : decode cX7_larder 52 = .ok (.if_icmp .ge 97, 3) := by decide +kernel
theorem dX7_larder_55 : decode cX7_larder 55 = .ok (.aload_n 0, 1) := by decide +kernel
theorem dX7_larder_56 : decode cX7_larder 56 = .ok (.getfield 13, 3) := by decide +kernel
theorem dX7_larder_59 : decode cX7_larder 59 = .ok (.iconst 5, 1) := by decide +kernel
theorem dX7_larder_60 : decode cX7_larder 60 = .ok (.iload_n 1, 1) := by decide +kernel
theorem dX7_larder_61 : decode cX7_larder 61 = .ok (.imul, 1) := by decide +kernel
theorem dX7_larder_62 : decode cX7_larder 62 = .ok (.aload_n 0, 1) := by decide +kernel
theorem dX7_larder_63 : decode cX7_larder 63 = .ok (.getfield 7, 3) := by decide +kernel
theorem dX7_larder_66 : decode cX7_larder 66 = .ok (.iconst 4, 1) := by decide +kernel
theorem dX7_larder_67 : decode cX7_larder 67 = .ok (.iload_n 1, 1) := by decide +kernel
theorem dX7_larder_68 : decode cX7_larder 68 = .ok (.imul, 1) := by decide +kernel
theorem dX7_larder_69 : decode cX7_larder 69 = .ok (.iaload, 1) := by decide +kernel
theorem dX7_larder_70 : decode cX7_larder 70 = .ok (.invokestatic 47, 3) := by decide +kernel
theorem dX7_larder_73 : decode cX7_larder 73 = .ok (.iastore, 1) := by decide +kernel
theorem dX7_larder_74 : decode cX7_larder 74 = .ok (.aload_n 0, 1) := by decide +kernel
theorem dX7_larder_75 : decode cX7_larder 75 = .ok (.getfield 13, 3) := by decide +kernel
theorem dX7_larder_78 : decode cX7_larder 78 = .ok (.iconst 5, 1) := by decide +kernel
theorem dX7_larder_79 : decode cX7_larder 79 = .ok (.iload_n 1, 1) := by decide +kernel
theorem dX7_larder_80 : decode cX7_larder 80 = .ok (.imul, 1) := by decide +kernel
theorem dX7_larder_81 : decode cX7_larder 81 = .ok (.iconst 1, 1) := by decide +kernel
theorem dX7_larder_82 : decode cX7_larder 82 = .ok (.iadd, 1) := by decide +kernel
theorem dX7_larder_83 : decode cX7_larder 83 = .ok (.aload_n 0, 1) := by decide +kernel
theorem dX7_larder_84 : decode cX7_larder 84 = .ok (.getfield 7, 3) := by decide +kernel
theorem dX7_larder_87 : decode cX7_larder 87 = .ok (.iconst 4, 1) := by decide +kernel
theorem dX7_larder_88 : decode cX7_larder 88 = .ok (.iload_n 1, 1) := by decide +kernel
theorem dX7_larder_89 : decode cX7_larder 89 = .ok (.imul, 1) := by decide +kernel
theorem dX7_larder_90 : decode cX7_larder 90 = .ok (.iconst 1, 1) := by decide +kernel
theorem dX7_larder_91 : decode cX7_larder 91 = .ok (.iadd, 1) := by decide +kernel
theorem dX7_larder_92 : decode cX7_larder 92 = .ok (.iaload, 1) := by decide +kernel
theorem dX7_larder_93 : decode cX7_larder 93 = .ok (.bipush 48, 2) := by decide +kernel
theorem dX7_larder_95 : decode cX7_larder 95 = .ok (.isub, 1) := by decide +kernel
theorem dX7_larder_96 : decode cX7_larder 96 = .ok (.iastore, 1) := by decide +kernel
theorem dX7_larder_97 : decode cX7_larder 97 = .ok (.aload_n 0, 1) := by decide +kernel
theorem dX7_larder_98 : decode cX7_larder 98 = .ok (.getfield 13, 3) := by decide +kernel
theorem dX7_larder_101 : decode cX7_larder 101 = .ok (.iconst 5, 1) := by decide +kernel
theorem dX7_larder_102 : decode cX7_larder 102 = .ok (.iload_n 1, 1) := by decide +kernel
theorem dX7_larder_103 : decode cX7_larder 103 = .ok (.imul, 1) := by decide +kernel
theorem dX7_larder_104 : decode cX7_larder 104 = .ok (.iconst 2, 1) := by decide +kernel
theorem dX7_larder_105 : decode cX7_larder 105 = .ok (.iadd, 1) := by decide +kernel
theorem dX7_larder_106 : decode cX7_larder 106 = .ok (.aload_n 0, 1) := by decide +kernel
theorem dX7_larder_107 : decode cX7_larder 107 = .ok (.getfield 7, 3) := by decide +kernel
theorem dX7_larder_110 : decode cX7_larder 110 = .ok (.iconst 4, 1) := by decide +kernel
theorem dX7_larder_111 : decode cX7_larder 111 = .ok (.iload_n 1, 1) := by decide +kernel
theorem dX7_larder_112 : decode cX7_larder 112 = .ok (.imul, 1) := by decide +kernel
theorem dX7_larder_113 : decode cX7_larder 113 = .ok (.iconst 2, 1) := by decide +kernel
theorem dX7_larder_114 : decode cX7_larder 114 = .ok (.iadd, 1) := by decide +kernel
theorem dX7_larder_115 : decode cX7_larder 115 = .ok (.iaload, 1) := by decide +kernel
theorem dX7_larder_116 : decode cX7_larder 116 = .ok (.bipush 48, 2) := by decide +kernel
theorem dX7_larder_118 : decode cX7_larder 118 = .ok (.isub, 1) := by decide +kernel
theorem dX7_larder_119 : decode cX7_larder 119 = .ok (.iastore, 1) := by decide +kernel
theorem dX7_larder_120 : decode cX7_larder 120 = .ok (.aload_n 0, 1) := by decide +kernel
theorem dX7_larder_121 : decode cX7_larder 121 = .ok (.getfield 13, 3) := by decide +kernel
theorem dX7_larder_124 : decode cX7_larder 124 = .ok (.iconst 5, 1) := by decide +kernel
theorem dX7_larder_125 : decode cX7_larder 125 = .ok (.iload_n 1, 1) := by decide +kernel
theorem dX7_larder_126 : decode cX7_larder 126 = .ok (.imul, 1) := by decide +kernel
theorem dX7_larder_127 : decode cX7_larder 127 = .ok (.iconst 3, 1) := by decide +kernel
theorem dX7_larder_128 : decode cX7_larder 128 = .ok (.iadd, 1) := by decide +kernel
theorem dX7_larder_129 : decode cX7_larder 129 = .ok (.bipush 12, 2) := by decide +kernel
theorem dX7_larder_131 : decode cX7_larder 131 = .ok (.iastore, 1) := by decide +kernel
theorem dX7_larder_132 : decode cX7_larder 132 = .ok (.aload_n 0, 1) := by decide +kernel
theorem dX7_larder_133 : decode cX7_larder 133 = .ok (.getfield 13, 3) := by decide +kernel
theorem dX7_larder_136 : decode cX7_larder 136 = .ok (.iconst 5, 1) := by decide +kernel
theorem dX7_larder_137 : decode cX7_larder 137 = .ok (.iload_n 1, 1) := by decide +kernel
theorem dX7_larder_138 : decode cX7_larder 138 = .ok (.imul, 1) := by decide +kernel
theorem dX7_larder_139 : decode cX7_larder 139 = .ok (.iconst 4, 1) := by decide +kernel
theorem dX7_larder_140 : decode cX7_larder 140 = .ok (.iadd, 1) := by decide +kernel
theorem dX7_larder_141 : decode cX7_larder 141 = .ok (.iconst 0, 1) := by decide +kernel
theorem dX7_larder_142 : decode cX7_larder 142 = .ok (.iastore, 1) := by decide +kernel
theorem dX7_larder_143 : decode cX7_larder 143 = .ok (.iinc 1 1, 3) := by decide +kernel
theorem dX7_larder_146 : decode cX7_larder 146 = .ok (.goto (-99), 3) := by decide +kernel
theorem dX7_larder_149 : decode cX7_larder 149 = .ok (.aload_n 0, 1) := by decide +kernel
theorem dX7_larder_150 : decode cX7_larder 150 = .ok (.iconst 0, 1) := by decide +kernel
theorem dX7_larder_151 : decode cX7_larder 151 = .ok (.putfield 66, 3) := by decide +kernel
theorem dX7_larder_154 : decode cX7_larder 154 = .ok (.aload_n 0, 1) := by decide +kernel
theorem dX7_larder_155 : decode cX7_larder 155 = .ok (.iconst 0, 1) := by decide +kernel
theorem dX7_larder_156 : decode cX7_larder 156 = .ok (.putfield 69, 3) := by decide +kernel
theorem dX7_larder_159 : decode cX7_larder 159 = .ok (.aload_n 0, 1) := by decide +kernel
theorem dX7_larder_160 : decode cX7_larder 160 = .ok (.iconst 0, 1) := by decide +kernel
theorem dX7_larder_161 : decode cX7_larder 161 = .ok (.putfield 72, 3) := by decide +kernel
theorem dX7_larder_164 : decode cX7_larder 164 = .ok (.aload_n 0, 1) := by decide +kernel
theorem dX7_larder_165 : decode cX7_larder 165 = .ok (.iconst 0, 1) := by decide +kernel
theorem dX7_larder_166 : decode cX7_larder 166 = .ok (.putfield 75, 3) := by decide +kernel
theorem dX7_larder_169 : decode cX7_larder 169 = .ok (.aload_n 0, 1) := by decide +kernel
theorem dX7_larder_170 : decode cX7_larder 170 = .ok (.iconst 0, 1) := by decide +kernel
theorem dX7_larder_171 : decode cX7_larder 171 = .ok (.putfield 78, 3) := by decide +kernel
theorem dX7_larder_174 : decode cX7_larder 174 = .ok (.aload_n 0, 1) := by decide +kernel
theorem dX7_larder_175 : decode cX7_larder 175 = .ok (.dup, 1) := by decide +kernel
theorem dX7_larder_176 : decode cX7_larder 176 = .ok (.getfield 81, 3) := by decide +kernel
theorem dX7_larder_179 : decode cX7_larder 179 = .ok (.iconst 1, 1) := by decide +kernel
theorem dX7_larder_180 : decode cX7_larder 180 = .ok (.iadd, 1) := by decide +kernel
theorem dX7_larder_181 : decode cX7_larder 181 = .ok (.putfield 81, 3) := by decide +kernel
theorem dX7_larder_184 : decode cX7_larder 184 = .ok (.aload_n 0, 1) := by decide +kernel
theorem dX7_larder_185 : decode cX7_larder 185 = .ok (.iconst 0, 1) := by decide +kernel
theorem dX7_larder_186 : decode cX7_larder 186 = .ok (.putfield 44, 3) := by decide +kernel
theorem dX7_larder_189 : decode cX7_larder 189 = .ok (.aload_n 0, 1) := by decide +kernel
theorem dX7_larder_190 : decode cX7_larder 190 = .ok (.getfield 63, 3) := by decide +kernel
theorem dX7_larder_193 : decode cX7_larder 193 = .ok (.ireturn, 1) := by decide +kernel
theorem dX7_lacks_0 : decode cX7_lacks 0 = .ok (.aload_n 0, 1) := by decide +kernel
theorem dX7_lacks_1 : decode cX7_lacks 1 = .ok (.getfield 63, 3) := by decide +kernel
theorem dX7_lacks_4 : decode cX7_lacks 4 = .ok (.ifCond .ne 7, 3) := by decide +kernel
theorem dX7_lacks_7 : decode cX7_lacks 7 = .ok (.iconst 1, 1) := by decide +kernel
theorem dX7_lacks_8 : decode cX7_lacks 8 = .ok (.goto 4, 3) := by decide +kernel
theorem dX7_lacks_11 : decode cX7_lacks 11 = .ok (.iconst 0, 1) := by decide +kernel
theorem dX7_lacks_12 : decode cX7_lacks 12 = .ok (.ireturn, 1) := by decide +kernel
set_option maxRecDepth 20000 in
theorem ggX7_isJar_X7_in : GoodIn wsX7_isJar wsX7_in := goodIn_r _ [5] (by decide +kernel) (by decide +kernel)
set_option maxRecDepth 20000 in
theorem gX7_isJar_X7_in : GoodIn wsX7_isJar (va_wsS RX7 40 yX7_in wsX7_in) := goodIn_app (goodIn_of _ (by decide +kernel)) ggX7_isJar_X7_in
theorem dX7_isJar_0 : decode cX7_isJar 0 = .ok (.iload_n 1, 1) := by decide +kernel
theorem dX7_isJar_1 : decode cX7_isJar 1 = .ok (.i2l, 1) := by decide +kernel
theorem dX7_isJar_2 : decode cX7_isJar 2 = .ok (.lconst 0, 1) := by decide +kernel
theorem dX7_isJar_3 : decode cX7_isJar 3 = .ok (.aload_n 0, 1) := by decide +kernel
theorem dX7_isJar_4 : decode cX7_isJar 4 = .ok (.getfield 63, 3) := by decide +kernel
theorem dX7_isJar_7 : decode cX7_isJar 7 = .ok (.iconst 1, 1) := by decide +kernel
theorem dX7_isJar_8 : decode cX7_isJar 8 = .ok (.isub, 1) := by decide +kernel
theorem dX7_isJar_9 : decode cX7_isJar 9 = .ok (.i2l, 1) := by decide +kernel
theorem dX7_isJar_10 : decode cX7_isJar 10 = .ok (.invokestatic 40, 3) := by decide +kernel
theorem dX7_isJar_13 : decode cX7_isJar 13 = .ok (.ireturn, 1) := by decide +kernel
theorem dX7_mouldIn_0 : decode cX7_mouldIn 0 = .ok (.aload_n 0, 1) := by decide +kernel
theorem dX7_mouldIn_1 : decode cX7_mouldIn 1 = .ok (.getfield 13, 3) := by decide +kernel
theorem dX7_mouldIn_4 : decode cX7_mouldIn 4 = .ok (.iconst 5, 1) := by decide +kernel
theorem dX7_mouldIn_5 : decode cX7_mouldIn 5 = .ok (.iload_n 1, 1) := by decide +kernel
theorem dX7_mouldIn_6 : decode cX7_mouldIn 6 = .ok (.imul, 1) := by decide +kernel
theorem dX7_mouldIn_7 : decode cX7_mouldIn 7 = .ok (.iaload, 1) := by decide +kernel
theorem dX7_mouldIn_8 : decode cX7_mouldIn 8 = .ok (.istore_n 3, 1) := by decide +kernel
theorem dX7_mouldIn_9 : decode cX7_mouldIn 9 = .ok (.iconst 3, 1) := by decide +kernel
theorem dX7_mouldIn_10 : decode cX7_mouldIn 10 = .ok (.aload_n 0, 1) := by decide +kernel
theorem dX7_mouldIn_11 : decode cX7_mouldIn 11 = .ok (.getfield 13, 3) := by decide +kernel
theorem dX7_mouldIn_14 : decode cX7_mouldIn 14 = .ok (.iconst 5, 1) := by decide +kernel
theorem dX7_mouldIn_15 : decode cX7_mouldIn 15 = .ok (.iload_n 1, 1) := by decide +kernel
theorem dX7_mouldIn_16 : decode cX7_mouldIn 16 = .ok (.imul, 1) := by decide +kernel
theorem dX7_mouldIn_17 : decode cX7_mouldIn 17 = .ok (.iconst 2, 1) := by decide +kernel
theorem dX7_mouldIn_18 : decode cX7_mouldIn 18 = .ok (.iadd, 1) := by decide +kernel
theorem dX7_mouldIn_19 : decode cX7_mouldIn 19 = .ok (.iaload, 1) := by decide +kernel
theorem dX7_mouldIn_20 : decode cX7_mouldIn 20 = .ok (.iconst 3, 1) := by decide +kernel
theorem dX7_mouldIn_21 : decode cX7_mouldIn 21 = .ok (.idiv, 1) := by decide +kernel
theorem dX7_mouldIn_22 : decode cX7_mouldIn 22 = .ok (.isub, 1) := by decide +kernel
theorem dX7_mouldIn_23 : decode cX7_mouldIn 23 = .ok (.iload_n 3, 1) := by decide +kernel
theorem dX7_mouldIn_24 : decode cX7_mouldIn 24 = .ok (.iconst 1, 1) := by decide +kernel
theorem dX7_mouldIn_25 : decode cX7_mouldIn 25 = .ok (.if_icmp .ne 7, 3) := by decide +kernel
theorem dX7_mouldIn_28 : decode cX7_mouldIn 28 = .ok (.iconst 1, 1) := by decide +kernel
theorem dX7_mouldIn_29 : decode cX7_mouldIn 29 = .ok (.goto 4, 3) := by decide +kernel
theorem dX7_mouldIn_32 : decode cX7_mouldIn 32 = .ok (.iconst 0, 1) := by decide +kernel
theorem dX7_mouldIn_33 : decode cX7_mouldIn 33 = .ok (.iadd, 1) := by decide +kernel
theorem dX7_mouldIn_34 : decode cX7_mouldIn 34 = .ok (.istore 4, 2) := by decide +kernel
theorem dX7_mouldIn_36 : decode cX7_mouldIn 36 = .ok (.iload_n 3, 1) := by decide +kernel
theorem dX7_mouldIn_37 : decode cX7_mouldIn 37 = .ok (.iconst 2, 1) := by decide +kernel
theorem dX7_mouldIn_38 : decode cX7_mouldIn 38 = .ok (.if_icmp .eq 8, 3) := by decide +kernel
theorem dX7_mouldIn_41 : decode cX7_mouldIn 41 = .ok (.iload_n 3, 1) := by decide +kernel
theorem dX7_mouldIn_42 : decode cX7_mouldIn 42 = .ok (.iconst 4, 1) := by decide +kernel
theorem dX7_mouldIn_43 : decode cX7_mouldIn 43 = .ok (.if_icmp .ne 7, 3) := by decide +kernel
theorem dX7_mouldIn_46 : decode cX7_mouldIn 46 = .ok (.iconst 0, 1) := by decide +kernel
theorem dX7_mouldIn_47 : decode cX7_mouldIn 47 = .ok (.goto 7, 3) := by decide +kernel
theorem dX7_mouldIn_50 : decode cX7_mouldIn 50 = .ok (.iload 4, 2) := by decide +kernel
theorem dX7_mouldIn_52 : decode cX7_mouldIn 52 = .ok (.iload_n 2, 1) := by decide +kernel
theorem dX7_mouldIn_53 : decode cX7_mouldIn 53 = .ok (.imul, 1) := by decide +kernel
theorem dX7_mouldIn_54 : decode cX7_mouldIn 54 = .ok (.istore 5, 2) := by decide +kernel
theorem dX7_mouldIn_56 : decode cX7_mouldIn 56 = .ok (.iload 5, 2) := by decide +kernel
theorem dX7_mouldIn_58 : decode cX7_mouldIn 58 = .ok (.bipush 20, 2) := by decide +kernel
theorem dX7_mouldIn_60 : decode cX7_mouldIn 60 = .ok (.if_icmp .le 8, 3) := by decide +kernel
theorem dX7_mouldIn_63 : decode cX7_mouldIn 63 = .ok (.bipush 20, 2) := by decide +kernel
theorem dX7_mouldIn_65 : decode cX7_mouldIn 65 = .ok (.goto 5, 3) := by decide +kernel
theorem dX7_mouldIn_68 : decode cX7_mouldIn 68 = .ok (.iload 5, 2) := by decide +kernel
theorem dX7_mouldIn_70 : decode cX7_mouldIn 70 = .ok (.ireturn, 1) := by decide +kernel
set_option maxRecDepth 20000 in
theorem ggX7_firstIn_X7_mouldIn : GoodIn wsX7_firstIn wsX7_mouldIn := goodIn_r _ [6, 1, 7, 8, 9, 10, 11, 12, 13, 14, 15, 16, 17, 18, 19, 20, 21, 22, 23, 24, 25, 26, 27, 28, 29, 30, 31] (by decide +kernel) (by decide +kernel)
set_option maxRecDepth 20000 in
theorem gX7_firstIn_X7_mouldIn : GoodIn wsX7_firstIn (wsV RX7 84 RX7 yX7_mouldIn wsX7_mouldIn) := goodIn_app (goodIn_of _ (by decide +kernel)) ggX7_firstIn_X7_mouldIn
theorem dX7_firstIn_0 : decode cX7_firstIn 0 = .ok (.aload_n 0, 1) := by decide +kernel
theorem dX7_firstIn_1 : decode cX7_firstIn 1 = .ok (.getfield 13, 3) := by decide +kernel
theorem dX7_firstIn_4 : decode cX7_firstIn 4 = .ok (.iconst 5, 1) := by decide +kernel
theorem dX7_firstIn_5 : decode cX7_firstIn 5 = .ok (.iload_n 1, 1) := by decide +kernel
theorem dX7_firstIn_6 : decode cX7_firstIn 6 = .ok (.imul, 1) := by decide +kernel
theorem dX7_firstIn_7 : decode cX7_firstIn 7 = .ok (.iaload, 1) := by decide +kernel
theorem dX7_firstIn_8 : decode cX7_firstIn 8 = .ok (.istore_n 3, 1) := by decide +kernel
theorem dX7_firstIn_9 : decode cX7_firstIn 9 = .ok (.aload_n 0, 1) := by decide +kernel
theorem dX7_firstIn_10 : decode cX7_firstIn 10 = .ok (.getfield 13, 3) := by decide +kernel
theorem dX7_firstIn_13 : decode cX7_firstIn 13 = .ok (.iconst 5, 1) := by decide +kernel
theorem dX7_firstIn_14 : decode cX7_firstIn 14 = .ok (.iload_n 1, 1) := by decide +kernel
theorem dX7_firstIn_15 : decode cX7_firstIn 15 = .ok (.imul, 1) := by decide +kernel
theorem dX7_firstIn_16 : decode cX7_firstIn 16 = .ok (.iconst 1, 1) := by decide +kernel
theorem dX7_firstIn_17 : decode cX7_firstIn 17 = .ok (.iadd, 1) := by decide +kernel
theorem dX7_firstIn_18 : decode cX7_firstIn 18 = .ok (.iaload, 1) := by decide +kernel
theorem dX7_firstIn_19 : decode cX7_firstIn 19 = .ok (.aload_n 0, 1) := by decide +kernel
theorem dX7_firstIn_20 : decode cX7_firstIn 20 = .ok (.iload_n 1, 1) := by decide +kernel
theorem dX7_firstIn_21 : decode cX7_firstIn 21 = .ok (.iload_n 2, 1) := by decide +kernel
theorem dX7_firstIn_22 : decode cX7_firstIn 22 = .ok (.invokevirtual 84, 3) := by decide +kernel
theorem dX7_firstIn_25 : decode cX7_firstIn 25 = .ok (.isub, 1) := by decide +kernel
theorem dX7_firstIn_26 : decode cX7_firstIn 26 = .ok (.istore 4, 2) := by decide +kernel
theorem dX7_firstIn_28 : decode cX7_firstIn 28 = .ok (.iload_n 3, 1) := by decide +kernel
theorem dX7_firstIn_29 : decode cX7_firstIn 29 = .ok (.iconst 4, 1) := by decide +kernel
theorem dX7_firstIn_30 : decode cX7_firstIn 30 = .ok (.if_icmp .ne 10, 3) := by decide +kernel
theorem dX7_firstIn_33 : decode cX7_firstIn 33 = .ok (.iconst 2, 1) := by decide +kernel
theorem dX7_firstIn_34 : decode cX7_firstIn 34 = .ok (.iload 4, 2) := by decide +kernel
theorem dX7_firstIn_36 : decode cX7_firstIn 36 = .ok (.imul, 1) := by decide +kernel
theorem dX7_firstIn_37 : decode cX7_firstIn 37 = .ok (.goto 24, 3) := by decide +kernel
theorem dX7_firstIn_40 : decode cX7_firstIn 40 = .ok (.iload_n 3, 1) := by decide +kernel
theorem dX7_firstIn_41 : decode cX7_firstIn 41 = .ok (.iconst 3, 1) := by decide +kernel
theorem dX7_firstIn_42 : decode cX7_firstIn 42 = .ok (.if_icmp .ne 17, 3) := by decide +kernel
theorem dX7_firstIn_45 : decode cX7_firstIn 45 = .ok (.iload_n 2, 1) := by decide +kernel
theorem dX7_firstIn_46 : decode cX7_firstIn 46 = .ok (.iconst 2, 1) := by decide +kernel
theorem dX7_firstIn_47 : decode cX7_firstIn 47 = .ok (.irem, 1) := by decide +kernel
theorem dX7_firstIn_48 : decode cX7_firstIn 48 = .ok (.iconst 1, 1) := by decide +kernel
theorem dX7_firstIn_49 : decode cX7_firstIn 49 = .ok (.if_icmp .ne 10, 3) := by decide +kernel
theorem dX7_firstIn_52 : decode cX7_firstIn 52 = .ok (.iload 4, 2) := by decide +kernel
theorem dX7_firstIn_54 : decode cX7_firstIn 54 = .ok (.iconst 3, 1) := by decide +kernel
theorem dX7_firstIn_55 : decode cX7_firstIn 55 = .ok (.iadd, 1) := by decide +kernel
theorem dX7_firstIn_56 : decode cX7_firstIn 56 = .ok (.goto 5, 3) := by decide +kernel
theorem dX7_firstIn_59 : decode cX7_firstIn 59 = .ok (.iload 4, 2) := by decide +kernel
theorem dX7_firstIn_61 : decode cX7_firstIn 61 = .ok (.ireturn, 1) := by decide +kernel
set_option maxRecDepth 20000 in
theorem ggX7_nextNow_X7_firstIn : GoodIn wsX7_nextNow wsX7_firstIn := goodIn_r _ [7, 2, 8, 9, 10, 6, 11, 12, 13, 14, 15, 16, 17, 18, 19, 20, 21, 22, 23, 24, 25, 26, 27, 28, 29, 30, 31, 32, 33, 34, 35, 36] (by decide +kernel) (by decide +kernel)
set_option maxRecDepth 20000 in
theorem gX7_nextNow_X7_firstIn : GoodIn wsX7_nextNow (wsV RX7 88 RX7 yX7_firstIn wsX7_firstIn) := goodIn_app (goodIn_of _ (by decide +kernel)) ggX7_nextNow_X7_firstIn
theorem dX7_nextNow_0 : decode cX7_nextNow 0 = .ok (.aload_n 0, 1) := by decide +kernel
theorem dX7_nextNow_1 : decode cX7_nextNow 1 = .ok (.iload_n 1, 1) := by decide +kernel
theorem dX7_nextNow_2 : decode cX7_nextNow 2 = .ok (.aload_n 0, 1) := by decide +kernel
theorem dX7_nextNow_3 : decode cX7_nextNow 3 = .ok (.getfield 66, 3) := by decide +kernel
theorem dX7_nextNow_6 : decode cX7_nextNow 6 = .ok (.invokevirtual 88, 3) := by decide +kernel
theorem dX7_nextNow_9 : decode cX7_nextNow 9 = .ok (.aload_n 0, 1) := by decide +kernel
theorem dX7_nextNow_10 : decode cX7_nextNow 10 = .ok (.getfield 13, 3) := by decide +kernel
theorem dX7_nextNow_13 : decode cX7_nextNow 13 = .ok (.iconst 5, 1) := by decide +kernel
theorem dX7_nextNow_14 : decode cX7_nextNow 14 = .ok (.iload_n 1, 1) := by decide +kernel
theorem dX7_nextNow_15 : decode cX7_nextNow 15 = .ok (.imul, 1) := by decide +kernel
theorem dX7_nextNow_16 : decode cX7_nextNow 16 = .ok (.iconst 4, 1) := by decide +kernel
theorem dX7_nextNow_17 : decode cX7_nextNow 17 = .ok (.iadd, 1) := by decide +kernel
theorem dX7_nextNow_18 : decode cX7_nextNow 18 = .ok (.iaload, 1) := by decide +kernel
theorem dX7_nextNow_19 : decode cX7_nextNow 19 = .ok (.isub, 1) := by decide +kernel
theorem dX7_nextNow_20 : decode cX7_nextNow 20 = .ok (.ireturn, 1) := by decide +kernel
set_option maxRecDepth 20000 in
theorem ggX7_whenOf_X7_firstIn : GoodIn wsX7_whenOf wsX7_firstIn := goodIn_r _ [7, 8, 9, 10, 11, 6, 12, 13, 14, 15, 16, 17, 18, 19, 20, 21, 22, 23, 24, 25, 26, 27, 28, 29, 30, 31, 32, 33, 34, 35, 36, 37] (by decide +kernel) (by decide +kernel)
set_option maxRecDepth 20000 in
theorem gX7_whenOf_X7_firstIn : GoodIn wsX7_whenOf (wsV RX7 88 RX7 yX7_firstIn wsX7_firstIn) := goodIn_app (goodIn_of _ (by decide +kernel)) ggX7_whenOf_X7_firstIn
theorem dX7_whenOf_0 : decode cX7_whenOf 0 = .ok (.iconst (-1), 1) := by decide +kernel
theorem dX7_whenOf_1 : decode cX7_whenOf 1 = .ok (.istore_n 2, 1) := by decide +kernel
theorem dX7_whenOf_2 : decode cX7_whenOf 2 = .ok (.ldc 91, 2) := by decide +kernel
theorem dX7_whenOf_4 : decode cX7_whenOf 4 = .ok (.istore_n 3, 1) := by decide +kernel
theorem dX7_whenOf_5 : decode cX7_whenOf 5 = .ok (.iconst 0, 1) := by decide +kernel
theorem dX7_whenOf_6 : decode cX7_whenOf 6 = .ok (.istore 4, 2) := by decide +kernel
theorem dX7_whenOf_8 : decode cX7_whenOf 8 = .ok (.iload 4, 2) := by decide +kernel
theorem dX7_whenOf_10 : decode cX7_whenOf 10 = .ok (.bipush 10, 2) := by decide +kernel
theorem dX7_whenOf_12 : decode cX7_whenOf 12 = .ok (.if_icmp .ge 49, 3) := by decide +kernel
theorem dX7_whenOf_15 : decode cX7_whenOf 15 = .ok (.aload_n 0, 1) := by decide +kernel
theorem dX7_whenOf_16 : decode cX7_whenOf 16 = .ok (.iload_n 1, 1) := by decide +kernel
theorem dX7_whenOf_17 : decode cX7_whenOf 17 = .ok (.aload_n 0, 1) := by decide +kernel
theorem dX7_whenOf_18 : decode cX7_whenOf 18 = .ok (.getfield 66, 3) := by decide +kernel
theorem dX7_whenOf_21 : decode cX7_whenOf 21 = .ok (.iload 4, 2) := by decide +kernel
theorem dX7_whenOf_23 : decode cX7_whenOf 23 = .ok (.iadd, 1) := by decide +kernel
theorem dX7_whenOf_24 : decode cX7_whenOf 24 = .ok (.invokevirtual 88, 3) := by decide +kernel
theorem dX7_whenOf_27 : decode cX7_whenOf 27 = .ok (.istore 5, 2) := by decide +kernel
theorem dX7_whenOf_29 : decode cX7_whenOf 29 = .ok (.iload 5, 2) := by decide +kernel
theorem dX7_whenOf_31 : decode cX7_whenOf 31 = .ok (.iload_n 3, 1) := by decide +kernel
theorem dX7_whenOf_32 : decode cX7_whenOf 32 = .ok (.if_icmp .le 8, 3) := by decide +kernel
theorem dX7_whenOf_35 : decode cX7_whenOf 35 = .ok (.iload 4, 2) := by decide +kernel
theorem dX7_whenOf_37 : decode cX7_whenOf 37 = .ok (.goto 4, 3) := by decide +kernel
theorem dX7_whenOf_40 : decode cX7_whenOf 40 = .ok (.iload_n 2, 1) := by decide +kernel
theorem dX7_whenOf_41 : decode cX7_whenOf 41 = .ok (.istore_n 2, 1) := by decide +kernel
theorem dX7_whenOf_42 : decode cX7_whenOf 42 = .ok (.iload 5, 2) := by decide +kernel
theorem dX7_whenOf_44 : decode cX7_whenOf 44 = .ok (.iload_n 3, 1) := by decide +kernel
theorem dX7_whenOf_45 : decode cX7_whenOf 45 = .ok (.if_icmp .le 8, 3) := by decide +kernel
theorem dX7_whenOf_48 : decode cX7_whenOf 48 = .ok (.iload 5, 2) := by decide +kernel
theorem dX7_whenOf_50 : decode cX7_whenOf 50 = .ok (.goto 4, 3) := by decide +kernel
theorem dX7_whenOf_53 : decode cX7_whenOf 53 = .ok (.iload_n 3, 1) := by decide +kernel
theorem dX7_whenOf_54 : decode cX7_whenOf 54 = .ok (.istore_n 3, 1) := by decide +kernel
theorem dX7_whenOf_55 : decode cX7_whenOf 55 = .ok (.iinc 4 1, 3) := by decide +kernel
theorem dX7_whenOf_58 : decode cX7_whenOf 58 = .ok (.goto (-50), 3) := by decide +kernel
theorem dX7_whenOf_61 : decode cX7_whenOf 61 = .ok (.iload_n 2, 1) := by decide +kernel
theorem dX7_whenOf_62 : decode cX7_whenOf 62 = .ok (.ireturn, 1) := by decide +kernel
set_option maxRecDepth 20000 in
theorem ggX7_tell_X7_mouldIn : GoodIn wsX7_tell wsX7_mouldIn := goodIn_r _ [7, 1, 21, 22, 23, 24, 25, 26, 27, 28, 29, 30, 31, 32, 33, 34, 35, 36, 37, 38, 39, 40, 41, 42, 43, 44, 45] (by decide +kernel) (by decide +kernel)
set_option maxRecDepth 20000 in
theorem gX7_tell_X7_mouldIn : GoodIn wsX7_tell (wsV RX7 84 RX7 yX7_mouldIn wsX7_mouldIn) := goodIn_app (goodIn_of _ (by decide +kernel)) ggX7_tell_X7_mouldIn
set_option maxRecDepth 20000 in
theorem ggX7_tell_X7_nextNow : GoodIn wsX7_tell wsX7_nextNow := goodIn_r _ [11, 2, 1, 12, 13, 14, 6, 15, 3, 4, 5, 7, 21, 22, 23, 24, 25, 26, 27, 28, 29, 30, 31, 32, 33, 34, 35, 36, 37, 38, 39, 40, 41, 42, 43, 44, 45] (by decide +kernel) (by decide +kernel)
set_option maxRecDepth 20000 in
theorem gX7_tell_X7_nextNow : GoodIn wsX7_tell (wsV RX7 92 RX7 yX7_nextNow wsX7_nextNow) := goodIn_app (goodIn_of _ (by decide +kernel)) ggX7_tell_X7_nextNow
set_option maxRecDepth 20000 in
theorem ggX7_tell_X7_whenOf : GoodIn wsX7_tell wsX7_whenOf := goodIn_r _ [19, 20, 2, 12, 13, 14, 6, 15, 1, 3, 4, 5, 7, 21, 22, 23, 24, 25, 26, 27, 28, 29, 30, 31, 32, 33, 34, 35, 36, 37, 38, 39, 40, 41, 42, 43, 44, 45] (by decide +kernel) (by decide +kernel)
set_option maxRecDepth 20000 in
theorem gX7_tell_X7_whenOf : GoodIn wsX7_tell (wsV RX7 95 RX7 yX7_whenOf wsX7_whenOf) := goodIn_app (goodIn_of _ (by decide +kernel)) ggX7_tell_X7_whenOf
theorem dX7_tell_0 : decode cX7_tell 0 = .ok (.iload_n 2, 1) := by decide +kernel
theorem dX7_tell_1 : decode cX7_tell 1 = .ok (.tableswitch 94 0 7 #[47, 47, 47, 47, 58, 68, 77, 88], 47) := by decide +kernel
theorem dX7_tell_48 : decode cX7_tell 48 = .ok (.aload_n 0, 1) := by decide +kernel
theorem dX7_tell_49 : decode cX7_tell 49 = .ok (.getfield 13, 3) := by decide +kernel
theorem dX7_tell_52 : decode cX7_tell 52 = .ok (.iconst 5, 1) := by decide +kernel
theorem dX7_tell_53 : decode cX7_tell 53 = .ok (.iload_n 1, 1) := by decide +kernel
theorem dX7_tell_54 : decode cX7_tell 54 = .ok (.imul, 1) := by decide +kernel
theorem dX7_tell_55 : decode cX7_tell 55 = .ok (.iload_n 2, 1) := by decide +kernel
theorem dX7_tell_56 : decode cX7_tell 56 = .ok (.iadd, 1) := by decide +kernel
theorem dX7_tell_57 : decode cX7_tell 57 = .ok (.iaload, 1) := by decide +kernel
theorem dX7_tell_58 : decode cX7_tell 58 = .ok (.ireturn, 1) := by decide +kernel
theorem dX7_tell_59 : decode cX7_tell 59 = .ok (.aload_n 0, 1) := by decide +kernel
theorem dX7_tell_60 : decode cX7_tell 60 = .ok (.iload_n 1, 1) := by decide +kernel
theorem dX7_tell_61 : decode cX7_tell 61 = .ok (.aload_n 0, 1) := by decide +kernel
theorem dX7_tell_62 : decode cX7_tell 62 = .ok (.getfield 66, 3) := by decide +kernel
theorem dX7_tell_65 : decode cX7_tell 65 = .ok (.invokevirtual 84, 3) := by decide +kernel
theorem dX7_tell_68 : decode cX7_tell 68 = .ok (.ireturn, 1) := by decide +kernel
theorem dX7_tell_69 : decode cX7_tell 69 = .ok (.aload_n 0, 1) := by decide +kernel
theorem dX7_tell_70 : decode cX7_tell 70 = .ok (.iload_n 1, 1) := by decide +kernel
theorem dX7_tell_71 : decode cX7_tell 71 = .ok (.invokevirtual 92, 3) := by decide +kernel
theorem dX7_tell_74 : decode cX7_tell 74 = .ok (.bipush 100, 2) := by decide +kernel
theorem dX7_tell_76 : decode cX7_tell 76 = .ok (.iadd, 1) := by decide +kernel
theorem dX7_tell_77 : decode cX7_tell 77 = .ok (.ireturn, 1) := by decide +kernel
theorem dX7_tell_78 : decode cX7_tell 78 = .ok (.aload_n 0, 1) := by decide +kernel
theorem dX7_tell_79 : decode cX7_tell 79 = .ok (.getfield 13, 3) := by decide +kernel
theorem dX7_tell_82 : decode cX7_tell 82 = .ok (.iconst 5, 1) := by decide +kernel
theorem dX7_tell_83 : decode cX7_tell 83 = .ok (.iload_n 1, 1) := by decide +kernel
theorem dX7_tell_84 : decode cX7_tell 84 = .ok (.imul, 1) := by decide +kernel
theorem dX7_tell_85 : decode cX7_tell 85 = .ok (.iconst 4, 1) := by decide +kernel
theorem dX7_tell_86 : decode cX7_tell 86 = .ok (.iadd, 1) := by decide +kernel
theorem dX7_tell_87 : decode cX7_tell 87 = .ok (.iaload, 1) := by decide +kernel
theorem dX7_tell_88 : decode cX7_tell 88 = .ok (.ireturn, 1) := by decide +kernel
theorem dX7_tell_89 : decode cX7_tell 89 = .ok (.aload_n 0, 1) := by decide +kernel
theorem dX7_tell_90 : decode cX7_tell 90 = .ok (.iload_n 1, 1) := by decide +kernel
theorem dX7_tell_91 : decode cX7_tell 91 = .ok (.invokevirtual 95, 3) := by decide +kernel
theorem dX7_tell_94 : decode cX7_tell 94 = .ok (.ireturn, 1) := by decide +kernel
theorem dX7_tell_95 : decode cX7_tell 95 = .ok (.bipush (-102), 2) := by decide +kernel
theorem dX7_tell_97 : decode cX7_tell 97 = .ok (.ireturn, 1) := by decide +kernel
set_option maxRecDepth 20000 in
theorem ggX7_jar_X7_isJar : GoodIn wsX7_jar wsX7_isJar := goodIn_r _ [5, 6, 7, 8, 4, 9, 33, 34, 35, 36, 37, 38, 39, 40, 41, 42, 43, 44, 45, 46, 47, 48, 49, 50, 51, 52, 53, 54, 55, 56, 57] (by decide +kernel) (by decide +kernel)
set_option maxRecDepth 20000 in
theorem gX7_jar_X7_isJar : GoodIn wsX7_jar (wsV RX7 98 RX7 yX7_isJar wsX7_isJar) := goodIn_app (goodIn_of _ (by decide +kernel)) ggX7_jar_X7_isJar
set_option maxRecDepth 20000 in
theorem ggX7_jar_X7_tell : GoodIn wsX7_jar wsX7_tell := goodIn_r _ [13, 14, 15, 16, 17, 18, 4, 19, 20, 21, 22, 23, 24, 25, 26, 27, 28, 29, 30, 31, 32, 33, 34, 35, 36, 37, 38, 39, 40, 41, 42, 43, 44, 45, 46, 47, 48, 49, 50, 51, 52, 53, 54, 55, 56, 57] (by decide +kernel) (by decide +kernel)
set_option maxRecDepth 20000 in
theorem gX7_jar_X7_tell : GoodIn wsX7_jar (wsV RX7 102 RX7 yX7_tell wsX7_tell) := goodIn_app (goodIn_of _ (by decide +kernel)) ggX7_jar_X7_tell
theorem dX7_jar_0 : decode cX7_jar 0 = .ok (.aload_n 0, 1) := by decide +kernel
theorem dX7_jar_1 : decode cX7_jar 1 = .ok (.iload_n 1, 1) := by decide +kernel
theorem dX7_jar_2 : decode cX7_jar 2 = .ok (.invokevirtual 98, 3) := by decide +kernel
theorem dX7_jar_5 : decode cX7_jar 5 = .ok (.ifCond .eq 12, 3) := by decide +kernel
theorem dX7_jar_8 : decode cX7_jar 8 = .ok (.aload_n 0, 1) := by decide +kernel
theorem dX7_jar_9 : decode cX7_jar 9 = .ok (.iload_n 1, 1) := by decide +kernel
theorem dX7_jar_10 : decode cX7_jar 10 = .ok (.iload_n 2, 1) := by decide +kernel
theorem dX7_jar_11 : decode cX7_jar 11 = .ok (.invokevirtual 102, 3) := by decide +kernel
theorem dX7_jar_14 : decode cX7_jar 14 = .ok (.goto 5, 3) := by decide +kernel
theorem dX7_jar_17 : decode cX7_jar 17 = .ok (.bipush (-101), 2) := by decide +kernel
theorem dX7_jar_19 : decode cX7_jar 19 = .ok (.ireturn, 1) := by decide +kernel
set_option maxRecDepth 20000 in
theorem ggX7_as_X7_isJar : GoodIn wsX7_as wsX7_isJar := goodIn_r _ [7, 8, 9, 10, 6, 11, 12, 13, 14, 15, 16, 17, 18, 19, 20, 21, 22, 23, 24, 25, 26, 27, 28, 29, 30, 31, 32, 33, 34, 35, 36] (by decide +kernel) (by decide +kernel)
set_option maxRecDepth 20000 in
theorem gX7_as_X7_isJar : GoodIn wsX7_as (wsV RX7 98 RX7 yX7_isJar wsX7_isJar) := goodIn_app (goodIn_of _ (by decide +kernel)) ggX7_as_X7_isJar
set_option maxRecDepth 20000 in
theorem ggX7_as_X7_in : GoodIn wsX7_as wsX7_in := goodIn_r _ [11] (by decide +kernel) (by decide +kernel)
set_option maxRecDepth 20000 in
theorem gX7_as_X7_in : GoodIn wsX7_as (va_wsS RX7 40 yX7_in wsX7_in) := goodIn_app (goodIn_of _ (by decide +kernel)) ggX7_as_X7_in
theorem dX7_as_0 : decode cX7_as 0 = .ok (.aload_n 0, 1) := by decide +kernel
theorem dX7_as_1 : decode cX7_as 1 = .ok (.iload_n 1, 1) := by decide +kernel
theorem dX7_as_2 : decode cX7_as 2 = .ok (.invokevirtual 98, 3) := by decide +kernel
theorem dX7_as_5 : decode cX7_as 5 = .ok (.ifCond .ne 6, 3) := by decide +kernel
theorem dX7_as_8 : decode cX7_as 8 = .ok (.bipush (-101), 2) := by decide +kernel
theorem dX7_as_10 : decode cX7_as 10 = .ok (.ireturn, 1) := by decide +kernel
theorem dX7_as_11 : decode cX7_as 11 = .ok (.iload_n 2, 1) := by decide +kernel
theorem dX7_as_12 : decode cX7_as 12 = .ok (.i2l, 1) := by decide +kernel
theorem dX7_as_13 : decode cX7_as 13 = .ok (.lconst 0, 1) := by decide +kernel
theorem dX7_as_14 : decode cX7_as 14 = .ok (.ldc2_w 105, 3) := by decide +kernel
theorem dX7_as_17 : decode cX7_as 17 = .ok (.invokestatic 40, 3) := by decide +kernel
theorem dX7_as_20 : decode cX7_as 20 = .ok (.ifCond .ne 6, 3) := by decide +kernel
theorem dX7_as_23 : decode cX7_as 23 = .ok (.bipush (-102), 2) := by decide +kernel
theorem dX7_as_25 : decode cX7_as 25 = .ok (.ireturn, 1) := by decide +kernel
theorem dX7_as_26 : decode cX7_as 26 = .ok (.aload_n 0, 1) := by decide +kernel
theorem dX7_as_27 : decode cX7_as 27 = .ok (.getfield 13, 3) := by decide +kernel
theorem dX7_as_30 : decode cX7_as 30 = .ok (.iconst 5, 1) := by decide +kernel
theorem dX7_as_31 : decode cX7_as 31 = .ok (.iload_n 1, 1) := by decide +kernel
theorem dX7_as_32 : decode cX7_as 32 = .ok (.imul, 1) := by decide +kernel
theorem dX7_as_33 : decode cX7_as 33 = .ok (.iaload, 1) := by decide +kernel
theorem dX7_as_34 : decode cX7_as 34 = .ok (.istore_n 3, 1) := by decide +kernel
theorem dX7_as_35 : decode cX7_as 35 = .ok (.iload_n 2, 1) := by decide +kernel
theorem dX7_as_36 : decode cX7_as 36 = .ok (.ifCond .eq 18, 3) := by decide +kernel
theorem dX7_as_39 : decode cX7_as 39 = .ok (.iload_n 2, 1) := by decide +kernel
theorem dX7_as_40 : decode cX7_as 40 = .ok (.iload_n 3, 1) := by decide +kernel
theorem dX7_as_41 : decode cX7_as 41 = .ok (.if_icmp .eq 13, 3) := by decide +kernel
theorem dX7_as_44 : decode cX7_as 44 = .ok (.iload_n 2, 1) := by decide +kernel
theorem dX7_as_45 : decode cX7_as 45 = .ok (.iconst 2, 1) := by decide +kernel
theorem dX7_as_46 : decode cX7_as 46 = .ok (.if_icmp .ne 12, 3) := by decide +kernel
theorem dX7_as_49 : decode cX7_as 49 = .ok (.iload_n 3, 1) := by decide +kernel
theorem dX7_as_50 : decode cX7_as 50 = .ok (.iconst 4, 1) := by decide +kernel
theorem dX7_as_51 : decode cX7_as 51 = .ok (.if_icmp .ne 7, 3) := by decide +kernel
theorem dX7_as_54 : decode cX7_as 54 = .ok (.iconst 1, 1) := by decide +kernel
theorem dX7_as_55 : decode cX7_as 55 = .ok (.goto 4, 3) := by decide +kernel
theorem dX7_as_58 : decode cX7_as 58 = .ok (.iconst 0, 1) := by decide +kernel
theorem dX7_as_59 : decode cX7_as 59 = .ok (.istore 4, 2) := by decide +kernel
theorem dX7_as_61 : decode cX7_as 61 = .ok (.iload 4, 2) := by decide +kernel
theorem dX7_as_63 : decode cX7_as 63 = .ok (.ifCond .eq 7, 3) := by decide +kernel
theorem dX7_as_66 : decode cX7_as 66 = .ok (.iload_n 1, 1) := by decide +kernel
theorem dX7_as_67 : decode cX7_as 67 = .ok (.goto 4, 3) := by decide +kernel
theorem dX7_as_70 : decode cX7_as 70 = .ok (.iconst (-1), 1) := by decide +kernel
theorem dX7_as_71 : decode cX7_as 71 = .ok (.ireturn, 1) := by decide +kernel
set_option maxRecDepth 20000 in
theorem ggX7_worth_X7_isJar : GoodIn wsX7_worth wsX7_isJar := goodIn_r _ [6, 7, 8, 9, 5, 10, 20, 21, 22, 23, 24, 25, 26, 27, 28, 29, 30, 31, 32, 33, 34, 35, 36, 37, 38, 39, 40, 41, 42, 43, 44] (by decide +kernel) (by decide +kernel)
set_option maxRecDepth 20000 in
theorem gX7_worth_X7_isJar : GoodIn wsX7_worth (wsV RX7 98 RX7 yX7_isJar wsX7_isJar) := goodIn_app (goodIn_of _ (by decide +kernel)) ggX7_worth_X7_isJar
set_option maxRecDepth 20000 in
theorem ggX7_worth_X7_in : GoodIn wsX7_worth wsX7_in := goodIn_r _ [10] (by decide +kernel) (by decide +kernel)
set_option maxRecDepth 20000 in
theorem gX7_worth_X7_in : GoodIn wsX7_worth (va_wsS RX7 40 yX7_in wsX7_in) := goodIn_app (goodIn_of _ (by decide +kernel)) ggX7_worth_X7_in
set_option maxRecDepth 20000 in
theorem ggX7_worth_X7_firstIn : GoodIn wsX7_worth wsX7_firstIn := goodIn_r _ [14, 15, 16, 17, 18, 5, 19, 20, 21, 22, 23, 24, 25, 26, 27, 28, 29, 30, 31, 32, 33, 34, 35, 36, 37, 38, 39, 40, 41, 42, 43, 44] (by decide +kernel) (by decide +kernel)
set_option maxRecDepth 20000 in
theorem gX7_worth_X7_firstIn : GoodIn wsX7_worth (wsV RX7 88 RX7 yX7_firstIn wsX7_firstIn) := goodIn_app (goodIn_of _ (by decide +kernel)) ggX7_worth_X7_firstIn
theorem dX7_worth_0 : decode cX7_worth 0 = .ok (.aload_n 0, 1) := by decide +kernel
theorem dX7_worth_1 : decode cX7_worth 1 = .ok (.iload_n 1, 1) := by decide +kernel
theorem dX7_worth_2 : decode cX7_worth 2 = .ok (.invokevirtual 98, 3) := by decide +kernel
theorem dX7_worth_5 : decode cX7_worth 5 = .ok (.ifCond .ne 6, 3) := by decide +kernel
theorem dX7_worth_8 : decode cX7_worth 8 = .ok (.bipush (-101), 2) := by decide +kernel
theorem dX7_worth_10 : decode cX7_worth 10 = .ok (.ireturn, 1) := by decide +kernel
theorem dX7_worth_11 : decode cX7_worth 11 = .ok (.iload_n 2, 1) := by decide +kernel
theorem dX7_worth_12 : decode cX7_worth 12 = .ok (.i2l, 1) := by decide +kernel
theorem dX7_worth_13 : decode cX7_worth 13 = .ok (.lconst 0, 1) := by decide +kernel
theorem dX7_worth_14 : decode cX7_worth 14 = .ok (.ldc2_w 107, 3) := by decide +kernel
theorem dX7_worth_17 : decode cX7_worth 17 = .ok (.invokestatic 40, 3) := by decide +kernel
theorem dX7_worth_20 : decode cX7_worth 20 = .ok (.ifCond .eq 15, 3) := by decide +kernel
theorem dX7_worth_23 : decode cX7_worth 23 = .ok (.aload_n 0, 1) := by decide +kernel
theorem dX7_worth_24 : decode cX7_worth 24 = .ok (.iload_n 1, 1) := by decide +kernel
theorem dX7_worth_25 : decode cX7_worth 25 = .ok (.iload_n 2, 1) := by decide +kernel
theorem dX7_worth_26 : decode cX7_worth 26 = .ok (.invokevirtual 88, 3) := by decide +kernel
theorem dX7_worth_29 : decode cX7_worth 29 = .ok (.bipush 100, 2) := by decide +kernel
theorem dX7_worth_31 : decode cX7_worth 31 = .ok (.iadd, 1) := by decide +kernel
theorem dX7_worth_32 : decode cX7_worth 32 = .ok (.goto 5, 3) := by decide +kernel
theorem dX7_worth_35 : decode cX7_worth 35 = .ok (.bipush (-102), 2) := by decide +kernel
theorem dX7_worth_37 : decode cX7_worth 37 = .ok (.ireturn, 1) := by decide +kernel
set_option maxRecDepth 20000 in
theorem ggX7_eat_X7_isJar : GoodIn wsX7_eat wsX7_isJar := goodIn_r _ [8, 9, 10, 11, 7, 12, 26, 27, 28, 29, 30, 31, 32, 33, 34, 35, 36, 37, 38, 39, 40, 41, 42, 43, 44, 45, 46, 47, 48, 49, 50] (by decide +kernel) (by decide +kernel)
set_option maxRecDepth 20000 in
theorem gX7_eat_X7_isJar : GoodIn wsX7_eat (wsV RX7 98 RX7 yX7_isJar wsX7_isJar) := goodIn_app (goodIn_of _ (by decide +kernel)) ggX7_eat_X7_isJar
set_option maxRecDepth 20000 in
theorem ggX7_eat_X7_nextNow : GoodIn wsX7_eat wsX7_nextNow := goodIn_r _ [16, 17, 1, 18, 19, 20, 7, 21, 22, 23, 24, 25, 26, 27, 28, 29, 30, 31, 32, 33, 34, 35, 36, 37, 38, 39, 40, 41, 42, 43, 44, 45, 46, 47, 48, 49, 50] (by decide +kernel) (by decide +kernel)
set_option maxRecDepth 20000 in
theorem gX7_eat_X7_nextNow : GoodIn wsX7_eat (wsV RX7 92 RX7 yX7_nextNow wsX7_nextNow) := goodIn_app (goodIn_of _ (by decide +kernel)) ggX7_eat_X7_nextNow
theorem dX7_eat_0 : decode cX7_eat 0 = .ok (.aload_n 0, 1) := by decide +kernel
theorem dX7_eat_1 : decode cX7_eat 1 = .ok (.iload_n 1, 1) := by decide +kernel
theorem dX7_eat_2 : decode cX7_eat 2 = .ok (.invokevirtual 98, 3) := by decide +kernel
theorem dX7_eat_5 : decode cX7_eat 5 = .ok (.ifCond .ne 6, 3) := by decide +kernel
theorem dX7_eat_8 : decode cX7_eat 8 = .ok (.bipush (-101), 2) := by decide +kernel
theorem dX7_eat_10 : decode cX7_eat 10 = .ok (.ireturn, 1) := by decide +kernel
theorem dX7_eat_11 : decode cX7_eat 11 = .ok (.aload_n 0, 1) := by decide +kernel
theorem dX7_eat_12 : decode cX7_eat 12 = .ok (.getfield 13, 3) := by decide +kernel
theorem dX7_eat_15 : decode cX7_eat 15 = .ok (.iconst 5, 1) := by decide +kernel
theorem dX7_eat_16 : decode cX7_eat 16 = .ok (.iload_n 1, 1) := by decide +kernel
theorem dX7_eat_17 : decode cX7_eat 17 = .ok (.imul, 1) := by decide +kernel
theorem dX7_eat_18 : decode cX7_eat 18 = .ok (.iconst 3, 1) := by decide +kernel
theorem dX7_eat_19 : decode cX7_eat 19 = .ok (.iadd, 1) := by decide +kernel
theorem dX7_eat_20 : decode cX7_eat 20 = .ok (.iaload, 1) := by decide +kernel
theorem dX7_eat_21 : decode cX7_eat 21 = .ok (.ifCond .ne 6, 3) := by decide +kernel
theorem dX7_eat_24 : decode cX7_eat 24 = .ok (.bipush (-103), 2) := by decide +kernel
theorem dX7_eat_26 : decode cX7_eat 26 = .ok (.ireturn, 1) := by decide +kernel
theorem dX7_eat_27 : decode cX7_eat 27 = .ok (.aload_n 0, 1) := by decide +kernel
theorem dX7_eat_28 : decode cX7_eat 28 = .ok (.iload_n 1, 1) := by decide +kernel
theorem dX7_eat_29 : decode cX7_eat 29 = .ok (.invokevirtual 92, 3) := by decide +kernel
theorem dX7_eat_32 : decode cX7_eat 32 = .ok (.istore_n 2, 1) := by decide +kernel
theorem dX7_eat_33 : decode cX7_eat 33 = .ok (.aload_n 0, 1) := by decide +kernel
theorem dX7_eat_34 : decode cX7_eat 34 = .ok (.getfield 13, 3) := by decide +kernel
theorem dX7_eat_37 : decode cX7_eat 37 = .ok (.iconst 5, 1) := by decide +kernel
theorem dX7_eat_38 : decode cX7_eat 38 = .ok (.iload_n 1, 1) := by decide +kernel
theorem dX7_eat_39 : decode cX7_eat 39 = .ok (.imul, 1) := by decide +kernel
theorem dX7_eat_40 : decode cX7_eat 40 = .ok (.iconst 3, 1) := by decide +kernel
theorem dX7_eat_41 : decode cX7_eat 41 = .ok (.iadd, 1) := by decide +kernel
theorem dX7_eat_42 : decode cX7_eat 42 = .ok (.dup2, 1) := by decide +kernel
theorem dX7_eat_43 : decode cX7_eat 43 = .ok (.iaload, 1) := by decide +kernel
theorem dX7_eat_44 : decode cX7_eat 44 = .ok (.iconst 1, 1) := by decide +kernel
theorem dX7_eat_45 : decode cX7_eat 45 = .ok (.isub, 1) := by decide +kernel
theorem dX7_eat_46 : decode cX7_eat 46 = .ok (.iastore, 1) := by decide +kernel
theorem dX7_eat_47 : decode cX7_eat 47 = .ok (.aload_n 0, 1) := by decide +kernel
theorem dX7_eat_48 : decode cX7_eat 48 = .ok (.getfield 13, 3) := by decide +kernel
theorem dX7_eat_51 : decode cX7_eat 51 = .ok (.iconst 5, 1) := by decide +kernel
theorem dX7_eat_52 : decode cX7_eat 52 = .ok (.iload_n 1, 1) := by decide +kernel
theorem dX7_eat_53 : decode cX7_eat 53 = .ok (.imul, 1) := by decide +kernel
theorem dX7_eat_54 : decode cX7_eat 54 = .ok (.iconst 4, 1) := by decide +kernel
theorem dX7_eat_55 : decode cX7_eat 55 = .ok (.iadd, 1) := by decide +kernel
theorem dX7_eat_56 : decode cX7_eat 56 = .ok (.dup2, 1) := by decide +kernel
theorem dX7_eat_57 : decode cX7_eat 57 = .ok (.iaload, 1) := by decide +kernel
theorem dX7_eat_58 : decode cX7_eat 58 = .ok (.iconst 1, 1) := by decide +kernel
theorem dX7_eat_59 : decode cX7_eat 59 = .ok (.iadd, 1) := by decide +kernel
theorem dX7_eat_60 : decode cX7_eat 60 = .ok (.iastore, 1) := by decide +kernel
theorem dX7_eat_61 : decode cX7_eat 61 = .ok (.aload_n 0, 1) := by decide +kernel
theorem dX7_eat_62 : decode cX7_eat 62 = .ok (.dup, 1) := by decide +kernel
theorem dX7_eat_63 : decode cX7_eat 63 = .ok (.getfield 69, 3) := by decide +kernel
theorem dX7_eat_66 : decode cX7_eat 66 = .ok (.iload_n 2, 1) := by decide +kernel
theorem dX7_eat_67 : decode cX7_eat 67 = .ok (.iadd, 1) := by decide +kernel
theorem dX7_eat_68 : decode cX7_eat 68 = .ok (.putfield 69, 3) := by decide +kernel
theorem dX7_eat_71 : decode cX7_eat 71 = .ok (.aload_n 0, 1) := by decide +kernel
theorem dX7_eat_72 : decode cX7_eat 72 = .ok (.dup, 1) := by decide +kernel
theorem dX7_eat_73 : decode cX7_eat 73 = .ok (.getfield 72, 3) := by decide +kernel
theorem dX7_eat_76 : decode cX7_eat 76 = .ok (.iconst 1, 1) := by decide +kernel
theorem dX7_eat_77 : decode cX7_eat 77 = .ok (.iadd, 1) := by decide +kernel
theorem dX7_eat_78 : decode cX7_eat 78 = .ok (.putfield 72, 3) := by decide +kernel
theorem dX7_eat_81 : decode cX7_eat 81 = .ok (.iload_n 2, 1) := by decide +kernel
theorem dX7_eat_82 : decode cX7_eat 82 = .ok (.bipush 100, 2) := by decide +kernel
theorem dX7_eat_84 : decode cX7_eat 84 = .ok (.iadd, 1) := by decide +kernel
theorem dX7_eat_85 : decode cX7_eat 85 = .ok (.ireturn, 1) := by decide +kernel
set_option maxRecDepth 20000 in
theorem ggX7_wasps_X7_isJar : GoodIn wsX7_wasps wsX7_isJar := goodIn_r _ [7, 8, 9, 10, 6, 11, 12, 13, 14, 15, 16, 17, 18, 19, 20, 21, 22, 23, 24, 25, 26, 27, 28, 29, 30, 31, 32, 33, 34, 35, 36] (by decide +kernel) (by decide +kernel)
set_option maxRecDepth 20000 in
theorem gX7_wasps_X7_isJar : GoodIn wsX7_wasps (wsV RX7 98 RX7 yX7_isJar wsX7_isJar) := goodIn_app (goodIn_of _ (by decide +kernel)) ggX7_wasps_X7_isJar
theorem dX7_wasps_0 : decode cX7_wasps 0 = .ok (.aload_n 0, 1) := by decide +kernel
theorem dX7_wasps_1 : decode cX7_wasps 1 = .ok (.iload_n 1, 1) := by decide +kernel
theorem dX7_wasps_2 : decode cX7_wasps 2 = .ok (.invokevirtual 98, 3) := by decide +kernel
theorem dX7_wasps_5 : decode cX7_wasps 5 = .ok (.ifCond .ne 6, 3) := by decide +kernel
theorem dX7_wasps_8 : decode cX7_wasps 8 = .ok (.bipush (-101), 2) := by decide +kernel
theorem dX7_wasps_10 : decode cX7_wasps 10 = .ok (.ireturn, 1) := by decide +kernel
theorem dX7_wasps_11 : decode cX7_wasps 11 = .ok (.aload_n 0, 1) := by decide +kernel
theorem dX7_wasps_12 : decode cX7_wasps 12 = .ok (.getfield 13, 3) := by decide +kernel
theorem dX7_wasps_15 : decode cX7_wasps 15 = .ok (.iconst 5, 1) := by decide +kernel
theorem dX7_wasps_16 : decode cX7_wasps 16 = .ok (.iload_n 1, 1) := by decide +kernel
theorem dX7_wasps_17 : decode cX7_wasps 17 = .ok (.imul, 1) := by decide +kernel
theorem dX7_wasps_18 : decode cX7_wasps 18 = .ok (.iconst 3, 1) := by decide +kernel
theorem dX7_wasps_19 : decode cX7_wasps 19 = .ok (.iadd, 1) := by decide +kernel
theorem dX7_wasps_20 : decode cX7_wasps 20 = .ok (.iaload, 1) := by decide +kernel
theorem dX7_wasps_21 : decode cX7_wasps 21 = .ok (.ifCond .ne 6, 3) := by decide +kernel
theorem dX7_wasps_24 : decode cX7_wasps 24 = .ok (.bipush (-103), 2) := by decide +kernel
theorem dX7_wasps_26 : decode cX7_wasps 26 = .ok (.ireturn, 1) := by decide +kernel
theorem dX7_wasps_27 : decode cX7_wasps 27 = .ok (.aload_n 0, 1) := by decide +kernel
theorem dX7_wasps_28 : decode cX7_wasps 28 = .ok (.getfield 13, 3) := by decide +kernel
theorem dX7_wasps_31 : decode cX7_wasps 31 = .ok (.iconst 5, 1) := by decide +kernel
theorem dX7_wasps_32 : decode cX7_wasps 32 = .ok (.iload_n 1, 1) := by decide +kernel
theorem dX7_wasps_33 : decode cX7_wasps 33 = .ok (.imul, 1) := by decide +kernel
theorem dX7_wasps_34 : decode cX7_wasps 34 = .ok (.iconst 3, 1) := by decide +kernel
theorem dX7_wasps_35 : decode cX7_wasps 35 = .ok (.iadd, 1) := by decide +kernel
theorem dX7_wasps_36 : decode cX7_wasps 36 = .ok (.dup2, 1) := by decide +kernel
theorem dX7_wasps_37 : decode cX7_wasps 37 = .ok (.iaload, 1) := by decide +kernel
theorem dX7_wasps_38 : decode cX7_wasps 38 = .ok (.iconst 1, 1) := by decide +kernel
theorem dX7_wasps_39 : decode cX7_wasps 39 = .ok (.isub, 1) := by decide +kernel
theorem dX7_wasps_40 : decode cX7_wasps 40 = .ok (.iastore, 1) := by decide +kernel
theorem dX7_wasps_41 : decode cX7_wasps 41 = .ok (.aload_n 0, 1) := by decide +kernel
theorem dX7_wasps_42 : decode cX7_wasps 42 = .ok (.dup, 1) := by decide +kernel
theorem dX7_wasps_43 : decode cX7_wasps 43 = .ok (.getfield 75, 3) := by decide +kernel
theorem dX7_wasps_46 : decode cX7_wasps 46 = .ok (.iconst 1, 1) := by decide +kernel
theorem dX7_wasps_47 : decode cX7_wasps 47 = .ok (.iadd, 1) := by decide +kernel
theorem dX7_wasps_48 : decode cX7_wasps 48 = .ok (.putfield 75, 3) := by decide +kernel
theorem dX7_wasps_51 : decode cX7_wasps 51 = .ok (.aload_n 0, 1) := by decide +kernel
theorem dX7_wasps_52 : decode cX7_wasps 52 = .ok (.getfield 13, 3) := by decide +kernel
theorem dX7_wasps_55 : decode cX7_wasps 55 = .ok (.iconst 5, 1) := by decide +kernel
theorem dX7_wasps_56 : decode cX7_wasps 56 = .ok (.iload_n 1, 1) := by decide +kernel
theorem dX7_wasps_57 : decode cX7_wasps 57 = .ok (.imul, 1) := by decide +kernel
theorem dX7_wasps_58 : decode cX7_wasps 58 = .ok (.iconst 3, 1) := by decide +kernel
theorem dX7_wasps_59 : decode cX7_wasps 59 = .ok (.iadd, 1) := by decide +kernel
theorem dX7_wasps_60 : decode cX7_wasps 60 = .ok (.iaload, 1) := by decide +kernel
theorem dX7_wasps_61 : decode cX7_wasps 61 = .ok (.ireturn, 1) := by decide +kernel
theorem dX7_noneEaten_0 : decode cX7_noneEaten 0 = .ok (.iconst 0, 1) := by decide +kernel
theorem dX7_noneEaten_1 : decode cX7_noneEaten 1 = .ok (.istore_n 1, 1) := by decide +kernel
theorem dX7_noneEaten_2 : decode cX7_noneEaten 2 = .ok (.iload_n 1, 1) := by decide +kernel
theorem dX7_noneEaten_3 : decode cX7_noneEaten 3 = .ok (.aload_n 0, 1) := by decide +kernel
theorem dX7_noneEaten_4 : decode cX7_noneEaten 4 = .ok (.getfield 63, 3) := by decide +kernel
theorem dX7_noneEaten_7 : decode cX7_noneEaten 7 = .ok (.if_icmp .ge 20, 3) := by decide +kernel
theorem dX7_noneEaten_10 : decode cX7_noneEaten 10 = .ok (.aload_n 0, 1) := by decide +kernel
theorem dX7_noneEaten_11 : decode cX7_noneEaten 11 = .ok (.getfield 13, 3) := by decide +kernel
theorem dX7_noneEaten_14 : decode cX7_noneEaten 14 = .ok (.iconst 5, 1) := by decide +kernel
theorem dX7_noneEaten_15 : decode cX7_noneEaten 15 = .ok (.iload_n 1, 1) := by decide +kernel
theorem dX7_noneEaten_16 : decode cX7_noneEaten 16 = .ok (.imul, 1) := by decide +kernel
theorem dX7_noneEaten_17 : decode cX7_noneEaten 17 = .ok (.iconst 4, 1) := by decide +kernel
theorem dX7_noneEaten_18 : decode cX7_noneEaten 18 = .ok (.iadd, 1) := by decide +kernel
theorem dX7_noneEaten_19 : decode cX7_noneEaten 19 = .ok (.iconst 0, 1) := by decide +kernel
theorem dX7_noneEaten_20 : decode cX7_noneEaten 20 = .ok (.iastore, 1) := by decide +kernel
theorem dX7_noneEaten_21 : decode cX7_noneEaten 21 = .ok (.iinc 1 1, 3) := by decide +kernel
theorem dX7_noneEaten_24 : decode cX7_noneEaten 24 = .ok (.goto (-22), 3) := by decide +kernel
theorem dX7_noneEaten_27 : decode cX7_noneEaten 27 = .ok (.return_, 1) := by decide +kernel
set_option maxRecDepth 20000 in
theorem ggX7_year_X7_lacks : GoodIn wsX7_year wsX7_lacks := goodIn_r _ [6, 7, 13, 14, 15, 16, 17, 18, 19, 20, 21, 22, 23, 24, 25, 26, 27, 28, 29, 30, 31, 32, 33, 34, 35, 36, 37] (by decide +kernel) (by decide +kernel)
set_option maxRecDepth 20000 in
theorem gX7_year_X7_lacks : GoodIn wsX7_year (wsV RX7 109 RX7 yX7_lacks wsX7_lacks) := goodIn_app (goodIn_of _ (by decide +kernel)) ggX7_year_X7_lacks
set_option maxRecDepth 20000 in
theorem ggX7_year_X7_noneEaten : GoodIn wsX7_year wsX7_noneEaten := goodIn_r _ [11, 7, 12, 13, 14, 15, 16, 17, 18, 19, 20, 21, 22, 23, 24, 25, 26, 27, 28, 29, 30, 31, 32, 33, 34, 35, 36, 37] (by decide +kernel) (by decide +kernel)
set_option maxRecDepth 20000 in
theorem gX7_year_X7_noneEaten : GoodIn wsX7_year (wsV RX7 113 RX7 yX7_noneEaten wsX7_noneEaten) := goodIn_app (goodIn_of _ (by decide +kernel)) ggX7_year_X7_noneEaten
theorem dX7_year_0 : decode cX7_year 0 = .ok (.aload_n 0, 1) := by decide +kernel
theorem dX7_year_1 : decode cX7_year 1 = .ok (.invokevirtual 109, 3) := by decide +kernel
theorem dX7_year_4 : decode cX7_year 4 = .ok (.ifCond .eq 6, 3) := by decide +kernel
theorem dX7_year_7 : decode cX7_year 7 = .ok (.bipush (-103), 2) := by decide +kernel
theorem dX7_year_9 : decode cX7_year 9 = .ok (.ireturn, 1) := by decide +kernel
theorem dX7_year_10 : decode cX7_year 10 = .ok (.aload_n 0, 1) := by decide +kernel
theorem dX7_year_11 : decode cX7_year 11 = .ok (.getfield 66, 3) := by decide +kernel
theorem dX7_year_14 : decode cX7_year 14 = .ok (.bipush 99, 2) := by decide +kernel
theorem dX7_year_16 : decode cX7_year 16 = .ok (.if_icmp .ne 6, 3) := by decide +kernel
theorem dX7_year_19 : decode cX7_year 19 = .ok (.bipush (-104), 2) := by decide +kernel
theorem dX7_year_21 : decode cX7_year 21 = .ok (.ireturn, 1) := by decide +kernel
theorem dX7_year_22 : decode cX7_year 22 = .ok (.aload_n 0, 1) := by decide +kernel
theorem dX7_year_23 : decode cX7_year 23 = .ok (.dup, 1) := by decide +kernel
theorem dX7_year_24 : decode cX7_year 24 = .ok (.getfield 66, 3) := by decide +kernel
theorem dX7_year_27 : decode cX7_year 27 = .ok (.iconst 1, 1) := by decide +kernel
theorem dX7_year_28 : decode cX7_year 28 = .ok (.iadd, 1) := by decide +kernel
theorem dX7_year_29 : decode cX7_year 29 = .ok (.putfield 66, 3) := by decide +kernel
theorem dX7_year_32 : decode cX7_year 32 = .ok (.aload_n 0, 1) := by decide +kernel
theorem dX7_year_33 : decode cX7_year 33 = .ok (.invokevirtual 113, 3) := by decide +kernel
theorem dX7_year_36 : decode cX7_year 36 = .ok (.aload_n 0, 1) := by decide +kernel
theorem dX7_year_37 : decode cX7_year 37 = .ok (.getfield 66, 3) := by decide +kernel
theorem dX7_year_40 : decode cX7_year 40 = .ok (.ireturn, 1) := by decide +kernel
theorem dX7_spoonsAll_0 : decode cX7_spoonsAll 0 = .ok (.iconst 0, 1) := by decide +kernel
theorem dX7_spoonsAll_1 : decode cX7_spoonsAll 1 = .ok (.istore_n 1, 1) := by decide +kernel
theorem dX7_spoonsAll_2 : decode cX7_spoonsAll 2 = .ok (.iconst 0, 1) := by decide +kernel
theorem dX7_spoonsAll_3 : decode cX7_spoonsAll 3 = .ok (.istore_n 2, 1) := by decide +kernel
theorem dX7_spoonsAll_4 : decode cX7_spoonsAll 4 = .ok (.iload_n 2, 1) := by decide +kernel
theorem dX7_spoonsAll_5 : decode cX7_spoonsAll 5 = .ok (.aload_n 0, 1) := by decide +kernel
theorem dX7_spoonsAll_6 : decode cX7_spoonsAll 6 = .ok (.getfield 63, 3) := by decide +kernel
theorem dX7_spoonsAll_9 : decode cX7_spoonsAll 9 = .ok (.if_icmp .ge 22, 3) := by decide +kernel
theorem dX7_spoonsAll_12 : decode cX7_spoonsAll 12 = .ok (.iload_n 1, 1) := by decide +kernel
theorem dX7_spoonsAll_13 : decode cX7_spoonsAll 13 = .ok (.aload_n 0, 1) := by decide +kernel
theorem dX7_spoonsAll_14 : decode cX7_spoonsAll 14 = .ok (.getfield 13, 3) := by decide +kernel
theorem dX7_spoonsAll_17 : decode cX7_spoonsAll 17 = .ok (.iconst 5, 1) := by decide +kernel
theorem dX7_spoonsAll_18 : decode cX7_spoonsAll 18 = .ok (.iload_n 2, 1) := by decide +kernel
theorem dX7_spoonsAll_19 : decode cX7_spoonsAll 19 = .ok (.imul, 1) := by decide +kernel
theorem dX7_spoonsAll_20 : decode cX7_spoonsAll 20 = .ok (.iconst 3, 1) := by decide +kernel
theorem dX7_spoonsAll_21 : decode cX7_spoonsAll 21 = .ok (.iadd, 1) := by decide +kernel
theorem dX7_spoonsAll_22 : decode cX7_spoonsAll 22 = .ok (.iaload, 1) := by decide +kernel
theorem dX7_spoonsAll_23 : decode cX7_spoonsAll 23 = .ok (.iadd, 1) := by decide +kernel
theorem dX7_spoonsAll_24 : decode cX7_spoonsAll 24 = .ok (.istore_n 1, 1) := by decide +kernel
theorem dX7_spoonsAll_25 : decode cX7_spoonsAll 25 = .ok (.iinc 2 1, 3) := by decide +kernel
theorem dX7_spoonsAll_28 : decode cX7_spoonsAll 28 = .ok (.goto (-24), 3) := by decide +kernel
theorem dX7_spoonsAll_31 : decode cX7_spoonsAll 31 = .ok (.iload_n 1, 1) := by decide +kernel
theorem dX7_spoonsAll_32 : decode cX7_spoonsAll 32 = .ok (.ireturn, 1) := by decide +kernel
set_option maxRecDepth 20000 in
theorem ggX7_worthOf_X7_nextNow : GoodIn wsX7_worthOf wsX7_nextNow := goodIn_r _ [7, 8, 1, 9, 10, 11, 6, 12, 13, 14, 15, 16, 17, 18, 19, 20, 21, 22, 23, 24, 25, 26, 27, 28, 29, 30, 31, 32, 33, 34, 35, 36, 37, 38, 39, 40, 41] (by decide +kernel) (by decide +kernel)
set_option maxRecDepth 20000 in
theorem gX7_worthOf_X7_nextNow : GoodIn wsX7_worthOf (wsV RX7 92 RX7 yX7_nextNow wsX7_nextNow) := goodIn_app (goodIn_of _ (by decide +kernel)) ggX7_worthOf_X7_nextNow
theorem dX7_worthOf_0 : decode cX7_worthOf 0 = .ok (.iload_n 2, 1) := by decide +kernel
theorem dX7_worthOf_1 : decode cX7_worthOf 1 = .ok (.aload_n 0, 1) := by decide +kernel
theorem dX7_worthOf_2 : decode cX7_worthOf 2 = .ok (.getfield 13, 3) := by decide +kernel
theorem dX7_worthOf_5 : decode cX7_worthOf 5 = .ok (.iconst 5, 1) := by decide +kernel
theorem dX7_worthOf_6 : decode cX7_worthOf 6 = .ok (.iload_n 1, 1) := by decide +kernel
theorem dX7_worthOf_7 : decode cX7_worthOf 7 = .ok (.imul, 1) := by decide +kernel
theorem dX7_worthOf_8 : decode cX7_worthOf 8 = .ok (.iconst 3, 1) := by decide +kernel
theorem dX7_worthOf_9 : decode cX7_worthOf 9 = .ok (.iadd, 1) := by decide +kernel
theorem dX7_worthOf_10 : decode cX7_worthOf 10 = .ok (.iaload, 1) := by decide +kernel
theorem dX7_worthOf_11 : decode cX7_worthOf 11 = .ok (.if_icmp .le 8, 3) := by decide +kernel
theorem dX7_worthOf_14 : decode cX7_worthOf 14 = .ok (.ldc 91, 2) := by decide +kernel
theorem dX7_worthOf_16 : decode cX7_worthOf 16 = .ok (.goto 18, 3) := by decide +kernel
theorem dX7_worthOf_19 : decode cX7_worthOf 19 = .ok (.iload_n 2, 1) := by decide +kernel
theorem dX7_worthOf_20 : decode cX7_worthOf 20 = .ok (.aload_n 0, 1) := by decide +kernel
theorem dX7_worthOf_21 : decode cX7_worthOf 21 = .ok (.iload_n 1, 1) := by decide +kernel
theorem dX7_worthOf_22 : decode cX7_worthOf 22 = .ok (.invokevirtual 92, 3) := by decide +kernel
theorem dX7_worthOf_25 : decode cX7_worthOf 25 = .ok (.imul, 1) := by decide +kernel
theorem dX7_worthOf_26 : decode cX7_worthOf 26 = .ok (.iload_n 2, 1) := by decide +kernel
theorem dX7_worthOf_27 : decode cX7_worthOf 27 = .ok (.iload_n 2, 1) := by decide +kernel
theorem dX7_worthOf_28 : decode cX7_worthOf 28 = .ok (.iconst 1, 1) := by decide +kernel
theorem dX7_worthOf_29 : decode cX7_worthOf 29 = .ok (.isub, 1) := by decide +kernel
theorem dX7_worthOf_30 : decode cX7_worthOf 30 = .ok (.imul, 1) := by decide +kernel
theorem dX7_worthOf_31 : decode cX7_worthOf 31 = .ok (.iconst 2, 1) := by decide +kernel
theorem dX7_worthOf_32 : decode cX7_worthOf 32 = .ok (.idiv, 1) := by decide +kernel
theorem dX7_worthOf_33 : decode cX7_worthOf 33 = .ok (.isub, 1) := by decide +kernel
theorem dX7_worthOf_34 : decode cX7_worthOf 34 = .ok (.ireturn, 1) := by decide +kernel
set_option maxRecDepth 20000 in
theorem ggX7_layTable_X7_worthOf : GoodIn wsX7_layTable wsX7_worthOf := goodIn_r _ [8, 9, 3, 10, 11, 12, 7, 13, 14, 15, 16, 17, 18, 19, 20, 21, 22, 23, 24, 25, 26, 27, 28, 29, 30, 31, 32, 33, 34, 35, 36, 37, 38, 39, 40, 41, 42, 43, 44, 45, 46, 47] (by decide +kernel) (by decide +kernel)
set_option maxRecDepth 20000 in
theorem gX7_layTable_X7_worthOf : GoodIn wsX7_layTable (wsV RX7 116 RX7 yX7_worthOf wsX7_worthOf) := goodIn_app (goodIn_of _ (by decide +kernel)) ggX7_layTable_X7_worthOf
theorem dX7_layTable_0 : decode cX7_layTable 0 = .ok (.iconst 0, 1) := by decide +kernel
theorem dX7_layTable_1 : decode cX7_layTable 1 = .ok (.istore_n 1, 1) := by decide +kernel
theorem dX7_layTable_2 : decode cX7_layTable 2 = .ok (.iload_n 1, 1) := by decide +kernel
theorem dX7_layTable_3 : decode cX7_layTable 3 = .ok (.bipush 13, 2) := by decide +kernel
theorem dX7_layTable_5 : decode cX7_layTable 5 = .ok (.if_icmp .ge 33, 3) := by decide +kernel
theorem dX7_layTable_8 : decode cX7_layTable 8 = .ok (.aload_n 0, 1) := by decide +kernel
theorem dX7_layTable_9 : decode cX7_layTable 9 = .ok (.getfield 16, 3) := by decide +kernel
theorem dX7_layTable_12 : decode cX7_layTable 12 = .ok (.bipush 13, 2) := by decide +kernel
theorem dX7_layTable_14 : decode cX7_layTable 14 = .ok (.aload_n 0, 1) := by decide +kernel
theorem dX7_layTable_15 : decode cX7_layTable 15 = .ok (.getfield 63, 3) := by decide +kernel
theorem dX7_layTable_18 : decode cX7_layTable 18 = .ok (.imul, 1) := by decide +kernel
theorem dX7_layTable_19 : decode cX7_layTable 19 = .ok (.iload_n 1, 1) := by decide +kernel
theorem dX7_layTable_20 : decode cX7_layTable 20 = .ok (.iadd, 1) := by decide +kernel
theorem dX7_layTable_21 : decode cX7_layTable 21 = .ok (.iload_n 1, 1) := by decide +kernel
theorem dX7_layTable_22 : decode cX7_layTable 22 = .ok (.ifCond .ne 7, 3) := by decide +kernel
theorem dX7_layTable_25 : decode cX7_layTable 25 = .ok (.iconst 0, 1) := by decide +kernel
theorem dX7_layTable_26 : decode cX7_layTable 26 = .ok (.goto 5, 3) := by decide +kernel
theorem dX7_layTable_29 : decode cX7_layTable 29 = .ok (.ldc 91, 2) := by decide +kernel
theorem dX7_layTable_31 : decode cX7_layTable 31 = .ok (.iastore, 1) := by decide +kernel
theorem dX7_layTable_32 : decode cX7_layTable 32 = .ok (.iinc 1 1, 3) := by decide +kernel
theorem dX7_layTable_35 : decode cX7_layTable 35 = .ok (.goto (-33), 3) := by decide +kernel
theorem dX7_layTable_38 : decode cX7_layTable 38 = .ok (.aload_n 0, 1) := by decide +kernel
theorem dX7_layTable_39 : decode cX7_layTable 39 = .ok (.getfield 63, 3) := by decide +kernel
theorem dX7_layTable_42 : decode cX7_layTable 42 = .ok (.iconst 1, 1) := by decide +kernel
theorem dX7_layTable_43 : decode cX7_layTable 43 = .ok (.isub, 1) := by decide +kernel
theorem dX7_layTable_44 : decode cX7_layTable 44 = .ok (.istore_n 1, 1) := by decide +kernel
theorem dX7_layTable_45 : decode cX7_layTable 45 = .ok (.iload_n 1, 1) := by decide +kernel
theorem dX7_layTable_46 : decode cX7_layTable 46 = .ok (.ifCond .lt 92, 3) := by decide +kernel
theorem dX7_layTable_49 : decode cX7_layTable 49 = .ok (.iconst 0, 1) := by decide +kernel
theorem dX7_layTable_50 : decode cX7_layTable 50 = .ok (.istore_n 2, 1) := by decide +kernel
theorem dX7_layTable_51 : decode cX7_layTable 51 = .ok (.iload_n 2, 1) := by decide +kernel
theorem dX7_layTable_52 : decode cX7_layTable 52 = .ok (.bipush 13, 2) := by decide +kernel
theorem dX7_layTable_54 : decode cX7_layTable 54 = .ok (.if_icmp .ge 78, 3) := by decide +kernel
theorem dX7_layTable_57 : decode cX7_layTable 57 = .ok (.ldc 91, 2) := by decide +kernel
theorem dX7_layTable_59 : decode cX7_layTable 59 = .ok (.istore_n 3, 1) := by decide +kernel
theorem dX7_layTable_60 : decode cX7_layTable 60 = .ok (.iconst 0, 1) := by decide +kernel
theorem dX7_layTable_61 : decode cX7_layTable 61 = .ok (.istore 4, 2) := by decide +kernel
theorem dX7_layTable_63 : decode cX7_layTable 63 = .ok (.iload 4, 2) := by decide +kernel
theorem dX7_layTable_65 : decode cX7_layTable 65 = .ok (.iload_n 2, 1) := by decide +kernel
theorem dX7_layTable_66 : decode cX7_layTable 66 = .ok (.if_icmp .gt 48, 3) := by decide +kernel
theorem dX7_layTable_69 : decode cX7_layTable 69 = .ok (.aload_n 0, 1) := by decide +kernel
theorem dX7_layTable_70 : decode cX7_layTable 70 = .ok (.iload_n 1, 1) := by decide +kernel
theorem dX7_layTable_71 : decode cX7_layTable 71 = .ok (.iload 4, 2) := by decide +kernel
theorem dX7_layTable_73 : decode cX7_layTable 73 = .ok (.invokevirtual 116, 3) := by decide +kernel
theorem dX7_layTable_76 : decode cX7_layTable 76 = .ok (.aload_n 0, 1) := by decide +kernel
theorem dX7_layTable_77 : decode cX7_layTable 77 = .ok (.getfield 16, 3) := by decide +kernel
theorem dX7_layTable_80 : decode cX7_layTable 80 = .ok (.bipush 13, 2) := by decide +kernel
theorem dX7_layTable_82 : decode cX7_layTable 82 = .ok (.iload_n 1, 1) := by decide +kernel
theorem dX7_layTable_83 : decode cX7_layTable 83 = .ok (.iconst 1, 1) := by decide +kernel
theorem dX7_layTable_84 : decode cX7_layTable 84 = .ok (.iadd, 1) := by decide +kernel
theorem dX7_layTable_85 : decode cX7_layTable 85 = .ok (.imul, 1) := by decide +kernel
theorem dX7_layTable_86 : decode cX7_layTable 86 = .ok (.iload_n 2, 1) := by decide +kernel
theorem dX7_layTable_87 : decode cX7_layTable 87 = .ok (.iadd, 1) := by decide +kernel
theorem dX7_layTable_88 : decode cX7_layTable 88 = .ok (.iload 4, 2) := by decide +kernel
theorem dX7_layTable_90 : decode cX7_layTable 90 = .ok (.isub, 1) := by decide +kernel
theorem dX7_layTable_91 : decode cX7_layTable 91 = .ok (.iaload, 1) := by decide +kernel
theorem dX7_layTable_92 : decode cX7_layTable 92 = .ok (.iadd, 1) := by decide +kernel
theorem dX7_layTable_93 : decode cX7_layTable 93 = .ok (.istore 5, 2) := by decide +kernel
theorem dX7_layTable_95 : decode cX7_layTable 95 = .ok (.iload 5, 2) := by decide +kernel
theorem dX7_layTable_97 : decode cX7_layTable 97 = .ok (.iload_n 3, 1) := by decide +kernel
theorem dX7_layTable_98 : decode cX7_layTable 98 = .ok (.if_icmp .le 8, 3) := by decide +kernel
theorem dX7_layTable_101 : decode cX7_layTable 101 = .ok (.iload 5, 2) := by decide +kernel
theorem dX7_layTable_103 : decode cX7_layTable 103 = .ok (.goto 4, 3) := by decide +kernel
theorem dX7_layTable_106 : decode cX7_layTable 106 = .ok (.iload_n 3, 1) := by decide +kernel
theorem dX7_layTable_107 : decode cX7_layTable 107 = .ok (.istore_n 3, 1) := by decide +kernel
theorem dX7_layTable_108 : decode cX7_layTable 108 = .ok (.iinc 4 1, 3) := by decide +kernel
theorem dX7_layTable_111 : decode cX7_layTable 111 = .ok (.goto (-48), 3) := by decide +kernel
theorem dX7_layTable_114 : decode cX7_layTable 114 = .ok (.aload_n 0, 1) := by decide +kernel
theorem dX7_layTable_115 : decode cX7_layTable 115 = .ok (.getfield 16, 3) := by decide +kernel
theorem dX7_layTable_118 : decode cX7_layTable 118 = .ok (.bipush 13, 2) := by decide +kernel
theorem dX7_layTable_120 : decode cX7_layTable 120 = .ok (.iload_n 1, 1) := by decide +kernel
theorem dX7_layTable_121 : decode cX7_layTable 121 = .ok (.imul, 1) := by decide +kernel
theorem dX7_layTable_122 : decode cX7_layTable 122 = .ok (.iload_n 2, 1) := by decide +kernel
theorem dX7_layTable_123 : decode cX7_layTable 123 = .ok (.iadd, 1) := by decide +kernel
theorem dX7_layTable_124 : decode cX7_layTable 124 = .ok (.iload_n 3, 1) := by decide +kernel
theorem dX7_layTable_125 : decode cX7_layTable 125 = .ok (.iastore, 1) := by decide +kernel
theorem dX7_layTable_126 : decode cX7_layTable 126 = .ok (.iinc 2 1, 3) := by decide +kernel
theorem dX7_layTable_129 : decode cX7_layTable 129 = .ok (.goto (-78), 3) := by decide +kernel
theorem dX7_layTable_132 : decode cX7_layTable 132 = .ok (.iinc 1 (-1), 3) := by decide +kernel
theorem dX7_layTable_135 : decode cX7_layTable 135 = .ok (.goto (-90), 3) := by decide +kernel
theorem dX7_layTable_138 : decode cX7_layTable 138 = .ok (.return_, 1) := by decide +kernel
set_option maxRecDepth 20000 in
theorem ggX7_bestOf_X7_spoonsAll : GoodIn wsX7_bestOf wsX7_spoonsAll := goodIn_r _ [8, 1, 9, 32, 33, 34, 35, 36, 37, 38, 39, 40, 41, 42, 43, 44, 45, 46, 47, 48, 49, 50, 51, 52, 53, 54, 55, 56] (by decide +kernel) (by decide +kernel)
set_option maxRecDepth 20000 in
theorem gX7_bestOf_X7_spoonsAll : GoodIn wsX7_bestOf (wsV RX7 119 RX7 yX7_spoonsAll wsX7_spoonsAll) := goodIn_app (goodIn_of _ (by decide +kernel)) ggX7_bestOf_X7_spoonsAll
set_option maxRecDepth 20000 in
theorem ggX7_bestOf_X7_layTable : GoodIn wsX7_bestOf wsX7_layTable := goodIn_r _ [13, 2, 1, 14, 15, 16, 17, 7, 18, 9, 19, 20, 21, 22, 23, 24, 25, 26, 27, 28, 29, 30, 31, 32, 33, 34, 35, 36, 37, 38, 39, 40, 41, 42, 43, 44, 45, 46, 47, 48, 49, 50, 51, 52, 53, 54, 55, 56] (by decide +kernel) (by decide +kernel)
set_option maxRecDepth 20000 in
theorem gX7_bestOf_X7_layTable : GoodIn wsX7_bestOf (wsV RX7 122 RX7 yX7_layTable wsX7_layTable) := goodIn_app (goodIn_of _ (by decide +kernel)) ggX7_bestOf_X7_layTable
set_option maxRecDepth 20000 in
theorem ggX7_bestOf_X7_worthOf : GoodIn wsX7_bestOf wsX7_worthOf := goodIn_r _ [18, 9, 14, 19, 20, 21, 7, 22, 23, 24, 25, 26, 27, 28, 29, 30, 31, 32, 33, 34, 35, 36, 37, 38, 39, 40, 41, 42, 43, 44, 45, 46, 47, 48, 49, 50, 51, 52, 53, 54, 55, 56] (by decide +kernel) (by decide +kernel)
set_option maxRecDepth 20000 in
theorem gX7_bestOf_X7_worthOf : GoodIn wsX7_bestOf (wsV RX7 116 RX7 yX7_worthOf wsX7_worthOf) := goodIn_app (goodIn_of _ (by decide +kernel)) ggX7_bestOf_X7_worthOf
theorem dX7_bestOf_0 : decode cX7_bestOf 0 = .ok (.iload_n 1, 1) := by decide +kernel
theorem dX7_bestOf_1 : decode cX7_bestOf 1 = .ok (.aload_n 0, 1) := by decide +kernel
theorem dX7_bestOf_2 : decode cX7_bestOf 2 = .ok (.invokevirtual 119, 3) := by decide +kernel
theorem dX7_bestOf_5 : decode cX7_bestOf 5 = .ok (.if_icmp .le 5, 3) := by decide +kernel
theorem dX7_bestOf_8 : decode cX7_bestOf 8 = .ok (.iconst (-1), 1) := by decide +kernel
theorem dX7_bestOf_9 : decode cX7_bestOf 9 = .ok (.ireturn, 1) := by decide +kernel
theorem dX7_bestOf_10 : decode cX7_bestOf 10 = .ok (.aload_n 0, 1) := by decide +kernel
theorem dX7_bestOf_11 : decode cX7_bestOf 11 = .ok (.invokevirtual 122, 3) := by decide +kernel
theorem dX7_bestOf_14 : decode cX7_bestOf 14 = .ok (.iload_n 1, 1) := by decide +kernel
theorem dX7_bestOf_15 : decode cX7_bestOf 15 = .ok (.istore_n 3, 1) := by decide +kernel
theorem dX7_bestOf_16 : decode cX7_bestOf 16 = .ok (.iconst 0, 1) := by decide +kernel
theorem dX7_bestOf_17 : decode cX7_bestOf 17 = .ok (.istore 4, 2) := by decide +kernel
theorem dX7_bestOf_19 : decode cX7_bestOf 19 = .ok (.iload 4, 2) := by decide +kernel
theorem dX7_bestOf_21 : decode cX7_bestOf 21 = .ok (.aload_n 0, 1) := by decide +kernel
theorem dX7_bestOf_22 : decode cX7_bestOf 22 = .ok (.getfield 63, 3) := by decide +kernel
theorem dX7_bestOf_25 : decode cX7_bestOf 25 = .ok (.if_icmp .ge 73, 3) := by decide +kernel
theorem dX7_bestOf_28 : decode cX7_bestOf 28 = .ok (.iconst 0, 1) := by decide +kernel
theorem dX7_bestOf_29 : decode cX7_bestOf 29 = .ok (.istore 5, 2) := by decide +kernel
theorem dX7_bestOf_31 : decode cX7_bestOf 31 = .ok (.aload_n 0, 1) := by decide +kernel
theorem dX7_bestOf_32 : decode cX7_bestOf 32 = .ok (.iload 4, 2) := by decide +kernel
theorem dX7_bestOf_34 : decode cX7_bestOf 34 = .ok (.iload 5, 2) := by decide +kernel
theorem dX7_bestOf_36 : decode cX7_bestOf 36 = .ok (.invokevirtual 116, 3) := by decide +kernel
theorem dX7_bestOf_39 : decode cX7_bestOf 39 = .ok (.aload_n 0, 1) := by decide +kernel
theorem dX7_bestOf_40 : decode cX7_bestOf 40 = .ok (.getfield 16, 3) := by decide +kernel
theorem dX7_bestOf_43 : decode cX7_bestOf 43 = .ok (.bipush 13, 2) := by decide +kernel
theorem dX7_bestOf_45 : decode cX7_bestOf 45 = .ok (.iload 4, 2) := by decide +kernel
theorem dX7_bestOf_47 : decode cX7_bestOf 47 = .ok (.iconst 1, 1) := by decide +kernel
theorem dX7_bestOf_48 : decode cX7_bestOf 48 = .ok (.iadd, 1) := by decide +kernel
theorem dX7_bestOf_49 : decode cX7_bestOf 49 = .ok (.imul, 1) := by decide +kernel
theorem dX7_bestOf_50 : decode cX7_bestOf 50 = .ok (.iload_n 3, 1) := by decide +kernel
theorem dX7_bestOf_51 : decode cX7_bestOf 51 = .ok (.iadd, 1) := by decide +kernel
theorem dX7_bestOf_52 : decode cX7_bestOf 52 = .ok (.iload 5, 2) := by decide +kernel
theorem dX7_bestOf_54 : decode cX7_bestOf 54 = .ok (.isub, 1) := by decide +kernel
theorem dX7_bestOf_55 : decode cX7_bestOf 55 = .ok (.iaload, 1) := by decide +kernel
theorem dX7_bestOf_56 : decode cX7_bestOf 56 = .ok (.iadd, 1) := by decide +kernel
theorem dX7_bestOf_57 : decode cX7_bestOf 57 = .ok (.aload_n 0, 1) := by decide +kernel
theorem dX7_bestOf_58 : decode cX7_bestOf 58 = .ok (.getfield 16, 3) := by decide +kernel
theorem dX7_bestOf_61 : decode cX7_bestOf 61 = .ok (.bipush 13, 2) := by decide +kernel
theorem dX7_bestOf_63 : decode cX7_bestOf 63 = .ok (.iload 4, 2) := by decide +kernel
theorem dX7_bestOf_65 : decode cX7_bestOf 65 = .ok (.imul, 1) := by decide +kernel
theorem dX7_bestOf_66 : decode cX7_bestOf 66 = .ok (.iload_n 3, 1) := by decide +kernel
theorem dX7_bestOf_67 : decode cX7_bestOf 67 = .ok (.iadd, 1) := by decide +kernel
theorem dX7_bestOf_68 : decode cX7_bestOf 68 = .ok (.iaload, 1) := by decide +kernel
theorem dX7_bestOf_69 : decode cX7_bestOf 69 = .ok (.if_icmp .eq 9, 3) := by decide +kernel
theorem dX7_bestOf_72 : decode cX7_bestOf 72 = .ok (.iinc 5 1, 3) := by decide +kernel
theorem dX7_bestOf_75 : decode cX7_bestOf 75 = .ok (.goto (-44), 3) := by decide +kernel
theorem dX7_bestOf_78 : decode cX7_bestOf 78 = .ok (.aload_n 0, 1) := by decide +kernel
theorem dX7_bestOf_79 : decode cX7_bestOf 79 = .ok (.getfield 19, 3) := by decide +kernel
theorem dX7_bestOf_82 : decode cX7_bestOf 82 = .ok (.iload 4, 2) := by decide +kernel
theorem dX7_bestOf_84 : decode cX7_bestOf 84 = .ok (.iload 5, 2) := by decide +kernel
theorem dX7_bestOf_86 : decode cX7_bestOf 86 = .ok (.iastore, 1) := by decide +kernel
theorem dX7_bestOf_87 : decode cX7_bestOf 87 = .ok (.iload_n 3, 1) := by decide +kernel
theorem dX7_bestOf_88 : decode cX7_bestOf 88 = .ok (.iload 5, 2) := by decide +kernel
theorem dX7_bestOf_90 : decode cX7_bestOf 90 = .ok (.isub, 1) := by decide +kernel
theorem dX7_bestOf_91 : decode cX7_bestOf 91 = .ok (.istore_n 3, 1) := by decide +kernel
theorem dX7_bestOf_92 : decode cX7_bestOf 92 = .ok (.iinc 4 1, 3) := by decide +kernel
theorem dX7_bestOf_95 : decode cX7_bestOf 95 = .ok (.goto (-76), 3) := by decide +kernel
theorem dX7_bestOf_98 : decode cX7_bestOf 98 = .ok (.iload_n 2, 1) := by decide +kernel
theorem dX7_bestOf_99 : decode cX7_bestOf 99 = .ok (.ifCond .ne 16, 3) := by decide +kernel
theorem dX7_bestOf_102 : decode cX7_bestOf 102 = .ok (.aload_n 0, 1) := by decide +kernel
theorem dX7_bestOf_103 : decode cX7_bestOf 103 = .ok (.getfield 16, 3) := by decide +kernel
theorem dX7_bestOf_106 : decode cX7_bestOf 106 = .ok (.iload_n 1, 1) := by decide +kernel
theorem dX7_bestOf_107 : decode cX7_bestOf 107 = .ok (.iaload, 1) := by decide +kernel
theorem dX7_bestOf_108 : decode cX7_bestOf 108 = .ok (.sipush 1000, 3) := by decide +kernel
theorem dX7_bestOf_111 : decode cX7_bestOf 111 = .ok (.iadd, 1) := by decide +kernel
theorem dX7_bestOf_112 : decode cX7_bestOf 112 = .ok (.goto 27, 3) := by decide +kernel
theorem dX7_bestOf_115 : decode cX7_bestOf 115 = .ok (.iload_n 2, 1) := by decide +kernel
theorem dX7_bestOf_116 : decode cX7_bestOf 116 = .ok (.bipush 10, 2) := by decide +kernel
theorem dX7_bestOf_118 : decode cX7_bestOf 118 = .ok (.isub, 1) := by decide +kernel
theorem dX7_bestOf_119 : decode cX7_bestOf 119 = .ok (.aload_n 0, 1) := by decide +kernel
theorem dX7_bestOf_120 : decode cX7_bestOf 120 = .ok (.getfield 63, 3) := by decide +kernel
theorem dX7_bestOf_123 : decode cX7_bestOf 123 = .ok (.if_icmp .ge 15, 3) := by decide +kernel
theorem dX7_bestOf_126 : decode cX7_bestOf 126 = .ok (.aload_n 0, 1) := by decide +kernel
theorem dX7_bestOf_127 : decode cX7_bestOf 127 = .ok (.getfield 19, 3) := by decide +kernel
theorem dX7_bestOf_130 : decode cX7_bestOf 130 = .ok (.iload_n 2, 1) := by decide +kernel
theorem dX7_bestOf_131 : decode cX7_bestOf 131 = .ok (.bipush 10, 2) := by decide +kernel
theorem dX7_bestOf_133 : decode cX7_bestOf 133 = .ok (.isub, 1) := by decide +kernel
theorem dX7_bestOf_134 : decode cX7_bestOf 134 = .ok (.iaload, 1) := by decide +kernel
theorem dX7_bestOf_135 : decode cX7_bestOf 135 = .ok (.goto 4, 3) := by decide +kernel
theorem dX7_bestOf_138 : decode cX7_bestOf 138 = .ok (.iconst (-1), 1) := by decide +kernel
theorem dX7_bestOf_139 : decode cX7_bestOf 139 = .ok (.ireturn, 1) := by decide +kernel
set_option maxRecDepth 20000 in
theorem ggX7_best_X7_in : GoodIn wsX7_best wsX7_in := goodIn_r _ [8] (by decide +kernel) (by decide +kernel)
set_option maxRecDepth 20000 in
theorem gX7_best_X7_in : GoodIn wsX7_best (va_wsS RX7 40 yX7_in wsX7_in) := goodIn_app (goodIn_of _ (by decide +kernel)) ggX7_best_X7_in
set_option maxRecDepth 20000 in
theorem ggX7_best_X7_lacks : GoodIn wsX7_best wsX7_lacks := goodIn_r _ [12, 13, 47, 48, 49, 50, 51, 52, 53, 54, 55, 56, 57, 58, 59, 60, 61, 62, 63, 64, 65, 66, 67, 68, 69, 70, 71] (by decide +kernel) (by decide +kernel)
set_option maxRecDepth 20000 in
theorem gX7_best_X7_lacks : GoodIn wsX7_best (wsV RX7 109 RX7 yX7_lacks wsX7_lacks) := goodIn_app (goodIn_of _ (by decide +kernel)) ggX7_best_X7_lacks
set_option maxRecDepth 20000 in
theorem ggX7_best_X7_bestOf : GoodIn wsX7_best wsX7_bestOf := goodIn_r _ [17, 13, 18, 19, 20, 21, 22, 7, 23, 24, 25, 26, 27, 28, 29, 30, 31, 32, 33, 34, 35, 36, 37, 38, 39, 40, 41, 42, 43, 44, 45, 46, 47, 48, 49, 50, 51, 52, 53, 54, 55, 56, 57, 58, 59, 60, 61, 62, 63, 64, 65, 66, 67, 68, 69, 70, 71] (by decide +kernel) (by decide +kernel)
set_option maxRecDepth 20000 in
theorem gX7_best_X7_bestOf : GoodIn wsX7_best (wsV RX7 134 RX7 yX7_bestOf wsX7_bestOf) := goodIn_app (goodIn_of _ (by decide +kernel)) ggX7_best_X7_bestOf
theorem dX7_best_0 : decode cX7_best 0 = .ok (.iload_n 1, 1) := by decide +kernel
theorem dX7_best_1 : decode cX7_best 1 = .ok (.i2l, 1) := by decide +kernel
theorem dX7_best_2 : decode cX7_best 2 = .ok (.lconst 0, 1) := by decide +kernel
theorem dX7_best_3 : decode cX7_best 3 = .ok (.ldc2_w 125, 3) := by decide +kernel
theorem dX7_best_6 : decode cX7_best 6 = .ok (.invokestatic 40, 3) := by decide +kernel
theorem dX7_best_9 : decode cX7_best 9 = .ok (.ifCond .eq 21, 3) := by decide +kernel
theorem dX7_best_12 : decode cX7_best 12 = .ok (.iload_n 2, 1) := by decide +kernel
theorem dX7_best_13 : decode cX7_best 13 = .ok (.ifCond .eq 20, 3) := by decide +kernel
theorem dX7_best_16 : decode cX7_best 16 = .ok (.iload_n 2, 1) := by decide +kernel
theorem dX7_best_17 : decode cX7_best 17 = .ok (.i2l, 1) := by decide +kernel
theorem dX7_best_18 : decode cX7_best 18 = .ok (.ldc2_w 127, 3) := by decide +kernel
theorem dX7_best_21 : decode cX7_best 21 = .ok (.ldc2_w 129, 3) := by decide +kernel
theorem dX7_best_24 : decode cX7_best 24 = .ok (.invokestatic 40, 3) := by decide +kernel
theorem dX7_best_27 : decode cX7_best 27 = .ok (.ifCond .ne 6, 3) := by decide +kernel
theorem dX7_best_30 : decode cX7_best 30 = .ok (.bipush (-102), 2) := by decide +kernel
theorem dX7_best_32 : decode cX7_best 32 = .ok (.ireturn, 1) := by decide +kernel
theorem dX7_best_33 : decode cX7_best 33 = .ok (.aload_n 0, 1) := by decide +kernel
theorem dX7_best_34 : decode cX7_best 34 = .ok (.invokevirtual 109, 3) := by decide +kernel
theorem dX7_best_37 : decode cX7_best 37 = .ok (.ifCond .ne 12, 3) := by decide +kernel
theorem dX7_best_40 : decode cX7_best 40 = .ok (.aload_n 0, 1) := by decide +kernel
theorem dX7_best_41 : decode cX7_best 41 = .ok (.getfield 131, 3) := by decide +kernel
theorem dX7_best_44 : decode cX7_best 44 = .ok (.bipush 40, 2) := by decide +kernel
theorem dX7_best_46 : decode cX7_best 46 = .ok (.if_icmp .ne 6, 3) := by decide +kernel
theorem dX7_best_49 : decode cX7_best 49 = .ok (.bipush (-103), 2) := by decide +kernel
theorem dX7_best_51 : decode cX7_best 51 = .ok (.ireturn, 1) := by decide +kernel
theorem dX7_best_52 : decode cX7_best 52 = .ok (.aload_n 0, 1) := by decide +kernel
theorem dX7_best_53 : decode cX7_best 53 = .ok (.dup, 1) := by decide +kernel
theorem dX7_best_54 : decode cX7_best 54 = .ok (.getfield 131, 3) := by decide +kernel
theorem dX7_best_57 : decode cX7_best 57 = .ok (.iconst 1, 1) := by decide +kernel
theorem dX7_best_58 : decode cX7_best 58 = .ok (.iadd, 1) := by decide +kernel
theorem dX7_best_59 : decode cX7_best 59 = .ok (.putfield 131, 3) := by decide +kernel
theorem dX7_best_62 : decode cX7_best 62 = .ok (.aload_n 0, 1) := by decide +kernel
theorem dX7_best_63 : decode cX7_best 63 = .ok (.iload_n 1, 1) := by decide +kernel
theorem dX7_best_64 : decode cX7_best 64 = .ok (.iload_n 2, 1) := by decide +kernel
theorem dX7_best_65 : decode cX7_best 65 = .ok (.invokevirtual 134, 3) := by decide +kernel
theorem dX7_best_68 : decode cX7_best 68 = .ok (.ireturn, 1) := by decide +kernel
set_option maxRecDepth 20000 in
theorem ggX7_taste_X7_in : GoodIn wsX7_taste wsX7_in := goodIn_r _ [9] (by decide +kernel) (by decide +kernel)
set_option maxRecDepth 20000 in
theorem gX7_taste_X7_in : GoodIn wsX7_taste (va_wsS RX7 40 yX7_in wsX7_in) := goodIn_app (goodIn_of _ (by decide +kernel)) ggX7_taste_X7_in
theorem dX7_taste_0 : decode cX7_taste 0 = .ok (.iload_n 1, 1) := by decide +kernel
theorem dX7_taste_1 : decode cX7_taste 1 = .ok (.i2l, 1) := by decide +kernel
theorem dX7_taste_2 : decode cX7_taste 2 = .ok (.lconst 0, 1) := by decide +kernel
theorem dX7_taste_3 : decode cX7_taste 3 = .ok (.ldc2_w 107, 3) := by decide +kernel
theorem dX7_taste_6 : decode cX7_taste 6 = .ok (.invokestatic 40, 3) := by decide +kernel
theorem dX7_taste_9 : decode cX7_taste 9 = .ok (.ifCond .eq 17, 3) := by decide +kernel
theorem dX7_taste_12 : decode cX7_taste 12 = .ok (.iload_n 2, 1) := by decide +kernel
theorem dX7_taste_13 : decode cX7_taste 13 = .ok (.i2l, 1) := by decide +kernel
theorem dX7_taste_14 : decode cX7_taste 14 = .ok (.ldc2_w 137, 3) := by decide +kernel
theorem dX7_taste_17 : decode cX7_taste 17 = .ok (.ldc2_w 139, 3) := by decide +kernel
theorem dX7_taste_20 : decode cX7_taste 20 = .ok (.invokestatic 40, 3) := by decide +kernel
theorem dX7_taste_23 : decode cX7_taste 23 = .ok (.ifCond .ne 6, 3) := by decide +kernel
theorem dX7_taste_26 : decode cX7_taste 26 = .ok (.bipush (-102), 2) := by decide +kernel
theorem dX7_taste_28 : decode cX7_taste 28 = .ok (.ireturn, 1) := by decide +kernel
theorem dX7_taste_29 : decode cX7_taste 29 = .ok (.aload_n 0, 1) := by decide +kernel
theorem dX7_taste_30 : decode cX7_taste 30 = .ok (.getfield 78, 3) := by decide +kernel
theorem dX7_taste_33 : decode cX7_taste 33 = .ok (.bipush 6, 2) := by decide +kernel
theorem dX7_taste_35 : decode cX7_taste 35 = .ok (.if_icmp .ne 6, 3) := by decide +kernel
theorem dX7_taste_38 : decode cX7_taste 38 = .ok (.bipush (-104), 2) := by decide +kernel
theorem dX7_taste_40 : decode cX7_taste 40 = .ok (.ireturn, 1) := by decide +kernel
theorem dX7_taste_41 : decode cX7_taste 41 = .ok (.aload_n 0, 1) := by decide +kernel
theorem dX7_taste_42 : decode cX7_taste 42 = .ok (.getfield 22, 3) := by decide +kernel
theorem dX7_taste_45 : decode cX7_taste 45 = .ok (.iconst 2, 1) := by decide +kernel
theorem dX7_taste_46 : decode cX7_taste 46 = .ok (.aload_n 0, 1) := by decide +kernel
theorem dX7_taste_47 : decode cX7_taste 47 = .ok (.getfield 78, 3) := by decide +kernel
theorem dX7_taste_50 : decode cX7_taste 50 = .ok (.imul, 1) := by decide +kernel
theorem dX7_taste_51 : decode cX7_taste 51 = .ok (.iload_n 1, 1) := by decide +kernel
theorem dX7_taste_52 : decode cX7_taste 52 = .ok (.iastore, 1) := by decide +kernel
theorem dX7_taste_53 : decode cX7_taste 53 = .ok (.aload_n 0, 1) := by decide +kernel
theorem dX7_taste_54 : decode cX7_taste 54 = .ok (.getfield 22, 3) := by decide +kernel
theorem dX7_taste_57 : decode cX7_taste 57 = .ok (.iconst 2, 1) := by decide +kernel
theorem dX7_taste_58 : decode cX7_taste 58 = .ok (.aload_n 0, 1) := by decide +kernel
theorem dX7_taste_59 : decode cX7_taste 59 = .ok (.getfield 78, 3) := by decide +kernel
theorem dX7_taste_62 : decode cX7_taste 62 = .ok (.imul, 1) := by decide +kernel
theorem dX7_taste_63 : decode cX7_taste 63 = .ok (.iconst 1, 1) := by decide +kernel
theorem dX7_taste_64 : decode cX7_taste 64 = .ok (.iadd, 1) := by decide +kernel
theorem dX7_taste_65 : decode cX7_taste 65 = .ok (.iload_n 2, 1) := by decide +kernel
theorem dX7_taste_66 : decode cX7_taste 66 = .ok (.iastore, 1) := by decide +kernel
theorem dX7_taste_67 : decode cX7_taste 67 = .ok (.aload_n 0, 1) := by decide +kernel
theorem dX7_taste_68 : decode cX7_taste 68 = .ok (.dup, 1) := by decide +kernel
theorem dX7_taste_69 : decode cX7_taste 69 = .ok (.getfield 78, 3) := by decide +kernel
theorem dX7_taste_72 : decode cX7_taste 72 = .ok (.iconst 1, 1) := by decide +kernel
theorem dX7_taste_73 : decode cX7_taste 73 = .ok (.iadd, 1) := by decide +kernel
theorem dX7_taste_74 : decode cX7_taste 74 = .ok (.putfield 78, 3) := by decide +kernel
theorem dX7_taste_77 : decode cX7_taste 77 = .ok (.aload_n 0, 1) := by decide +kernel
theorem dX7_taste_78 : decode cX7_taste 78 = .ok (.getfield 78, 3) := by decide +kernel
theorem dX7_taste_81 : decode cX7_taste 81 = .ok (.ireturn, 1) := by decide +kernel
theorem dX7_forget_0 : decode cX7_forget 0 = .ok (.aload_n 0, 1) := by decide +kernel
theorem dX7_forget_1 : decode cX7_forget 1 = .ok (.getfield 78, 3) := by decide +kernel
theorem dX7_forget_4 : decode cX7_forget 4 = .ok (.istore_n 1, 1) := by decide +kernel
theorem dX7_forget_5 : decode cX7_forget 5 = .ok (.aload_n 0, 1) := by decide +kernel
theorem dX7_forget_6 : decode cX7_forget 6 = .ok (.iconst 0, 1) := by decide +kernel
theorem dX7_forget_7 : decode cX7_forget 7 = .ok (.putfield 78, 3) := by decide +kernel
theorem dX7_forget_10 : decode cX7_forget 10 = .ok (.iload_n 1, 1) := by decide +kernel
theorem dX7_forget_11 : decode cX7_forget 11 = .ok (.ireturn, 1) := by decide +kernel
set_option maxRecDepth 20000 in
theorem ggX7_whichOf_X7_firstIn : GoodIn wsX7_whichOf wsX7_firstIn := goodIn_r _ [8, 9, 10, 11, 12, 7, 13, 14, 15, 16, 17, 18, 19, 20, 21, 22, 23, 24, 25, 26, 27, 28, 29, 30, 31, 32, 33, 34, 35, 36, 37, 38] (by decide +kernel) (by decide +kernel)
set_option maxRecDepth 20000 in
theorem gX7_whichOf_X7_firstIn : GoodIn wsX7_whichOf (wsV RX7 88 RX7 yX7_firstIn wsX7_firstIn) := goodIn_app (goodIn_of _ (by decide +kernel)) ggX7_whichOf_X7_firstIn
theorem dX7_whichOf_0 : decode cX7_whichOf 0 = .ok (.iconst 0, 1) := by decide +kernel
theorem dX7_whichOf_1 : decode cX7_whichOf 1 = .ok (.istore_n 1, 1) := by decide +kernel
theorem dX7_whichOf_2 : decode cX7_whichOf 2 = .ok (.iconst 0, 1) := by decide +kernel
theorem dX7_whichOf_3 : decode cX7_whichOf 3 = .ok (.istore_n 2, 1) := by decide +kernel
theorem dX7_whichOf_4 : decode cX7_whichOf 4 = .ok (.iload_n 2, 1) := by decide +kernel
theorem dX7_whichOf_5 : decode cX7_whichOf 5 = .ok (.aload_n 0, 1) := by decide +kernel
theorem dX7_whichOf_6 : decode cX7_whichOf 6 = .ok (.getfield 63, 3) := by decide +kernel
theorem dX7_whichOf_9 : decode cX7_whichOf 9 = .ok (.if_icmp .ge 81, 3) := by decide +kernel
theorem dX7_whichOf_12 : decode cX7_whichOf 12 = .ok (.iconst 1, 1) := by decide +kernel
theorem dX7_whichOf_13 : decode cX7_whichOf 13 = .ok (.istore_n 3, 1) := by decide +kernel
theorem dX7_whichOf_14 : decode cX7_whichOf 14 = .ok (.iconst 0, 1) := by decide +kernel
theorem dX7_whichOf_15 : decode cX7_whichOf 15 = .ok (.istore 4, 2) := by decide +kernel
theorem dX7_whichOf_17 : decode cX7_whichOf 17 = .ok (.iload 4, 2) := by decide +kernel
theorem dX7_whichOf_19 : decode cX7_whichOf 19 = .ok (.aload_n 0, 1) := by decide +kernel
theorem dX7_whichOf_20 : decode cX7_whichOf 20 = .ok (.getfield 78, 3) := by decide +kernel
theorem dX7_whichOf_23 : decode cX7_whichOf 23 = .ok (.if_icmp .ge 47, 3) := by decide +kernel
theorem dX7_whichOf_26 : decode cX7_whichOf 26 = .ok (.iload_n 3, 1) := by decide +kernel
theorem dX7_whichOf_27 : decode cX7_whichOf 27 = .ok (.ifCond .eq 35, 3) := by decide +kernel
theorem dX7_whichOf_30 : decode cX7_whichOf 30 = .ok (.aload_n 0, 1) := by decide +kernel
theorem dX7_whichOf_31 : decode cX7_whichOf 31 = .ok (.iload_n 2, 1) := by decide +kernel
theorem dX7_whichOf_32 : decode cX7_whichOf 32 = .ok (.aload_n 0, 1) := by decide +kernel
theorem dX7_whichOf_33 : decode cX7_whichOf 33 = .ok (.getfield 22, 3) := by decide +kernel
theorem dX7_whichOf_36 : decode cX7_whichOf 36 = .ok (.iconst 2, 1) := by decide +kernel
theorem dX7_whichOf_37 : decode cX7_whichOf 37 = .ok (.iload 4, 2) := by decide +kernel
theorem dX7_whichOf_39 : decode cX7_whichOf 39 = .ok (.imul, 1) := by decide +kernel
theorem dX7_whichOf_40 : decode cX7_whichOf 40 = .ok (.iaload, 1) := by decide +kernel
theorem dX7_whichOf_41 : decode cX7_whichOf 41 = .ok (.invokevirtual 88, 3) := by decide +kernel
theorem dX7_whichOf_44 : decode cX7_whichOf 44 = .ok (.aload_n 0, 1) := by decide +kernel
theorem dX7_whichOf_45 : decode cX7_whichOf 45 = .ok (.getfield 22, 3) := by decide +kernel
theorem dX7_whichOf_48 : decode cX7_whichOf 48 = .ok (.iconst 2, 1) := by decide +kernel
theorem dX7_whichOf_49 : decode cX7_whichOf 49 = .ok (.iload 4, 2) := by decide +kernel
theorem dX7_whichOf_51 : decode cX7_whichOf 51 = .ok (.imul, 1) := by decide +kernel
theorem dX7_whichOf_52 : decode cX7_whichOf 52 = .ok (.iconst 1, 1) := by decide +kernel
theorem dX7_whichOf_53 : decode cX7_whichOf 53 = .ok (.iadd, 1) := by decide +kernel
theorem dX7_whichOf_54 : decode cX7_whichOf 54 = .ok (.iaload, 1) := by decide +kernel
theorem dX7_whichOf_55 : decode cX7_whichOf 55 = .ok (.if_icmp .ne 7, 3) := by decide +kernel
theorem dX7_whichOf_58 : decode cX7_whichOf 58 = .ok (.iconst 1, 1) := by decide +kernel
theorem dX7_whichOf_59 : decode cX7_whichOf 59 = .ok (.goto 4, 3) := by decide +kernel
theorem dX7_whichOf_62 : decode cX7_whichOf 62 = .ok (.iconst 0, 1) := by decide +kernel
theorem dX7_whichOf_63 : decode cX7_whichOf 63 = .ok (.istore_n 3, 1) := by decide +kernel
theorem dX7_whichOf_64 : decode cX7_whichOf 64 = .ok (.iinc 4 1, 3) := by decide +kernel
theorem dX7_whichOf_67 : decode cX7_whichOf 67 = .ok (.goto (-50), 3) := by decide +kernel
theorem dX7_whichOf_70 : decode cX7_whichOf 70 = .ok (.iload_n 1, 1) := by decide +kernel
theorem dX7_whichOf_71 : decode cX7_whichOf 71 = .ok (.iload_n 3, 1) := by decide +kernel
theorem dX7_whichOf_72 : decode cX7_whichOf 72 = .ok (.ifCond .eq 9, 3) := by decide +kernel
theorem dX7_whichOf_75 : decode cX7_whichOf 75 = .ok (.iconst 1, 1) := by decide +kernel
theorem dX7_whichOf_76 : decode cX7_whichOf 76 = .ok (.iload_n 2, 1) := by decide +kernel
theorem dX7_whichOf_77 : decode cX7_whichOf 77 = .ok (.ishl, 1) := by decide +kernel
theorem dX7_whichOf_78 : decode cX7_whichOf 78 = .ok (.goto 4, 3) := by decide +kernel
theorem dX7_whichOf_81 : decode cX7_whichOf 81 = .ok (.iconst 0, 1) := by decide +kernel
theorem dX7_whichOf_82 : decode cX7_whichOf 82 = .ok (.ior, 1) := by decide +kernel
theorem dX7_whichOf_83 : decode cX7_whichOf 83 = .ok (.istore_n 1, 1) := by decide +kernel
theorem dX7_whichOf_84 : decode cX7_whichOf 84 = .ok (.iinc 2 1, 3) := by decide +kernel
theorem dX7_whichOf_87 : decode cX7_whichOf 87 = .ok (.goto (-83), 3) := by decide +kernel
theorem dX7_whichOf_90 : decode cX7_whichOf 90 = .ok (.iload_n 1, 1) := by decide +kernel
theorem dX7_whichOf_91 : decode cX7_whichOf 91 = .ok (.ireturn, 1) := by decide +kernel
set_option maxRecDepth 20000 in
theorem ggX7_which_X7_lacks : GoodIn wsX7_which wsX7_lacks := goodIn_r _ [5, 6, 22, 23, 24, 25, 26, 27, 28, 29, 30, 31, 32, 33, 34, 35, 36, 37, 38, 39, 40, 41, 42, 43, 44, 45, 46] (by decide +kernel) (by decide +kernel)
set_option maxRecDepth 20000 in
theorem gX7_which_X7_lacks : GoodIn wsX7_which (wsV RX7 109 RX7 yX7_lacks wsX7_lacks) := goodIn_app (goodIn_of _ (by decide +kernel)) ggX7_which_X7_lacks
set_option maxRecDepth 20000 in
theorem ggX7_which_X7_whichOf : GoodIn wsX7_which wsX7_whichOf := goodIn_r _ [10, 6, 11, 12, 13, 14, 15, 4, 16, 17, 18, 19, 20, 21, 22, 23, 24, 25, 26, 27, 28, 29, 30, 31, 32, 33, 34, 35, 36, 37, 38, 39, 40, 41, 42, 43, 44, 45, 46] (by decide +kernel) (by decide +kernel)
set_option maxRecDepth 20000 in
theorem gX7_which_X7_whichOf : GoodIn wsX7_which (wsV RX7 141 RX7 yX7_whichOf wsX7_whichOf) := goodIn_app (goodIn_of _ (by decide +kernel)) ggX7_which_X7_whichOf
theorem dX7_which_0 : decode cX7_which 0 = .ok (.aload_n 0, 1) := by decide +kernel
theorem dX7_which_1 : decode cX7_which 1 = .ok (.invokevirtual 109, 3) := by decide +kernel
theorem dX7_which_4 : decode cX7_which 4 = .ok (.ifCond .eq 8, 3) := by decide +kernel
theorem dX7_which_7 : decode cX7_which 7 = .ok (.bipush (-103), 2) := by decide +kernel
theorem dX7_which_9 : decode cX7_which 9 = .ok (.goto 7, 3) := by decide +kernel
theorem dX7_which_12 : decode cX7_which 12 = .ok (.aload_n 0, 1) := by decide +kernel
theorem dX7_which_13 : decode cX7_which 13 = .ok (.invokevirtual 141, 3) := by decide +kernel
theorem dX7_which_16 : decode cX7_which 16 = .ok (.ireturn, 1) := by decide +kernel
set_option maxRecDepth 20000 in
theorem ggX7_likeIn_X7_firstIn : GoodIn wsX7_likeIn wsX7_firstIn := goodIn_r _ [6, 7, 8, 9, 10, 5, 11, 12, 13, 14, 15, 16, 17, 18, 19, 20, 21, 22, 23, 24, 25, 26, 27, 28, 29, 30, 31, 32, 33, 34, 35, 36] (by decide +kernel) (by decide +kernel)
set_option maxRecDepth 20000 in
theorem gX7_likeIn_X7_firstIn : GoodIn wsX7_likeIn (wsV RX7 88 RX7 yX7_firstIn wsX7_firstIn) := goodIn_app (goodIn_of _ (by decide +kernel)) ggX7_likeIn_X7_firstIn
theorem dX7_likeIn_0 : decode cX7_likeIn 0 = .ok (.iconst 0, 1) := by decide +kernel
theorem dX7_likeIn_1 : decode cX7_likeIn 1 = .ok (.istore 4, 2) := by decide +kernel
theorem dX7_likeIn_3 : decode cX7_likeIn 3 = .ok (.iconst 0, 1) := by decide +kernel
theorem dX7_likeIn_4 : decode cX7_likeIn 4 = .ok (.istore 5, 2) := by decide +kernel
theorem dX7_likeIn_6 : decode cX7_likeIn 6 = .ok (.iload 5, 2) := by decide +kernel
theorem dX7_likeIn_8 : decode cX7_likeIn 8 = .ok (.aload_n 0, 1) := by decide +kernel
theorem dX7_likeIn_9 : decode cX7_likeIn 9 = .ok (.getfield 63, 3) := by decide +kernel
theorem dX7_likeIn_12 : decode cX7_likeIn 12 = .ok (.if_icmp .ge 45, 3) := by decide +kernel
theorem dX7_likeIn_15 : decode cX7_likeIn 15 = .ok (.iload 4, 2) := by decide +kernel
theorem dX7_likeIn_17 : decode cX7_likeIn 17 = .ok (.iload_n 1, 1) := by decide +kernel
theorem dX7_likeIn_18 : decode cX7_likeIn 18 = .ok (.iload 5, 2) := by decide +kernel
theorem dX7_likeIn_20 : decode cX7_likeIn 20 = .ok (.ishr, 1) := by decide +kernel
theorem dX7_likeIn_21 : decode cX7_likeIn 21 = .ok (.iconst 1, 1) := by decide +kernel
theorem dX7_likeIn_22 : decode cX7_likeIn 22 = .ok (.iand, 1) := by decide +kernel
theorem dX7_likeIn_23 : decode cX7_likeIn 23 = .ok (.iconst 1, 1) := by decide +kernel
theorem dX7_likeIn_24 : decode cX7_likeIn 24 = .ok (.if_icmp .ne 23, 3) := by decide +kernel
theorem dX7_likeIn_27 : decode cX7_likeIn 27 = .ok (.aload_n 0, 1) := by decide +kernel
theorem dX7_likeIn_28 : decode cX7_likeIn 28 = .ok (.iload 5, 2) := by decide +kernel
theorem dX7_likeIn_30 : decode cX7_likeIn 30 = .ok (.iload_n 3, 1) := by decide +kernel
theorem dX7_likeIn_31 : decode cX7_likeIn 31 = .ok (.invokevirtual 88, 3) := by decide +kernel
theorem dX7_likeIn_34 : decode cX7_likeIn 34 = .ok (.aload_n 0, 1) := by decide +kernel
theorem dX7_likeIn_35 : decode cX7_likeIn 35 = .ok (.iload_n 2, 1) := by decide +kernel
theorem dX7_likeIn_36 : decode cX7_likeIn 36 = .ok (.iload_n 3, 1) := by decide +kernel
theorem dX7_likeIn_37 : decode cX7_likeIn 37 = .ok (.invokevirtual 88, 3) := by decide +kernel
theorem dX7_likeIn_40 : decode cX7_likeIn 40 = .ok (.if_icmp .ne 7, 3) := by decide +kernel
theorem dX7_likeIn_43 : decode cX7_likeIn 43 = .ok (.iconst 1, 1) := by decide +kernel
theorem dX7_likeIn_44 : decode cX7_likeIn 44 = .ok (.goto 4, 3) := by decide +kernel
theorem dX7_likeIn_47 : decode cX7_likeIn 47 = .ok (.iconst 0, 1) := by decide +kernel
theorem dX7_likeIn_48 : decode cX7_likeIn 48 = .ok (.iadd, 1) := by decide +kernel
theorem dX7_likeIn_49 : decode cX7_likeIn 49 = .ok (.istore 4, 2) := by decide +kernel
theorem dX7_likeIn_51 : decode cX7_likeIn 51 = .ok (.iinc 5 1, 3) := by decide +kernel
theorem dX7_likeIn_54 : decode cX7_likeIn 54 = .ok (.goto (-48), 3) := by decide +kernel
theorem dX7_likeIn_57 : decode cX7_likeIn 57 = .ok (.iload 4, 2) := by decide +kernel
theorem dX7_likeIn_59 : decode cX7_likeIn 59 = .ok (.ireturn, 1) := by decide +kernel
set_option maxRecDepth 20000 in
theorem ggX7_tryOf_X7_whichOf : GoodIn wsX7_tryOf wsX7_whichOf := goodIn_r _ [7, 1, 8, 9, 10, 11, 12, 6, 13, 14, 15, 16, 17, 18, 23, 24, 25, 26, 27, 28, 29, 30, 31, 32, 33, 34, 35, 36, 37, 38, 39, 40, 41, 42, 43, 44, 45, 46, 47] (by decide +kernel) (by decide +kernel)
set_option maxRecDepth 20000 in
theorem gX7_tryOf_X7_whichOf : GoodIn wsX7_tryOf (wsV RX7 141 RX7 yX7_whichOf wsX7_whichOf) := goodIn_app (goodIn_of _ (by decide +kernel)) ggX7_tryOf_X7_whichOf
set_option maxRecDepth 20000 in
theorem ggX7_tryOf_X7_likeIn : GoodIn wsX7_tryOf wsX7_likeIn := goodIn_r _ [22, 1, 10, 11, 12, 6, 13, 14, 15, 16, 17, 18, 23, 24, 25, 26, 27, 28, 29, 30, 31, 32, 33, 34, 35, 36, 37, 38, 39, 40, 41, 42, 43, 44, 45, 46, 47] (by decide +kernel) (by decide +kernel)
set_option maxRecDepth 20000 in
theorem gX7_tryOf_X7_likeIn : GoodIn wsX7_tryOf (wsV RX7 144 RX7 yX7_likeIn wsX7_likeIn) := goodIn_app (goodIn_of _ (by decide +kernel)) ggX7_tryOf_X7_likeIn
theorem dX7_tryOf_0 : decode cX7_tryOf 0 = .ok (.aload_n 0, 1) := by decide +kernel
theorem dX7_tryOf_1 : decode cX7_tryOf 1 = .ok (.invokevirtual 141, 3) := by decide +kernel
theorem dX7_tryOf_4 : decode cX7_tryOf 4 = .ok (.istore_n 1, 1) := by decide +kernel
theorem dX7_tryOf_5 : decode cX7_tryOf 5 = .ok (.iconst (-1), 1) := by decide +kernel
theorem dX7_tryOf_6 : decode cX7_tryOf 6 = .ok (.istore_n 2, 1) := by decide +kernel
theorem dX7_tryOf_7 : decode cX7_tryOf 7 = .ok (.bipush 7, 2) := by decide +kernel
theorem dX7_tryOf_9 : decode cX7_tryOf 9 = .ok (.istore_n 3, 1) := by decide +kernel
theorem dX7_tryOf_10 : decode cX7_tryOf 10 = .ok (.iconst 0, 1) := by decide +kernel
theorem dX7_tryOf_11 : decode cX7_tryOf 11 = .ok (.istore 4, 2) := by decide +kernel
theorem dX7_tryOf_13 : decode cX7_tryOf 13 = .ok (.iload 4, 2) := by decide +kernel
theorem dX7_tryOf_15 : decode cX7_tryOf 15 = .ok (.bipush 10, 2) := by decide +kernel
theorem dX7_tryOf_17 : decode cX7_tryOf 17 = .ok (.if_icmp .ge 106, 3) := by decide +kernel
theorem dX7_tryOf_20 : decode cX7_tryOf 20 = .ok (.iload_n 1, 1) := by decide +kernel
theorem dX7_tryOf_21 : decode cX7_tryOf 21 = .ok (.ifCond .eq 102, 3) := by decide +kernel
theorem dX7_tryOf_24 : decode cX7_tryOf 24 = .ok (.iconst 0, 1) := by decide +kernel
theorem dX7_tryOf_25 : decode cX7_tryOf 25 = .ok (.istore 5, 2) := by decide +kernel
theorem dX7_tryOf_27 : decode cX7_tryOf 27 = .ok (.iconst 0, 1) := by decide +kernel
theorem dX7_tryOf_28 : decode cX7_tryOf 28 = .ok (.istore 6, 2) := by decide +kernel
theorem dX7_tryOf_30 : decode cX7_tryOf 30 = .ok (.iload 6, 2) := by decide +kernel
theorem dX7_tryOf_32 : decode cX7_tryOf 32 = .ok (.aload_n 0, 1) := by decide +kernel
theorem dX7_tryOf_33 : decode cX7_tryOf 33 = .ok (.getfield 63, 3) := by decide +kernel
theorem dX7_tryOf_36 : decode cX7_tryOf 36 = .ok (.if_icmp .ge 55, 3) := by decide +kernel
theorem dX7_tryOf_39 : decode cX7_tryOf 39 = .ok (.iload_n 1, 1) := by decide +kernel
theorem dX7_tryOf_40 : decode cX7_tryOf 40 = .ok (.iload 6, 2) := by decide +kernel
theorem dX7_tryOf_42 : decode cX7_tryOf 42 = .ok (.ishr, 1) := by decide +kernel
theorem dX7_tryOf_43 : decode cX7_tryOf 43 = .ok (.iconst 1, 1) := by decide +kernel
theorem dX7_tryOf_44 : decode cX7_tryOf 44 = .ok (.iand, 1) := by decide +kernel
theorem dX7_tryOf_45 : decode cX7_tryOf 45 = .ok (.iconst 1, 1) := by decide +kernel
theorem dX7_tryOf_46 : decode cX7_tryOf 46 = .ok (.if_icmp .ne 20, 3) := by decide +kernel
theorem dX7_tryOf_49 : decode cX7_tryOf 49 = .ok (.aload_n 0, 1) := by decide +kernel
theorem dX7_tryOf_50 : decode cX7_tryOf 50 = .ok (.iload_n 1, 1) := by decide +kernel
theorem dX7_tryOf_51 : decode cX7_tryOf 51 = .ok (.iload 6, 2) := by decide +kernel
theorem dX7_tryOf_53 : decode cX7_tryOf 53 = .ok (.aload_n 0, 1) := by decide +kernel
theorem dX7_tryOf_54 : decode cX7_tryOf 54 = .ok (.getfield 66, 3) := by decide +kernel
theorem dX7_tryOf_57 : decode cX7_tryOf 57 = .ok (.iload 4, 2) := by decide +kernel
theorem dX7_tryOf_59 : decode cX7_tryOf 59 = .ok (.iadd, 1) := by decide +kernel
theorem dX7_tryOf_60 : decode cX7_tryOf 60 = .ok (.invokevirtual 144, 3) := by decide +kernel
theorem dX7_tryOf_63 : decode cX7_tryOf 63 = .ok (.goto 4, 3) := by decide +kernel
theorem dX7_tryOf_66 : decode cX7_tryOf 66 = .ok (.iconst 0, 1) := by decide +kernel
theorem dX7_tryOf_67 : decode cX7_tryOf 67 = .ok (.istore 7, 2) := by decide +kernel
theorem dX7_tryOf_69 : decode cX7_tryOf 69 = .ok (.iload 7, 2) := by decide +kernel
theorem dX7_tryOf_71 : decode cX7_tryOf 71 = .ok (.iload 5, 2) := by decide +kernel
theorem dX7_tryOf_73 : decode cX7_tryOf 73 = .ok (.if_icmp .le 8, 3) := by decide +kernel
theorem dX7_tryOf_76 : decode cX7_tryOf 76 = .ok (.iload 7, 2) := by decide +kernel
theorem dX7_tryOf_78 : decode cX7_tryOf 78 = .ok (.goto 5, 3) := by decide +kernel
theorem dX7_tryOf_81 : decode cX7_tryOf 81 = .ok (.iload 5, 2) := by decide +kernel
theorem dX7_tryOf_83 : decode cX7_tryOf 83 = .ok (.istore 5, 2) := by decide +kernel
theorem dX7_tryOf_85 : decode cX7_tryOf 85 = .ok (.iinc 6 1, 3) := by decide +kernel
theorem dX7_tryOf_88 : decode cX7_tryOf 88 = .ok (.goto (-58), 3) := by decide +kernel
theorem dX7_tryOf_91 : decode cX7_tryOf 91 = .ok (.iload 5, 2) := by decide +kernel
theorem dX7_tryOf_93 : decode cX7_tryOf 93 = .ok (.iload_n 3, 1) := by decide +kernel
theorem dX7_tryOf_94 : decode cX7_tryOf 94 = .ok (.if_icmp .ge 8, 3) := by decide +kernel
theorem dX7_tryOf_97 : decode cX7_tryOf 97 = .ok (.iload 4, 2) := by decide +kernel
theorem dX7_tryOf_99 : decode cX7_tryOf 99 = .ok (.goto 4, 3) := by decide +kernel
theorem dX7_tryOf_102 : decode cX7_tryOf 102 = .ok (.iload_n 2, 1) := by decide +kernel
theorem dX7_tryOf_103 : decode cX7_tryOf 103 = .ok (.istore_n 2, 1) := by decide +kernel
theorem dX7_tryOf_104 : decode cX7_tryOf 104 = .ok (.iload 5, 2) := by decide +kernel
theorem dX7_tryOf_106 : decode cX7_tryOf 106 = .ok (.iload_n 3, 1) := by decide +kernel
theorem dX7_tryOf_107 : decode cX7_tryOf 107 = .ok (.if_icmp .ge 8, 3) := by decide +kernel
theorem dX7_tryOf_110 : decode cX7_tryOf 110 = .ok (.iload 5, 2) := by decide +kernel
theorem dX7_tryOf_112 : decode cX7_tryOf 112 = .ok (.goto 4, 3) := by decide +kernel
theorem dX7_tryOf_115 : decode cX7_tryOf 115 = .ok (.iload_n 3, 1) := by decide +kernel
theorem dX7_tryOf_116 : decode cX7_tryOf 116 = .ok (.istore_n 3, 1) := by decide +kernel
theorem dX7_tryOf_117 : decode cX7_tryOf 117 = .ok (.iinc 4 1, 3) := by decide +kernel
theorem dX7_tryOf_120 : decode cX7_tryOf 120 = .ok (.goto (-107), 3) := by decide +kernel
theorem dX7_tryOf_123 : decode cX7_tryOf 123 = .ok (.iload_n 2, 1) := by decide +kernel
theorem dX7_tryOf_124 : decode cX7_tryOf 124 = .ok (.ireturn, 1) := by decide +kernel
set_option maxRecDepth 20000 in
theorem ggX7_tasteNext_X7_lacks : GoodIn wsX7_tasteNext wsX7_lacks := goodIn_r _ [5, 6, 31, 32, 33, 34, 35, 36, 37, 38, 39, 40, 41, 42, 43, 44, 45, 46, 47, 48, 49, 50, 51, 52, 53, 54, 55] (by decide +kernel) (by decide +kernel)
set_option maxRecDepth 20000 in
theorem gX7_tasteNext_X7_lacks : GoodIn wsX7_tasteNext (wsV RX7 109 RX7 yX7_lacks wsX7_lacks) := goodIn_app (goodIn_of _ (by decide +kernel)) ggX7_tasteNext_X7_lacks
set_option maxRecDepth 20000 in
theorem ggX7_tasteNext_X7_tryOf : GoodIn wsX7_tasteNext wsX7_tryOf := goodIn_r _ [10, 6, 11, 12, 13, 14, 4, 15, 16, 17, 18, 19, 20, 21, 22, 23, 24, 25, 26, 27, 28, 29, 30, 31, 32, 33, 34, 35, 36, 37, 38, 39, 40, 41, 42, 43, 44, 45, 46, 47, 48, 49, 50, 51, 52, 53, 54, 55] (by decide +kernel) (by decide +kernel)
set_option maxRecDepth 20000 in
theorem gX7_tasteNext_X7_tryOf : GoodIn wsX7_tasteNext (wsV RX7 148 RX7 yX7_tryOf wsX7_tryOf) := goodIn_app (goodIn_of _ (by decide +kernel)) ggX7_tasteNext_X7_tryOf
theorem dX7_tasteNext_0 : decode cX7_tasteNext 0 = .ok (.aload_n 0, 1) := by decide +kernel
theorem dX7_tasteNext_1 : decode cX7_tasteNext 1 = .ok (.invokevirtual 109, 3) := by decide +kernel
theorem dX7_tasteNext_4 : decode cX7_tasteNext 4 = .ok (.ifCond .eq 8, 3) := by decide +kernel
theorem dX7_tasteNext_7 : decode cX7_tasteNext 7 = .ok (.bipush (-103), 2) := by decide +kernel
theorem dX7_tasteNext_9 : decode cX7_tasteNext 9 = .ok (.goto 7, 3) := by decide +kernel
theorem dX7_tasteNext_12 : decode cX7_tasteNext 12 = .ok (.aload_n 0, 1) := by decide +kernel
theorem dX7_tasteNext_13 : decode cX7_tasteNext 13 = .ok (.invokevirtual 148, 3) := by decide +kernel
theorem dX7_tasteNext_16 : decode cX7_tasteNext 16 = .ok (.ireturn, 1) := by decide +kernel
theorem dX7_draw_0 : decode cX7_draw 0 = .ok (.aload_n 0, 1) := by decide +kernel
theorem dX7_draw_1 : decode cX7_draw 1 = .ok (.ldc2_w 151, 3) := by decide +kernel
theorem dX7_draw_4 : decode cX7_draw 4 = .ok (.aload_n 0, 1) := by decide +kernel
theorem dX7_draw_5 : decode cX7_draw 5 = .ok (.getfield 153, 3) := by decide +kernel
theorem dX7_draw_8 : decode cX7_draw 8 = .ok (.i2l, 1) := by decide +kernel
theorem dX7_draw_9 : decode cX7_draw 9 = .ok (.lmul, 1) := by decide +kernel
theorem dX7_draw_10 : decode cX7_draw 10 = .ok (.ldc2_w 156, 3) := by decide +kernel
theorem dX7_draw_13 : decode cX7_draw 13 = .ok (.ladd, 1) := by decide +kernel
theorem dX7_draw_14 : decode cX7_draw 14 = .ok (.ldc2_w 158, 3) := by decide +kernel
theorem dX7_draw_17 : decode cX7_draw 17 = .ok (.land, 1) := by decide +kernel
theorem dX7_draw_18 : decode cX7_draw 18 = .ok (.l2i, 1) := by decide +kernel
theorem dX7_draw_19 : decode cX7_draw 19 = .ok (.putfield 153, 3) := by decide +kernel
theorem dX7_draw_22 : decode cX7_draw 22 = .ok (.aload_n 0, 1) := by decide +kernel
theorem dX7_draw_23 : decode cX7_draw 23 = .ok (.getfield 153, 3) := by decide +kernel
theorem dX7_draw_26 : decode cX7_draw 26 = .ok (.ldc 160, 2) := by decide +kernel
theorem dX7_draw_28 : decode cX7_draw 28 = .ok (.idiv, 1) := by decide +kernel
theorem dX7_draw_29 : decode cX7_draw 29 = .ok (.iload_n 1, 1) := by decide +kernel
theorem dX7_draw_30 : decode cX7_draw 30 = .ok (.irem, 1) := by decide +kernel
theorem dX7_draw_31 : decode cX7_draw 31 = .ok (.ireturn, 1) := by decide +kernel
set_option maxRecDepth 20000 in
theorem ggX7_times_X7_in : GoodIn wsX7_times wsX7_in := goodIn_r _ [12] (by decide +kernel) (by decide +kernel)
set_option maxRecDepth 20000 in
theorem gX7_times_X7_in : GoodIn wsX7_times (va_wsS RX7 40 yX7_in wsX7_in) := goodIn_app (goodIn_of _ (by decide +kernel)) ggX7_times_X7_in
set_option maxRecDepth 20000 in
theorem ggX7_times_X7_lacks : GoodIn wsX7_times wsX7_lacks := goodIn_r _ [16, 8, 48, 49, 50, 51, 52, 53, 54, 55, 56, 57, 58, 59, 60, 61, 62, 63, 64, 65, 66, 67, 68, 69, 70, 71, 72] (by decide +kernel) (by decide +kernel)
set_option maxRecDepth 20000 in
theorem gX7_times_X7_lacks : GoodIn wsX7_times (wsV RX7 109 RX7 yX7_lacks wsX7_lacks) := goodIn_app (goodIn_of _ (by decide +kernel)) ggX7_times_X7_lacks
set_option maxRecDepth 20000 in
theorem ggX7_times_X7_copy : GoodIn wsX7_times wsX7_copy := goodIn_r _ [19] (by decide +kernel) (by decide +kernel)
set_option maxRecDepth 20000 in
theorem gX7_times_X7_copy : GoodIn wsX7_times (va_wsS RX7 165 yX7_copy wsX7_copy) := goodIn_app (goodIn_of _ (by decide +kernel)) ggX7_times_X7_copy
set_option maxRecDepth 20000 in
theorem ggX7_times_X7_draw : GoodIn wsX7_times wsX7_draw := goodIn_r _ [23, 24, 6, 25, 26, 27, 48, 49, 50, 51, 52, 53, 54, 55, 56, 57, 58, 59, 60, 61, 62, 63, 64, 65, 66, 67, 68, 69, 70, 71, 72] (by decide +kernel) (by decide +kernel)
set_option maxRecDepth 20000 in
theorem gX7_times_X7_draw : GoodIn wsX7_times (wsV RX7 169 RX7 yX7_draw wsX7_draw) := goodIn_app (goodIn_of _ (by decide +kernel)) ggX7_times_X7_draw
set_option maxRecDepth 20000 in
theorem ggX7_times_X7_nextNow : GoodIn wsX7_times wsX7_nextNow := goodIn_r _ [31, 5, 3, 32, 33, 34, 11, 35, 36, 37, 38, 39, 48, 49, 50, 51, 52, 53, 54, 55, 56, 57, 58, 59, 60, 61, 62, 63, 64, 65, 66, 67, 68, 69, 70, 71, 72] (by decide +kernel) (by decide +kernel)
set_option maxRecDepth 20000 in
theorem gX7_times_X7_nextNow : GoodIn wsX7_times (wsV RX7 92 RX7 yX7_nextNow wsX7_nextNow) := goodIn_app (goodIn_of _ (by decide +kernel)) ggX7_times_X7_nextNow
set_option maxRecDepth 20000 in
theorem ggX7_times_X7_noneEaten : GoodIn wsX7_times wsX7_noneEaten := goodIn_r _ [43, 8, 3, 48, 49, 50, 51, 52, 53, 54, 55, 56, 57, 58, 59, 60, 61, 62, 63, 64, 65, 66, 67, 68, 69, 70, 71, 72] (by decide +kernel) (by decide +kernel)
set_option maxRecDepth 20000 in
theorem gX7_times_X7_noneEaten : GoodIn wsX7_times (wsV RX7 113 RX7 yX7_noneEaten wsX7_noneEaten) := goodIn_app (goodIn_of _ (by decide +kernel)) ggX7_times_X7_noneEaten
set_option maxRecDepth 20000 in
theorem ggX7_times_X7_spoonsAll : GoodIn wsX7_times wsX7_spoonsAll := goodIn_r _ [47, 8, 3, 48, 49, 50, 51, 52, 53, 54, 55, 56, 57, 58, 59, 60, 61, 62, 63, 64, 65, 66, 67, 68, 69, 70, 71, 72] (by decide +kernel) (by decide +kernel)
set_option maxRecDepth 20000 in
theorem gX7_times_X7_spoonsAll : GoodIn wsX7_times (wsV RX7 119 RX7 yX7_spoonsAll wsX7_spoonsAll) := goodIn_app (goodIn_of _ (by decide +kernel)) ggX7_times_X7_spoonsAll
theorem dX7_times_0 : decode cX7_times 0 = .ok (.iload_n 1, 1) := by decide +kernel
theorem dX7_times_1 : decode cX7_times 1 = .ok (.i2l, 1) := by decide +kernel
theorem dX7_times_2 : decode cX7_times 2 = .ok (.lconst 1, 1) := by decide +kernel
theorem dX7_times_3 : decode cX7_times 3 = .ok (.ldc2_w 161, 3) := by decide +kernel
theorem dX7_times_6 : decode cX7_times 6 = .ok (.invokestatic 40, 3) := by decide +kernel
theorem dX7_times_9 : decode cX7_times 9 = .ok (.ifCond .eq 19, 3) := by decide +kernel
theorem dX7_times_12 : decode cX7_times 12 = .ok (.iload_n 2, 1) := by decide +kernel
theorem dX7_times_13 : decode cX7_times 13 = .ok (.ifCond .lt 15, 3) := by decide +kernel
theorem dX7_times_16 : decode cX7_times 16 = .ok (.iload_n 3, 1) := by decide +kernel
theorem dX7_times_17 : decode cX7_times 17 = .ok (.i2l, 1) := by decide +kernel
theorem dX7_times_18 : decode cX7_times 18 = .ok (.lconst 0, 1) := by decide +kernel
theorem dX7_times_19 : decode cX7_times 19 = .ok (.ldc2_w 163, 3) := by decide +kernel
theorem dX7_times_22 : decode cX7_times 22 = .ok (.invokestatic 40, 3) := by decide +kernel
theorem dX7_times_25 : decode cX7_times 25 = .ok (.ifCond .ne 6, 3) := by decide +kernel
theorem dX7_times_28 : decode cX7_times 28 = .ok (.bipush (-102), 2) := by decide +kernel
theorem dX7_times_30 : decode cX7_times 30 = .ok (.ireturn, 1) := by decide +kernel
theorem dX7_times_31 : decode cX7_times 31 = .ok (.aload_n 0, 1) := by decide +kernel
theorem dX7_times_32 : decode cX7_times 32 = .ok (.invokevirtual 109, 3) := by decide +kernel
theorem dX7_times_35 : decode cX7_times 35 = .ok (.ifCond .eq 6, 3) := by decide +kernel
theorem dX7_times_38 : decode cX7_times 38 = .ok (.bipush (-103), 2) := by decide +kernel
theorem dX7_times_40 : decode cX7_times 40 = .ok (.ireturn, 1) := by decide +kernel
theorem dX7_times_41 : decode cX7_times 41 = .ok (.aload_n 0, 1) := by decide +kernel
theorem dX7_times_42 : decode cX7_times 42 = .ok (.getfield 13, 3) := by decide +kernel
theorem dX7_times_45 : decode cX7_times 45 = .ok (.aload_n 0, 1) := by decide +kernel
theorem dX7_times_46 : decode cX7_times 46 = .ok (.getfield 25, 3) := by decide +kernel
theorem dX7_times_49 : decode cX7_times 49 = .ok (.invokestatic 165, 3) := by decide +kernel
theorem dX7_times_52 : decode cX7_times 52 = .ok (.aload_n 0, 1) := by decide +kernel
theorem dX7_times_53 : decode cX7_times 53 = .ok (.getfield 66, 3) := by decide +kernel
theorem dX7_times_56 : decode cX7_times 56 = .ok (.istore 4, 2) := by decide +kernel
theorem dX7_times_58 : decode cX7_times 58 = .ok (.aload_n 0, 1) := by decide +kernel
theorem dX7_times_59 : decode cX7_times 59 = .ok (.iload_n 2, 1) := by decide +kernel
theorem dX7_times_60 : decode cX7_times 60 = .ok (.putfield 153, 3) := by decide +kernel
theorem dX7_times_63 : decode cX7_times 63 = .ok (.aload_n 0, 1) := by decide +kernel
theorem dX7_times_64 : decode cX7_times 64 = .ok (.getfield 69, 3) := by decide +kernel
theorem dX7_times_67 : decode cX7_times 67 = .ok (.istore 5, 2) := by decide +kernel
theorem dX7_times_69 : decode cX7_times 69 = .ok (.iconst 0, 1) := by decide +kernel
theorem dX7_times_70 : decode cX7_times 70 = .ok (.istore 6, 2) := by decide +kernel
theorem dX7_times_72 : decode cX7_times 72 = .ok (.iload 6, 2) := by decide +kernel
theorem dX7_times_74 : decode cX7_times 74 = .ok (.iload_n 1, 1) := by decide +kernel
theorem dX7_times_75 : decode cX7_times 75 = .ok (.if_icmp .ge 131, 3) := by decide +kernel
theorem dX7_times_78 : decode cX7_times 78 = .ok (.aload_n 0, 1) := by decide +kernel
theorem dX7_times_79 : decode cX7_times 79 = .ok (.aload_n 0, 1) := by decide +kernel
theorem dX7_times_80 : decode cX7_times 80 = .ok (.getfield 63, 3) := by decide +kernel
theorem dX7_times_83 : decode cX7_times 83 = .ok (.invokevirtual 169, 3) := by decide +kernel
theorem dX7_times_86 : decode cX7_times 86 = .ok (.istore 7, 2) := by decide +kernel
theorem dX7_times_88 : decode cX7_times 88 = .ok (.aload_n 0, 1) := by decide +kernel
theorem dX7_times_89 : decode cX7_times 89 = .ok (.getfield 13, 3) := by decide +kernel
theorem dX7_times_92 : decode cX7_times 92 = .ok (.iconst 5, 1) := by decide +kernel
theorem dX7_times_93 : decode cX7_times 93 = .ok (.iload 7, 2) := by decide +kernel
theorem dX7_times_95 : decode cX7_times 95 = .ok (.imul, 1) := by decide +kernel
theorem dX7_times_96 : decode cX7_times 96 = .ok (.iconst 3, 1) := by decide +kernel
theorem dX7_times_97 : decode cX7_times 97 = .ok (.iadd, 1) := by decide +kernel
theorem dX7_times_98 : decode cX7_times 98 = .ok (.dup2, 1) := by decide +kernel
theorem dX7_times_99 : decode cX7_times 99 = .ok (.iaload, 1) := by decide +kernel
theorem dX7_times_100 : decode cX7_times 100 = .ok (.aload_n 0, 1) := by decide +kernel
theorem dX7_times_101 : decode cX7_times 101 = .ok (.getfield 13, 3) := by decide +kernel
theorem dX7_times_104 : decode cX7_times 104 = .ok (.iconst 5, 1) := by decide +kernel
theorem dX7_times_105 : decode cX7_times 105 = .ok (.iload 7, 2) := by decide +kernel
theorem dX7_times_107 : decode cX7_times 107 = .ok (.imul, 1) := by decide +kernel
theorem dX7_times_108 : decode cX7_times 108 = .ok (.iconst 3, 1) := by decide +kernel
theorem dX7_times_109 : decode cX7_times 109 = .ok (.iadd, 1) := by decide +kernel
theorem dX7_times_110 : decode cX7_times 110 = .ok (.iaload, 1) := by decide +kernel
theorem dX7_times_111 : decode cX7_times 111 = .ok (.ifCond .le 7, 3) := by decide +kernel
theorem dX7_times_114 : decode cX7_times 114 = .ok (.iconst 1, 1) := by decide +kernel
theorem dX7_times_115 : decode cX7_times 115 = .ok (.goto 4, 3) := by decide +kernel
theorem dX7_times_118 : decode cX7_times 118 = .ok (.iconst 0, 1) := by decide +kernel
theorem dX7_times_119 : decode cX7_times 119 = .ok (.isub, 1) := by decide +kernel
theorem dX7_times_120 : decode cX7_times 120 = .ok (.iastore, 1) := by decide +kernel
theorem dX7_times_121 : decode cX7_times 121 = .ok (.aload_n 0, 1) := by decide +kernel
theorem dX7_times_122 : decode cX7_times 122 = .ok (.aload_n 0, 1) := by decide +kernel
theorem dX7_times_123 : decode cX7_times 123 = .ok (.getfield 63, 3) := by decide +kernel
theorem dX7_times_126 : decode cX7_times 126 = .ok (.invokevirtual 169, 3) := by decide +kernel
theorem dX7_times_129 : decode cX7_times 129 = .ok (.istore 8, 2) := by decide +kernel
theorem dX7_times_131 : decode cX7_times 131 = .ok (.aload_n 0, 1) := by decide +kernel
theorem dX7_times_132 : decode cX7_times 132 = .ok (.getfield 13, 3) := by decide +kernel
theorem dX7_times_135 : decode cX7_times 135 = .ok (.iconst 5, 1) := by decide +kernel
theorem dX7_times_136 : decode cX7_times 136 = .ok (.iload 8, 2) := by decide +kernel
theorem dX7_times_138 : decode cX7_times 138 = .ok (.imul, 1) := by decide +kernel
theorem dX7_times_139 : decode cX7_times 139 = .ok (.iconst 3, 1) := by decide +kernel
theorem dX7_times_140 : decode cX7_times 140 = .ok (.iadd, 1) := by decide +kernel
theorem dX7_times_141 : decode cX7_times 141 = .ok (.iaload, 1) := by decide +kernel
theorem dX7_times_142 : decode cX7_times 142 = .ok (.ifCond .le 44, 3) := by decide +kernel
theorem dX7_times_145 : decode cX7_times 145 = .ok (.iload 5, 2) := by decide +kernel
theorem dX7_times_147 : decode cX7_times 147 = .ok (.aload_n 0, 1) := by decide +kernel
theorem dX7_times_148 : decode cX7_times 148 = .ok (.iload 8, 2) := by decide +kernel
theorem dX7_times_150 : decode cX7_times 150 = .ok (.invokevirtual 92, 3) := by decide +kernel
theorem dX7_times_153 : decode cX7_times 153 = .ok (.iadd, 1) := by decide +kernel
theorem dX7_times_154 : decode cX7_times 154 = .ok (.istore 5, 2) := by decide +kernel
theorem dX7_times_156 : decode cX7_times 156 = .ok (.aload_n 0, 1) := by decide +kernel
theorem dX7_times_157 : decode cX7_times 157 = .ok (.getfield 13, 3) := by decide +kernel
theorem dX7_times_160 : decode cX7_times 160 = .ok (.iconst 5, 1) := by decide +kernel
theorem dX7_times_161 : decode cX7_times 161 = .ok (.iload 8, 2) := by decide +kernel
theorem dX7_times_163 : decode cX7_times 163 = .ok (.imul, 1) := by decide +kernel
theorem dX7_times_164 : decode cX7_times 164 = .ok (.iconst 3, 1) := by decide +kernel
theorem dX7_times_165 : decode cX7_times 165 = .ok (.iadd, 1) := by decide +kernel
theorem dX7_times_166 : decode cX7_times 166 = .ok (.dup2, 1) := by decide +kernel
theorem dX7_times_167 : decode cX7_times 167 = .ok (.iaload, 1) := by decide +kernel
theorem dX7_times_168 : decode cX7_times 168 = .ok (.iconst 1, 1) := by decide +kernel
theorem dX7_times_169 : decode cX7_times 169 = .ok (.isub, 1) := by decide +kernel
theorem dX7_times_170 : decode cX7_times 170 = .ok (.iastore, 1) := by decide +kernel
theorem dX7_times_171 : decode cX7_times 171 = .ok (.aload_n 0, 1) := by decide +kernel
theorem dX7_times_172 : decode cX7_times 172 = .ok (.getfield 13, 3) := by decide +kernel
theorem dX7_times_175 : decode cX7_times 175 = .ok (.iconst 5, 1) := by decide +kernel
theorem dX7_times_176 : decode cX7_times 176 = .ok (.iload 8, 2) := by decide +kernel
theorem dX7_times_178 : decode cX7_times 178 = .ok (.imul, 1) := by decide +kernel
theorem dX7_times_179 : decode cX7_times 179 = .ok (.iconst 4, 1) := by decide +kernel
theorem dX7_times_180 : decode cX7_times 180 = .ok (.iadd, 1) := by decide +kernel
theorem dX7_times_181 : decode cX7_times 181 = .ok (.dup2, 1) := by decide +kernel
theorem dX7_times_182 : decode cX7_times 182 = .ok (.iaload, 1) := by decide +kernel
theorem dX7_times_183 : decode cX7_times 183 = .ok (.iconst 1, 1) := by decide +kernel
theorem dX7_times_184 : decode cX7_times 184 = .ok (.iadd, 1) := by decide +kernel
theorem dX7_times_185 : decode cX7_times 185 = .ok (.iastore, 1) := by decide +kernel
theorem dX7_times_186 : decode cX7_times 186 = .ok (.aload_n 0, 1) := by decide +kernel
theorem dX7_times_187 : decode cX7_times 187 = .ok (.dup, 1) := by decide +kernel
theorem dX7_times_188 : decode cX7_times 188 = .ok (.getfield 66, 3) := by decide +kernel
theorem dX7_times_191 : decode cX7_times 191 = .ok (.iconst 1, 1) := by decide +kernel
theorem dX7_times_192 : decode cX7_times 192 = .ok (.iadd, 1) := by decide +kernel
theorem dX7_times_193 : decode cX7_times 193 = .ok (.putfield 66, 3) := by decide +kernel
theorem dX7_times_196 : decode cX7_times 196 = .ok (.aload_n 0, 1) := by decide +kernel
theorem dX7_times_197 : decode cX7_times 197 = .ok (.invokevirtual 113, 3) := by decide +kernel
theorem dX7_times_200 : decode cX7_times 200 = .ok (.iinc 6 1, 3) := by decide +kernel
theorem dX7_times_203 : decode cX7_times 203 = .ok (.goto (-131), 3) := by decide +kernel
theorem dX7_times_206 : decode cX7_times 206 = .ok (.aload_n 0, 1) := by decide +kernel
theorem dX7_times_207 : decode cX7_times 207 = .ok (.invokevirtual 119, 3) := by decide +kernel
theorem dX7_times_210 : decode cX7_times 210 = .ok (.istore 6, 2) := by decide +kernel
theorem dX7_times_212 : decode cX7_times 212 = .ok (.aload_n 0, 1) := by decide +kernel
theorem dX7_times_213 : decode cX7_times 213 = .ok (.getfield 25, 3) := by decide +kernel
theorem dX7_times_216 : decode cX7_times 216 = .ok (.aload_n 0, 1) := by decide +kernel
theorem dX7_times_217 : decode cX7_times 217 = .ok (.getfield 13, 3) := by decide +kernel
theorem dX7_times_220 : decode cX7_times 220 = .ok (.invokestatic 165, 3) := by decide +kernel
theorem dX7_times_223 : decode cX7_times 223 = .ok (.aload_n 0, 1) := by decide +kernel
theorem dX7_times_224 : decode cX7_times 224 = .ok (.iload 4, 2) := by decide +kernel
theorem dX7_times_226 : decode cX7_times 226 = .ok (.putfield 66, 3) := by decide +kernel
theorem dX7_times_229 : decode cX7_times 229 = .ok (.iload_n 3, 1) := by decide +kernel
theorem dX7_times_230 : decode cX7_times 230 = .ok (.ifCond .ne 8, 3) := by decide +kernel
theorem dX7_times_233 : decode cX7_times 233 = .ok (.iload 6, 2) := by decide +kernel
theorem dX7_times_235 : decode cX7_times 235 = .ok (.goto 21, 3) := by decide +kernel
theorem dX7_times_238 : decode cX7_times 238 = .ok (.iload_n 3, 1) := by decide +kernel
theorem dX7_times_239 : decode cX7_times 239 = .ok (.iconst 1, 1) := by decide +kernel
theorem dX7_times_240 : decode cX7_times 240 = .ok (.if_icmp .ne 12, 3) := by decide +kernel
theorem dX7_times_243 : decode cX7_times 243 = .ok (.iload 5, 2) := by decide +kernel
theorem dX7_times_245 : decode cX7_times 245 = .ok (.sipush 2000, 3) := by decide +kernel
theorem dX7_times_248 : decode cX7_times 248 = .ok (.iadd, 1) := by decide +kernel
theorem dX7_times_249 : decode cX7_times 249 = .ok (.goto 7, 3) := by decide +kernel
theorem dX7_times_252 : decode cX7_times 252 = .ok (.aload_n 0, 1) := by decide +kernel
theorem dX7_times_253 : decode cX7_times 253 = .ok (.getfield 153, 3) := by decide +kernel
theorem dX7_times_256 : decode cX7_times 256 = .ok (.ireturn, 1) := by decide +kernel
set_option maxRecDepth 20000 in
theorem ggX7_image_X7_lacks : GoodIn wsX7_image wsX7_lacks := goodIn_r _ [21, 22, 26, 27, 28, 29, 30, 31, 32, 33, 34, 35, 36, 37, 38, 39, 40, 41, 42, 43, 44, 45, 46, 47, 48, 49, 50] (by decide +kernel) (by decide +kernel)
set_option maxRecDepth 20000 in
theorem gX7_image_X7_lacks : GoodIn wsX7_image (wsV RX7 109 RX7 yX7_lacks wsX7_lacks) := goodIn_app (goodIn_of _ (by decide +kernel)) ggX7_image_X7_lacks
set_option maxRecDepth 20000 in
theorem ggX7_image_X7_copy : GoodIn wsX7_image wsX7_copy := goodIn_r _ [25] (by decide +kernel) (by decide +kernel)
set_option maxRecDepth 20000 in
theorem gX7_image_X7_copy : GoodIn wsX7_image (va_wsS RX7 165 yX7_copy wsX7_copy) := goodIn_app (goodIn_of _ (by decide +kernel)) ggX7_image_X7_copy
theorem dX7_image_0 : decode cX7_image 0 = .ok (.aload_n 0, 1) := by decide +kernel
theorem dX7_image_1 : decode cX7_image 1 = .ok (.invokevirtual 109, 3) := by decide +kernel
theorem dX7_image_4 : decode cX7_image 4 = .ok (.ifCond .eq 6, 3) := by decide +kernel
theorem dX7_image_7 : decode cX7_image 7 = .ok (.bipush (-103), 2) := by decide +kernel
theorem dX7_image_9 : decode cX7_image 9 = .ok (.ireturn, 1) := by decide +kernel
theorem dX7_image_10 : decode cX7_image 10 = .ok (.aload_n 0, 1) := by decide +kernel
theorem dX7_image_11 : decode cX7_image 11 = .ok (.getfield 13, 3) := by decide +kernel
theorem dX7_image_14 : decode cX7_image 14 = .ok (.aload_n 0, 1) := by decide +kernel
theorem dX7_image_15 : decode cX7_image 15 = .ok (.getfield 28, 3) := by decide +kernel
theorem dX7_image_18 : decode cX7_image 18 = .ok (.invokestatic 165, 3) := by decide +kernel
theorem dX7_image_21 : decode cX7_image 21 = .ok (.aload_n 0, 1) := by decide +kernel
theorem dX7_image_22 : decode cX7_image 22 = .ok (.getfield 22, 3) := by decide +kernel
theorem dX7_image_25 : decode cX7_image 25 = .ok (.aload_n 0, 1) := by decide +kernel
theorem dX7_image_26 : decode cX7_image 26 = .ok (.getfield 31, 3) := by decide +kernel
theorem dX7_image_29 : decode cX7_image 29 = .ok (.invokestatic 165, 3) := by decide +kernel
theorem dX7_image_32 : decode cX7_image 32 = .ok (.aload_n 0, 1) := by decide +kernel
theorem dX7_image_33 : decode cX7_image 33 = .ok (.aload_n 0, 1) := by decide +kernel
theorem dX7_image_34 : decode cX7_image 34 = .ok (.getfield 66, 3) := by decide +kernel
theorem dX7_image_37 : decode cX7_image 37 = .ok (.putfield 172, 3) := by decide +kernel
theorem dX7_image_40 : decode cX7_image 40 = .ok (.aload_n 0, 1) := by decide +kernel
theorem dX7_image_41 : decode cX7_image 41 = .ok (.aload_n 0, 1) := by decide +kernel
theorem dX7_image_42 : decode cX7_image 42 = .ok (.getfield 69, 3) := by decide +kernel
theorem dX7_image_45 : decode cX7_image 45 = .ok (.putfield 175, 3) := by decide +kernel
theorem dX7_image_48 : decode cX7_image 48 = .ok (.aload_n 0, 1) := by decide +kernel
theorem dX7_image_49 : decode cX7_image 49 = .ok (.aload_n 0, 1) := by decide +kernel
theorem dX7_image_50 : decode cX7_image 50 = .ok (.getfield 72, 3) := by decide +kernel
theorem dX7_image_53 : decode cX7_image 53 = .ok (.putfield 178, 3) := by decide +kernel
theorem dX7_image_56 : decode cX7_image 56 = .ok (.aload_n 0, 1) := by decide +kernel
theorem dX7_image_57 : decode cX7_image 57 = .ok (.aload_n 0, 1) := by decide +kernel
theorem dX7_image_58 : decode cX7_image 58 = .ok (.getfield 75, 3) := by decide +kernel
theorem dX7_image_61 : decode cX7_image 61 = .ok (.putfield 181, 3) := by decide +kernel
theorem dX7_image_64 : decode cX7_image 64 = .ok (.aload_n 0, 1) := by decide +kernel
theorem dX7_image_65 : decode cX7_image 65 = .ok (.aload_n 0, 1) := by decide +kernel
theorem dX7_image_66 : decode cX7_image 66 = .ok (.getfield 78, 3) := by decide +kernel
theorem dX7_image_69 : decode cX7_image 69 = .ok (.putfield 184, 3) := by decide +kernel
theorem dX7_image_72 : decode cX7_image 72 = .ok (.aload_n 0, 1) := by decide +kernel
theorem dX7_image_73 : decode cX7_image 73 = .ok (.aload_n 0, 1) := by decide +kernel
theorem dX7_image_74 : decode cX7_image 74 = .ok (.getfield 81, 3) := by decide +kernel
theorem dX7_image_77 : decode cX7_image 77 = .ok (.putfield 34, 3) := by decide +kernel
theorem dX7_image_80 : decode cX7_image 80 = .ok (.aload_n 0, 1) := by decide +kernel
theorem dX7_image_81 : decode cX7_image 81 = .ok (.getfield 66, 3) := by decide +kernel
theorem dX7_image_84 : decode cX7_image 84 = .ok (.ireturn, 1) := by decide +kernel
set_option maxRecDepth 20000 in
theorem ggX7_restore_X7_copy : GoodIn wsX7_restore wsX7_copy := goodIn_r _ [20] (by decide +kernel) (by decide +kernel)
set_option maxRecDepth 20000 in
theorem gX7_restore_X7_copy : GoodIn wsX7_restore (va_wsS RX7 165 yX7_copy wsX7_copy) := goodIn_app (goodIn_of _ (by decide +kernel)) ggX7_restore_X7_copy
theorem dX7_restore_0 : decode cX7_restore 0 = .ok (.aload_n 0, 1) := by decide +kernel
theorem dX7_restore_1 : decode cX7_restore 1 = .ok (.getfield 34, 3) := by decide +kernel
theorem dX7_restore_4 : decode cX7_restore 4 = .ok (.aload_n 0, 1) := by decide +kernel
theorem dX7_restore_5 : decode cX7_restore 5 = .ok (.getfield 81, 3) := by decide +kernel
theorem dX7_restore_8 : decode cX7_restore 8 = .ok (.if_icmp .eq 6, 3) := by decide +kernel
theorem dX7_restore_11 : decode cX7_restore 11 = .ok (.bipush (-103), 2) := by decide +kernel
theorem dX7_restore_13 : decode cX7_restore 13 = .ok (.ireturn, 1) := by decide +kernel
theorem dX7_restore_14 : decode cX7_restore 14 = .ok (.aload_n 0, 1) := by decide +kernel
theorem dX7_restore_15 : decode cX7_restore 15 = .ok (.getfield 28, 3) := by decide +kernel
theorem dX7_restore_18 : decode cX7_restore 18 = .ok (.aload_n 0, 1) := by decide +kernel
theorem dX7_restore_19 : decode cX7_restore 19 = .ok (.getfield 13, 3) := by decide +kernel
theorem dX7_restore_22 : decode cX7_restore 22 = .ok (.invokestatic 165, 3) := by decide +kernel
theorem dX7_restore_25 : decode cX7_restore 25 = .ok (.aload_n 0, 1) := by decide +kernel
theorem dX7_restore_26 : decode cX7_restore 26 = .ok (.getfield 31, 3) := by decide +kernel
theorem dX7_restore_29 : decode cX7_restore 29 = .ok (.aload_n 0, 1) := by decide +kernel
theorem dX7_restore_30 : decode cX7_restore 30 = .ok (.getfield 22, 3) := by decide +kernel
theorem dX7_restore_33 : decode cX7_restore 33 = .ok (.invokestatic 165, 3) := by decide +kernel
theorem dX7_restore_36 : decode cX7_restore 36 = .ok (.aload_n 0, 1) := by decide +kernel
theorem dX7_restore_37 : decode cX7_restore 37 = .ok (.aload_n 0, 1) := by decide +kernel
theorem dX7_restore_38 : decode cX7_restore 38 = .ok (.getfield 172, 3) := by decide +kernel
theorem dX7_restore_41 : decode cX7_restore 41 = .ok (.putfield 66, 3) := by decide +kernel
theorem dX7_restore_44 : decode cX7_restore 44 = .ok (.aload_n 0, 1) := by decide +kernel
theorem dX7_restore_45 : decode cX7_restore 45 = .ok (.aload_n 0, 1) := by decide +kernel
theorem dX7_restore_46 : decode cX7_restore 46 = .ok (.getfield 175, 3) := by decide +kernel
theorem dX7_restore_49 : decode cX7_restore 49 = .ok (.putfield 69, 3) := by decide +kernel
theorem dX7_restore_52 : decode cX7_restore 52 = .ok (.aload_n 0, 1) := by decide +kernel
theorem dX7_restore_53 : decode cX7_restore 53 = .ok (.aload_n 0, 1) := by decide +kernel
theorem dX7_restore_54 : decode cX7_restore 54 = .ok (.getfield 178, 3) := by decide +kernel
theorem dX7_restore_57 : decode cX7_restore 57 = .ok (.putfield 72, 3) := by decide +kernel
theorem dX7_restore_60 : decode cX7_restore 60 = .ok (.aload_n 0, 1) := by decide +kernel
theorem dX7_restore_61 : decode cX7_restore 61 = .ok (.aload_n 0, 1) := by decide +kernel
theorem dX7_restore_62 : decode cX7_restore 62 = .ok (.getfield 181, 3) := by decide +kernel
theorem dX7_restore_65 : decode cX7_restore 65 = .ok (.putfield 75, 3) := by decide +kernel
theorem dX7_restore_68 : decode cX7_restore 68 = .ok (.aload_n 0, 1) := by decide +kernel
theorem dX7_restore_69 : decode cX7_restore 69 = .ok (.aload_n 0, 1) := by decide +kernel
theorem dX7_restore_70 : decode cX7_restore 70 = .ok (.getfield 184, 3) := by decide +kernel
theorem dX7_restore_73 : decode cX7_restore 73 = .ok (.putfield 78, 3) := by decide +kernel
theorem dX7_restore_76 : decode cX7_restore 76 = .ok (.aload_n 0, 1) := by decide +kernel
theorem dX7_restore_77 : decode cX7_restore 77 = .ok (.getfield 66, 3) := by decide +kernel
theorem dX7_restore_80 : decode cX7_restore 80 = .ok (.ireturn, 1) := by decide +kernel
theorem dX7_emptyMany_0 : decode cX7_emptyMany 0 = .ok (.iconst 0, 1) := by decide +kernel
theorem dX7_emptyMany_1 : decode cX7_emptyMany 1 = .ok (.istore_n 1, 1) := by decide +kernel
theorem dX7_emptyMany_2 : decode cX7_emptyMany 2 = .ok (.iconst 0, 1) := by decide +kernel
theorem dX7_emptyMany_3 : decode cX7_emptyMany 3 = .ok (.istore_n 2, 1) := by decide +kernel
theorem dX7_emptyMany_4 : decode cX7_emptyMany 4 = .ok (.iload_n 2, 1) := by decide +kernel
theorem dX7_emptyMany_5 : decode cX7_emptyMany 5 = .ok (.aload_n 0, 1) := by decide +kernel
theorem dX7_emptyMany_6 : decode cX7_emptyMany 6 = .ok (.getfield 63, 3) := by decide +kernel
theorem dX7_emptyMany_9 : decode cX7_emptyMany 9 = .ok (.if_icmp .ge 30, 3) := by decide +kernel
theorem dX7_emptyMany_12 : decode cX7_emptyMany 12 = .ok (.iload_n 1, 1) := by decide +kernel
theorem dX7_emptyMany_13 : decode cX7_emptyMany 13 = .ok (.aload_n 0, 1) := by decide +kernel
theorem dX7_emptyMany_14 : decode cX7_emptyMany 14 = .ok (.getfield 13, 3) := by decide +kernel
theorem dX7_emptyMany_17 : decode cX7_emptyMany 17 = .ok (.iconst 5, 1) := by decide +kernel
theorem dX7_emptyMany_18 : decode cX7_emptyMany 18 = .ok (.iload_n 2, 1) := by decide +kernel
theorem dX7_emptyMany_19 : decode cX7_emptyMany 19 = .ok (.imul, 1) := by decide +kernel
theorem dX7_emptyMany_20 : decode cX7_emptyMany 20 = .ok (.iconst 3, 1) := by decide +kernel
theorem dX7_emptyMany_21 : decode cX7_emptyMany 21 = .ok (.iadd, 1) := by decide +kernel
theorem dX7_emptyMany_22 : decode cX7_emptyMany 22 = .ok (.iaload, 1) := by decide +kernel
theorem dX7_emptyMany_23 : decode cX7_emptyMany 23 = .ok (.ifCond .ne 7, 3) := by decide +kernel
theorem dX7_emptyMany_26 : decode cX7_emptyMany 26 = .ok (.iconst 1, 1) := by decide +kernel
theorem dX7_emptyMany_27 : decode cX7_emptyMany 27 = .ok (.goto 4, 3) := by decide +kernel
theorem dX7_emptyMany_30 : decode cX7_emptyMany 30 = .ok (.iconst 0, 1) := by decide +kernel
theorem dX7_emptyMany_31 : decode cX7_emptyMany 31 = .ok (.iadd, 1) := by decide +kernel
theorem dX7_emptyMany_32 : decode cX7_emptyMany 32 = .ok (.istore_n 1, 1) := by decide +kernel
theorem dX7_emptyMany_33 : decode cX7_emptyMany 33 = .ok (.iinc 2 1, 3) := by decide +kernel
theorem dX7_emptyMany_36 : decode cX7_emptyMany 36 = .ok (.goto (-32), 3) := by decide +kernel
theorem dX7_emptyMany_39 : decode cX7_emptyMany 39 = .ok (.iload_n 1, 1) := by decide +kernel
theorem dX7_emptyMany_40 : decode cX7_emptyMany 40 = .ok (.ireturn, 1) := by decide +kernel
set_option maxRecDepth 20000 in
theorem ggX7_countOf_X7_spoonsAll : GoodIn wsX7_countOf wsX7_spoonsAll := goodIn_r _ [14, 1, 15, 20, 21, 22, 23, 24, 25, 26, 27, 28, 29, 30, 31, 32, 33, 34, 35, 36, 37, 38, 39, 40, 41, 42, 43, 44] (by decide +kernel) (by decide +kernel)
set_option maxRecDepth 20000 in
theorem gX7_countOf_X7_spoonsAll : GoodIn wsX7_countOf (wsV RX7 119 RX7 yX7_spoonsAll wsX7_spoonsAll) := goodIn_app (goodIn_of _ (by decide +kernel)) ggX7_countOf_X7_spoonsAll
set_option maxRecDepth 20000 in
theorem ggX7_countOf_X7_emptyMany : GoodIn wsX7_countOf wsX7_emptyMany := goodIn_r _ [19, 1, 15, 20, 21, 22, 23, 24, 25, 26, 27, 28, 29, 30, 31, 32, 33, 34, 35, 36, 37, 38, 39, 40, 41, 42, 43, 44] (by decide +kernel) (by decide +kernel)
set_option maxRecDepth 20000 in
theorem gX7_countOf_X7_emptyMany : GoodIn wsX7_countOf (wsV RX7 187 RX7 yX7_emptyMany wsX7_emptyMany) := goodIn_app (goodIn_of _ (by decide +kernel)) ggX7_countOf_X7_emptyMany
theorem dX7_countOf_0 : decode cX7_countOf 0 = .ok (.iload_n 1, 1) := by decide +kernel
theorem dX7_countOf_1 : decode cX7_countOf 1 = .ok (.tableswitch 118 0 10 #[59, 64, 69, 74, 83, 88, 93, 98, 103, 108, 113], 59) := by decide +kernel
theorem dX7_countOf_60 : decode cX7_countOf 60 = .ok (.aload_n 0, 1) := by decide +kernel
theorem dX7_countOf_61 : decode cX7_countOf 61 = .ok (.getfield 63, 3) := by decide +kernel
theorem dX7_countOf_64 : decode cX7_countOf 64 = .ok (.ireturn, 1) := by decide +kernel
theorem dX7_countOf_65 : decode cX7_countOf 65 = .ok (.aload_n 0, 1) := by decide +kernel
theorem dX7_countOf_66 : decode cX7_countOf 66 = .ok (.getfield 66, 3) := by decide +kernel
theorem dX7_countOf_69 : decode cX7_countOf 69 = .ok (.ireturn, 1) := by decide +kernel
theorem dX7_countOf_70 : decode cX7_countOf 70 = .ok (.aload_n 0, 1) := by decide +kernel
theorem dX7_countOf_71 : decode cX7_countOf 71 = .ok (.invokevirtual 119, 3) := by decide +kernel
theorem dX7_countOf_74 : decode cX7_countOf 74 = .ok (.ireturn, 1) := by decide +kernel
theorem dX7_countOf_75 : decode cX7_countOf 75 = .ok (.aload_n 0, 1) := by decide +kernel
theorem dX7_countOf_76 : decode cX7_countOf 76 = .ok (.getfield 69, 3) := by decide +kernel
theorem dX7_countOf_79 : decode cX7_countOf 79 = .ok (.sipush 2000, 3) := by decide +kernel
theorem dX7_countOf_82 : decode cX7_countOf 82 = .ok (.iadd, 1) := by decide +kernel
theorem dX7_countOf_83 : decode cX7_countOf 83 = .ok (.ireturn, 1) := by decide +kernel
theorem dX7_countOf_84 : decode cX7_countOf 84 = .ok (.aload_n 0, 1) := by decide +kernel
theorem dX7_countOf_85 : decode cX7_countOf 85 = .ok (.invokevirtual 187, 3) := by decide +kernel
theorem dX7_countOf_88 : decode cX7_countOf 88 = .ok (.ireturn, 1) := by decide +kernel
theorem dX7_countOf_89 : decode cX7_countOf 89 = .ok (.aload_n 0, 1) := by decide +kernel
theorem dX7_countOf_90 : decode cX7_countOf 90 = .ok (.getfield 72, 3) := by decide +kernel
theorem dX7_countOf_93 : decode cX7_countOf 93 = .ok (.ireturn, 1) := by decide +kernel
theorem dX7_countOf_94 : decode cX7_countOf 94 = .ok (.aload_n 0, 1) := by decide +kernel
theorem dX7_countOf_95 : decode cX7_countOf 95 = .ok (.getfield 75, 3) := by decide +kernel
theorem dX7_countOf_98 : decode cX7_countOf 98 = .ok (.ireturn, 1) := by decide +kernel
theorem dX7_countOf_99 : decode cX7_countOf 99 = .ok (.aload_n 0, 1) := by decide +kernel
theorem dX7_countOf_100 : decode cX7_countOf 100 = .ok (.getfield 78, 3) := by decide +kernel
theorem dX7_countOf_103 : decode cX7_countOf 103 = .ok (.ireturn, 1) := by decide +kernel
theorem dX7_countOf_104 : decode cX7_countOf 104 = .ok (.aload_n 0, 1) := by decide +kernel
theorem dX7_countOf_105 : decode cX7_countOf 105 = .ok (.getfield 44, 3) := by decide +kernel
theorem dX7_countOf_108 : decode cX7_countOf 108 = .ok (.ireturn, 1) := by decide +kernel
theorem dX7_countOf_109 : decode cX7_countOf 109 = .ok (.aload_n 0, 1) := by decide +kernel
theorem dX7_countOf_110 : decode cX7_countOf 110 = .ok (.getfield 81, 3) := by decide +kernel
theorem dX7_countOf_113 : decode cX7_countOf 113 = .ok (.ireturn, 1) := by decide +kernel
theorem dX7_countOf_114 : decode cX7_countOf 114 = .ok (.aload_n 0, 1) := by decide +kernel
theorem dX7_countOf_115 : decode cX7_countOf 115 = .ok (.getfield 131, 3) := by decide +kernel
theorem dX7_countOf_118 : decode cX7_countOf 118 = .ok (.ireturn, 1) := by decide +kernel
theorem dX7_countOf_119 : decode cX7_countOf 119 = .ok (.bipush (-102), 2) := by decide +kernel
theorem dX7_countOf_121 : decode cX7_countOf 121 = .ok (.ireturn, 1) := by decide +kernel
set_option maxRecDepth 20000 in
theorem ggX7_count_X7_countOf : GoodIn wsX7_count wsX7_countOf := goodIn_r _ [5, 6, 7, 8, 9, 10, 11, 12, 13, 14, 15, 16, 17, 4, 18, 19, 20, 21, 22, 23, 24, 25, 26, 27, 28, 29, 30, 31, 32, 33, 34, 35, 36, 37, 38, 39, 40, 41, 42, 43, 44, 45, 46, 47, 48] (by decide +kernel) (by decide +kernel)
set_option maxRecDepth 20000 in
theorem gX7_count_X7_countOf : GoodIn wsX7_count (wsV RX7 190 RX7 yX7_countOf wsX7_countOf) := goodIn_app (goodIn_of _ (by decide +kernel)) ggX7_count_X7_countOf
theorem dX7_count_0 : decode cX7_count 0 = .ok (.aload_n 0, 1) := by decide +kernel
theorem dX7_count_1 : decode cX7_count 1 = .ok (.iload_n 1, 1) := by decide +kernel
theorem dX7_count_2 : decode cX7_count 2 = .ok (.invokevirtual 190, 3) := by decide +kernel
theorem dX7_count_5 : decode cX7_count 5 = .ok (.ireturn, 1) := by decide +kernel
theorem dX7_say_0 : decode cX7_say 0 = .ok (.aload_n 0, 1) := by decide +kernel
theorem dX7_say_1 : decode cX7_say 1 = .ok (.ldc2_w 193, 3) := by decide +kernel
theorem dX7_say_4 : decode cX7_say 4 = .ok (.aload_n 0, 1) := by decide +kernel
theorem dX7_say_5 : decode cX7_say 5 = .ok (.getfield 195, 3) := by decide +kernel
theorem dX7_say_8 : decode cX7_say 8 = .ok (.lmul, 1) := by decide +kernel
theorem dX7_say_9 : decode cX7_say 9 = .ok (.lload_n 1, 1) := by decide +kernel
theorem dX7_say_10 : decode cX7_say 10 = .ok (.ladd, 1) := by decide +kernel
theorem dX7_say_11 : decode cX7_say 11 = .ok (.putfield 195, 3) := by decide +kernel
theorem dX7_say_14 : decode cX7_say 14 = .ok (.return_, 1) := by decide +kernel
set_option maxRecDepth 20000 in
theorem ggX7_digest_X7_tell : GoodIn wsX7_digest wsX7_tell := goodIn_r _ [10, 11, 12, 13, 14, 15, 9, 16, 17, 18, 19, 20, 21, 22, 23, 24, 25, 26, 27, 28, 29, 70, 71, 72, 73, 74, 75, 76, 77, 78, 79, 80, 81, 82, 83, 84, 85, 86, 87, 88, 89, 90, 91, 92, 93, 94] (by decide +kernel) (by decide +kernel)
set_option maxRecDepth 20000 in
theorem gX7_digest_X7_tell : GoodIn wsX7_digest (wsV RX7 102 RX7 yX7_tell wsX7_tell) := goodIn_app (goodIn_of _ (by decide +kernel)) ggX7_digest_X7_tell
set_option maxRecDepth 20000 in
theorem ggX7_digest_X7_say : GoodIn wsX7_digest wsX7_say := goodIn_r _ [33, 34, 2, 70, 71, 72, 73, 74, 75, 76, 77, 78, 79, 80, 81, 82, 83, 84, 85, 86, 87, 88, 89, 90, 91, 92, 93, 94] (by decide +kernel) (by decide +kernel)
set_option maxRecDepth 20000 in
theorem gX7_digest_X7_say : GoodIn wsX7_digest (wsV RX7 201 RX7 yX7_say wsX7_say) := goodIn_app (goodIn_of _ (by decide +kernel)) ggX7_digest_X7_say
set_option maxRecDepth 20000 in
theorem ggX7_digest_X7_firstIn : GoodIn wsX7_digest wsX7_firstIn := goodIn_r _ [24, 11, 13, 14, 15, 9, 16, 70, 71, 72, 73, 74, 75, 76, 77, 78, 79, 80, 81, 82, 83, 84, 85, 86, 87, 88, 89, 90, 91, 92, 93, 94] (by decide +kernel) (by decide +kernel)
set_option maxRecDepth 20000 in
theorem gX7_digest_X7_firstIn : GoodIn wsX7_digest (wsV RX7 88 RX7 yX7_firstIn wsX7_firstIn) := goodIn_app (goodIn_of _ (by decide +kernel)) ggX7_digest_X7_firstIn
set_option maxRecDepth 20000 in
theorem ggX7_digest_X7_lacks : GoodIn wsX7_digest wsX7_lacks := goodIn_r _ [38, 3, 70, 71, 72, 73, 74, 75, 76, 77, 78, 79, 80, 81, 82, 83, 84, 85, 86, 87, 88, 89, 90, 91, 92, 93, 94] (by decide +kernel) (by decide +kernel)
set_option maxRecDepth 20000 in
theorem gX7_digest_X7_lacks : GoodIn wsX7_digest (wsV RX7 109 RX7 yX7_lacks wsX7_lacks) := goodIn_app (goodIn_of _ (by decide +kernel)) ggX7_digest_X7_lacks
set_option maxRecDepth 20000 in
theorem ggX7_digest_X7_whichOf : GoodIn wsX7_digest wsX7_whichOf := goodIn_r _ [42, 3, 43, 44, 21, 22, 23, 9, 24, 11, 13, 14, 15, 16, 70, 71, 72, 73, 74, 75, 76, 77, 78, 79, 80, 81, 82, 83, 84, 85, 86, 87, 88, 89, 90, 91, 92, 93, 94] (by decide +kernel) (by decide +kernel)
set_option maxRecDepth 20000 in
theorem gX7_digest_X7_whichOf : GoodIn wsX7_digest (wsV RX7 141 RX7 yX7_whichOf wsX7_whichOf) := goodIn_app (goodIn_of _ (by decide +kernel)) ggX7_digest_X7_whichOf
set_option maxRecDepth 20000 in
theorem ggX7_digest_X7_tryOf : GoodIn wsX7_digest wsX7_tryOf := goodIn_r _ [48, 3, 12, 39, 40, 41, 9, 42, 43, 44, 21, 22, 23, 24, 11, 13, 14, 15, 16, 49, 50, 51, 52, 70, 71, 72, 73, 74, 75, 76, 77, 78, 79, 80, 81, 82, 83, 84, 85, 86, 87, 88, 89, 90, 91, 92, 93, 94] (by decide +kernel) (by decide +kernel)
set_option maxRecDepth 20000 in
theorem gX7_digest_X7_tryOf : GoodIn wsX7_digest (wsV RX7 148 RX7 yX7_tryOf wsX7_tryOf) := goodIn_app (goodIn_of _ (by decide +kernel)) ggX7_digest_X7_tryOf
set_option maxRecDepth 20000 in
theorem ggX7_digest_X7_countOf : GoodIn wsX7_digest wsX7_countOf := goodIn_r _ [56, 3, 12, 57, 58, 59, 43, 4, 60, 61, 62, 63, 64, 9, 65, 11, 66, 67, 68, 69, 70, 71, 72, 73, 74, 75, 76, 77, 78, 79, 80, 81, 82, 83, 84, 85, 86, 87, 88, 89, 90, 91, 92, 93, 94] (by decide +kernel) (by decide +kernel)
set_option maxRecDepth 20000 in
theorem gX7_digest_X7_countOf : GoodIn wsX7_digest (wsV RX7 190 RX7 yX7_countOf wsX7_countOf) := goodIn_app (goodIn_of _ (by decide +kernel)) ggX7_digest_X7_countOf
theorem dX7_digest_0 : decode cX7_digest 0 = .ok (.aload_n 0, 1) := by decide +kernel
theorem dX7_digest_1 : decode cX7_digest 1 = .ok (.ldc2_w 199, 3) := by decide +kernel
theorem dX7_digest_4 : decode cX7_digest 4 = .ok (.putfield 195, 3) := by decide +kernel
theorem dX7_digest_7 : decode cX7_digest 7 = .ok (.iconst 0, 1) := by decide +kernel
theorem dX7_digest_8 : decode cX7_digest 8 = .ok (.istore_n 1, 1) := by decide +kernel
theorem dX7_digest_9 : decode cX7_digest 9 = .ok (.iload_n 1, 1) := by decide +kernel
theorem dX7_digest_10 : decode cX7_digest 10 = .ok (.aload_n 0, 1) := by decide +kernel
theorem dX7_digest_11 : decode cX7_digest 11 = .ok (.getfield 63, 3) := by decide +kernel
theorem dX7_digest_14 : decode cX7_digest 14 = .ok (.if_icmp .ge 62, 3) := by decide +kernel
theorem dX7_digest_17 : decode cX7_digest 17 = .ok (.iconst 0, 1) := by decide +kernel
theorem dX7_digest_18 : decode cX7_digest 18 = .ok (.istore_n 2, 1) := by decide +kernel
theorem dX7_digest_19 : decode cX7_digest 19 = .ok (.iload_n 2, 1) := by decide +kernel
theorem dX7_digest_20 : decode cX7_digest 20 = .ok (.bipush 8, 2) := by decide +kernel
theorem dX7_digest_22 : decode cX7_digest 22 = .ok (.if_icmp .ge 20, 3) := by decide +kernel
theorem dX7_digest_25 : decode cX7_digest 25 = .ok (.aload_n 0, 1) := by decide +kernel
theorem dX7_digest_26 : decode cX7_digest 26 = .ok (.aload_n 0, 1) := by decide +kernel
theorem dX7_digest_27 : decode cX7_digest 27 = .ok (.iload_n 1, 1) := by decide +kernel
theorem dX7_digest_28 : decode cX7_digest 28 = .ok (.iload_n 2, 1) := by decide +kernel
theorem dX7_digest_29 : decode cX7_digest 29 = .ok (.invokevirtual 102, 3) := by decide +kernel
theorem dX7_digest_32 : decode cX7_digest 32 = .ok (.i2l, 1) := by decide +kernel
theorem dX7_digest_33 : decode cX7_digest 33 = .ok (.invokevirtual 201, 3) := by decide +kernel
theorem dX7_digest_36 : decode cX7_digest 36 = .ok (.iinc 2 1, 3) := by decide +kernel
theorem dX7_digest_39 : decode cX7_digest 39 = .ok (.goto (-20), 3) := by decide +kernel
theorem dX7_digest_42 : decode cX7_digest 42 = .ok (.aload_n 0, 1) := by decide +kernel
theorem dX7_digest_43 : decode cX7_digest 43 = .ok (.aload_n 0, 1) := by decide +kernel
theorem dX7_digest_44 : decode cX7_digest 44 = .ok (.iload_n 1, 1) := by decide +kernel
theorem dX7_digest_45 : decode cX7_digest 45 = .ok (.iconst 1, 1) := by decide +kernel
theorem dX7_digest_46 : decode cX7_digest 46 = .ok (.invokevirtual 88, 3) := by decide +kernel
theorem dX7_digest_49 : decode cX7_digest 49 = .ok (.bipush 100, 2) := by decide +kernel
theorem dX7_digest_51 : decode cX7_digest 51 = .ok (.iadd, 1) := by decide +kernel
theorem dX7_digest_52 : decode cX7_digest 52 = .ok (.i2l, 1) := by decide +kernel
theorem dX7_digest_53 : decode cX7_digest 53 = .ok (.invokevirtual 201, 3) := by decide +kernel
theorem dX7_digest_56 : decode cX7_digest 56 = .ok (.aload_n 0, 1) := by decide +kernel
theorem dX7_digest_57 : decode cX7_digest 57 = .ok (.aload_n 0, 1) := by decide +kernel
theorem dX7_digest_58 : decode cX7_digest 58 = .ok (.iload_n 1, 1) := by decide +kernel
theorem dX7_digest_59 : decode cX7_digest 59 = .ok (.iconst 2, 1) := by decide +kernel
theorem dX7_digest_60 : decode cX7_digest 60 = .ok (.invokevirtual 88, 3) := by decide +kernel
theorem dX7_digest_63 : decode cX7_digest 63 = .ok (.bipush 100, 2) := by decide +kernel
theorem dX7_digest_65 : decode cX7_digest 65 = .ok (.iadd, 1) := by decide +kernel
theorem dX7_digest_66 : decode cX7_digest 66 = .ok (.i2l, 1) := by decide +kernel
theorem dX7_digest_67 : decode cX7_digest 67 = .ok (.invokevirtual 201, 3) := by decide +kernel
theorem dX7_digest_70 : decode cX7_digest 70 = .ok (.iinc 1 1, 3) := by decide +kernel
theorem dX7_digest_73 : decode cX7_digest 73 = .ok (.goto (-64), 3) := by decide +kernel
theorem dX7_digest_76 : decode cX7_digest 76 = .ok (.aload_n 0, 1) := by decide +kernel
theorem dX7_digest_77 : decode cX7_digest 77 = .ok (.invokevirtual 109, 3) := by decide +kernel
theorem dX7_digest_80 : decode cX7_digest 80 = .ok (.ifCond .ne 21, 3) := by decide +kernel
theorem dX7_digest_83 : decode cX7_digest 83 = .ok (.aload_n 0, 1) := by decide +kernel
theorem dX7_digest_84 : decode cX7_digest 84 = .ok (.aload_n 0, 1) := by decide +kernel
theorem dX7_digest_85 : decode cX7_digest 85 = .ok (.invokevirtual 141, 3) := by decide +kernel
theorem dX7_digest_88 : decode cX7_digest 88 = .ok (.i2l, 1) := by decide +kernel
theorem dX7_digest_89 : decode cX7_digest 89 = .ok (.invokevirtual 201, 3) := by decide +kernel
theorem dX7_digest_92 : decode cX7_digest 92 = .ok (.aload_n 0, 1) := by decide +kernel
theorem dX7_digest_93 : decode cX7_digest 93 = .ok (.aload_n 0, 1) := by decide +kernel
theorem dX7_digest_94 : decode cX7_digest 94 = .ok (.invokevirtual 148, 3) := by decide +kernel
theorem dX7_digest_97 : decode cX7_digest 97 = .ok (.i2l, 1) := by decide +kernel
theorem dX7_digest_98 : decode cX7_digest 98 = .ok (.invokevirtual 201, 3) := by decide +kernel
theorem dX7_digest_101 : decode cX7_digest 101 = .ok (.iconst 0, 1) := by decide +kernel
theorem dX7_digest_102 : decode cX7_digest 102 = .ok (.istore_n 1, 1) := by decide +kernel
theorem dX7_digest_103 : decode cX7_digest 103 = .ok (.iload_n 1, 1) := by decide +kernel
theorem dX7_digest_104 : decode cX7_digest 104 = .ok (.aload_n 0, 1) := by decide +kernel
theorem dX7_digest_105 : decode cX7_digest 105 = .ok (.getfield 44, 3) := by decide +kernel
theorem dX7_digest_108 : decode cX7_digest 108 = .ok (.if_icmp .ge 20, 3) := by decide +kernel
theorem dX7_digest_111 : decode cX7_digest 111 = .ok (.aload_n 0, 1) := by decide +kernel
theorem dX7_digest_112 : decode cX7_digest 112 = .ok (.aload_n 0, 1) := by decide +kernel
theorem dX7_digest_113 : decode cX7_digest 113 = .ok (.getfield 7, 3) := by decide +kernel
theorem dX7_digest_116 : decode cX7_digest 116 = .ok (.iload_n 1, 1) := by decide +kernel
theorem dX7_digest_117 : decode cX7_digest 117 = .ok (.iaload, 1) := by decide +kernel
theorem dX7_digest_118 : decode cX7_digest 118 = .ok (.i2l, 1) := by decide +kernel
theorem dX7_digest_119 : decode cX7_digest 119 = .ok (.invokevirtual 201, 3) := by decide +kernel
theorem dX7_digest_122 : decode cX7_digest 122 = .ok (.iinc 1 1, 3) := by decide +kernel
theorem dX7_digest_125 : decode cX7_digest 125 = .ok (.goto (-22), 3) := by decide +kernel
theorem dX7_digest_128 : decode cX7_digest 128 = .ok (.iconst 0, 1) := by decide +kernel
theorem dX7_digest_129 : decode cX7_digest 129 = .ok (.istore_n 1, 1) := by decide +kernel
theorem dX7_digest_130 : decode cX7_digest 130 = .ok (.iload_n 1, 1) := by decide +kernel
theorem dX7_digest_131 : decode cX7_digest 131 = .ok (.bipush 11, 2) := by decide +kernel
theorem dX7_digest_133 : decode cX7_digest 133 = .ok (.if_icmp .ge 19, 3) := by decide +kernel
theorem dX7_digest_136 : decode cX7_digest 136 = .ok (.aload_n 0, 1) := by decide +kernel
theorem dX7_digest_137 : decode cX7_digest 137 = .ok (.aload_n 0, 1) := by decide +kernel
theorem dX7_digest_138 : decode cX7_digest 138 = .ok (.iload_n 1, 1) := by decide +kernel
theorem dX7_digest_139 : decode cX7_digest 139 = .ok (.invokevirtual 190, 3) := by decide +kernel
theorem dX7_digest_142 : decode cX7_digest 142 = .ok (.i2l, 1) := by decide +kernel
theorem dX7_digest_143 : decode cX7_digest 143 = .ok (.invokevirtual 201, 3) := by decide +kernel
theorem dX7_digest_146 : decode cX7_digest 146 = .ok (.iinc 1 1, 3) := by decide +kernel
theorem dX7_digest_149 : decode cX7_digest 149 = .ok (.goto (-19), 3) := by decide +kernel
theorem dX7_digest_152 : decode cX7_digest 152 = .ok (.aload_n 0, 1) := by decide +kernel
theorem dX7_digest_153 : decode cX7_digest 153 = .ok (.getfield 195, 3) := by decide +kernel
theorem dX7_digest_156 : decode cX7_digest 156 = .ok (.lreturn, 1) := by decide +kernel
theorem dJ9_max_7cf53_0 : decode cJ9_max_7cf53 0 = .ok (.iload_n 0, 1) := by decide +kernel
theorem dJ9_max_7cf53_1 : decode cJ9_max_7cf53 1 = .ok (.iload_n 1, 1) := by decide +kernel
theorem dJ9_max_7cf53_2 : decode cJ9_max_7cf53 2 = .ok (.if_icmp .lt 7, 3) := by decide +kernel
theorem dJ9_max_7cf53_5 : decode cJ9_max_7cf53 5 = .ok (.iload_n 0, 1) := by decide +kernel
theorem dJ9_max_7cf53_6 : decode cJ9_max_7cf53 6 = .ok (.goto 4, 3) := by decide +kernel
theorem dJ9_max_7cf53_9 : decode cJ9_max_7cf53 9 = .ok (.iload_n 1, 1) := by decide +kernel
theorem dJ9_max_7cf53_10 : decode cJ9_max_7cf53 10 = .ok (.ireturn, 1) := by decide +kernel
theorem dJ9_min_7cf53_0 : decode cJ9_min_7cf53 0 = .ok (.iload_n 0, 1) := by decide +kernel
theorem dJ9_min_7cf53_1 : decode cJ9_min_7cf53 1 = .ok (.iload_n 1, 1) := by decide +kernel
theorem dJ9_min_7cf53_2 : decode cJ9_min_7cf53 2 = .ok (.if_icmp .gt 7, 3) := by decide +kernel
theorem dJ9_min_7cf53_5 : decode cJ9_min_7cf53 5 = .ok (.iload_n 0, 1) := by decide +kernel
theorem dJ9_min_7cf53_6 : decode cJ9_min_7cf53 6 = .ok (.goto 4, 3) := by decide +kernel
theorem dJ9_min_7cf53_9 : decode cJ9_min_7cf53 9 = .ok (.iload_n 1, 1) := by decide +kernel
theorem dJ9_min_7cf53_10 : decode cJ9_min_7cf53 10 = .ok (.ireturn, 1) := by decide +kernel
set_option maxRecDepth 20000 in
theorem ggL_law_X6_init : GoodIn wsL_law wsX6_init := goodIn_r _ [8, 9, 10, 11, 12, 13, 14, 15, 16, 17, 18, 19, 20, 21, 22, 23, 24, 25, 26, 27, 28, 29, 30, 31, 32, 33, 34, 35, 36, 37, 38, 39, 40, 623, 624, 625, 626, 627, 628, 629, 630, 631, 632, 633, 634, 660, 661, 662, 663, 664, 665, 666, 667, 668] (by decide +kernel) (by decide +kernel)
set_option maxRecDepth 20000 in
theorem gL_law_X6_init : GoodIn wsL_law (wsX6_init) := ggL_law_X6_init
set_option maxRecDepth 20000 in
theorem ggL_law_X7_init : GoodIn wsL_law wsX7_init := goodIn_r _ [43, 44, 10, 11, 12, 45, 46, 47, 48, 49, 50, 51, 52, 53, 635, 636, 637, 638, 639, 640, 641, 642, 643, 644, 645, 646, 647, 648, 649, 650, 651, 652, 653, 654, 655, 656, 657, 658, 659] (by decide +kernel) (by decide +kernel)
set_option maxRecDepth 20000 in
theorem gL_law_X7_init : GoodIn wsL_law (wsX7_init) := ggL_law_X7_init
set_option maxRecDepth 20000 in
theorem ggL_law_X6_letter : GoodIn wsL_law wsX6_letter := goodIn_r _ [57, 14, 13, 623, 624, 625, 626, 627, 628, 629, 630, 631, 632, 633, 634] (by decide +kernel) (by decide +kernel)
set_option maxRecDepth 20000 in
theorem gL_law_X6_letter : GoodIn wsL_law (wsV RL 13 RX6 yX6_letter wsX6_letter) := goodIn_app (goodIn_of _ (by decide +kernel)) ggL_law_X6_letter
set_option maxRecDepth 20000 in
theorem ggL_law_X7_letter : GoodIn wsL_law wsX7_letter := goodIn_r _ [61, 62, 63, 45, 64, 65, 5, 66, 635, 636, 637, 638, 639, 640, 641, 642, 643, 644, 645, 646, 647, 648, 649, 650, 651, 652, 653, 654, 655, 656, 657, 658, 659] (by decide +kernel) (by decide +kernel)
set_option maxRecDepth 20000 in
theorem gL_law_X7_letter : GoodIn wsL_law (wsV RL 17 RX7 yX7_letter wsX7_letter) := goodIn_app (goodIn_of _ (by decide +kernel)) ggL_law_X7_letter
set_option maxRecDepth 20000 in
theorem ggL_law_X6_blank : GoodIn wsL_law wsX6_blank := goodIn_r _ [70, 14, 623, 624, 625, 626, 627, 628, 629, 630, 631, 632, 633, 634] (by decide +kernel) (by decide +kernel)
set_option maxRecDepth 20000 in
theorem gL_law_X6_blank : GoodIn wsL_law (wsV RL 18 RX6 yX6_blank wsX6_blank) := goodIn_app (goodIn_of _ (by decide +kernel)) ggL_law_X6_blank
set_option maxRecDepth 20000 in
theorem ggL_law_X7_blank : GoodIn wsL_law wsX7_blank := goodIn_r _ [74, 63, 635, 636, 637, 638, 639, 640, 641, 642, 643, 644, 645, 646, 647, 648, 649, 650, 651, 652, 653, 654, 655, 656, 657, 658, 659] (by decide +kernel) (by decide +kernel)
set_option maxRecDepth 20000 in
theorem gL_law_X7_blank : GoodIn wsL_law (wsV RL 22 RX7 yX7_blank wsX7_blank) := goodIn_app (goodIn_of _ (by decide +kernel)) ggL_law_X7_blank
set_option maxRecDepth 20000 in
theorem ggL_law_X6_fault : GoodIn wsL_law wsX6_fault := goodIn_r _ [78, 14, 79, 80, 81, 2, 82, 13, 83, 84, 85, 86, 87, 88, 623, 624, 625, 626, 627, 628, 629, 630, 631, 632, 633, 634] (by decide +kernel) (by decide +kernel)
set_option maxRecDepth 20000 in
theorem gL_law_X6_fault : GoodIn wsL_law (wsV RL 23 RX6 yX6_fault wsX6_fault) := goodIn_app (goodIn_of _ (by decide +kernel)) ggL_law_X6_fault
set_option maxRecDepth 20000 in
theorem ggL_law_X7_fault : GoodIn wsL_law wsX7_fault := goodIn_r _ [92, 93, 94, 95, 5, 96, 63, 45, 97, 98, 99, 100, 101, 102, 103, 104, 64, 65, 66, 635, 636, 637, 638, 639, 640, 641, 642, 643, 644, 645, 646, 647, 648, 649, 650, 651, 652, 653, 654, 655, 656, 657, 658, 659] (by decide +kernel) (by decide +kernel)
set_option maxRecDepth 20000 in
theorem gL_law_X7_fault : GoodIn wsL_law (wsV RL 26 RX7 yX7_fault wsX7_fault) := goodIn_app (goodIn_of _ (by decide +kernel)) ggL_law_X7_fault
set_option maxRecDepth 20000 in
theorem ggL_law_X6_larder : GoodIn wsL_law wsX6_larder := goodIn_r _ [108, 14, 17, 16, 21, 24, 25, 109, 110, 111, 2, 112, 113, 76, 77, 78, 79, 80, 81, 82, 13, 83, 84, 85, 86, 87, 88, 114, 115, 116, 117, 118, 119, 120, 121, 122, 123, 124, 125, 126, 127, 128, 129, 15, 130, 131, 132, 133, 134, 135, 136, 137, 138, 10, 11, 139, 140, 141, 142, 143, 144, 145, 146, 147, 148, 149, 150, 151, 152, 153, 154, 155, 156, 157, 158, 159, 160, 161, 162, 163, 164, 165, 166, 167, 20, 168, 32, 33, 34, 35, 36, 37, 38, 623, 624, 625, 626, 627, 628, 629, 630, 631, 632, 633, 634, 669, 670, 671, 672, 673, 674, 675, 676, 677, 678, 679, 680, 681, 682, 683, 660, 661, 662, 663, 664, 665, 666, 667, 668] (by decide +kernel) (by decide +kernel)
set_option maxRecDepth 20000 in
theorem gL_law_X6_larder : GoodIn wsL_law (wsV RL 27 RX6 yX6_larder wsX6_larder) := goodIn_app (goodIn_of _ (by decide +kernel)) ggL_law_X6_larder
set_option maxRecDepth 20000 in
theorem ggL_law_X7_larder : GoodIn wsL_law wsX7_larder := goodIn_r _ [172, 63, 173, 46, 45, 174, 175, 176, 177, 178, 179, 93, 94, 95, 5, 96, 97, 98, 99, 100, 101, 102, 103, 104, 64, 65, 66, 635, 636, 637, 638, 639, 640, 641, 642, 643, 644, 645, 646, 647, 648, 649, 650, 651, 652, 653, 654, 655, 656, 657, 658, 659] (by decide +kernel) (by decide +kernel)
set_option maxRecDepth 20000 in
theorem gL_law_X7_larder : GoodIn wsL_law (wsV RL 30 RX7 yX7_larder wsX7_larder) := goodIn_app (goodIn_of _ (by decide +kernel)) ggL_law_X7_larder
set_option maxRecDepth 20000 in
theorem ggL_law_X6_jar : GoodIn wsL_law wsX6_jar := goodIn_r _ [183, 184, 185, 21, 186, 187, 188, 189, 2, 190, 17, 16, 191, 192, 193, 194, 195, 123, 196, 197, 198, 199, 129, 200, 201, 202, 203, 131, 204, 205, 126, 206, 207, 208, 120, 209, 210, 211, 212, 20, 213, 37, 214, 215, 216, 217, 218, 141, 219, 220, 221, 222, 223, 224, 225, 226, 227, 228, 229, 230, 231, 232, 233, 234, 235, 236, 139, 237, 238, 239, 240, 241, 242, 243, 244, 245, 246, 247, 248, 249, 250, 251, 252, 253, 254, 255, 256, 257, 258, 259, 260, 261, 262, 38, 263, 264, 265, 266, 672, 673, 674, 678, 679, 680, 681, 682, 683, 675, 676, 677, 669, 670, 671, 623, 624, 625, 626, 627, 628, 629, 630, 631, 632, 633, 634, 660, 661, 662, 663, 664, 665, 666, 667, 668] (by decide +kernel) (by decide +kernel)
set_option maxRecDepth 20000 in
theorem gL_law_X6_jar : GoodIn wsL_law (wsV RL 31 RX6 yX6_jar wsX6_jar) := goodIn_app (goodIn_of _ (by decide +kernel)) ggL_law_X6_jar
set_option maxRecDepth 20000 in
theorem ggL_law_X7_jar : GoodIn wsL_law wsX7_jar := goodIn_r _ [270, 271, 272, 273, 5, 274, 173, 64, 65, 66, 275, 276, 277, 278, 46, 174, 279, 280, 281, 282, 283, 284, 285, 286, 287, 288, 289, 290, 291, 292, 293, 294, 295, 635, 636, 637, 638, 639, 640, 641, 642, 643, 644, 645, 646, 647, 648, 649, 650, 651, 652, 653, 654, 655, 656, 657, 658, 659] (by decide +kernel) (by decide +kernel)
set_option maxRecDepth 20000 in
theorem gL_law_X7_jar : GoodIn wsL_law (wsV RL 35 RX7 yX7_jar wsX7_jar) := goodIn_app (goodIn_of _ (by decide +kernel)) ggL_law_X7_jar
set_option maxRecDepth 20000 in
theorem ggL_law_X6_as : GoodIn wsL_law wsX6_as := goodIn_r _ [299, 187, 188, 189, 2, 190, 17, 16, 300, 301, 302, 303, 304, 305, 306, 623, 624, 625, 626, 627, 628, 629, 630, 631, 632, 633, 634] (by decide +kernel) (by decide +kernel)
set_option maxRecDepth 20000 in
theorem gL_law_X6_as : GoodIn wsL_law (wsV RL 36 RX6 yX6_as wsX6_as) := goodIn_app (goodIn_of _ (by decide +kernel)) ggL_law_X6_as
set_option maxRecDepth 20000 in
theorem ggL_law_X7_as : GoodIn wsL_law wsX7_as := goodIn_r _ [310, 311, 46, 271, 272, 273, 5, 274, 173, 64, 65, 66, 635, 636, 637, 638, 639, 640, 641, 642, 643, 644, 645, 646, 647, 648, 649, 650, 651, 652, 653, 654, 655, 656, 657, 658, 659] (by decide +kernel) (by decide +kernel)
set_option maxRecDepth 20000 in
theorem gL_law_X7_as : GoodIn wsL_law (wsV RL 39 RX7 yX7_as wsX7_as) := goodIn_app (goodIn_of _ (by decide +kernel)) ggL_law_X7_as
set_option maxRecDepth 20000 in
theorem ggL_law_X6_worth : GoodIn wsL_law wsX6_worth := goodIn_r _ [315, 187, 188, 189, 2, 190, 17, 16, 316, 317, 318, 228, 229, 230, 231, 232, 233, 234, 235, 131, 236, 139, 237, 215, 216, 217, 218, 141, 219, 238, 221, 222, 223, 239, 240, 241, 129, 242, 243, 244, 245, 246, 247, 248, 249, 250, 251, 126, 252, 253, 254, 255, 256, 257, 258, 623, 624, 625, 626, 627, 628, 629, 630, 631, 632, 633, 634, 672, 673, 674, 678, 679, 680, 681, 682, 683, 675, 676, 677, 669, 670, 671] (by decide +kernel) (by decide +kernel)
set_option maxRecDepth 20000 in
theorem gL_law_X6_worth : GoodIn wsL_law (wsV RL 40 RX6 yX6_worth wsX6_worth) := goodIn_app (goodIn_of _ (by decide +kernel)) ggL_law_X6_worth
set_option maxRecDepth 20000 in
theorem ggL_law_X7_worth : GoodIn wsL_law wsX7_worth := goodIn_r _ [322, 323, 271, 272, 273, 5, 274, 173, 64, 65, 66, 287, 288, 289, 290, 46, 279, 280, 281, 282, 635, 636, 637, 638, 639, 640, 641, 642, 643, 644, 645, 646, 647, 648, 649, 650, 651, 652, 653, 654, 655, 656, 657, 658, 659] (by decide +kernel) (by decide +kernel)
set_option maxRecDepth 20000 in
theorem gL_law_X7_worth : GoodIn wsL_law (wsV RL 43 RX7 yX7_worth wsX7_worth) := goodIn_app (goodIn_of _ (by decide +kernel)) ggL_law_X7_worth
set_option maxRecDepth 20000 in
theorem ggL_law_X6_eat : GoodIn wsL_law wsX6_eat := goodIn_r _ [327, 21, 187, 188, 189, 2, 190, 17, 16, 224, 225, 226, 227, 186, 228, 229, 230, 231, 232, 233, 234, 235, 131, 236, 139, 237, 215, 216, 217, 218, 141, 219, 238, 221, 222, 223, 239, 240, 241, 129, 242, 243, 244, 245, 246, 247, 248, 249, 250, 251, 126, 252, 253, 254, 255, 256, 257, 258, 259, 260, 261, 20, 262, 38, 328, 329, 330, 331, 37, 33, 35, 332, 211, 212, 213, 623, 624, 625, 626, 627, 628, 629, 630, 631, 632, 633, 634, 660, 661, 662, 663, 664, 665, 666, 667, 668, 672, 673, 674, 678, 679, 680, 681, 682, 683, 675, 676, 677, 669, 670, 671] (by decide +kernel) (by decide +kernel)
set_option maxRecDepth 20000 in
theorem gL_law_X6_eat : GoodIn wsL_law (wsV RL 44 RX6 yX6_eat wsX6_eat) := goodIn_app (goodIn_of _ (by decide +kernel)) ggL_law_X6_eat
set_option maxRecDepth 20000 in
theorem ggL_law_X7_eat : GoodIn wsL_law wsX7_eat := goodIn_r _ [336, 46, 175, 176, 271, 272, 273, 5, 274, 173, 64, 65, 66, 283, 284, 285, 286, 174, 287, 288, 289, 290, 279, 280, 281, 282, 635, 636, 637, 638, 639, 640, 641, 642, 643, 644, 645, 646, 647, 648, 649, 650, 651, 652, 653, 654, 655, 656, 657, 658, 659] (by decide +kernel) (by decide +kernel)
set_option maxRecDepth 20000 in
theorem gL_law_X7_eat : GoodIn wsL_law (wsV RL 47 RX7 yX7_eat wsX7_eat) := goodIn_app (goodIn_of _ (by decide +kernel)) ggL_law_X7_eat
set_option maxRecDepth 20000 in
theorem ggL_law_X6_wasps : GoodIn wsL_law wsX6_wasps := goodIn_r _ [340, 21, 187, 188, 189, 2, 190, 17, 16, 341, 342, 343, 20, 344, 37, 34, 332, 211, 212, 213, 210, 623, 624, 625, 626, 627, 628, 629, 630, 631, 632, 633, 634, 660, 661, 662, 663, 664, 665, 666, 667, 668] (by decide +kernel) (by decide +kernel)
set_option maxRecDepth 20000 in
theorem gL_law_X6_wasps : GoodIn wsL_law (wsV RL 48 RX6 yX6_wasps wsX6_wasps) := goodIn_app (goodIn_of _ (by decide +kernel)) ggL_law_X6_wasps
set_option maxRecDepth 20000 in
theorem ggL_law_X7_wasps : GoodIn wsL_law wsX7_wasps := goodIn_r _ [348, 46, 177, 271, 272, 273, 5, 274, 173, 64, 65, 66, 635, 636, 637, 638, 639, 640, 641, 642, 643, 644, 645, 646, 647, 648, 649, 650, 651, 652, 653, 654, 655, 656, 657, 658, 659] (by decide +kernel) (by decide +kernel)
set_option maxRecDepth 20000 in
theorem gL_law_X7_wasps : GoodIn wsL_law (wsV RL 51 RX7 yX7_wasps wsX7_wasps) := goodIn_app (goodIn_of _ (by decide +kernel)) ggL_law_X7_wasps
set_option maxRecDepth 20000 in
theorem ggL_law_X6_year : GoodIn wsL_law wsX6_year := goodIn_r _ [352, 21, 186, 353, 354, 355, 2, 356, 17, 357, 358, 359, 20, 360, 32, 38, 623, 624, 625, 626, 627, 628, 629, 630, 631, 632, 633, 634, 660, 661, 662, 663, 664, 665, 666, 667, 668] (by decide +kernel) (by decide +kernel)
set_option maxRecDepth 20000 in
theorem gL_law_X6_year : GoodIn wsL_law (wsV RL 52 RX6 yX6_year wsX6_year) := goodIn_app (goodIn_of _ (by decide +kernel)) ggL_law_X6_year
set_option maxRecDepth 20000 in
theorem ggL_law_X7_year : GoodIn wsL_law wsX7_year := goodIn_r _ [364, 174, 365, 366, 367, 5, 368, 173, 369, 370, 371, 372, 46, 635, 636, 637, 638, 639, 640, 641, 642, 643, 644, 645, 646, 647, 648, 649, 650, 651, 652, 653, 654, 655, 656, 657, 658, 659] (by decide +kernel) (by decide +kernel)
set_option maxRecDepth 20000 in
theorem gL_law_X7_year : GoodIn wsL_law (wsV RL 55 RX7 yX7_year wsX7_year) := goodIn_app (goodIn_of _ (by decide +kernel)) ggL_law_X7_year
set_option maxRecDepth 20000 in
theorem ggL_law_X6_best : GoodIn wsL_law wsX6_best := goodIn_r _ [376, 26, 377, 353, 354, 355, 2, 356, 17, 378, 379, 380, 381, 382, 383, 157, 384, 28, 385, 386, 387, 388, 27, 389, 390, 391, 224, 225, 226, 227, 21, 186, 228, 229, 230, 231, 187, 188, 189, 190, 16, 232, 233, 234, 235, 131, 236, 139, 237, 215, 216, 217, 218, 141, 219, 238, 221, 222, 223, 239, 240, 241, 129, 242, 243, 244, 245, 246, 247, 248, 249, 250, 251, 126, 252, 253, 254, 255, 256, 257, 258, 259, 260, 261, 20, 262, 38, 392, 393, 394, 395, 396, 156, 158, 397, 398, 399, 400, 401, 402, 403, 404, 210, 211, 212, 213, 37, 405, 406, 407, 408, 409, 410, 411, 412, 623, 624, 625, 626, 627, 628, 629, 630, 631, 632, 633, 634, 660, 661, 662, 663, 664, 665, 666, 667, 668, 672, 673, 674, 678, 679, 680, 681, 682, 683, 675, 676, 677, 669, 670, 671] (by decide +kernel) (by decide +kernel)
set_option maxRecDepth 20000 in
theorem gL_law_X6_best : GoodIn wsL_law (wsV RL 56 RX6 yX6_best wsX6_best) := goodIn_app (goodIn_of _ (by decide +kernel)) ggL_law_X6_best
set_option maxRecDepth 20000 in
theorem ggL_law_X7_best : GoodIn wsL_law wsX7_best := goodIn_r _ [416, 417, 418, 419, 420, 64, 65, 5, 66, 365, 366, 367, 368, 173, 421, 422, 423, 424, 47, 48, 425, 426, 427, 428, 46, 429, 430, 431, 432, 295, 433, 434, 435, 436, 283, 284, 285, 286, 174, 287, 288, 289, 290, 279, 280, 281, 282, 635, 636, 637, 638, 639, 640, 641, 642, 643, 644, 645, 646, 647, 648, 649, 650, 651, 652, 653, 654, 655, 656, 657, 658, 659] (by decide +kernel) (by decide +kernel)
set_option maxRecDepth 20000 in
theorem gL_law_X7_best : GoodIn wsL_law (wsV RL 59 RX7 yX7_best wsX7_best) := goodIn_app (goodIn_of _ (by decide +kernel)) ggL_law_X7_best
set_option maxRecDepth 20000 in
theorem ggL_law_X6_taste : GoodIn wsL_law wsX6_taste := goodIn_r _ [440, 21, 441, 316, 317, 2, 318, 442, 443, 444, 20, 445, 36, 39, 40, 623, 624, 625, 626, 627, 628, 629, 630, 631, 632, 633, 634, 660, 661, 662, 663, 664, 665, 666, 667, 668] (by decide +kernel) (by decide +kernel)
set_option maxRecDepth 20000 in
theorem gL_law_X6_taste : GoodIn wsL_law (wsV RL 60 RX6 yX6_taste wsX6_taste) := goodIn_app (goodIn_of _ (by decide +kernel)) ggL_law_X6_taste
set_option maxRecDepth 20000 in
theorem ggL_law_X7_taste : GoodIn wsL_law wsX7_taste := goodIn_r _ [449, 323, 450, 451, 178, 49, 64, 65, 5, 66, 635, 636, 637, 638, 639, 640, 641, 642, 643, 644, 645, 646, 647, 648, 649, 650, 651, 652, 653, 654, 655, 656, 657, 658, 659] (by decide +kernel) (by decide +kernel)
set_option maxRecDepth 20000 in
theorem gL_law_X7_taste : GoodIn wsL_law (wsV RL 63 RX7 yX7_taste wsX7_taste) := goodIn_app (goodIn_of _ (by decide +kernel)) ggL_law_X7_taste
set_option maxRecDepth 20000 in
theorem ggL_law_X6_forget : GoodIn wsL_law wsX6_forget := goodIn_r _ [455, 21, 441, 623, 624, 625, 626, 627, 628, 629, 630, 631, 632, 633, 634, 660, 661, 662, 663, 664, 665, 666, 667, 668] (by decide +kernel) (by decide +kernel)
set_option maxRecDepth 20000 in
theorem gL_law_X6_forget : GoodIn wsL_law (wsV RL 64 RX6 yX6_forget wsX6_forget) := goodIn_app (goodIn_of _ (by decide +kernel)) ggL_law_X6_forget
set_option maxRecDepth 20000 in
theorem ggL_law_X7_forget : GoodIn wsL_law wsX7_forget := goodIn_r _ [459, 178, 635, 636, 637, 638, 639, 640, 641, 642, 643, 644, 645, 646, 647, 648, 649, 650, 651, 652, 653, 654, 655, 656, 657, 658, 659] (by decide +kernel) (by decide +kernel)
set_option maxRecDepth 20000 in
theorem gL_law_X7_forget : GoodIn wsL_law (wsV RL 67 RX7 yX7_forget wsX7_forget) := goodIn_app (goodIn_of _ (by decide +kernel)) ggL_law_X7_forget
set_option maxRecDepth 20000 in
theorem ggL_law_X6_which : GoodIn wsL_law wsX6_which := goodIn_r _ [463, 353, 354, 355, 2, 356, 17, 464, 465, 466, 467, 468, 469, 470, 471, 21, 441, 472, 473, 228, 229, 230, 231, 187, 188, 189, 190, 16, 232, 233, 234, 235, 131, 236, 139, 237, 215, 216, 217, 218, 141, 219, 238, 221, 222, 223, 239, 240, 241, 129, 242, 243, 244, 245, 246, 247, 248, 249, 250, 251, 126, 252, 253, 254, 255, 256, 257, 258, 623, 624, 625, 626, 627, 628, 629, 630, 631, 632, 633, 634, 660, 661, 662, 663, 664, 665, 666, 667, 668, 672, 673, 674, 678, 679, 680, 681, 682, 683, 675, 676, 677, 669, 670, 671] (by decide +kernel) (by decide +kernel)
set_option maxRecDepth 20000 in
theorem gL_law_X6_which : GoodIn wsL_law (wsV RL 68 RX6 yX6_which wsX6_which) := goodIn_app (goodIn_of _ (by decide +kernel)) ggL_law_X6_which
set_option maxRecDepth 20000 in
theorem ggL_law_X7_which : GoodIn wsL_law wsX7_which := goodIn_r _ [477, 365, 366, 367, 5, 368, 173, 478, 479, 480, 481, 178, 49, 287, 288, 289, 290, 46, 279, 280, 281, 282, 635, 636, 637, 638, 639, 640, 641, 642, 643, 644, 645, 646, 647, 648, 649, 650, 651, 652, 653, 654, 655, 656, 657, 658, 659] (by decide +kernel) (by decide +kernel)
set_option maxRecDepth 20000 in
theorem gL_law_X7_which : GoodIn wsL_law (wsV RL 71 RX7 yX7_which wsX7_which) := goodIn_app (goodIn_of _ (by decide +kernel)) ggL_law_X7_which
set_option maxRecDepth 20000 in
theorem ggL_law_X6_tasteNext : GoodIn wsL_law wsX6_tasteNext := goodIn_r _ [485, 21, 186, 353, 354, 355, 2, 356, 17, 464, 465, 466, 467, 468, 469, 470, 471, 441, 472, 473, 228, 229, 230, 231, 187, 188, 189, 190, 16, 232, 233, 234, 235, 131, 236, 139, 237, 215, 216, 217, 218, 141, 219, 238, 221, 222, 223, 239, 240, 241, 129, 242, 243, 244, 245, 246, 247, 248, 249, 250, 251, 126, 252, 253, 254, 255, 256, 257, 258, 486, 487, 488, 489, 396, 156, 157, 158, 490, 491, 492, 493, 494, 495, 496, 623, 624, 625, 626, 627, 628, 629, 630, 631, 632, 633, 634, 660, 661, 662, 663, 664, 665, 666, 667, 668, 672, 673, 674, 678, 679, 680, 681, 682, 683, 675, 676, 677, 669, 670, 671] (by decide +kernel) (by decide +kernel)
set_option maxRecDepth 20000 in
theorem gL_law_X6_tasteNext : GoodIn wsL_law (wsV RL 72 RX6 yX6_tasteNext wsX6_tasteNext) := goodIn_app (goodIn_of _ (by decide +kernel)) ggL_law_X6_tasteNext
set_option maxRecDepth 20000 in
theorem ggL_law_X7_tasteNext : GoodIn wsL_law wsX7_tasteNext := goodIn_r _ [500, 365, 366, 367, 5, 368, 173, 501, 502, 503, 504, 174, 478, 479, 480, 481, 178, 49, 287, 288, 289, 290, 46, 279, 280, 281, 282, 505, 506, 507, 508, 635, 636, 637, 638, 639, 640, 641, 642, 643, 644, 645, 646, 647, 648, 649, 650, 651, 652, 653, 654, 655, 656, 657, 658, 659] (by decide +kernel) (by decide +kernel)
set_option maxRecDepth 20000 in
theorem gL_law_X7_tasteNext : GoodIn wsL_law (wsV RL 75 RX7 yX7_tasteNext wsX7_tasteNext) := goodIn_app (goodIn_of _ (by decide +kernel)) ggL_law_X7_tasteNext
set_option maxRecDepth 20000 in
theorem ggL_law_X6_times : GoodIn wsL_law wsX6_times := goodIn_r _ [512, 23, 513, 353, 354, 355, 2, 356, 17, 514, 515, 516, 517, 21, 186, 518, 519, 520, 20, 521, 32, 33, 34, 35, 36, 37, 38, 39, 40, 522, 523, 524, 525, 526, 527, 528, 529, 530, 531, 532, 341, 342, 343, 344, 332, 211, 212, 213, 228, 229, 230, 231, 187, 188, 189, 190, 16, 232, 233, 234, 235, 131, 236, 139, 237, 215, 216, 217, 218, 141, 219, 238, 221, 222, 223, 239, 240, 241, 129, 242, 243, 244, 245, 246, 247, 248, 249, 250, 251, 126, 252, 253, 254, 255, 256, 257, 258, 259, 260, 261, 262, 328, 329, 330, 331, 357, 358, 359, 360, 533, 534, 535, 536, 623, 624, 625, 626, 627, 628, 629, 630, 631, 632, 633, 634, 660, 661, 662, 663, 664, 665, 666, 667, 668, 672, 673, 674, 678, 679, 680, 681, 682, 683, 675, 676, 677, 669, 670, 671] (by decide +kernel) (by decide +kernel)
set_option maxRecDepth 20000 in
theorem gL_law_X6_times : GoodIn wsL_law (wsV RL 76 RX6 yX6_times wsX6_times) := goodIn_app (goodIn_of _ (by decide +kernel)) ggL_law_X6_times
set_option maxRecDepth 20000 in
theorem ggL_law_X7_times : GoodIn wsL_law wsX7_times := goodIn_r _ [540, 541, 542, 46, 50, 174, 543, 175, 173, 64, 65, 5, 66, 365, 366, 367, 368, 544, 545, 546, 547, 548, 549, 550, 551, 552, 553, 554, 283, 284, 285, 286, 287, 288, 289, 290, 279, 280, 281, 282, 369, 370, 371, 372, 425, 426, 427, 428, 635, 636, 637, 638, 639, 640, 641, 642, 643, 644, 645, 646, 647, 648, 649, 650, 651, 652, 653, 654, 655, 656, 657, 658, 659] (by decide +kernel) (by decide +kernel)
set_option maxRecDepth 20000 in
theorem gL_law_X7_times : GoodIn wsL_law (wsV RL 80 RX7 yX7_times wsX7_times) := goodIn_app (goodIn_of _ (by decide +kernel)) ggL_law_X7_times
set_option maxRecDepth 20000 in
theorem ggL_law_X6_image : GoodIn wsL_law wsX6_image := goodIn_r _ [558, 22, 21, 24, 186, 353, 354, 355, 2, 356, 17, 518, 519, 520, 20, 521, 32, 33, 34, 35, 36, 37, 38, 39, 40, 623, 624, 625, 626, 627, 628, 629, 630, 631, 632, 633, 634, 660, 661, 662, 663, 664, 665, 666, 667, 668] (by decide +kernel) (by decide +kernel)
set_option maxRecDepth 20000 in
theorem gL_law_X6_image : GoodIn wsL_law (wsV RL 81 RX6 yX6_image wsX6_image) := goodIn_app (goodIn_of _ (by decide +kernel)) ggL_law_X6_image
set_option maxRecDepth 20000 in
theorem ggL_law_X7_image : GoodIn wsL_law wsX7_image := goodIn_r _ [562, 46, 51, 49, 52, 174, 563, 175, 564, 176, 565, 177, 566, 178, 567, 179, 53, 365, 366, 367, 5, 368, 173, 544, 545, 546, 635, 636, 637, 638, 639, 640, 641, 642, 643, 644, 645, 646, 647, 648, 649, 650, 651, 652, 653, 654, 655, 656, 657, 658, 659] (by decide +kernel) (by decide +kernel)
set_option maxRecDepth 20000 in
theorem gL_law_X7_image : GoodIn wsL_law (wsV RL 84 RX7 yX7_image wsX7_image) := goodIn_app (goodIn_of _ (by decide +kernel)) ggL_law_X7_image
set_option maxRecDepth 20000 in
theorem ggL_law_X6_restore : GoodIn wsL_law wsX6_restore := goodIn_r _ [571, 24, 21, 22, 186, 518, 519, 520, 20, 521, 32, 33, 34, 35, 36, 37, 38, 39, 40, 623, 624, 625, 626, 627, 628, 629, 630, 631, 632, 633, 634, 660, 661, 662, 663, 664, 665, 666, 667, 668] (by decide +kernel) (by decide +kernel)
set_option maxRecDepth 20000 in
theorem gL_law_X6_restore : GoodIn wsL_law (wsV RL 85 RX6 yX6_restore wsX6_restore) := goodIn_app (goodIn_of _ (by decide +kernel)) ggL_law_X6_restore
set_option maxRecDepth 20000 in
theorem ggL_law_X7_restore : GoodIn wsL_law wsX7_restore := goodIn_r _ [575, 53, 179, 51, 46, 52, 49, 563, 174, 564, 175, 565, 176, 566, 177, 567, 178, 544, 545, 5, 546, 635, 636, 637, 638, 639, 640, 641, 642, 643, 644, 645, 646, 647, 648, 649, 650, 651, 652, 653, 654, 655, 656, 657, 658, 659] (by decide +kernel) (by decide +kernel)
set_option maxRecDepth 20000 in
theorem gL_law_X7_restore : GoodIn wsL_law (wsV RL 88 RX7 yX7_restore wsX7_restore) := goodIn_app (goodIn_of _ (by decide +kernel)) ggL_law_X7_restore
set_option maxRecDepth 20000 in
theorem ggL_law_X6_count : GoodIn wsL_law wsX6_count := goodIn_r _ [579, 17, 21, 186, 513, 580, 581, 441, 14, 25, 26, 533, 534, 535, 20, 536, 37, 582, 583, 584, 2, 585, 210, 211, 212, 213, 623, 624, 625, 626, 627, 628, 629, 630, 631, 632, 633, 634, 660, 661, 662, 663, 664, 665, 666, 667, 668] (by decide +kernel) (by decide +kernel)
set_option maxRecDepth 20000 in
theorem gL_law_X6_count : GoodIn wsL_law (wsV RL 89 RX6 yX6_count wsX6_count) := goodIn_app (goodIn_of _ (by decide +kernel)) ggL_law_X6_count
set_option maxRecDepth 20000 in
theorem ggL_law_X7_count : GoodIn wsL_law wsX7_count := goodIn_r _ [589, 590, 591, 592, 5, 593, 173, 174, 175, 176, 177, 178, 63, 179, 420, 425, 426, 427, 428, 46, 594, 595, 596, 597, 635, 636, 637, 638, 639, 640, 641, 642, 643, 644, 645, 646, 647, 648, 649, 650, 651, 652, 653, 654, 655, 656, 657, 658, 659] (by decide +kernel) (by decide +kernel)
set_option maxRecDepth 20000 in
theorem gL_law_X7_count : GoodIn wsL_law (wsV RL 92 RX7 yX7_count wsX7_count) := goodIn_app (goodIn_of _ (by decide +kernel)) ggL_law_X7_count
set_option maxRecDepth 20000 in
theorem ggL_law_X6_digest : GoodIn wsL_law wsX6_digest := goodIn_r _ [601, 602, 17, 14, 603, 181, 182, 2, 183, 184, 185, 21, 186, 187, 188, 189, 190, 16, 191, 192, 193, 194, 195, 123, 196, 197, 198, 199, 129, 200, 201, 202, 203, 131, 204, 205, 126, 206, 207, 208, 120, 209, 210, 211, 212, 20, 213, 37, 214, 215, 216, 217, 218, 141, 219, 220, 221, 222, 223, 224, 225, 226, 227, 228, 229, 230, 231, 232, 233, 234, 235, 236, 139, 237, 238, 239, 240, 241, 242, 243, 244, 245, 246, 247, 248, 249, 250, 251, 252, 253, 254, 255, 256, 257, 258, 259, 260, 261, 262, 38, 263, 264, 265, 266, 604, 605, 606, 607, 608, 313, 314, 315, 316, 317, 318, 353, 354, 355, 356, 609, 461, 462, 463, 464, 465, 466, 467, 468, 469, 470, 471, 441, 472, 473, 610, 483, 484, 485, 486, 487, 488, 489, 396, 156, 157, 158, 490, 491, 492, 493, 494, 495, 496, 79, 80, 81, 82, 13, 611, 577, 578, 579, 513, 580, 581, 25, 26, 533, 534, 535, 536, 582, 583, 584, 585, 623, 624, 625, 626, 627, 628, 629, 630, 631, 632, 633, 634, 672, 673, 674, 678, 679, 680, 681, 682, 683, 675, 676, 677, 669, 670, 671, 660, 661, 662, 663, 664, 665, 666, 667, 668] (by decide +kernel) (by decide +kernel)
set_option maxRecDepth 20000 in
theorem gL_law_X6_digest : GoodIn wsL_law (wsV RL 93 RX6 yX6_digest wsX6_digest) := goodIn_app (goodIn_of _ (by decide +kernel)) ggL_law_X6_digest
set_option maxRecDepth 20000 in
theorem ggL_law_X7_digest : GoodIn wsL_law wsX7_digest := goodIn_r _ [615, 616, 617, 173, 63, 45, 275, 276, 277, 5, 278, 46, 174, 279, 280, 281, 282, 283, 284, 285, 286, 287, 288, 289, 290, 291, 292, 293, 294, 295, 618, 619, 620, 621, 622, 365, 366, 367, 368, 478, 479, 480, 481, 178, 49, 501, 502, 503, 504, 505, 506, 507, 508, 590, 591, 592, 593, 175, 176, 177, 179, 420, 425, 426, 427, 428, 594, 595, 596, 597, 635, 636, 637, 638, 639, 640, 641, 642, 643, 644, 645, 646, 647, 648, 649, 650, 651, 652, 653, 654, 655, 656, 657, 658, 659] (by decide +kernel) (by decide +kernel)
set_option maxRecDepth 20000 in
theorem gL_law_X7_digest : GoodIn wsL_law (wsV RL 97 RX7 yX7_digest wsX7_digest) := goodIn_app (goodIn_of _ (by decide +kernel)) ggL_law_X7_digest
theorem dL_law_0 : decode cL_law 0 = .ok (.new 7, 3) := by decide +kernel
theorem dL_law_3 : decode cL_law 3 = .ok (.dup, 1) := by decide +kernel
theorem dL_law_4 : decode cL_law 4 = .ok (.invokespecial 9, 3) := by decide +kernel
theorem dL_law_7 : decode cL_law 7 = .ok (.astore_n 1, 1) := by decide +kernel
theorem dL_law_8 : decode cL_law 8 = .ok (.new 10, 3) := by decide +kernel
theorem dL_law_11 : decode cL_law 11 = .ok (.dup, 1) := by decide +kernel
theorem dL_law_12 : decode cL_law 12 = .ok (.invokespecial 12, 3) := by decide +kernel
theorem dL_law_15 : decode cL_law 15 = .ok (.astore_n 2, 1) := by decide +kernel
theorem dL_law_16 : decode cL_law 16 = .ok (.iconst 0, 1) := by decide +kernel
theorem dL_law_17 : decode cL_law 17 = .ok (.istore_n 3, 1) := by decide +kernel
theorem dL_law_18 : decode cL_law 18 = .ok (.iload_n 3, 1) := by decide +kernel
theorem dL_law_19 : decode cL_law 19 = .ok (.aload_n 0, 1) := by decide +kernel
theorem dL_law_20 : decode cL_law 20 = .ok (.arraylength, 1) := by decide +kernel
theorem dL_law_21 : decode cL_law 21 = .ok (.iconst 4, 1) := by decide +kernel
theorem dL_law_22 : decode cL_law 22 = .ok (.isub, 1) := by decide +kernel
theorem dL_law_23 : decode cL_law 23 = .ok (.if_icmp .gt 542, 3) := by decide +kernel
theorem dL_law_26 : decode cL_law 26 = .ok (.aload_n 0, 1) := by decide +kernel
theorem dL_law_27 : decode cL_law 27 = .ok (.iload_n 3, 1) := by decide +kernel
theorem dL_law_28 : decode cL_law 28 = .ok (.iaload, 1) := by decide +kernel
theorem dL_law_29 : decode cL_law 29 = .ok (.bipush 31, 2) := by decide +kernel
theorem dL_law_31 : decode cL_law 31 = .ok (.iand, 1) := by decide +kernel
theorem dL_law_32 : decode cL_law 32 = .ok (.tableswitch 527 0 19 #[96, 119, 132, 145, 158, 191, 224, 257, 280, 303, 316, 349, 382, 395, 408, 421, 464, 477, 490, 513], 96) := by decide +kernel
theorem dL_law_128 : decode cL_law 128 = .ok (.aload_n 1, 1) := by decide +kernel
theorem dL_law_129 : decode cL_law 129 = .ok (.aload_n 0, 1) := by decide +kernel
theorem dL_law_130 : decode cL_law 130 = .ok (.iload_n 3, 1) := by decide +kernel
theorem dL_law_131 : decode cL_law 131 = .ok (.iconst 1, 1) := by decide +kernel
theorem dL_law_132 : decode cL_law 132 = .ok (.iadd, 1) := by decide +kernel
theorem dL_law_133 : decode cL_law 133 = .ok (.iaload, 1) := by decide +kernel
theorem dL_law_134 : decode cL_law 134 = .ok (.invokevirtual 13, 3) := by decide +kernel
theorem dL_law_137 : decode cL_law 137 = .ok (.aload_n 2, 1) := by decide +kernel
theorem dL_law_138 : decode cL_law 138 = .ok (.aload_n 0, 1) := by decide +kernel
theorem dL_law_139 : decode cL_law 139 = .ok (.iload_n 3, 1) := by decide +kernel
theorem dL_law_140 : decode cL_law 140 = .ok (.iconst 1, 1) := by decide +kernel
theorem dL_law_141 : decode cL_law 141 = .ok (.iadd, 1) := by decide +kernel
theorem dL_law_142 : decode cL_law 142 = .ok (.iaload, 1) := by decide +kernel
theorem dL_law_143 : decode cL_law 143 = .ok (.invokevirtual 17, 3) := by decide +kernel
theorem dL_law_146 : decode cL_law 146 = .ok (.if_icmp .eq 413, 3) := by decide +kernel
theorem dL_law_149 : decode cL_law 149 = .ok (.iconst 0, 1) := by decide +kernel
theorem dL_law_150 : decode cL_law 150 = .ok (.ireturn, 1) := by decide +kernel
theorem dL_law_151 : decode cL_law 151 = .ok (.aload_n 1, 1) := by decide +kernel
theorem dL_law_152 : decode cL_law 152 = .ok (.invokevirtual 18, 3) := by decide +kernel
theorem dL_law_155 : decode cL_law 155 = .ok (.aload_n 2, 1) := by decide +kernel
theorem dL_law_156 : decode cL_law 156 = .ok (.invokevirtual 22, 3) := by decide +kernel
theorem dL_law_159 : decode cL_law 159 = .ok (.if_icmp .eq 400, 3) := by decide +kernel
theorem dL_law_162 : decode cL_law 162 = .ok (.iconst 0, 1) := by decide +kernel
theorem dL_law_163 : decode cL_law 163 = .ok (.ireturn, 1) := by decide +kernel
theorem dL_law_164 : decode cL_law 164 = .ok (.aload_n 1, 1) := by decide +kernel
theorem dL_law_165 : decode cL_law 165 = .ok (.invokevirtual 23, 3) := by decide +kernel
theorem dL_law_168 : decode cL_law 168 = .ok (.aload_n 2, 1) := by decide +kernel
theorem dL_law_169 : decode cL_law 169 = .ok (.invokevirtual 26, 3) := by decide +kernel
theorem dL_law_172 : decode cL_law 172 = .ok (.if_icmp .eq 387, 3) := by decide +kernel
theorem dL_law_175 : decode cL_law 175 = .ok (.iconst 0, 1) := by decide +kernel
theorem dL_law_176 : decode cL_law 176 = .ok (.ireturn, 1) := by decide +kernel
theorem dL_law_177 : decode cL_law 177 = .ok (.aload_n 1, 1) := by decide +kernel
theorem dL_law_178 : decode cL_law 178 = .ok (.invokevirtual 27, 3) := by decide +kernel
theorem dL_law_181 : decode cL_law 181 = .ok (.aload_n 2, 1) := by decide +kernel
theorem dL_law_182 : decode cL_law 182 = .ok (.invokevirtual 30, 3) := by decide +kernel
theorem dL_law_185 : decode cL_law 185 = .ok (.if_icmp .eq 374, 3) := by decide +kernel
theorem dL_law_188 : decode cL_law 188 = .ok (.iconst 0, 1) := by decide +kernel
theorem dL_law_189 : decode cL_law 189 = .ok (.ireturn, 1) := by decide +kernel
theorem dL_law_190 : decode cL_law 190 = .ok (.aload_n 1, 1) := by decide +kernel
theorem dL_law_191 : decode cL_law 191 = .ok (.aload_n 0, 1) := by decide +kernel
theorem dL_law_192 : decode cL_law 192 = .ok (.iload_n 3, 1) := by decide +kernel
theorem dL_law_193 : decode cL_law 193 = .ok (.iconst 1, 1) := by decide +kernel
theorem dL_law_194 : decode cL_law 194 = .ok (.iadd, 1) := by decide +kernel
theorem dL_law_195 : decode cL_law 195 = .ok (.iaload, 1) := by decide +kernel
theorem dL_law_196 : decode cL_law 196 = .ok (.aload_n 0, 1) := by decide +kernel
theorem dL_law_197 : decode cL_law 197 = .ok (.iload_n 3, 1) := by decide +kernel
theorem dL_law_198 : decode cL_law 198 = .ok (.iconst 2, 1) := by decide +kernel
theorem dL_law_199 : decode cL_law 199 = .ok (.iadd, 1) := by decide +kernel
theorem dL_law_200 : decode cL_law 200 = .ok (.iaload, 1) := by decide +kernel
theorem dL_law_201 : decode cL_law 201 = .ok (.invokevirtual 31, 3) := by decide +kernel
theorem dL_law_204 : decode cL_law 204 = .ok (.aload_n 2, 1) := by decide +kernel
theorem dL_law_205 : decode cL_law 205 = .ok (.aload_n 0, 1) := by decide +kernel
theorem dL_law_206 : decode cL_law 206 = .ok (.iload_n 3, 1) := by decide +kernel
theorem dL_law_207 : decode cL_law 207 = .ok (.iconst 1, 1) := by decide +kernel
theorem dL_law_208 : decode cL_law 208 = .ok (.iadd, 1) := by decide +kernel
theorem dL_law_209 : decode cL_law 209 = .ok (.iaload, 1) := by decide +kernel
theorem dL_law_210 : decode cL_law 210 = .ok (.aload_n 0, 1) := by decide +kernel
theorem dL_law_211 : decode cL_law 211 = .ok (.iload_n 3, 1) := by decide +kernel
theorem dL_law_212 : decode cL_law 212 = .ok (.iconst 2, 1) := by decide +kernel
theorem dL_law_213 : decode cL_law 213 = .ok (.iadd, 1) := by decide +kernel
theorem dL_law_214 : decode cL_law 214 = .ok (.iaload, 1) := by decide +kernel
theorem dL_law_215 : decode cL_law 215 = .ok (.invokevirtual 35, 3) := by decide +kernel
theorem dL_law_218 : decode cL_law 218 = .ok (.if_icmp .eq 341, 3) := by decide +kernel
theorem dL_law_221 : decode cL_law 221 = .ok (.iconst 0, 1) := by decide +kernel
theorem dL_law_222 : decode cL_law 222 = .ok (.ireturn, 1) := by decide +kernel
theorem dL_law_223 : decode cL_law 223 = .ok (.aload_n 1, 1) := by decide +kernel
theorem dL_law_224 : decode cL_law 224 = .ok (.aload_n 0, 1) := by decide +kernel
theorem dL_law_225 : decode cL_law 225 = .ok (.iload_n 3, 1) := by decide +kernel
theorem dL_law_226 : decode cL_law 226 = .ok (.iconst 1, 1) := by decide +kernel
theorem dL_law_227 : decode cL_law 227 = .ok (.iadd, 1) := by decide +kernel
theorem dL_law_228 : decode cL_law 228 = .ok (.iaload, 1) := by decide +kernel
theorem dL_law_229 : decode cL_law 229 = .ok (.aload_n 0, 1) := by decide +kernel
theorem dL_law_230 : decode cL_law 230 = .ok (.iload_n 3, 1) := by decide +kernel
theorem dL_law_231 : decode cL_law 231 = .ok (.iconst 2, 1) := by decide +kernel
theorem dL_law_232 : decode cL_law 232 = .ok (.iadd, 1) := by decide +kernel
theorem dL_law_233 : decode cL_law 233 = .ok (.iaload, 1) := by decide +kernel
theorem dL_law_234 : decode cL_law 234 = .ok (.invokevirtual 36, 3) := by decide +kernel
theorem dL_law_237 : decode cL_law 237 = .ok (.aload_n 2, 1) := by decide +kernel
theorem dL_law_238 : decode cL_law 238 = .ok (.aload_n 0, 1) := by decide +kernel
theorem dL_law_239 : decode cL_law 239 = .ok (.iload_n 3, 1) := by decide +kernel
theorem dL_law_240 : decode cL_law 240 = .ok (.iconst 1, 1) := by decide +kernel
theorem dL_law_241 : decode cL_law 241 = .ok (.iadd, 1) := by decide +kernel
theorem dL_law_242 : decode cL_law 242 = .ok (.iaload, 1) := by decide +kernel
theorem dL_law_243 : decode cL_law 243 = .ok (.aload_n 0, 1) := by decide +kernel
theorem dL_law_244 : decode cL_law 244 = .ok (.iload_n 3, 1) := by decide +kernel
theorem dL_law_245 : decode cL_law 245 = .ok (.iconst 2, 1) := by decide +kernel
theorem dL_law_246 : decode cL_law 246 = .ok (.iadd, 1) := by decide +kernel
theorem dL_law_247 : decode cL_law 247 = .ok (.iaload, 1) := by decide +kernel
theorem dL_law_248 : decode cL_law 248 = .ok (.invokevirtual 39, 3) := by decide +kernel
theorem dL_law_251 : decode cL_law 251 = .ok (.if_icmp .eq 308, 3) := by decide +kernel
theorem dL_law_254 : decode cL_law 254 = .ok (.iconst 0, 1) := by decide +kernel
theorem dL_law_255 : decode cL_law 255 = .ok (.ireturn, 1) := by decide +kernel
theorem dL_law_256 : decode cL_law 256 = .ok (.aload_n 1, 1) := by decide +kernel
theorem dL_law_257 : decode cL_law 257 = .ok (.aload_n 0, 1) := by decide +kernel
theorem dL_law_258 : decode cL_law 258 = .ok (.iload_n 3, 1) := by decide +kernel
theorem dL_law_259 : decode cL_law 259 = .ok (.iconst 1, 1) := by decide +kernel
theorem dL_law_260 : decode cL_law 260 = .ok (.iadd, 1) := by decide +kernel
theorem dL_law_261 : decode cL_law 261 = .ok (.iaload, 1) := by decide +kernel
theorem dL_law_262 : decode cL_law 262 = .ok (.aload_n 0, 1) := by decide +kernel
theorem dL_law_263 : decode cL_law 263 = .ok (.iload_n 3, 1) := by decide +kernel
theorem dL_law_264 : decode cL_law 264 = .ok (.iconst 2, 1) := by decide +kernel
theorem dL_law_265 : decode cL_law 265 = .ok (.iadd, 1) := by decide +kernel
theorem dL_law_266 : decode cL_law 266 = .ok (.iaload, 1) := by decide +kernel
theorem dL_law_267 : decode cL_law 267 = .ok (.invokevirtual 40, 3) := by decide +kernel
theorem dL_law_270 : decode cL_law 270 = .ok (.aload_n 2, 1) := by decide +kernel
theorem dL_law_271 : decode cL_law 271 = .ok (.aload_n 0, 1) := by decide +kernel
theorem dL_law_272 : decode cL_law 272 = .ok (.iload_n 3, 1) := by decide +kernel
theorem dL_law_273 : decode cL_law 273 = .ok (.iconst 1, 1) := by decide +kernel
theorem dL_law_274 : decode cL_law 274 = .ok (.iadd, 1) := by decide +kernel
theorem dL_law_275 : decode cL_law 275 = .ok (.iaload, 1) := by decide +kernel
theorem dL_law_276 : decode cL_law 276 = .ok (.aload_n 0, 1) := by decide +kernel
theorem dL_law_277 : decode cL_law 277 = .ok (.iload_n 3, 1) := by decide +kernel
theorem dL_law_278 : decode cL_law 278 = .ok (.iconst 2, 1) := by decide +kernel
theorem dL_law_279 : decode cL_law 279 = .ok (.iadd, 1) := by decide +kernel
theorem dL_law_280 : decode cL_law 280 = .ok (.iaload, 1) := by decide +kernel
theorem dL_law_281 : decode cL_law 281 = .ok (.invokevirtual 43, 3) := by decide +kernel
theorem dL_law_284 : decode cL_law 284 = .ok (.if_icmp .eq 275, 3) := by decide +kernel
theorem dL_law_287 : decode cL_law 287 = .ok (.iconst 0, 1) := by decide +kernel
theorem dL_law_288 : decode cL_law 288 = .ok (.ireturn, 1) := by decide +kernel
theorem dL_law_289 : decode cL_law 289 = .ok (.aload_n 1, 1) := by decide +kernel
theorem dL_law_290 : decode cL_law 290 = .ok (.aload_n 0, 1) := by decide +kernel
theorem dL_law_291 : decode cL_law 291 = .ok (.iload_n 3, 1) := by decide +kernel
theorem dL_law_292 : decode cL_law 292 = .ok (.iconst 1, 1) := by decide +kernel
theorem dL_law_293 : decode cL_law 293 = .ok (.iadd, 1) := by decide +kernel
theorem dL_law_294 : decode cL_law 294 = .ok (.iaload, 1) := by decide +kernel
theorem dL_law_295 : decode cL_law 295 = .ok (.invokevirtual 44, 3) := by decide +kernel
theorem dL_law_298 : decode cL_law 298 = .ok (.aload_n 2, 1) := by decide +kernel
theorem dL_law_299 : decode cL_law 299 = .ok (.aload_n 0, 1) := by decide +kernel
theorem dL_law_300 : decode cL_law 300 = .ok (.iload_n 3, 1) := by decide +kernel
theorem dL_law_301 : decode cL_law 301 = .ok (.iconst 1, 1) := by decide +kernel
theorem dL_law_302 : decode cL_law 302 = .ok (.iadd, 1) := by decide +kernel
theorem dL_law_303 : decode cL_law 303 = .ok (.iaload, 1) := by decide +kernel
theorem dL_law_304 : decode cL_law 304 = .ok (.invokevirtual 47, 3) := by decide +kernel
theorem dL_law_307 : decode cL_law 307 = .ok (.if_icmp .eq 252, 3) := by decide +kernel
theorem dL_law_310 : decode cL_law 310 = .ok (.iconst 0, 1) := by decide +kernel
theorem dL_law_311 : decode cL_law 311 = .ok (.ireturn, 1) := by decide +kernel
theorem dL_law_312 : decode cL_law 312 = .ok (.aload_n 1, 1) := by decide +kernel
theorem dL_law_313 : decode cL_law 313 = .ok (.aload_n 0, 1) := by decide +kernel
theorem dL_law_314 : decode cL_law 314 = .ok (.iload_n 3, 1) := by decide +kernel
theorem dL_law_315 : decode cL_law 315 = .ok (.iconst 1, 1) := by decide +kernel
theorem dL_law_316 : decode cL_law 316 = .ok (.iadd, 1) := by decide +kernel
theorem dL_law_317 : decode cL_law 317 = .ok (.iaload, 1) := by decide +kernel
theorem dL_law_318 : decode cL_law 318 = .ok (.invokevirtual 48, 3) := by decide +kernel
theorem dL_law_321 : decode cL_law 321 = .ok (.aload_n 2, 1) := by decide +kernel
theorem dL_law_322 : decode cL_law 322 = .ok (.aload_n 0, 1) := by decide +kernel
theorem dL_law_323 : decode cL_law 323 = .ok (.iload_n 3, 1) := by decide +kernel
theorem dL_law_324 : decode cL_law 324 = .ok (.iconst 1, 1) := by decide +kernel
theorem dL_law_325 : decode cL_law 325 = .ok (.iadd, 1) := by decide +kernel
theorem dL_law_326 : decode cL_law 326 = .ok (.iaload, 1) := by decide +kernel
theorem dL_law_327 : decode cL_law 327 = .ok (.invokevirtual 51, 3) := by decide +kernel
theorem dL_law_330 : decode cL_law 330 = .ok (.if_icmp .eq 229, 3) := by decide +kernel
theorem dL_law_333 : decode cL_law 333 = .ok (.iconst 0, 1) := by decide +kernel
theorem dL_law_334 : decode cL_law 334 = .ok (.ireturn, 1) := by decide +kernel
theorem dL_law_335 : decode cL_law 335 = .ok (.aload_n 1, 1) := by decide +kernel
theorem dL_law_336 : decode cL_law 336 = .ok (.invokevirtual 52, 3) := by decide +kernel
theorem dL_law_339 : decode cL_law 339 = .ok (.aload_n 2, 1) := by decide +kernel
theorem dL_law_340 : decode cL_law 340 = .ok (.invokevirtual 55, 3) := by decide +kernel
theorem dL_law_343 : decode cL_law 343 = .ok (.if_icmp .eq 216, 3) := by decide +kernel
theorem dL_law_346 : decode cL_law 346 = .ok (.iconst 0, 1) := by decide +kernel
theorem dL_law_347 : decode cL_law 347 = .ok (.ireturn, 1) := by decide +kernel
theorem dL_law_348 : decode cL_law 348 = .ok (.aload_n 1, 1) := by decide +kernel
theorem dL_law_349 : decode cL_law 349 = .ok (.aload_n 0, 1) := by decide +kernel
theorem dL_law_350 : decode cL_law 350 = .ok (.iload_n 3, 1) := by decide +kernel
theorem dL_law_351 : decode cL_law 351 = .ok (.iconst 1, 1) := by decide +kernel
theorem dL_law_352 : decode cL_law 352 = .ok (.iadd, 1) := by decide +kernel
theorem dL_law_353 : decode cL_law 353 = .ok (.iaload, 1) := by decide +kernel
theorem dL_law_354 : decode cL_law 354 = .ok (.aload_n 0, 1) := by decide +kernel
theorem dL_law_355 : decode cL_law 355 = .ok (.iload_n 3, 1) := by decide +kernel
theorem dL_law_356 : decode cL_law 356 = .ok (.iconst 2, 1) := by decide +kernel
theorem dL_law_357 : decode cL_law 357 = .ok (.iadd, 1) := by decide +kernel
theorem dL_law_358 : decode cL_law 358 = .ok (.iaload, 1) := by decide +kernel
theorem dL_law_359 : decode cL_law 359 = .ok (.invokevirtual 56, 3) := by decide +kernel
theorem dL_law_362 : decode cL_law 362 = .ok (.aload_n 2, 1) := by decide +kernel
theorem dL_law_363 : decode cL_law 363 = .ok (.aload_n 0, 1) := by decide +kernel
theorem dL_law_364 : decode cL_law 364 = .ok (.iload_n 3, 1) := by decide +kernel
theorem dL_law_365 : decode cL_law 365 = .ok (.iconst 1, 1) := by decide +kernel
theorem dL_law_366 : decode cL_law 366 = .ok (.iadd, 1) := by decide +kernel
theorem dL_law_367 : decode cL_law 367 = .ok (.iaload, 1) := by decide +kernel
theorem dL_law_368 : decode cL_law 368 = .ok (.aload_n 0, 1) := by decide +kernel
theorem dL_law_369 : decode cL_law 369 = .ok (.iload_n 3, 1) := by decide +kernel
theorem dL_law_370 : decode cL_law 370 = .ok (.iconst 2, 1) := by decide +kernel
theorem dL_law_371 : decode cL_law 371 = .ok (.iadd, 1) := by decide +kernel
theorem dL_law_372 : decode cL_law 372 = .ok (.iaload, 1) := by decide +kernel
theorem dL_law_373 : decode cL_law 373 = .ok (.invokevirtual 59, 3) := by decide +kernel
theorem dL_law_376 : decode cL_law 376 = .ok (.if_icmp .eq 183, 3) := by decide +kernel
theorem dL_law_379 : decode cL_law 379 = .ok (.iconst 0, 1) := by decide +kernel
theorem dL_law_380 : decode cL_law 380 = .ok (.ireturn, 1) := by decide +kernel
theorem dL_law_381 : decode cL_law 381 = .ok (.aload_n 1, 1) := by decide +kernel
theorem dL_law_382 : decode cL_law 382 = .ok (.aload_n 0, 1) := by decide +kernel
theorem dL_law_383 : decode cL_law 383 = .ok (.iload_n 3, 1) := by decide +kernel
theorem dL_law_384 : decode cL_law 384 = .ok (.iconst 1, 1) := by decide +kernel
theorem dL_law_385 : decode cL_law 385 = .ok (.iadd, 1) := by decide +kernel
theorem dL_law_386 : decode cL_law 386 = .ok (.iaload, 1) := by decide +kernel
theorem dL_law_387 : decode cL_law 387 = .ok (.aload_n 0, 1) := by decide +kernel
theorem dL_law_388 : decode cL_law 388 = .ok (.iload_n 3, 1) := by decide +kernel
theorem dL_law_389 : decode cL_law 389 = .ok (.iconst 2, 1) := by decide +kernel
theorem dL_law_390 : decode cL_law 390 = .ok (.iadd, 1) := by decide +kernel
theorem dL_law_391 : decode cL_law 391 = .ok (.iaload, 1) := by decide +kernel
theorem dL_law_392 : decode cL_law 392 = .ok (.invokevirtual 60, 3) := by decide +kernel
theorem dL_law_395 : decode cL_law 395 = .ok (.aload_n 2, 1) := by decide +kernel
theorem dL_law_396 : decode cL_law 396 = .ok (.aload_n 0, 1) := by decide +kernel
theorem dL_law_397 : decode cL_law 397 = .ok (.iload_n 3, 1) := by decide +kernel
theorem dL_law_398 : decode cL_law 398 = .ok (.iconst 1, 1) := by decide +kernel
theorem dL_law_399 : decode cL_law 399 = .ok (.iadd, 1) := by decide +kernel
theorem dL_law_400 : decode cL_law 400 = .ok (.iaload, 1) := by decide +kernel
theorem dL_law_401 : decode cL_law 401 = .ok (.aload_n 0, 1) := by decide +kernel
theorem dL_law_402 : decode cL_law 402 = .ok (.iload_n 3, 1) := by decide +kernel
theorem dL_law_403 : decode cL_law 403 = .ok (.iconst 2, 1) := by decide +kernel
theorem dL_law_404 : decode cL_law 404 = .ok (.iadd, 1) := by decide +kernel
theorem dL_law_405 : decode cL_law 405 = .ok (.iaload, 1) := by decide +kernel
theorem dL_law_406 : decode cL_law 406 = .ok (.invokevirtual 63, 3) := by decide +kernel
theorem dL_law_409 : decode cL_law 409 = .ok (.if_icmp .eq 150, 3) := by decide +kernel
theorem dL_law_412 : decode cL_law 412 = .ok (.iconst 0, 1) := by decide +kernel
theorem dL_law_413 : decode cL_law 413 = .ok (.ireturn, 1) := by decide +kernel
theorem dL_law_414 : decode cL_law 414 = .ok (.aload_n 1, 1) := by decide +kernel
theorem dL_law_415 : decode cL_law 415 = .ok (.invokevirtual 64, 3) := by decide +kernel
theorem dL_law_418 : decode cL_law 418 = .ok (.aload_n 2, 1) := by decide +kernel
theorem dL_law_419 : decode cL_law 419 = .ok (.invokevirtual 67, 3) := by decide +kernel
theorem dL_law_422 : decode cL_law 422 = .ok (.if_icmp .eq 137, 3) := by decide +kernel
theorem dL_law_425 : decode cL_law 425 = .ok (.iconst 0, 1) := by decide +kernel
theorem dL_law_426 : decode cL_law 426 = .ok (.ireturn, 1) := by decide +kernel
theorem dL_law_427 : decode cL_law 427 = .ok (.aload_n 1, 1) := by decide +kernel
theorem dL_law_428 : decode cL_law 428 = .ok (.invokevirtual 68, 3) := by decide +kernel
theorem dL_law_431 : decode cL_law 431 = .ok (.aload_n 2, 1) := by decide +kernel
theorem dL_law_432 : decode cL_law 432 = .ok (.invokevirtual 71, 3) := by decide +kernel
theorem dL_law_435 : decode cL_law 435 = .ok (.if_icmp .eq 124, 3) := by decide +kernel
theorem dL_law_438 : decode cL_law 438 = .ok (.iconst 0, 1) := by decide +kernel
theorem dL_law_439 : decode cL_law 439 = .ok (.ireturn, 1) := by decide +kernel
theorem dL_law_440 : decode cL_law 440 = .ok (.aload_n 1, 1) := by decide +kernel
theorem dL_law_441 : decode cL_law 441 = .ok (.invokevirtual 72, 3) := by decide +kernel
theorem dL_law_444 : decode cL_law 444 = .ok (.aload_n 2, 1) := by decide +kernel
theorem dL_law_445 : decode cL_law 445 = .ok (.invokevirtual 75, 3) := by decide +kernel
theorem dL_law_448 : decode cL_law 448 = .ok (.if_icmp .eq 111, 3) := by decide +kernel
theorem dL_law_451 : decode cL_law 451 = .ok (.iconst 0, 1) := by decide +kernel
theorem dL_law_452 : decode cL_law 452 = .ok (.ireturn, 1) := by decide +kernel
theorem dL_law_453 : decode cL_law 453 = .ok (.aload_n 1, 1) := by decide +kernel
theorem dL_law_454 : decode cL_law 454 = .ok (.aload_n 0, 1) := by decide +kernel
theorem dL_law_455 : decode cL_law 455 = .ok (.iload_n 3, 1) := by decide +kernel
theorem dL_law_456 : decode cL_law 456 = .ok (.iconst 1, 1) := by decide +kernel
theorem dL_law_457 : decode cL_law 457 = .ok (.iadd, 1) := by decide +kernel
theorem dL_law_458 : decode cL_law 458 = .ok (.iaload, 1) := by decide +kernel
theorem dL_law_459 : decode cL_law 459 = .ok (.aload_n 0, 1) := by decide +kernel
theorem dL_law_460 : decode cL_law 460 = .ok (.iload_n 3, 1) := by decide +kernel
theorem dL_law_461 : decode cL_law 461 = .ok (.iconst 2, 1) := by decide +kernel
theorem dL_law_462 : decode cL_law 462 = .ok (.iadd, 1) := by decide +kernel
theorem dL_law_463 : decode cL_law 463 = .ok (.iaload, 1) := by decide +kernel
theorem dL_law_464 : decode cL_law 464 = .ok (.aload_n 0, 1) := by decide +kernel
theorem dL_law_465 : decode cL_law 465 = .ok (.iload_n 3, 1) := by decide +kernel
theorem dL_law_466 : decode cL_law 466 = .ok (.iconst 3, 1) := by decide +kernel
theorem dL_law_467 : decode cL_law 467 = .ok (.iadd, 1) := by decide +kernel
theorem dL_law_468 : decode cL_law 468 = .ok (.iaload, 1) := by decide +kernel
theorem dL_law_469 : decode cL_law 469 = .ok (.invokevirtual 76, 3) := by decide +kernel
theorem dL_law_472 : decode cL_law 472 = .ok (.aload_n 2, 1) := by decide +kernel
theorem dL_law_473 : decode cL_law 473 = .ok (.aload_n 0, 1) := by decide +kernel
theorem dL_law_474 : decode cL_law 474 = .ok (.iload_n 3, 1) := by decide +kernel
theorem dL_law_475 : decode cL_law 475 = .ok (.iconst 1, 1) := by decide +kernel
theorem dL_law_476 : decode cL_law 476 = .ok (.iadd, 1) := by decide +kernel
theorem dL_law_477 : decode cL_law 477 = .ok (.iaload, 1) := by decide +kernel
theorem dL_law_478 : decode cL_law 478 = .ok (.aload_n 0, 1) := by decide +kernel
theorem dL_law_479 : decode cL_law 479 = .ok (.iload_n 3, 1) := by decide +kernel
theorem dL_law_480 : decode cL_law 480 = .ok (.iconst 2, 1) := by decide +kernel
theorem dL_law_481 : decode cL_law 481 = .ok (.iadd, 1) := by decide +kernel
theorem dL_law_482 : decode cL_law 482 = .ok (.iaload, 1) := by decide +kernel
theorem dL_law_483 : decode cL_law 483 = .ok (.aload_n 0, 1) := by decide +kernel
theorem dL_law_484 : decode cL_law 484 = .ok (.iload_n 3, 1) := by decide +kernel
theorem dL_law_485 : decode cL_law 485 = .ok (.iconst 3, 1) := by decide +kernel
theorem dL_law_486 : decode cL_law 486 = .ok (.iadd, 1) := by decide +kernel
theorem dL_law_487 : decode cL_law 487 = .ok (.iaload, 1) := by decide +kernel
theorem dL_law_488 : decode cL_law 488 = .ok (.invokevirtual 80, 3) := by decide +kernel
theorem dL_law_491 : decode cL_law 491 = .ok (.if_icmp .eq 68, 3) := by decide +kernel
theorem dL_law_494 : decode cL_law 494 = .ok (.iconst 0, 1) := by decide +kernel
theorem dL_law_495 : decode cL_law 495 = .ok (.ireturn, 1) := by decide +kernel
theorem dL_law_496 : decode cL_law 496 = .ok (.aload_n 1, 1) := by decide +kernel
theorem dL_law_497 : decode cL_law 497 = .ok (.invokevirtual 81, 3) := by decide +kernel
theorem dL_law_500 : decode cL_law 500 = .ok (.aload_n 2, 1) := by decide +kernel
theorem dL_law_501 : decode cL_law 501 = .ok (.invokevirtual 84, 3) := by decide +kernel
theorem dL_law_504 : decode cL_law 504 = .ok (.if_icmp .eq 55, 3) := by decide +kernel
theorem dL_law_507 : decode cL_law 507 = .ok (.iconst 0, 1) := by decide +kernel
theorem dL_law_508 : decode cL_law 508 = .ok (.ireturn, 1) := by decide +kernel
theorem dL_law_509 : decode cL_law 509 = .ok (.aload_n 1, 1) := by decide +kernel
theorem dL_law_510 : decode cL_law 510 = .ok (.invokevirtual 85, 3) := by decide +kernel
theorem dL_law_513 : decode cL_law 513 = .ok (.aload_n 2, 1) := by decide +kernel
theorem dL_law_514 : decode cL_law 514 = .ok (.invokevirtual 88, 3) := by decide +kernel
theorem dL_law_517 : decode cL_law 517 = .ok (.if_icmp .eq 42, 3) := by decide +kernel
theorem dL_law_520 : decode cL_law 520 = .ok (.iconst 0, 1) := by decide +kernel
theorem dL_law_521 : decode cL_law 521 = .ok (.ireturn, 1) := by decide +kernel
theorem dL_law_522 : decode cL_law 522 = .ok (.aload_n 1, 1) := by decide +kernel
theorem dL_law_523 : decode cL_law 523 = .ok (.aload_n 0, 1) := by decide +kernel
theorem dL_law_524 : decode cL_law 524 = .ok (.iload_n 3, 1) := by decide +kernel
theorem dL_law_525 : decode cL_law 525 = .ok (.iconst 1, 1) := by decide +kernel
theorem dL_law_526 : decode cL_law 526 = .ok (.iadd, 1) := by decide +kernel
theorem dL_law_527 : decode cL_law 527 = .ok (.iaload, 1) := by decide +kernel
theorem dL_law_528 : decode cL_law 528 = .ok (.invokevirtual 89, 3) := by decide +kernel
theorem dL_law_531 : decode cL_law 531 = .ok (.aload_n 2, 1) := by decide +kernel
theorem dL_law_532 : decode cL_law 532 = .ok (.aload_n 0, 1) := by decide +kernel
theorem dL_law_533 : decode cL_law 533 = .ok (.iload_n 3, 1) := by decide +kernel
theorem dL_law_534 : decode cL_law 534 = .ok (.iconst 1, 1) := by decide +kernel
theorem dL_law_535 : decode cL_law 535 = .ok (.iadd, 1) := by decide +kernel
theorem dL_law_536 : decode cL_law 536 = .ok (.iaload, 1) := by decide +kernel
theorem dL_law_537 : decode cL_law 537 = .ok (.invokevirtual 92, 3) := by decide +kernel
theorem dL_law_540 : decode cL_law 540 = .ok (.if_icmp .eq 19, 3) := by decide +kernel
theorem dL_law_543 : decode cL_law 543 = .ok (.iconst 0, 1) := by decide +kernel
theorem dL_law_544 : decode cL_law 544 = .ok (.ireturn, 1) := by decide +kernel
theorem dL_law_545 : decode cL_law 545 = .ok (.aload_n 1, 1) := by decide +kernel
theorem dL_law_546 : decode cL_law 546 = .ok (.invokevirtual 93, 3) := by decide +kernel
theorem dL_law_549 : decode cL_law 549 = .ok (.aload_n 2, 1) := by decide +kernel
theorem dL_law_550 : decode cL_law 550 = .ok (.invokevirtual 97, 3) := by decide +kernel
theorem dL_law_553 : decode cL_law 553 = .ok (.lcmp, 1) := by decide +kernel
theorem dL_law_554 : decode cL_law 554 = .ok (.ifCond .eq 5, 3) := by decide +kernel
theorem dL_law_557 : decode cL_law 557 = .ok (.iconst 0, 1) := by decide +kernel
theorem dL_law_558 : decode cL_law 558 = .ok (.ireturn, 1) := by decide +kernel
theorem dL_law_559 : decode cL_law 559 = .ok (.iinc 3 4, 3) := by decide +kernel
theorem dL_law_562 : decode cL_law 562 = .ok (.goto (-544), 3) := by decide +kernel
theorem dL_law_565 : decode cL_law 565 = .ok (.iconst 1, 1) := by decide +kernel
theorem dL_law_566 : decode cL_law 566 = .ok (.ireturn, 1) := by decide +kernel
end
section
/-! ===== helper rows: numbers ===== -/
theorem fa_lt (a b : Int32) : a < b ↔ a.toInt < b.toInt := Int32.lt_iff_toInt_lt
theorem fa_le (a b : Int32) : a ≤ b ↔ a.toInt ≤ b.toInt := Int32.le_iff_toInt_le
theorem fa_eq (a b : Int32) : a = b ↔ a.toInt = b.toInt := Int32.toInt_inj.symm
theorem jA0 {sz q : Nat} : va_A [] sz q ↔ sz ≤ q := by
  constructor
  · rintro (⟨k, e, h⟩ | h)
    · simp at h
    · exact h
  · exact fun h => Or.inr h
section JA
variable {p : Program} {l : Launch} {e : Env} {R : Room} {s : State} {m : MethodId} {args : Array Value} {below : List Frame} {meth : Method} {c : Code} {H : Heap} {locs : List Loc} {cells slots : Nat} {Q : State → Prop}
variable {cc : ByteArray} {pc : Nat} {ls : Array Slot} {rest st0 : List Value} {D : va_G} {cl : List vw_C} {A : Nat → Prop} {a : Nat} {tys : List (ClassId × FieldType)} {ws : va_W} {H0 : Heap}
theorem jv_as {x y : Int32} (h : x = y) (k : W p l e R s m args below meth c H locs cells slots Q (F0 m pc ls (.int y :: rest))) : W p l e R s m args below meth c H locs cells slots Q (F0 m pc ls (.int x :: rest)) := by rw [h]; exact k
theorem jv_asl {x y : Int64} (h : x = y) (k : W p l e R s m args below meth c H locs cells slots Q (F0 m pc ls (.long y :: rest))) : W p l e R s m args below meth c H locs cells slots Q (F0 m pc ls (.long x :: rest)) := by rw [h]; exact k
theorem jv_ald (hexec : p.tables.exec = Jvm.exec) (hb : c.code = cc) (hK : va_K D cl tys s) (hP : va_P D cl ws H) (q0 t0 : Nat) {cA : ClassId} {n : Nat} {f : Nat → Int32} (ha : ws[q0]? = some (a, .inl (cA, n, .inl f))) (ht : tys[t0]? = some (cA, .int)) {k : Nat} (hk : k < n) (hn : n < 2 ^ 31) (hdg : decode cc pc = .ok (.iaload, 1))
    (kk : W p l e R s m args below meth c H locs cells slots Q (F0 m (pc + 1) ls (.int (f k) :: rest))) : W p l e R s m args below meth c H locs cells slots Q (F0 m pc ls (.int (nI k) :: .ref a :: rest)) :=
  va_iald hexec hb hK hP q0 t0 ha ht (vp_in_nI hk hn) hdg (by rw [nI_clamp (by omega)]; exact kk)
theorem jv_aldq (hexec : p.tables.exec = Jvm.exec) (hb : c.code = cc) (hK : va_K D cl tys s) (hP : va_P D cl ws H) (q0 t0 : Nat) {cA : ClassId} {C : String} {n : Nat} {f : Nat → Option Nat} (ha : ws[q0]? = some (a, .inl (cA, n, .inr (.inr (.inr (.inr f)))))) (ht : tys[t0]? = some (cA, .object C)) {k : Nat} (hk : k < n) (hn : n < 2 ^ 31) (hdg : decode cc pc = .ok (.aaload, 1))
    (kk : W p l e R s m args below meth c H locs cells slots Q (F0 m (pc + 1) ls (va_rf (f k) :: rest))) : W p l e R s m args below meth c H locs cells slots Q (F0 m pc ls (.int (nI k) :: .ref a :: rest)) :=
  va_aldq hexec hb hK hP q0 t0 ha ht (vp_in_nI hk hn) hdg (by rw [nI_clamp (by omega)]; exact kk)
theorem jv_ast (hexec : p.tables.exec = Jvm.exec) (hb : c.code = cc) (hK : va_K D cl tys s) (hP : va_P D cl ws H) (hD : va_D A ws) (hS : va_S A H0 H locs) (q0 t0 : Nat) {cA : ClassId} {n : Nat} {f : Nat → Int32} (ha : ws[q0]? = some (a, .inl (cA, n, .inl f))) (ht : tys[t0]? = some (cA, .int)) {k : Nat} {x : Int32} (hk : k < n) (hn : n < 2 ^ 31) (hdg : decode cc pc = .ok (.iastore, 1))
    (kk : ∀ (H1 : Heap) (locs1 : List Loc), va_P D cl (ws.set q0 (a, .inl (cA, n, .inl (upd f k x)))) H1 → va_D A (ws.set q0 (a, .inl (cA, n, .inl (upd f k x)))) → va_S A H0 H1 locs1 → W p l e R s m args below meth c H1 locs1 cells slots Q (F0 m (pc + 1) ls rest)) : W p l e R s m args below meth c H locs cells slots Q (F0 m pc ls (.int x :: .int (nI k) :: .ref a :: rest)) :=
  va_iast hexec hb hK hP hD hS q0 t0 ha ht (vp_in_nI hk hn) hdg (fun H1 locs1 h1 h2 h3 => by
    rw [nI_clamp (by omega)] at h1 h2
    exact kk H1 locs1 h1 h2 h3)
theorem jkeep (hP : va_P D cl ws H) {H1 : Heap} (hk : ∀ q : Nat, q < H.size → H1[q]? = H[q]?) : va_P D cl ws H1 := hP.kept (fun k q h => hk q.1 (hP k q h).lt)
/-! ===== what the tables say ===== -/
def jYes : List (String × String) := [("JamDays$Copper", "JamDays$Jar"), ("JamDays$Gold", "JamDays$Copper"), ("JamDays$Gold", "JamDays$Jar"), ("JamDays$Plum", "JamDays$Jar"), ("JamDays$Weak", "JamDays$Jar")]
def jNo : List (String × String) := [("JamDays$Copper", "JamDays$Gold"), ("JamDays$Copper", "JamDays$Plum"), ("JamDays$Copper", "JamDays$Weak"), ("JamDays$Gold", "JamDays$Plum"), ("JamDays$Gold", "JamDays$Weak"), ("JamDays$Jar", "JamDays$Copper"), ("JamDays$Jar", "JamDays$Gold"), ("JamDays$Jar", "JamDays$Plum"), ("JamDays$Jar", "JamDays$Weak"), ("JamDays$Plum", "JamDays$Copper"), ("JamDays$Plum", "JamDays$Gold"), ("JamDays$Plum", "JamDays$Weak"), ("JamDays$Weak", "JamDays$Copper"), ("JamDays$Weak", "JamDays$Gold"), ("JamDays$Weak", "JamDays$Plum")]
/-- what the tables say of the classes, of int arrays (cI) and arrays of jars (cJ), and of casts -/
def jT (D : va_G) (cI cJ : ClassId) (U : State) : Prop := va_K D vwCl [(cI, .int), (cJ, .object "JamDays$Jar")] U ∧ va_AO "JamDays$Jar" U ∧ (∀ q ∈ jYes, va_Nw (.castable q.1 q.2) U) ∧ (∀ q ∈ jNo, va_Nc q.1 q.2 U)
theorem jT.warm {cI cJ : ClassId} {u U : State} (hW : u.WarmedH U.vm) (h : jT D cI cJ u) : jT D cI cJ U := ⟨va_K.moved hW.alike h.1, h.2.1.moved hW.alike, fun q hq => va_Nw.warmC hW (h.2.2.1 q hq), fun q hq => (h.2.2.2 q hq).moved hW.alike⟩
theorem jT.calling {cI cJ : ClassId} {U : State} {g : JFrame} {mk : MethodId} {a : Array Value} (h : jT D cI cJ U) : jT D cI cJ (U.calling g mk a) :=
  ⟨va_K.moved (u := U) (U := U.calling g mk a) (Vm.Alike.refl U.vm) h.1, va_AO.moved (u := U) (U := U.calling g mk a) (Vm.Alike.refl U.vm) h.2.1, fun q hq => va_Nw.same (u := U) (U := U.calling g mk a) rfl rfl (h.2.2.1 q hq), fun q hq => va_Nc.moved (u := U) (U := U.calling g mk a) (Vm.Alike.refl U.vm) (h.2.2.2 q hq)⟩
/-! ===== the shapes of contracts: R reads only, W writes its world w (and may make cells) ===== -/
def jPr (D : va_G) (cI cJ : ClassId) (G : Heap → Prop) (sz : Nat) : State → Prop := fun U => U.heap.size = sz ∧ jT D cI cJ U ∧ G U.heap
def jRi (l : Launch) (y : MethodName) (ws : List Cond) (rm : Room) (av : List Value) (D : va_G) (cI cJ : ClassId) (G : Heap → Prop) (post : Int32 → Prop) : Prop := ∀ sz : Nat, Met l y ws rm (va_Pc av (jPr D cI cJ G sz)) (va_Qi (fun r (_ : Unit) => post r) (fun _ _ => True) (va_A [] sz)) 0 0 (va_A [] sz)
def jRl (l : Launch) (y : MethodName) (ws : List Cond) (rm : Room) (av : List Value) (D : va_G) (cI cJ : ClassId) (G : Heap → Prop) (post : Int64 → Prop) : Prop := ∀ sz : Nat, Met l y ws rm (va_Pc av (jPr D cI cJ G sz)) (va_Ql (fun r (_ : Unit) => post r) (fun _ _ => True) (va_A [] sz)) 0 0 (va_A [] sz)
def jRq (l : Launch) (y : MethodName) (ws : List Cond) (rm : Room) (av : List Value) (D : va_G) (cI cJ : ClassId) (G : Heap → Prop) (post : Option Nat → Prop) : Prop := ∀ sz : Nat, Met l y ws rm (va_Pc av (jPr D cI cJ G sz)) (va_Qq (fun r (_ : Unit) => post r) (fun _ _ => True) (va_A [] sz)) 0 0 (va_A [] sz)
def jPw (D : va_G) (cI cJ : ClassId) (w : va_W) (X : Heap → Prop) : Heap → Prop := fun h => va_P D vwCl w h ∧ va_D (fun _ => True) w ∧ X h
def jWi (l : Launch) (y : MethodName) (ws : List Cond) (rm : Room) (mc ms : Nat) (av : List Value) (D : va_G) (cI cJ : ClassId) (w : va_W) (X : Heap → Prop) (post : Int32 → Heap → Prop) : Prop := ∀ sz : Nat, Met l y ws rm (va_Pc av (jPr D cI cJ (jPw D cI cJ w X) sz)) (va_Qi (fun r (u : Int32) => u = r) (fun u t => post u t.heap) (va_A w sz)) mc ms (va_A w sz)
def jWl (l : Launch) (y : MethodName) (ws : List Cond) (rm : Room) (mc ms : Nat) (av : List Value) (D : va_G) (cI cJ : ClassId) (w : va_W) (X : Heap → Prop) (post : Int64 → Heap → Prop) : Prop := ∀ sz : Nat, Met l y ws rm (va_Pc av (jPr D cI cJ (jPw D cI cJ w X) sz)) (va_Ql (fun r (u : Int64) => u = r) (fun u t => post u t.heap) (va_A w sz)) mc ms (va_A w sz)
def jWv (l : Launch) (y : MethodName) (ws : List Cond) (rm : Room) (mc ms : Nat) (av : List Value) (D : va_G) (cI cJ : ClassId) (w : va_W) (X : Heap → Prop) (post : Heap → Prop) : Prop := ∀ sz : Nat, Met l y ws rm (va_Pc av (jPr D cI cJ (jPw D cI cJ w X) sz)) (va_Qv (fun (_ : Unit) => True) (fun _ t => post t.heap) (va_A w sz)) mc ms (va_A w sz)
def jWr (l : Launch) (y : MethodName) (ws : List Cond) (rm : Room) (mc ms : Nat) (av : List Value) (D : va_G) (cI cJ : ClassId) (w : va_W) (X : Heap → Prop) (post : Nat → Nat → Heap → Prop) : Prop := ∀ sz : Nat, Met l y ws rm (va_Pc av (jPr D cI cJ (jPw D cI cJ w X) sz)) (va_Qr (fun (_ : Unit) => True) (fun _ a t => post sz a t.heap) (va_A w sz)) mc ms (va_A w sz)
theorem jpreV {cI cJ : ClassId} {G : Heap → Prop} {C : String} {b : Addr} {As : List Value} (hT : jT D cI cJ s) (hr : ∃ cell : Cell, H[b]? = some cell ∧ cell.vm.isStatics = false ∧ s.vm.findClass C = some cell.cls) (hG : G H) : PreV s H C b (va_Pc (.ref b :: As) (jPr D cI cJ G H.size)) As :=
  ⟨fun _ _ _ _ q => ⟨q.1, q.2.1, q.2.2.1.calling, q.2.2.2⟩, hr, fun U hU hW => ⟨rfl, by rw [hU], hT.warm hW, by rw [hU]; exact hG⟩⟩
theorem jpreS {cI cJ : ClassId} {G : Heap → Prop} {As : List Value} (hT : jT D cI cJ s) (hG : G H) : PreS s H (va_Pc As (jPr D cI cJ G H.size)) As :=
  ⟨fun _ _ _ _ q => ⟨q.1, q.2.1, q.2.2.1.calling, q.2.2.2⟩, fun U hU hW => ⟨rfl, by rw [hU], hT.warm hW, by rw [hU]; exact hG⟩⟩
theorem jcalli {post : Int32 → Prop} {a : Array Value} (hr : va_Run p l e R s m args below meth c H locs cells slots 0 0 (F0 m pc ls st0) rest (va_Qi (fun r (_ : Unit) => post r) (fun _ _ => True) (va_A [] H.size) a) (va_A [] H.size)) (hS : va_S A H0 H locs) (hA : ∀ q : Nat, H0.size ≤ q → A q)
    (kk : ∀ (r : Int32) (H1 : Heap) (locs1 : List Loc), post r → (∀ q : Nat, q < H.size → H1[q]? = H[q]?) → va_S A H0 H1 locs1 → W p l e R s m args below meth c H1 locs1 cells slots Q (F0 m (pc + 3) ls (.int r :: rest))) : W p l e R s m args below meth c H locs cells slots Q (F0 m pc ls st0) :=
  va_calli hr hS (fun q _ h => hA q (Nat.le_trans hS.1 (jA0.mp h))) (fun q h => hA q (Nat.le_trans hS.1 (jA0.mp h))) (fun r _ _ H1 locs1 _ _ hp _ _ hk hS1 => kk r H1 locs1 hp (fun q hq => hk q hq (fun h => Nat.not_le.mpr hq (jA0.mp h))) hS1)
theorem jcalll {post : Int64 → Prop} {a : Array Value} (hr : va_Run p l e R s m args below meth c H locs cells slots 0 0 (F0 m pc ls st0) rest (va_Ql (fun r (_ : Unit) => post r) (fun _ _ => True) (va_A [] H.size) a) (va_A [] H.size)) (hS : va_S A H0 H locs) (hA : ∀ q : Nat, H0.size ≤ q → A q)
    (kk : ∀ (r : Int64) (H1 : Heap) (locs1 : List Loc), post r → (∀ q : Nat, q < H.size → H1[q]? = H[q]?) → va_S A H0 H1 locs1 → W p l e R s m args below meth c H1 locs1 cells slots Q (F0 m (pc + 3) ls (.long r :: rest))) : W p l e R s m args below meth c H locs cells slots Q (F0 m pc ls st0) :=
  va_calll hr hS (fun q _ h => hA q (Nat.le_trans hS.1 (jA0.mp h))) (fun q h => hA q (Nat.le_trans hS.1 (jA0.mp h))) (fun r _ _ H1 locs1 _ _ hp _ _ hk hS1 => kk r H1 locs1 hp (fun q hq => hk q hq (fun h => Nat.not_le.mpr hq (jA0.mp h))) hS1)
theorem jcallq {post : Option Nat → Prop} {a : Array Value} (hr : va_Run p l e R s m args below meth c H locs cells slots 0 0 (F0 m pc ls st0) rest (va_Qq (fun r (_ : Unit) => post r) (fun _ _ => True) (va_A [] H.size) a) (va_A [] H.size)) (hS : va_S A H0 H locs) (hA : ∀ q : Nat, H0.size ≤ q → A q)
    (kk : ∀ (r : Option Nat) (H1 : Heap) (locs1 : List Loc), post r → (∀ q : Nat, q < H.size → H1[q]? = H[q]?) → va_S A H0 H1 locs1 → W p l e R s m args below meth c H1 locs1 cells slots Q (F0 m (pc + 3) ls (va_rf r :: rest))) : W p l e R s m args below meth c H locs cells slots Q (F0 m pc ls st0) :=
  va_callq hr hS (fun q _ h => hA q (Nat.le_trans hS.1 (jA0.mp h))) (fun q h => hA q (Nat.le_trans hS.1 (jA0.mp h))) (fun r _ _ H1 locs1 _ _ hp _ _ hk hS1 => kk r H1 locs1 hp (fun q hq => hk q hq (fun h => Nat.not_le.mpr hq (jA0.mp h))) hS1)
theorem jcallWi {mc ms : Nat} {wc : va_W} {post : Int32 → Heap → Prop} {a : Array Value} (hr : va_Run p l e R s m args below meth c H locs cells slots mc ms (F0 m pc ls st0) rest (va_Qi (fun r (u : Int32) => u = r) (fun u t => post u t.heap) (va_A wc H.size) a) (va_A wc H.size)) (hS : va_S A H0 H locs) (hF : ∀ q : Nat, va_A wc H.size q → A q)
    (kk : ∀ (r : Int32) (H1 : Heap) (locs1 : List Loc), post r H1 → H.size ≤ H1.size → (∀ q : Nat, q < H.size → ¬ va_A wc H.size q → H1[q]? = H[q]?) → va_S A H0 H1 locs1 → W p l e R s m args below meth c H1 locs1 (cells + mc) (slots + ms) Q (F0 m (pc + 3) ls (.int r :: rest))) : W p l e R s m args below meth c H locs cells slots Q (F0 m pc ls st0) :=
  va_calli hr hS (fun q _ h => hF q h) hF (fun r u t H1 locs1 ht _ hp hB hz hk hS1 => kk r H1 locs1 (by rw [← ht, ← (show u = r from hp)]; exact hB) hz hk hS1)
theorem jcallWl {mc ms : Nat} {wc : va_W} {post : Int64 → Heap → Prop} {a : Array Value} (hr : va_Run p l e R s m args below meth c H locs cells slots mc ms (F0 m pc ls st0) rest (va_Ql (fun r (u : Int64) => u = r) (fun u t => post u t.heap) (va_A wc H.size) a) (va_A wc H.size)) (hS : va_S A H0 H locs) (hF : ∀ q : Nat, va_A wc H.size q → A q)
    (kk : ∀ (r : Int64) (H1 : Heap) (locs1 : List Loc), post r H1 → H.size ≤ H1.size → (∀ q : Nat, q < H.size → ¬ va_A wc H.size q → H1[q]? = H[q]?) → va_S A H0 H1 locs1 → W p l e R s m args below meth c H1 locs1 (cells + mc) (slots + ms) Q (F0 m (pc + 3) ls (.long r :: rest))) : W p l e R s m args below meth c H locs cells slots Q (F0 m pc ls st0) :=
  va_calll hr hS (fun q _ h => hF q h) hF (fun r u t H1 locs1 ht _ hp hB hz hk hS1 => kk r H1 locs1 (by rw [← ht, ← (show u = r from hp)]; exact hB) hz hk hS1)
theorem jcallWv {mc ms : Nat} {wc : va_W} {post : Heap → Prop} {a : Array Value} (hr : va_Run p l e R s m args below meth c H locs cells slots mc ms (F0 m pc ls st0) rest (va_Qv (fun (_ : Unit) => True) (fun _ t => post t.heap) (va_A wc H.size) a) (va_A wc H.size)) (hS : va_S A H0 H locs) (hF : ∀ q : Nat, va_A wc H.size q → A q)
    (kk : ∀ (H1 : Heap) (locs1 : List Loc), post H1 → H.size ≤ H1.size → (∀ q : Nat, q < H.size → ¬ va_A wc H.size q → H1[q]? = H[q]?) → va_S A H0 H1 locs1 → W p l e R s m args below meth c H1 locs1 (cells + mc) (slots + ms) Q (F0 m (pc + 3) ls rest)) : W p l e R s m args below meth c H locs cells slots Q (F0 m pc ls st0) :=
  va_callv hr hS (fun q _ h => hF q h) hF (fun u t H1 locs1 ht _ hp hB hz hk hS1 => kk H1 locs1 (by rw [← ht]; exact hB) hz hk hS1)
theorem jcallWr {mc ms sz : Nat} {wc : va_W} {post : Nat → Nat → Heap → Prop} {a : Array Value} (hr : va_Run p l e R s m args below meth c H locs cells slots mc ms (F0 m pc ls st0) rest (va_Qr (fun (_ : Unit) => True) (fun _ a t => post sz a t.heap) (va_A wc H.size) a) (va_A wc H.size)) (hS : va_S A H0 H locs) (hF : ∀ q : Nat, va_A wc H.size q → A q)
    (kk : ∀ (ra : Nat) (H1 : Heap) (locs1 : List Loc), post sz ra H1 → H.size ≤ H1.size → (∀ q : Nat, q < H.size → ¬ va_A wc H.size q → H1[q]? = H[q]?) → va_S A H0 H1 locs1 → W p l e R s m args below meth c H1 locs1 (cells + mc) (slots + ms) Q (F0 m (pc + 3) ls (.ref ra :: rest))) : W p l e R s m args below meth c H locs cells slots Q (F0 m pc ls st0) :=
  va_callr hr hS (fun q _ h => hF q h) hF (fun u ra t H1 locs1 ht _ hp hB hz hk hS1 => kk ra H1 locs1 (by rw [← ht]; exact hB) hz hk hS1)
theorem jD_of {ws ws' : va_W} (h : va_D A ws) (e : ws'.map (·.1) = ws.map (·.1)) : va_D A ws' := by
  have at' : ∀ (k : Nat) (q : Nat × va_E), ws'[k]? = some q → ∃ q', ws[k]? = some q' ∧ q'.1 = q.1 := by
    intro k q hq
    have h1 : (ws'.map (·.1))[k]? = some q.1 := by rw [List.getElem?_map, hq]; rfl
    rw [e, List.getElem?_map] at h1
    cases h2 : ws[k]? with
    | none => rw [h2] at h1; cases h1
    | some q' => rw [h2] at h1; exact ⟨q', rfl, Option.some.inj h1⟩
  refine ⟨fun i j p q hp hq hpq => ?_, fun k q hq => ?_⟩
  · obtain ⟨p', h1, e1⟩ := at' i p hp
    obtain ⟨q', h2, e2⟩ := at' j q hq
    exact h.1 i j p' q' h1 h2 (by rw [e1, e2, hpq])
  · obtain ⟨q', h1, e1⟩ := at' k q hq
    rw [← e1]
    exact h.2 k q' h1
/-- behind a call that wrote the cells at isC: the caller's whole world, in its own order -/
theorem jjoin {wc wr w1 ws' : va_W} {H1 : Heap} (hP : va_P D cl ws H) (hD : va_D A ws) (hF : ∀ q : Nat, va_A wc H.size q → A q) (isC isR perm : List Nat) (hC : isC.map (fun i => ws[i]?) = wc.map some) (hR : isR.map (fun i => ws[i]?) = wr.map some) (hnC : va_nd isC = true) (hnR : va_nd isR = true) (hnP : va_nd perm = true) (hdis : ∀ i ∈ isR, i ∉ isC)
    (hk : ∀ q : Nat, q < H.size → ¬ va_A wc H.size q → H1[q]? = H[q]?) (hP1 : va_P D cl w1 H1) (he : w1.map (·.1) = wc.map (·.1)) (hp : perm.map (fun i => (wr ++ w1)[i]?) = ws'.map some) (hp2 : perm.filterMap (fun i => (wr ++ w1)[i]?) = ws') : va_P D cl ws' H1 ∧ va_D A ws' := by
  obtain ⟨h1, h2⟩ := va_join hP hD isC isR hC hR hnR hdis hk hF hP1 (jD_of ((hD.sub isC hnC hC).self (sz := H.size)) he)
  exact ⟨h1.sub perm hp2, h2.sub perm hnP hp⟩
end JA
/-! ===== the jars ===== -/
def jK5 (k : Nat) : Prop := k = 0 ∨ k = 2 ∨ k = 3 ∨ k = 4 ∨ k = 5
/-- jar i (i < n) is the object jr i, of class jk i, with how good, sugar, mould each year -/
def jJ (D : va_G) (n : Nat) (jr : Nat → Option Nat) (jk : Nat → Nat) (jg js jm : Nat → Int32) (H : Heap) : Prop := ∀ i : Nat, i < n → jK5 (jk i) ∧ ∃ a : Nat, jr i = some a ∧ va_at D vwCl (a, .inr (jk i, [.int (jg i), .int (js i), .int (jm i)])) H
theorem jJ.kept {D : va_G} {n : Nat} {jr : Nat → Option Nat} {jk : Nat → Nat} {jg js jm : Nat → Int32} {H H1 : Heap} (h : jJ D n jr jk jg js jm H) (hk : ∀ q : Nat, q < H.size → H1[q]? = H[q]?) : jJ D n jr jk jg js jm H1 := by
  intro i hi
  obtain ⟨h0, a, h1, h2⟩ := h i hi
  exact ⟨h0, a, h1, h2.kept (hk a h2.lt)⟩
theorem jJ.keptA {D : va_G} {n : Nat} {jr : Nat → Option Nat} {jk : Nat → Nat} {jg js jm : Nat → Int32} {H H1 : Heap} {A : Nat → Prop} (h : jJ D n jr jk jg js jm H) (hA : ∀ i a : Nat, i < n → jr i = some a → ¬ A a) (hk : ∀ q : Nat, q < H.size → ¬ A q → H1[q]? = H[q]?) : jJ D n jr jk jg js jm H1 := by
  intro i hi
  obtain ⟨h0, a, h1, h2⟩ := h i hi
  exact ⟨h0, a, h1, h2.kept (hk a h2.lt (hA i a hi h1))⟩
theorem jone {D : va_G} {a : Nat} {x : va_E} {H : Heap} (h : va_at D vwCl (a, x) H) : va_P D vwCl [(a, x)] H := by
  intro k q hk
  match k, hk with
  | 0, hk => cases hk; exact h
  | k + 1, hk => simp at hk
section JB
variable {p : Program} {l : Launch} {e : Env} {R : Room} {s : State} {m : MethodId} {args : Array Value} {below : List Frame} {meth : Method} {c : Code} {cells slots : Nat} {Q : State → Prop}
/-- a loop: at its head, with all that holds there; the measure falls -/
theorem jloop {α : Type} {pc : Nat} {st : List Value} (P : α → Heap → List Loc → Array Slot → Prop) (μ : α → Nat)
    (step : ∀ (x : α) (H : Heap) (locs : List Loc) (ls : Array Slot), P x H locs ls → (∀ (x' : α) (H' : Heap) (locs' : List Loc) (ls' : Array Slot), P x' H' locs' ls' → μ x' < μ x → W p l e R s m args below meth c H' locs' cells slots Q (F0 m pc ls' st)) → W p l e R s m args below meth c H locs cells slots Q (F0 m pc ls st)) :
    ∀ (x : α) (H : Heap) (locs : List Loc) (ls : Array Slot), P x H locs ls → W p l e R s m args below meth c H locs cells slots Q (F0 m pc ls st) := by
  have h : ∀ (n : Nat) (x : α) (H : Heap) (locs : List Loc) (ls : Array Slot), μ x < n → P x H locs ls → W p l e R s m args below meth c H locs cells slots Q (F0 m pc ls st) := by
    intro n
    induction n with
    | zero => intro x H locs ls h; exact absurd h (Nat.not_lt_zero _)
    | succ n ih => intro x H locs ls hn hp; exact step x H locs ls hp (fun x' H' locs' ls' hp' hl => ih x' H' locs' ls' (by omega) hp')
  exact fun x H locs ls hp => h (μ x + 1) x H locs ls (Nat.lt_succ_self _) hp
/-- a join: what lies behind it is walked once -/
theorem jlabel {α : Type} {H0 : Heap} {locs0 : List Loc} {g : JFrame} (P : α → Heap → List Loc → Array Slot → Prop) (st : α → List Value) (pc : Nat)
    (body : ∀ (x : α) (H : Heap) (locs : List Loc) (ls : Array Slot), P x H locs ls → W p l e R s m args below meth c H locs cells slots Q (F0 m pc ls (st x)))
    (rest : (∀ (x : α) (H : Heap) (locs : List Loc) (ls : Array Slot), P x H locs ls → W p l e R s m args below meth c H locs cells slots Q (F0 m pc ls (st x))) → W p l e R s m args below meth c H0 locs0 cells slots Q g) : W p l e R s m args below meth c H0 locs0 cells slots Q g := rest body
end JB
end
section
def jsum (f : Nat → Int32) : Nat → Int32
  | 0 => 0
  | k + 1 => jsum f k + f k
/-- f as far as k, g behind -/
def jfl (f g : Nat → Int32) (k : Nat) : Nat → Int32 := fun i => if i < k then f i else g i
theorem jfl_0 {f g : Nat → Int32} : jfl f g 0 = g := by funext i; simp [jfl]
theorem jfl_s {f g : Nat → Int32} {k : Nat} {x : Int32} (h : x = f k) : jfl f g (k + 1) = upd (jfl f g k) k x := by
  funext i
  by_cases h1 : i = k
  · subst h1; simp [jfl, upd, h]
  · have h2 : i < k + 1 ↔ i < k := by omega
    simp [jfl, upd, h1, h2]
set_option maxHeartbeats 4000000 in
set_option maxRecDepth 100000 in
theorem c_spoonsOf (l : Launch) (D : va_G) (cI cJ : ClassId) (q : Nat) (qa : Nat) (v0 : Value) (v1 : Value) (v2 : Value) (v3 : Value) (v4 : Value) (v6 : Value) (v7 : Value) (v8 : Value) (sp : Nat → Int32) (j : Nat) (hj : j < 6) : jRi l yX1_spoonsOf wsX1_spoonsOf ({ frames := 0, cells := 0, slots := 0, locals := 0 }) [.ref q, .int (nI j)] D cI cJ (fun H => va_P D vwCl [(q, .inr (1, [v0, v1, v2, v3, v4, .ref qa, v6, v7, v8])), (qa, .inl (cI, 6, .inl sp))] H) (fun r => r = sp j) := by
  intro sz
  refine Met.ofW (cc := cX1_spoonsOf) (maxL := 2) (ret := (some .int)) (by decide) rfl ?_
  intro p e s m args below meth c s₁ B hml hv
  obtain ⟨rfl, hsz, hT, hPr⟩ := hv
  have hK := hT.1
  have hx := B.exec
  have hb := B.bytes
  have hr := B.returns
  have hts := atoms_spec (ws := wsX1_spoonsOf) B.pre
  have hown : s.vm.findClass RX1 = some m.cls := findClass_of_methodNamed B.named
  have hlocks := B.notSynchronized
  subst hsz
  generalize hAe : va_A [] s.heap.size = A
  have hA : ∀ q : Nat, s.heap.size ≤ q → A q := fun q h => by rw [← hAe]; exact Or.inr h
  have hS : va_S A s.heap s.heap [] := va_S.rf
  have hl := lv_entry ([.ref q, .int (nI j)] : List Value) (n := 2) (Nat.le_of_ble_eq_true rfl)
  rw [lg_entry_eq]
  generalize (lg_sl ([.ref q, .int (nI j)]) ++ List.replicate (2 - (lg_sl ([.ref q, .int (nI j)])).length) Slot.unset).toArray = ls at hl ⊢
  have hl : lv_has ls 2 [(0, .ref q), (1, .int (nI j))] := hl
  refine lv_iload_n hx hb dX1_spoonsOf_0 rfl (lv_at hl 1 rfl) ?_
  refine lv_if_lt (tgt := 19) hx hb dX1_spoonsOf_1 (by decide) (fun c_1 => ?_) (fun c_1 => ?_)
  · skip
    replace c_1 : j < 0 := (nI_ltI (a := j) (b := 0) (by omega) (by omega)).mp c_1
    exact absurd c_1 (by omega)
  · skip
    replace c_1 : ¬ j < 0 := fun h => c_1 ((nI_ltI (a := j) (b := 0) (by omega) (by omega)).mpr h)
    refine lv_iload_n hx hb dX1_spoonsOf_4 rfl (lv_at hl 1 rfl) ?_
    refine lv_bipush (v := 6) hx hb dX1_spoonsOf_5 (by decide) ?_
    refine lv_icmp_ge (tgt := 19) hx hb dX1_spoonsOf_7 (by decide) (fun c_2 => ?_) (fun c_2 => ?_)
    · skip
      replace c_2 : 6 ≤ j := (nI_leI (a := 6) (b := j) (by omega) (by omega)).mp c_2
      exact absurd c_2 (by omega)
    · skip
      replace c_2 : ¬ 6 ≤ j := fun h => c_2 ((nI_leI (a := 6) (b := j) (by omega) (by omega)).mpr h)
      refine lv_aload_n hx hb dX1_spoonsOf_10 rfl (lv_at hl 0 rfl) ?_
      refine va_get (D := D) (ci := 1) (v := .ref qa) (C := RX1) (T := TX1) (N := 9) hx hb hts (fun w h => List.mem_cons_of_mem _ (List.mem_append_right _ h)) hown hK hPr 0 rfl rfl 5 (by decide) (hts (Cond.fieldLink RX1 27 "JamDays$Days" "spoons" "[I") (List.mem_of_getElem? (i := 1) rfl)) (fun _ h9 => h9) rfl dX1_spoonsOf_11 ?_
      refine lv_iload_n hx hb dX1_spoonsOf_14 rfl (lv_at hl 1 rfl) ?_
      refine jv_ald (k := j) hx hb hK hPr 1 0 rfl rfl (by omega) (by decide) dX1_spoonsOf_15 ?_
      refine lv_goto (tgt := 20) hx hb dX1_spoonsOf_16 (by decide) ?_
      exact W.iret (v := sp j) hx hb hr (fun t ht hW => ⟨⟨sp j, (), rfl, rfl, trivial⟩, hS.F ht⟩) hS.2.2 dX1_spoonsOf_20

set_option maxHeartbeats 4000000 in
set_option maxRecDepth 100000 in
theorem c_eatenNowOf (l : Launch) (D : va_G) (cI cJ : ClassId) (q : Nat) (qa : Nat) (v0 : Value) (v1 : Value) (v2 : Value) (v3 : Value) (v4 : Value) (v5 : Value) (v7 : Value) (v8 : Value) (sp : Nat → Int32) (j : Nat) (hj : j < 6) : jRi l yX1_eatenNowOf wsX1_eatenNowOf ({ frames := 0, cells := 0, slots := 0, locals := 0 }) [.ref q, .int (nI j)] D cI cJ (fun H => va_P D vwCl [(q, .inr (1, [v0, v1, v2, v3, v4, v5, .ref qa, v7, v8])), (qa, .inl (cI, 6, .inl sp))] H) (fun r => r = sp j) := by
  intro sz
  refine Met.ofW (cc := cX1_eatenNowOf) (maxL := 2) (ret := (some .int)) (by decide) rfl ?_
  intro p e s m args below meth c s₁ B hml hv
  obtain ⟨rfl, hsz, hT, hPr⟩ := hv
  have hK := hT.1
  have hx := B.exec
  have hb := B.bytes
  have hr := B.returns
  have hts := atoms_spec (ws := wsX1_eatenNowOf) B.pre
  have hown : s.vm.findClass RX1 = some m.cls := findClass_of_methodNamed B.named
  have hlocks := B.notSynchronized
  subst hsz
  generalize hAe : va_A [] s.heap.size = A
  have hA : ∀ q : Nat, s.heap.size ≤ q → A q := fun q h => by rw [← hAe]; exact Or.inr h
  have hS : va_S A s.heap s.heap [] := va_S.rf
  have hl := lv_entry ([.ref q, .int (nI j)] : List Value) (n := 2) (Nat.le_of_ble_eq_true rfl)
  rw [lg_entry_eq]
  generalize (lg_sl ([.ref q, .int (nI j)]) ++ List.replicate (2 - (lg_sl ([.ref q, .int (nI j)])).length) Slot.unset).toArray = ls at hl ⊢
  have hl : lv_has ls 2 [(0, .ref q), (1, .int (nI j))] := hl
  refine lv_iload_n hx hb dX1_eatenNowOf_0 rfl (lv_at hl 1 rfl) ?_
  refine lv_if_lt (tgt := 19) hx hb dX1_eatenNowOf_1 (by decide) (fun c_1 => ?_) (fun c_1 => ?_)
  · skip
    replace c_1 : j < 0 := (nI_ltI (a := j) (b := 0) (by omega) (by omega)).mp c_1
    exact absurd c_1 (by omega)
  · skip
    replace c_1 : ¬ j < 0 := fun h => c_1 ((nI_ltI (a := j) (b := 0) (by omega) (by omega)).mpr h)
    refine lv_iload_n hx hb dX1_eatenNowOf_4 rfl (lv_at hl 1 rfl) ?_
    refine lv_bipush (v := 6) hx hb dX1_eatenNowOf_5 (by decide) ?_
    refine lv_icmp_ge (tgt := 19) hx hb dX1_eatenNowOf_7 (by decide) (fun c_2 => ?_) (fun c_2 => ?_)
    · skip
      replace c_2 : 6 ≤ j := (nI_leI (a := 6) (b := j) (by omega) (by omega)).mp c_2
      exact absurd c_2 (by omega)
    · skip
      replace c_2 : ¬ 6 ≤ j := fun h => c_2 ((nI_leI (a := 6) (b := j) (by omega) (by omega)).mpr h)
      refine lv_aload_n hx hb dX1_eatenNowOf_10 rfl (lv_at hl 0 rfl) ?_
      refine va_get (D := D) (ci := 1) (v := .ref qa) (C := RX1) (T := TX1) (N := 9) hx hb hts (fun w h => List.mem_cons_of_mem _ (List.mem_append_right _ h)) hown hK hPr 0 rfl rfl 6 (by decide) (hts (Cond.fieldLink RX1 31 "JamDays$Days" "eatenNow" "[I") (List.mem_of_getElem? (i := 1) rfl)) (fun _ h9 => h9) rfl dX1_eatenNowOf_11 ?_
      refine lv_iload_n hx hb dX1_eatenNowOf_14 rfl (lv_at hl 1 rfl) ?_
      refine jv_ald (k := j) hx hb hK hPr 1 0 rfl rfl (by omega) (by decide) dX1_eatenNowOf_15 ?_
      refine lv_goto (tgt := 20) hx hb dX1_eatenNowOf_16 (by decide) ?_
      exact W.iret (v := sp j) hx hb hr (fun t ht hW => ⟨⟨sp j, (), rfl, rfl, trivial⟩, hS.F ht⟩) hS.2.2 dX1_eatenNowOf_20

set_option maxHeartbeats 4000000 in
set_option maxRecDepth 100000 in
theorem c_spoonsOfAll (l : Launch) (D : va_G) (cI cJ : ClassId) (q : Nat) (qa : Nat) (v0 : Value) (v1 : Value) (v2 : Value) (v3 : Value) (v4 : Value) (v6 : Value) (v7 : Value) (v8 : Value) (sp : Nat → Int32)  : jRi l yX1_spoonsOfAll wsX1_spoonsOfAll ({ frames := 0, cells := 0, slots := 0, locals := 0 }) [.ref q] D cI cJ (fun H => va_P D vwCl [(q, .inr (1, [v0, v1, v2, v3, v4, .ref qa, v6, v7, v8])), (qa, .inl (cI, 6, .inl sp))] H) (fun r => r = jsum sp 6) := by
  intro sz
  refine Met.ofW (cc := cX1_spoonsOfAll) (maxL := 3) (ret := (some .int)) (by decide) rfl ?_
  intro p e s m args below meth c s₁ B hml hv
  obtain ⟨rfl, hsz, hT, hPr⟩ := hv
  have hK := hT.1
  have hx := B.exec
  have hb := B.bytes
  have hr := B.returns
  have hts := atoms_spec (ws := wsX1_spoonsOfAll) B.pre
  have hown : s.vm.findClass RX1 = some m.cls := findClass_of_methodNamed B.named
  have hlocks := B.notSynchronized
  subst hsz
  generalize hAe : va_A [] s.heap.size = A
  have hA : ∀ q : Nat, s.heap.size ≤ q → A q := fun q h => by rw [← hAe]; exact Or.inr h
  have hS : va_S A s.heap s.heap [] := va_S.rf
  have hl := lv_entry ([.ref q] : List Value) (n := 3) (Nat.le_of_ble_eq_true rfl)
  rw [lg_entry_eq]
  generalize (lg_sl ([.ref q]) ++ List.replicate (3 - (lg_sl ([.ref q])).length) Slot.unset).toArray = ls at hl ⊢
  have hl : lv_has ls 3 [(0, .ref q)] := hl
  refine lv_iconst (v := 0) hx hb dX1_spoonsOfAll_0 (by decide) ?_
  refine lv_istore_n (lv' := [(1, .int 0), (0, .ref q)]) hx hb dX1_spoonsOfAll_1 rfl hl (by decide) rfl (fun ls hl => ?_)
  refine lv_iconst (v := 0) hx hb dX1_spoonsOfAll_2 (by decide) ?_
  refine lv_istore_n (lv' := [(2, .int 0), (1, .int 0), (0, .ref q)]) hx hb dX1_spoonsOfAll_3 rfl hl (by decide) rfl (fun ls hl => ?_)
  refine jloop (α := Nat) (fun (k : Nat) (H : Heap) (locs : List Loc) (ls : Array Slot) => (va_P D vwCl [(q, .inr (1, [v0, v1, v2, v3, v4, .ref qa, v6, v7, v8])), (qa, .inl (cI, 6, .inl sp))] H) ∧ (va_S A s.heap H locs) ∧ (lv_has ls 3 [(0, .ref q), (1, .int (jsum sp k)), (2, .int (nI k))]) ∧ (k ≤ 6)) (fun (k : Nat) => 6 - k) (fun k H locs ls hx9 ih_4 => ?_) 0 _ _ _ ⟨hPr, hS, lv_sub hl [2, 1, 0] rfl, (by omega)⟩
  obtain ⟨hPr, hS, hl, hk9⟩ := hx9
  refine lv_iload_n hx hb dX1_spoonsOfAll_4 rfl (lv_at hl 2 rfl) ?_
  refine lv_bipush (v := 6) hx hb dX1_spoonsOfAll_5 (by decide) ?_
  refine lv_icmp_ge (tgt := 25) hx hb dX1_spoonsOfAll_7 (by decide) (fun c_1 => ?_) (fun c_1 => ?_)
  · skip
    replace c_1 : 6 ≤ k := (nI_leI (a := 6) (b := k) (by omega) (by omega)).mp c_1
    refine lv_iload_n hx hb dX1_spoonsOfAll_25 rfl (lv_at hl 1 rfl) ?_
    exact W.iret (v := jsum sp k) hx hb hr (fun t ht hW => ⟨⟨jsum sp k, (), rfl, (by rw [show k = 6 by omega]), trivial⟩, hS.F ht⟩) hS.2.2 dX1_spoonsOfAll_26
  · skip
    replace c_1 : ¬ 6 ≤ k := fun h => c_1 ((nI_leI (a := 6) (b := k) (by omega) (by omega)).mpr h)
    refine lv_iload_n hx hb dX1_spoonsOfAll_10 rfl (lv_at hl 1 rfl) ?_
    refine lv_aload_n hx hb dX1_spoonsOfAll_11 rfl (lv_at hl 0 rfl) ?_
    refine va_get (D := D) (ci := 1) (v := .ref qa) (C := RX1) (T := TX1) (N := 9) hx hb hts (fun w h => List.mem_cons_of_mem _ (List.mem_append_right _ h)) hown hK hPr 0 rfl rfl 5 (by decide) (hts (Cond.fieldLink RX1 27 "JamDays$Days" "spoons" "[I") (List.mem_of_getElem? (i := 1) rfl)) (fun _ h9 => h9) rfl dX1_spoonsOfAll_12 ?_
    refine lv_iload_n hx hb dX1_spoonsOfAll_15 rfl (lv_at hl 2 rfl) ?_
    refine jv_ald (k := k) hx hb hK hPr 1 0 rfl rfl (by omega) (by decide) dX1_spoonsOfAll_16 ?_
    refine lv_iadd hx hb dX1_spoonsOfAll_17 ?_
    refine lv_istore_n (lv' := [(1, .int ((jsum sp k) + (sp k))), (0, .ref q), (2, .int (nI k))]) hx hb dX1_spoonsOfAll_18 rfl hl (by decide) rfl (fun ls hl => ?_)
    refine lv_iinc (v := nI (k + 1)) (lv' := [(2, .int (nI (k + 1))), (1, .int ((jsum sp k) + (sp k))), (0, .ref q)]) hx hb dX1_spoonsOfAll_19 hl (k := 2) rfl ((rfl : nI k + Int32.ofInt 1 = nI k + nI 1).trans (nI_add k 1)) (by decide) rfl (fun ls hl => ?_)
    refine lv_goto (tgt := 4) hx hb dX1_spoonsOfAll_22 (by decide) ?_
    exact ih_4 (k + 1) _ _ _ ⟨hPr, hS, lv_sub hl [2, 1, 0] rfl, (by omega)⟩ (by omega)

set_option maxHeartbeats 4000000 in
set_option maxRecDepth 100000 in
theorem c_passYear (l : Launch) (D : va_G) (cI cJ : ClassId) (q : Nat) (q5 : Nat) (q6 : Nat) (q7 : Nat) (q8 : Nat) (y : Int32) (ea : Int32) (lo : Int32) (jo : Int32) (ta : Int32) (sp : Nat → Int32) (en : Nat → Int32) (tY : Nat → Int32) (tW : Nat → Int32)  : jWv l yX1_passYear wsX1_passYear ({ frames := 0, cells := 0, slots := 0, locals := 0 }) 0 0 [.ref q] D cI cJ [(q, .inr (1, [.int y, .int ea, .int lo, .int jo, .int ta, .ref q5, .ref q6, .ref q7, .ref q8])), (q5, .inl (cI, 6, .inl sp)), (q6, .inl (cI, 6, .inl en)), (q7, .inl (cI, 6, .inl tY)), (q8, .inl (cI, 6, .inl tW))] (fun H => True) (fun H => va_P D vwCl [(q, .inr (1, [.int (y + 1), .int ea, .int lo, .int jo, .int ta, .ref q5, .ref q6, .ref q7, .ref q8])), (q5, .inl (cI, 6, .inl sp)), (q6, .inl (cI, 6, .inl (jfl (fun _ => 0) en 6))), (q7, .inl (cI, 6, .inl tY)), (q8, .inl (cI, 6, .inl tW))] H) := by
  intro sz
  refine Met.ofW (cc := cX1_passYear) (maxL := 2) (ret := none) (by decide) rfl ?_
  intro p e s m args below meth c s₁ B hml hv
  obtain ⟨rfl, hsz, hT, hP, hD0, _⟩ := hv
  have hK := hT.1
  have hx := B.exec
  have hb := B.bytes
  have hr := B.returns
  have hts := atoms_spec (ws := wsX1_passYear) B.pre
  have hown : s.vm.findClass RX1 = some m.cls := findClass_of_methodNamed B.named
  have hlocks := B.notSynchronized
  subst hsz
  have hD := hD0.self (sz := s.heap.size)
  generalize hAe : va_A [(q, .inr (1, [.int y, .int ea, .int lo, .int jo, .int ta, .ref q5, .ref q6, .ref q7, .ref q8])), (q5, .inl (cI, 6, .inl sp)), (q6, .inl (cI, 6, .inl en)), (q7, .inl (cI, 6, .inl tY)), (q8, .inl (cI, 6, .inl tW))] s.heap.size = A at hD ⊢
  have hA : ∀ q : Nat, s.heap.size ≤ q → A q := fun q h => by rw [← hAe]; exact Or.inr h
  have hS : va_S A s.heap s.heap [] := va_S.rf
  have hl := lv_entry ([.ref q] : List Value) (n := 2) (Nat.le_of_ble_eq_true rfl)
  rw [lg_entry_eq]
  generalize (lg_sl ([.ref q]) ++ List.replicate (2 - (lg_sl ([.ref q])).length) Slot.unset).toArray = ls at hl ⊢
  have hl : lv_has ls 2 [(0, .ref q)] := hl
  refine lv_aload_n hx hb dX1_passYear_0 rfl (lv_at hl 0 rfl) ?_
  refine lv_dup hx hb dX1_passYear_1 rfl ?_
  refine va_get (D := D) (ci := 1) (v := .int y) (C := RX1) (T := TX1) (N := 9) hx hb hts (fun w h => List.mem_cons_of_mem _ (List.mem_append_right _ h)) hown hK hP 0 rfl rfl 0 (by decide) (hts (Cond.fieldLink RX1 9 "JamDays$Days" "year" "I") (List.mem_of_getElem? (i := 1) rfl)) (fun _ h9 => h9) rfl dX1_passYear_2 ?_
  refine lv_iconst (v := 1) hx hb dX1_passYear_5 (by decide) ?_
  refine lv_iadd hx hb dX1_passYear_6 ?_
  refine va_put (D := D) (ci := 1) (v := .int (y + 1)) (ty := .int) (C := RX1) (T := TX1) (N := 9) hx hb hts (fun w h => List.mem_cons_of_mem _ (List.mem_append_right _ h)) tyX1 tyX1_ok nmX1 hown hK hP hD hS 0 rfl rfl 0 (by decide) (hts (Cond.fieldLink RX1 9 "JamDays$Days" "year" "I") (List.mem_of_getElem? (i := 1) rfl)) (fun _ h9 => h9) rfl (by decide +kernel) rfl rfl (Nat.le_of_ble_eq_true rfl) dX1_passYear_7 (fun H locs hP hD hS => ?_)
  have hP : va_P D vwCl [(q, .inr (1, [.int (y + 1), .int ea, .int lo, .int jo, .int ta, .ref q5, .ref q6, .ref q7, .ref q8])), (q5, .inl (cI, 6, .inl sp)), (q6, .inl (cI, 6, .inl en)), (q7, .inl (cI, 6, .inl tY)), (q8, .inl (cI, 6, .inl tW))] H := hP
  have hD : va_D A [(q, .inr (1, [.int (y + 1), .int ea, .int lo, .int jo, .int ta, .ref q5, .ref q6, .ref q7, .ref q8])), (q5, .inl (cI, 6, .inl sp)), (q6, .inl (cI, 6, .inl en)), (q7, .inl (cI, 6, .inl tY)), (q8, .inl (cI, 6, .inl tW))] := hD
  refine lv_iconst (v := 0) hx hb dX1_passYear_10 (by decide) ?_
  refine lv_istore_n (lv' := [(1, .int 0), (0, .ref q)]) hx hb dX1_passYear_11 rfl hl (by decide) rfl (fun ls hl => ?_)
  have hP : va_P D vwCl [(q, .inr (1, [.int (y + 1), .int ea, .int lo, .int jo, .int ta, .ref q5, .ref q6, .ref q7, .ref q8])), (q5, .inl (cI, 6, .inl sp)), (q6, .inl (cI, 6, .inl (jfl (fun _ => 0) en 0))), (q7, .inl (cI, 6, .inl tY)), (q8, .inl (cI, 6, .inl tW))] H := by rw [jfl_0]; exact hP
  have hD : va_D A [(q, .inr (1, [.int (y + 1), .int ea, .int lo, .int jo, .int ta, .ref q5, .ref q6, .ref q7, .ref q8])), (q5, .inl (cI, 6, .inl sp)), (q6, .inl (cI, 6, .inl (jfl (fun _ => 0) en 0))), (q7, .inl (cI, 6, .inl tY)), (q8, .inl (cI, 6, .inl tW))] := jD_of hD rfl
  refine jloop (α := Nat) (fun (k : Nat) (H : Heap) (locs : List Loc) (ls : Array Slot) => (va_P D vwCl [(q, .inr (1, [.int (y + 1), .int ea, .int lo, .int jo, .int ta, .ref q5, .ref q6, .ref q7, .ref q8])), (q5, .inl (cI, 6, .inl sp)), (q6, .inl (cI, 6, .inl (jfl (fun _ => 0) en k))), (q7, .inl (cI, 6, .inl tY)), (q8, .inl (cI, 6, .inl tW))] H) ∧ (va_D A [(q, .inr (1, [.int (y + 1), .int ea, .int lo, .int jo, .int ta, .ref q5, .ref q6, .ref q7, .ref q8])), (q5, .inl (cI, 6, .inl sp)), (q6, .inl (cI, 6, .inl (jfl (fun _ => 0) en k))), (q7, .inl (cI, 6, .inl tY)), (q8, .inl (cI, 6, .inl tW))]) ∧ (va_S A s.heap H locs) ∧ (lv_has ls 2 [(0, .ref q), (1, .int (nI k))]) ∧ (k ≤ 6)) (fun (k : Nat) => 6 - k) (fun k H locs ls hx9 ih_12 => ?_) 0 _ _ _ ⟨hP, hD, hS, lv_sub hl [1, 0] rfl, (by omega)⟩
  obtain ⟨hP, hD, hS, hl, hk9⟩ := hx9
  refine lv_iload_n hx hb dX1_passYear_12 rfl (lv_at hl 1 rfl) ?_
  refine lv_bipush (v := 6) hx hb dX1_passYear_13 (by decide) ?_
  refine lv_icmp_ge (tgt := 31) hx hb dX1_passYear_15 (by decide) (fun c_1 => ?_) (fun c_1 => ?_)
  · skip
    replace c_1 : 6 ≤ k := (nI_leI (a := 6) (b := k) (by omega) (by omega)).mp c_1
    exact W.vret hx hb hr (fun t ht hW => ⟨⟨(), rfl, trivial, by dsimp only; rw [ht]; exact (by rw [show k = 6 by omega] at hP; exact hP)⟩, hS.F ht⟩) hS.2.2 dX1_passYear_31
  · skip
    replace c_1 : ¬ 6 ≤ k := fun h => c_1 ((nI_leI (a := 6) (b := k) (by omega) (by omega)).mpr h)
    refine lv_aload_n hx hb dX1_passYear_18 rfl (lv_at hl 0 rfl) ?_
    refine va_get (D := D) (ci := 1) (v := .ref q6) (C := RX1) (T := TX1) (N := 9) hx hb hts (fun w h => List.mem_cons_of_mem _ (List.mem_append_right _ h)) hown hK hP 0 rfl rfl 6 (by decide) (hts (Cond.fieldLink RX1 31 "JamDays$Days" "eatenNow" "[I") (List.mem_of_getElem? (i := 2) rfl)) (fun _ h9 => h9) rfl dX1_passYear_19 ?_
    refine lv_iload_n hx hb dX1_passYear_22 rfl (lv_at hl 1 rfl) ?_
    refine lv_iconst (v := 0) hx hb dX1_passYear_23 (by decide) ?_
    refine jv_ast (k := k) (x := 0) hx hb hK hP hD hS 2 0 rfl rfl (by omega) (by decide) dX1_passYear_24 (fun H locs hP hD hS => ?_)
    have hP : va_P D vwCl [(q, .inr (1, [.int (y + 1), .int ea, .int lo, .int jo, .int ta, .ref q5, .ref q6, .ref q7, .ref q8])), (q5, .inl (cI, 6, .inl sp)), (q6, .inl (cI, 6, .inl (upd (jfl (fun _ => 0) en k) k 0))), (q7, .inl (cI, 6, .inl tY)), (q8, .inl (cI, 6, .inl tW))] H := hP
    have hD : va_D A [(q, .inr (1, [.int (y + 1), .int ea, .int lo, .int jo, .int ta, .ref q5, .ref q6, .ref q7, .ref q8])), (q5, .inl (cI, 6, .inl sp)), (q6, .inl (cI, 6, .inl (upd (jfl (fun _ => 0) en k) k 0))), (q7, .inl (cI, 6, .inl tY)), (q8, .inl (cI, 6, .inl tW))] := hD
    refine lv_iinc (v := nI (k + 1)) (lv' := [(1, .int (nI (k + 1))), (0, .ref q)]) hx hb dX1_passYear_25 hl (k := 1) rfl ((rfl : nI k + Int32.ofInt 1 = nI k + nI 1).trans (nI_add k 1)) (by decide) rfl (fun ls hl => ?_)
    refine lv_goto (tgt := 12) hx hb dX1_passYear_28 (by decide) ?_
    have hP : va_P D vwCl [(q, .inr (1, [.int (y + 1), .int ea, .int lo, .int jo, .int ta, .ref q5, .ref q6, .ref q7, .ref q8])), (q5, .inl (cI, 6, .inl sp)), (q6, .inl (cI, 6, .inl (jfl (fun _ => 0) en (k + 1)))), (q7, .inl (cI, 6, .inl tY)), (q8, .inl (cI, 6, .inl tW))] H := by rw [jfl_s (x := 0) rfl]; exact hP
    have hD : va_D A [(q, .inr (1, [.int (y + 1), .int ea, .int lo, .int jo, .int ta, .ref q5, .ref q6, .ref q7, .ref q8])), (q5, .inl (cI, 6, .inl sp)), (q6, .inl (cI, 6, .inl (jfl (fun _ => 0) en (k + 1)))), (q7, .inl (cI, 6, .inl tY)), (q8, .inl (cI, 6, .inl tW))] := jD_of hD rfl
    exact ih_12 (k + 1) _ _ _ ⟨hP, hD, hS, lv_sub hl [1, 0] rfl, (by omega)⟩ (by omega)

set_option maxHeartbeats 4000000 in
set_option maxRecDepth 100000 in
theorem c_startAnew (l : Launch) (D : va_G) (cI cJ : ClassId) (q : Nat) (q5 : Nat) (q6 : Nat) (q7 : Nat) (q8 : Nat) (y : Int32) (ea : Int32) (lo : Int32) (jo : Int32) (ta : Int32) (sp : Nat → Int32) (en : Nat → Int32) (tY : Nat → Int32) (tW : Nat → Int32) (n : Nat) (hn : n ≤ 6) : jWv l yX1_startAnew wsX1_startAnew ({ frames := 0, cells := 0, slots := 0, locals := 0 }) 0 0 [.ref q, .int (nI n)] D cI cJ [(q, .inr (1, [.int y, .int ea, .int lo, .int jo, .int ta, .ref q5, .ref q6, .ref q7, .ref q8])), (q5, .inl (cI, 6, .inl sp)), (q6, .inl (cI, 6, .inl en)), (q7, .inl (cI, 6, .inl tY)), (q8, .inl (cI, 6, .inl tW))] (fun H => True) (fun H => va_P D vwCl [(q, .inr (1, [.int 0, .int 0, .int 0, .int 0, .int 0, .ref q5, .ref q6, .ref q7, .ref q8])), (q5, .inl (cI, 6, .inl (jfl (fun i => if i < n then 12 else 0) sp 6))), (q6, .inl (cI, 6, .inl (jfl (fun _ => 0) en 6))), (q7, .inl (cI, 6, .inl tY)), (q8, .inl (cI, 6, .inl tW))] H) := by
  intro sz
  refine Met.ofW (cc := cX1_startAnew) (maxL := 3) (ret := none) (by decide) rfl ?_
  intro p e s m args below meth c s₁ B hml hv
  obtain ⟨rfl, hsz, hT, hP, hD0, _⟩ := hv
  have hK := hT.1
  have hx := B.exec
  have hb := B.bytes
  have hr := B.returns
  have hts := atoms_spec (ws := wsX1_startAnew) B.pre
  have hown : s.vm.findClass RX1 = some m.cls := findClass_of_methodNamed B.named
  have hlocks := B.notSynchronized
  subst hsz
  have hD := hD0.self (sz := s.heap.size)
  generalize hAe : va_A [(q, .inr (1, [.int y, .int ea, .int lo, .int jo, .int ta, .ref q5, .ref q6, .ref q7, .ref q8])), (q5, .inl (cI, 6, .inl sp)), (q6, .inl (cI, 6, .inl en)), (q7, .inl (cI, 6, .inl tY)), (q8, .inl (cI, 6, .inl tW))] s.heap.size = A at hD ⊢
  have hA : ∀ q : Nat, s.heap.size ≤ q → A q := fun q h => by rw [← hAe]; exact Or.inr h
  have hS : va_S A s.heap s.heap [] := va_S.rf
  have hl := lv_entry ([.ref q, .int (nI n)] : List Value) (n := 3) (Nat.le_of_ble_eq_true rfl)
  rw [lg_entry_eq]
  generalize (lg_sl ([.ref q, .int (nI n)]) ++ List.replicate (3 - (lg_sl ([.ref q, .int (nI n)])).length) Slot.unset).toArray = ls at hl ⊢
  have hl : lv_has ls 3 [(0, .ref q), (1, .int (nI n))] := hl
  refine lv_aload_n hx hb dX1_startAnew_0 rfl (lv_at hl 0 rfl) ?_
  refine lv_iconst (v := 0) hx hb dX1_startAnew_1 (by decide) ?_
  refine va_put (D := D) (ci := 1) (v := .int 0) (ty := .int) (C := RX1) (T := TX1) (N := 9) hx hb hts (fun w h => List.mem_cons_of_mem _ (List.mem_append_right _ h)) tyX1 tyX1_ok nmX1 hown hK hP hD hS 0 rfl rfl 0 (by decide) (hts (Cond.fieldLink RX1 9 "JamDays$Days" "year" "I") (List.mem_of_getElem? (i := 1) rfl)) (fun _ h9 => h9) rfl (by decide +kernel) rfl rfl (Nat.le_of_ble_eq_true rfl) dX1_startAnew_2 (fun H locs hP hD hS => ?_)
  have hP : va_P D vwCl [(q, .inr (1, [.int 0, .int ea, .int lo, .int jo, .int ta, .ref q5, .ref q6, .ref q7, .ref q8])), (q5, .inl (cI, 6, .inl sp)), (q6, .inl (cI, 6, .inl en)), (q7, .inl (cI, 6, .inl tY)), (q8, .inl (cI, 6, .inl tW))] H := hP
  have hD : va_D A [(q, .inr (1, [.int 0, .int ea, .int lo, .int jo, .int ta, .ref q5, .ref q6, .ref q7, .ref q8])), (q5, .inl (cI, 6, .inl sp)), (q6, .inl (cI, 6, .inl en)), (q7, .inl (cI, 6, .inl tY)), (q8, .inl (cI, 6, .inl tW))] := hD
  refine lv_aload_n hx hb dX1_startAnew_5 rfl (lv_at hl 0 rfl) ?_
  refine lv_iconst (v := 0) hx hb dX1_startAnew_6 (by decide) ?_
  refine va_put (D := D) (ci := 1) (v := .int 0) (ty := .int) (C := RX1) (T := TX1) (N := 9) hx hb hts (fun w h => List.mem_cons_of_mem _ (List.mem_append_right _ h)) tyX1 tyX1_ok nmX1 hown hK hP hD hS 0 rfl rfl 1 (by decide) (hts (Cond.fieldLink RX1 15 "JamDays$Days" "eaten" "I") (List.mem_of_getElem? (i := 2) rfl)) (fun _ h9 => h9) rfl (by decide +kernel) rfl rfl (Nat.le_of_ble_eq_true rfl) dX1_startAnew_7 (fun H locs hP hD hS => ?_)
  have hP : va_P D vwCl [(q, .inr (1, [.int 0, .int 0, .int lo, .int jo, .int ta, .ref q5, .ref q6, .ref q7, .ref q8])), (q5, .inl (cI, 6, .inl sp)), (q6, .inl (cI, 6, .inl en)), (q7, .inl (cI, 6, .inl tY)), (q8, .inl (cI, 6, .inl tW))] H := hP
  have hD : va_D A [(q, .inr (1, [.int 0, .int 0, .int lo, .int jo, .int ta, .ref q5, .ref q6, .ref q7, .ref q8])), (q5, .inl (cI, 6, .inl sp)), (q6, .inl (cI, 6, .inl en)), (q7, .inl (cI, 6, .inl tY)), (q8, .inl (cI, 6, .inl tW))] := hD
  refine lv_aload_n hx hb dX1_startAnew_10 rfl (lv_at hl 0 rfl) ?_
  refine lv_iconst (v := 0) hx hb dX1_startAnew_11 (by decide) ?_
  refine va_put (D := D) (ci := 1) (v := .int 0) (ty := .int) (C := RX1) (T := TX1) (N := 9) hx hb hts (fun w h => List.mem_cons_of_mem _ (List.mem_append_right _ h)) tyX1 tyX1_ok nmX1 hown hK hP hD hS 0 rfl rfl 2 (by decide) (hts (Cond.fieldLink RX1 18 "JamDays$Days" "lost" "I") (List.mem_of_getElem? (i := 3) rfl)) (fun _ h9 => h9) rfl (by decide +kernel) rfl rfl (Nat.le_of_ble_eq_true rfl) dX1_startAnew_12 (fun H locs hP hD hS => ?_)
  have hP : va_P D vwCl [(q, .inr (1, [.int 0, .int 0, .int 0, .int jo, .int ta, .ref q5, .ref q6, .ref q7, .ref q8])), (q5, .inl (cI, 6, .inl sp)), (q6, .inl (cI, 6, .inl en)), (q7, .inl (cI, 6, .inl tY)), (q8, .inl (cI, 6, .inl tW))] H := hP
  have hD : va_D A [(q, .inr (1, [.int 0, .int 0, .int 0, .int jo, .int ta, .ref q5, .ref q6, .ref q7, .ref q8])), (q5, .inl (cI, 6, .inl sp)), (q6, .inl (cI, 6, .inl en)), (q7, .inl (cI, 6, .inl tY)), (q8, .inl (cI, 6, .inl tW))] := hD
  refine lv_aload_n hx hb dX1_startAnew_15 rfl (lv_at hl 0 rfl) ?_
  refine lv_iconst (v := 0) hx hb dX1_startAnew_16 (by decide) ?_
  refine va_put (D := D) (ci := 1) (v := .int 0) (ty := .int) (C := RX1) (T := TX1) (N := 9) hx hb hts (fun w h => List.mem_cons_of_mem _ (List.mem_append_right _ h)) tyX1 tyX1_ok nmX1 hown hK hP hD hS 0 rfl rfl 3 (by decide) (hts (Cond.fieldLink RX1 21 "JamDays$Days" "joy" "I") (List.mem_of_getElem? (i := 4) rfl)) (fun _ h9 => h9) rfl (by decide +kernel) rfl rfl (Nat.le_of_ble_eq_true rfl) dX1_startAnew_17 (fun H locs hP hD hS => ?_)
  have hP : va_P D vwCl [(q, .inr (1, [.int 0, .int 0, .int 0, .int 0, .int ta, .ref q5, .ref q6, .ref q7, .ref q8])), (q5, .inl (cI, 6, .inl sp)), (q6, .inl (cI, 6, .inl en)), (q7, .inl (cI, 6, .inl tY)), (q8, .inl (cI, 6, .inl tW))] H := hP
  have hD : va_D A [(q, .inr (1, [.int 0, .int 0, .int 0, .int 0, .int ta, .ref q5, .ref q6, .ref q7, .ref q8])), (q5, .inl (cI, 6, .inl sp)), (q6, .inl (cI, 6, .inl en)), (q7, .inl (cI, 6, .inl tY)), (q8, .inl (cI, 6, .inl tW))] := hD
  refine lv_aload_n hx hb dX1_startAnew_20 rfl (lv_at hl 0 rfl) ?_
  refine lv_iconst (v := 0) hx hb dX1_startAnew_21 (by decide) ?_
  refine va_put (D := D) (ci := 1) (v := .int 0) (ty := .int) (C := RX1) (T := TX1) (N := 9) hx hb hts (fun w h => List.mem_cons_of_mem _ (List.mem_append_right _ h)) tyX1 tyX1_ok nmX1 hown hK hP hD hS 0 rfl rfl 4 (by decide) (hts (Cond.fieldLink RX1 24 "JamDays$Days" "tasted" "I") (List.mem_of_getElem? (i := 5) rfl)) (fun _ h9 => h9) rfl (by decide +kernel) rfl rfl (Nat.le_of_ble_eq_true rfl) dX1_startAnew_22 (fun H locs hP hD hS => ?_)
  have hP : va_P D vwCl [(q, .inr (1, [.int 0, .int 0, .int 0, .int 0, .int 0, .ref q5, .ref q6, .ref q7, .ref q8])), (q5, .inl (cI, 6, .inl sp)), (q6, .inl (cI, 6, .inl en)), (q7, .inl (cI, 6, .inl tY)), (q8, .inl (cI, 6, .inl tW))] H := hP
  have hD : va_D A [(q, .inr (1, [.int 0, .int 0, .int 0, .int 0, .int 0, .ref q5, .ref q6, .ref q7, .ref q8])), (q5, .inl (cI, 6, .inl sp)), (q6, .inl (cI, 6, .inl en)), (q7, .inl (cI, 6, .inl tY)), (q8, .inl (cI, 6, .inl tW))] := hD
  refine lv_iconst (v := 0) hx hb dX1_startAnew_25 (by decide) ?_
  refine lv_istore_n (lv' := [(2, .int 0), (0, .ref q), (1, .int (nI n))]) hx hb dX1_startAnew_26 rfl hl (by decide) rfl (fun ls hl => ?_)
  have hP : va_P D vwCl [(q, .inr (1, [.int 0, .int 0, .int 0, .int 0, .int 0, .ref q5, .ref q6, .ref q7, .ref q8])), (q5, .inl (cI, 6, .inl (jfl (fun i => if i < n then 12 else 0) sp 0))), (q6, .inl (cI, 6, .inl (jfl (fun _ => 0) en 0))), (q7, .inl (cI, 6, .inl tY)), (q8, .inl (cI, 6, .inl tW))] H := by rw [jfl_0, jfl_0]; exact hP
  have hD : va_D A [(q, .inr (1, [.int 0, .int 0, .int 0, .int 0, .int 0, .ref q5, .ref q6, .ref q7, .ref q8])), (q5, .inl (cI, 6, .inl (jfl (fun i => if i < n then 12 else 0) sp 0))), (q6, .inl (cI, 6, .inl (jfl (fun _ => 0) en 0))), (q7, .inl (cI, 6, .inl tY)), (q8, .inl (cI, 6, .inl tW))] := jD_of hD rfl
  refine jloop (α := Nat) (fun (k : Nat) (H : Heap) (locs : List Loc) (ls : Array Slot) => (va_P D vwCl [(q, .inr (1, [.int 0, .int 0, .int 0, .int 0, .int 0, .ref q5, .ref q6, .ref q7, .ref q8])), (q5, .inl (cI, 6, .inl (jfl (fun i => if i < n then 12 else 0) sp k))), (q6, .inl (cI, 6, .inl (jfl (fun _ => 0) en k))), (q7, .inl (cI, 6, .inl tY)), (q8, .inl (cI, 6, .inl tW))] H) ∧ (va_D A [(q, .inr (1, [.int 0, .int 0, .int 0, .int 0, .int 0, .ref q5, .ref q6, .ref q7, .ref q8])), (q5, .inl (cI, 6, .inl (jfl (fun i => if i < n then 12 else 0) sp k))), (q6, .inl (cI, 6, .inl (jfl (fun _ => 0) en k))), (q7, .inl (cI, 6, .inl tY)), (q8, .inl (cI, 6, .inl tW))]) ∧ (va_S A s.heap H locs) ∧ (lv_has ls 3 [(0, .ref q), (1, .int (nI n)), (2, .int (nI k))]) ∧ (k ≤ 6)) (fun (k : Nat) => 6 - k) (fun k H locs ls hx9 ih_27 => ?_) 0 _ _ _ ⟨hP, hD, hS, lv_sub hl [1, 2, 0] rfl, (by omega)⟩
  obtain ⟨hP, hD, hS, hl, hk9⟩ := hx9
  refine lv_iload_n hx hb dX1_startAnew_27 rfl (lv_at hl 2 rfl) ?_
  refine lv_bipush (v := 6) hx hb dX1_startAnew_28 (by decide) ?_
  refine lv_icmp_ge (tgt := 63) hx hb dX1_startAnew_30 (by decide) (fun c_1 => ?_) (fun c_1 => ?_)
  · skip
    replace c_1 : 6 ≤ k := (nI_leI (a := 6) (b := k) (by omega) (by omega)).mp c_1
    exact W.vret hx hb hr (fun t ht hW => ⟨⟨(), rfl, trivial, by dsimp only; rw [ht]; exact (by rw [show k = 6 by omega] at hP; exact hP)⟩, hS.F ht⟩) hS.2.2 dX1_startAnew_63
  · skip
    replace c_1 : ¬ 6 ≤ k := fun h => c_1 ((nI_leI (a := 6) (b := k) (by omega) (by omega)).mpr h)
    refine lv_aload_n hx hb dX1_startAnew_33 rfl (lv_at hl 0 rfl) ?_
    refine va_get (D := D) (ci := 1) (v := .ref q5) (C := RX1) (T := TX1) (N := 9) hx hb hts (fun w h => List.mem_cons_of_mem _ (List.mem_append_right _ h)) hown hK hP 0 rfl rfl 5 (by decide) (hts (Cond.fieldLink RX1 27 "JamDays$Days" "spoons" "[I") (List.mem_of_getElem? (i := 6) rfl)) (fun _ h9 => h9) rfl dX1_startAnew_34 ?_
    refine lv_iload_n hx hb dX1_startAnew_37 rfl (lv_at hl 2 rfl) ?_
    refine lv_iload_n hx hb dX1_startAnew_38 rfl (lv_at hl 2 rfl) ?_
    refine lv_iload_n hx hb dX1_startAnew_39 rfl (lv_at hl 1 rfl) ?_
    refine lv_icmp_ge (tgt := 48) hx hb dX1_startAnew_40 (by decide) (fun c_2 => ?_) (fun c_2 => ?_)
    · skip
      replace c_2 : n ≤ k := (nI_leI (a := n) (b := k) (by omega) (by omega)).mp c_2
      refine lv_iconst (v := 0) hx hb dX1_startAnew_48 (by decide) ?_
      refine jv_ast (k := k) (x := 0) hx hb hK hP hD hS 1 0 rfl rfl (by omega) (by decide) dX1_startAnew_49 (fun H locs hP hD hS => ?_)
      have hP : va_P D vwCl [(q, .inr (1, [.int 0, .int 0, .int 0, .int 0, .int 0, .ref q5, .ref q6, .ref q7, .ref q8])), (q5, .inl (cI, 6, .inl (upd (jfl (fun i => if i < n then 12 else 0) sp k) k 0))), (q6, .inl (cI, 6, .inl (jfl (fun _ => 0) en k))), (q7, .inl (cI, 6, .inl tY)), (q8, .inl (cI, 6, .inl tW))] H := hP
      have hD : va_D A [(q, .inr (1, [.int 0, .int 0, .int 0, .int 0, .int 0, .ref q5, .ref q6, .ref q7, .ref q8])), (q5, .inl (cI, 6, .inl (upd (jfl (fun i => if i < n then 12 else 0) sp k) k 0))), (q6, .inl (cI, 6, .inl (jfl (fun _ => 0) en k))), (q7, .inl (cI, 6, .inl tY)), (q8, .inl (cI, 6, .inl tW))] := hD
      refine lv_aload_n hx hb dX1_startAnew_50 rfl (lv_at hl 0 rfl) ?_
      refine va_get (D := D) (ci := 1) (v := .ref q6) (C := RX1) (T := TX1) (N := 9) hx hb hts (fun w h => List.mem_cons_of_mem _ (List.mem_append_right _ h)) hown hK hP 0 rfl rfl 6 (by decide) (hts (Cond.fieldLink RX1 31 "JamDays$Days" "eatenNow" "[I") (List.mem_of_getElem? (i := 7) rfl)) (fun _ h9 => h9) rfl dX1_startAnew_51 ?_
      refine lv_iload_n hx hb dX1_startAnew_54 rfl (lv_at hl 2 rfl) ?_
      refine lv_iconst (v := 0) hx hb dX1_startAnew_55 (by decide) ?_
      refine jv_ast (k := k) (x := 0) hx hb hK hP hD hS 2 0 rfl rfl (by omega) (by decide) dX1_startAnew_56 (fun H locs hP hD hS => ?_)
      have hP : va_P D vwCl [(q, .inr (1, [.int 0, .int 0, .int 0, .int 0, .int 0, .ref q5, .ref q6, .ref q7, .ref q8])), (q5, .inl (cI, 6, .inl (upd (jfl (fun i => if i < n then 12 else 0) sp k) k 0))), (q6, .inl (cI, 6, .inl (upd (jfl (fun _ => 0) en k) k 0))), (q7, .inl (cI, 6, .inl tY)), (q8, .inl (cI, 6, .inl tW))] H := hP
      have hD : va_D A [(q, .inr (1, [.int 0, .int 0, .int 0, .int 0, .int 0, .ref q5, .ref q6, .ref q7, .ref q8])), (q5, .inl (cI, 6, .inl (upd (jfl (fun i => if i < n then 12 else 0) sp k) k 0))), (q6, .inl (cI, 6, .inl (upd (jfl (fun _ => 0) en k) k 0))), (q7, .inl (cI, 6, .inl tY)), (q8, .inl (cI, 6, .inl tW))] := hD
      refine lv_iinc (v := nI (k + 1)) (lv' := [(2, .int (nI (k + 1))), (0, .ref q), (1, .int (nI n))]) hx hb dX1_startAnew_57 hl (k := 2) rfl ((rfl : nI k + Int32.ofInt 1 = nI k + nI 1).trans (nI_add k 1)) (by decide) rfl (fun ls hl => ?_)
      refine lv_goto (tgt := 27) hx hb dX1_startAnew_60 (by decide) ?_
      have hP : va_P D vwCl [(q, .inr (1, [.int 0, .int 0, .int 0, .int 0, .int 0, .ref q5, .ref q6, .ref q7, .ref q8])), (q5, .inl (cI, 6, .inl (jfl (fun i => if i < n then 12 else 0) sp (k + 1)))), (q6, .inl (cI, 6, .inl (jfl (fun _ => 0) en (k + 1)))), (q7, .inl (cI, 6, .inl tY)), (q8, .inl (cI, 6, .inl tW))] H := by rw [jfl_s (x := 0) (by simp [c_1, c_2]; try omega), jfl_s (x := 0) rfl]; exact hP
      have hD : va_D A [(q, .inr (1, [.int 0, .int 0, .int 0, .int 0, .int 0, .ref q5, .ref q6, .ref q7, .ref q8])), (q5, .inl (cI, 6, .inl (jfl (fun i => if i < n then 12 else 0) sp (k + 1)))), (q6, .inl (cI, 6, .inl (jfl (fun _ => 0) en (k + 1)))), (q7, .inl (cI, 6, .inl tY)), (q8, .inl (cI, 6, .inl tW))] := jD_of hD rfl
      exact ih_27 (k + 1) _ _ _ ⟨hP, hD, hS, lv_sub hl [1, 2, 0] rfl, (by omega)⟩ (by omega)
    · skip
      replace c_2 : ¬ n ≤ k := fun h => c_2 ((nI_leI (a := n) (b := k) (by omega) (by omega)).mpr h)
      refine lv_bipush (v := 12) hx hb dX1_startAnew_43 (by decide) ?_
      refine lv_goto (tgt := 49) hx hb dX1_startAnew_45 (by decide) ?_
      refine jv_ast (k := k) (x := 12) hx hb hK hP hD hS 1 0 rfl rfl (by omega) (by decide) dX1_startAnew_49 (fun H locs hP hD hS => ?_)
      have hP : va_P D vwCl [(q, .inr (1, [.int 0, .int 0, .int 0, .int 0, .int 0, .ref q5, .ref q6, .ref q7, .ref q8])), (q5, .inl (cI, 6, .inl (upd (jfl (fun i => if i < n then 12 else 0) sp k) k 12))), (q6, .inl (cI, 6, .inl (jfl (fun _ => 0) en k))), (q7, .inl (cI, 6, .inl tY)), (q8, .inl (cI, 6, .inl tW))] H := hP
      have hD : va_D A [(q, .inr (1, [.int 0, .int 0, .int 0, .int 0, .int 0, .ref q5, .ref q6, .ref q7, .ref q8])), (q5, .inl (cI, 6, .inl (upd (jfl (fun i => if i < n then 12 else 0) sp k) k 12))), (q6, .inl (cI, 6, .inl (jfl (fun _ => 0) en k))), (q7, .inl (cI, 6, .inl tY)), (q8, .inl (cI, 6, .inl tW))] := hD
      refine lv_aload_n hx hb dX1_startAnew_50 rfl (lv_at hl 0 rfl) ?_
      refine va_get (D := D) (ci := 1) (v := .ref q6) (C := RX1) (T := TX1) (N := 9) hx hb hts (fun w h => List.mem_cons_of_mem _ (List.mem_append_right _ h)) hown hK hP 0 rfl rfl 6 (by decide) (hts (Cond.fieldLink RX1 31 "JamDays$Days" "eatenNow" "[I") (List.mem_of_getElem? (i := 7) rfl)) (fun _ h9 => h9) rfl dX1_startAnew_51 ?_
      refine lv_iload_n hx hb dX1_startAnew_54 rfl (lv_at hl 2 rfl) ?_
      refine lv_iconst (v := 0) hx hb dX1_startAnew_55 (by decide) ?_
      refine jv_ast (k := k) (x := 0) hx hb hK hP hD hS 2 0 rfl rfl (by omega) (by decide) dX1_startAnew_56 (fun H locs hP hD hS => ?_)
      have hP : va_P D vwCl [(q, .inr (1, [.int 0, .int 0, .int 0, .int 0, .int 0, .ref q5, .ref q6, .ref q7, .ref q8])), (q5, .inl (cI, 6, .inl (upd (jfl (fun i => if i < n then 12 else 0) sp k) k 12))), (q6, .inl (cI, 6, .inl (upd (jfl (fun _ => 0) en k) k 0))), (q7, .inl (cI, 6, .inl tY)), (q8, .inl (cI, 6, .inl tW))] H := hP
      have hD : va_D A [(q, .inr (1, [.int 0, .int 0, .int 0, .int 0, .int 0, .ref q5, .ref q6, .ref q7, .ref q8])), (q5, .inl (cI, 6, .inl (upd (jfl (fun i => if i < n then 12 else 0) sp k) k 12))), (q6, .inl (cI, 6, .inl (upd (jfl (fun _ => 0) en k) k 0))), (q7, .inl (cI, 6, .inl tY)), (q8, .inl (cI, 6, .inl tW))] := hD
      refine lv_iinc (v := nI (k + 1)) (lv' := [(2, .int (nI (k + 1))), (0, .ref q), (1, .int (nI n))]) hx hb dX1_startAnew_57 hl (k := 2) rfl ((rfl : nI k + Int32.ofInt 1 = nI k + nI 1).trans (nI_add k 1)) (by decide) rfl (fun ls hl => ?_)
      refine lv_goto (tgt := 27) hx hb dX1_startAnew_60 (by decide) ?_
      have hP : va_P D vwCl [(q, .inr (1, [.int 0, .int 0, .int 0, .int 0, .int 0, .ref q5, .ref q6, .ref q7, .ref q8])), (q5, .inl (cI, 6, .inl (jfl (fun i => if i < n then 12 else 0) sp (k + 1)))), (q6, .inl (cI, 6, .inl (jfl (fun _ => 0) en (k + 1)))), (q7, .inl (cI, 6, .inl tY)), (q8, .inl (cI, 6, .inl tW))] H := by rw [jfl_s (x := 12) (by simp [c_1, c_2]; try omega), jfl_s (x := 0) rfl]; exact hP
      have hD : va_D A [(q, .inr (1, [.int 0, .int 0, .int 0, .int 0, .int 0, .ref q5, .ref q6, .ref q7, .ref q8])), (q5, .inl (cI, 6, .inl (jfl (fun i => if i < n then 12 else 0) sp (k + 1)))), (q6, .inl (cI, 6, .inl (jfl (fun _ => 0) en (k + 1)))), (q7, .inl (cI, 6, .inl tY)), (q8, .inl (cI, 6, .inl tW))] := jD_of hD rfl
      exact ih_27 (k + 1) _ _ _ ⟨hP, hD, hS, lv_sub hl [1, 2, 0] rfl, (by omega)⟩ (by omega)

set_option maxHeartbeats 4000000 in
set_option maxRecDepth 100000 in
theorem c_copyFrom (l : Launch) (D : va_G) (cI cJ : ClassId) (q : Nat) (q5 : Nat) (q6 : Nat) (q7 : Nat) (q8 : Nat) (y : Int32) (ea : Int32) (lo : Int32) (jo : Int32) (ta : Int32) (sp : Nat → Int32) (en : Nat → Int32) (tY : Nat → Int32) (tW : Nat → Int32) (z : Nat) (z5 : Nat) (z6 : Nat) (z7 : Nat) (z8 : Nat) (oy : Int32) (oea : Int32) (olo : Int32) (ojo : Int32) (ota : Int32) (osp : Nat → Int32) (oen : Nat → Int32) (otY : Nat → Int32) (otW : Nat → Int32)  : jWv l yX1_copyFrom wsX1_copyFrom ({ frames := 0, cells := 0, slots := 0, locals := 0 }) 0 0 [.ref q, .ref z] D cI cJ [(q, .inr (1, [.int y, .int ea, .int lo, .int jo, .int ta, .ref q5, .ref q6, .ref q7, .ref q8])), (q5, .inl (cI, 6, .inl sp)), (q6, .inl (cI, 6, .inl en)), (q7, .inl (cI, 6, .inl tY)), (q8, .inl (cI, 6, .inl tW)), (z, .inr (1, [.int oy, .int oea, .int olo, .int ojo, .int ota, .ref z5, .ref z6, .ref z7, .ref z8])), (z5, .inl (cI, 6, .inl osp)), (z6, .inl (cI, 6, .inl oen)), (z7, .inl (cI, 6, .inl otY)), (z8, .inl (cI, 6, .inl otW))] (fun H => True) (fun H => va_P D vwCl [(q, .inr (1, [.int oy, .int oea, .int olo, .int ojo, .int ota, .ref q5, .ref q6, .ref q7, .ref q8])), (q5, .inl (cI, 6, .inl (jfl osp sp 6))), (q6, .inl (cI, 6, .inl (jfl oen en 6))), (q7, .inl (cI, 6, .inl (jfl otY tY 6))), (q8, .inl (cI, 6, .inl (jfl otW tW 6))), (z, .inr (1, [.int oy, .int oea, .int olo, .int ojo, .int ota, .ref z5, .ref z6, .ref z7, .ref z8])), (z5, .inl (cI, 6, .inl osp)), (z6, .inl (cI, 6, .inl oen)), (z7, .inl (cI, 6, .inl otY)), (z8, .inl (cI, 6, .inl otW))] H) := by
  intro sz
  refine Met.ofW (cc := cX1_copyFrom) (maxL := 3) (ret := none) (by decide) rfl ?_
  intro p e s m args below meth c s₁ B hml hv
  obtain ⟨rfl, hsz, hT, hP, hD0, _⟩ := hv
  have hK := hT.1
  have hx := B.exec
  have hb := B.bytes
  have hr := B.returns
  have hts := atoms_spec (ws := wsX1_copyFrom) B.pre
  have hown : s.vm.findClass RX1 = some m.cls := findClass_of_methodNamed B.named
  have hlocks := B.notSynchronized
  subst hsz
  have hD := hD0.self (sz := s.heap.size)
  generalize hAe : va_A [(q, .inr (1, [.int y, .int ea, .int lo, .int jo, .int ta, .ref q5, .ref q6, .ref q7, .ref q8])), (q5, .inl (cI, 6, .inl sp)), (q6, .inl (cI, 6, .inl en)), (q7, .inl (cI, 6, .inl tY)), (q8, .inl (cI, 6, .inl tW)), (z, .inr (1, [.int oy, .int oea, .int olo, .int ojo, .int ota, .ref z5, .ref z6, .ref z7, .ref z8])), (z5, .inl (cI, 6, .inl osp)), (z6, .inl (cI, 6, .inl oen)), (z7, .inl (cI, 6, .inl otY)), (z8, .inl (cI, 6, .inl otW))] s.heap.size = A at hD ⊢
  have hA : ∀ q : Nat, s.heap.size ≤ q → A q := fun q h => by rw [← hAe]; exact Or.inr h
  have hS : va_S A s.heap s.heap [] := va_S.rf
  have hl := lv_entry ([.ref q, .ref z] : List Value) (n := 3) (Nat.le_of_ble_eq_true rfl)
  rw [lg_entry_eq]
  generalize (lg_sl ([.ref q, .ref z]) ++ List.replicate (3 - (lg_sl ([.ref q, .ref z])).length) Slot.unset).toArray = ls at hl ⊢
  have hl : lv_has ls 3 [(0, .ref q), (1, .ref z)] := hl
  refine lv_aload_n hx hb dX1_copyFrom_0 rfl (lv_at hl 1 rfl) ?_
  refine lv_ifnonnull (tgt := 5) hx hb dX1_copyFrom_1 (by decide) ?_
  refine lv_aload_n hx hb dX1_copyFrom_5 rfl (lv_at hl 0 rfl) ?_
  refine lv_aload_n hx hb dX1_copyFrom_6 rfl (lv_at hl 1 rfl) ?_
  refine va_get (D := D) (ci := 1) (v := .int oy) (C := RX1) (T := TX1) (N := 9) hx hb hts (fun w h => List.mem_cons_of_mem _ (List.mem_append_right _ h)) hown hK hP 5 rfl rfl 0 (by decide) (hts (Cond.fieldLink RX1 9 "JamDays$Days" "year" "I") (List.mem_of_getElem? (i := 1) rfl)) (fun _ h9 => h9) rfl dX1_copyFrom_7 ?_
  refine va_put (D := D) (ci := 1) (v := .int oy) (ty := .int) (C := RX1) (T := TX1) (N := 9) hx hb hts (fun w h => List.mem_cons_of_mem _ (List.mem_append_right _ h)) tyX1 tyX1_ok nmX1 hown hK hP hD hS 0 rfl rfl 0 (by decide) (hts (Cond.fieldLink RX1 9 "JamDays$Days" "year" "I") (List.mem_of_getElem? (i := 1) rfl)) (fun _ h9 => h9) rfl (by decide +kernel) rfl rfl (Nat.le_of_ble_eq_true rfl) dX1_copyFrom_10 (fun H locs hP hD hS => ?_)
  have hP : va_P D vwCl [(q, .inr (1, [.int oy, .int ea, .int lo, .int jo, .int ta, .ref q5, .ref q6, .ref q7, .ref q8])), (q5, .inl (cI, 6, .inl sp)), (q6, .inl (cI, 6, .inl en)), (q7, .inl (cI, 6, .inl tY)), (q8, .inl (cI, 6, .inl tW)), (z, .inr (1, [.int oy, .int oea, .int olo, .int ojo, .int ota, .ref z5, .ref z6, .ref z7, .ref z8])), (z5, .inl (cI, 6, .inl osp)), (z6, .inl (cI, 6, .inl oen)), (z7, .inl (cI, 6, .inl otY)), (z8, .inl (cI, 6, .inl otW))] H := hP
  have hD : va_D A [(q, .inr (1, [.int oy, .int ea, .int lo, .int jo, .int ta, .ref q5, .ref q6, .ref q7, .ref q8])), (q5, .inl (cI, 6, .inl sp)), (q6, .inl (cI, 6, .inl en)), (q7, .inl (cI, 6, .inl tY)), (q8, .inl (cI, 6, .inl tW)), (z, .inr (1, [.int oy, .int oea, .int olo, .int ojo, .int ota, .ref z5, .ref z6, .ref z7, .ref z8])), (z5, .inl (cI, 6, .inl osp)), (z6, .inl (cI, 6, .inl oen)), (z7, .inl (cI, 6, .inl otY)), (z8, .inl (cI, 6, .inl otW))] := hD
  refine lv_aload_n hx hb dX1_copyFrom_13 rfl (lv_at hl 0 rfl) ?_
  refine lv_aload_n hx hb dX1_copyFrom_14 rfl (lv_at hl 1 rfl) ?_
  refine va_get (D := D) (ci := 1) (v := .int oea) (C := RX1) (T := TX1) (N := 9) hx hb hts (fun w h => List.mem_cons_of_mem _ (List.mem_append_right _ h)) hown hK hP 5 rfl rfl 1 (by decide) (hts (Cond.fieldLink RX1 15 "JamDays$Days" "eaten" "I") (List.mem_of_getElem? (i := 2) rfl)) (fun _ h9 => h9) rfl dX1_copyFrom_15 ?_
  refine va_put (D := D) (ci := 1) (v := .int oea) (ty := .int) (C := RX1) (T := TX1) (N := 9) hx hb hts (fun w h => List.mem_cons_of_mem _ (List.mem_append_right _ h)) tyX1 tyX1_ok nmX1 hown hK hP hD hS 0 rfl rfl 1 (by decide) (hts (Cond.fieldLink RX1 15 "JamDays$Days" "eaten" "I") (List.mem_of_getElem? (i := 2) rfl)) (fun _ h9 => h9) rfl (by decide +kernel) rfl rfl (Nat.le_of_ble_eq_true rfl) dX1_copyFrom_18 (fun H locs hP hD hS => ?_)
  have hP : va_P D vwCl [(q, .inr (1, [.int oy, .int oea, .int lo, .int jo, .int ta, .ref q5, .ref q6, .ref q7, .ref q8])), (q5, .inl (cI, 6, .inl sp)), (q6, .inl (cI, 6, .inl en)), (q7, .inl (cI, 6, .inl tY)), (q8, .inl (cI, 6, .inl tW)), (z, .inr (1, [.int oy, .int oea, .int olo, .int ojo, .int ota, .ref z5, .ref z6, .ref z7, .ref z8])), (z5, .inl (cI, 6, .inl osp)), (z6, .inl (cI, 6, .inl oen)), (z7, .inl (cI, 6, .inl otY)), (z8, .inl (cI, 6, .inl otW))] H := hP
  have hD : va_D A [(q, .inr (1, [.int oy, .int oea, .int lo, .int jo, .int ta, .ref q5, .ref q6, .ref q7, .ref q8])), (q5, .inl (cI, 6, .inl sp)), (q6, .inl (cI, 6, .inl en)), (q7, .inl (cI, 6, .inl tY)), (q8, .inl (cI, 6, .inl tW)), (z, .inr (1, [.int oy, .int oea, .int olo, .int ojo, .int ota, .ref z5, .ref z6, .ref z7, .ref z8])), (z5, .inl (cI, 6, .inl osp)), (z6, .inl (cI, 6, .inl oen)), (z7, .inl (cI, 6, .inl otY)), (z8, .inl (cI, 6, .inl otW))] := hD
  refine lv_aload_n hx hb dX1_copyFrom_21 rfl (lv_at hl 0 rfl) ?_
  refine lv_aload_n hx hb dX1_copyFrom_22 rfl (lv_at hl 1 rfl) ?_
  refine va_get (D := D) (ci := 1) (v := .int olo) (C := RX1) (T := TX1) (N := 9) hx hb hts (fun w h => List.mem_cons_of_mem _ (List.mem_append_right _ h)) hown hK hP 5 rfl rfl 2 (by decide) (hts (Cond.fieldLink RX1 18 "JamDays$Days" "lost" "I") (List.mem_of_getElem? (i := 3) rfl)) (fun _ h9 => h9) rfl dX1_copyFrom_23 ?_
  refine va_put (D := D) (ci := 1) (v := .int olo) (ty := .int) (C := RX1) (T := TX1) (N := 9) hx hb hts (fun w h => List.mem_cons_of_mem _ (List.mem_append_right _ h)) tyX1 tyX1_ok nmX1 hown hK hP hD hS 0 rfl rfl 2 (by decide) (hts (Cond.fieldLink RX1 18 "JamDays$Days" "lost" "I") (List.mem_of_getElem? (i := 3) rfl)) (fun _ h9 => h9) rfl (by decide +kernel) rfl rfl (Nat.le_of_ble_eq_true rfl) dX1_copyFrom_26 (fun H locs hP hD hS => ?_)
  have hP : va_P D vwCl [(q, .inr (1, [.int oy, .int oea, .int olo, .int jo, .int ta, .ref q5, .ref q6, .ref q7, .ref q8])), (q5, .inl (cI, 6, .inl sp)), (q6, .inl (cI, 6, .inl en)), (q7, .inl (cI, 6, .inl tY)), (q8, .inl (cI, 6, .inl tW)), (z, .inr (1, [.int oy, .int oea, .int olo, .int ojo, .int ota, .ref z5, .ref z6, .ref z7, .ref z8])), (z5, .inl (cI, 6, .inl osp)), (z6, .inl (cI, 6, .inl oen)), (z7, .inl (cI, 6, .inl otY)), (z8, .inl (cI, 6, .inl otW))] H := hP
  have hD : va_D A [(q, .inr (1, [.int oy, .int oea, .int olo, .int jo, .int ta, .ref q5, .ref q6, .ref q7, .ref q8])), (q5, .inl (cI, 6, .inl sp)), (q6, .inl (cI, 6, .inl en)), (q7, .inl (cI, 6, .inl tY)), (q8, .inl (cI, 6, .inl tW)), (z, .inr (1, [.int oy, .int oea, .int olo, .int ojo, .int ota, .ref z5, .ref z6, .ref z7, .ref z8])), (z5, .inl (cI, 6, .inl osp)), (z6, .inl (cI, 6, .inl oen)), (z7, .inl (cI, 6, .inl otY)), (z8, .inl (cI, 6, .inl otW))] := hD
  refine lv_aload_n hx hb dX1_copyFrom_29 rfl (lv_at hl 0 rfl) ?_
  refine lv_aload_n hx hb dX1_copyFrom_30 rfl (lv_at hl 1 rfl) ?_
  refine va_get (D := D) (ci := 1) (v := .int ojo) (C := RX1) (T := TX1) (N := 9) hx hb hts (fun w h => List.mem_cons_of_mem _ (List.mem_append_right _ h)) hown hK hP 5 rfl rfl 3 (by decide) (hts (Cond.fieldLink RX1 21 "JamDays$Days" "joy" "I") (List.mem_of_getElem? (i := 4) rfl)) (fun _ h9 => h9) rfl dX1_copyFrom_31 ?_
  refine va_put (D := D) (ci := 1) (v := .int ojo) (ty := .int) (C := RX1) (T := TX1) (N := 9) hx hb hts (fun w h => List.mem_cons_of_mem _ (List.mem_append_right _ h)) tyX1 tyX1_ok nmX1 hown hK hP hD hS 0 rfl rfl 3 (by decide) (hts (Cond.fieldLink RX1 21 "JamDays$Days" "joy" "I") (List.mem_of_getElem? (i := 4) rfl)) (fun _ h9 => h9) rfl (by decide +kernel) rfl rfl (Nat.le_of_ble_eq_true rfl) dX1_copyFrom_34 (fun H locs hP hD hS => ?_)
  have hP : va_P D vwCl [(q, .inr (1, [.int oy, .int oea, .int olo, .int ojo, .int ta, .ref q5, .ref q6, .ref q7, .ref q8])), (q5, .inl (cI, 6, .inl sp)), (q6, .inl (cI, 6, .inl en)), (q7, .inl (cI, 6, .inl tY)), (q8, .inl (cI, 6, .inl tW)), (z, .inr (1, [.int oy, .int oea, .int olo, .int ojo, .int ota, .ref z5, .ref z6, .ref z7, .ref z8])), (z5, .inl (cI, 6, .inl osp)), (z6, .inl (cI, 6, .inl oen)), (z7, .inl (cI, 6, .inl otY)), (z8, .inl (cI, 6, .inl otW))] H := hP
  have hD : va_D A [(q, .inr (1, [.int oy, .int oea, .int olo, .int ojo, .int ta, .ref q5, .ref q6, .ref q7, .ref q8])), (q5, .inl (cI, 6, .inl sp)), (q6, .inl (cI, 6, .inl en)), (q7, .inl (cI, 6, .inl tY)), (q8, .inl (cI, 6, .inl tW)), (z, .inr (1, [.int oy, .int oea, .int olo, .int ojo, .int ota, .ref z5, .ref z6, .ref z7, .ref z8])), (z5, .inl (cI, 6, .inl osp)), (z6, .inl (cI, 6, .inl oen)), (z7, .inl (cI, 6, .inl otY)), (z8, .inl (cI, 6, .inl otW))] := hD
  refine lv_aload_n hx hb dX1_copyFrom_37 rfl (lv_at hl 0 rfl) ?_
  refine lv_aload_n hx hb dX1_copyFrom_38 rfl (lv_at hl 1 rfl) ?_
  refine va_get (D := D) (ci := 1) (v := .int ota) (C := RX1) (T := TX1) (N := 9) hx hb hts (fun w h => List.mem_cons_of_mem _ (List.mem_append_right _ h)) hown hK hP 5 rfl rfl 4 (by decide) (hts (Cond.fieldLink RX1 24 "JamDays$Days" "tasted" "I") (List.mem_of_getElem? (i := 5) rfl)) (fun _ h9 => h9) rfl dX1_copyFrom_39 ?_
  refine va_put (D := D) (ci := 1) (v := .int ota) (ty := .int) (C := RX1) (T := TX1) (N := 9) hx hb hts (fun w h => List.mem_cons_of_mem _ (List.mem_append_right _ h)) tyX1 tyX1_ok nmX1 hown hK hP hD hS 0 rfl rfl 4 (by decide) (hts (Cond.fieldLink RX1 24 "JamDays$Days" "tasted" "I") (List.mem_of_getElem? (i := 5) rfl)) (fun _ h9 => h9) rfl (by decide +kernel) rfl rfl (Nat.le_of_ble_eq_true rfl) dX1_copyFrom_42 (fun H locs hP hD hS => ?_)
  have hP : va_P D vwCl [(q, .inr (1, [.int oy, .int oea, .int olo, .int ojo, .int ota, .ref q5, .ref q6, .ref q7, .ref q8])), (q5, .inl (cI, 6, .inl sp)), (q6, .inl (cI, 6, .inl en)), (q7, .inl (cI, 6, .inl tY)), (q8, .inl (cI, 6, .inl tW)), (z, .inr (1, [.int oy, .int oea, .int olo, .int ojo, .int ota, .ref z5, .ref z6, .ref z7, .ref z8])), (z5, .inl (cI, 6, .inl osp)), (z6, .inl (cI, 6, .inl oen)), (z7, .inl (cI, 6, .inl otY)), (z8, .inl (cI, 6, .inl otW))] H := hP
  have hD : va_D A [(q, .inr (1, [.int oy, .int oea, .int olo, .int ojo, .int ota, .ref q5, .ref q6, .ref q7, .ref q8])), (q5, .inl (cI, 6, .inl sp)), (q6, .inl (cI, 6, .inl en)), (q7, .inl (cI, 6, .inl tY)), (q8, .inl (cI, 6, .inl tW)), (z, .inr (1, [.int oy, .int oea, .int olo, .int ojo, .int ota, .ref z5, .ref z6, .ref z7, .ref z8])), (z5, .inl (cI, 6, .inl osp)), (z6, .inl (cI, 6, .inl oen)), (z7, .inl (cI, 6, .inl otY)), (z8, .inl (cI, 6, .inl otW))] := hD
  refine lv_iconst (v := 0) hx hb dX1_copyFrom_45 (by decide) ?_
  refine lv_istore_n (lv' := [(2, .int 0), (0, .ref q), (1, .ref z)]) hx hb dX1_copyFrom_46 rfl hl (by decide) rfl (fun ls hl => ?_)
  have hP : va_P D vwCl [(q, .inr (1, [.int oy, .int oea, .int olo, .int ojo, .int ota, .ref q5, .ref q6, .ref q7, .ref q8])), (q5, .inl (cI, 6, .inl (jfl osp sp 0))), (q6, .inl (cI, 6, .inl (jfl oen en 0))), (q7, .inl (cI, 6, .inl tY)), (q8, .inl (cI, 6, .inl tW)), (z, .inr (1, [.int oy, .int oea, .int olo, .int ojo, .int ota, .ref z5, .ref z6, .ref z7, .ref z8])), (z5, .inl (cI, 6, .inl osp)), (z6, .inl (cI, 6, .inl oen)), (z7, .inl (cI, 6, .inl otY)), (z8, .inl (cI, 6, .inl otW))] H := by rw [jfl_0, jfl_0]; exact hP
  have hD : va_D A [(q, .inr (1, [.int oy, .int oea, .int olo, .int ojo, .int ota, .ref q5, .ref q6, .ref q7, .ref q8])), (q5, .inl (cI, 6, .inl (jfl osp sp 0))), (q6, .inl (cI, 6, .inl (jfl oen en 0))), (q7, .inl (cI, 6, .inl tY)), (q8, .inl (cI, 6, .inl tW)), (z, .inr (1, [.int oy, .int oea, .int olo, .int ojo, .int ota, .ref z5, .ref z6, .ref z7, .ref z8])), (z5, .inl (cI, 6, .inl osp)), (z6, .inl (cI, 6, .inl oen)), (z7, .inl (cI, 6, .inl otY)), (z8, .inl (cI, 6, .inl otW))] := jD_of hD rfl
  refine jloop (α := Nat) (fun (k : Nat) (H : Heap) (locs : List Loc) (ls : Array Slot) => (va_P D vwCl [(q, .inr (1, [.int oy, .int oea, .int olo, .int ojo, .int ota, .ref q5, .ref q6, .ref q7, .ref q8])), (q5, .inl (cI, 6, .inl (jfl osp sp k))), (q6, .inl (cI, 6, .inl (jfl oen en k))), (q7, .inl (cI, 6, .inl tY)), (q8, .inl (cI, 6, .inl tW)), (z, .inr (1, [.int oy, .int oea, .int olo, .int ojo, .int ota, .ref z5, .ref z6, .ref z7, .ref z8])), (z5, .inl (cI, 6, .inl osp)), (z6, .inl (cI, 6, .inl oen)), (z7, .inl (cI, 6, .inl otY)), (z8, .inl (cI, 6, .inl otW))] H) ∧ (va_D A [(q, .inr (1, [.int oy, .int oea, .int olo, .int ojo, .int ota, .ref q5, .ref q6, .ref q7, .ref q8])), (q5, .inl (cI, 6, .inl (jfl osp sp k))), (q6, .inl (cI, 6, .inl (jfl oen en k))), (q7, .inl (cI, 6, .inl tY)), (q8, .inl (cI, 6, .inl tW)), (z, .inr (1, [.int oy, .int oea, .int olo, .int ojo, .int ota, .ref z5, .ref z6, .ref z7, .ref z8])), (z5, .inl (cI, 6, .inl osp)), (z6, .inl (cI, 6, .inl oen)), (z7, .inl (cI, 6, .inl otY)), (z8, .inl (cI, 6, .inl otW))]) ∧ (va_S A s.heap H locs) ∧ (lv_has ls 3 [(0, .ref q), (1, .ref z), (2, .int (nI k))]) ∧ (k ≤ 6)) (fun (k : Nat) => 6 - k) (fun k H locs ls hx9 ih_47 => ?_) 0 _ _ _ ⟨hP, hD, hS, lv_sub hl [1, 2, 0] rfl, (by omega)⟩
  obtain ⟨hP, hD, hS, hl, hk9⟩ := hx9
  refine lv_iload_n hx hb dX1_copyFrom_47 rfl (lv_at hl 2 rfl) ?_
  refine lv_bipush (v := 6) hx hb dX1_copyFrom_48 (by decide) ?_
  refine lv_icmp_ge (tgt := 83) hx hb dX1_copyFrom_50 (by decide) (fun c_1 => ?_) (fun c_1 => ?_)
  · skip
    replace c_1 : 6 ≤ k := (nI_leI (a := 6) (b := k) (by omega) (by omega)).mp c_1
    obtain rfl : k = 6 := by omega
    refine lv_iconst (v := 0) hx hb dX1_copyFrom_83 (by decide) ?_
    refine lv_istore_n (lv' := [(2, .int 0), (0, .ref q), (1, .ref z)]) hx hb dX1_copyFrom_84 rfl hl (by decide) rfl (fun ls hl => ?_)
    have hP : va_P D vwCl [(q, .inr (1, [.int oy, .int oea, .int olo, .int ojo, .int ota, .ref q5, .ref q6, .ref q7, .ref q8])), (q5, .inl (cI, 6, .inl (jfl osp sp 6))), (q6, .inl (cI, 6, .inl (jfl oen en 6))), (q7, .inl (cI, 6, .inl (jfl otY tY 0))), (q8, .inl (cI, 6, .inl (jfl otW tW 0))), (z, .inr (1, [.int oy, .int oea, .int olo, .int ojo, .int ota, .ref z5, .ref z6, .ref z7, .ref z8])), (z5, .inl (cI, 6, .inl osp)), (z6, .inl (cI, 6, .inl oen)), (z7, .inl (cI, 6, .inl otY)), (z8, .inl (cI, 6, .inl otW))] H := by rw [jfl_0, jfl_0]; exact hP
    have hD : va_D A [(q, .inr (1, [.int oy, .int oea, .int olo, .int ojo, .int ota, .ref q5, .ref q6, .ref q7, .ref q8])), (q5, .inl (cI, 6, .inl (jfl osp sp 6))), (q6, .inl (cI, 6, .inl (jfl oen en 6))), (q7, .inl (cI, 6, .inl (jfl otY tY 0))), (q8, .inl (cI, 6, .inl (jfl otW tW 0))), (z, .inr (1, [.int oy, .int oea, .int olo, .int ojo, .int ota, .ref z5, .ref z6, .ref z7, .ref z8])), (z5, .inl (cI, 6, .inl osp)), (z6, .inl (cI, 6, .inl oen)), (z7, .inl (cI, 6, .inl otY)), (z8, .inl (cI, 6, .inl otW))] := jD_of hD rfl
    refine jloop (α := Nat) (fun (k : Nat) (H : Heap) (locs : List Loc) (ls : Array Slot) => (va_P D vwCl [(q, .inr (1, [.int oy, .int oea, .int olo, .int ojo, .int ota, .ref q5, .ref q6, .ref q7, .ref q8])), (q5, .inl (cI, 6, .inl (jfl osp sp 6))), (q6, .inl (cI, 6, .inl (jfl oen en 6))), (q7, .inl (cI, 6, .inl (jfl otY tY k))), (q8, .inl (cI, 6, .inl (jfl otW tW k))), (z, .inr (1, [.int oy, .int oea, .int olo, .int ojo, .int ota, .ref z5, .ref z6, .ref z7, .ref z8])), (z5, .inl (cI, 6, .inl osp)), (z6, .inl (cI, 6, .inl oen)), (z7, .inl (cI, 6, .inl otY)), (z8, .inl (cI, 6, .inl otW))] H) ∧ (va_D A [(q, .inr (1, [.int oy, .int oea, .int olo, .int ojo, .int ota, .ref q5, .ref q6, .ref q7, .ref q8])), (q5, .inl (cI, 6, .inl (jfl osp sp 6))), (q6, .inl (cI, 6, .inl (jfl oen en 6))), (q7, .inl (cI, 6, .inl (jfl otY tY k))), (q8, .inl (cI, 6, .inl (jfl otW tW k))), (z, .inr (1, [.int oy, .int oea, .int olo, .int ojo, .int ota, .ref z5, .ref z6, .ref z7, .ref z8])), (z5, .inl (cI, 6, .inl osp)), (z6, .inl (cI, 6, .inl oen)), (z7, .inl (cI, 6, .inl otY)), (z8, .inl (cI, 6, .inl otW))]) ∧ (va_S A s.heap H locs) ∧ (lv_has ls 3 [(0, .ref q), (1, .ref z), (2, .int (nI k))]) ∧ (k ≤ 6)) (fun (k : Nat) => 6 - k) (fun k H locs ls hx9 ih_85 => ?_) 0 _ _ _ ⟨hP, hD, hS, lv_sub hl [1, 2, 0] rfl, (by omega)⟩
    obtain ⟨hP, hD, hS, hl, hk9⟩ := hx9
    refine lv_iload_n hx hb dX1_copyFrom_85 rfl (lv_at hl 2 rfl) ?_
    refine lv_bipush (v := 6) hx hb dX1_copyFrom_86 (by decide) ?_
    refine lv_icmp_ge (tgt := 121) hx hb dX1_copyFrom_88 (by decide) (fun c_2 => ?_) (fun c_2 => ?_)
    · skip
      replace c_2 : 6 ≤ k := (nI_leI (a := 6) (b := k) (by omega) (by omega)).mp c_2
      exact W.vret hx hb hr (fun t ht hW => ⟨⟨(), rfl, trivial, by dsimp only; rw [ht]; exact (by rw [show k = 6 by omega] at hP; exact hP)⟩, hS.F ht⟩) hS.2.2 dX1_copyFrom_121
    · skip
      replace c_2 : ¬ 6 ≤ k := fun h => c_2 ((nI_leI (a := 6) (b := k) (by omega) (by omega)).mpr h)
      refine lv_aload_n hx hb dX1_copyFrom_91 rfl (lv_at hl 0 rfl) ?_
      refine va_get (D := D) (ci := 1) (v := .ref q7) (C := RX1) (T := TX1) (N := 9) hx hb hts (fun w h => List.mem_cons_of_mem _ (List.mem_append_right _ h)) hown hK hP 0 rfl rfl 7 (by decide) (hts (Cond.fieldLink RX1 34 "JamDays$Days" "tastedYear" "[I") (List.mem_of_getElem? (i := 8) rfl)) (fun _ h9 => h9) rfl dX1_copyFrom_92 ?_
      refine lv_iload_n hx hb dX1_copyFrom_95 rfl (lv_at hl 2 rfl) ?_
      refine lv_aload_n hx hb dX1_copyFrom_96 rfl (lv_at hl 1 rfl) ?_
      refine va_get (D := D) (ci := 1) (v := .ref z7) (C := RX1) (T := TX1) (N := 9) hx hb hts (fun w h => List.mem_cons_of_mem _ (List.mem_append_right _ h)) hown hK hP 5 rfl rfl 7 (by decide) (hts (Cond.fieldLink RX1 34 "JamDays$Days" "tastedYear" "[I") (List.mem_of_getElem? (i := 8) rfl)) (fun _ h9 => h9) rfl dX1_copyFrom_97 ?_
      refine lv_iload_n hx hb dX1_copyFrom_100 rfl (lv_at hl 2 rfl) ?_
      refine jv_ald (k := k) hx hb hK hP 8 0 rfl rfl (by omega) (by decide) dX1_copyFrom_101 ?_
      refine jv_ast (k := k) (x := otY k) hx hb hK hP hD hS 3 0 rfl rfl (by omega) (by decide) dX1_copyFrom_102 (fun H locs hP hD hS => ?_)
      have hP : va_P D vwCl [(q, .inr (1, [.int oy, .int oea, .int olo, .int ojo, .int ota, .ref q5, .ref q6, .ref q7, .ref q8])), (q5, .inl (cI, 6, .inl (jfl osp sp 6))), (q6, .inl (cI, 6, .inl (jfl oen en 6))), (q7, .inl (cI, 6, .inl (upd (jfl otY tY k) k (otY k)))), (q8, .inl (cI, 6, .inl (jfl otW tW k))), (z, .inr (1, [.int oy, .int oea, .int olo, .int ojo, .int ota, .ref z5, .ref z6, .ref z7, .ref z8])), (z5, .inl (cI, 6, .inl osp)), (z6, .inl (cI, 6, .inl oen)), (z7, .inl (cI, 6, .inl otY)), (z8, .inl (cI, 6, .inl otW))] H := hP
      have hD : va_D A [(q, .inr (1, [.int oy, .int oea, .int olo, .int ojo, .int ota, .ref q5, .ref q6, .ref q7, .ref q8])), (q5, .inl (cI, 6, .inl (jfl osp sp 6))), (q6, .inl (cI, 6, .inl (jfl oen en 6))), (q7, .inl (cI, 6, .inl (upd (jfl otY tY k) k (otY k)))), (q8, .inl (cI, 6, .inl (jfl otW tW k))), (z, .inr (1, [.int oy, .int oea, .int olo, .int ojo, .int ota, .ref z5, .ref z6, .ref z7, .ref z8])), (z5, .inl (cI, 6, .inl osp)), (z6, .inl (cI, 6, .inl oen)), (z7, .inl (cI, 6, .inl otY)), (z8, .inl (cI, 6, .inl otW))] := hD
      refine lv_aload_n hx hb dX1_copyFrom_103 rfl (lv_at hl 0 rfl) ?_
      refine va_get (D := D) (ci := 1) (v := .ref q8) (C := RX1) (T := TX1) (N := 9) hx hb hts (fun w h => List.mem_cons_of_mem _ (List.mem_append_right _ h)) hown hK hP 0 rfl rfl 8 (by decide) (hts (Cond.fieldLink RX1 37 "JamDays$Days" "tastedWorth" "[I") (List.mem_of_getElem? (i := 9) rfl)) (fun _ h9 => h9) rfl dX1_copyFrom_104 ?_
      refine lv_iload_n hx hb dX1_copyFrom_107 rfl (lv_at hl 2 rfl) ?_
      refine lv_aload_n hx hb dX1_copyFrom_108 rfl (lv_at hl 1 rfl) ?_
      refine va_get (D := D) (ci := 1) (v := .ref z8) (C := RX1) (T := TX1) (N := 9) hx hb hts (fun w h => List.mem_cons_of_mem _ (List.mem_append_right _ h)) hown hK hP 5 rfl rfl 8 (by decide) (hts (Cond.fieldLink RX1 37 "JamDays$Days" "tastedWorth" "[I") (List.mem_of_getElem? (i := 9) rfl)) (fun _ h9 => h9) rfl dX1_copyFrom_109 ?_
      refine lv_iload_n hx hb dX1_copyFrom_112 rfl (lv_at hl 2 rfl) ?_
      refine jv_ald (k := k) hx hb hK hP 9 0 rfl rfl (by omega) (by decide) dX1_copyFrom_113 ?_
      refine jv_ast (k := k) (x := otW k) hx hb hK hP hD hS 4 0 rfl rfl (by omega) (by decide) dX1_copyFrom_114 (fun H locs hP hD hS => ?_)
      have hP : va_P D vwCl [(q, .inr (1, [.int oy, .int oea, .int olo, .int ojo, .int ota, .ref q5, .ref q6, .ref q7, .ref q8])), (q5, .inl (cI, 6, .inl (jfl osp sp 6))), (q6, .inl (cI, 6, .inl (jfl oen en 6))), (q7, .inl (cI, 6, .inl (upd (jfl otY tY k) k (otY k)))), (q8, .inl (cI, 6, .inl (upd (jfl otW tW k) k (otW k)))), (z, .inr (1, [.int oy, .int oea, .int olo, .int ojo, .int ota, .ref z5, .ref z6, .ref z7, .ref z8])), (z5, .inl (cI, 6, .inl osp)), (z6, .inl (cI, 6, .inl oen)), (z7, .inl (cI, 6, .inl otY)), (z8, .inl (cI, 6, .inl otW))] H := hP
      have hD : va_D A [(q, .inr (1, [.int oy, .int oea, .int olo, .int ojo, .int ota, .ref q5, .ref q6, .ref q7, .ref q8])), (q5, .inl (cI, 6, .inl (jfl osp sp 6))), (q6, .inl (cI, 6, .inl (jfl oen en 6))), (q7, .inl (cI, 6, .inl (upd (jfl otY tY k) k (otY k)))), (q8, .inl (cI, 6, .inl (upd (jfl otW tW k) k (otW k)))), (z, .inr (1, [.int oy, .int oea, .int olo, .int ojo, .int ota, .ref z5, .ref z6, .ref z7, .ref z8])), (z5, .inl (cI, 6, .inl osp)), (z6, .inl (cI, 6, .inl oen)), (z7, .inl (cI, 6, .inl otY)), (z8, .inl (cI, 6, .inl otW))] := hD
      refine lv_iinc (v := nI (k + 1)) (lv' := [(2, .int (nI (k + 1))), (0, .ref q), (1, .ref z)]) hx hb dX1_copyFrom_115 hl (k := 2) rfl ((rfl : nI k + Int32.ofInt 1 = nI k + nI 1).trans (nI_add k 1)) (by decide) rfl (fun ls hl => ?_)
      refine lv_goto (tgt := 85) hx hb dX1_copyFrom_118 (by decide) ?_
      have hP : va_P D vwCl [(q, .inr (1, [.int oy, .int oea, .int olo, .int ojo, .int ota, .ref q5, .ref q6, .ref q7, .ref q8])), (q5, .inl (cI, 6, .inl (jfl osp sp 6))), (q6, .inl (cI, 6, .inl (jfl oen en 6))), (q7, .inl (cI, 6, .inl (jfl otY tY (k + 1)))), (q8, .inl (cI, 6, .inl (jfl otW tW (k + 1)))), (z, .inr (1, [.int oy, .int oea, .int olo, .int ojo, .int ota, .ref z5, .ref z6, .ref z7, .ref z8])), (z5, .inl (cI, 6, .inl osp)), (z6, .inl (cI, 6, .inl oen)), (z7, .inl (cI, 6, .inl otY)), (z8, .inl (cI, 6, .inl otW))] H := by rw [jfl_s (x := (otY k)) rfl, jfl_s (x := (otW k)) rfl]; exact hP
      have hD : va_D A [(q, .inr (1, [.int oy, .int oea, .int olo, .int ojo, .int ota, .ref q5, .ref q6, .ref q7, .ref q8])), (q5, .inl (cI, 6, .inl (jfl osp sp 6))), (q6, .inl (cI, 6, .inl (jfl oen en 6))), (q7, .inl (cI, 6, .inl (jfl otY tY (k + 1)))), (q8, .inl (cI, 6, .inl (jfl otW tW (k + 1)))), (z, .inr (1, [.int oy, .int oea, .int olo, .int ojo, .int ota, .ref z5, .ref z6, .ref z7, .ref z8])), (z5, .inl (cI, 6, .inl osp)), (z6, .inl (cI, 6, .inl oen)), (z7, .inl (cI, 6, .inl otY)), (z8, .inl (cI, 6, .inl otW))] := jD_of hD rfl
      exact ih_85 (k + 1) _ _ _ ⟨hP, hD, hS, lv_sub hl [1, 2, 0] rfl, (by omega)⟩ (by omega)
  · skip
    replace c_1 : ¬ 6 ≤ k := fun h => c_1 ((nI_leI (a := 6) (b := k) (by omega) (by omega)).mpr h)
    refine lv_aload_n hx hb dX1_copyFrom_53 rfl (lv_at hl 0 rfl) ?_
    refine va_get (D := D) (ci := 1) (v := .ref q5) (C := RX1) (T := TX1) (N := 9) hx hb hts (fun w h => List.mem_cons_of_mem _ (List.mem_append_right _ h)) hown hK hP 0 rfl rfl 5 (by decide) (hts (Cond.fieldLink RX1 27 "JamDays$Days" "spoons" "[I") (List.mem_of_getElem? (i := 6) rfl)) (fun _ h9 => h9) rfl dX1_copyFrom_54 ?_
    refine lv_iload_n hx hb dX1_copyFrom_57 rfl (lv_at hl 2 rfl) ?_
    refine lv_aload_n hx hb dX1_copyFrom_58 rfl (lv_at hl 1 rfl) ?_
    refine va_get (D := D) (ci := 1) (v := .ref z5) (C := RX1) (T := TX1) (N := 9) hx hb hts (fun w h => List.mem_cons_of_mem _ (List.mem_append_right _ h)) hown hK hP 5 rfl rfl 5 (by decide) (hts (Cond.fieldLink RX1 27 "JamDays$Days" "spoons" "[I") (List.mem_of_getElem? (i := 6) rfl)) (fun _ h9 => h9) rfl dX1_copyFrom_59 ?_
    refine lv_iload_n hx hb dX1_copyFrom_62 rfl (lv_at hl 2 rfl) ?_
    refine jv_ald (k := k) hx hb hK hP 6 0 rfl rfl (by omega) (by decide) dX1_copyFrom_63 ?_
    refine jv_ast (k := k) (x := osp k) hx hb hK hP hD hS 1 0 rfl rfl (by omega) (by decide) dX1_copyFrom_64 (fun H locs hP hD hS => ?_)
    have hP : va_P D vwCl [(q, .inr (1, [.int oy, .int oea, .int olo, .int ojo, .int ota, .ref q5, .ref q6, .ref q7, .ref q8])), (q5, .inl (cI, 6, .inl (upd (jfl osp sp k) k (osp k)))), (q6, .inl (cI, 6, .inl (jfl oen en k))), (q7, .inl (cI, 6, .inl tY)), (q8, .inl (cI, 6, .inl tW)), (z, .inr (1, [.int oy, .int oea, .int olo, .int ojo, .int ota, .ref z5, .ref z6, .ref z7, .ref z8])), (z5, .inl (cI, 6, .inl osp)), (z6, .inl (cI, 6, .inl oen)), (z7, .inl (cI, 6, .inl otY)), (z8, .inl (cI, 6, .inl otW))] H := hP
    have hD : va_D A [(q, .inr (1, [.int oy, .int oea, .int olo, .int ojo, .int ota, .ref q5, .ref q6, .ref q7, .ref q8])), (q5, .inl (cI, 6, .inl (upd (jfl osp sp k) k (osp k)))), (q6, .inl (cI, 6, .inl (jfl oen en k))), (q7, .inl (cI, 6, .inl tY)), (q8, .inl (cI, 6, .inl tW)), (z, .inr (1, [.int oy, .int oea, .int olo, .int ojo, .int ota, .ref z5, .ref z6, .ref z7, .ref z8])), (z5, .inl (cI, 6, .inl osp)), (z6, .inl (cI, 6, .inl oen)), (z7, .inl (cI, 6, .inl otY)), (z8, .inl (cI, 6, .inl otW))] := hD
    refine lv_aload_n hx hb dX1_copyFrom_65 rfl (lv_at hl 0 rfl) ?_
    refine va_get (D := D) (ci := 1) (v := .ref q6) (C := RX1) (T := TX1) (N := 9) hx hb hts (fun w h => List.mem_cons_of_mem _ (List.mem_append_right _ h)) hown hK hP 0 rfl rfl 6 (by decide) (hts (Cond.fieldLink RX1 31 "JamDays$Days" "eatenNow" "[I") (List.mem_of_getElem? (i := 7) rfl)) (fun _ h9 => h9) rfl dX1_copyFrom_66 ?_
    refine lv_iload_n hx hb dX1_copyFrom_69 rfl (lv_at hl 2 rfl) ?_
    refine lv_aload_n hx hb dX1_copyFrom_70 rfl (lv_at hl 1 rfl) ?_
    refine va_get (D := D) (ci := 1) (v := .ref z6) (C := RX1) (T := TX1) (N := 9) hx hb hts (fun w h => List.mem_cons_of_mem _ (List.mem_append_right _ h)) hown hK hP 5 rfl rfl 6 (by decide) (hts (Cond.fieldLink RX1 31 "JamDays$Days" "eatenNow" "[I") (List.mem_of_getElem? (i := 7) rfl)) (fun _ h9 => h9) rfl dX1_copyFrom_71 ?_
    refine lv_iload_n hx hb dX1_copyFrom_74 rfl (lv_at hl 2 rfl) ?_
    refine jv_ald (k := k) hx hb hK hP 7 0 rfl rfl (by omega) (by decide) dX1_copyFrom_75 ?_
    refine jv_ast (k := k) (x := oen k) hx hb hK hP hD hS 2 0 rfl rfl (by omega) (by decide) dX1_copyFrom_76 (fun H locs hP hD hS => ?_)
    have hP : va_P D vwCl [(q, .inr (1, [.int oy, .int oea, .int olo, .int ojo, .int ota, .ref q5, .ref q6, .ref q7, .ref q8])), (q5, .inl (cI, 6, .inl (upd (jfl osp sp k) k (osp k)))), (q6, .inl (cI, 6, .inl (upd (jfl oen en k) k (oen k)))), (q7, .inl (cI, 6, .inl tY)), (q8, .inl (cI, 6, .inl tW)), (z, .inr (1, [.int oy, .int oea, .int olo, .int ojo, .int ota, .ref z5, .ref z6, .ref z7, .ref z8])), (z5, .inl (cI, 6, .inl osp)), (z6, .inl (cI, 6, .inl oen)), (z7, .inl (cI, 6, .inl otY)), (z8, .inl (cI, 6, .inl otW))] H := hP
    have hD : va_D A [(q, .inr (1, [.int oy, .int oea, .int olo, .int ojo, .int ota, .ref q5, .ref q6, .ref q7, .ref q8])), (q5, .inl (cI, 6, .inl (upd (jfl osp sp k) k (osp k)))), (q6, .inl (cI, 6, .inl (upd (jfl oen en k) k (oen k)))), (q7, .inl (cI, 6, .inl tY)), (q8, .inl (cI, 6, .inl tW)), (z, .inr (1, [.int oy, .int oea, .int olo, .int ojo, .int ota, .ref z5, .ref z6, .ref z7, .ref z8])), (z5, .inl (cI, 6, .inl osp)), (z6, .inl (cI, 6, .inl oen)), (z7, .inl (cI, 6, .inl otY)), (z8, .inl (cI, 6, .inl otW))] := hD
    refine lv_iinc (v := nI (k + 1)) (lv' := [(2, .int (nI (k + 1))), (0, .ref q), (1, .ref z)]) hx hb dX1_copyFrom_77 hl (k := 2) rfl ((rfl : nI k + Int32.ofInt 1 = nI k + nI 1).trans (nI_add k 1)) (by decide) rfl (fun ls hl => ?_)
    refine lv_goto (tgt := 47) hx hb dX1_copyFrom_80 (by decide) ?_
    have hP : va_P D vwCl [(q, .inr (1, [.int oy, .int oea, .int olo, .int ojo, .int ota, .ref q5, .ref q6, .ref q7, .ref q8])), (q5, .inl (cI, 6, .inl (jfl osp sp (k + 1)))), (q6, .inl (cI, 6, .inl (jfl oen en (k + 1)))), (q7, .inl (cI, 6, .inl tY)), (q8, .inl (cI, 6, .inl tW)), (z, .inr (1, [.int oy, .int oea, .int olo, .int ojo, .int ota, .ref z5, .ref z6, .ref z7, .ref z8])), (z5, .inl (cI, 6, .inl osp)), (z6, .inl (cI, 6, .inl oen)), (z7, .inl (cI, 6, .inl otY)), (z8, .inl (cI, 6, .inl otW))] H := by rw [jfl_s (x := (osp k)) rfl, jfl_s (x := (oen k)) rfl]; exact hP
    have hD : va_D A [(q, .inr (1, [.int oy, .int oea, .int olo, .int ojo, .int ota, .ref q5, .ref q6, .ref q7, .ref q8])), (q5, .inl (cI, 6, .inl (jfl osp sp (k + 1)))), (q6, .inl (cI, 6, .inl (jfl oen en (k + 1)))), (q7, .inl (cI, 6, .inl tY)), (q8, .inl (cI, 6, .inl tW)), (z, .inr (1, [.int oy, .int oea, .int olo, .int ojo, .int ota, .ref z5, .ref z6, .ref z7, .ref z8])), (z5, .inl (cI, 6, .inl osp)), (z6, .inl (cI, 6, .inl oen)), (z7, .inl (cI, 6, .inl otY)), (z8, .inl (cI, 6, .inl otW))] := jD_of hD rfl
    exact ih_47 (k + 1) _ _ _ ⟨hP, hD, hS, lv_sub hl [1, 2, 0] rfl, (by omega)⟩ (by omega)

set_option maxHeartbeats 4000000 in
set_option maxRecDepth 100000 in
theorem c_eatSpoon (l : Launch) (D : va_G) (cI cJ : ClassId) (q : Nat) (q5 : Nat) (q6 : Nat) (q7 : Nat) (q8 : Nat) (y : Int32) (ea : Int32) (lo : Int32) (jo : Int32) (ta : Int32) (sp : Nat → Int32) (en : Nat → Int32) (tY : Nat → Int32) (tW : Nat → Int32) (j : Nat) (g : Int32) (hj : j < 6) : jWi l yX1_eatSpoon wsX1_eatSpoon ({ frames := 1, cells := 0, slots := 0, locals := 21 }) 0 0 [.ref q, .int (nI j), .int g] D cI cJ [(q, .inr (1, [.int y, .int ea, .int lo, .int jo, .int ta, .ref q5, .ref q6, .ref q7, .ref q8])), (q5, .inl (cI, 6, .inl sp)), (q6, .inl (cI, 6, .inl en)), (q7, .inl (cI, 6, .inl tY)), (q8, .inl (cI, 6, .inl tW))] (fun H => True) (fun r H => r = (if 0 < sp j then 1 else 0) ∧ va_P D vwCl [(q, .inr (1, [.int y, .int (if 0 < sp j then ea + 1 else ea), .int lo, .int (if 0 < sp j then jo + g else jo), .int ta, .ref q5, .ref q6, .ref q7, .ref q8])), (q5, .inl (cI, 6, .inl (if 0 < sp j then upd sp j (sp j - 1) else sp))), (q6, .inl (cI, 6, .inl (if 0 < sp j then upd en j (en j + 1) else en))), (q7, .inl (cI, 6, .inl tY)), (q8, .inl (cI, 6, .inl tW))] H) := by
  intro sz
  refine Met.ofW (cc := cX1_eatSpoon) (maxL := 3) (ret := (some .boolean)) (by decide) rfl ?_
  intro p e s m args below meth c s₁ B hml hv
  obtain ⟨rfl, hsz, hT, hP, hD0, _⟩ := hv
  have hK := hT.1
  have hx := B.exec
  have hb := B.bytes
  have hr := B.returns
  have hts := atoms_spec (ws := wsX1_eatSpoon) B.pre
  have hown : s.vm.findClass RX1 = some m.cls := findClass_of_methodNamed B.named
  have hlocks := B.notSynchronized
  subst hsz
  have hD := hD0.self (sz := s.heap.size)
  generalize hAe : va_A [(q, .inr (1, [.int y, .int ea, .int lo, .int jo, .int ta, .ref q5, .ref q6, .ref q7, .ref q8])), (q5, .inl (cI, 6, .inl sp)), (q6, .inl (cI, 6, .inl en)), (q7, .inl (cI, 6, .inl tY)), (q8, .inl (cI, 6, .inl tW))] s.heap.size = A at hD ⊢
  have hA : ∀ q : Nat, s.heap.size ≤ q → A q := fun q h => by rw [← hAe]; exact Or.inr h
  have hS : va_S A s.heap s.heap [] := va_S.rf
  have hl := lv_entry ([.ref q, .int (nI j), .int g] : List Value) (n := 3) (Nat.le_of_ble_eq_true rfl)
  rw [lg_entry_eq]
  generalize (lg_sl ([.ref q, .int (nI j), .int g]) ++ List.replicate (3 - (lg_sl ([.ref q, .int (nI j), .int g])).length) Slot.unset).toArray = ls at hl ⊢
  have hl : lv_has ls 3 [(0, .ref q), (1, .int (nI j)), (2, .int g)] := hl
  refine lv_aload_n hx hb dX1_eatSpoon_0 rfl (lv_at hl 0 rfl) ?_
  refine lv_iload_n hx hb dX1_eatSpoon_1 rfl (lv_at hl 1 rfl) ?_
  have hPc_1 := hP.sub (ws' := [(q, .inr (1, [.int y, .int ea, .int lo, .int jo, .int ta, .ref q5, .ref q6, .ref q7, .ref q8])), (q5, .inl (cI, 6, .inl sp))]) [0, 1] rfl
  refine jcalli (va_runV (As := [.int (nI j)]) (rest := []) ⟨hx, hb, hml, hown, hts⟩ (c_spoonsOf l D cI cJ q q5 (.int y) (.int ea) (.int lo) (.int jo) (.int ta) (.ref q6) (.ref q7) (.ref q8) sp j (by omega) s.heap.size) (cwV 1 hts gX1_eatSpoon_X1_spoonsOf rfl rfl rfl (by decide +kernel) ⟨Nat.le_of_ble_eq_true rfl, Nat.le_of_ble_eq_true rfl⟩) (jpreV hT (va_recv hK hP (ci := 1) (q0 := 0) rfl rfl) hPc_1) rfl rfl hl.1 rfl (lv_room (Nat.le_of_ble_eq_true rfl)) dX1_eatSpoon_2 ⟨(Nat.zero_le _), (Nat.zero_le _)⟩) hS hA (fun r_2 H locs hw_r_2 hkq hS => ?_)
  try dsimp only at hw_r_2
  have hP := jkeep hP hkq
  subst hw_r_2
  refine lv_if_gt (tgt := 10) hx hb dX1_eatSpoon_5 (by decide) (fun c_3 => ?_) (fun c_3 => ?_)
  · skip
    refine lv_aload_n hx hb dX1_eatSpoon_10 rfl (lv_at hl 0 rfl) ?_
    refine va_get (D := D) (ci := 1) (v := .ref q5) (C := RX1) (T := TX1) (N := 9) hx hb hts (fun w h => List.mem_cons_of_mem _ (List.mem_append_right _ h)) hown hK hP 0 rfl rfl 5 (by decide) (hts (Cond.fieldLink RX1 27 "JamDays$Days" "spoons" "[I") (List.mem_of_getElem? (i := 1) rfl)) (fun _ h9 => h9) rfl dX1_eatSpoon_11 ?_
    refine lv_iload_n hx hb dX1_eatSpoon_14 rfl (lv_at hl 1 rfl) ?_
    refine lv_dup2_11 hx hb dX1_eatSpoon_15 rfl rfl ?_
    refine jv_ald (k := j) hx hb hK hP 1 0 rfl rfl (by omega) (by decide) dX1_eatSpoon_16 ?_
    refine lv_iconst (v := 1) hx hb dX1_eatSpoon_17 (by decide) ?_
    refine lv_isub hx hb dX1_eatSpoon_18 ?_
    refine jv_ast (k := j) (x := (sp j) - 1) hx hb hK hP hD hS 1 0 rfl rfl (by omega) (by decide) dX1_eatSpoon_19 (fun H locs hP hD hS => ?_)
    have hP : va_P D vwCl [(q, .inr (1, [.int y, .int ea, .int lo, .int jo, .int ta, .ref q5, .ref q6, .ref q7, .ref q8])), (q5, .inl (cI, 6, .inl (upd sp j ((sp j) - 1)))), (q6, .inl (cI, 6, .inl en)), (q7, .inl (cI, 6, .inl tY)), (q8, .inl (cI, 6, .inl tW))] H := hP
    have hD : va_D A [(q, .inr (1, [.int y, .int ea, .int lo, .int jo, .int ta, .ref q5, .ref q6, .ref q7, .ref q8])), (q5, .inl (cI, 6, .inl (upd sp j ((sp j) - 1)))), (q6, .inl (cI, 6, .inl en)), (q7, .inl (cI, 6, .inl tY)), (q8, .inl (cI, 6, .inl tW))] := hD
    refine lv_aload_n hx hb dX1_eatSpoon_20 rfl (lv_at hl 0 rfl) ?_
    refine va_get (D := D) (ci := 1) (v := .ref q6) (C := RX1) (T := TX1) (N := 9) hx hb hts (fun w h => List.mem_cons_of_mem _ (List.mem_append_right _ h)) hown hK hP 0 rfl rfl 6 (by decide) (hts (Cond.fieldLink RX1 31 "JamDays$Days" "eatenNow" "[I") (List.mem_of_getElem? (i := 2) rfl)) (fun _ h9 => h9) rfl dX1_eatSpoon_21 ?_
    refine lv_iload_n hx hb dX1_eatSpoon_24 rfl (lv_at hl 1 rfl) ?_
    refine lv_dup2_11 hx hb dX1_eatSpoon_25 rfl rfl ?_
    refine jv_ald (k := j) hx hb hK hP 2 0 rfl rfl (by omega) (by decide) dX1_eatSpoon_26 ?_
    refine lv_iconst (v := 1) hx hb dX1_eatSpoon_27 (by decide) ?_
    refine lv_iadd hx hb dX1_eatSpoon_28 ?_
    refine jv_ast (k := j) (x := (en j) + 1) hx hb hK hP hD hS 2 0 rfl rfl (by omega) (by decide) dX1_eatSpoon_29 (fun H locs hP hD hS => ?_)
    have hP : va_P D vwCl [(q, .inr (1, [.int y, .int ea, .int lo, .int jo, .int ta, .ref q5, .ref q6, .ref q7, .ref q8])), (q5, .inl (cI, 6, .inl (upd sp j ((sp j) - 1)))), (q6, .inl (cI, 6, .inl (upd en j ((en j) + 1)))), (q7, .inl (cI, 6, .inl tY)), (q8, .inl (cI, 6, .inl tW))] H := hP
    have hD : va_D A [(q, .inr (1, [.int y, .int ea, .int lo, .int jo, .int ta, .ref q5, .ref q6, .ref q7, .ref q8])), (q5, .inl (cI, 6, .inl (upd sp j ((sp j) - 1)))), (q6, .inl (cI, 6, .inl (upd en j ((en j) + 1)))), (q7, .inl (cI, 6, .inl tY)), (q8, .inl (cI, 6, .inl tW))] := hD
    refine lv_aload_n hx hb dX1_eatSpoon_30 rfl (lv_at hl 0 rfl) ?_
    refine lv_dup hx hb dX1_eatSpoon_31 rfl ?_
    refine va_get (D := D) (ci := 1) (v := .int ea) (C := RX1) (T := TX1) (N := 9) hx hb hts (fun w h => List.mem_cons_of_mem _ (List.mem_append_right _ h)) hown hK hP 0 rfl rfl 1 (by decide) (hts (Cond.fieldLink RX1 15 "JamDays$Days" "eaten" "I") (List.mem_of_getElem? (i := 3) rfl)) (fun _ h9 => h9) rfl dX1_eatSpoon_32 ?_
    refine lv_iconst (v := 1) hx hb dX1_eatSpoon_35 (by decide) ?_
    refine lv_iadd hx hb dX1_eatSpoon_36 ?_
    refine va_put (D := D) (ci := 1) (v := .int (ea + 1)) (ty := .int) (C := RX1) (T := TX1) (N := 9) hx hb hts (fun w h => List.mem_cons_of_mem _ (List.mem_append_right _ h)) tyX1 tyX1_ok nmX1 hown hK hP hD hS 0 rfl rfl 1 (by decide) (hts (Cond.fieldLink RX1 15 "JamDays$Days" "eaten" "I") (List.mem_of_getElem? (i := 3) rfl)) (fun _ h9 => h9) rfl (by decide +kernel) rfl rfl (Nat.le_of_ble_eq_true rfl) dX1_eatSpoon_37 (fun H locs hP hD hS => ?_)
    have hP : va_P D vwCl [(q, .inr (1, [.int y, .int (ea + 1), .int lo, .int jo, .int ta, .ref q5, .ref q6, .ref q7, .ref q8])), (q5, .inl (cI, 6, .inl (upd sp j ((sp j) - 1)))), (q6, .inl (cI, 6, .inl (upd en j ((en j) + 1)))), (q7, .inl (cI, 6, .inl tY)), (q8, .inl (cI, 6, .inl tW))] H := hP
    have hD : va_D A [(q, .inr (1, [.int y, .int (ea + 1), .int lo, .int jo, .int ta, .ref q5, .ref q6, .ref q7, .ref q8])), (q5, .inl (cI, 6, .inl (upd sp j ((sp j) - 1)))), (q6, .inl (cI, 6, .inl (upd en j ((en j) + 1)))), (q7, .inl (cI, 6, .inl tY)), (q8, .inl (cI, 6, .inl tW))] := hD
    refine lv_aload_n hx hb dX1_eatSpoon_40 rfl (lv_at hl 0 rfl) ?_
    refine lv_dup hx hb dX1_eatSpoon_41 rfl ?_
    refine va_get (D := D) (ci := 1) (v := .int jo) (C := RX1) (T := TX1) (N := 9) hx hb hts (fun w h => List.mem_cons_of_mem _ (List.mem_append_right _ h)) hown hK hP 0 rfl rfl 3 (by decide) (hts (Cond.fieldLink RX1 21 "JamDays$Days" "joy" "I") (List.mem_of_getElem? (i := 4) rfl)) (fun _ h9 => h9) rfl dX1_eatSpoon_42 ?_
    refine lv_iload_n hx hb dX1_eatSpoon_45 rfl (lv_at hl 2 rfl) ?_
    refine lv_iadd hx hb dX1_eatSpoon_46 ?_
    refine va_put (D := D) (ci := 1) (v := .int (jo + g)) (ty := .int) (C := RX1) (T := TX1) (N := 9) hx hb hts (fun w h => List.mem_cons_of_mem _ (List.mem_append_right _ h)) tyX1 tyX1_ok nmX1 hown hK hP hD hS 0 rfl rfl 3 (by decide) (hts (Cond.fieldLink RX1 21 "JamDays$Days" "joy" "I") (List.mem_of_getElem? (i := 4) rfl)) (fun _ h9 => h9) rfl (by decide +kernel) rfl rfl (Nat.le_of_ble_eq_true rfl) dX1_eatSpoon_47 (fun H locs hP hD hS => ?_)
    have hP : va_P D vwCl [(q, .inr (1, [.int y, .int (ea + 1), .int lo, .int (jo + g), .int ta, .ref q5, .ref q6, .ref q7, .ref q8])), (q5, .inl (cI, 6, .inl (upd sp j ((sp j) - 1)))), (q6, .inl (cI, 6, .inl (upd en j ((en j) + 1)))), (q7, .inl (cI, 6, .inl tY)), (q8, .inl (cI, 6, .inl tW))] H := hP
    have hD : va_D A [(q, .inr (1, [.int y, .int (ea + 1), .int lo, .int (jo + g), .int ta, .ref q5, .ref q6, .ref q7, .ref q8])), (q5, .inl (cI, 6, .inl (upd sp j ((sp j) - 1)))), (q6, .inl (cI, 6, .inl (upd en j ((en j) + 1)))), (q7, .inl (cI, 6, .inl tY)), (q8, .inl (cI, 6, .inl tW))] := hD
    refine lv_iconst (v := 1) hx hb dX1_eatSpoon_50 (by decide) ?_
    exact W.zret (v := 1) hx hb hr (by decide) (fun t ht hW => ⟨⟨1, 1, rfl, rfl, by dsimp only; rw [ht]; exact (by simp only [if_pos c_3]; exact ⟨trivial, hP⟩)⟩, hS.F ht⟩) hS.2.2 dX1_eatSpoon_51
  · skip
    refine lv_iconst (v := 0) hx hb dX1_eatSpoon_8 (by decide) ?_
    exact W.zret (v := 0) hx hb hr (by decide) (fun t ht hW => ⟨⟨0, 0, rfl, rfl, by dsimp only; rw [ht]; exact (by simp only [if_neg c_3]; exact ⟨trivial, hP⟩)⟩, hS.F ht⟩) hS.2.2 dX1_eatSpoon_9

set_option maxHeartbeats 4000000 in
set_option maxRecDepth 100000 in
theorem c_loseSpoon (l : Launch) (D : va_G) (cI cJ : ClassId) (q : Nat) (q5 : Nat) (q6 : Nat) (q7 : Nat) (q8 : Nat) (y : Int32) (ea : Int32) (lo : Int32) (jo : Int32) (ta : Int32) (sp : Nat → Int32) (en : Nat → Int32) (tY : Nat → Int32) (tW : Nat → Int32) (j : Nat) (hj : j < 6) : jWi l yX1_loseSpoon wsX1_loseSpoon ({ frames := 1, cells := 0, slots := 0, locals := 21 }) 0 0 [.ref q, .int (nI j)] D cI cJ [(q, .inr (1, [.int y, .int ea, .int lo, .int jo, .int ta, .ref q5, .ref q6, .ref q7, .ref q8])), (q5, .inl (cI, 6, .inl sp)), (q6, .inl (cI, 6, .inl en)), (q7, .inl (cI, 6, .inl tY)), (q8, .inl (cI, 6, .inl tW))] (fun H => True) (fun r H => r = (if 0 < sp j then 1 else 0) ∧ va_P D vwCl [(q, .inr (1, [.int y, .int ea, .int (if 0 < sp j then lo + 1 else lo), .int jo, .int ta, .ref q5, .ref q6, .ref q7, .ref q8])), (q5, .inl (cI, 6, .inl (if 0 < sp j then upd sp j (sp j - 1) else sp))), (q6, .inl (cI, 6, .inl en)), (q7, .inl (cI, 6, .inl tY)), (q8, .inl (cI, 6, .inl tW))] H) := by
  intro sz
  refine Met.ofW (cc := cX1_loseSpoon) (maxL := 2) (ret := (some .boolean)) (by decide) rfl ?_
  intro p e s m args below meth c s₁ B hml hv
  obtain ⟨rfl, hsz, hT, hP, hD0, _⟩ := hv
  have hK := hT.1
  have hx := B.exec
  have hb := B.bytes
  have hr := B.returns
  have hts := atoms_spec (ws := wsX1_loseSpoon) B.pre
  have hown : s.vm.findClass RX1 = some m.cls := findClass_of_methodNamed B.named
  have hlocks := B.notSynchronized
  subst hsz
  have hD := hD0.self (sz := s.heap.size)
  generalize hAe : va_A [(q, .inr (1, [.int y, .int ea, .int lo, .int jo, .int ta, .ref q5, .ref q6, .ref q7, .ref q8])), (q5, .inl (cI, 6, .inl sp)), (q6, .inl (cI, 6, .inl en)), (q7, .inl (cI, 6, .inl tY)), (q8, .inl (cI, 6, .inl tW))] s.heap.size = A at hD ⊢
  have hA : ∀ q : Nat, s.heap.size ≤ q → A q := fun q h => by rw [← hAe]; exact Or.inr h
  have hS : va_S A s.heap s.heap [] := va_S.rf
  have hl := lv_entry ([.ref q, .int (nI j)] : List Value) (n := 2) (Nat.le_of_ble_eq_true rfl)
  rw [lg_entry_eq]
  generalize (lg_sl ([.ref q, .int (nI j)]) ++ List.replicate (2 - (lg_sl ([.ref q, .int (nI j)])).length) Slot.unset).toArray = ls at hl ⊢
  have hl : lv_has ls 2 [(0, .ref q), (1, .int (nI j))] := hl
  refine lv_aload_n hx hb dX1_loseSpoon_0 rfl (lv_at hl 0 rfl) ?_
  refine lv_iload_n hx hb dX1_loseSpoon_1 rfl (lv_at hl 1 rfl) ?_
  have hPc_1 := hP.sub (ws' := [(q, .inr (1, [.int y, .int ea, .int lo, .int jo, .int ta, .ref q5, .ref q6, .ref q7, .ref q8])), (q5, .inl (cI, 6, .inl sp))]) [0, 1] rfl
  refine jcalli (va_runV (As := [.int (nI j)]) (rest := []) ⟨hx, hb, hml, hown, hts⟩ (c_spoonsOf l D cI cJ q q5 (.int y) (.int ea) (.int lo) (.int jo) (.int ta) (.ref q6) (.ref q7) (.ref q8) sp j (by omega) s.heap.size) (cwV 1 hts gX1_loseSpoon_X1_spoonsOf rfl rfl rfl (by decide +kernel) ⟨Nat.le_of_ble_eq_true rfl, Nat.le_of_ble_eq_true rfl⟩) (jpreV hT (va_recv hK hP (ci := 1) (q0 := 0) rfl rfl) hPc_1) rfl rfl hl.1 rfl (lv_room (Nat.le_of_ble_eq_true rfl)) dX1_loseSpoon_2 ⟨(Nat.zero_le _), (Nat.zero_le _)⟩) hS hA (fun r_2 H locs hw_r_2 hkq hS => ?_)
  try dsimp only at hw_r_2
  have hP := jkeep hP hkq
  subst hw_r_2
  refine lv_if_gt (tgt := 10) hx hb dX1_loseSpoon_5 (by decide) (fun c_3 => ?_) (fun c_3 => ?_)
  · skip
    refine lv_aload_n hx hb dX1_loseSpoon_10 rfl (lv_at hl 0 rfl) ?_
    refine va_get (D := D) (ci := 1) (v := .ref q5) (C := RX1) (T := TX1) (N := 9) hx hb hts (fun w h => List.mem_cons_of_mem _ (List.mem_append_right _ h)) hown hK hP 0 rfl rfl 5 (by decide) (hts (Cond.fieldLink RX1 27 "JamDays$Days" "spoons" "[I") (List.mem_of_getElem? (i := 1) rfl)) (fun _ h9 => h9) rfl dX1_loseSpoon_11 ?_
    refine lv_iload_n hx hb dX1_loseSpoon_14 rfl (lv_at hl 1 rfl) ?_
    refine lv_dup2_11 hx hb dX1_loseSpoon_15 rfl rfl ?_
    refine jv_ald (k := j) hx hb hK hP 1 0 rfl rfl (by omega) (by decide) dX1_loseSpoon_16 ?_
    refine lv_iconst (v := 1) hx hb dX1_loseSpoon_17 (by decide) ?_
    refine lv_isub hx hb dX1_loseSpoon_18 ?_
    refine jv_ast (k := j) (x := (sp j) - 1) hx hb hK hP hD hS 1 0 rfl rfl (by omega) (by decide) dX1_loseSpoon_19 (fun H locs hP hD hS => ?_)
    have hP : va_P D vwCl [(q, .inr (1, [.int y, .int ea, .int lo, .int jo, .int ta, .ref q5, .ref q6, .ref q7, .ref q8])), (q5, .inl (cI, 6, .inl (upd sp j ((sp j) - 1)))), (q6, .inl (cI, 6, .inl en)), (q7, .inl (cI, 6, .inl tY)), (q8, .inl (cI, 6, .inl tW))] H := hP
    have hD : va_D A [(q, .inr (1, [.int y, .int ea, .int lo, .int jo, .int ta, .ref q5, .ref q6, .ref q7, .ref q8])), (q5, .inl (cI, 6, .inl (upd sp j ((sp j) - 1)))), (q6, .inl (cI, 6, .inl en)), (q7, .inl (cI, 6, .inl tY)), (q8, .inl (cI, 6, .inl tW))] := hD
    refine lv_aload_n hx hb dX1_loseSpoon_20 rfl (lv_at hl 0 rfl) ?_
    refine lv_dup hx hb dX1_loseSpoon_21 rfl ?_
    refine va_get (D := D) (ci := 1) (v := .int lo) (C := RX1) (T := TX1) (N := 9) hx hb hts (fun w h => List.mem_cons_of_mem _ (List.mem_append_right _ h)) hown hK hP 0 rfl rfl 2 (by decide) (hts (Cond.fieldLink RX1 18 "JamDays$Days" "lost" "I") (List.mem_of_getElem? (i := 2) rfl)) (fun _ h9 => h9) rfl dX1_loseSpoon_22 ?_
    refine lv_iconst (v := 1) hx hb dX1_loseSpoon_25 (by decide) ?_
    refine lv_iadd hx hb dX1_loseSpoon_26 ?_
    refine va_put (D := D) (ci := 1) (v := .int (lo + 1)) (ty := .int) (C := RX1) (T := TX1) (N := 9) hx hb hts (fun w h => List.mem_cons_of_mem _ (List.mem_append_right _ h)) tyX1 tyX1_ok nmX1 hown hK hP hD hS 0 rfl rfl 2 (by decide) (hts (Cond.fieldLink RX1 18 "JamDays$Days" "lost" "I") (List.mem_of_getElem? (i := 2) rfl)) (fun _ h9 => h9) rfl (by decide +kernel) rfl rfl (Nat.le_of_ble_eq_true rfl) dX1_loseSpoon_27 (fun H locs hP hD hS => ?_)
    have hP : va_P D vwCl [(q, .inr (1, [.int y, .int ea, .int (lo + 1), .int jo, .int ta, .ref q5, .ref q6, .ref q7, .ref q8])), (q5, .inl (cI, 6, .inl (upd sp j ((sp j) - 1)))), (q6, .inl (cI, 6, .inl en)), (q7, .inl (cI, 6, .inl tY)), (q8, .inl (cI, 6, .inl tW))] H := hP
    have hD : va_D A [(q, .inr (1, [.int y, .int ea, .int (lo + 1), .int jo, .int ta, .ref q5, .ref q6, .ref q7, .ref q8])), (q5, .inl (cI, 6, .inl (upd sp j ((sp j) - 1)))), (q6, .inl (cI, 6, .inl en)), (q7, .inl (cI, 6, .inl tY)), (q8, .inl (cI, 6, .inl tW))] := hD
    refine lv_iconst (v := 1) hx hb dX1_loseSpoon_30 (by decide) ?_
    exact W.zret (v := 1) hx hb hr (by decide) (fun t ht hW => ⟨⟨1, 1, rfl, rfl, by dsimp only; rw [ht]; exact (by simp only [if_pos c_3]; exact ⟨trivial, hP⟩)⟩, hS.F ht⟩) hS.2.2 dX1_loseSpoon_31
  · skip
    refine lv_iconst (v := 0) hx hb dX1_loseSpoon_8 (by decide) ?_
    exact W.zret (v := 0) hx hb hr (by decide) (fun t ht hW => ⟨⟨0, 0, rfl, rfl, by dsimp only; rw [ht]; exact (by simp only [if_neg c_3]; exact ⟨trivial, hP⟩)⟩, hS.F ht⟩) hS.2.2 dX1_loseSpoon_9

set_option maxHeartbeats 4000000 in
set_option maxRecDepth 100000 in
theorem c_addTaste_y (l : Launch) (D : va_G) (cI cJ : ClassId) (q : Nat) (q5 : Nat) (q6 : Nat) (q7 : Nat) (q8 : Nat) (y : Int32) (ea : Int32) (lo : Int32) (jo : Int32) (tn : Nat) (sp : Nat → Int32) (en : Nat → Int32) (tY : Nat → Int32) (tW : Nat → Int32) (yy : Int32) (ww : Int32) (ht : tn < 6) : jWi l yX1_addTaste wsX1_addTaste ({ frames := 0, cells := 0, slots := 0, locals := 0 }) 0 0 [.ref q, .int yy, .int ww] D cI cJ [(q, .inr (1, [.int y, .int ea, .int lo, .int jo, .int (nI tn), .ref q5, .ref q6, .ref q7, .ref q8])), (q5, .inl (cI, 6, .inl sp)), (q6, .inl (cI, 6, .inl en)), (q7, .inl (cI, 6, .inl tY)), (q8, .inl (cI, 6, .inl tW))] (fun H => True) (fun r H => r = 1 ∧ va_P D vwCl [(q, .inr (1, [.int y, .int ea, .int lo, .int jo, .int (nI (tn + 1)), .ref q5, .ref q6, .ref q7, .ref q8])), (q5, .inl (cI, 6, .inl sp)), (q6, .inl (cI, 6, .inl en)), (q7, .inl (cI, 6, .inl (upd tY tn yy))), (q8, .inl (cI, 6, .inl (upd tW tn ww)))] H) := by
  intro sz
  refine Met.ofW (cc := cX1_addTaste) (maxL := 3) (ret := (some .boolean)) (by decide) rfl ?_
  intro p e s m args below meth c s₁ B hml hv
  obtain ⟨rfl, hsz, hT, hP, hD0, _⟩ := hv
  have hK := hT.1
  have hx := B.exec
  have hb := B.bytes
  have hr := B.returns
  have hts := atoms_spec (ws := wsX1_addTaste) B.pre
  have hown : s.vm.findClass RX1 = some m.cls := findClass_of_methodNamed B.named
  have hlocks := B.notSynchronized
  subst hsz
  have hD := hD0.self (sz := s.heap.size)
  generalize hAe : va_A [(q, .inr (1, [.int y, .int ea, .int lo, .int jo, .int (nI tn), .ref q5, .ref q6, .ref q7, .ref q8])), (q5, .inl (cI, 6, .inl sp)), (q6, .inl (cI, 6, .inl en)), (q7, .inl (cI, 6, .inl tY)), (q8, .inl (cI, 6, .inl tW))] s.heap.size = A at hD ⊢
  have hA : ∀ q : Nat, s.heap.size ≤ q → A q := fun q h => by rw [← hAe]; exact Or.inr h
  have hS : va_S A s.heap s.heap [] := va_S.rf
  have hl := lv_entry ([.ref q, .int yy, .int ww] : List Value) (n := 3) (Nat.le_of_ble_eq_true rfl)
  rw [lg_entry_eq]
  generalize (lg_sl ([.ref q, .int yy, .int ww]) ++ List.replicate (3 - (lg_sl ([.ref q, .int yy, .int ww])).length) Slot.unset).toArray = ls at hl ⊢
  have hl : lv_has ls 3 [(0, .ref q), (1, .int yy), (2, .int ww)] := hl
  refine lv_aload_n hx hb dX1_addTaste_0 rfl (lv_at hl 0 rfl) ?_
  refine va_get (D := D) (ci := 1) (v := .int (nI tn)) (C := RX1) (T := TX1) (N := 9) hx hb hts (fun w h => List.mem_cons_of_mem _ (List.mem_append_right _ h)) hown hK hP 0 rfl rfl 4 (by decide) (hts (Cond.fieldLink RX1 24 "JamDays$Days" "tasted" "I") (List.mem_of_getElem? (i := 1) rfl)) (fun _ h9 => h9) rfl dX1_addTaste_1 ?_
  refine lv_if_lt (tgt := 16) hx hb dX1_addTaste_4 (by decide) (fun c_1 => ?_) (fun c_1 => ?_)
  · skip
    replace c_1 : tn < 0 := (nI_ltI (a := tn) (b := 0) (by omega) (by omega)).mp c_1
    exact absurd c_1 (by omega)
  · skip
    replace c_1 : ¬ tn < 0 := fun h => c_1 ((nI_ltI (a := tn) (b := 0) (by omega) (by omega)).mpr h)
    refine lv_aload_n hx hb dX1_addTaste_7 rfl (lv_at hl 0 rfl) ?_
    refine va_get (D := D) (ci := 1) (v := .int (nI tn)) (C := RX1) (T := TX1) (N := 9) hx hb hts (fun w h => List.mem_cons_of_mem _ (List.mem_append_right _ h)) hown hK hP 0 rfl rfl 4 (by decide) (hts (Cond.fieldLink RX1 24 "JamDays$Days" "tasted" "I") (List.mem_of_getElem? (i := 1) rfl)) (fun _ h9 => h9) rfl dX1_addTaste_8 ?_
    refine lv_bipush (v := 6) hx hb dX1_addTaste_11 (by decide) ?_
    refine lv_icmp_lt (tgt := 18) hx hb dX1_addTaste_13 (by decide) (fun c_2 => ?_) (fun c_2 => ?_)
    · skip
      replace c_2 : tn < 6 := (nI_ltI (a := tn) (b := 6) (by omega) (by omega)).mp c_2
      refine lv_aload_n hx hb dX1_addTaste_18 rfl (lv_at hl 0 rfl) ?_
      refine va_get (D := D) (ci := 1) (v := .ref q7) (C := RX1) (T := TX1) (N := 9) hx hb hts (fun w h => List.mem_cons_of_mem _ (List.mem_append_right _ h)) hown hK hP 0 rfl rfl 7 (by decide) (hts (Cond.fieldLink RX1 34 "JamDays$Days" "tastedYear" "[I") (List.mem_of_getElem? (i := 2) rfl)) (fun _ h9 => h9) rfl dX1_addTaste_19 ?_
      refine lv_aload_n hx hb dX1_addTaste_22 rfl (lv_at hl 0 rfl) ?_
      refine va_get (D := D) (ci := 1) (v := .int (nI tn)) (C := RX1) (T := TX1) (N := 9) hx hb hts (fun w h => List.mem_cons_of_mem _ (List.mem_append_right _ h)) hown hK hP 0 rfl rfl 4 (by decide) (hts (Cond.fieldLink RX1 24 "JamDays$Days" "tasted" "I") (List.mem_of_getElem? (i := 1) rfl)) (fun _ h9 => h9) rfl dX1_addTaste_23 ?_
      refine lv_iload_n hx hb dX1_addTaste_26 rfl (lv_at hl 1 rfl) ?_
      refine jv_ast (k := tn) (x := yy) hx hb hK hP hD hS 3 0 rfl rfl (by omega) (by decide) dX1_addTaste_27 (fun H locs hP hD hS => ?_)
      have hP : va_P D vwCl [(q, .inr (1, [.int y, .int ea, .int lo, .int jo, .int (nI tn), .ref q5, .ref q6, .ref q7, .ref q8])), (q5, .inl (cI, 6, .inl sp)), (q6, .inl (cI, 6, .inl en)), (q7, .inl (cI, 6, .inl (upd tY tn yy))), (q8, .inl (cI, 6, .inl tW))] H := hP
      have hD : va_D A [(q, .inr (1, [.int y, .int ea, .int lo, .int jo, .int (nI tn), .ref q5, .ref q6, .ref q7, .ref q8])), (q5, .inl (cI, 6, .inl sp)), (q6, .inl (cI, 6, .inl en)), (q7, .inl (cI, 6, .inl (upd tY tn yy))), (q8, .inl (cI, 6, .inl tW))] := hD
      refine lv_aload_n hx hb dX1_addTaste_28 rfl (lv_at hl 0 rfl) ?_
      refine va_get (D := D) (ci := 1) (v := .ref q8) (C := RX1) (T := TX1) (N := 9) hx hb hts (fun w h => List.mem_cons_of_mem _ (List.mem_append_right _ h)) hown hK hP 0 rfl rfl 8 (by decide) (hts (Cond.fieldLink RX1 37 "JamDays$Days" "tastedWorth" "[I") (List.mem_of_getElem? (i := 3) rfl)) (fun _ h9 => h9) rfl dX1_addTaste_29 ?_
      refine lv_aload_n hx hb dX1_addTaste_32 rfl (lv_at hl 0 rfl) ?_
      refine va_get (D := D) (ci := 1) (v := .int (nI tn)) (C := RX1) (T := TX1) (N := 9) hx hb hts (fun w h => List.mem_cons_of_mem _ (List.mem_append_right _ h)) hown hK hP 0 rfl rfl 4 (by decide) (hts (Cond.fieldLink RX1 24 "JamDays$Days" "tasted" "I") (List.mem_of_getElem? (i := 1) rfl)) (fun _ h9 => h9) rfl dX1_addTaste_33 ?_
      refine lv_iload_n hx hb dX1_addTaste_36 rfl (lv_at hl 2 rfl) ?_
      refine jv_ast (k := tn) (x := ww) hx hb hK hP hD hS 4 0 rfl rfl (by omega) (by decide) dX1_addTaste_37 (fun H locs hP hD hS => ?_)
      have hP : va_P D vwCl [(q, .inr (1, [.int y, .int ea, .int lo, .int jo, .int (nI tn), .ref q5, .ref q6, .ref q7, .ref q8])), (q5, .inl (cI, 6, .inl sp)), (q6, .inl (cI, 6, .inl en)), (q7, .inl (cI, 6, .inl (upd tY tn yy))), (q8, .inl (cI, 6, .inl (upd tW tn ww)))] H := hP
      have hD : va_D A [(q, .inr (1, [.int y, .int ea, .int lo, .int jo, .int (nI tn), .ref q5, .ref q6, .ref q7, .ref q8])), (q5, .inl (cI, 6, .inl sp)), (q6, .inl (cI, 6, .inl en)), (q7, .inl (cI, 6, .inl (upd tY tn yy))), (q8, .inl (cI, 6, .inl (upd tW tn ww)))] := hD
      refine lv_aload_n hx hb dX1_addTaste_38 rfl (lv_at hl 0 rfl) ?_
      refine lv_dup hx hb dX1_addTaste_39 rfl ?_
      refine va_get (D := D) (ci := 1) (v := .int (nI tn)) (C := RX1) (T := TX1) (N := 9) hx hb hts (fun w h => List.mem_cons_of_mem _ (List.mem_append_right _ h)) hown hK hP 0 rfl rfl 4 (by decide) (hts (Cond.fieldLink RX1 24 "JamDays$Days" "tasted" "I") (List.mem_of_getElem? (i := 1) rfl)) (fun _ h9 => h9) rfl dX1_addTaste_40 ?_
      refine lv_iconst (v := 1) hx hb dX1_addTaste_43 (by decide) ?_
      refine lv_iadd hx hb dX1_addTaste_44 ?_
      refine jv_as (y := nI (tn + 1)) (nI_add tn 1) ?_
      refine va_put (D := D) (ci := 1) (v := .int (nI (tn + 1))) (ty := .int) (C := RX1) (T := TX1) (N := 9) hx hb hts (fun w h => List.mem_cons_of_mem _ (List.mem_append_right _ h)) tyX1 tyX1_ok nmX1 hown hK hP hD hS 0 rfl rfl 4 (by decide) (hts (Cond.fieldLink RX1 24 "JamDays$Days" "tasted" "I") (List.mem_of_getElem? (i := 1) rfl)) (fun _ h9 => h9) rfl (by decide +kernel) rfl rfl (Nat.le_of_ble_eq_true rfl) dX1_addTaste_45 (fun H locs hP hD hS => ?_)
      have hP : va_P D vwCl [(q, .inr (1, [.int y, .int ea, .int lo, .int jo, .int (nI (tn + 1)), .ref q5, .ref q6, .ref q7, .ref q8])), (q5, .inl (cI, 6, .inl sp)), (q6, .inl (cI, 6, .inl en)), (q7, .inl (cI, 6, .inl (upd tY tn yy))), (q8, .inl (cI, 6, .inl (upd tW tn ww)))] H := hP
      have hD : va_D A [(q, .inr (1, [.int y, .int ea, .int lo, .int jo, .int (nI (tn + 1)), .ref q5, .ref q6, .ref q7, .ref q8])), (q5, .inl (cI, 6, .inl sp)), (q6, .inl (cI, 6, .inl en)), (q7, .inl (cI, 6, .inl (upd tY tn yy))), (q8, .inl (cI, 6, .inl (upd tW tn ww)))] := hD
      refine lv_iconst (v := 1) hx hb dX1_addTaste_48 (by decide) ?_
      exact W.zret (v := 1) hx hb hr (by decide) (fun t ht hW => ⟨⟨1, 1, rfl, rfl, by dsimp only; rw [ht]; exact ⟨rfl, hP⟩⟩, hS.F ht⟩) hS.2.2 dX1_addTaste_49
    · skip
      replace c_2 : ¬ tn < 6 := fun h => c_2 ((nI_ltI (a := tn) (b := 6) (by omega) (by omega)).mpr h)
      exact absurd ht c_2

set_option maxHeartbeats 4000000 in
set_option maxRecDepth 100000 in
theorem c_addTaste_n (l : Launch) (D : va_G) (cI cJ : ClassId) (q : Nat) (q5 : Nat) (q6 : Nat) (q7 : Nat) (q8 : Nat) (y : Int32) (ea : Int32) (lo : Int32) (jo : Int32) (tn : Nat) (sp : Nat → Int32) (en : Nat → Int32) (tY : Nat → Int32) (tW : Nat → Int32) (yy : Int32) (ww : Int32) (ht : tn = 6) : jWi l yX1_addTaste wsX1_addTaste ({ frames := 0, cells := 0, slots := 0, locals := 0 }) 0 0 [.ref q, .int yy, .int ww] D cI cJ [(q, .inr (1, [.int y, .int ea, .int lo, .int jo, .int (nI tn), .ref q5, .ref q6, .ref q7, .ref q8])), (q5, .inl (cI, 6, .inl sp)), (q6, .inl (cI, 6, .inl en)), (q7, .inl (cI, 6, .inl tY)), (q8, .inl (cI, 6, .inl tW))] (fun H => True) (fun r H => r = 0 ∧ va_P D vwCl [(q, .inr (1, [.int y, .int ea, .int lo, .int jo, .int (nI tn), .ref q5, .ref q6, .ref q7, .ref q8])), (q5, .inl (cI, 6, .inl sp)), (q6, .inl (cI, 6, .inl en)), (q7, .inl (cI, 6, .inl tY)), (q8, .inl (cI, 6, .inl tW))] H) := by
  intro sz
  refine Met.ofW (cc := cX1_addTaste) (maxL := 3) (ret := (some .boolean)) (by decide) rfl ?_
  intro p e s m args below meth c s₁ B hml hv
  obtain ⟨rfl, hsz, hT, hP, hD0, _⟩ := hv
  have hK := hT.1
  have hx := B.exec
  have hb := B.bytes
  have hr := B.returns
  have hts := atoms_spec (ws := wsX1_addTaste) B.pre
  have hown : s.vm.findClass RX1 = some m.cls := findClass_of_methodNamed B.named
  have hlocks := B.notSynchronized
  subst hsz
  have hD := hD0.self (sz := s.heap.size)
  generalize hAe : va_A [(q, .inr (1, [.int y, .int ea, .int lo, .int jo, .int (nI tn), .ref q5, .ref q6, .ref q7, .ref q8])), (q5, .inl (cI, 6, .inl sp)), (q6, .inl (cI, 6, .inl en)), (q7, .inl (cI, 6, .inl tY)), (q8, .inl (cI, 6, .inl tW))] s.heap.size = A at hD ⊢
  have hA : ∀ q : Nat, s.heap.size ≤ q → A q := fun q h => by rw [← hAe]; exact Or.inr h
  have hS : va_S A s.heap s.heap [] := va_S.rf
  have hl := lv_entry ([.ref q, .int yy, .int ww] : List Value) (n := 3) (Nat.le_of_ble_eq_true rfl)
  rw [lg_entry_eq]
  generalize (lg_sl ([.ref q, .int yy, .int ww]) ++ List.replicate (3 - (lg_sl ([.ref q, .int yy, .int ww])).length) Slot.unset).toArray = ls at hl ⊢
  have hl : lv_has ls 3 [(0, .ref q), (1, .int yy), (2, .int ww)] := hl
  refine lv_aload_n hx hb dX1_addTaste_0 rfl (lv_at hl 0 rfl) ?_
  refine va_get (D := D) (ci := 1) (v := .int (nI tn)) (C := RX1) (T := TX1) (N := 9) hx hb hts (fun w h => List.mem_cons_of_mem _ (List.mem_append_right _ h)) hown hK hP 0 rfl rfl 4 (by decide) (hts (Cond.fieldLink RX1 24 "JamDays$Days" "tasted" "I") (List.mem_of_getElem? (i := 1) rfl)) (fun _ h9 => h9) rfl dX1_addTaste_1 ?_
  refine lv_if_lt (tgt := 16) hx hb dX1_addTaste_4 (by decide) (fun c_1 => ?_) (fun c_1 => ?_)
  · skip
    replace c_1 : tn < 0 := (nI_ltI (a := tn) (b := 0) (by omega) (by omega)).mp c_1
    exact absurd c_1 (by omega)
  · skip
    replace c_1 : ¬ tn < 0 := fun h => c_1 ((nI_ltI (a := tn) (b := 0) (by omega) (by omega)).mpr h)
    refine lv_aload_n hx hb dX1_addTaste_7 rfl (lv_at hl 0 rfl) ?_
    refine va_get (D := D) (ci := 1) (v := .int (nI tn)) (C := RX1) (T := TX1) (N := 9) hx hb hts (fun w h => List.mem_cons_of_mem _ (List.mem_append_right _ h)) hown hK hP 0 rfl rfl 4 (by decide) (hts (Cond.fieldLink RX1 24 "JamDays$Days" "tasted" "I") (List.mem_of_getElem? (i := 1) rfl)) (fun _ h9 => h9) rfl dX1_addTaste_8 ?_
    refine lv_bipush (v := 6) hx hb dX1_addTaste_11 (by decide) ?_
    refine lv_icmp_lt (tgt := 18) hx hb dX1_addTaste_13 (by decide) (fun c_2 => ?_) (fun c_2 => ?_)
    · skip
      replace c_2 : tn < 6 := (nI_ltI (a := tn) (b := 6) (by omega) (by omega)).mp c_2
      exact absurd c_2 (by omega)
    · skip
      replace c_2 : ¬ tn < 6 := fun h => c_2 ((nI_ltI (a := tn) (b := 6) (by omega) (by omega)).mpr h)
      refine lv_iconst (v := 0) hx hb dX1_addTaste_16 (by decide) ?_
      exact W.zret (v := 0) hx hb hr (by decide) (fun t ht hW => ⟨⟨0, 0, rfl, rfl, by dsimp only; rw [ht]; exact ⟨rfl, hP⟩⟩, hS.F ht⟩) hS.2.2 dX1_addTaste_17

def jpm (s : Int32) : Int32 := if (0 : Int32) < 3 - s / 3 then 3 - s / 3 else 0
def jmo (m y : Int32) : Int32 := if (20 : Int32) ≤ y * m then 20 else y * m
def cfw (k : Nat) (g m y : Int32) : Int32 := if k = 2 then 2 * (g - jmo m y) else if k = 4 then (g - jmo m y) + (if y - y / 2 * 2 = 1 then 3 else 0) else g - jmo m y
def ckn (k : Nat) : Int32 := if k = 3 then 0 else if k = 5 then 1 else if k = 0 then 2 else if k = 4 then 3 else 4
set_option maxHeartbeats 4000000 in
set_option maxRecDepth 100000 in
theorem c_plainMould (l : Launch) (D : va_G) (cI cJ : ClassId) (s0 : Int32)  : jRi l yX3_plainMould wsX3_plainMould ({ frames := 1, cells := 0, slots := 0, locals := 21 }) [.int s0] D cI cJ (fun H => True) (fun r => r = jpm s0) := by
  intro sz
  refine Met.ofW (cc := cX3_plainMould) (maxL := 1) (ret := (some .int)) (by decide) rfl ?_
  intro p e s m args below meth c s₁ B hml hv
  obtain ⟨rfl, hsz, hT, _⟩ := hv
  have hK := hT.1
  have hx := B.exec
  have hb := B.bytes
  have hr := B.returns
  have hts := atoms_spec (ws := wsX3_plainMould) B.pre
  have hown : s.vm.findClass RX3 = some m.cls := findClass_of_methodNamed B.named
  have hlocks := B.notSynchronized
  subst hsz
  generalize hAe : va_A [] s.heap.size = A
  have hA : ∀ q : Nat, s.heap.size ≤ q → A q := fun q h => by rw [← hAe]; exact Or.inr h
  have hS : va_S A s.heap s.heap [] := va_S.rf
  have hl := lv_entry ([.int s0] : List Value) (n := 1) (Nat.le_of_ble_eq_true rfl)
  rw [lg_entry_eq]
  generalize (lg_sl ([.int s0]) ++ List.replicate (1 - (lg_sl ([.int s0])).length) Slot.unset).toArray = ls at hl ⊢
  have hl : lv_has ls 1 [(0, .int s0)] := hl
  refine lv_iconst (v := 0) hx hb dX3_plainMould_0 (by decide) ?_
  refine lv_iconst (v := 3) hx hb dX3_plainMould_1 (by decide) ?_
  refine lv_iload_n hx hb dX3_plainMould_2 rfl (lv_at hl 0 rfl) ?_
  refine lv_iconst (v := 3) hx hb dX3_plainMould_3 (by decide) ?_
  refine lv_idiv hx hb dX3_plainMould_4 (by decide) ?_
  refine lv_isub hx hb dX3_plainMould_5 ?_
  refine va_mmax hx hb (by rw [hml]; exact hl.1.symm) hown (hts (Cond.methodLink RX3 28 Lib.Math.max.name) (List.mem_of_getElem? (i := 1) rfl)) (hts (Cond.static Lib.Math.max.name) (List.mem_of_getElem? (i := 2) rfl)) (hts (Cond.initialized "java/lang/Math") (List.mem_of_getElem? (i := 3) rfl)) (hts (Cond.code Lib.Math.max.name Lib.Math.max.code 2 (some .int)) (List.mem_of_getElem? (i := 4) rfl)) (Nat.le_of_ble_eq_true rfl) (Nat.le_of_ble_eq_true rfl) (Nat.zero_le _) (Nat.zero_le _) dX3_plainMould_6 ?_
  exact W.iret (v := if 0 < (3 - (s0 / 3)) then 3 - (s0 / 3) else 0) hx hb hr (fun t ht hW => ⟨⟨if 0 < (3 - (s0 / 3)) then 3 - (s0 / 3) else 0, (), rfl, rfl, trivial⟩, hS.F ht⟩) hS.2.2 dX3_plainMould_9

set_option maxHeartbeats 4000000 in
set_option maxRecDepth 100000 in
theorem c_mouldIn_0 (l : Launch) (D : va_G) (cI cJ : ClassId) (h : Nat) (g : Int32) (s0 : Int32) (m0 : Int32) (y : Int32)  : jRi l yX3_mouldIn wsX3_mouldIn ({ frames := 0, cells := 0, slots := 0, locals := 0 }) [.ref h, .int y] D cI cJ (fun H => va_P D vwCl [(h, .inr (0, [.int g, .int s0, .int m0]))] H) (fun r => r = jmo m0 y) := by
  intro sz
  refine Met.ofW (cc := cX3_mouldIn) (maxL := 3) (ret := (some .int)) (by decide) rfl ?_
  intro p e s m args below meth c s₁ B hml hv
  obtain ⟨rfl, hsz, hT, hPr⟩ := hv
  have hK := hT.1
  have hx := B.exec
  have hb := B.bytes
  have hr := B.returns
  have hts := atoms_spec (ws := wsX3_mouldIn) B.pre
  have hown : s.vm.findClass RX3 = some m.cls := findClass_of_methodNamed B.named
  have hlocks := B.notSynchronized
  subst hsz
  generalize hAe : va_A [] s.heap.size = A
  have hA : ∀ q : Nat, s.heap.size ≤ q → A q := fun q h => by rw [← hAe]; exact Or.inr h
  have hS : va_S A s.heap s.heap [] := va_S.rf
  have hl := lv_entry ([.ref h, .int y] : List Value) (n := 3) (Nat.le_of_ble_eq_true rfl)
  rw [lg_entry_eq]
  generalize (lg_sl ([.ref h, .int y]) ++ List.replicate (3 - (lg_sl ([.ref h, .int y])).length) Slot.unset).toArray = ls at hl ⊢
  have hl : lv_has ls 3 [(0, .ref h), (1, .int y)] := hl
  refine lv_iload_n hx hb dX3_mouldIn_0 rfl (lv_at hl 1 rfl) ?_
  refine lv_aload_n hx hb dX3_mouldIn_1 rfl (lv_at hl 0 rfl) ?_
  refine va_get (D := D) (ci := 0) (v := .int m0) (C := RX0) (T := TX0) (N := 3) hx hb hts (fun w h => List.mem_cons_of_mem _ (List.mem_append_left _ (List.mem_append_left _ (List.mem_append_left _ (List.mem_append_left _ (List.mem_append_right _ h)))))) hown hK hPr 0 rfl rfl 2 (by decide) (hts (Cond.fieldLink RX3 25 "JamDays$Jar" "mouldEachYear" "I") (List.mem_of_getElem? (i := 1) rfl)) (fun _ h9 => h9) rfl dX3_mouldIn_2 ?_
  refine lv_imul hx hb dX3_mouldIn_5 ?_
  refine lv_istore_n (lv' := [(2, .int (y * m0)), (0, .ref h), (1, .int y)]) hx hb dX3_mouldIn_6 rfl hl (by decide) rfl (fun ls hl => ?_)
  refine lv_iload_n hx hb dX3_mouldIn_7 rfl (lv_at hl 0 rfl) ?_
  refine lv_bipush (v := 20) hx hb dX3_mouldIn_8 (by decide) ?_
  refine lv_icmp_ge (tgt := 17) hx hb dX3_mouldIn_10 (by decide) (fun c_1 => ?_) (fun c_1 => ?_)
  · skip
    refine lv_bipush (v := 20) hx hb dX3_mouldIn_17 (by decide) ?_
    exact W.iret (v := 20) hx hb hr (fun t ht hW => ⟨⟨20, (), rfl, (by simp [jmo, c_1]), trivial⟩, hS.F ht⟩) hS.2.2 dX3_mouldIn_19
  · skip
    refine lv_iload_n hx hb dX3_mouldIn_13 rfl (lv_at hl 0 rfl) ?_
    refine lv_goto (tgt := 19) hx hb dX3_mouldIn_14 (by decide) ?_
    exact W.iret (v := y * m0) hx hb hr (fun t ht hW => ⟨⟨y * m0, (), rfl, (by simp [jmo, c_1]), trivial⟩, hS.F ht⟩) hS.2.2 dX3_mouldIn_19

set_option maxHeartbeats 4000000 in
set_option maxRecDepth 100000 in
theorem c_mouldIn_2 (l : Launch) (D : va_G) (cI cJ : ClassId) (h : Nat) (g : Int32) (s0 : Int32) (m0 : Int32) (y : Int32)  : jRi l yX3_mouldIn wsX3_mouldIn ({ frames := 0, cells := 0, slots := 0, locals := 0 }) [.ref h, .int y] D cI cJ (fun H => va_P D vwCl [(h, .inr (2, [.int g, .int s0, .int m0]))] H) (fun r => r = jmo m0 y) := by
  intro sz
  refine Met.ofW (cc := cX3_mouldIn) (maxL := 3) (ret := (some .int)) (by decide) rfl ?_
  intro p e s m args below meth c s₁ B hml hv
  obtain ⟨rfl, hsz, hT, hPr⟩ := hv
  have hK := hT.1
  have hx := B.exec
  have hb := B.bytes
  have hr := B.returns
  have hts := atoms_spec (ws := wsX3_mouldIn) B.pre
  have hown : s.vm.findClass RX3 = some m.cls := findClass_of_methodNamed B.named
  have hlocks := B.notSynchronized
  subst hsz
  generalize hAe : va_A [] s.heap.size = A
  have hA : ∀ q : Nat, s.heap.size ≤ q → A q := fun q h => by rw [← hAe]; exact Or.inr h
  have hS : va_S A s.heap s.heap [] := va_S.rf
  have hl := lv_entry ([.ref h, .int y] : List Value) (n := 3) (Nat.le_of_ble_eq_true rfl)
  rw [lg_entry_eq]
  generalize (lg_sl ([.ref h, .int y]) ++ List.replicate (3 - (lg_sl ([.ref h, .int y])).length) Slot.unset).toArray = ls at hl ⊢
  have hl : lv_has ls 3 [(0, .ref h), (1, .int y)] := hl
  refine lv_iload_n hx hb dX3_mouldIn_0 rfl (lv_at hl 1 rfl) ?_
  refine lv_aload_n hx hb dX3_mouldIn_1 rfl (lv_at hl 0 rfl) ?_
  refine va_get (D := D) (ci := 2) (v := .int m0) (C := RX2) (T := TX2) (N := 3) hx hb hts (fun w h => List.mem_cons_of_mem _ (List.mem_append_left _ (List.mem_append_left _ (List.mem_append_left _ (List.mem_append_right _ h))))) hown hK hPr 0 rfl rfl 2 (by decide) (hts (Cond.fieldLink RX3 25 "JamDays$Jar" "mouldEachYear" "I") (List.mem_of_getElem? (i := 1) rfl)) (fun _ h9 => h9) rfl dX3_mouldIn_2 ?_
  refine lv_imul hx hb dX3_mouldIn_5 ?_
  refine lv_istore_n (lv' := [(2, .int (y * m0)), (0, .ref h), (1, .int y)]) hx hb dX3_mouldIn_6 rfl hl (by decide) rfl (fun ls hl => ?_)
  refine lv_iload_n hx hb dX3_mouldIn_7 rfl (lv_at hl 0 rfl) ?_
  refine lv_bipush (v := 20) hx hb dX3_mouldIn_8 (by decide) ?_
  refine lv_icmp_ge (tgt := 17) hx hb dX3_mouldIn_10 (by decide) (fun c_1 => ?_) (fun c_1 => ?_)
  · skip
    refine lv_bipush (v := 20) hx hb dX3_mouldIn_17 (by decide) ?_
    exact W.iret (v := 20) hx hb hr (fun t ht hW => ⟨⟨20, (), rfl, (by simp [jmo, c_1]), trivial⟩, hS.F ht⟩) hS.2.2 dX3_mouldIn_19
  · skip
    refine lv_iload_n hx hb dX3_mouldIn_13 rfl (lv_at hl 0 rfl) ?_
    refine lv_goto (tgt := 19) hx hb dX3_mouldIn_14 (by decide) ?_
    exact W.iret (v := y * m0) hx hb hr (fun t ht hW => ⟨⟨y * m0, (), rfl, (by simp [jmo, c_1]), trivial⟩, hS.F ht⟩) hS.2.2 dX3_mouldIn_19

set_option maxHeartbeats 4000000 in
set_option maxRecDepth 100000 in
theorem c_mouldIn_3 (l : Launch) (D : va_G) (cI cJ : ClassId) (h : Nat) (g : Int32) (s0 : Int32) (m0 : Int32) (y : Int32)  : jRi l yX3_mouldIn wsX3_mouldIn ({ frames := 0, cells := 0, slots := 0, locals := 0 }) [.ref h, .int y] D cI cJ (fun H => va_P D vwCl [(h, .inr (3, [.int g, .int s0, .int m0]))] H) (fun r => r = jmo m0 y) := by
  intro sz
  refine Met.ofW (cc := cX3_mouldIn) (maxL := 3) (ret := (some .int)) (by decide) rfl ?_
  intro p e s m args below meth c s₁ B hml hv
  obtain ⟨rfl, hsz, hT, hPr⟩ := hv
  have hK := hT.1
  have hx := B.exec
  have hb := B.bytes
  have hr := B.returns
  have hts := atoms_spec (ws := wsX3_mouldIn) B.pre
  have hown : s.vm.findClass RX3 = some m.cls := findClass_of_methodNamed B.named
  have hlocks := B.notSynchronized
  subst hsz
  generalize hAe : va_A [] s.heap.size = A
  have hA : ∀ q : Nat, s.heap.size ≤ q → A q := fun q h => by rw [← hAe]; exact Or.inr h
  have hS : va_S A s.heap s.heap [] := va_S.rf
  have hl := lv_entry ([.ref h, .int y] : List Value) (n := 3) (Nat.le_of_ble_eq_true rfl)
  rw [lg_entry_eq]
  generalize (lg_sl ([.ref h, .int y]) ++ List.replicate (3 - (lg_sl ([.ref h, .int y])).length) Slot.unset).toArray = ls at hl ⊢
  have hl : lv_has ls 3 [(0, .ref h), (1, .int y)] := hl
  refine lv_iload_n hx hb dX3_mouldIn_0 rfl (lv_at hl 1 rfl) ?_
  refine lv_aload_n hx hb dX3_mouldIn_1 rfl (lv_at hl 0 rfl) ?_
  refine va_get (D := D) (ci := 3) (v := .int m0) (C := RX3) (T := TX3) (N := 3) hx hb hts (fun w h => List.mem_cons_of_mem _ (List.mem_append_left _ (List.mem_append_left _ (List.mem_append_right _ h)))) hown hK hPr 0 rfl rfl 2 (by decide) (hts (Cond.fieldLink RX3 25 "JamDays$Jar" "mouldEachYear" "I") (List.mem_of_getElem? (i := 1) rfl)) (fun _ h9 => h9) rfl dX3_mouldIn_2 ?_
  refine lv_imul hx hb dX3_mouldIn_5 ?_
  refine lv_istore_n (lv' := [(2, .int (y * m0)), (0, .ref h), (1, .int y)]) hx hb dX3_mouldIn_6 rfl hl (by decide) rfl (fun ls hl => ?_)
  refine lv_iload_n hx hb dX3_mouldIn_7 rfl (lv_at hl 0 rfl) ?_
  refine lv_bipush (v := 20) hx hb dX3_mouldIn_8 (by decide) ?_
  refine lv_icmp_ge (tgt := 17) hx hb dX3_mouldIn_10 (by decide) (fun c_1 => ?_) (fun c_1 => ?_)
  · skip
    refine lv_bipush (v := 20) hx hb dX3_mouldIn_17 (by decide) ?_
    exact W.iret (v := 20) hx hb hr (fun t ht hW => ⟨⟨20, (), rfl, (by simp [jmo, c_1]), trivial⟩, hS.F ht⟩) hS.2.2 dX3_mouldIn_19
  · skip
    refine lv_iload_n hx hb dX3_mouldIn_13 rfl (lv_at hl 0 rfl) ?_
    refine lv_goto (tgt := 19) hx hb dX3_mouldIn_14 (by decide) ?_
    exact W.iret (v := y * m0) hx hb hr (fun t ht hW => ⟨⟨y * m0, (), rfl, (by simp [jmo, c_1]), trivial⟩, hS.F ht⟩) hS.2.2 dX3_mouldIn_19

set_option maxHeartbeats 4000000 in
set_option maxRecDepth 100000 in
theorem c_mouldIn_4 (l : Launch) (D : va_G) (cI cJ : ClassId) (h : Nat) (g : Int32) (s0 : Int32) (m0 : Int32) (y : Int32)  : jRi l yX3_mouldIn wsX3_mouldIn ({ frames := 0, cells := 0, slots := 0, locals := 0 }) [.ref h, .int y] D cI cJ (fun H => va_P D vwCl [(h, .inr (4, [.int g, .int s0, .int m0]))] H) (fun r => r = jmo m0 y) := by
  intro sz
  refine Met.ofW (cc := cX3_mouldIn) (maxL := 3) (ret := (some .int)) (by decide) rfl ?_
  intro p e s m args below meth c s₁ B hml hv
  obtain ⟨rfl, hsz, hT, hPr⟩ := hv
  have hK := hT.1
  have hx := B.exec
  have hb := B.bytes
  have hr := B.returns
  have hts := atoms_spec (ws := wsX3_mouldIn) B.pre
  have hown : s.vm.findClass RX3 = some m.cls := findClass_of_methodNamed B.named
  have hlocks := B.notSynchronized
  subst hsz
  generalize hAe : va_A [] s.heap.size = A
  have hA : ∀ q : Nat, s.heap.size ≤ q → A q := fun q h => by rw [← hAe]; exact Or.inr h
  have hS : va_S A s.heap s.heap [] := va_S.rf
  have hl := lv_entry ([.ref h, .int y] : List Value) (n := 3) (Nat.le_of_ble_eq_true rfl)
  rw [lg_entry_eq]
  generalize (lg_sl ([.ref h, .int y]) ++ List.replicate (3 - (lg_sl ([.ref h, .int y])).length) Slot.unset).toArray = ls at hl ⊢
  have hl : lv_has ls 3 [(0, .ref h), (1, .int y)] := hl
  refine lv_iload_n hx hb dX3_mouldIn_0 rfl (lv_at hl 1 rfl) ?_
  refine lv_aload_n hx hb dX3_mouldIn_1 rfl (lv_at hl 0 rfl) ?_
  refine va_get (D := D) (ci := 4) (v := .int m0) (C := RX4) (T := TX4) (N := 3) hx hb hts (fun w h => List.mem_cons_of_mem _ (List.mem_append_left _ (List.mem_append_right _ h))) hown hK hPr 0 rfl rfl 2 (by decide) (hts (Cond.fieldLink RX3 25 "JamDays$Jar" "mouldEachYear" "I") (List.mem_of_getElem? (i := 1) rfl)) (fun _ h9 => h9) rfl dX3_mouldIn_2 ?_
  refine lv_imul hx hb dX3_mouldIn_5 ?_
  refine lv_istore_n (lv' := [(2, .int (y * m0)), (0, .ref h), (1, .int y)]) hx hb dX3_mouldIn_6 rfl hl (by decide) rfl (fun ls hl => ?_)
  refine lv_iload_n hx hb dX3_mouldIn_7 rfl (lv_at hl 0 rfl) ?_
  refine lv_bipush (v := 20) hx hb dX3_mouldIn_8 (by decide) ?_
  refine lv_icmp_ge (tgt := 17) hx hb dX3_mouldIn_10 (by decide) (fun c_1 => ?_) (fun c_1 => ?_)
  · skip
    refine lv_bipush (v := 20) hx hb dX3_mouldIn_17 (by decide) ?_
    exact W.iret (v := 20) hx hb hr (fun t ht hW => ⟨⟨20, (), rfl, (by simp [jmo, c_1]), trivial⟩, hS.F ht⟩) hS.2.2 dX3_mouldIn_19
  · skip
    refine lv_iload_n hx hb dX3_mouldIn_13 rfl (lv_at hl 0 rfl) ?_
    refine lv_goto (tgt := 19) hx hb dX3_mouldIn_14 (by decide) ?_
    exact W.iret (v := y * m0) hx hb hr (fun t ht hW => ⟨⟨y * m0, (), rfl, (by simp [jmo, c_1]), trivial⟩, hS.F ht⟩) hS.2.2 dX3_mouldIn_19

set_option maxHeartbeats 4000000 in
set_option maxRecDepth 100000 in
theorem c_mouldIn_5 (l : Launch) (D : va_G) (cI cJ : ClassId) (h : Nat) (g : Int32) (s0 : Int32) (m0 : Int32) (y : Int32)  : jRi l yX3_mouldIn wsX3_mouldIn ({ frames := 0, cells := 0, slots := 0, locals := 0 }) [.ref h, .int y] D cI cJ (fun H => va_P D vwCl [(h, .inr (5, [.int g, .int s0, .int m0]))] H) (fun r => r = jmo m0 y) := by
  intro sz
  refine Met.ofW (cc := cX3_mouldIn) (maxL := 3) (ret := (some .int)) (by decide) rfl ?_
  intro p e s m args below meth c s₁ B hml hv
  obtain ⟨rfl, hsz, hT, hPr⟩ := hv
  have hK := hT.1
  have hx := B.exec
  have hb := B.bytes
  have hr := B.returns
  have hts := atoms_spec (ws := wsX3_mouldIn) B.pre
  have hown : s.vm.findClass RX3 = some m.cls := findClass_of_methodNamed B.named
  have hlocks := B.notSynchronized
  subst hsz
  generalize hAe : va_A [] s.heap.size = A
  have hA : ∀ q : Nat, s.heap.size ≤ q → A q := fun q h => by rw [← hAe]; exact Or.inr h
  have hS : va_S A s.heap s.heap [] := va_S.rf
  have hl := lv_entry ([.ref h, .int y] : List Value) (n := 3) (Nat.le_of_ble_eq_true rfl)
  rw [lg_entry_eq]
  generalize (lg_sl ([.ref h, .int y]) ++ List.replicate (3 - (lg_sl ([.ref h, .int y])).length) Slot.unset).toArray = ls at hl ⊢
  have hl : lv_has ls 3 [(0, .ref h), (1, .int y)] := hl
  refine lv_iload_n hx hb dX3_mouldIn_0 rfl (lv_at hl 1 rfl) ?_
  refine lv_aload_n hx hb dX3_mouldIn_1 rfl (lv_at hl 0 rfl) ?_
  refine va_get (D := D) (ci := 5) (v := .int m0) (C := RX5) (T := TX5) (N := 3) hx hb hts (fun w h => List.mem_cons_of_mem _ (List.mem_append_right _ h)) hown hK hPr 0 rfl rfl 2 (by decide) (hts (Cond.fieldLink RX3 25 "JamDays$Jar" "mouldEachYear" "I") (List.mem_of_getElem? (i := 1) rfl)) (fun _ h9 => h9) rfl dX3_mouldIn_2 ?_
  refine lv_imul hx hb dX3_mouldIn_5 ?_
  refine lv_istore_n (lv' := [(2, .int (y * m0)), (0, .ref h), (1, .int y)]) hx hb dX3_mouldIn_6 rfl hl (by decide) rfl (fun ls hl => ?_)
  refine lv_iload_n hx hb dX3_mouldIn_7 rfl (lv_at hl 0 rfl) ?_
  refine lv_bipush (v := 20) hx hb dX3_mouldIn_8 (by decide) ?_
  refine lv_icmp_ge (tgt := 17) hx hb dX3_mouldIn_10 (by decide) (fun c_1 => ?_) (fun c_1 => ?_)
  · skip
    refine lv_bipush (v := 20) hx hb dX3_mouldIn_17 (by decide) ?_
    exact W.iret (v := 20) hx hb hr (fun t ht hW => ⟨⟨20, (), rfl, (by simp [jmo, c_1]), trivial⟩, hS.F ht⟩) hS.2.2 dX3_mouldIn_19
  · skip
    refine lv_iload_n hx hb dX3_mouldIn_13 rfl (lv_at hl 0 rfl) ?_
    refine lv_goto (tgt := 19) hx hb dX3_mouldIn_14 (by decide) ?_
    exact W.iret (v := y * m0) hx hb hr (fun t ht hW => ⟨⟨y * m0, (), rfl, (by simp [jmo, c_1]), trivial⟩, hS.F ht⟩) hS.2.2 dX3_mouldIn_19

set_option maxHeartbeats 4000000 in
set_option maxRecDepth 100000 in
theorem c_firstWorthIn_0 (l : Launch) (D : va_G) (cI cJ : ClassId) (h : Nat) (g : Int32) (s0 : Int32) (m0 : Int32) (y : Int32)  : jRi l yX3_firstWorthIn wsX3_firstWorthIn ({ frames := 1, cells := 0, slots := 0, locals := 22 }) [.ref h, .int y] D cI cJ (fun H => va_P D vwCl [(h, .inr (0, [.int g, .int s0, .int m0]))] H) (fun r => r = cfw 0 g m0 y) := by
  intro sz
  refine Met.ofW (cc := cX3_firstWorthIn) (maxL := 2) (ret := (some .int)) (by decide) rfl ?_
  intro p e s m args below meth c s₁ B hml hv
  obtain ⟨rfl, hsz, hT, hPr⟩ := hv
  have hK := hT.1
  have hx := B.exec
  have hb := B.bytes
  have hr := B.returns
  have hts := atoms_spec (ws := wsX3_firstWorthIn) B.pre
  have hown : s.vm.findClass RX3 = some m.cls := findClass_of_methodNamed B.named
  have hlocks := B.notSynchronized
  subst hsz
  generalize hAe : va_A [] s.heap.size = A
  have hA : ∀ q : Nat, s.heap.size ≤ q → A q := fun q h => by rw [← hAe]; exact Or.inr h
  have hS : va_S A s.heap s.heap [] := va_S.rf
  have hl := lv_entry ([.ref h, .int y] : List Value) (n := 2) (Nat.le_of_ble_eq_true rfl)
  rw [lg_entry_eq]
  generalize (lg_sl ([.ref h, .int y]) ++ List.replicate (2 - (lg_sl ([.ref h, .int y])).length) Slot.unset).toArray = ls at hl ⊢
  have hl : lv_has ls 2 [(0, .ref h), (1, .int y)] := hl
  refine lv_aload_n hx hb dX3_firstWorthIn_0 rfl (lv_at hl 0 rfl) ?_
  refine va_get (D := D) (ci := 0) (v := .int g) (C := RX0) (T := TX0) (N := 3) hx hb hts (fun w h => List.mem_cons_of_mem _ (List.mem_append_left _ (List.mem_append_left _ (List.mem_append_left _ (List.mem_append_left _ (List.mem_append_right _ h)))))) hown hK hPr 0 rfl rfl 0 (by decide) (hts (Cond.fieldLink RX3 18 "JamDays$Jar" "good" "I") (List.mem_of_getElem? (i := 1) rfl)) (fun _ h9 => h9) rfl dX3_firstWorthIn_1 ?_
  refine lv_aload_n hx hb dX3_firstWorthIn_4 rfl (lv_at hl 0 rfl) ?_
  refine lv_iload_n hx hb dX3_firstWorthIn_5 rfl (lv_at hl 1 rfl) ?_
  have hPc_1 := hPr.sub (ws' := [(h, .inr (0, [.int g, .int s0, .int m0]))]) [0] rfl
  refine jcalli (va_runU (As := [.int y]) (rest := [.int g]) ⟨hx, hb, hml, hown, hts⟩ (c_mouldIn_0 l D cI cJ h g s0 m0 y s.heap.size) (va_cwU 1 hts gX3_firstWorthIn_X3_mouldIn_u34X0 rfl rfl rfl rfl (by decide +kernel) ⟨Nat.le_of_ble_eq_true rfl, Nat.le_of_ble_eq_true rfl⟩) (jpreV hT (va_recv hK hPr (ci := 0) (q0 := 0) rfl rfl) hPc_1) rfl rfl hl.1 rfl (lv_room (Nat.le_of_ble_eq_true rfl)) dX3_firstWorthIn_6 ⟨(Nat.zero_le _), (Nat.zero_le _)⟩) hS hA (fun r_2 H locs hw_r_2 hkq hS => ?_)
  try dsimp only at hw_r_2
  have hPr := jkeep hPr hkq
  subst hw_r_2
  refine lv_isub hx hb dX3_firstWorthIn_9 ?_
  exact W.iret (v := g - (jmo m0 y)) hx hb hr (fun t ht hW => ⟨⟨g - (jmo m0 y), (), rfl, rfl, trivial⟩, hS.F ht⟩) hS.2.2 dX3_firstWorthIn_10

set_option maxHeartbeats 4000000 in
set_option maxRecDepth 100000 in
theorem c_firstWorthIn_3 (l : Launch) (D : va_G) (cI cJ : ClassId) (h : Nat) (g : Int32) (s0 : Int32) (m0 : Int32) (y : Int32)  : jRi l yX3_firstWorthIn wsX3_firstWorthIn ({ frames := 1, cells := 0, slots := 0, locals := 22 }) [.ref h, .int y] D cI cJ (fun H => va_P D vwCl [(h, .inr (3, [.int g, .int s0, .int m0]))] H) (fun r => r = cfw 3 g m0 y) := by
  intro sz
  refine Met.ofW (cc := cX3_firstWorthIn) (maxL := 2) (ret := (some .int)) (by decide) rfl ?_
  intro p e s m args below meth c s₁ B hml hv
  obtain ⟨rfl, hsz, hT, hPr⟩ := hv
  have hK := hT.1
  have hx := B.exec
  have hb := B.bytes
  have hr := B.returns
  have hts := atoms_spec (ws := wsX3_firstWorthIn) B.pre
  have hown : s.vm.findClass RX3 = some m.cls := findClass_of_methodNamed B.named
  have hlocks := B.notSynchronized
  subst hsz
  generalize hAe : va_A [] s.heap.size = A
  have hA : ∀ q : Nat, s.heap.size ≤ q → A q := fun q h => by rw [← hAe]; exact Or.inr h
  have hS : va_S A s.heap s.heap [] := va_S.rf
  have hl := lv_entry ([.ref h, .int y] : List Value) (n := 2) (Nat.le_of_ble_eq_true rfl)
  rw [lg_entry_eq]
  generalize (lg_sl ([.ref h, .int y]) ++ List.replicate (2 - (lg_sl ([.ref h, .int y])).length) Slot.unset).toArray = ls at hl ⊢
  have hl : lv_has ls 2 [(0, .ref h), (1, .int y)] := hl
  refine lv_aload_n hx hb dX3_firstWorthIn_0 rfl (lv_at hl 0 rfl) ?_
  refine va_get (D := D) (ci := 3) (v := .int g) (C := RX3) (T := TX3) (N := 3) hx hb hts (fun w h => List.mem_cons_of_mem _ (List.mem_append_left _ (List.mem_append_left _ (List.mem_append_right _ h)))) hown hK hPr 0 rfl rfl 0 (by decide) (hts (Cond.fieldLink RX3 18 "JamDays$Jar" "good" "I") (List.mem_of_getElem? (i := 1) rfl)) (fun _ h9 => h9) rfl dX3_firstWorthIn_1 ?_
  refine lv_aload_n hx hb dX3_firstWorthIn_4 rfl (lv_at hl 0 rfl) ?_
  refine lv_iload_n hx hb dX3_firstWorthIn_5 rfl (lv_at hl 1 rfl) ?_
  have hPc_1 := hPr.sub (ws' := [(h, .inr (3, [.int g, .int s0, .int m0]))]) [0] rfl
  refine jcalli (va_runV (As := [.int y]) (rest := [.int g]) ⟨hx, hb, hml, hown, hts⟩ (c_mouldIn_3 l D cI cJ h g s0 m0 y s.heap.size) (cwV 1 hts gX3_firstWorthIn_X3_mouldIn rfl rfl rfl (by decide +kernel) ⟨Nat.le_of_ble_eq_true rfl, Nat.le_of_ble_eq_true rfl⟩) (jpreV hT (va_recv hK hPr (ci := 3) (q0 := 0) rfl rfl) hPc_1) rfl rfl hl.1 rfl (lv_room (Nat.le_of_ble_eq_true rfl)) dX3_firstWorthIn_6 ⟨(Nat.zero_le _), (Nat.zero_le _)⟩) hS hA (fun r_2 H locs hw_r_2 hkq hS => ?_)
  try dsimp only at hw_r_2
  have hPr := jkeep hPr hkq
  subst hw_r_2
  refine lv_isub hx hb dX3_firstWorthIn_9 ?_
  exact W.iret (v := g - (jmo m0 y)) hx hb hr (fun t ht hW => ⟨⟨g - (jmo m0 y), (), rfl, rfl, trivial⟩, hS.F ht⟩) hS.2.2 dX3_firstWorthIn_10

set_option maxHeartbeats 4000000 in
set_option maxRecDepth 100000 in
theorem c_firstWorthIn_5 (l : Launch) (D : va_G) (cI cJ : ClassId) (h : Nat) (g : Int32) (s0 : Int32) (m0 : Int32) (y : Int32)  : jRi l yX3_firstWorthIn wsX3_firstWorthIn ({ frames := 1, cells := 0, slots := 0, locals := 22 }) [.ref h, .int y] D cI cJ (fun H => va_P D vwCl [(h, .inr (5, [.int g, .int s0, .int m0]))] H) (fun r => r = cfw 5 g m0 y) := by
  intro sz
  refine Met.ofW (cc := cX3_firstWorthIn) (maxL := 2) (ret := (some .int)) (by decide) rfl ?_
  intro p e s m args below meth c s₁ B hml hv
  obtain ⟨rfl, hsz, hT, hPr⟩ := hv
  have hK := hT.1
  have hx := B.exec
  have hb := B.bytes
  have hr := B.returns
  have hts := atoms_spec (ws := wsX3_firstWorthIn) B.pre
  have hown : s.vm.findClass RX3 = some m.cls := findClass_of_methodNamed B.named
  have hlocks := B.notSynchronized
  subst hsz
  generalize hAe : va_A [] s.heap.size = A
  have hA : ∀ q : Nat, s.heap.size ≤ q → A q := fun q h => by rw [← hAe]; exact Or.inr h
  have hS : va_S A s.heap s.heap [] := va_S.rf
  have hl := lv_entry ([.ref h, .int y] : List Value) (n := 2) (Nat.le_of_ble_eq_true rfl)
  rw [lg_entry_eq]
  generalize (lg_sl ([.ref h, .int y]) ++ List.replicate (2 - (lg_sl ([.ref h, .int y])).length) Slot.unset).toArray = ls at hl ⊢
  have hl : lv_has ls 2 [(0, .ref h), (1, .int y)] := hl
  refine lv_aload_n hx hb dX3_firstWorthIn_0 rfl (lv_at hl 0 rfl) ?_
  refine va_get (D := D) (ci := 5) (v := .int g) (C := RX5) (T := TX5) (N := 3) hx hb hts (fun w h => List.mem_cons_of_mem _ (List.mem_append_right _ h)) hown hK hPr 0 rfl rfl 0 (by decide) (hts (Cond.fieldLink RX3 18 "JamDays$Jar" "good" "I") (List.mem_of_getElem? (i := 1) rfl)) (fun _ h9 => h9) rfl dX3_firstWorthIn_1 ?_
  refine lv_aload_n hx hb dX3_firstWorthIn_4 rfl (lv_at hl 0 rfl) ?_
  refine lv_iload_n hx hb dX3_firstWorthIn_5 rfl (lv_at hl 1 rfl) ?_
  have hPc_1 := hPr.sub (ws' := [(h, .inr (5, [.int g, .int s0, .int m0]))]) [0] rfl
  refine jcalli (va_runU (As := [.int y]) (rest := [.int g]) ⟨hx, hb, hml, hown, hts⟩ (c_mouldIn_5 l D cI cJ h g s0 m0 y s.heap.size) (va_cwU 1 hts gX3_firstWorthIn_X3_mouldIn_u34X5 rfl rfl rfl rfl (by decide +kernel) ⟨Nat.le_of_ble_eq_true rfl, Nat.le_of_ble_eq_true rfl⟩) (jpreV hT (va_recv hK hPr (ci := 5) (q0 := 0) rfl rfl) hPc_1) rfl rfl hl.1 rfl (lv_room (Nat.le_of_ble_eq_true rfl)) dX3_firstWorthIn_6 ⟨(Nat.zero_le _), (Nat.zero_le _)⟩) hS hA (fun r_2 H locs hw_r_2 hkq hS => ?_)
  try dsimp only at hw_r_2
  have hPr := jkeep hPr hkq
  subst hw_r_2
  refine lv_isub hx hb dX3_firstWorthIn_9 ?_
  exact W.iret (v := g - (jmo m0 y)) hx hb hr (fun t ht hW => ⟨⟨g - (jmo m0 y), (), rfl, rfl, trivial⟩, hS.F ht⟩) hS.2.2 dX3_firstWorthIn_10

set_option maxHeartbeats 4000000 in
set_option maxRecDepth 100000 in
theorem c_firstWorthIn_2 (l : Launch) (D : va_G) (cI cJ : ClassId) (h : Nat) (g : Int32) (s0 : Int32) (m0 : Int32) (y : Int32)  : jRi l yX2_firstWorthIn wsX2_firstWorthIn ({ frames := 1, cells := 0, slots := 0, locals := 22 }) [.ref h, .int y] D cI cJ (fun H => va_P D vwCl [(h, .inr (2, [.int g, .int s0, .int m0]))] H) (fun r => r = cfw 2 g m0 y) := by
  intro sz
  refine Met.ofW (cc := cX2_firstWorthIn) (maxL := 2) (ret := (some .int)) (by decide) rfl ?_
  intro p e s m args below meth c s₁ B hml hv
  obtain ⟨rfl, hsz, hT, hPr⟩ := hv
  have hK := hT.1
  have hx := B.exec
  have hb := B.bytes
  have hr := B.returns
  have hts := atoms_spec (ws := wsX2_firstWorthIn) B.pre
  have hown : s.vm.findClass RX2 = some m.cls := findClass_of_methodNamed B.named
  have hlocks := B.notSynchronized
  subst hsz
  generalize hAe : va_A [] s.heap.size = A
  have hA : ∀ q : Nat, s.heap.size ≤ q → A q := fun q h => by rw [← hAe]; exact Or.inr h
  have hS : va_S A s.heap s.heap [] := va_S.rf
  have hl := lv_entry ([.ref h, .int y] : List Value) (n := 2) (Nat.le_of_ble_eq_true rfl)
  rw [lg_entry_eq]
  generalize (lg_sl ([.ref h, .int y]) ++ List.replicate (2 - (lg_sl ([.ref h, .int y])).length) Slot.unset).toArray = ls at hl ⊢
  have hl : lv_has ls 2 [(0, .ref h), (1, .int y)] := hl
  refine lv_iconst (v := 2) hx hb dX2_firstWorthIn_0 (by decide) ?_
  refine lv_aload_n hx hb dX2_firstWorthIn_1 rfl (lv_at hl 0 rfl) ?_
  refine va_get (D := D) (ci := 2) (v := .int g) (C := RX2) (T := TX2) (N := 3) hx hb hts (fun w h => List.mem_cons_of_mem _ (List.mem_append_left _ (List.mem_append_left _ (List.mem_append_left _ (List.mem_append_right _ h))))) hown hK hPr 0 rfl rfl 0 (by decide) (hts (Cond.fieldLink RX2 9 "JamDays$Gold" "good" "I") (List.mem_of_getElem? (i := 1) rfl)) (u_same (hts (Cond.sameField "JamDays$Gold" "JamDays$Jar" "good" "I") (List.mem_of_getElem? (i := 2) rfl))) rfl dX2_firstWorthIn_2 ?_
  refine lv_aload_n hx hb dX2_firstWorthIn_5 rfl (lv_at hl 0 rfl) ?_
  refine lv_iload_n hx hb dX2_firstWorthIn_6 rfl (lv_at hl 1 rfl) ?_
  have hPc_1 := hPr.sub (ws' := [(h, .inr (2, [.int g, .int s0, .int m0]))]) [0] rfl
  refine jcalli (va_runU (As := [.int y]) (rest := [.int g, .int 2]) ⟨hx, hb, hml, hown, hts⟩ (c_mouldIn_2 l D cI cJ h g s0 m0 y s.heap.size) (va_cwU 1 hts gX2_firstWorthIn_X3_mouldIn_u15X2 rfl rfl rfl rfl (by decide +kernel) ⟨Nat.le_of_ble_eq_true rfl, Nat.le_of_ble_eq_true rfl⟩) (jpreV hT (va_recv hK hPr (ci := 2) (q0 := 0) rfl rfl) hPc_1) rfl rfl hl.1 rfl (lv_room (Nat.le_of_ble_eq_true rfl)) dX2_firstWorthIn_7 ⟨(Nat.zero_le _), (Nat.zero_le _)⟩) hS hA (fun r_2 H locs hw_r_2 hkq hS => ?_)
  try dsimp only at hw_r_2
  have hPr := jkeep hPr hkq
  subst hw_r_2
  refine lv_isub hx hb dX2_firstWorthIn_10 ?_
  refine lv_imul hx hb dX2_firstWorthIn_11 ?_
  exact W.iret (v := 2 * (g - (jmo m0 y))) hx hb hr (fun t ht hW => ⟨⟨2 * (g - (jmo m0 y)), (), rfl, rfl, trivial⟩, hS.F ht⟩) hS.2.2 dX2_firstWorthIn_12

set_option maxHeartbeats 4000000 in
set_option maxRecDepth 100000 in
theorem c_firstWorthIn_4 (l : Launch) (D : va_G) (cI cJ : ClassId) (h : Nat) (g : Int32) (s0 : Int32) (m0 : Int32) (y : Int32)  : jRi l yX4_firstWorthIn wsX4_firstWorthIn ({ frames := 1, cells := 0, slots := 0, locals := 22 }) [.ref h, .int y] D cI cJ (fun H => va_P D vwCl [(h, .inr (4, [.int g, .int s0, .int m0]))] H) (fun r => r = cfw 4 g m0 y) := by
  intro sz
  refine Met.ofW (cc := cX4_firstWorthIn) (maxL := 3) (ret := (some .int)) (by decide) rfl ?_
  intro p e s m args below meth c s₁ B hml hv
  obtain ⟨rfl, hsz, hT, hPr⟩ := hv
  have hK := hT.1
  have hx := B.exec
  have hb := B.bytes
  have hr := B.returns
  have hts := atoms_spec (ws := wsX4_firstWorthIn) B.pre
  have hown : s.vm.findClass RX4 = some m.cls := findClass_of_methodNamed B.named
  have hlocks := B.notSynchronized
  subst hsz
  generalize hAe : va_A [] s.heap.size = A
  have hA : ∀ q : Nat, s.heap.size ≤ q → A q := fun q h => by rw [← hAe]; exact Or.inr h
  have hS : va_S A s.heap s.heap [] := va_S.rf
  have hl := lv_entry ([.ref h, .int y] : List Value) (n := 3) (Nat.le_of_ble_eq_true rfl)
  rw [lg_entry_eq]
  generalize (lg_sl ([.ref h, .int y]) ++ List.replicate (3 - (lg_sl ([.ref h, .int y])).length) Slot.unset).toArray = ls at hl ⊢
  have hl : lv_has ls 3 [(0, .ref h), (1, .int y)] := hl
  refine lv_iload_n hx hb dX4_firstWorthIn_0 rfl (lv_at hl 1 rfl) ?_
  refine lv_iconst (v := 2) hx hb dX4_firstWorthIn_1 (by decide) ?_
  refine lv_irem hx hb dX4_firstWorthIn_2 (by decide) ?_
  refine lv_iconst (v := 1) hx hb dX4_firstWorthIn_3 (by decide) ?_
  refine lv_icmp_ne (tgt := 11) hx hb dX4_firstWorthIn_4 (by decide) (fun c_1 => ?_) (fun c_1 => ?_)
  · skip
    refine lv_iconst (v := 0) hx hb dX4_firstWorthIn_11 (by decide) ?_
    refine lv_istore_n (lv' := [(2, .int 0), (0, .ref h), (1, .int y)]) hx hb dX4_firstWorthIn_12 rfl hl (by decide) rfl (fun ls hl => ?_)
    refine lv_aload_n hx hb dX4_firstWorthIn_13 rfl (lv_at hl 1 rfl) ?_
    refine va_get (D := D) (ci := 4) (v := .int g) (C := RX4) (T := TX4) (N := 3) hx hb hts (fun w h => List.mem_cons_of_mem _ (List.mem_append_left _ (List.mem_append_right _ h))) hown hK hPr 0 rfl rfl 0 (by decide) (hts (Cond.fieldLink RX4 9 "JamDays$Plum" "good" "I") (List.mem_of_getElem? (i := 1) rfl)) (u_same (hts (Cond.sameField "JamDays$Plum" "JamDays$Jar" "good" "I") (List.mem_of_getElem? (i := 2) rfl))) rfl dX4_firstWorthIn_14 ?_
    refine lv_aload_n hx hb dX4_firstWorthIn_17 rfl (lv_at hl 1 rfl) ?_
    refine lv_iload_n hx hb dX4_firstWorthIn_18 rfl (lv_at hl 2 rfl) ?_
    have hPc_2 := hPr.sub (ws' := [(h, .inr (4, [.int g, .int s0, .int m0]))]) [0] rfl
    refine jcalli (va_runU (As := [.int y]) (rest := [.int g]) ⟨hx, hb, hml, hown, hts⟩ (c_mouldIn_4 l D cI cJ h g s0 m0 y s.heap.size) (va_cwU 1 hts gX4_firstWorthIn_X3_mouldIn_u15X4 rfl rfl rfl rfl (by decide +kernel) ⟨Nat.le_of_ble_eq_true rfl, Nat.le_of_ble_eq_true rfl⟩) (jpreV hT (va_recv hK hPr (ci := 4) (q0 := 0) rfl rfl) hPc_2) rfl rfl hl.1 rfl (lv_room (Nat.le_of_ble_eq_true rfl)) dX4_firstWorthIn_19 ⟨(Nat.zero_le _), (Nat.zero_le _)⟩) hS hA (fun r_3 H locs hw_r_3 hkq hS => ?_)
    try dsimp only at hw_r_3
    have hPr := jkeep hPr hkq
    subst hw_r_3
    refine lv_isub hx hb dX4_firstWorthIn_22 ?_
    refine lv_iload_n hx hb dX4_firstWorthIn_23 rfl (lv_at hl 0 rfl) ?_
    refine lv_iadd hx hb dX4_firstWorthIn_24 ?_
    exact W.iret (v := (g - (jmo m0 y)) + 0) hx hb hr (fun t ht hW => ⟨⟨(g - (jmo m0 y)) + 0, (), rfl, (by simp [cfw, c_1]), trivial⟩, hS.F ht⟩) hS.2.2 dX4_firstWorthIn_25
  · skip
    refine lv_iconst (v := 3) hx hb dX4_firstWorthIn_7 (by decide) ?_
    refine lv_goto (tgt := 12) hx hb dX4_firstWorthIn_8 (by decide) ?_
    refine lv_istore_n (lv' := [(2, .int 3), (0, .ref h), (1, .int y)]) hx hb dX4_firstWorthIn_12 rfl hl (by decide) rfl (fun ls hl => ?_)
    refine lv_aload_n hx hb dX4_firstWorthIn_13 rfl (lv_at hl 1 rfl) ?_
    refine va_get (D := D) (ci := 4) (v := .int g) (C := RX4) (T := TX4) (N := 3) hx hb hts (fun w h => List.mem_cons_of_mem _ (List.mem_append_left _ (List.mem_append_right _ h))) hown hK hPr 0 rfl rfl 0 (by decide) (hts (Cond.fieldLink RX4 9 "JamDays$Plum" "good" "I") (List.mem_of_getElem? (i := 1) rfl)) (u_same (hts (Cond.sameField "JamDays$Plum" "JamDays$Jar" "good" "I") (List.mem_of_getElem? (i := 2) rfl))) rfl dX4_firstWorthIn_14 ?_
    refine lv_aload_n hx hb dX4_firstWorthIn_17 rfl (lv_at hl 1 rfl) ?_
    refine lv_iload_n hx hb dX4_firstWorthIn_18 rfl (lv_at hl 2 rfl) ?_
    have hPc_4 := hPr.sub (ws' := [(h, .inr (4, [.int g, .int s0, .int m0]))]) [0] rfl
    refine jcalli (va_runU (As := [.int y]) (rest := [.int g]) ⟨hx, hb, hml, hown, hts⟩ (c_mouldIn_4 l D cI cJ h g s0 m0 y s.heap.size) (va_cwU 1 hts gX4_firstWorthIn_X3_mouldIn_u15X4 rfl rfl rfl rfl (by decide +kernel) ⟨Nat.le_of_ble_eq_true rfl, Nat.le_of_ble_eq_true rfl⟩) (jpreV hT (va_recv hK hPr (ci := 4) (q0 := 0) rfl rfl) hPc_4) rfl rfl hl.1 rfl (lv_room (Nat.le_of_ble_eq_true rfl)) dX4_firstWorthIn_19 ⟨(Nat.zero_le _), (Nat.zero_le _)⟩) hS hA (fun r_5 H locs hw_r_5 hkq hS => ?_)
    try dsimp only at hw_r_5
    have hPr := jkeep hPr hkq
    subst hw_r_5
    refine lv_isub hx hb dX4_firstWorthIn_22 ?_
    refine lv_iload_n hx hb dX4_firstWorthIn_23 rfl (lv_at hl 0 rfl) ?_
    refine lv_iadd hx hb dX4_firstWorthIn_24 ?_
    exact W.iret (v := (g - (jmo m0 y)) + 3) hx hb hr (fun t ht hW => ⟨⟨(g - (jmo m0 y)) + 3, (), rfl, (by simp [cfw, c_1]), trivial⟩, hS.F ht⟩) hS.2.2 dX4_firstWorthIn_25

set_option maxHeartbeats 4000000 in
set_option maxRecDepth 100000 in
theorem c_kindNumber_3 (l : Launch) (D : va_G) (cI cJ : ClassId) (h : Nat)  : jRi l yX3_kindNumber wsX3_kindNumber ({ frames := 0, cells := 0, slots := 0, locals := 0 }) [.ref h] D cI cJ (fun H => True) (fun r => r = ckn 3) := by
  intro sz
  refine Met.ofW (cc := cX3_kindNumber) (maxL := 1) (ret := (some .int)) (by decide) rfl ?_
  intro p e s m args below meth c s₁ B hml hv
  obtain ⟨rfl, hsz, hT, _⟩ := hv
  have hK := hT.1
  have hx := B.exec
  have hb := B.bytes
  have hr := B.returns
  have hts := atoms_spec (ws := wsX3_kindNumber) B.pre
  have hown : s.vm.findClass RX3 = some m.cls := findClass_of_methodNamed B.named
  have hlocks := B.notSynchronized
  subst hsz
  generalize hAe : va_A [] s.heap.size = A
  have hA : ∀ q : Nat, s.heap.size ≤ q → A q := fun q h => by rw [← hAe]; exact Or.inr h
  have hS : va_S A s.heap s.heap [] := va_S.rf
  have hl := lv_entry ([.ref h] : List Value) (n := 1) (Nat.le_of_ble_eq_true rfl)
  rw [lg_entry_eq]
  generalize (lg_sl ([.ref h]) ++ List.replicate (1 - (lg_sl ([.ref h])).length) Slot.unset).toArray = ls at hl ⊢
  have hl : lv_has ls 1 [(0, .ref h)] := hl
  refine lv_iconst (v := 0) hx hb dX3_kindNumber_0 (by decide) ?_
  exact W.iret (v := 0) hx hb hr (fun t ht hW => ⟨⟨0, (), rfl, rfl, trivial⟩, hS.F ht⟩) hS.2.2 dX3_kindNumber_1

set_option maxHeartbeats 4000000 in
set_option maxRecDepth 100000 in
theorem c_kindNumber_5 (l : Launch) (D : va_G) (cI cJ : ClassId) (h : Nat)  : jRi l yX5_kindNumber wsX5_kindNumber ({ frames := 0, cells := 0, slots := 0, locals := 0 }) [.ref h] D cI cJ (fun H => True) (fun r => r = ckn 5) := by
  intro sz
  refine Met.ofW (cc := cX5_kindNumber) (maxL := 1) (ret := (some .int)) (by decide) rfl ?_
  intro p e s m args below meth c s₁ B hml hv
  obtain ⟨rfl, hsz, hT, _⟩ := hv
  have hK := hT.1
  have hx := B.exec
  have hb := B.bytes
  have hr := B.returns
  have hts := atoms_spec (ws := wsX5_kindNumber) B.pre
  have hown : s.vm.findClass RX5 = some m.cls := findClass_of_methodNamed B.named
  have hlocks := B.notSynchronized
  subst hsz
  generalize hAe : va_A [] s.heap.size = A
  have hA : ∀ q : Nat, s.heap.size ≤ q → A q := fun q h => by rw [← hAe]; exact Or.inr h
  have hS : va_S A s.heap s.heap [] := va_S.rf
  have hl := lv_entry ([.ref h] : List Value) (n := 1) (Nat.le_of_ble_eq_true rfl)
  rw [lg_entry_eq]
  generalize (lg_sl ([.ref h]) ++ List.replicate (1 - (lg_sl ([.ref h])).length) Slot.unset).toArray = ls at hl ⊢
  have hl : lv_has ls 1 [(0, .ref h)] := hl
  refine lv_iconst (v := 1) hx hb dX5_kindNumber_0 (by decide) ?_
  exact W.iret (v := 1) hx hb hr (fun t ht hW => ⟨⟨1, (), rfl, rfl, trivial⟩, hS.F ht⟩) hS.2.2 dX5_kindNumber_1

set_option maxHeartbeats 4000000 in
set_option maxRecDepth 100000 in
theorem c_kindNumber_0 (l : Launch) (D : va_G) (cI cJ : ClassId) (h : Nat)  : jRi l yX0_kindNumber wsX0_kindNumber ({ frames := 0, cells := 0, slots := 0, locals := 0 }) [.ref h] D cI cJ (fun H => True) (fun r => r = ckn 0) := by
  intro sz
  refine Met.ofW (cc := cX0_kindNumber) (maxL := 1) (ret := (some .int)) (by decide) rfl ?_
  intro p e s m args below meth c s₁ B hml hv
  obtain ⟨rfl, hsz, hT, _⟩ := hv
  have hK := hT.1
  have hx := B.exec
  have hb := B.bytes
  have hr := B.returns
  have hts := atoms_spec (ws := wsX0_kindNumber) B.pre
  have hown : s.vm.findClass RX0 = some m.cls := findClass_of_methodNamed B.named
  have hlocks := B.notSynchronized
  subst hsz
  generalize hAe : va_A [] s.heap.size = A
  have hA : ∀ q : Nat, s.heap.size ≤ q → A q := fun q h => by rw [← hAe]; exact Or.inr h
  have hS : va_S A s.heap s.heap [] := va_S.rf
  have hl := lv_entry ([.ref h] : List Value) (n := 1) (Nat.le_of_ble_eq_true rfl)
  rw [lg_entry_eq]
  generalize (lg_sl ([.ref h]) ++ List.replicate (1 - (lg_sl ([.ref h])).length) Slot.unset).toArray = ls at hl ⊢
  have hl : lv_has ls 1 [(0, .ref h)] := hl
  refine lv_iconst (v := 2) hx hb dX0_kindNumber_0 (by decide) ?_
  exact W.iret (v := 2) hx hb hr (fun t ht hW => ⟨⟨2, (), rfl, rfl, trivial⟩, hS.F ht⟩) hS.2.2 dX0_kindNumber_1

set_option maxHeartbeats 4000000 in
set_option maxRecDepth 100000 in
theorem c_kindNumber_4 (l : Launch) (D : va_G) (cI cJ : ClassId) (h : Nat)  : jRi l yX4_kindNumber wsX4_kindNumber ({ frames := 0, cells := 0, slots := 0, locals := 0 }) [.ref h] D cI cJ (fun H => True) (fun r => r = ckn 4) := by
  intro sz
  refine Met.ofW (cc := cX4_kindNumber) (maxL := 1) (ret := (some .int)) (by decide) rfl ?_
  intro p e s m args below meth c s₁ B hml hv
  obtain ⟨rfl, hsz, hT, _⟩ := hv
  have hK := hT.1
  have hx := B.exec
  have hb := B.bytes
  have hr := B.returns
  have hts := atoms_spec (ws := wsX4_kindNumber) B.pre
  have hown : s.vm.findClass RX4 = some m.cls := findClass_of_methodNamed B.named
  have hlocks := B.notSynchronized
  subst hsz
  generalize hAe : va_A [] s.heap.size = A
  have hA : ∀ q : Nat, s.heap.size ≤ q → A q := fun q h => by rw [← hAe]; exact Or.inr h
  have hS : va_S A s.heap s.heap [] := va_S.rf
  have hl := lv_entry ([.ref h] : List Value) (n := 1) (Nat.le_of_ble_eq_true rfl)
  rw [lg_entry_eq]
  generalize (lg_sl ([.ref h]) ++ List.replicate (1 - (lg_sl ([.ref h])).length) Slot.unset).toArray = ls at hl ⊢
  have hl : lv_has ls 1 [(0, .ref h)] := hl
  refine lv_iconst (v := 3) hx hb dX4_kindNumber_0 (by decide) ?_
  exact W.iret (v := 3) hx hb hr (fun t ht hW => ⟨⟨3, (), rfl, rfl, trivial⟩, hS.F ht⟩) hS.2.2 dX4_kindNumber_1

set_option maxHeartbeats 4000000 in
set_option maxRecDepth 100000 in
theorem c_kindNumber_2 (l : Launch) (D : va_G) (cI cJ : ClassId) (h : Nat)  : jRi l yX2_kindNumber wsX2_kindNumber ({ frames := 0, cells := 0, slots := 0, locals := 0 }) [.ref h] D cI cJ (fun H => True) (fun r => r = ckn 2) := by
  intro sz
  refine Met.ofW (cc := cX2_kindNumber) (maxL := 1) (ret := (some .int)) (by decide) rfl ?_
  intro p e s m args below meth c s₁ B hml hv
  obtain ⟨rfl, hsz, hT, _⟩ := hv
  have hK := hT.1
  have hx := B.exec
  have hb := B.bytes
  have hr := B.returns
  have hts := atoms_spec (ws := wsX2_kindNumber) B.pre
  have hown : s.vm.findClass RX2 = some m.cls := findClass_of_methodNamed B.named
  have hlocks := B.notSynchronized
  subst hsz
  generalize hAe : va_A [] s.heap.size = A
  have hA : ∀ q : Nat, s.heap.size ≤ q → A q := fun q h => by rw [← hAe]; exact Or.inr h
  have hS : va_S A s.heap s.heap [] := va_S.rf
  have hl := lv_entry ([.ref h] : List Value) (n := 1) (Nat.le_of_ble_eq_true rfl)
  rw [lg_entry_eq]
  generalize (lg_sl ([.ref h]) ++ List.replicate (1 - (lg_sl ([.ref h])).length) Slot.unset).toArray = ls at hl ⊢
  have hl : lv_has ls 1 [(0, .ref h)] := hl
  refine lv_iconst (v := 4) hx hb dX2_kindNumber_0 (by decide) ?_
  exact W.iret (v := 4) hx hb hr (fun t ht hW => ⟨⟨4, (), rfl, rfl, trivial⟩, hS.F ht⟩) hS.2.2 dX2_kindNumber_1

set_option maxHeartbeats 4000000 in
set_option maxRecDepth 100000 in
theorem c_Jar_init3_0 (l : Launch) (D : va_G) (cI cJ : ClassId) (h : Nat) (v0 : Value) (v1 : Value) (v2 : Value) (g : Int32) (s0 : Int32) (m0 : Int32)  : jWv l yX3_init_ wsX3_init_ ({ frames := 1, cells := 0, slots := 0, locals := 12 }) 0 0 [.ref h, .int g, .int s0, .int m0] D cI cJ [(h, .inr (0, [v0, v1, v2]))] (fun H => True) (fun H => va_P D vwCl [(h, .inr (0, [.int g, .int s0, .int m0]))] H) := by
  intro sz
  refine Met.ofW (cc := cX3_init_) (maxL := 4) (ret := none) (by decide) rfl ?_
  intro p e s m args below meth c s₁ B hml hv
  obtain ⟨rfl, hsz, hT, hP, hD0, _⟩ := hv
  have hK := hT.1
  have hx := B.exec
  have hb := B.bytes
  have hr := B.returns
  have hts := atoms_spec (ws := wsX3_init_) B.pre
  have hown : s.vm.findClass RX3 = some m.cls := findClass_of_methodNamed B.named
  have hlocks := B.notSynchronized
  have hin : meth.name = "<init>" := (name_of_methodNamed B.named B.method).1
  subst hsz
  have hD := hD0.self (sz := s.heap.size)
  generalize hAe : va_A [(h, .inr (0, [v0, v1, v2]))] s.heap.size = A at hD ⊢
  have hA : ∀ q : Nat, s.heap.size ≤ q → A q := fun q h => by rw [← hAe]; exact Or.inr h
  have hS : va_S A s.heap s.heap [] := va_S.rf
  have hl := lv_entry ([.ref h, .int g, .int s0, .int m0] : List Value) (n := 4) (Nat.le_of_ble_eq_true rfl)
  rw [lg_entry_eq]
  generalize (lg_sl ([.ref h, .int g, .int s0, .int m0]) ++ List.replicate (4 - (lg_sl ([.ref h, .int g, .int s0, .int m0])).length) Slot.unset).toArray = ls at hl ⊢
  have hl : lv_has ls 4 [(0, .ref h), (1, .int g), (2, .int s0), (3, .int m0)] := hl
  refine lv_aload_n hx hb dX3_init__0 rfl (lv_at hl 0 rfl) ?_
  refine W.objInit hx hb hown (hts (Cond.methodLink RX3 13 objectInit) (List.mem_of_getElem? (i := 1) rfl)) (hts (Cond.instanceMethod objectInit) (List.mem_of_getElem? (i := 2) rfl)) (hts _ (List.mem_of_getElem? (i := 3) rfl)) rfl (by rw [hml]; exact hl.1) rfl dX3_init__1 (Nat.le_of_ble_eq_true rfl) (Nat.le_of_ble_eq_true rfl) ?_
  refine W.eq (g2 := F0 m 4 ls []) rfl ?_
  refine lv_aload_n hx hb dX3_init__4 rfl (lv_at hl 0 rfl) ?_
  refine lv_iload_n hx hb dX3_init__5 rfl (lv_at hl 1 rfl) ?_
  refine va_putF (D := D) (ci := 0) (v := .int g) (ty := .int) (C := RX0) (T := TX0) (N := 3) hx hb hts (fun w h => List.mem_cons_of_mem _ (List.mem_append_left _ (List.mem_append_left _ (List.mem_append_left _ (List.mem_append_left _ (List.mem_append_right _ h)))))) tyX0 tyX0_ok nmX0 hown hK hP hD hS 0 rfl rfl 0 (by decide) (hts (Cond.fieldLink RX3 18 "JamDays$Jar" "good" "I") (List.mem_of_getElem? (i := 4) rfl)) (fun _ h9 => h9) rfl hin rfl (by decide +kernel) rfl rfl (Nat.le_of_ble_eq_true rfl) dX3_init__6 (fun H locs hP hD hS => ?_)
  have hP : va_P D vwCl [(h, .inr (0, [.int g, v1, v2]))] H := hP
  have hD : va_D A [(h, .inr (0, [.int g, v1, v2]))] := hD
  refine lv_aload_n hx hb dX3_init__9 rfl (lv_at hl 0 rfl) ?_
  refine lv_iload_n hx hb dX3_init__10 rfl (lv_at hl 2 rfl) ?_
  refine va_putF (D := D) (ci := 0) (v := .int s0) (ty := .int) (C := RX0) (T := TX0) (N := 3) hx hb hts (fun w h => List.mem_cons_of_mem _ (List.mem_append_left _ (List.mem_append_left _ (List.mem_append_left _ (List.mem_append_left _ (List.mem_append_right _ h)))))) tyX0 tyX0_ok nmX0 hown hK hP hD hS 0 rfl rfl 1 (by decide) (hts (Cond.fieldLink RX3 22 "JamDays$Jar" "sugar" "I") (List.mem_of_getElem? (i := 5) rfl)) (fun _ h9 => h9) rfl hin rfl (by decide +kernel) rfl rfl (Nat.le_of_ble_eq_true rfl) dX3_init__11 (fun H locs hP hD hS => ?_)
  have hP : va_P D vwCl [(h, .inr (0, [.int g, .int s0, v2]))] H := hP
  have hD : va_D A [(h, .inr (0, [.int g, .int s0, v2]))] := hD
  refine lv_aload_n hx hb dX3_init__14 rfl (lv_at hl 0 rfl) ?_
  refine lv_iload_n hx hb dX3_init__15 rfl (lv_at hl 3 rfl) ?_
  refine va_putF (D := D) (ci := 0) (v := .int m0) (ty := .int) (C := RX0) (T := TX0) (N := 3) hx hb hts (fun w h => List.mem_cons_of_mem _ (List.mem_append_left _ (List.mem_append_left _ (List.mem_append_left _ (List.mem_append_left _ (List.mem_append_right _ h)))))) tyX0 tyX0_ok nmX0 hown hK hP hD hS 0 rfl rfl 2 (by decide) (hts (Cond.fieldLink RX3 25 "JamDays$Jar" "mouldEachYear" "I") (List.mem_of_getElem? (i := 6) rfl)) (fun _ h9 => h9) rfl hin rfl (by decide +kernel) rfl rfl (Nat.le_of_ble_eq_true rfl) dX3_init__16 (fun H locs hP hD hS => ?_)
  have hP : va_P D vwCl [(h, .inr (0, [.int g, .int s0, .int m0]))] H := hP
  have hD : va_D A [(h, .inr (0, [.int g, .int s0, .int m0]))] := hD
  exact W.vret hx hb hr (fun t ht hW => ⟨⟨(), rfl, trivial, by dsimp only; rw [ht]; exact hP⟩, hS.F ht⟩) hS.2.2 dX3_init__19

set_option maxHeartbeats 4000000 in
set_option maxRecDepth 100000 in
theorem c_Jar_init3_2 (l : Launch) (D : va_G) (cI cJ : ClassId) (h : Nat) (v0 : Value) (v1 : Value) (v2 : Value) (g : Int32) (s0 : Int32) (m0 : Int32)  : jWv l yX3_init_ wsX3_init_ ({ frames := 1, cells := 0, slots := 0, locals := 12 }) 0 0 [.ref h, .int g, .int s0, .int m0] D cI cJ [(h, .inr (2, [v0, v1, v2]))] (fun H => True) (fun H => va_P D vwCl [(h, .inr (2, [.int g, .int s0, .int m0]))] H) := by
  intro sz
  refine Met.ofW (cc := cX3_init_) (maxL := 4) (ret := none) (by decide) rfl ?_
  intro p e s m args below meth c s₁ B hml hv
  obtain ⟨rfl, hsz, hT, hP, hD0, _⟩ := hv
  have hK := hT.1
  have hx := B.exec
  have hb := B.bytes
  have hr := B.returns
  have hts := atoms_spec (ws := wsX3_init_) B.pre
  have hown : s.vm.findClass RX3 = some m.cls := findClass_of_methodNamed B.named
  have hlocks := B.notSynchronized
  have hin : meth.name = "<init>" := (name_of_methodNamed B.named B.method).1
  subst hsz
  have hD := hD0.self (sz := s.heap.size)
  generalize hAe : va_A [(h, .inr (2, [v0, v1, v2]))] s.heap.size = A at hD ⊢
  have hA : ∀ q : Nat, s.heap.size ≤ q → A q := fun q h => by rw [← hAe]; exact Or.inr h
  have hS : va_S A s.heap s.heap [] := va_S.rf
  have hl := lv_entry ([.ref h, .int g, .int s0, .int m0] : List Value) (n := 4) (Nat.le_of_ble_eq_true rfl)
  rw [lg_entry_eq]
  generalize (lg_sl ([.ref h, .int g, .int s0, .int m0]) ++ List.replicate (4 - (lg_sl ([.ref h, .int g, .int s0, .int m0])).length) Slot.unset).toArray = ls at hl ⊢
  have hl : lv_has ls 4 [(0, .ref h), (1, .int g), (2, .int s0), (3, .int m0)] := hl
  refine lv_aload_n hx hb dX3_init__0 rfl (lv_at hl 0 rfl) ?_
  refine W.objInit hx hb hown (hts (Cond.methodLink RX3 13 objectInit) (List.mem_of_getElem? (i := 1) rfl)) (hts (Cond.instanceMethod objectInit) (List.mem_of_getElem? (i := 2) rfl)) (hts _ (List.mem_of_getElem? (i := 3) rfl)) rfl (by rw [hml]; exact hl.1) rfl dX3_init__1 (Nat.le_of_ble_eq_true rfl) (Nat.le_of_ble_eq_true rfl) ?_
  refine W.eq (g2 := F0 m 4 ls []) rfl ?_
  refine lv_aload_n hx hb dX3_init__4 rfl (lv_at hl 0 rfl) ?_
  refine lv_iload_n hx hb dX3_init__5 rfl (lv_at hl 1 rfl) ?_
  refine va_putF (D := D) (ci := 2) (v := .int g) (ty := .int) (C := RX2) (T := TX2) (N := 3) hx hb hts (fun w h => List.mem_cons_of_mem _ (List.mem_append_left _ (List.mem_append_left _ (List.mem_append_left _ (List.mem_append_right _ h))))) tyX2 tyX2_ok nmX2 hown hK hP hD hS 0 rfl rfl 0 (by decide) (hts (Cond.fieldLink RX3 18 "JamDays$Jar" "good" "I") (List.mem_of_getElem? (i := 4) rfl)) (fun _ h9 => h9) rfl hin rfl (by decide +kernel) rfl rfl (Nat.le_of_ble_eq_true rfl) dX3_init__6 (fun H locs hP hD hS => ?_)
  have hP : va_P D vwCl [(h, .inr (2, [.int g, v1, v2]))] H := hP
  have hD : va_D A [(h, .inr (2, [.int g, v1, v2]))] := hD
  refine lv_aload_n hx hb dX3_init__9 rfl (lv_at hl 0 rfl) ?_
  refine lv_iload_n hx hb dX3_init__10 rfl (lv_at hl 2 rfl) ?_
  refine va_putF (D := D) (ci := 2) (v := .int s0) (ty := .int) (C := RX2) (T := TX2) (N := 3) hx hb hts (fun w h => List.mem_cons_of_mem _ (List.mem_append_left _ (List.mem_append_left _ (List.mem_append_left _ (List.mem_append_right _ h))))) tyX2 tyX2_ok nmX2 hown hK hP hD hS 0 rfl rfl 1 (by decide) (hts (Cond.fieldLink RX3 22 "JamDays$Jar" "sugar" "I") (List.mem_of_getElem? (i := 5) rfl)) (fun _ h9 => h9) rfl hin rfl (by decide +kernel) rfl rfl (Nat.le_of_ble_eq_true rfl) dX3_init__11 (fun H locs hP hD hS => ?_)
  have hP : va_P D vwCl [(h, .inr (2, [.int g, .int s0, v2]))] H := hP
  have hD : va_D A [(h, .inr (2, [.int g, .int s0, v2]))] := hD
  refine lv_aload_n hx hb dX3_init__14 rfl (lv_at hl 0 rfl) ?_
  refine lv_iload_n hx hb dX3_init__15 rfl (lv_at hl 3 rfl) ?_
  refine va_putF (D := D) (ci := 2) (v := .int m0) (ty := .int) (C := RX2) (T := TX2) (N := 3) hx hb hts (fun w h => List.mem_cons_of_mem _ (List.mem_append_left _ (List.mem_append_left _ (List.mem_append_left _ (List.mem_append_right _ h))))) tyX2 tyX2_ok nmX2 hown hK hP hD hS 0 rfl rfl 2 (by decide) (hts (Cond.fieldLink RX3 25 "JamDays$Jar" "mouldEachYear" "I") (List.mem_of_getElem? (i := 6) rfl)) (fun _ h9 => h9) rfl hin rfl (by decide +kernel) rfl rfl (Nat.le_of_ble_eq_true rfl) dX3_init__16 (fun H locs hP hD hS => ?_)
  have hP : va_P D vwCl [(h, .inr (2, [.int g, .int s0, .int m0]))] H := hP
  have hD : va_D A [(h, .inr (2, [.int g, .int s0, .int m0]))] := hD
  exact W.vret hx hb hr (fun t ht hW => ⟨⟨(), rfl, trivial, by dsimp only; rw [ht]; exact hP⟩, hS.F ht⟩) hS.2.2 dX3_init__19

set_option maxHeartbeats 4000000 in
set_option maxRecDepth 100000 in
theorem c_Jar_init3_3 (l : Launch) (D : va_G) (cI cJ : ClassId) (h : Nat) (v0 : Value) (v1 : Value) (v2 : Value) (g : Int32) (s0 : Int32) (m0 : Int32)  : jWv l yX3_init_ wsX3_init_ ({ frames := 1, cells := 0, slots := 0, locals := 12 }) 0 0 [.ref h, .int g, .int s0, .int m0] D cI cJ [(h, .inr (3, [v0, v1, v2]))] (fun H => True) (fun H => va_P D vwCl [(h, .inr (3, [.int g, .int s0, .int m0]))] H) := by
  intro sz
  refine Met.ofW (cc := cX3_init_) (maxL := 4) (ret := none) (by decide) rfl ?_
  intro p e s m args below meth c s₁ B hml hv
  obtain ⟨rfl, hsz, hT, hP, hD0, _⟩ := hv
  have hK := hT.1
  have hx := B.exec
  have hb := B.bytes
  have hr := B.returns
  have hts := atoms_spec (ws := wsX3_init_) B.pre
  have hown : s.vm.findClass RX3 = some m.cls := findClass_of_methodNamed B.named
  have hlocks := B.notSynchronized
  have hin : meth.name = "<init>" := (name_of_methodNamed B.named B.method).1
  subst hsz
  have hD := hD0.self (sz := s.heap.size)
  generalize hAe : va_A [(h, .inr (3, [v0, v1, v2]))] s.heap.size = A at hD ⊢
  have hA : ∀ q : Nat, s.heap.size ≤ q → A q := fun q h => by rw [← hAe]; exact Or.inr h
  have hS : va_S A s.heap s.heap [] := va_S.rf
  have hl := lv_entry ([.ref h, .int g, .int s0, .int m0] : List Value) (n := 4) (Nat.le_of_ble_eq_true rfl)
  rw [lg_entry_eq]
  generalize (lg_sl ([.ref h, .int g, .int s0, .int m0]) ++ List.replicate (4 - (lg_sl ([.ref h, .int g, .int s0, .int m0])).length) Slot.unset).toArray = ls at hl ⊢
  have hl : lv_has ls 4 [(0, .ref h), (1, .int g), (2, .int s0), (3, .int m0)] := hl
  refine lv_aload_n hx hb dX3_init__0 rfl (lv_at hl 0 rfl) ?_
  refine W.objInit hx hb hown (hts (Cond.methodLink RX3 13 objectInit) (List.mem_of_getElem? (i := 1) rfl)) (hts (Cond.instanceMethod objectInit) (List.mem_of_getElem? (i := 2) rfl)) (hts _ (List.mem_of_getElem? (i := 3) rfl)) rfl (by rw [hml]; exact hl.1) rfl dX3_init__1 (Nat.le_of_ble_eq_true rfl) (Nat.le_of_ble_eq_true rfl) ?_
  refine W.eq (g2 := F0 m 4 ls []) rfl ?_
  refine lv_aload_n hx hb dX3_init__4 rfl (lv_at hl 0 rfl) ?_
  refine lv_iload_n hx hb dX3_init__5 rfl (lv_at hl 1 rfl) ?_
  refine va_putF (D := D) (ci := 3) (v := .int g) (ty := .int) (C := RX3) (T := TX3) (N := 3) hx hb hts (fun w h => List.mem_cons_of_mem _ (List.mem_append_left _ (List.mem_append_left _ (List.mem_append_right _ h)))) tyX3 tyX3_ok nmX3 hown hK hP hD hS 0 rfl rfl 0 (by decide) (hts (Cond.fieldLink RX3 18 "JamDays$Jar" "good" "I") (List.mem_of_getElem? (i := 4) rfl)) (fun _ h9 => h9) rfl hin rfl (by decide +kernel) rfl rfl (Nat.le_of_ble_eq_true rfl) dX3_init__6 (fun H locs hP hD hS => ?_)
  have hP : va_P D vwCl [(h, .inr (3, [.int g, v1, v2]))] H := hP
  have hD : va_D A [(h, .inr (3, [.int g, v1, v2]))] := hD
  refine lv_aload_n hx hb dX3_init__9 rfl (lv_at hl 0 rfl) ?_
  refine lv_iload_n hx hb dX3_init__10 rfl (lv_at hl 2 rfl) ?_
  refine va_putF (D := D) (ci := 3) (v := .int s0) (ty := .int) (C := RX3) (T := TX3) (N := 3) hx hb hts (fun w h => List.mem_cons_of_mem _ (List.mem_append_left _ (List.mem_append_left _ (List.mem_append_right _ h)))) tyX3 tyX3_ok nmX3 hown hK hP hD hS 0 rfl rfl 1 (by decide) (hts (Cond.fieldLink RX3 22 "JamDays$Jar" "sugar" "I") (List.mem_of_getElem? (i := 5) rfl)) (fun _ h9 => h9) rfl hin rfl (by decide +kernel) rfl rfl (Nat.le_of_ble_eq_true rfl) dX3_init__11 (fun H locs hP hD hS => ?_)
  have hP : va_P D vwCl [(h, .inr (3, [.int g, .int s0, v2]))] H := hP
  have hD : va_D A [(h, .inr (3, [.int g, .int s0, v2]))] := hD
  refine lv_aload_n hx hb dX3_init__14 rfl (lv_at hl 0 rfl) ?_
  refine lv_iload_n hx hb dX3_init__15 rfl (lv_at hl 3 rfl) ?_
  refine va_putF (D := D) (ci := 3) (v := .int m0) (ty := .int) (C := RX3) (T := TX3) (N := 3) hx hb hts (fun w h => List.mem_cons_of_mem _ (List.mem_append_left _ (List.mem_append_left _ (List.mem_append_right _ h)))) tyX3 tyX3_ok nmX3 hown hK hP hD hS 0 rfl rfl 2 (by decide) (hts (Cond.fieldLink RX3 25 "JamDays$Jar" "mouldEachYear" "I") (List.mem_of_getElem? (i := 6) rfl)) (fun _ h9 => h9) rfl hin rfl (by decide +kernel) rfl rfl (Nat.le_of_ble_eq_true rfl) dX3_init__16 (fun H locs hP hD hS => ?_)
  have hP : va_P D vwCl [(h, .inr (3, [.int g, .int s0, .int m0]))] H := hP
  have hD : va_D A [(h, .inr (3, [.int g, .int s0, .int m0]))] := hD
  exact W.vret hx hb hr (fun t ht hW => ⟨⟨(), rfl, trivial, by dsimp only; rw [ht]; exact hP⟩, hS.F ht⟩) hS.2.2 dX3_init__19

set_option maxHeartbeats 4000000 in
set_option maxRecDepth 100000 in
theorem c_Jar_init3_4 (l : Launch) (D : va_G) (cI cJ : ClassId) (h : Nat) (v0 : Value) (v1 : Value) (v2 : Value) (g : Int32) (s0 : Int32) (m0 : Int32)  : jWv l yX3_init_ wsX3_init_ ({ frames := 1, cells := 0, slots := 0, locals := 12 }) 0 0 [.ref h, .int g, .int s0, .int m0] D cI cJ [(h, .inr (4, [v0, v1, v2]))] (fun H => True) (fun H => va_P D vwCl [(h, .inr (4, [.int g, .int s0, .int m0]))] H) := by
  intro sz
  refine Met.ofW (cc := cX3_init_) (maxL := 4) (ret := none) (by decide) rfl ?_
  intro p e s m args below meth c s₁ B hml hv
  obtain ⟨rfl, hsz, hT, hP, hD0, _⟩ := hv
  have hK := hT.1
  have hx := B.exec
  have hb := B.bytes
  have hr := B.returns
  have hts := atoms_spec (ws := wsX3_init_) B.pre
  have hown : s.vm.findClass RX3 = some m.cls := findClass_of_methodNamed B.named
  have hlocks := B.notSynchronized
  have hin : meth.name = "<init>" := (name_of_methodNamed B.named B.method).1
  subst hsz
  have hD := hD0.self (sz := s.heap.size)
  generalize hAe : va_A [(h, .inr (4, [v0, v1, v2]))] s.heap.size = A at hD ⊢
  have hA : ∀ q : Nat, s.heap.size ≤ q → A q := fun q h => by rw [← hAe]; exact Or.inr h
  have hS : va_S A s.heap s.heap [] := va_S.rf
  have hl := lv_entry ([.ref h, .int g, .int s0, .int m0] : List Value) (n := 4) (Nat.le_of_ble_eq_true rfl)
  rw [lg_entry_eq]
  generalize (lg_sl ([.ref h, .int g, .int s0, .int m0]) ++ List.replicate (4 - (lg_sl ([.ref h, .int g, .int s0, .int m0])).length) Slot.unset).toArray = ls at hl ⊢
  have hl : lv_has ls 4 [(0, .ref h), (1, .int g), (2, .int s0), (3, .int m0)] := hl
  refine lv_aload_n hx hb dX3_init__0 rfl (lv_at hl 0 rfl) ?_
  refine W.objInit hx hb hown (hts (Cond.methodLink RX3 13 objectInit) (List.mem_of_getElem? (i := 1) rfl)) (hts (Cond.instanceMethod objectInit) (List.mem_of_getElem? (i := 2) rfl)) (hts _ (List.mem_of_getElem? (i := 3) rfl)) rfl (by rw [hml]; exact hl.1) rfl dX3_init__1 (Nat.le_of_ble_eq_true rfl) (Nat.le_of_ble_eq_true rfl) ?_
  refine W.eq (g2 := F0 m 4 ls []) rfl ?_
  refine lv_aload_n hx hb dX3_init__4 rfl (lv_at hl 0 rfl) ?_
  refine lv_iload_n hx hb dX3_init__5 rfl (lv_at hl 1 rfl) ?_
  refine va_putF (D := D) (ci := 4) (v := .int g) (ty := .int) (C := RX4) (T := TX4) (N := 3) hx hb hts (fun w h => List.mem_cons_of_mem _ (List.mem_append_left _ (List.mem_append_right _ h))) tyX4 tyX4_ok nmX4 hown hK hP hD hS 0 rfl rfl 0 (by decide) (hts (Cond.fieldLink RX3 18 "JamDays$Jar" "good" "I") (List.mem_of_getElem? (i := 4) rfl)) (fun _ h9 => h9) rfl hin rfl (by decide +kernel) rfl rfl (Nat.le_of_ble_eq_true rfl) dX3_init__6 (fun H locs hP hD hS => ?_)
  have hP : va_P D vwCl [(h, .inr (4, [.int g, v1, v2]))] H := hP
  have hD : va_D A [(h, .inr (4, [.int g, v1, v2]))] := hD
  refine lv_aload_n hx hb dX3_init__9 rfl (lv_at hl 0 rfl) ?_
  refine lv_iload_n hx hb dX3_init__10 rfl (lv_at hl 2 rfl) ?_
  refine va_putF (D := D) (ci := 4) (v := .int s0) (ty := .int) (C := RX4) (T := TX4) (N := 3) hx hb hts (fun w h => List.mem_cons_of_mem _ (List.mem_append_left _ (List.mem_append_right _ h))) tyX4 tyX4_ok nmX4 hown hK hP hD hS 0 rfl rfl 1 (by decide) (hts (Cond.fieldLink RX3 22 "JamDays$Jar" "sugar" "I") (List.mem_of_getElem? (i := 5) rfl)) (fun _ h9 => h9) rfl hin rfl (by decide +kernel) rfl rfl (Nat.le_of_ble_eq_true rfl) dX3_init__11 (fun H locs hP hD hS => ?_)
  have hP : va_P D vwCl [(h, .inr (4, [.int g, .int s0, v2]))] H := hP
  have hD : va_D A [(h, .inr (4, [.int g, .int s0, v2]))] := hD
  refine lv_aload_n hx hb dX3_init__14 rfl (lv_at hl 0 rfl) ?_
  refine lv_iload_n hx hb dX3_init__15 rfl (lv_at hl 3 rfl) ?_
  refine va_putF (D := D) (ci := 4) (v := .int m0) (ty := .int) (C := RX4) (T := TX4) (N := 3) hx hb hts (fun w h => List.mem_cons_of_mem _ (List.mem_append_left _ (List.mem_append_right _ h))) tyX4 tyX4_ok nmX4 hown hK hP hD hS 0 rfl rfl 2 (by decide) (hts (Cond.fieldLink RX3 25 "JamDays$Jar" "mouldEachYear" "I") (List.mem_of_getElem? (i := 6) rfl)) (fun _ h9 => h9) rfl hin rfl (by decide +kernel) rfl rfl (Nat.le_of_ble_eq_true rfl) dX3_init__16 (fun H locs hP hD hS => ?_)
  have hP : va_P D vwCl [(h, .inr (4, [.int g, .int s0, .int m0]))] H := hP
  have hD : va_D A [(h, .inr (4, [.int g, .int s0, .int m0]))] := hD
  exact W.vret hx hb hr (fun t ht hW => ⟨⟨(), rfl, trivial, by dsimp only; rw [ht]; exact hP⟩, hS.F ht⟩) hS.2.2 dX3_init__19

set_option maxHeartbeats 4000000 in
set_option maxRecDepth 100000 in
theorem c_Jar_init3_5 (l : Launch) (D : va_G) (cI cJ : ClassId) (h : Nat) (v0 : Value) (v1 : Value) (v2 : Value) (g : Int32) (s0 : Int32) (m0 : Int32)  : jWv l yX3_init_ wsX3_init_ ({ frames := 1, cells := 0, slots := 0, locals := 12 }) 0 0 [.ref h, .int g, .int s0, .int m0] D cI cJ [(h, .inr (5, [v0, v1, v2]))] (fun H => True) (fun H => va_P D vwCl [(h, .inr (5, [.int g, .int s0, .int m0]))] H) := by
  intro sz
  refine Met.ofW (cc := cX3_init_) (maxL := 4) (ret := none) (by decide) rfl ?_
  intro p e s m args below meth c s₁ B hml hv
  obtain ⟨rfl, hsz, hT, hP, hD0, _⟩ := hv
  have hK := hT.1
  have hx := B.exec
  have hb := B.bytes
  have hr := B.returns
  have hts := atoms_spec (ws := wsX3_init_) B.pre
  have hown : s.vm.findClass RX3 = some m.cls := findClass_of_methodNamed B.named
  have hlocks := B.notSynchronized
  have hin : meth.name = "<init>" := (name_of_methodNamed B.named B.method).1
  subst hsz
  have hD := hD0.self (sz := s.heap.size)
  generalize hAe : va_A [(h, .inr (5, [v0, v1, v2]))] s.heap.size = A at hD ⊢
  have hA : ∀ q : Nat, s.heap.size ≤ q → A q := fun q h => by rw [← hAe]; exact Or.inr h
  have hS : va_S A s.heap s.heap [] := va_S.rf
  have hl := lv_entry ([.ref h, .int g, .int s0, .int m0] : List Value) (n := 4) (Nat.le_of_ble_eq_true rfl)
  rw [lg_entry_eq]
  generalize (lg_sl ([.ref h, .int g, .int s0, .int m0]) ++ List.replicate (4 - (lg_sl ([.ref h, .int g, .int s0, .int m0])).length) Slot.unset).toArray = ls at hl ⊢
  have hl : lv_has ls 4 [(0, .ref h), (1, .int g), (2, .int s0), (3, .int m0)] := hl
  refine lv_aload_n hx hb dX3_init__0 rfl (lv_at hl 0 rfl) ?_
  refine W.objInit hx hb hown (hts (Cond.methodLink RX3 13 objectInit) (List.mem_of_getElem? (i := 1) rfl)) (hts (Cond.instanceMethod objectInit) (List.mem_of_getElem? (i := 2) rfl)) (hts _ (List.mem_of_getElem? (i := 3) rfl)) rfl (by rw [hml]; exact hl.1) rfl dX3_init__1 (Nat.le_of_ble_eq_true rfl) (Nat.le_of_ble_eq_true rfl) ?_
  refine W.eq (g2 := F0 m 4 ls []) rfl ?_
  refine lv_aload_n hx hb dX3_init__4 rfl (lv_at hl 0 rfl) ?_
  refine lv_iload_n hx hb dX3_init__5 rfl (lv_at hl 1 rfl) ?_
  refine va_putF (D := D) (ci := 5) (v := .int g) (ty := .int) (C := RX5) (T := TX5) (N := 3) hx hb hts (fun w h => List.mem_cons_of_mem _ (List.mem_append_right _ h)) tyX5 tyX5_ok nmX5 hown hK hP hD hS 0 rfl rfl 0 (by decide) (hts (Cond.fieldLink RX3 18 "JamDays$Jar" "good" "I") (List.mem_of_getElem? (i := 4) rfl)) (fun _ h9 => h9) rfl hin rfl (by decide +kernel) rfl rfl (Nat.le_of_ble_eq_true rfl) dX3_init__6 (fun H locs hP hD hS => ?_)
  have hP : va_P D vwCl [(h, .inr (5, [.int g, v1, v2]))] H := hP
  have hD : va_D A [(h, .inr (5, [.int g, v1, v2]))] := hD
  refine lv_aload_n hx hb dX3_init__9 rfl (lv_at hl 0 rfl) ?_
  refine lv_iload_n hx hb dX3_init__10 rfl (lv_at hl 2 rfl) ?_
  refine va_putF (D := D) (ci := 5) (v := .int s0) (ty := .int) (C := RX5) (T := TX5) (N := 3) hx hb hts (fun w h => List.mem_cons_of_mem _ (List.mem_append_right _ h)) tyX5 tyX5_ok nmX5 hown hK hP hD hS 0 rfl rfl 1 (by decide) (hts (Cond.fieldLink RX3 22 "JamDays$Jar" "sugar" "I") (List.mem_of_getElem? (i := 5) rfl)) (fun _ h9 => h9) rfl hin rfl (by decide +kernel) rfl rfl (Nat.le_of_ble_eq_true rfl) dX3_init__11 (fun H locs hP hD hS => ?_)
  have hP : va_P D vwCl [(h, .inr (5, [.int g, .int s0, v2]))] H := hP
  have hD : va_D A [(h, .inr (5, [.int g, .int s0, v2]))] := hD
  refine lv_aload_n hx hb dX3_init__14 rfl (lv_at hl 0 rfl) ?_
  refine lv_iload_n hx hb dX3_init__15 rfl (lv_at hl 3 rfl) ?_
  refine va_putF (D := D) (ci := 5) (v := .int m0) (ty := .int) (C := RX5) (T := TX5) (N := 3) hx hb hts (fun w h => List.mem_cons_of_mem _ (List.mem_append_right _ h)) tyX5 tyX5_ok nmX5 hown hK hP hD hS 0 rfl rfl 2 (by decide) (hts (Cond.fieldLink RX3 25 "JamDays$Jar" "mouldEachYear" "I") (List.mem_of_getElem? (i := 6) rfl)) (fun _ h9 => h9) rfl hin rfl (by decide +kernel) rfl rfl (Nat.le_of_ble_eq_true rfl) dX3_init__16 (fun H locs hP hD hS => ?_)
  have hP : va_P D vwCl [(h, .inr (5, [.int g, .int s0, .int m0]))] H := hP
  have hD : va_D A [(h, .inr (5, [.int g, .int s0, .int m0]))] := hD
  exact W.vret hx hb hr (fun t ht hW => ⟨⟨(), rfl, trivial, by dsimp only; rw [ht]; exact hP⟩, hS.F ht⟩) hS.2.2 dX3_init__19

set_option maxHeartbeats 4000000 in
set_option maxRecDepth 100000 in
theorem c_Jar_init2_3 (l : Launch) (D : va_G) (cI cJ : ClassId) (h : Nat) (v0 : Value) (v1 : Value) (v2 : Value) (g : Int32) (s0 : Int32)  : jWv l yX3_init wsX3_init ({ frames := 2, cells := 0, slots := 0, locals := 41 }) 0 0 [.ref h, .int g, .int s0] D cI cJ [(h, .inr (3, [v0, v1, v2]))] (fun H => True) (fun H => va_P D vwCl [(h, .inr (3, [.int g, .int s0, .int (jpm s0)]))] H) := by
  intro sz
  refine Met.ofW (cc := cX3_init) (maxL := 3) (ret := none) (by decide) rfl ?_
  intro p e s m args below meth c s₁ B hml hv
  obtain ⟨rfl, hsz, hT, hP, hD0, _⟩ := hv
  have hK := hT.1
  have hx := B.exec
  have hb := B.bytes
  have hr := B.returns
  have hts := atoms_spec (ws := wsX3_init) B.pre
  have hown : s.vm.findClass RX3 = some m.cls := findClass_of_methodNamed B.named
  have hlocks := B.notSynchronized
  have hin : meth.name = "<init>" := (name_of_methodNamed B.named B.method).1
  subst hsz
  have hD := hD0.self (sz := s.heap.size)
  generalize hAe : va_A [(h, .inr (3, [v0, v1, v2]))] s.heap.size = A at hD ⊢
  have hA : ∀ q : Nat, s.heap.size ≤ q → A q := fun q h => by rw [← hAe]; exact Or.inr h
  have hS : va_S A s.heap s.heap [] := va_S.rf
  have hl := lv_entry ([.ref h, .int g, .int s0] : List Value) (n := 3) (Nat.le_of_ble_eq_true rfl)
  rw [lg_entry_eq]
  generalize (lg_sl ([.ref h, .int g, .int s0]) ++ List.replicate (3 - (lg_sl ([.ref h, .int g, .int s0])).length) Slot.unset).toArray = ls at hl ⊢
  have hl : lv_has ls 3 [(0, .ref h), (1, .int g), (2, .int s0)] := hl
  refine lv_aload_n hx hb dX3_init_0 rfl (lv_at hl 0 rfl) ?_
  refine lv_iload_n hx hb dX3_init_1 rfl (lv_at hl 1 rfl) ?_
  refine lv_iload_n hx hb dX3_init_2 rfl (lv_at hl 2 rfl) ?_
  refine lv_iload_n hx hb dX3_init_3 rfl (lv_at hl 2 rfl) ?_
  refine jcalli (va_runS (As := [.int s0]) (rest := [.int s0, .int g, .ref h]) ⟨hx, hb, hml, hown, hts⟩ (c_plainMould l D cI cJ s0 s.heap.size) (va_cwS 1 hts gX3_init_X3_plainMould rfl rfl rfl (by decide +kernel) ⟨Nat.le_of_ble_eq_true rfl, Nat.le_of_ble_eq_true rfl⟩) (jpreS hT trivial) rfl rfl hl.1 rfl (lv_room (Nat.le_of_ble_eq_true rfl)) dX3_init_4 ⟨(Nat.zero_le _), (Nat.zero_le _)⟩) hS hA (fun r_1 H locs hw_r_1 hkq hS => ?_)
  try dsimp only at hw_r_1
  have hP := jkeep hP hkq
  subst hw_r_1
  have hPc_2 := hP.sub (ws' := [(h, .inr (3, [v0, v1, v2]))]) [0] rfl
  have hDc_3 := hD.sub (ws' := [(h, .inr (3, [v0, v1, v2]))]) [0] (by decide) rfl
  have hFc_4 := va_free (wc := [(h, .inr (3, [v0, v1, v2]))]) hD hS hA [0] rfl
  refine jcallWv (va_runI (As := [.int g, .int s0, .int (jpm s0)]) (rest := []) ⟨hx, hb, hml, hown, hts⟩ (c_Jar_init3_3 l D cI cJ h v0 v1 v2 g s0 (jpm s0) H.size) (cwI 3 hts gX3_init_X3_init_ rfl rfl rfl (hts (Cond.initialized RX3) (List.mem_of_getElem? (i := 3) rfl)) (hts (Cond.methodLink RX3 9 yX3_init_) (List.mem_of_getElem? (i := 9) rfl)) (hts (Cond.instanceMethod yX3_init_) (List.mem_of_getElem? (i := 10) rfl)) rfl (by decide +kernel) ⟨Nat.le_of_ble_eq_true rfl, Nat.le_of_ble_eq_true rfl⟩) (jpreS hT ⟨hPc_2, hDc_3.weaken (fun _ _ _ _ => trivial), trivial⟩) rfl rfl hl.1 rfl (lv_room (Nat.le_of_ble_eq_true rfl)) dX3_init_7 ⟨(Nat.zero_le _), (Nat.zero_le _)⟩) hS hFc_4 (fun H locs hw_r_5 hz hkq hS => ?_)
  have hP1 := hw_r_5
  obtain ⟨hP, hD⟩ := jjoin (wc := [(h, .inr (3, [v0, v1, v2]))]) (wr := []) (w1 := [(h, .inr (3, [.int g, .int s0, .int (jpm s0)]))]) (ws' := [(h, .inr (3, [.int g, .int s0, .int (jpm s0)]))]) hP hD hFc_4 [0] [] [0] rfl rfl (by decide) (by decide) (by decide) (by decide) hkq hP1 rfl rfl rfl
  exact W.vret hx hb hr (fun t ht hW => ⟨⟨(), rfl, trivial, by dsimp only; rw [ht]; exact hP⟩, hS.F ht⟩) hS.2.2 dX3_init_10

set_option maxHeartbeats 4000000 in
set_option maxRecDepth 100000 in
theorem c_Jar_init2_4 (l : Launch) (D : va_G) (cI cJ : ClassId) (h : Nat) (v0 : Value) (v1 : Value) (v2 : Value) (g : Int32) (s0 : Int32)  : jWv l yX3_init wsX3_init ({ frames := 2, cells := 0, slots := 0, locals := 41 }) 0 0 [.ref h, .int g, .int s0] D cI cJ [(h, .inr (4, [v0, v1, v2]))] (fun H => True) (fun H => va_P D vwCl [(h, .inr (4, [.int g, .int s0, .int (jpm s0)]))] H) := by
  intro sz
  refine Met.ofW (cc := cX3_init) (maxL := 3) (ret := none) (by decide) rfl ?_
  intro p e s m args below meth c s₁ B hml hv
  obtain ⟨rfl, hsz, hT, hP, hD0, _⟩ := hv
  have hK := hT.1
  have hx := B.exec
  have hb := B.bytes
  have hr := B.returns
  have hts := atoms_spec (ws := wsX3_init) B.pre
  have hown : s.vm.findClass RX3 = some m.cls := findClass_of_methodNamed B.named
  have hlocks := B.notSynchronized
  have hin : meth.name = "<init>" := (name_of_methodNamed B.named B.method).1
  subst hsz
  have hD := hD0.self (sz := s.heap.size)
  generalize hAe : va_A [(h, .inr (4, [v0, v1, v2]))] s.heap.size = A at hD ⊢
  have hA : ∀ q : Nat, s.heap.size ≤ q → A q := fun q h => by rw [← hAe]; exact Or.inr h
  have hS : va_S A s.heap s.heap [] := va_S.rf
  have hl := lv_entry ([.ref h, .int g, .int s0] : List Value) (n := 3) (Nat.le_of_ble_eq_true rfl)
  rw [lg_entry_eq]
  generalize (lg_sl ([.ref h, .int g, .int s0]) ++ List.replicate (3 - (lg_sl ([.ref h, .int g, .int s0])).length) Slot.unset).toArray = ls at hl ⊢
  have hl : lv_has ls 3 [(0, .ref h), (1, .int g), (2, .int s0)] := hl
  refine lv_aload_n hx hb dX3_init_0 rfl (lv_at hl 0 rfl) ?_
  refine lv_iload_n hx hb dX3_init_1 rfl (lv_at hl 1 rfl) ?_
  refine lv_iload_n hx hb dX3_init_2 rfl (lv_at hl 2 rfl) ?_
  refine lv_iload_n hx hb dX3_init_3 rfl (lv_at hl 2 rfl) ?_
  refine jcalli (va_runS (As := [.int s0]) (rest := [.int s0, .int g, .ref h]) ⟨hx, hb, hml, hown, hts⟩ (c_plainMould l D cI cJ s0 s.heap.size) (va_cwS 1 hts gX3_init_X3_plainMould rfl rfl rfl (by decide +kernel) ⟨Nat.le_of_ble_eq_true rfl, Nat.le_of_ble_eq_true rfl⟩) (jpreS hT trivial) rfl rfl hl.1 rfl (lv_room (Nat.le_of_ble_eq_true rfl)) dX3_init_4 ⟨(Nat.zero_le _), (Nat.zero_le _)⟩) hS hA (fun r_1 H locs hw_r_1 hkq hS => ?_)
  try dsimp only at hw_r_1
  have hP := jkeep hP hkq
  subst hw_r_1
  have hPc_2 := hP.sub (ws' := [(h, .inr (4, [v0, v1, v2]))]) [0] rfl
  have hDc_3 := hD.sub (ws' := [(h, .inr (4, [v0, v1, v2]))]) [0] (by decide) rfl
  have hFc_4 := va_free (wc := [(h, .inr (4, [v0, v1, v2]))]) hD hS hA [0] rfl
  refine jcallWv (va_runI (As := [.int g, .int s0, .int (jpm s0)]) (rest := []) ⟨hx, hb, hml, hown, hts⟩ (c_Jar_init3_4 l D cI cJ h v0 v1 v2 g s0 (jpm s0) H.size) (cwI 3 hts gX3_init_X3_init_ rfl rfl rfl (hts (Cond.initialized RX3) (List.mem_of_getElem? (i := 3) rfl)) (hts (Cond.methodLink RX3 9 yX3_init_) (List.mem_of_getElem? (i := 9) rfl)) (hts (Cond.instanceMethod yX3_init_) (List.mem_of_getElem? (i := 10) rfl)) rfl (by decide +kernel) ⟨Nat.le_of_ble_eq_true rfl, Nat.le_of_ble_eq_true rfl⟩) (jpreS hT ⟨hPc_2, hDc_3.weaken (fun _ _ _ _ => trivial), trivial⟩) rfl rfl hl.1 rfl (lv_room (Nat.le_of_ble_eq_true rfl)) dX3_init_7 ⟨(Nat.zero_le _), (Nat.zero_le _)⟩) hS hFc_4 (fun H locs hw_r_5 hz hkq hS => ?_)
  have hP1 := hw_r_5
  obtain ⟨hP, hD⟩ := jjoin (wc := [(h, .inr (4, [v0, v1, v2]))]) (wr := []) (w1 := [(h, .inr (4, [.int g, .int s0, .int (jpm s0)]))]) (ws' := [(h, .inr (4, [.int g, .int s0, .int (jpm s0)]))]) hP hD hFc_4 [0] [] [0] rfl rfl (by decide) (by decide) (by decide) (by decide) hkq hP1 rfl rfl rfl
  exact W.vret hx hb hr (fun t ht hW => ⟨⟨(), rfl, trivial, by dsimp only; rw [ht]; exact hP⟩, hS.F ht⟩) hS.2.2 dX3_init_10

set_option maxHeartbeats 4000000 in
set_option maxRecDepth 100000 in
theorem c_Copper_init_0 (l : Launch) (D : va_G) (cI cJ : ClassId) (h : Nat) (v0 : Value) (v1 : Value) (v2 : Value) (g : Int32) (s0 : Int32)  : jWv l yX0_init wsX0_init ({ frames := 2, cells := 0, slots := 0, locals := 35 }) 0 0 [.ref h, .int g, .int s0] D cI cJ [(h, .inr (0, [v0, v1, v2]))] (fun H => True) (fun H => va_P D vwCl [(h, .inr (0, [.int g, .int s0, .int 0]))] H) := by
  intro sz
  refine Met.ofW (cc := cX0_init) (maxL := 3) (ret := none) (by decide) rfl ?_
  intro p e s m args below meth c s₁ B hml hv
  obtain ⟨rfl, hsz, hT, hP, hD0, _⟩ := hv
  have hK := hT.1
  have hx := B.exec
  have hb := B.bytes
  have hr := B.returns
  have hts := atoms_spec (ws := wsX0_init) B.pre
  have hown : s.vm.findClass RX0 = some m.cls := findClass_of_methodNamed B.named
  have hlocks := B.notSynchronized
  have hin : meth.name = "<init>" := (name_of_methodNamed B.named B.method).1
  subst hsz
  have hD := hD0.self (sz := s.heap.size)
  generalize hAe : va_A [(h, .inr (0, [v0, v1, v2]))] s.heap.size = A at hD ⊢
  have hA : ∀ q : Nat, s.heap.size ≤ q → A q := fun q h => by rw [← hAe]; exact Or.inr h
  have hS : va_S A s.heap s.heap [] := va_S.rf
  have hl := lv_entry ([.ref h, .int g, .int s0] : List Value) (n := 3) (Nat.le_of_ble_eq_true rfl)
  rw [lg_entry_eq]
  generalize (lg_sl ([.ref h, .int g, .int s0]) ++ List.replicate (3 - (lg_sl ([.ref h, .int g, .int s0])).length) Slot.unset).toArray = ls at hl ⊢
  have hl : lv_has ls 3 [(0, .ref h), (1, .int g), (2, .int s0)] := hl
  refine lv_aload_n hx hb dX0_init_0 rfl (lv_at hl 0 rfl) ?_
  refine lv_iload_n hx hb dX0_init_1 rfl (lv_at hl 1 rfl) ?_
  refine lv_iload_n hx hb dX0_init_2 rfl (lv_at hl 2 rfl) ?_
  refine lv_iconst (v := 0) hx hb dX0_init_3 (by decide) ?_
  have hPc_1 := hP.sub (ws' := [(h, .inr (0, [v0, v1, v2]))]) [0] rfl
  have hDc_2 := hD.sub (ws' := [(h, .inr (0, [v0, v1, v2]))]) [0] (by decide) rfl
  have hFc_3 := va_free (wc := [(h, .inr (0, [v0, v1, v2]))]) hD hS hA [0] rfl
  refine jcallWv (va_runI (As := [.int g, .int s0, .int 0]) (rest := []) ⟨hx, hb, hml, hown, hts⟩ (c_Jar_init3_0 l D cI cJ h v0 v1 v2 g s0 0 s.heap.size) (cwI 3 hts gX0_init_X3_init_ rfl rfl rfl (hts (Cond.initialized RX3) (List.mem_of_getElem? (i := 3) rfl)) (hts (Cond.methodLink RX0 3 yX3_init_) (List.mem_of_getElem? (i := 1) rfl)) (hts (Cond.instanceMethod yX3_init_) (List.mem_of_getElem? (i := 2) rfl)) rfl (by decide +kernel) ⟨Nat.le_of_ble_eq_true rfl, Nat.le_of_ble_eq_true rfl⟩) (jpreS hT ⟨hPc_1, hDc_2.weaken (fun _ _ _ _ => trivial), trivial⟩) rfl rfl hl.1 rfl (lv_room (Nat.le_of_ble_eq_true rfl)) dX0_init_4 ⟨(Nat.zero_le _), (Nat.zero_le _)⟩) hS hFc_3 (fun H locs hw_r_4 hz hkq hS => ?_)
  have hP1 := hw_r_4
  obtain ⟨hP, hD⟩ := jjoin (wc := [(h, .inr (0, [v0, v1, v2]))]) (wr := []) (w1 := [(h, .inr (0, [.int g, .int s0, .int 0]))]) (ws' := [(h, .inr (0, [.int g, .int s0, .int 0]))]) hP hD hFc_3 [0] [] [0] rfl rfl (by decide) (by decide) (by decide) (by decide) hkq hP1 rfl rfl rfl
  exact W.vret hx hb hr (fun t ht hW => ⟨⟨(), rfl, trivial, by dsimp only; rw [ht]; exact hP⟩, hS.F ht⟩) hS.2.2 dX0_init_7

set_option maxHeartbeats 4000000 in
set_option maxRecDepth 100000 in
theorem c_Copper_init_2 (l : Launch) (D : va_G) (cI cJ : ClassId) (h : Nat) (v0 : Value) (v1 : Value) (v2 : Value) (g : Int32) (s0 : Int32)  : jWv l yX0_init wsX0_init ({ frames := 2, cells := 0, slots := 0, locals := 35 }) 0 0 [.ref h, .int g, .int s0] D cI cJ [(h, .inr (2, [v0, v1, v2]))] (fun H => True) (fun H => va_P D vwCl [(h, .inr (2, [.int g, .int s0, .int 0]))] H) := by
  intro sz
  refine Met.ofW (cc := cX0_init) (maxL := 3) (ret := none) (by decide) rfl ?_
  intro p e s m args below meth c s₁ B hml hv
  obtain ⟨rfl, hsz, hT, hP, hD0, _⟩ := hv
  have hK := hT.1
  have hx := B.exec
  have hb := B.bytes
  have hr := B.returns
  have hts := atoms_spec (ws := wsX0_init) B.pre
  have hown : s.vm.findClass RX0 = some m.cls := findClass_of_methodNamed B.named
  have hlocks := B.notSynchronized
  have hin : meth.name = "<init>" := (name_of_methodNamed B.named B.method).1
  subst hsz
  have hD := hD0.self (sz := s.heap.size)
  generalize hAe : va_A [(h, .inr (2, [v0, v1, v2]))] s.heap.size = A at hD ⊢
  have hA : ∀ q : Nat, s.heap.size ≤ q → A q := fun q h => by rw [← hAe]; exact Or.inr h
  have hS : va_S A s.heap s.heap [] := va_S.rf
  have hl := lv_entry ([.ref h, .int g, .int s0] : List Value) (n := 3) (Nat.le_of_ble_eq_true rfl)
  rw [lg_entry_eq]
  generalize (lg_sl ([.ref h, .int g, .int s0]) ++ List.replicate (3 - (lg_sl ([.ref h, .int g, .int s0])).length) Slot.unset).toArray = ls at hl ⊢
  have hl : lv_has ls 3 [(0, .ref h), (1, .int g), (2, .int s0)] := hl
  refine lv_aload_n hx hb dX0_init_0 rfl (lv_at hl 0 rfl) ?_
  refine lv_iload_n hx hb dX0_init_1 rfl (lv_at hl 1 rfl) ?_
  refine lv_iload_n hx hb dX0_init_2 rfl (lv_at hl 2 rfl) ?_
  refine lv_iconst (v := 0) hx hb dX0_init_3 (by decide) ?_
  have hPc_1 := hP.sub (ws' := [(h, .inr (2, [v0, v1, v2]))]) [0] rfl
  have hDc_2 := hD.sub (ws' := [(h, .inr (2, [v0, v1, v2]))]) [0] (by decide) rfl
  have hFc_3 := va_free (wc := [(h, .inr (2, [v0, v1, v2]))]) hD hS hA [0] rfl
  refine jcallWv (va_runI (As := [.int g, .int s0, .int 0]) (rest := []) ⟨hx, hb, hml, hown, hts⟩ (c_Jar_init3_2 l D cI cJ h v0 v1 v2 g s0 0 s.heap.size) (cwI 3 hts gX0_init_X3_init_ rfl rfl rfl (hts (Cond.initialized RX3) (List.mem_of_getElem? (i := 3) rfl)) (hts (Cond.methodLink RX0 3 yX3_init_) (List.mem_of_getElem? (i := 1) rfl)) (hts (Cond.instanceMethod yX3_init_) (List.mem_of_getElem? (i := 2) rfl)) rfl (by decide +kernel) ⟨Nat.le_of_ble_eq_true rfl, Nat.le_of_ble_eq_true rfl⟩) (jpreS hT ⟨hPc_1, hDc_2.weaken (fun _ _ _ _ => trivial), trivial⟩) rfl rfl hl.1 rfl (lv_room (Nat.le_of_ble_eq_true rfl)) dX0_init_4 ⟨(Nat.zero_le _), (Nat.zero_le _)⟩) hS hFc_3 (fun H locs hw_r_4 hz hkq hS => ?_)
  have hP1 := hw_r_4
  obtain ⟨hP, hD⟩ := jjoin (wc := [(h, .inr (2, [v0, v1, v2]))]) (wr := []) (w1 := [(h, .inr (2, [.int g, .int s0, .int 0]))]) (ws' := [(h, .inr (2, [.int g, .int s0, .int 0]))]) hP hD hFc_3 [0] [] [0] rfl rfl (by decide) (by decide) (by decide) (by decide) hkq hP1 rfl rfl rfl
  exact W.vret hx hb hr (fun t ht hW => ⟨⟨(), rfl, trivial, by dsimp only; rw [ht]; exact hP⟩, hS.F ht⟩) hS.2.2 dX0_init_7

set_option maxHeartbeats 4000000 in
set_option maxRecDepth 100000 in
theorem c_Gold_init (l : Launch) (D : va_G) (cI cJ : ClassId) (h : Nat) (v0 : Value) (v1 : Value) (v2 : Value) (g : Int32) (s0 : Int32)  : jWv l yX2_init wsX2_init ({ frames := 3, cells := 0, slots := 0, locals := 57 }) 0 0 [.ref h, .int g, .int s0] D cI cJ [(h, .inr (2, [v0, v1, v2]))] (fun H => True) (fun H => va_P D vwCl [(h, .inr (2, [.int g, .int s0, .int 0]))] H) := by
  intro sz
  refine Met.ofW (cc := cX2_init) (maxL := 3) (ret := none) (by decide) rfl ?_
  intro p e s m args below meth c s₁ B hml hv
  obtain ⟨rfl, hsz, hT, hP, hD0, _⟩ := hv
  have hK := hT.1
  have hx := B.exec
  have hb := B.bytes
  have hr := B.returns
  have hts := atoms_spec (ws := wsX2_init) B.pre
  have hown : s.vm.findClass RX2 = some m.cls := findClass_of_methodNamed B.named
  have hlocks := B.notSynchronized
  have hin : meth.name = "<init>" := (name_of_methodNamed B.named B.method).1
  subst hsz
  have hD := hD0.self (sz := s.heap.size)
  generalize hAe : va_A [(h, .inr (2, [v0, v1, v2]))] s.heap.size = A at hD ⊢
  have hA : ∀ q : Nat, s.heap.size ≤ q → A q := fun q h => by rw [← hAe]; exact Or.inr h
  have hS : va_S A s.heap s.heap [] := va_S.rf
  have hl := lv_entry ([.ref h, .int g, .int s0] : List Value) (n := 3) (Nat.le_of_ble_eq_true rfl)
  rw [lg_entry_eq]
  generalize (lg_sl ([.ref h, .int g, .int s0]) ++ List.replicate (3 - (lg_sl ([.ref h, .int g, .int s0])).length) Slot.unset).toArray = ls at hl ⊢
  have hl : lv_has ls 3 [(0, .ref h), (1, .int g), (2, .int s0)] := hl
  refine lv_aload_n hx hb dX2_init_0 rfl (lv_at hl 0 rfl) ?_
  refine lv_iload_n hx hb dX2_init_1 rfl (lv_at hl 1 rfl) ?_
  refine lv_iload_n hx hb dX2_init_2 rfl (lv_at hl 2 rfl) ?_
  have hPc_1 := hP.sub (ws' := [(h, .inr (2, [v0, v1, v2]))]) [0] rfl
  have hDc_2 := hD.sub (ws' := [(h, .inr (2, [v0, v1, v2]))]) [0] (by decide) rfl
  have hFc_3 := va_free (wc := [(h, .inr (2, [v0, v1, v2]))]) hD hS hA [0] rfl
  refine jcallWv (va_runI (As := [.int g, .int s0]) (rest := []) ⟨hx, hb, hml, hown, hts⟩ (c_Copper_init_2 l D cI cJ h v0 v1 v2 g s0 s.heap.size) (cwI 2 hts gX2_init_X0_init rfl rfl rfl (hts (Cond.initialized RX0) (List.mem_of_getElem? (i := 3) rfl)) (hts (Cond.methodLink RX2 3 yX0_init) (List.mem_of_getElem? (i := 1) rfl)) (hts (Cond.instanceMethod yX0_init) (List.mem_of_getElem? (i := 2) rfl)) rfl (by decide +kernel) ⟨Nat.le_of_ble_eq_true rfl, Nat.le_of_ble_eq_true rfl⟩) (jpreS hT ⟨hPc_1, hDc_2.weaken (fun _ _ _ _ => trivial), trivial⟩) rfl rfl hl.1 rfl (lv_room (Nat.le_of_ble_eq_true rfl)) dX2_init_3 ⟨(Nat.zero_le _), (Nat.zero_le _)⟩) hS hFc_3 (fun H locs hw_r_4 hz hkq hS => ?_)
  have hP1 := hw_r_4
  obtain ⟨hP, hD⟩ := jjoin (wc := [(h, .inr (2, [v0, v1, v2]))]) (wr := []) (w1 := [(h, .inr (2, [.int g, .int s0, .int 0]))]) (ws' := [(h, .inr (2, [.int g, .int s0, .int 0]))]) hP hD hFc_3 [0] [] [0] rfl rfl (by decide) (by decide) (by decide) (by decide) hkq hP1 rfl rfl rfl
  exact W.vret hx hb hr (fun t ht hW => ⟨⟨(), rfl, trivial, by dsimp only; rw [ht]; exact hP⟩, hS.F ht⟩) hS.2.2 dX2_init_6

set_option maxHeartbeats 4000000 in
set_option maxRecDepth 100000 in
theorem c_Plum_init (l : Launch) (D : va_G) (cI cJ : ClassId) (h : Nat) (v0 : Value) (v1 : Value) (v2 : Value) (g : Int32) (s0 : Int32)  : jWv l yX4_init wsX4_init ({ frames := 3, cells := 0, slots := 0, locals := 63 }) 0 0 [.ref h, .int g, .int s0] D cI cJ [(h, .inr (4, [v0, v1, v2]))] (fun H => True) (fun H => va_P D vwCl [(h, .inr (4, [.int g, .int s0, .int (jpm s0)]))] H) := by
  intro sz
  refine Met.ofW (cc := cX4_init) (maxL := 3) (ret := none) (by decide) rfl ?_
  intro p e s m args below meth c s₁ B hml hv
  obtain ⟨rfl, hsz, hT, hP, hD0, _⟩ := hv
  have hK := hT.1
  have hx := B.exec
  have hb := B.bytes
  have hr := B.returns
  have hts := atoms_spec (ws := wsX4_init) B.pre
  have hown : s.vm.findClass RX4 = some m.cls := findClass_of_methodNamed B.named
  have hlocks := B.notSynchronized
  have hin : meth.name = "<init>" := (name_of_methodNamed B.named B.method).1
  subst hsz
  have hD := hD0.self (sz := s.heap.size)
  generalize hAe : va_A [(h, .inr (4, [v0, v1, v2]))] s.heap.size = A at hD ⊢
  have hA : ∀ q : Nat, s.heap.size ≤ q → A q := fun q h => by rw [← hAe]; exact Or.inr h
  have hS : va_S A s.heap s.heap [] := va_S.rf
  have hl := lv_entry ([.ref h, .int g, .int s0] : List Value) (n := 3) (Nat.le_of_ble_eq_true rfl)
  rw [lg_entry_eq]
  generalize (lg_sl ([.ref h, .int g, .int s0]) ++ List.replicate (3 - (lg_sl ([.ref h, .int g, .int s0])).length) Slot.unset).toArray = ls at hl ⊢
  have hl : lv_has ls 3 [(0, .ref h), (1, .int g), (2, .int s0)] := hl
  refine lv_aload_n hx hb dX4_init_0 rfl (lv_at hl 0 rfl) ?_
  refine lv_iload_n hx hb dX4_init_1 rfl (lv_at hl 1 rfl) ?_
  refine lv_iload_n hx hb dX4_init_2 rfl (lv_at hl 2 rfl) ?_
  have hPc_1 := hP.sub (ws' := [(h, .inr (4, [v0, v1, v2]))]) [0] rfl
  have hDc_2 := hD.sub (ws' := [(h, .inr (4, [v0, v1, v2]))]) [0] (by decide) rfl
  have hFc_3 := va_free (wc := [(h, .inr (4, [v0, v1, v2]))]) hD hS hA [0] rfl
  refine jcallWv (va_runI (As := [.int g, .int s0]) (rest := []) ⟨hx, hb, hml, hown, hts⟩ (c_Jar_init2_4 l D cI cJ h v0 v1 v2 g s0 s.heap.size) (cwI 2 hts gX4_init_X3_init rfl rfl rfl (hts (Cond.initialized RX3) (List.mem_of_getElem? (i := 3) rfl)) (hts (Cond.methodLink RX4 3 yX3_init) (List.mem_of_getElem? (i := 1) rfl)) (hts (Cond.instanceMethod yX3_init) (List.mem_of_getElem? (i := 2) rfl)) rfl (by decide +kernel) ⟨Nat.le_of_ble_eq_true rfl, Nat.le_of_ble_eq_true rfl⟩) (jpreS hT ⟨hPc_1, hDc_2.weaken (fun _ _ _ _ => trivial), trivial⟩) rfl rfl hl.1 rfl (lv_room (Nat.le_of_ble_eq_true rfl)) dX4_init_3 ⟨(Nat.zero_le _), (Nat.zero_le _)⟩) hS hFc_3 (fun H locs hw_r_4 hz hkq hS => ?_)
  have hP1 := hw_r_4
  obtain ⟨hP, hD⟩ := jjoin (wc := [(h, .inr (4, [v0, v1, v2]))]) (wr := []) (w1 := [(h, .inr (4, [.int g, .int s0, .int (jpm s0)]))]) (ws' := [(h, .inr (4, [.int g, .int s0, .int (jpm s0)]))]) hP hD hFc_3 [0] [] [0] rfl rfl (by decide) (by decide) (by decide) (by decide) hkq hP1 rfl rfl rfl
  exact W.vret hx hb hr (fun t ht hW => ⟨⟨(), rfl, trivial, by dsimp only; rw [ht]; exact hP⟩, hS.F ht⟩) hS.2.2 dX4_init_6
end
section
theorem jlt_le {a b : Int32} (h : a < b) (h2 : b ≤ a) : False := by rw [fa_lt] at h; rw [fa_le] at h2; omega
theorem jne {x a : Int32} {A : Int} (hA : a.toInt = A) (h : ¬ x = a) : ¬ A = x.toInt := fun e => h ((fa_eq x a).mpr (by rw [hA]; exact e.symm))
theorem jneN {n a : Nat} {A : Int} (hn : n < 2 ^ 31) (hA : A = (a : Int)) (h : ¬ n = a) : ¬ A = (nI n).toInt := by rw [nI_toInt hn, hA]; omega
/-- is it a jar's letter -/
def jkl (c : Int32) : Int32 := if c = 106 ∨ c = 119 ∨ c = 99 ∨ c = 112 ∨ c = 103 then 1 else 0
/-- has a larder this letter at place k, behind those ahead of it -/
def jft (k : Nat) (c : Int32) : Int32 := if 23 ≤ k then 0 else if k % 4 = 0 then jkl c else if k % 4 = 3 then (if c = 44 then 1 else 0) else (if c < 48 then 0 else if c ≤ 57 then 1 else 0)
theorem jkl_b (c : Int32) : jkl c = 0 ∨ jkl c = 1 := by unfold jkl; split <;> simp
theorem jft_b (k : Nat) (c : Int32) : jft k c = 0 ∨ jft k c = 1 := by
  unfold jft
  split
  · exact Or.inl rfl
  · split
    · exact jkl_b c
    · split <;> split <;> first | exact Or.inl rfl | exact Or.inr rfl | (split <;> first | exact Or.inl rfl | exact Or.inr rfl)
theorem jb_nar {r : Int32} (h : r = 0 ∨ r = 1) : narrow .boolean (.int r) = .int r := by rcases h with rfl | rfl <;> decide
set_option maxHeartbeats 4000000 in
set_option maxRecDepth 100000 in
theorem c_isKindLetter (l : Launch) (D : va_G) (cI cJ : ClassId) (p0 : Int32)  : jRi l yX6_isKindLetter wsX6_isKindLetter ({ frames := 0, cells := 0, slots := 0, locals := 0 }) [.int p0] D cI cJ (fun H => True) (fun r => r = jkl p0) := by
  intro sz
  refine Met.ofW (cc := cX6_isKindLetter) (maxL := 1) (ret := (some .boolean)) (by decide) rfl ?_
  intro p e s m args below meth c s₁ B hml hv
  obtain ⟨rfl, hsz, hT, _⟩ := hv
  have hK := hT.1
  have hx := B.exec
  have hb := B.bytes
  have hr := B.returns
  have hts := atoms_spec (ws := wsX6_isKindLetter) B.pre
  have hown : s.vm.findClass RX6 = some m.cls := findClass_of_methodNamed B.named
  have hlocks := B.notSynchronized
  subst hsz
  generalize hAe : va_A [] s.heap.size = A
  have hA : ∀ q : Nat, s.heap.size ≤ q → A q := fun q h => by rw [← hAe]; exact Or.inr h
  have hS : va_S A s.heap s.heap [] := va_S.rf
  have hl := lv_entry ([.int p0] : List Value) (n := 1) (Nat.le_of_ble_eq_true rfl)
  rw [lg_entry_eq]
  generalize (lg_sl ([.int p0]) ++ List.replicate (1 - (lg_sl ([.int p0])).length) Slot.unset).toArray = ls at hl ⊢
  have hl : lv_has ls 1 [(0, .int p0)] := hl
  refine lv_iload_n hx hb dX6_isKindLetter_0 rfl (lv_at hl 0 rfl) ?_
  refine lv_bipush (v := 106) hx hb dX6_isKindLetter_1 (by decide) ?_
  refine lv_icmp_eq (tgt := 30) hx hb dX6_isKindLetter_3 (by decide) (fun c_1 => ?_) (fun c_1 => ?_)
  · skip
    refine lv_iconst (v := 1) hx hb dX6_isKindLetter_30 (by decide) ?_
    refine lv_goto (tgt := 35) hx hb dX6_isKindLetter_31 (by decide) ?_
    exact W.zret (v := 1) hx hb hr (by decide) (fun t ht hW => ⟨⟨1, (), rfl, (by simp [jkl, c_1]), trivial⟩, hS.F ht⟩) hS.2.2 dX6_isKindLetter_35
  · skip
    refine lv_iload_n hx hb dX6_isKindLetter_6 rfl (lv_at hl 0 rfl) ?_
    refine lv_bipush (v := 119) hx hb dX6_isKindLetter_7 (by decide) ?_
    refine lv_icmp_eq (tgt := 30) hx hb dX6_isKindLetter_9 (by decide) (fun c_2 => ?_) (fun c_2 => ?_)
    · skip
      refine lv_iconst (v := 1) hx hb dX6_isKindLetter_30 (by decide) ?_
      refine lv_goto (tgt := 35) hx hb dX6_isKindLetter_31 (by decide) ?_
      exact W.zret (v := 1) hx hb hr (by decide) (fun t ht hW => ⟨⟨1, (), rfl, (by simp [jkl, c_1, c_2]), trivial⟩, hS.F ht⟩) hS.2.2 dX6_isKindLetter_35
    · skip
      refine lv_iload_n hx hb dX6_isKindLetter_12 rfl (lv_at hl 0 rfl) ?_
      refine lv_bipush (v := 99) hx hb dX6_isKindLetter_13 (by decide) ?_
      refine lv_icmp_eq (tgt := 30) hx hb dX6_isKindLetter_15 (by decide) (fun c_3 => ?_) (fun c_3 => ?_)
      · skip
        refine lv_iconst (v := 1) hx hb dX6_isKindLetter_30 (by decide) ?_
        refine lv_goto (tgt := 35) hx hb dX6_isKindLetter_31 (by decide) ?_
        exact W.zret (v := 1) hx hb hr (by decide) (fun t ht hW => ⟨⟨1, (), rfl, (by simp [jkl, c_1, c_2, c_3]), trivial⟩, hS.F ht⟩) hS.2.2 dX6_isKindLetter_35
      · skip
        refine lv_iload_n hx hb dX6_isKindLetter_18 rfl (lv_at hl 0 rfl) ?_
        refine lv_bipush (v := 112) hx hb dX6_isKindLetter_19 (by decide) ?_
        refine lv_icmp_eq (tgt := 30) hx hb dX6_isKindLetter_21 (by decide) (fun c_4 => ?_) (fun c_4 => ?_)
        · skip
          refine lv_iconst (v := 1) hx hb dX6_isKindLetter_30 (by decide) ?_
          refine lv_goto (tgt := 35) hx hb dX6_isKindLetter_31 (by decide) ?_
          exact W.zret (v := 1) hx hb hr (by decide) (fun t ht hW => ⟨⟨1, (), rfl, (by simp [jkl, c_1, c_2, c_3, c_4]), trivial⟩, hS.F ht⟩) hS.2.2 dX6_isKindLetter_35
        · skip
          refine lv_iload_n hx hb dX6_isKindLetter_24 rfl (lv_at hl 0 rfl) ?_
          refine lv_bipush (v := 103) hx hb dX6_isKindLetter_25 (by decide) ?_
          refine lv_icmp_ne (tgt := 34) hx hb dX6_isKindLetter_27 (by decide) (fun c_5 => ?_) (fun c_5 => ?_)
          · skip
            refine lv_iconst (v := 0) hx hb dX6_isKindLetter_34 (by decide) ?_
            exact W.zret (v := 0) hx hb hr (by decide) (fun t ht hW => ⟨⟨0, (), rfl, (by simp [jkl, c_1, c_2, c_3, c_4, c_5]), trivial⟩, hS.F ht⟩) hS.2.2 dX6_isKindLetter_35
          · skip
            refine lv_iconst (v := 1) hx hb dX6_isKindLetter_30 (by decide) ?_
            refine lv_goto (tgt := 35) hx hb dX6_isKindLetter_31 (by decide) ?_
            exact W.zret (v := 1) hx hb hr (by decide) (fun t ht hW => ⟨⟨1, (), rfl, (by simp [jkl, c_1, c_2, c_3, c_4, c_5]), trivial⟩, hS.F ht⟩) hS.2.2 dX6_isKindLetter_35

set_option maxHeartbeats 4000000 in
set_option maxRecDepth 100000 in
theorem c_fits (l : Launch) (D : va_G) (cI cJ : ClassId) (k : Nat) (p0 : Int32) (hk : k < 25) : jRi l yX6_fits wsX6_fits ({ frames := 1, cells := 0, slots := 0, locals := 20 }) [.int (nI k), .int p0] D cI cJ (fun H => True) (fun r => r = jft k p0) := by
  intro sz
  refine Met.ofW (cc := cX6_fits) (maxL := 2) (ret := (some .boolean)) (by decide) rfl ?_
  intro p e s m args below meth c s₁ B hml hv
  obtain ⟨rfl, hsz, hT, _⟩ := hv
  have hK := hT.1
  have hx := B.exec
  have hb := B.bytes
  have hr := B.returns
  have hts := atoms_spec (ws := wsX6_fits) B.pre
  have hown : s.vm.findClass RX6 = some m.cls := findClass_of_methodNamed B.named
  have hlocks := B.notSynchronized
  subst hsz
  generalize hAe : va_A [] s.heap.size = A
  have hA : ∀ q : Nat, s.heap.size ≤ q → A q := fun q h => by rw [← hAe]; exact Or.inr h
  have hS : va_S A s.heap s.heap [] := va_S.rf
  have hl := lv_entry ([.int (nI k), .int p0] : List Value) (n := 2) (Nat.le_of_ble_eq_true rfl)
  rw [lg_entry_eq]
  generalize (lg_sl ([.int (nI k), .int p0]) ++ List.replicate (2 - (lg_sl ([.int (nI k), .int p0])).length) Slot.unset).toArray = ls at hl ⊢
  have hl : lv_has ls 2 [(0, .int (nI k)), (1, .int p0)] := hl
  refine lv_iload_n hx hb dX6_fits_0 rfl (lv_at hl 0 rfl) ?_
  refine lv_if_lt (tgt := 10) hx hb dX6_fits_1 (by decide) (fun c_1 => ?_) (fun c_1 => ?_)
  · skip
    replace c_1 : k < 0 := (nI_ltI (a := k) (b := 0) (by omega) (by omega)).mp c_1
    exact absurd c_1 (by omega)
  · skip
    replace c_1 : ¬ k < 0 := fun h => c_1 ((nI_ltI (a := k) (b := 0) (by omega) (by omega)).mpr h)
    refine lv_iload_n hx hb dX6_fits_4 rfl (lv_at hl 0 rfl) ?_
    refine lv_bipush (v := 23) hx hb dX6_fits_5 (by decide) ?_
    refine lv_icmp_lt (tgt := 12) hx hb dX6_fits_7 (by decide) (fun c_2 => ?_) (fun c_2 => ?_)
    · skip
      replace c_2 : k < 23 := (nI_ltI (a := k) (b := 23) (by omega) (by omega)).mp c_2
      refine lv_iload_n hx hb dX6_fits_12 rfl (lv_at hl 0 rfl) ?_
      refine lv_iconst (v := 4) hx hb dX6_fits_13 (by decide) ?_
      refine lv_irem hx hb dX6_fits_14 (by decide) ?_
      refine jv_as (y := nI (k % 4)) (by rw [show (4 : Int32) = nI 4 from rfl]; exact pk_rem (by omega) (by omega) (by omega)) ?_
      by_cases c_3 : k % 4 = 0
      · skip
        refine lv_lookup (off := 25) (tgt := 40) hx hb dX6_fits_15 (by decide) (by rw [c_3]; decide) (by decide) ?_
        refine lv_iload_n hx hb dX6_fits_40 rfl (lv_at hl 1 rfl) ?_
        refine jcalli (va_runS (As := [.int p0]) (rest := []) ⟨hx, hb, hml, hown, hts⟩ (c_isKindLetter l D cI cJ p0 s.heap.size) (va_cwS 1 hts gX6_fits_X6_isKindLetter rfl rfl rfl (by decide +kernel) ⟨Nat.le_of_ble_eq_true rfl, Nat.le_of_ble_eq_true rfl⟩) (jpreS hT trivial) rfl rfl hl.1 rfl (lv_room (Nat.le_of_ble_eq_true rfl)) dX6_fits_41 ⟨(Nat.zero_le _), (Nat.zero_le _)⟩) hS hA (fun r_4 H locs hw_r_4 hkq hS => ?_)
        try dsimp only at hw_r_4
        subst hw_r_4
        exact W.zret (v := jkl p0) hx hb hr (jb_nar (jkl_b _)) (fun t ht hW => ⟨⟨jkl p0, (), rfl, (by simp [jft, show ¬ 23 ≤ k by omega, c_1, c_2, c_3]), trivial⟩, hS.F ht⟩) hS.2.2 dX6_fits_44
      by_cases c_5 : k % 4 = 3
      · skip
        refine lv_lookup (off := 30) (tgt := 45) hx hb dX6_fits_15 (by decide) (by rw [c_5]; decide) (by decide) ?_
        refine lv_iload_n hx hb dX6_fits_45 rfl (lv_at hl 1 rfl) ?_
        refine lv_bipush (v := 44) hx hb dX6_fits_46 (by decide) ?_
        refine lv_icmp_ne (tgt := 55) hx hb dX6_fits_48 (by decide) (fun c_6 => ?_) (fun c_6 => ?_)
        · skip
          refine lv_iconst (v := 0) hx hb dX6_fits_55 (by decide) ?_
          exact W.zret (v := 0) hx hb hr (by decide) (fun t ht hW => ⟨⟨0, (), rfl, (by simp [jft, show ¬ 23 ≤ k by omega, c_1, c_2, c_3, c_5, c_6]), trivial⟩, hS.F ht⟩) hS.2.2 dX6_fits_56
        · skip
          refine lv_iconst (v := 1) hx hb dX6_fits_51 (by decide) ?_
          refine lv_goto (tgt := 56) hx hb dX6_fits_52 (by decide) ?_
          exact W.zret (v := 1) hx hb hr (by decide) (fun t ht hW => ⟨⟨1, (), rfl, (by simp [jft, show ¬ 23 ≤ k by omega, c_1, c_2, c_3, c_5, c_6]), trivial⟩, hS.F ht⟩) hS.2.2 dX6_fits_56
      refine lv_lookup (off := 42) (tgt := 57) hx hb dX6_fits_15 (by decide) (by show Op.lookupswitch.offset [(0, 25), (3, 30)] 42 _ = 42; rw [Op.lookupswitch.offset_cons, if_neg (jneN (A := 0) (by omega) rfl c_3), Op.lookupswitch.offset_cons, if_neg (jneN (A := 3) (by omega) rfl c_5), Op.lookupswitch.offset_nil]) (by decide) ?_
      refine lv_iload_n hx hb dX6_fits_57 rfl (lv_at hl 1 rfl) ?_
      refine lv_bipush (v := 48) hx hb dX6_fits_58 (by decide) ?_
      refine lv_icmp_lt (tgt := 73) hx hb dX6_fits_60 (by decide) (fun c_7 => ?_) (fun c_7 => ?_)
      · skip
        refine lv_iconst (v := 0) hx hb dX6_fits_73 (by decide) ?_
        exact W.zret (v := 0) hx hb hr (by decide) (fun t ht hW => ⟨⟨0, (), rfl, (by simp [jft, show ¬ 23 ≤ k by omega, c_1, c_2, c_3, c_5, c_7]), trivial⟩, hS.F ht⟩) hS.2.2 dX6_fits_74
      · skip
        refine lv_iload_n hx hb dX6_fits_63 rfl (lv_at hl 1 rfl) ?_
        refine lv_bipush (v := 57) hx hb dX6_fits_64 (by decide) ?_
        refine lv_icmp_gt (tgt := 73) hx hb dX6_fits_66 (by decide) (fun c_8 => ?_) (fun c_8 => ?_)
        · skip
          refine lv_iconst (v := 0) hx hb dX6_fits_73 (by decide) ?_
          exact W.zret (v := 0) hx hb hr (by decide) (fun t ht hW => ⟨⟨0, (), rfl, (by simp [jft, show ¬ 23 ≤ k by omega, c_1, c_2, c_3, c_5, c_7, c_8]), trivial⟩, hS.F ht⟩) hS.2.2 dX6_fits_74
        · skip
          refine lv_iconst (v := 1) hx hb dX6_fits_69 (by decide) ?_
          refine lv_goto (tgt := 74) hx hb dX6_fits_70 (by decide) ?_
          exact W.zret (v := 1) hx hb hr (by decide) (fun t ht hW => ⟨⟨1, (), rfl, (by simp [jft, show ¬ 23 ≤ k by omega, c_1, c_2, c_3, c_5, c_7, c_8]), trivial⟩, hS.F ht⟩) hS.2.2 dX6_fits_74
    · skip
      replace c_2 : ¬ k < 23 := fun h => c_2 ((nI_ltI (a := k) (b := 23) (by omega) (by omega)).mpr h)
      refine lv_iconst (v := 0) hx hb dX6_fits_10 (by decide) ?_
      exact W.zret (v := 0) hx hb hr (by decide) (fun t ht hW => ⟨⟨0, (), rfl, (by simp [jft, show 23 ≤ k by omega]), trivial⟩, hS.F ht⟩) hS.2.2 dX6_fits_11

set_option maxHeartbeats 4000000 in
set_option maxRecDepth 100000 in
theorem c_isNoYear_y (l : Launch) (D : va_G) (cI cJ : ClassId) (p0 : Int32) (h9 : p0 < 0 ∨ 99 < p0) : jRi l yX6_isNoYear wsX6_isNoYear ({ frames := 0, cells := 0, slots := 0, locals := 0 }) [.int p0] D cI cJ (fun H => True) (fun r => r = 1) := by
  intro sz
  refine Met.ofW (cc := cX6_isNoYear) (maxL := 1) (ret := (some .boolean)) (by decide) rfl ?_
  intro p e s m args below meth c s₁ B hml hv
  obtain ⟨rfl, hsz, hT, _⟩ := hv
  have hK := hT.1
  have hx := B.exec
  have hb := B.bytes
  have hr := B.returns
  have hts := atoms_spec (ws := wsX6_isNoYear) B.pre
  have hown : s.vm.findClass RX6 = some m.cls := findClass_of_methodNamed B.named
  have hlocks := B.notSynchronized
  subst hsz
  generalize hAe : va_A [] s.heap.size = A
  have hA : ∀ q : Nat, s.heap.size ≤ q → A q := fun q h => by rw [← hAe]; exact Or.inr h
  have hS : va_S A s.heap s.heap [] := va_S.rf
  have hl := lv_entry ([.int p0] : List Value) (n := 1) (Nat.le_of_ble_eq_true rfl)
  rw [lg_entry_eq]
  generalize (lg_sl ([.int p0]) ++ List.replicate (1 - (lg_sl ([.int p0])).length) Slot.unset).toArray = ls at hl ⊢
  have hl : lv_has ls 1 [(0, .int p0)] := hl
  refine lv_iload_n hx hb dX6_isNoYear_0 rfl (lv_at hl 0 rfl) ?_
  refine lv_if_lt (tgt := 10) hx hb dX6_isNoYear_1 (by decide) (fun c_1 => ?_) (fun c_1 => ?_)
  · skip
    refine lv_iconst (v := 1) hx hb dX6_isNoYear_10 (by decide) ?_
    refine lv_goto (tgt := 15) hx hb dX6_isNoYear_11 (by decide) ?_
    exact W.zret (v := 1) hx hb hr (by decide) (fun t ht hW => ⟨⟨1, (), rfl, rfl, trivial⟩, hS.F ht⟩) hS.2.2 dX6_isNoYear_15
  · skip
    refine lv_iload_n hx hb dX6_isNoYear_4 rfl (lv_at hl 0 rfl) ?_
    refine lv_bipush (v := 99) hx hb dX6_isNoYear_5 (by decide) ?_
    refine lv_icmp_le (tgt := 14) hx hb dX6_isNoYear_7 (by decide) (fun c_2 => ?_) (fun c_2 => ?_)
    · skip
      exact (h9.elim (fun h => c_1 h) (fun h => jlt_le h c_2)).elim
    · skip
      refine lv_iconst (v := 1) hx hb dX6_isNoYear_10 (by decide) ?_
      refine lv_goto (tgt := 15) hx hb dX6_isNoYear_11 (by decide) ?_
      exact W.zret (v := 1) hx hb hr (by decide) (fun t ht hW => ⟨⟨1, (), rfl, rfl, trivial⟩, hS.F ht⟩) hS.2.2 dX6_isNoYear_15

set_option maxHeartbeats 4000000 in
set_option maxRecDepth 100000 in
theorem c_isNoYear_n (l : Launch) (D : va_G) (cI cJ : ClassId) (p0 : Int32) (h8 : ¬ p0 < 0) (h9 : p0 ≤ 99) : jRi l yX6_isNoYear wsX6_isNoYear ({ frames := 0, cells := 0, slots := 0, locals := 0 }) [.int p0] D cI cJ (fun H => True) (fun r => r = 0) := by
  intro sz
  refine Met.ofW (cc := cX6_isNoYear) (maxL := 1) (ret := (some .boolean)) (by decide) rfl ?_
  intro p e s m args below meth c s₁ B hml hv
  obtain ⟨rfl, hsz, hT, _⟩ := hv
  have hK := hT.1
  have hx := B.exec
  have hb := B.bytes
  have hr := B.returns
  have hts := atoms_spec (ws := wsX6_isNoYear) B.pre
  have hown : s.vm.findClass RX6 = some m.cls := findClass_of_methodNamed B.named
  have hlocks := B.notSynchronized
  subst hsz
  generalize hAe : va_A [] s.heap.size = A
  have hA : ∀ q : Nat, s.heap.size ≤ q → A q := fun q h => by rw [← hAe]; exact Or.inr h
  have hS : va_S A s.heap s.heap [] := va_S.rf
  have hl := lv_entry ([.int p0] : List Value) (n := 1) (Nat.le_of_ble_eq_true rfl)
  rw [lg_entry_eq]
  generalize (lg_sl ([.int p0]) ++ List.replicate (1 - (lg_sl ([.int p0])).length) Slot.unset).toArray = ls at hl ⊢
  have hl : lv_has ls 1 [(0, .int p0)] := hl
  refine lv_iload_n hx hb dX6_isNoYear_0 rfl (lv_at hl 0 rfl) ?_
  refine lv_if_lt (tgt := 10) hx hb dX6_isNoYear_1 (by decide) (fun c_1 => ?_) (fun c_1 => ?_)
  · skip
    exact absurd c_1 h8
  · skip
    refine lv_iload_n hx hb dX6_isNoYear_4 rfl (lv_at hl 0 rfl) ?_
    refine lv_bipush (v := 99) hx hb dX6_isNoYear_5 (by decide) ?_
    refine lv_icmp_le (tgt := 14) hx hb dX6_isNoYear_7 (by decide) (fun c_2 => ?_) (fun c_2 => ?_)
    · skip
      refine lv_iconst (v := 0) hx hb dX6_isNoYear_14 (by decide) ?_
      exact W.zret (v := 0) hx hb hr (by decide) (fun t ht hW => ⟨⟨0, (), rfl, rfl, trivial⟩, hS.F ht⟩) hS.2.2 dX6_isNoYear_15
    · skip
      exact absurd h9 c_2

set_option maxHeartbeats 4000000 in
set_option maxRecDepth 100000 in
theorem c_isInMost (l : Launch) (D : va_G) (cI cJ : ClassId) (i : Nat) (k : Nat) (hi : i ≤ 6) (hk : k < 13) : jRi l yX6_isInMost wsX6_isInMost ({ frames := 0, cells := 0, slots := 0, locals := 0 }) [.int (nI i), .int (nI k)] D cI cJ (fun H => True) (fun r => r = 1) := by
  intro sz
  refine Met.ofW (cc := cX6_isInMost) (maxL := 2) (ret := (some .boolean)) (by decide) rfl ?_
  intro p e s m args below meth c s₁ B hml hv
  obtain ⟨rfl, hsz, hT, _⟩ := hv
  have hK := hT.1
  have hx := B.exec
  have hb := B.bytes
  have hr := B.returns
  have hts := atoms_spec (ws := wsX6_isInMost) B.pre
  have hown : s.vm.findClass RX6 = some m.cls := findClass_of_methodNamed B.named
  have hlocks := B.notSynchronized
  subst hsz
  generalize hAe : va_A [] s.heap.size = A
  have hA : ∀ q : Nat, s.heap.size ≤ q → A q := fun q h => by rw [← hAe]; exact Or.inr h
  have hS : va_S A s.heap s.heap [] := va_S.rf
  have hl := lv_entry ([.int (nI i), .int (nI k)] : List Value) (n := 2) (Nat.le_of_ble_eq_true rfl)
  rw [lg_entry_eq]
  generalize (lg_sl ([.int (nI i), .int (nI k)]) ++ List.replicate (2 - (lg_sl ([.int (nI i), .int (nI k)])).length) Slot.unset).toArray = ls at hl ⊢
  have hl : lv_has ls 2 [(0, .int (nI i)), (1, .int (nI k))] := hl
  refine lv_iload_n hx hb dX6_isInMost_0 rfl (lv_at hl 0 rfl) ?_
  refine lv_if_lt (tgt := 24) hx hb dX6_isInMost_1 (by decide) (fun c_1 => ?_) (fun c_1 => ?_)
  · skip
    replace c_1 : i < 0 := (nI_ltI (a := i) (b := 0) (by omega) (by omega)).mp c_1
    exact absurd c_1 (by omega)
  · skip
    replace c_1 : ¬ i < 0 := fun h => c_1 ((nI_ltI (a := i) (b := 0) (by omega) (by omega)).mpr h)
    refine lv_iload_n hx hb dX6_isInMost_4 rfl (lv_at hl 0 rfl) ?_
    refine lv_bipush (v := 6) hx hb dX6_isInMost_5 (by decide) ?_
    refine lv_icmp_gt (tgt := 24) hx hb dX6_isInMost_7 (by decide) (fun c_2 => ?_) (fun c_2 => ?_)
    · skip
      replace c_2 : 6 < i := (nI_ltI (a := 6) (b := i) (by omega) (by omega)).mp c_2
      exact absurd c_2 (by omega)
    · skip
      replace c_2 : ¬ 6 < i := fun h => c_2 ((nI_ltI (a := 6) (b := i) (by omega) (by omega)).mpr h)
      refine lv_iload_n hx hb dX6_isInMost_10 rfl (lv_at hl 1 rfl) ?_
      refine lv_if_lt (tgt := 24) hx hb dX6_isInMost_11 (by decide) (fun c_3 => ?_) (fun c_3 => ?_)
      · skip
        replace c_3 : k < 0 := (nI_ltI (a := k) (b := 0) (by omega) (by omega)).mp c_3
        exact absurd c_3 (by omega)
      · skip
        replace c_3 : ¬ k < 0 := fun h => c_3 ((nI_ltI (a := k) (b := 0) (by omega) (by omega)).mpr h)
        refine lv_iload_n hx hb dX6_isInMost_14 rfl (lv_at hl 1 rfl) ?_
        refine lv_bipush (v := 13) hx hb dX6_isInMost_15 (by decide) ?_
        refine lv_icmp_ge (tgt := 24) hx hb dX6_isInMost_17 (by decide) (fun c_4 => ?_) (fun c_4 => ?_)
        · skip
          replace c_4 : 13 ≤ k := (nI_leI (a := 13) (b := k) (by omega) (by omega)).mp c_4
          exact absurd c_4 (by omega)
        · skip
          replace c_4 : ¬ 13 ≤ k := fun h => c_4 ((nI_leI (a := 13) (b := k) (by omega) (by omega)).mpr h)
          refine lv_iconst (v := 1) hx hb dX6_isInMost_20 (by decide) ?_
          refine lv_goto (tgt := 25) hx hb dX6_isInMost_21 (by decide) ?_
          exact W.zret (v := 1) hx hb hr (by decide) (fun t ht hW => ⟨⟨1, (), rfl, rfl, trivial⟩, hS.F ht⟩) hS.2.2 dX6_isInMost_25

def jbit (o : Int32) (i : Nat) : Bool := decide ((o >>> (nI i &&& 31)) &&& 1 = 1)
set_option maxHeartbeats 4000000 in
set_option maxRecDepth 100000 in
theorem c_isOpen (l : Launch) (D : va_G) (cI cJ : ClassId) (o : Int32) (i : Nat)  : jRi l yX6_isOpen wsX6_isOpen ({ frames := 0, cells := 0, slots := 0, locals := 0 }) [.int o, .int (nI i)] D cI cJ (fun H => True) (fun r => r = (if jbit o i then 1 else 0)) := by
  intro sz
  refine Met.ofW (cc := cX6_isOpen) (maxL := 2) (ret := (some .boolean)) (by decide) rfl ?_
  intro p e s m args below meth c s₁ B hml hv
  obtain ⟨rfl, hsz, hT, _⟩ := hv
  have hK := hT.1
  have hx := B.exec
  have hb := B.bytes
  have hr := B.returns
  have hts := atoms_spec (ws := wsX6_isOpen) B.pre
  have hown : s.vm.findClass RX6 = some m.cls := findClass_of_methodNamed B.named
  have hlocks := B.notSynchronized
  subst hsz
  generalize hAe : va_A [] s.heap.size = A
  have hA : ∀ q : Nat, s.heap.size ≤ q → A q := fun q h => by rw [← hAe]; exact Or.inr h
  have hS : va_S A s.heap s.heap [] := va_S.rf
  have hl := lv_entry ([.int o, .int (nI i)] : List Value) (n := 2) (Nat.le_of_ble_eq_true rfl)
  rw [lg_entry_eq]
  generalize (lg_sl ([.int o, .int (nI i)]) ++ List.replicate (2 - (lg_sl ([.int o, .int (nI i)])).length) Slot.unset).toArray = ls at hl ⊢
  have hl : lv_has ls 2 [(0, .int o), (1, .int (nI i))] := hl
  refine lv_iload_n hx hb dX6_isOpen_0 rfl (lv_at hl 0 rfl) ?_
  refine lv_iload_n hx hb dX6_isOpen_1 rfl (lv_at hl 1 rfl) ?_
  refine lv_ishr hx hb dX6_isOpen_2 ?_
  refine lv_iconst (v := 1) hx hb dX6_isOpen_3 (by decide) ?_
  refine lv_iand hx hb dX6_isOpen_4 ?_
  refine lv_iconst (v := 1) hx hb dX6_isOpen_5 (by decide) ?_
  refine lv_icmp_ne (tgt := 13) hx hb dX6_isOpen_6 (by decide) (fun c_1 => ?_) (fun c_1 => ?_)
  · skip
    refine lv_iconst (v := 0) hx hb dX6_isOpen_13 (by decide) ?_
    exact W.zret (v := 0) hx hb hr (by decide) (fun t ht hW => ⟨⟨0, (), rfl, (by simp [jbit, c_1]), trivial⟩, hS.F ht⟩) hS.2.2 dX6_isOpen_14
  · skip
    refine lv_iconst (v := 1) hx hb dX6_isOpen_9 (by decide) ?_
    refine lv_goto (tgt := 14) hx hb dX6_isOpen_10 (by decide) ?_
    exact W.zret (v := 1) hx hb hr (by decide) (fun t ht hW => ⟨⟨1, (), rfl, (by simp [jbit, c_1]), trivial⟩, hS.F ht⟩) hS.2.2 dX6_isOpen_14

def jsd (q : Nat) : Nat := (1103515245 * q + 12345) % 2147483648
theorem jsd_lt (q : Nat) : jsd q < 2147483648 := Nat.mod_lt _ (by decide)
theorem jsd_eq {q : Nat} (h : q < 2147483648) : ((1103515245 : Int64) * (nI q).toInt64 + 12345 - ((1103515245 : Int64) * (nI q).toInt64 + 12345) / 2147483648 * 2147483648).toInt32 = nI (jsd q) := by
  rw [nI_l h, show (1103515245 : Int64) = lN 1103515245 from rfl, show (12345 : Int64) = lN 12345 from rfl, show (2147483648 : Int64) = lN 2147483648 from rfl, lN_mul, lN_add, pk_lRem (by omega) (by decide) (by decide), lN_i]
  rfl
theorem jdr_eq {q n : Nat} (h : q < 2147483648) (h0 : 0 < n) (hn : n ≤ 6) : ((nI q).toInt64 / 65536 - (nI q).toInt64 / 65536 / (nI n).toInt64 * (nI n).toInt64).toInt32 = nI (q / 65536 % n) := by
  rw [nI_l h, nI_l (show n < 2 ^ 31 by omega), show (65536 : Int64) = lN 65536 from rfl, pk_lDiv (by omega) (by decide) (by decide), pk_lRem (by omega) h0 (by omega), lN_i]
theorem jl_ne {n : Nat} (h0 : 0 < n) (hn : n ≤ 6) : ¬ (nI n).toInt64 = 0 := by
  rw [nI_l (show n < 2 ^ 31 by omega), show (0 : Int64) = lN 0 from rfl, lN_eq (by omega) (by omega)]
  omega
set_option maxHeartbeats 4000000 in
set_option maxRecDepth 100000 in
theorem c_nextSeed (l : Launch) (D : va_G) (cI cJ : ClassId) (q : Nat) (hq : q < 2147483648) : jRi l yX6_nextSeed wsX6_nextSeed ({ frames := 0, cells := 0, slots := 0, locals := 0 }) [.int (nI q)] D cI cJ (fun H => True) (fun r => r = nI (jsd q)) := by
  intro sz
  refine Met.ofW (cc := cX6_nextSeed) (maxL := 1) (ret := (some .int)) (by decide) rfl ?_
  intro p e s m args below meth c s₁ B hml hv
  obtain ⟨rfl, hsz, hT, _⟩ := hv
  have hK := hT.1
  have hx := B.exec
  have hb := B.bytes
  have hr := B.returns
  have hts := atoms_spec (ws := wsX6_nextSeed) B.pre
  have hown : s.vm.findClass RX6 = some m.cls := findClass_of_methodNamed B.named
  have hlocks := B.notSynchronized
  subst hsz
  generalize hAe : va_A [] s.heap.size = A
  have hA : ∀ q : Nat, s.heap.size ≤ q → A q := fun q h => by rw [← hAe]; exact Or.inr h
  have hS : va_S A s.heap s.heap [] := va_S.rf
  have hl := lv_entry ([.int (nI q)] : List Value) (n := 1) (Nat.le_of_ble_eq_true rfl)
  rw [lg_entry_eq]
  generalize (lg_sl ([.int (nI q)]) ++ List.replicate (1 - (lg_sl ([.int (nI q)])).length) Slot.unset).toArray = ls at hl ⊢
  have hl : lv_has ls 1 [(0, .int (nI q))] := hl
  refine lv_ldc2 (v := 1103515245) hx hb hown (hts (Cond.constantLong RX6 267 (1103515245)) (List.mem_of_getElem? (i := 1) rfl)) dX6_nextSeed_0 ?_
  refine lv_iload_n hx hb dX6_nextSeed_3 rfl (lv_at hl 0 rfl) ?_
  refine lv_i2l (v := (nI q).toInt64) hx hb dX6_nextSeed_4 rfl ?_
  refine lv_lmul hx hb dX6_nextSeed_5 ?_
  refine lv_ldc2 (v := 12345) hx hb hown (hts (Cond.constantLong RX6 269 (12345)) (List.mem_of_getElem? (i := 2) rfl)) dX6_nextSeed_6 ?_
  refine lv_ladd hx hb dX6_nextSeed_9 ?_
  refine lv_ldc2 (v := 2147483648) hx hb hown (hts (Cond.constantLong RX6 271 (2147483648)) (List.mem_of_getElem? (i := 3) rfl)) dX6_nextSeed_10 ?_
  refine lv_lrem hx hb dX6_nextSeed_13 (by decide) ?_
  refine lv_l2i (v := (((1103515245 * ((nI q).toInt64)) + 12345) - ((1103515245 * ((nI q).toInt64)) + 12345) / 2147483648 * 2147483648).toInt32) hx hb dX6_nextSeed_14 rfl ?_
  exact W.iret (v := (((1103515245 * ((nI q).toInt64)) + 12345) - ((1103515245 * ((nI q).toInt64)) + 12345) / 2147483648 * 2147483648).toInt32) hx hb hr (fun t ht hW => ⟨⟨(((1103515245 * ((nI q).toInt64)) + 12345) - ((1103515245 * ((nI q).toInt64)) + 12345) / 2147483648 * 2147483648).toInt32, (), rfl, (jsd_eq hq), trivial⟩, hS.F ht⟩) hS.2.2 dX6_nextSeed_15

set_option maxHeartbeats 4000000 in
set_option maxRecDepth 100000 in
theorem c_mix (l : Launch) (D : va_G) (cI cJ : ClassId) (h : Int64) (t0 : Int32)  : jRl l yX6_mix wsX6_mix ({ frames := 0, cells := 0, slots := 0, locals := 0 }) [.long h, .int t0] D cI cJ (fun H => True) (fun r => r = 31 * h + t0.toInt64) := by
  intro sz
  refine Met.ofW (cc := cX6_mix) (maxL := 3) (ret := (some .long)) (by decide) rfl ?_
  intro p e s m args below meth c s₁ B hml hv
  obtain ⟨rfl, hsz, hT, _⟩ := hv
  have hK := hT.1
  have hx := B.exec
  have hb := B.bytes
  have hr := B.returns
  have hts := atoms_spec (ws := wsX6_mix) B.pre
  have hown : s.vm.findClass RX6 = some m.cls := findClass_of_methodNamed B.named
  have hlocks := B.notSynchronized
  subst hsz
  generalize hAe : va_A [] s.heap.size = A
  have hA : ∀ q : Nat, s.heap.size ≤ q → A q := fun q h => by rw [← hAe]; exact Or.inr h
  have hS : va_S A s.heap s.heap [] := va_S.rf
  have hl := lv_entry ([.long h, .int t0] : List Value) (n := 3) (Nat.le_of_ble_eq_true rfl)
  rw [lg_entry_eq]
  generalize (lg_sl ([.long h, .int t0]) ++ List.replicate (3 - (lg_sl ([.long h, .int t0])).length) Slot.unset).toArray = ls at hl ⊢
  have hl : lv_has ls 3 [(0, .long h), (2, .int t0)] := hl
  refine lv_ldc2 (v := 31) hx hb hown (hts (Cond.constantLong RX6 195 (31)) (List.mem_of_getElem? (i := 1) rfl)) dX6_mix_0 ?_
  refine lv_lload_n hx hb dX6_mix_3 rfl (lv_at hl 0 rfl) ?_
  refine lv_lmul hx hb dX6_mix_4 ?_
  refine lv_iload_n hx hb dX6_mix_5 rfl (lv_at hl 1 rfl) ?_
  refine lv_i2l (v := t0.toInt64) hx hb dX6_mix_6 rfl ?_
  refine lv_ladd hx hb dX6_mix_7 ?_
  exact W.lret (v := (31 * h) + t0.toInt64) hx hb hr (fun t ht hW => ⟨⟨(31 * h) + t0.toInt64, (), rfl, rfl, trivial⟩, hS.F ht⟩) hS.2.2 dX6_mix_8

set_option maxHeartbeats 4000000 in
set_option maxRecDepth 100000 in
theorem c_hasNoLarder_y (l : Launch) (D : va_G) (cI cJ : ClassId) (x : Nat) (n : Nat) (a0 : Value) (a1 : Value) (a2 : Value) (a4 : Value) (a5 : Value) (a6 : Value) (a7 : Value) (a8 : Value) (a9 : Value) (a10 : Value) (a11 : Value) (hn0 : n = 0) : jRi l yX6_hasNoLarder wsX6_hasNoLarder ({ frames := 0, cells := 0, slots := 0, locals := 0 }) [.ref x] D cI cJ (fun H => va_P D vwCl [(x, .inr (6, [a0, a1, a2, .int (nI n), a4, a5, a6, a7, a8, a9, a10, a11]))] H) (fun r => r = 1) := by
  intro sz
  refine Met.ofW (cc := cX6_hasNoLarder) (maxL := 1) (ret := (some .boolean)) (by decide) rfl ?_
  intro p e s m args below meth c s₁ B hml hv
  obtain ⟨rfl, hsz, hT, hPr⟩ := hv
  have hK := hT.1
  have hx := B.exec
  have hb := B.bytes
  have hr := B.returns
  have hts := atoms_spec (ws := wsX6_hasNoLarder) B.pre
  have hown : s.vm.findClass RX6 = some m.cls := findClass_of_methodNamed B.named
  have hlocks := B.notSynchronized
  subst hsz
  generalize hAe : va_A [] s.heap.size = A
  have hA : ∀ q : Nat, s.heap.size ≤ q → A q := fun q h => by rw [← hAe]; exact Or.inr h
  have hS : va_S A s.heap s.heap [] := va_S.rf
  have hl := lv_entry ([.ref x] : List Value) (n := 1) (Nat.le_of_ble_eq_true rfl)
  rw [lg_entry_eq]
  generalize (lg_sl ([.ref x]) ++ List.replicate (1 - (lg_sl ([.ref x])).length) Slot.unset).toArray = ls at hl ⊢
  have hl : lv_has ls 1 [(0, .ref x)] := hl
  refine lv_aload_n hx hb dX6_hasNoLarder_0 rfl (lv_at hl 0 rfl) ?_
  refine va_get (D := D) (ci := 6) (v := .int (nI n)) (C := RX6) (T := TX6) (N := 12) hx hb hts (fun w h => List.mem_cons_of_mem _ (List.mem_append_right _ h)) hown hK hPr 0 rfl rfl 3 (by decide) (hts (Cond.fieldLink RX6 23 "JamDays" "jarCount" "I") (List.mem_of_getElem? (i := 1) rfl)) (fun _ h9 => h9) rfl dX6_hasNoLarder_1 ?_
  refine lv_if_ne (tgt := 11) hx hb dX6_hasNoLarder_4 (by decide) (fun c_1 => ?_) (fun c_1 => ?_)
  · skip
    replace c_1 : ¬ n = 0 := fun h => c_1 ((nI_eq (a := n) (b := 0) (by omega) (by omega)).mpr h)
    exact absurd hn0 (by omega)
  · skip
    replace c_1 : n = 0 := (nI_eq (a := n) (b := 0) (by omega) (by omega)).mp c_1
    refine lv_iconst (v := 1) hx hb dX6_hasNoLarder_7 (by decide) ?_
    refine lv_goto (tgt := 12) hx hb dX6_hasNoLarder_8 (by decide) ?_
    exact W.zret (v := 1) hx hb hr (by decide) (fun t ht hW => ⟨⟨1, (), rfl, rfl, trivial⟩, hS.F ht⟩) hS.2.2 dX6_hasNoLarder_12

set_option maxHeartbeats 4000000 in
set_option maxRecDepth 100000 in
theorem c_hasNoLarder_n (l : Launch) (D : va_G) (cI cJ : ClassId) (x : Nat) (n : Nat) (a0 : Value) (a1 : Value) (a2 : Value) (a4 : Value) (a5 : Value) (a6 : Value) (a7 : Value) (a8 : Value) (a9 : Value) (a10 : Value) (a11 : Value) (hn0 : 0 < n) (hn6 : n ≤ 6) : jRi l yX6_hasNoLarder wsX6_hasNoLarder ({ frames := 0, cells := 0, slots := 0, locals := 0 }) [.ref x] D cI cJ (fun H => va_P D vwCl [(x, .inr (6, [a0, a1, a2, .int (nI n), a4, a5, a6, a7, a8, a9, a10, a11]))] H) (fun r => r = 0) := by
  intro sz
  refine Met.ofW (cc := cX6_hasNoLarder) (maxL := 1) (ret := (some .boolean)) (by decide) rfl ?_
  intro p e s m args below meth c s₁ B hml hv
  obtain ⟨rfl, hsz, hT, hPr⟩ := hv
  have hK := hT.1
  have hx := B.exec
  have hb := B.bytes
  have hr := B.returns
  have hts := atoms_spec (ws := wsX6_hasNoLarder) B.pre
  have hown : s.vm.findClass RX6 = some m.cls := findClass_of_methodNamed B.named
  have hlocks := B.notSynchronized
  subst hsz
  generalize hAe : va_A [] s.heap.size = A
  have hA : ∀ q : Nat, s.heap.size ≤ q → A q := fun q h => by rw [← hAe]; exact Or.inr h
  have hS : va_S A s.heap s.heap [] := va_S.rf
  have hl := lv_entry ([.ref x] : List Value) (n := 1) (Nat.le_of_ble_eq_true rfl)
  rw [lg_entry_eq]
  generalize (lg_sl ([.ref x]) ++ List.replicate (1 - (lg_sl ([.ref x])).length) Slot.unset).toArray = ls at hl ⊢
  have hl : lv_has ls 1 [(0, .ref x)] := hl
  refine lv_aload_n hx hb dX6_hasNoLarder_0 rfl (lv_at hl 0 rfl) ?_
  refine va_get (D := D) (ci := 6) (v := .int (nI n)) (C := RX6) (T := TX6) (N := 12) hx hb hts (fun w h => List.mem_cons_of_mem _ (List.mem_append_right _ h)) hown hK hPr 0 rfl rfl 3 (by decide) (hts (Cond.fieldLink RX6 23 "JamDays" "jarCount" "I") (List.mem_of_getElem? (i := 1) rfl)) (fun _ h9 => h9) rfl dX6_hasNoLarder_1 ?_
  refine lv_if_ne (tgt := 11) hx hb dX6_hasNoLarder_4 (by decide) (fun c_1 => ?_) (fun c_1 => ?_)
  · skip
    replace c_1 : ¬ n = 0 := fun h => c_1 ((nI_eq (a := n) (b := 0) (by omega) (by omega)).mpr h)
    refine lv_iconst (v := 0) hx hb dX6_hasNoLarder_11 (by decide) ?_
    exact W.zret (v := 0) hx hb hr (by decide) (fun t ht hW => ⟨⟨0, (), rfl, rfl, trivial⟩, hS.F ht⟩) hS.2.2 dX6_hasNoLarder_12
  · skip
    replace c_1 : n = 0 := (nI_eq (a := n) (b := 0) (by omega) (by omega)).mp c_1
    exact absurd c_1 (by omega)

set_option maxHeartbeats 4000000 in
set_option maxRecDepth 100000 in
theorem c_codeAt (l : Launch) (D : va_G) (cI cJ : ClassId) (x : Nat) (xp : Nat) (k : Nat) (a1 : Value) (a2 : Value) (a3 : Value) (a4 : Value) (a5 : Value) (a6 : Value) (a7 : Value) (a8 : Value) (a9 : Value) (a10 : Value) (a11 : Value) (pg : Nat → Int32) (hk : k < 25) : jRi l yX6_codeAt wsX6_codeAt ({ frames := 0, cells := 0, slots := 0, locals := 0 }) [.ref x, .int (nI k)] D cI cJ (fun H => va_P D vwCl [(x, .inr (6, [.ref xp, a1, a2, a3, a4, a5, a6, a7, a8, a9, a10, a11])), (xp, .inl (cI, 25, .inl pg))] H) (fun r => r = pg k) := by
  intro sz
  refine Met.ofW (cc := cX6_codeAt) (maxL := 2) (ret := (some .int)) (by decide) rfl ?_
  intro p e s m args below meth c s₁ B hml hv
  obtain ⟨rfl, hsz, hT, hPr⟩ := hv
  have hK := hT.1
  have hx := B.exec
  have hb := B.bytes
  have hr := B.returns
  have hts := atoms_spec (ws := wsX6_codeAt) B.pre
  have hown : s.vm.findClass RX6 = some m.cls := findClass_of_methodNamed B.named
  have hlocks := B.notSynchronized
  subst hsz
  generalize hAe : va_A [] s.heap.size = A
  have hA : ∀ q : Nat, s.heap.size ≤ q → A q := fun q h => by rw [← hAe]; exact Or.inr h
  have hS : va_S A s.heap s.heap [] := va_S.rf
  have hl := lv_entry ([.ref x, .int (nI k)] : List Value) (n := 2) (Nat.le_of_ble_eq_true rfl)
  rw [lg_entry_eq]
  generalize (lg_sl ([.ref x, .int (nI k)]) ++ List.replicate (2 - (lg_sl ([.ref x, .int (nI k)])).length) Slot.unset).toArray = ls at hl ⊢
  have hl : lv_has ls 2 [(0, .ref x), (1, .int (nI k))] := hl
  refine lv_iload_n hx hb dX6_codeAt_0 rfl (lv_at hl 1 rfl) ?_
  refine lv_if_lt (tgt := 19) hx hb dX6_codeAt_1 (by decide) (fun c_1 => ?_) (fun c_1 => ?_)
  · skip
    replace c_1 : k < 0 := (nI_ltI (a := k) (b := 0) (by omega) (by omega)).mp c_1
    exact absurd c_1 (by omega)
  · skip
    replace c_1 : ¬ k < 0 := fun h => c_1 ((nI_ltI (a := k) (b := 0) (by omega) (by omega)).mpr h)
    refine lv_iload_n hx hb dX6_codeAt_4 rfl (lv_at hl 1 rfl) ?_
    refine lv_bipush (v := 25) hx hb dX6_codeAt_5 (by decide) ?_
    refine lv_icmp_ge (tgt := 19) hx hb dX6_codeAt_7 (by decide) (fun c_2 => ?_) (fun c_2 => ?_)
    · skip
      replace c_2 : 25 ≤ k := (nI_leI (a := 25) (b := k) (by omega) (by omega)).mp c_2
      exact absurd c_2 (by omega)
    · skip
      replace c_2 : ¬ 25 ≤ k := fun h => c_2 ((nI_leI (a := 25) (b := k) (by omega) (by omega)).mpr h)
      refine lv_aload_n hx hb dX6_codeAt_10 rfl (lv_at hl 0 rfl) ?_
      refine va_get (D := D) (ci := 6) (v := .ref xp) (C := RX6) (T := TX6) (N := 12) hx hb hts (fun w h => List.mem_cons_of_mem _ (List.mem_append_right _ h)) hown hK hPr 0 rfl rfl 0 (by decide) (hts (Cond.fieldLink RX6 9 "JamDays" "page" "[I") (List.mem_of_getElem? (i := 1) rfl)) (fun _ h9 => h9) rfl dX6_codeAt_11 ?_
      refine lv_iload_n hx hb dX6_codeAt_14 rfl (lv_at hl 1 rfl) ?_
      refine jv_ald (k := k) hx hb hK hPr 1 0 rfl rfl (by omega) (by decide) dX6_codeAt_15 ?_
      refine lv_goto (tgt := 20) hx hb dX6_codeAt_16 (by decide) ?_
      exact W.iret (v := pg k) hx hb hr (fun t ht hW => ⟨⟨pg k, (), rfl, rfl, trivial⟩, hS.F ht⟩) hS.2.2 dX6_codeAt_20

set_option maxHeartbeats 4000000 in
set_option maxRecDepth 100000 in
theorem c_find_ok (l : Launch) (D : va_G) (cI cJ : ClassId) (x : Nat) (xj : Nat) (n : Nat) (a0 : Value) (a1 : Value) (a4 : Value) (a5 : Value) (a6 : Value) (a7 : Value) (a8 : Value) (a9 : Value) (a10 : Value) (a11 : Value) (jr : Nat → Option Nat) (j : Nat) (hj : j < n) (hn6 : n ≤ 6) : jRq l yX6_find wsX6_find ({ frames := 0, cells := 0, slots := 0, locals := 0 }) [.ref x, .int (nI j)] D cI cJ (fun H => va_P D vwCl [(x, .inr (6, [a0, a1, .ref xj, .int (nI n), a4, a5, a6, a7, a8, a9, a10, a11])), (xj, .inl (cJ, 6, .inr (.inr (.inr (.inr jr)))))] H) (fun r => r = jr j) := by
  intro sz
  refine Met.ofW (cc := cX6_find) (maxL := 2) (ret := (some (.object "JamDays$Jar"))) (by decide) rfl ?_
  intro p e s m args below meth c s₁ B hml hv
  obtain ⟨rfl, hsz, hT, hPr⟩ := hv
  have hK := hT.1
  have hx := B.exec
  have hb := B.bytes
  have hr := B.returns
  have hts := atoms_spec (ws := wsX6_find) B.pre
  have hown : s.vm.findClass RX6 = some m.cls := findClass_of_methodNamed B.named
  have hlocks := B.notSynchronized
  subst hsz
  generalize hAe : va_A [] s.heap.size = A
  have hA : ∀ q : Nat, s.heap.size ≤ q → A q := fun q h => by rw [← hAe]; exact Or.inr h
  have hS : va_S A s.heap s.heap [] := va_S.rf
  have hl := lv_entry ([.ref x, .int (nI j)] : List Value) (n := 2) (Nat.le_of_ble_eq_true rfl)
  rw [lg_entry_eq]
  generalize (lg_sl ([.ref x, .int (nI j)]) ++ List.replicate (2 - (lg_sl ([.ref x, .int (nI j)])).length) Slot.unset).toArray = ls at hl ⊢
  have hl : lv_has ls 2 [(0, .ref x), (1, .int (nI j))] := hl
  refine lv_iload_n hx hb dX6_find_0 rfl (lv_at hl 1 rfl) ?_
  refine lv_if_lt (tgt := 27) hx hb dX6_find_1 (by decide) (fun c_1 => ?_) (fun c_1 => ?_)
  · skip
    replace c_1 : j < 0 := (nI_ltI (a := j) (b := 0) (by omega) (by omega)).mp c_1
    exact absurd c_1 (by omega)
  · skip
    replace c_1 : ¬ j < 0 := fun h => c_1 ((nI_ltI (a := j) (b := 0) (by omega) (by omega)).mpr h)
    refine lv_iload_n hx hb dX6_find_4 rfl (lv_at hl 1 rfl) ?_
    refine lv_aload_n hx hb dX6_find_5 rfl (lv_at hl 0 rfl) ?_
    refine va_get (D := D) (ci := 6) (v := .int (nI n)) (C := RX6) (T := TX6) (N := 12) hx hb hts (fun w h => List.mem_cons_of_mem _ (List.mem_append_right _ h)) hown hK hPr 0 rfl rfl 3 (by decide) (hts (Cond.fieldLink RX6 23 "JamDays" "jarCount" "I") (List.mem_of_getElem? (i := 1) rfl)) (fun _ h9 => h9) rfl dX6_find_6 ?_
    refine lv_icmp_ge (tgt := 27) hx hb dX6_find_9 (by decide) (fun c_2 => ?_) (fun c_2 => ?_)
    · skip
      replace c_2 : n ≤ j := (nI_leI (a := n) (b := j) (by omega) (by omega)).mp c_2
      exact absurd c_2 (by omega)
    · skip
      replace c_2 : ¬ n ≤ j := fun h => c_2 ((nI_leI (a := n) (b := j) (by omega) (by omega)).mpr h)
      refine lv_iload_n hx hb dX6_find_12 rfl (lv_at hl 1 rfl) ?_
      refine lv_bipush (v := 6) hx hb dX6_find_13 (by decide) ?_
      refine lv_icmp_ge (tgt := 27) hx hb dX6_find_15 (by decide) (fun c_3 => ?_) (fun c_3 => ?_)
      · skip
        replace c_3 : 6 ≤ j := (nI_leI (a := 6) (b := j) (by omega) (by omega)).mp c_3
        exact absurd c_3 (by omega)
      · skip
        replace c_3 : ¬ 6 ≤ j := fun h => c_3 ((nI_leI (a := 6) (b := j) (by omega) (by omega)).mpr h)
        refine lv_aload_n hx hb dX6_find_18 rfl (lv_at hl 0 rfl) ?_
        refine va_get (D := D) (ci := 6) (v := .ref xj) (C := RX6) (T := TX6) (N := 12) hx hb hts (fun w h => List.mem_cons_of_mem _ (List.mem_append_right _ h)) hown hK hPr 0 rfl rfl 2 (by decide) (hts (Cond.fieldLink RX6 19 "JamDays" "jars" "[LJamDays$Jar;") (List.mem_of_getElem? (i := 2) rfl)) (fun _ h9 => h9) rfl dX6_find_19 ?_
        refine lv_iload_n hx hb dX6_find_22 rfl (lv_at hl 1 rfl) ?_
        refine jv_aldq (k := j) hx hb hK hPr 1 1 rfl rfl (by omega) (by decide) dX6_find_23 ?_
        refine lv_goto (tgt := 28) hx hb dX6_find_24 (by decide) ?_
        exact W.aret (v := va_rf (jr j)) hx hb hr (Or.inl ⟨_, rfl⟩) (va_rf_or _) (fun t ht hW => ⟨⟨jr j, (), rfl, rfl, trivial⟩, hS.F ht⟩) hS.2.2 dX6_find_28

set_option maxHeartbeats 4000000 in
set_option maxRecDepth 100000 in
theorem c_find_no (l : Launch) (D : va_G) (cI cJ : ClassId) (x : Nat) (xj : Nat) (n : Nat) (a0 : Value) (a1 : Value) (a4 : Value) (a5 : Value) (a6 : Value) (a7 : Value) (a8 : Value) (a9 : Value) (a10 : Value) (a11 : Value) (jr : Nat → Option Nat) (p0 : Int32) (h9 : p0 < 0 ∨ nI n ≤ p0) : jRq l yX6_find wsX6_find ({ frames := 0, cells := 0, slots := 0, locals := 0 }) [.ref x, .int p0] D cI cJ (fun H => va_P D vwCl [(x, .inr (6, [a0, a1, .ref xj, .int (nI n), a4, a5, a6, a7, a8, a9, a10, a11])), (xj, .inl (cJ, 6, .inr (.inr (.inr (.inr jr)))))] H) (fun r => r = none) := by
  intro sz
  refine Met.ofW (cc := cX6_find) (maxL := 2) (ret := (some (.object "JamDays$Jar"))) (by decide) rfl ?_
  intro p e s m args below meth c s₁ B hml hv
  obtain ⟨rfl, hsz, hT, hPr⟩ := hv
  have hK := hT.1
  have hx := B.exec
  have hb := B.bytes
  have hr := B.returns
  have hts := atoms_spec (ws := wsX6_find) B.pre
  have hown : s.vm.findClass RX6 = some m.cls := findClass_of_methodNamed B.named
  have hlocks := B.notSynchronized
  subst hsz
  generalize hAe : va_A [] s.heap.size = A
  have hA : ∀ q : Nat, s.heap.size ≤ q → A q := fun q h => by rw [← hAe]; exact Or.inr h
  have hS : va_S A s.heap s.heap [] := va_S.rf
  have hl := lv_entry ([.ref x, .int p0] : List Value) (n := 2) (Nat.le_of_ble_eq_true rfl)
  rw [lg_entry_eq]
  generalize (lg_sl ([.ref x, .int p0]) ++ List.replicate (2 - (lg_sl ([.ref x, .int p0])).length) Slot.unset).toArray = ls at hl ⊢
  have hl : lv_has ls 2 [(0, .ref x), (1, .int p0)] := hl
  refine lv_iload_n hx hb dX6_find_0 rfl (lv_at hl 1 rfl) ?_
  refine lv_if_lt (tgt := 27) hx hb dX6_find_1 (by decide) (fun c_1 => ?_) (fun c_1 => ?_)
  · skip
    refine lv_null hx hb dX6_find_27 ?_
    exact W.aret (v := .null) hx hb hr (Or.inl ⟨_, rfl⟩) (Or.inl rfl) (fun t ht hW => ⟨⟨none, (), rfl, rfl, trivial⟩, hS.F ht⟩) hS.2.2 dX6_find_28
  · skip
    refine lv_iload_n hx hb dX6_find_4 rfl (lv_at hl 1 rfl) ?_
    refine lv_aload_n hx hb dX6_find_5 rfl (lv_at hl 0 rfl) ?_
    refine va_get (D := D) (ci := 6) (v := .int (nI n)) (C := RX6) (T := TX6) (N := 12) hx hb hts (fun w h => List.mem_cons_of_mem _ (List.mem_append_right _ h)) hown hK hPr 0 rfl rfl 3 (by decide) (hts (Cond.fieldLink RX6 23 "JamDays" "jarCount" "I") (List.mem_of_getElem? (i := 1) rfl)) (fun _ h9 => h9) rfl dX6_find_6 ?_
    refine lv_icmp_ge (tgt := 27) hx hb dX6_find_9 (by decide) (fun c_2 => ?_) (fun c_2 => ?_)
    · skip
      refine lv_null hx hb dX6_find_27 ?_
      exact W.aret (v := .null) hx hb hr (Or.inl ⟨_, rfl⟩) (Or.inl rfl) (fun t ht hW => ⟨⟨none, (), rfl, rfl, trivial⟩, hS.F ht⟩) hS.2.2 dX6_find_28
    · skip
      exact (h9.elim (fun h => c_1 h) (fun h => c_2 h)).elim

set_option maxHeartbeats 4000000 in
set_option maxRecDepth 100000 in
theorem c_firstWorth (l : Launch) (D : va_G) (cI cJ : ClassId) (x : Nat) (xj : Nat) (n : Nat) (a0 : Value) (a1 : Value) (a4 : Value) (a5 : Value) (a6 : Value) (a7 : Value) (a8 : Value) (a9 : Value) (a10 : Value) (a11 : Value) (jr : Nat → Option Nat) (jk : Nat → Nat) (jg : Nat → Int32) (js : Nat → Int32) (jm : Nat → Int32) (fw : Nat → Int32 → Int32) (j : Nat) (y : Int32) (hj : j < n) (hn6 : n ≤ 6) (hfw : ∀ i : Nat, i < n → ∀ z : Int32, cfw (jk i) (jg i) (jm i) z = fw i z) : jRi l yX6_firstWorth wsX6_firstWorth ({ frames := 2, cells := 0, slots := 0, locals := 44 }) [.ref x, .int (nI j), .int y] D cI cJ (fun H => va_P D vwCl [(x, .inr (6, [a0, a1, .ref xj, .int (nI n), a4, a5, a6, a7, a8, a9, a10, a11])), (xj, .inl (cJ, 6, .inr (.inr (.inr (.inr jr)))))] H ∧ jJ D n jr jk jg js jm H) (fun r => r = fw j y) := by
  intro sz
  refine Met.ofW (cc := cX6_firstWorth) (maxL := 4) (ret := (some .int)) (by decide) rfl ?_
  intro p e s m args below meth c s₁ B hml hv
  obtain ⟨rfl, hsz, hT, ⟨hPr, hJ⟩⟩ := hv
  have hK := hT.1
  have hx := B.exec
  have hb := B.bytes
  have hr := B.returns
  have hts := atoms_spec (ws := wsX6_firstWorth) B.pre
  have hown : s.vm.findClass RX6 = some m.cls := findClass_of_methodNamed B.named
  have hlocks := B.notSynchronized
  subst hsz
  generalize hAe : va_A [] s.heap.size = A
  have hA : ∀ q : Nat, s.heap.size ≤ q → A q := fun q h => by rw [← hAe]; exact Or.inr h
  have hS : va_S A s.heap s.heap [] := va_S.rf
  have hl := lv_entry ([.ref x, .int (nI j), .int y] : List Value) (n := 4) (Nat.le_of_ble_eq_true rfl)
  rw [lg_entry_eq]
  generalize (lg_sl ([.ref x, .int (nI j), .int y]) ++ List.replicate (4 - (lg_sl ([.ref x, .int (nI j), .int y])).length) Slot.unset).toArray = ls at hl ⊢
  have hl : lv_has ls 4 [(0, .ref x), (1, .int (nI j)), (2, .int y)] := hl
  refine lv_aload_n hx hb dX6_firstWorth_0 rfl (lv_at hl 0 rfl) ?_
  refine lv_iload_n hx hb dX6_firstWorth_1 rfl (lv_at hl 1 rfl) ?_
  have hPc_1 := hPr.sub (ws' := [(x, .inr (6, [a0, a1, .ref xj, .int (nI n), a4, a5, a6, a7, a8, a9, a10, a11])), (xj, .inl (cJ, 6, .inr (.inr (.inr (.inr jr)))))]) [0, 1] rfl
  refine jcallq (va_runV (As := [.int (nI j)]) (rest := []) ⟨hx, hb, hml, hown, hts⟩ (c_find_ok l D cI cJ x xj n a0 a1 a4 a5 a6 a7 a8 a9 a10 a11 jr j (by omega) (by omega) s.heap.size) (cwV 1 hts gX6_firstWorth_X6_find rfl rfl rfl (by decide +kernel) ⟨Nat.le_of_ble_eq_true rfl, Nat.le_of_ble_eq_true rfl⟩) (jpreV hT (va_recv hK hPr (ci := 6) (q0 := 0) rfl rfl) hPc_1) rfl rfl hl.1 rfl (lv_room (Nat.le_of_ble_eq_true rfl)) dX6_firstWorth_2 ⟨(Nat.zero_le _), (Nat.zero_le _)⟩) hS hA (fun r_2 H locs hw_r_2 hkq hS => ?_)
  try dsimp only at hw_r_2
  have hPr := jkeep hPr hkq
  have hJ := hJ.kept hkq
  obtain ⟨hk5, a, ea, hat⟩ := hJ j (by omega)
  rw [ea] at hw_r_2
  subst hw_r_2
  try dsimp only [va_rf]
  refine lv_astore_n (lv' := [(3, .ref a), (0, .ref x), (1, .int (nI j)), (2, .int y)]) hx hb dX6_firstWorth_5 rfl hl (by decide) rfl (fun ls hl => ?_)
  refine lv_aload_n hx hb dX6_firstWorth_6 rfl (lv_at hl 0 rfl) ?_
  refine lv_ifnonnull (tgt := 14) hx hb dX6_firstWorth_7 (by decide) ?_
  rcases hk5 with hk5 | hk5 | hk5 | hk5 | hk5
  · skip
    rw [hk5] at hat
    have hPj := jone hat
    refine lv_aload_n hx hb dX6_firstWorth_14 rfl (lv_at hl 0 rfl) ?_
    refine lv_iload_n hx hb dX6_firstWorth_15 rfl (lv_at hl 3 rfl) ?_
    have hPc_3 := hPj.sub (ws' := [(a, .inr (0, [.int (jg j), .int (js j), .int (jm j)]))]) [0] rfl
    refine jcalli (va_runU (As := [.int y]) (rest := []) ⟨hx, hb, hml, hown, hts⟩ (c_firstWorthIn_0 l D cI cJ a (jg j) (js j) (jm j) y H.size) (va_cwU 1 hts gX6_firstWorth_X3_firstWorthIn_u218X0 rfl rfl rfl rfl (by decide +kernel) ⟨Nat.le_of_ble_eq_true rfl, Nat.le_of_ble_eq_true rfl⟩) (jpreV hT (va_recv hK hPj (ci := 0) (q0 := 0) rfl rfl) hPc_3) rfl rfl hl.1 rfl (lv_room (Nat.le_of_ble_eq_true rfl)) dX6_firstWorth_16 ⟨(Nat.zero_le _), (Nat.zero_le _)⟩) hS hA (fun r_4 H locs hw_r_4 hkq hS => ?_)
    try dsimp only at hw_r_4
    have hPr := jkeep hPr hkq
    have hPj := jkeep hPj hkq
    have hJ := hJ.kept hkq
    subst hw_r_4
    exact W.iret (v := cfw 0 (jg j) (jm j) y) hx hb hr (fun t ht hW => ⟨⟨cfw 0 (jg j) (jm j) y, (), rfl, (by rw [← hfw j (by omega) y, hk5]), trivial⟩, hS.F ht⟩) hS.2.2 dX6_firstWorth_19
  · skip
    rw [hk5] at hat
    have hPj := jone hat
    refine lv_aload_n hx hb dX6_firstWorth_14 rfl (lv_at hl 0 rfl) ?_
    refine lv_iload_n hx hb dX6_firstWorth_15 rfl (lv_at hl 3 rfl) ?_
    have hPc_5 := hPj.sub (ws' := [(a, .inr (2, [.int (jg j), .int (js j), .int (jm j)]))]) [0] rfl
    refine jcalli (va_runU (As := [.int y]) (rest := []) ⟨hx, hb, hml, hown, hts⟩ (c_firstWorthIn_2 l D cI cJ a (jg j) (js j) (jm j) y H.size) (va_cwO 1 hts gX6_firstWorth_X2_firstWorthIn_u218X2 rfl rfl rfl (List.mem_of_getElem? (i := 13) (show _ = some (Cond.code yX3_firstWorthIn cX3_firstWorthIn 2 (some .int)) from rfl)) (by decide +kernel) ⟨Nat.le_of_ble_eq_true rfl, Nat.le_of_ble_eq_true rfl⟩) (jpreV hT (va_recv hK hPj (ci := 2) (q0 := 0) rfl rfl) hPc_5) rfl rfl hl.1 rfl (lv_room (Nat.le_of_ble_eq_true rfl)) dX6_firstWorth_16 ⟨(Nat.zero_le _), (Nat.zero_le _)⟩) hS hA (fun r_6 H locs hw_r_6 hkq hS => ?_)
    try dsimp only at hw_r_6
    have hPr := jkeep hPr hkq
    have hPj := jkeep hPj hkq
    have hJ := hJ.kept hkq
    subst hw_r_6
    exact W.iret (v := cfw 2 (jg j) (jm j) y) hx hb hr (fun t ht hW => ⟨⟨cfw 2 (jg j) (jm j) y, (), rfl, (by rw [← hfw j (by omega) y, hk5]), trivial⟩, hS.F ht⟩) hS.2.2 dX6_firstWorth_19
  · skip
    rw [hk5] at hat
    have hPj := jone hat
    refine lv_aload_n hx hb dX6_firstWorth_14 rfl (lv_at hl 0 rfl) ?_
    refine lv_iload_n hx hb dX6_firstWorth_15 rfl (lv_at hl 3 rfl) ?_
    have hPc_7 := hPj.sub (ws' := [(a, .inr (3, [.int (jg j), .int (js j), .int (jm j)]))]) [0] rfl
    refine jcalli (va_runV (As := [.int y]) (rest := []) ⟨hx, hb, hml, hown, hts⟩ (c_firstWorthIn_3 l D cI cJ a (jg j) (js j) (jm j) y H.size) (cwV 1 hts gX6_firstWorth_X3_firstWorthIn rfl rfl rfl (by decide +kernel) ⟨Nat.le_of_ble_eq_true rfl, Nat.le_of_ble_eq_true rfl⟩) (jpreV hT (va_recv hK hPj (ci := 3) (q0 := 0) rfl rfl) hPc_7) rfl rfl hl.1 rfl (lv_room (Nat.le_of_ble_eq_true rfl)) dX6_firstWorth_16 ⟨(Nat.zero_le _), (Nat.zero_le _)⟩) hS hA (fun r_8 H locs hw_r_8 hkq hS => ?_)
    try dsimp only at hw_r_8
    have hPr := jkeep hPr hkq
    have hPj := jkeep hPj hkq
    have hJ := hJ.kept hkq
    subst hw_r_8
    exact W.iret (v := cfw 3 (jg j) (jm j) y) hx hb hr (fun t ht hW => ⟨⟨cfw 3 (jg j) (jm j) y, (), rfl, (by rw [← hfw j (by omega) y, hk5]), trivial⟩, hS.F ht⟩) hS.2.2 dX6_firstWorth_19
  · skip
    rw [hk5] at hat
    have hPj := jone hat
    refine lv_aload_n hx hb dX6_firstWorth_14 rfl (lv_at hl 0 rfl) ?_
    refine lv_iload_n hx hb dX6_firstWorth_15 rfl (lv_at hl 3 rfl) ?_
    have hPc_9 := hPj.sub (ws' := [(a, .inr (4, [.int (jg j), .int (js j), .int (jm j)]))]) [0] rfl
    refine jcalli (va_runU (As := [.int y]) (rest := []) ⟨hx, hb, hml, hown, hts⟩ (c_firstWorthIn_4 l D cI cJ a (jg j) (js j) (jm j) y H.size) (va_cwO 1 hts gX6_firstWorth_X4_firstWorthIn_u218X4 rfl rfl rfl (List.mem_of_getElem? (i := 13) (show _ = some (Cond.code yX3_firstWorthIn cX3_firstWorthIn 2 (some .int)) from rfl)) (by decide +kernel) ⟨Nat.le_of_ble_eq_true rfl, Nat.le_of_ble_eq_true rfl⟩) (jpreV hT (va_recv hK hPj (ci := 4) (q0 := 0) rfl rfl) hPc_9) rfl rfl hl.1 rfl (lv_room (Nat.le_of_ble_eq_true rfl)) dX6_firstWorth_16 ⟨(Nat.zero_le _), (Nat.zero_le _)⟩) hS hA (fun r_10 H locs hw_r_10 hkq hS => ?_)
    try dsimp only at hw_r_10
    have hPr := jkeep hPr hkq
    have hPj := jkeep hPj hkq
    have hJ := hJ.kept hkq
    subst hw_r_10
    exact W.iret (v := cfw 4 (jg j) (jm j) y) hx hb hr (fun t ht hW => ⟨⟨cfw 4 (jg j) (jm j) y, (), rfl, (by rw [← hfw j (by omega) y, hk5]), trivial⟩, hS.F ht⟩) hS.2.2 dX6_firstWorth_19
  · skip
    rw [hk5] at hat
    have hPj := jone hat
    refine lv_aload_n hx hb dX6_firstWorth_14 rfl (lv_at hl 0 rfl) ?_
    refine lv_iload_n hx hb dX6_firstWorth_15 rfl (lv_at hl 3 rfl) ?_
    have hPc_11 := hPj.sub (ws' := [(a, .inr (5, [.int (jg j), .int (js j), .int (jm j)]))]) [0] rfl
    refine jcalli (va_runU (As := [.int y]) (rest := []) ⟨hx, hb, hml, hown, hts⟩ (c_firstWorthIn_5 l D cI cJ a (jg j) (js j) (jm j) y H.size) (va_cwU 1 hts gX6_firstWorth_X3_firstWorthIn_u218X5 rfl rfl rfl rfl (by decide +kernel) ⟨Nat.le_of_ble_eq_true rfl, Nat.le_of_ble_eq_true rfl⟩) (jpreV hT (va_recv hK hPj (ci := 5) (q0 := 0) rfl rfl) hPc_11) rfl rfl hl.1 rfl (lv_room (Nat.le_of_ble_eq_true rfl)) dX6_firstWorth_16 ⟨(Nat.zero_le _), (Nat.zero_le _)⟩) hS hA (fun r_12 H locs hw_r_12 hkq hS => ?_)
    try dsimp only at hw_r_12
    have hPr := jkeep hPr hkq
    have hPj := jkeep hPj hkq
    have hJ := hJ.kept hkq
    subst hw_r_12
    exact W.iret (v := cfw 5 (jg j) (jm j) y) hx hb hr (fun t ht hW => ⟨⟨cfw 5 (jg j) (jm j) y, (), rfl, (by rw [← hfw j (by omega) y, hk5]), trivial⟩, hS.F ht⟩) hS.2.2 dX6_firstWorth_19

set_option maxHeartbeats 4000000 in
set_option maxRecDepth 100000 in
theorem c_nextWorth (l : Launch) (D : va_G) (cI cJ : ClassId) (x : Nat) (xj : Nat) (xn : Nat) (ne : Nat) (n : Nat) (a0 : Value) (a1 : Value) (a5 : Value) (a6 : Value) (a7 : Value) (a8 : Value) (a9 : Value) (a10 : Value) (a11 : Value) (b1 : Value) (b2 : Value) (b3 : Value) (b4 : Value) (b5 : Value) (b7 : Value) (b8 : Value) (jr : Nat → Option Nat) (jk : Nat → Nat) (jg : Nat → Int32) (js : Nat → Int32) (jm : Nat → Int32) (fw : Nat → Int32 → Int32) (en : Nat → Int32) (y : Int32) (j : Nat) (hj : j < n) (hn6 : n ≤ 6) (hfw : ∀ i : Nat, i < n → ∀ z : Int32, cfw (jk i) (jg i) (jm i) z = fw i z) : jRi l yX6_nextWorth wsX6_nextWorth ({ frames := 3, cells := 0, slots := 0, locals := 67 }) [.ref x, .int (nI j)] D cI cJ (fun H => va_P D vwCl [(x, .inr (6, [a0, a1, .ref xj, .int (nI n), .ref xn, a5, a6, a7, a8, a9, a10, a11])), (xj, .inl (cJ, 6, .inr (.inr (.inr (.inr jr))))), (xn, .inr (1, [.int y, b1, b2, b3, b4, b5, .ref ne, b7, b8])), (ne, .inl (cI, 6, .inl en))] H ∧ jJ D n jr jk jg js jm H) (fun r => r = fw j y - en j) := by
  intro sz
  refine Met.ofW (cc := cX6_nextWorth) (maxL := 2) (ret := (some .int)) (by decide) rfl ?_
  intro p e s m args below meth c s₁ B hml hv
  obtain ⟨rfl, hsz, hT, ⟨hPr, hJ⟩⟩ := hv
  have hK := hT.1
  have hx := B.exec
  have hb := B.bytes
  have hr := B.returns
  have hts := atoms_spec (ws := wsX6_nextWorth) B.pre
  have hown : s.vm.findClass RX6 = some m.cls := findClass_of_methodNamed B.named
  have hlocks := B.notSynchronized
  subst hsz
  generalize hAe : va_A [] s.heap.size = A
  have hA : ∀ q : Nat, s.heap.size ≤ q → A q := fun q h => by rw [← hAe]; exact Or.inr h
  have hS : va_S A s.heap s.heap [] := va_S.rf
  have hl := lv_entry ([.ref x, .int (nI j)] : List Value) (n := 2) (Nat.le_of_ble_eq_true rfl)
  rw [lg_entry_eq]
  generalize (lg_sl ([.ref x, .int (nI j)]) ++ List.replicate (2 - (lg_sl ([.ref x, .int (nI j)])).length) Slot.unset).toArray = ls at hl ⊢
  have hl : lv_has ls 2 [(0, .ref x), (1, .int (nI j))] := hl
  refine lv_aload_n hx hb dX6_nextWorth_0 rfl (lv_at hl 0 rfl) ?_
  refine lv_iload_n hx hb dX6_nextWorth_1 rfl (lv_at hl 1 rfl) ?_
  refine lv_aload_n hx hb dX6_nextWorth_2 rfl (lv_at hl 0 rfl) ?_
  refine va_get (D := D) (ci := 6) (v := .ref xn) (C := RX6) (T := TX6) (N := 12) hx hb hts (fun w h => List.mem_cons_of_mem _ (List.mem_append_left _ (List.mem_append_left _ (List.mem_append_left _ (List.mem_append_left _ (List.mem_append_left _ (List.mem_append_left _ (List.mem_append_right _ h)))))))) hown hK hPr 0 rfl rfl 4 (by decide) (hts (Cond.fieldLink RX6 29 "JamDays" "now" "LJamDays$Days;") (List.mem_of_getElem? (i := 1) rfl)) (fun _ h9 => h9) rfl dX6_nextWorth_3 ?_
  refine va_get (D := D) (ci := 1) (v := .int y) (C := RX1) (T := TX1) (N := 9) hx hb hts (fun w h => List.mem_cons_of_mem _ (List.mem_append_left _ (List.mem_append_left _ (List.mem_append_left _ (List.mem_append_left _ (List.mem_append_left _ (List.mem_append_right _ h))))))) hown hK hPr 2 rfl rfl 0 (by decide) (hts (Cond.fieldLink RX6 91 "JamDays$Days" "year" "I") (List.mem_of_getElem? (i := 2) rfl)) (fun _ h9 => h9) rfl dX6_nextWorth_6 ?_
  have hPc_1 := hPr.sub (ws' := [(x, .inr (6, [a0, a1, .ref xj, .int (nI n), .ref xn, a5, a6, a7, a8, a9, a10, a11])), (xj, .inl (cJ, 6, .inr (.inr (.inr (.inr jr)))))]) [0, 1] rfl
  refine jcalli (va_runV (As := [.int (nI j), .int y]) (rest := []) ⟨hx, hb, hml, hown, hts⟩ (c_firstWorth l D cI cJ x xj n a0 a1 (.ref xn) a5 a6 a7 a8 a9 a10 a11 jr jk jg js jm fw j y hj hn6 hfw s.heap.size) (cwV 2 hts gX6_nextWorth_X6_firstWorth rfl rfl rfl (by decide +kernel) ⟨Nat.le_of_ble_eq_true rfl, Nat.le_of_ble_eq_true rfl⟩) (jpreV hT (va_recv hK hPr (ci := 6) (q0 := 0) rfl rfl) ⟨hPc_1, hJ⟩) rfl rfl hl.1 rfl (lv_room (Nat.le_of_ble_eq_true rfl)) dX6_nextWorth_9 ⟨(Nat.zero_le _), (Nat.zero_le _)⟩) hS hA (fun r_2 H locs hw_r_2 hkq hS => ?_)
  try dsimp only at hw_r_2
  have hPr := jkeep hPr hkq
  have hJ := hJ.kept hkq
  subst hw_r_2
  refine lv_aload_n hx hb dX6_nextWorth_12 rfl (lv_at hl 0 rfl) ?_
  refine va_get (D := D) (ci := 6) (v := .ref xn) (C := RX6) (T := TX6) (N := 12) hx hb hts (fun w h => List.mem_cons_of_mem _ (List.mem_append_left _ (List.mem_append_left _ (List.mem_append_left _ (List.mem_append_left _ (List.mem_append_left _ (List.mem_append_left _ (List.mem_append_right _ h)))))))) hown hK hPr 0 rfl rfl 4 (by decide) (hts (Cond.fieldLink RX6 29 "JamDays" "now" "LJamDays$Days;") (List.mem_of_getElem? (i := 1) rfl)) (fun _ h9 => h9) rfl dX6_nextWorth_13 ?_
  refine lv_iload_n hx hb dX6_nextWorth_16 rfl (lv_at hl 1 rfl) ?_
  have hPc_3 := hPr.sub (ws' := [(xn, .inr (1, [.int y, b1, b2, b3, b4, b5, .ref ne, b7, b8])), (ne, .inl (cI, 6, .inl en))]) [2, 3] rfl
  refine jcalli (va_runV (As := [.int (nI j)]) (rest := [.int (fw j y)]) ⟨hx, hb, hml, hown, hts⟩ (c_eatenNowOf l D cI cJ xn ne (.int y) b1 b2 b3 b4 b5 b7 b8 en j (by omega) H.size) (cwV 1 hts gX6_nextWorth_X1_eatenNowOf rfl rfl rfl (by decide +kernel) ⟨Nat.le_of_ble_eq_true rfl, Nat.le_of_ble_eq_true rfl⟩) (jpreV hT (va_recv hK hPr (ci := 1) (q0 := 2) rfl rfl) hPc_3) rfl rfl hl.1 rfl (lv_room (Nat.le_of_ble_eq_true rfl)) dX6_nextWorth_17 ⟨(Nat.zero_le _), (Nat.zero_le _)⟩) hS hA (fun r_4 H locs hw_r_4 hkq hS => ?_)
  try dsimp only at hw_r_4
  have hPr := jkeep hPr hkq
  have hJ := hJ.kept hkq
  subst hw_r_4
  refine lv_isub hx hb dX6_nextWorth_20 ?_
  exact W.iret (v := (fw j y) - (en j)) hx hb hr (fun t ht hW => ⟨⟨(fw j y) - (en j), (), rfl, rfl, trivial⟩, hS.F ht⟩) hS.2.2 dX6_nextWorth_21

/-- the first of k numbers that is the greatest -/
def jyb (g : Nat → Int32) : Nat → Nat
  | 0 => 0
  | k + 1 => if g k ≤ g (jyb g k) then jyb g k else k
theorem jyb_le (g : Nat → Int32) : ∀ k : Nat, jyb g k ≤ k
  | 0 => Nat.le_refl 0
  | k + 1 => by
    have h := jyb_le g k
    unfold jyb
    split <;> omega
set_option maxHeartbeats 4000000 in
set_option maxRecDepth 100000 in
theorem c_yearsToBest (l : Launch) (D : va_G) (cI cJ : ClassId) (x : Nat) (xj : Nat) (xn : Nat) (n : Nat) (a0 : Value) (a1 : Value) (a5 : Value) (a6 : Value) (a7 : Value) (a8 : Value) (a9 : Value) (a10 : Value) (a11 : Value) (b1 : Value) (b2 : Value) (b3 : Value) (b4 : Value) (b5 : Value) (b6 : Value) (b7 : Value) (b8 : Value) (jr : Nat → Option Nat) (jk : Nat → Nat) (jg : Nat → Int32) (js : Nat → Int32) (jm : Nat → Int32) (fw : Nat → Int32 → Int32) (y : Int32) (j : Nat) (hj : j < n) (hn6 : n ≤ 6) (hfw : ∀ i : Nat, i < n → ∀ z : Int32, cfw (jk i) (jg i) (jm i) z = fw i z) : jRi l yX6_yearsToBest wsX6_yearsToBest ({ frames := 3, cells := 0, slots := 0, locals := 67 }) [.ref x, .int (nI j)] D cI cJ (fun H => va_P D vwCl [(x, .inr (6, [a0, a1, .ref xj, .int (nI n), .ref xn, a5, a6, a7, a8, a9, a10, a11])), (xj, .inl (cJ, 6, .inr (.inr (.inr (.inr jr))))), (xn, .inr (1, [.int y, b1, b2, b3, b4, b5, b6, b7, b8]))] H ∧ jJ D n jr jk jg js jm H) (fun r => r = nI (jyb (fun i => fw j (y + nI i)) 10)) := by
  intro sz
  refine Met.ofW (cc := cX6_yearsToBest) (maxL := 4) (ret := (some .int)) (by decide) rfl ?_
  intro p e s m args below meth c s₁ B hml hv
  obtain ⟨rfl, hsz, hT, ⟨hPr, hJ⟩⟩ := hv
  have hK := hT.1
  have hx := B.exec
  have hb := B.bytes
  have hr := B.returns
  have hts := atoms_spec (ws := wsX6_yearsToBest) B.pre
  have hown : s.vm.findClass RX6 = some m.cls := findClass_of_methodNamed B.named
  have hlocks := B.notSynchronized
  subst hsz
  generalize hAe : va_A [] s.heap.size = A
  have hA : ∀ q : Nat, s.heap.size ≤ q → A q := fun q h => by rw [← hAe]; exact Or.inr h
  have hS : va_S A s.heap s.heap [] := va_S.rf
  have hl := lv_entry ([.ref x, .int (nI j)] : List Value) (n := 4) (Nat.le_of_ble_eq_true rfl)
  rw [lg_entry_eq]
  generalize (lg_sl ([.ref x, .int (nI j)]) ++ List.replicate (4 - (lg_sl ([.ref x, .int (nI j)])).length) Slot.unset).toArray = ls at hl ⊢
  have hl : lv_has ls 4 [(0, .ref x), (1, .int (nI j))] := hl
  refine lv_iconst (v := 0) hx hb dX6_yearsToBest_0 (by decide) ?_
  refine lv_istore_n (lv' := [(2, .int 0), (0, .ref x), (1, .int (nI j))]) hx hb dX6_yearsToBest_1 rfl hl (by decide) rfl (fun ls hl => ?_)
  refine lv_iconst (v := 1) hx hb dX6_yearsToBest_2 (by decide) ?_
  refine lv_istore_n (lv' := [(3, .int 1), (2, .int 0), (0, .ref x), (1, .int (nI j))]) hx hb dX6_yearsToBest_3 rfl hl (by decide) rfl (fun ls hl => ?_)
  refine jloop (α := Nat × Nat) (fun (x9 : Nat × Nat) (H : Heap) (locs : List Loc) (ls : Array Slot) => match x9 with | (k, f) => (va_P D vwCl [(x, .inr (6, [a0, a1, .ref xj, .int (nI n), .ref xn, a5, a6, a7, a8, a9, a10, a11])), (xj, .inl (cJ, 6, .inr (.inr (.inr (.inr jr))))), (xn, .inr (1, [.int y, b1, b2, b3, b4, b5, b6, b7, b8]))] H) ∧ (jJ D n jr jk jg js jm H) ∧ (va_S A s.heap H locs) ∧ (lv_has ls 4 [(0, .ref x), (1, .int (nI j)), (2, .int (nI f)), (3, .int (nI k))]) ∧ (0 < k) ∧ (k ≤ 10) ∧ (f = jyb (fun i => fw j (y + nI i)) k)) (fun (x9 : Nat × Nat) => match x9 with | (k, f) => 10 - k) (fun x9 H locs ls hx9 ih_4 => ?_) (1, 0) _ _ _ ⟨hPr, hJ, hS, lv_sub hl [2, 3, 1, 0] rfl, (by omega), (by omega), (by simp [jyb])⟩
  obtain ⟨k, f⟩ := x9
  obtain ⟨hPr, hJ, hS, hl, h0k, hk9, hf⟩ := hx9
  refine lv_iload_n hx hb dX6_yearsToBest_4 rfl (lv_at hl 3 rfl) ?_
  refine lv_bipush (v := 10) hx hb dX6_yearsToBest_5 (by decide) ?_
  refine lv_icmp_ge (tgt := 49) hx hb dX6_yearsToBest_7 (by decide) (fun c_1 => ?_) (fun c_1 => ?_)
  · skip
    replace c_1 : 10 ≤ k := (nI_leI (a := 10) (b := k) (by omega) (by omega)).mp c_1
    refine lv_iload_n hx hb dX6_yearsToBest_49 rfl (lv_at hl 2 rfl) ?_
    exact W.iret (v := nI f) hx hb hr (fun t ht hW => ⟨⟨nI f, (), rfl, (by rw [hf, show k = 10 by omega]), trivial⟩, hS.F ht⟩) hS.2.2 dX6_yearsToBest_50
  · skip
    replace c_1 : ¬ 10 ≤ k := fun h => c_1 ((nI_leI (a := 10) (b := k) (by omega) (by omega)).mpr h)
    refine lv_aload_n hx hb dX6_yearsToBest_10 rfl (lv_at hl 0 rfl) ?_
    refine lv_iload_n hx hb dX6_yearsToBest_11 rfl (lv_at hl 1 rfl) ?_
    refine lv_aload_n hx hb dX6_yearsToBest_12 rfl (lv_at hl 0 rfl) ?_
    refine va_get (D := D) (ci := 6) (v := .ref xn) (C := RX6) (T := TX6) (N := 12) hx hb hts (fun w h => List.mem_cons_of_mem _ (List.mem_append_left _ (List.mem_append_left _ (List.mem_append_left _ (List.mem_append_left _ (List.mem_append_left _ (List.mem_append_left _ (List.mem_append_right _ h)))))))) hown hK hPr 0 rfl rfl 4 (by decide) (hts (Cond.fieldLink RX6 29 "JamDays" "now" "LJamDays$Days;") (List.mem_of_getElem? (i := 1) rfl)) (fun _ h9 => h9) rfl dX6_yearsToBest_13 ?_
    refine va_get (D := D) (ci := 1) (v := .int y) (C := RX1) (T := TX1) (N := 9) hx hb hts (fun w h => List.mem_cons_of_mem _ (List.mem_append_left _ (List.mem_append_left _ (List.mem_append_left _ (List.mem_append_left _ (List.mem_append_left _ (List.mem_append_right _ h))))))) hown hK hPr 2 rfl rfl 0 (by decide) (hts (Cond.fieldLink RX6 91 "JamDays$Days" "year" "I") (List.mem_of_getElem? (i := 2) rfl)) (fun _ h9 => h9) rfl dX6_yearsToBest_16 ?_
    refine lv_iload_n hx hb dX6_yearsToBest_19 rfl (lv_at hl 3 rfl) ?_
    refine lv_iadd hx hb dX6_yearsToBest_20 ?_
    have hPc_2 := hPr.sub (ws' := [(x, .inr (6, [a0, a1, .ref xj, .int (nI n), .ref xn, a5, a6, a7, a8, a9, a10, a11])), (xj, .inl (cJ, 6, .inr (.inr (.inr (.inr jr)))))]) [0, 1] rfl
    refine jcalli (va_runV (As := [.int (nI j), .int (y + (nI k))]) (rest := []) ⟨hx, hb, hml, hown, hts⟩ (c_firstWorth l D cI cJ x xj n a0 a1 (.ref xn) a5 a6 a7 a8 a9 a10 a11 jr jk jg js jm fw j (y + (nI k)) hj hn6 hfw H.size) (cwV 2 hts gX6_yearsToBest_X6_firstWorth rfl rfl rfl (by decide +kernel) ⟨Nat.le_of_ble_eq_true rfl, Nat.le_of_ble_eq_true rfl⟩) (jpreV hT (va_recv hK hPr (ci := 6) (q0 := 0) rfl rfl) ⟨hPc_2, hJ⟩) rfl rfl hl.1 rfl (lv_room (Nat.le_of_ble_eq_true rfl)) dX6_yearsToBest_21 ⟨(Nat.zero_le _), (Nat.zero_le _)⟩) hS hA (fun r_3 H locs hw_r_3 hkq hS => ?_)
    try dsimp only at hw_r_3
    have hPr := jkeep hPr hkq
    have hJ := hJ.kept hkq
    subst hw_r_3
    refine lv_aload_n hx hb dX6_yearsToBest_24 rfl (lv_at hl 0 rfl) ?_
    refine lv_iload_n hx hb dX6_yearsToBest_25 rfl (lv_at hl 1 rfl) ?_
    refine lv_aload_n hx hb dX6_yearsToBest_26 rfl (lv_at hl 0 rfl) ?_
    refine va_get (D := D) (ci := 6) (v := .ref xn) (C := RX6) (T := TX6) (N := 12) hx hb hts (fun w h => List.mem_cons_of_mem _ (List.mem_append_left _ (List.mem_append_left _ (List.mem_append_left _ (List.mem_append_left _ (List.mem_append_left _ (List.mem_append_left _ (List.mem_append_right _ h)))))))) hown hK hPr 0 rfl rfl 4 (by decide) (hts (Cond.fieldLink RX6 29 "JamDays" "now" "LJamDays$Days;") (List.mem_of_getElem? (i := 1) rfl)) (fun _ h9 => h9) rfl dX6_yearsToBest_27 ?_
    refine va_get (D := D) (ci := 1) (v := .int y) (C := RX1) (T := TX1) (N := 9) hx hb hts (fun w h => List.mem_cons_of_mem _ (List.mem_append_left _ (List.mem_append_left _ (List.mem_append_left _ (List.mem_append_left _ (List.mem_append_left _ (List.mem_append_right _ h))))))) hown hK hPr 2 rfl rfl 0 (by decide) (hts (Cond.fieldLink RX6 91 "JamDays$Days" "year" "I") (List.mem_of_getElem? (i := 2) rfl)) (fun _ h9 => h9) rfl dX6_yearsToBest_30 ?_
    refine lv_iload_n hx hb dX6_yearsToBest_33 rfl (lv_at hl 2 rfl) ?_
    refine lv_iadd hx hb dX6_yearsToBest_34 ?_
    have hPc_4 := hPr.sub (ws' := [(x, .inr (6, [a0, a1, .ref xj, .int (nI n), .ref xn, a5, a6, a7, a8, a9, a10, a11])), (xj, .inl (cJ, 6, .inr (.inr (.inr (.inr jr)))))]) [0, 1] rfl
    refine jcalli (va_runV (As := [.int (nI j), .int (y + (nI f))]) (rest := [.int (fw j (y + (nI k)))]) ⟨hx, hb, hml, hown, hts⟩ (c_firstWorth l D cI cJ x xj n a0 a1 (.ref xn) a5 a6 a7 a8 a9 a10 a11 jr jk jg js jm fw j (y + (nI f)) hj hn6 hfw H.size) (cwV 2 hts gX6_yearsToBest_X6_firstWorth rfl rfl rfl (by decide +kernel) ⟨Nat.le_of_ble_eq_true rfl, Nat.le_of_ble_eq_true rfl⟩) (jpreV hT (va_recv hK hPr (ci := 6) (q0 := 0) rfl rfl) ⟨hPc_4, hJ⟩) rfl rfl hl.1 rfl (lv_room (Nat.le_of_ble_eq_true rfl)) dX6_yearsToBest_35 ⟨(Nat.zero_le _), (Nat.zero_le _)⟩) hS hA (fun r_5 H locs hw_r_5 hkq hS => ?_)
    try dsimp only at hw_r_5
    have hPr := jkeep hPr hkq
    have hJ := hJ.kept hkq
    subst hw_r_5
    refine lv_icmp_le (tgt := 43) hx hb dX6_yearsToBest_38 (by decide) (fun c_6 => ?_) (fun c_6 => ?_)
    · skip
      refine lv_iinc (v := nI (k + 1)) (lv' := [(3, .int (nI (k + 1))), (0, .ref x), (1, .int (nI j)), (2, .int (nI f))]) hx hb dX6_yearsToBest_43 hl (k := 3) rfl ((rfl : nI k + Int32.ofInt 1 = nI k + nI 1).trans (nI_add k 1)) (by decide) rfl (fun ls hl => ?_)
      refine lv_goto (tgt := 4) hx hb dX6_yearsToBest_46 (by decide) ?_
      exact ih_4 (k + 1, f) _ _ _ ⟨hPr, hJ, hS, lv_sub hl [1, 2, 3, 0] rfl, (by omega), (by omega), (by rw [jyb, if_pos (by rw [← hf]; exact c_6)]; exact hf)⟩ (by dsimp only; omega)
    · skip
      refine lv_iload_n hx hb dX6_yearsToBest_41 rfl (lv_at hl 3 rfl) ?_
      refine lv_istore_n (lv' := [(2, .int (nI k)), (0, .ref x), (1, .int (nI j)), (3, .int (nI k))]) hx hb dX6_yearsToBest_42 rfl hl (by decide) rfl (fun ls hl => ?_)
      refine lv_iinc (v := nI (k + 1)) (lv' := [(3, .int (nI (k + 1))), (2, .int (nI k)), (0, .ref x), (1, .int (nI j))]) hx hb dX6_yearsToBest_43 hl (k := 3) rfl ((rfl : nI k + Int32.ofInt 1 = nI k + nI 1).trans (nI_add k 1)) (by decide) rfl (fun ls hl => ?_)
      refine lv_goto (tgt := 4) hx hb dX6_yearsToBest_46 (by decide) ?_
      exact ih_4 (k + 1, k) _ _ _ ⟨hPr, hJ, hS, lv_sub hl [2, 3, 1, 0] rfl, (by omega), (by omega), (by rw [jyb, if_neg (by rw [← hf]; exact c_6)])⟩ (by dsimp only; omega)

def jemp (sp : Nat → Int32) : Nat → Int32
  | 0 => 0
  | k + 1 => if sp k = 0 then jemp sp k + 1 else jemp sp k
set_option maxHeartbeats 4000000 in
set_option maxRecDepth 100000 in
theorem c_emptyJars (l : Launch) (D : va_G) (cI cJ : ClassId) (x : Nat) (xn : Nat) (ns : Nat) (n : Nat) (a0 : Value) (a1 : Value) (a2 : Value) (a5 : Value) (a6 : Value) (a7 : Value) (a8 : Value) (a9 : Value) (a10 : Value) (a11 : Value) (b0 : Value) (b1 : Value) (b2 : Value) (b3 : Value) (b4 : Value) (b6 : Value) (b7 : Value) (b8 : Value) (sp : Nat → Int32) (hn6 : n ≤ 6) : jRi l yX6_emptyJars wsX6_emptyJars ({ frames := 1, cells := 0, slots := 0, locals := 21 }) [.ref x] D cI cJ (fun H => va_P D vwCl [(x, .inr (6, [a0, a1, a2, .int (nI n), .ref xn, a5, a6, a7, a8, a9, a10, a11])), (xn, .inr (1, [b0, b1, b2, b3, b4, .ref ns, b6, b7, b8])), (ns, .inl (cI, 6, .inl sp))] H) (fun r => r = jemp sp n) := by
  intro sz
  refine Met.ofW (cc := cX6_emptyJars) (maxL := 3) (ret := (some .int)) (by decide) rfl ?_
  intro p e s m args below meth c s₁ B hml hv
  obtain ⟨rfl, hsz, hT, hPr⟩ := hv
  have hK := hT.1
  have hx := B.exec
  have hb := B.bytes
  have hr := B.returns
  have hts := atoms_spec (ws := wsX6_emptyJars) B.pre
  have hown : s.vm.findClass RX6 = some m.cls := findClass_of_methodNamed B.named
  have hlocks := B.notSynchronized
  subst hsz
  generalize hAe : va_A [] s.heap.size = A
  have hA : ∀ q : Nat, s.heap.size ≤ q → A q := fun q h => by rw [← hAe]; exact Or.inr h
  have hS : va_S A s.heap s.heap [] := va_S.rf
  have hl := lv_entry ([.ref x] : List Value) (n := 3) (Nat.le_of_ble_eq_true rfl)
  rw [lg_entry_eq]
  generalize (lg_sl ([.ref x]) ++ List.replicate (3 - (lg_sl ([.ref x])).length) Slot.unset).toArray = ls at hl ⊢
  have hl : lv_has ls 3 [(0, .ref x)] := hl
  refine lv_iconst (v := 0) hx hb dX6_emptyJars_0 (by decide) ?_
  refine lv_istore_n (lv' := [(1, .int 0), (0, .ref x)]) hx hb dX6_emptyJars_1 rfl hl (by decide) rfl (fun ls hl => ?_)
  refine lv_iconst (v := 0) hx hb dX6_emptyJars_2 (by decide) ?_
  refine lv_istore_n (lv' := [(2, .int 0), (1, .int 0), (0, .ref x)]) hx hb dX6_emptyJars_3 rfl hl (by decide) rfl (fun ls hl => ?_)
  refine jloop (α := Nat × Int32) (fun (x9 : Nat × Int32) (H : Heap) (locs : List Loc) (ls : Array Slot) => match x9 with | (k, acc) => (va_P D vwCl [(x, .inr (6, [a0, a1, a2, .int (nI n), .ref xn, a5, a6, a7, a8, a9, a10, a11])), (xn, .inr (1, [b0, b1, b2, b3, b4, .ref ns, b6, b7, b8])), (ns, .inl (cI, 6, .inl sp))] H) ∧ (va_S A s.heap H locs) ∧ (lv_has ls 3 [(0, .ref x), (1, .int acc), (2, .int (nI k))]) ∧ (k ≤ n) ∧ (acc = jemp sp k)) (fun (x9 : Nat × Int32) => match x9 with | (k, acc) => n - k) (fun x9 H locs ls hx9 ih_4 => ?_) (0, 0) _ _ _ ⟨hPr, hS, lv_sub hl [2, 1, 0] rfl, (by omega), rfl⟩
  obtain ⟨k, acc⟩ := x9
  obtain ⟨hPr, hS, hl, hk9, hac⟩ := hx9
  refine lv_iload_n hx hb dX6_emptyJars_4 rfl (lv_at hl 2 rfl) ?_
  refine lv_aload_n hx hb dX6_emptyJars_5 rfl (lv_at hl 0 rfl) ?_
  refine va_get (D := D) (ci := 6) (v := .int (nI n)) (C := RX6) (T := TX6) (N := 12) hx hb hts (fun w h => List.mem_cons_of_mem _ (List.mem_append_left _ (List.mem_append_right _ h))) hown hK hPr 0 rfl rfl 3 (by decide) (hts (Cond.fieldLink RX6 23 "JamDays" "jarCount" "I") (List.mem_of_getElem? (i := 1) rfl)) (fun _ h9 => h9) rfl dX6_emptyJars_6 ?_
  refine lv_icmp_ge (tgt := 32) hx hb dX6_emptyJars_9 (by decide) (fun c_1 => ?_) (fun c_1 => ?_)
  · skip
    replace c_1 : n ≤ k := (nI_leI (a := n) (b := k) (by omega) (by omega)).mp c_1
    refine lv_iload_n hx hb dX6_emptyJars_32 rfl (lv_at hl 1 rfl) ?_
    exact W.iret (v := acc) hx hb hr (fun t ht hW => ⟨⟨acc, (), rfl, (by rw [hac, show k = n by omega]), trivial⟩, hS.F ht⟩) hS.2.2 dX6_emptyJars_33
  · skip
    replace c_1 : ¬ n ≤ k := fun h => c_1 ((nI_leI (a := n) (b := k) (by omega) (by omega)).mpr h)
    refine lv_aload_n hx hb dX6_emptyJars_12 rfl (lv_at hl 0 rfl) ?_
    refine va_get (D := D) (ci := 6) (v := .ref xn) (C := RX6) (T := TX6) (N := 12) hx hb hts (fun w h => List.mem_cons_of_mem _ (List.mem_append_left _ (List.mem_append_right _ h))) hown hK hPr 0 rfl rfl 4 (by decide) (hts (Cond.fieldLink RX6 29 "JamDays" "now" "LJamDays$Days;") (List.mem_of_getElem? (i := 2) rfl)) (fun _ h9 => h9) rfl dX6_emptyJars_13 ?_
    refine lv_iload_n hx hb dX6_emptyJars_16 rfl (lv_at hl 2 rfl) ?_
    have hPc_2 := hPr.sub (ws' := [(xn, .inr (1, [b0, b1, b2, b3, b4, .ref ns, b6, b7, b8])), (ns, .inl (cI, 6, .inl sp))]) [1, 2] rfl
    refine jcalli (va_runV (As := [.int (nI k)]) (rest := []) ⟨hx, hb, hml, hown, hts⟩ (c_spoonsOf l D cI cJ xn ns b0 b1 b2 b3 b4 b6 b7 b8 sp k (by omega) H.size) (cwV 1 hts gX6_emptyJars_X1_spoonsOf rfl rfl rfl (by decide +kernel) ⟨Nat.le_of_ble_eq_true rfl, Nat.le_of_ble_eq_true rfl⟩) (jpreV hT (va_recv hK hPr (ci := 1) (q0 := 1) rfl rfl) hPc_2) rfl rfl hl.1 rfl (lv_room (Nat.le_of_ble_eq_true rfl)) dX6_emptyJars_17 ⟨(Nat.zero_le _), (Nat.zero_le _)⟩) hS hA (fun r_3 H locs hw_r_3 hkq hS => ?_)
    try dsimp only at hw_r_3
    have hPr := jkeep hPr hkq
    subst hw_r_3
    refine lv_if_ne (tgt := 26) hx hb dX6_emptyJars_20 (by decide) (fun c_4 => ?_) (fun c_4 => ?_)
    · skip
      refine lv_iinc (v := nI (k + 1)) (lv' := [(2, .int (nI (k + 1))), (0, .ref x), (1, .int acc)]) hx hb dX6_emptyJars_26 hl (k := 2) rfl ((rfl : nI k + Int32.ofInt 1 = nI k + nI 1).trans (nI_add k 1)) (by decide) rfl (fun ls hl => ?_)
      refine lv_goto (tgt := 4) hx hb dX6_emptyJars_29 (by decide) ?_
      exact ih_4 (k + 1, acc) _ _ _ ⟨hPr, hS, lv_sub hl [1, 2, 0] rfl, (by omega), (by rw [hac]; simp [jemp, c_4])⟩ (by dsimp only; omega)
    · skip
      refine lv_iinc (v := acc + 1) (lv' := [(1, .int (acc + 1)), (0, .ref x), (2, .int (nI k))]) hx hb dX6_emptyJars_23 hl (k := 1) rfl rfl (by decide) rfl (fun ls hl => ?_)
      refine lv_iinc (v := nI (k + 1)) (lv' := [(2, .int (nI (k + 1))), (1, .int (acc + 1)), (0, .ref x)]) hx hb dX6_emptyJars_26 hl (k := 2) rfl ((rfl : nI k + Int32.ofInt 1 = nI k + nI 1).trans (nI_add k 1)) (by decide) rfl (fun ls hl => ?_)
      refine lv_goto (tgt := 4) hx hb dX6_emptyJars_29 (by decide) ?_
      exact ih_4 (k + 1, acc + 1) _ _ _ ⟨hPr, hS, lv_sub hl [2, 1, 0] rfl, (by omega), (by rw [hac]; simp [jemp, c_4])⟩ (by dsimp only; omega)

def jag (fw : Nat → Int32 → Int32) (j : Nat) (tY tW : Nat → Int32) : Nat → Bool
  | 0 => true
  | k + 1 => jag fw j tY tW k && decide (fw j (tY k) = tW k)
theorem jag_no {fw : Nat → Int32 → Int32} {j : Nat} {tY tW : Nat → Int32} {k : Nat} (h : ¬ fw j (tY k) = tW k) : ∀ n : Nat, k < n → jag fw j tY tW n = false
  | 0, h1 => absurd h1 (Nat.not_lt_zero _)
  | n + 1, h1 => by
    unfold jag
    by_cases h2 : k = n
    · subst h2; simp [h]
    · rw [jag_no h n (by omega)]; rfl
def jcan (B : Nat → Bool) : Nat → Int32
  | 0 => 0
  | k + 1 => if B k then jcan B k ||| ((1 : Int32) <<< (nI k &&& 31)) else jcan B k
set_option maxHeartbeats 4000000 in
set_option maxRecDepth 100000 in
theorem c_agreesWithTastes (l : Launch) (D : va_G) (cI cJ : ClassId) (x : Nat) (xj : Nat) (xn : Nat) (n7 : Nat) (n8 : Nat) (tn : Nat) (n : Nat) (a0 : Value) (a1 : Value) (a5 : Value) (a6 : Value) (a7 : Value) (a8 : Value) (a9 : Value) (a10 : Value) (a11 : Value) (b0 : Value) (b1 : Value) (b2 : Value) (b3 : Value) (b5 : Value) (b6 : Value) (jr : Nat → Option Nat) (jk : Nat → Nat) (jg : Nat → Int32) (js : Nat → Int32) (jm : Nat → Int32) (fw : Nat → Int32 → Int32) (tY : Nat → Int32) (tW : Nat → Int32) (j : Nat) (hj : j < n) (hn6 : n ≤ 6) (ht6 : tn ≤ 6) (hfw : ∀ i : Nat, i < n → ∀ z : Int32, cfw (jk i) (jg i) (jm i) z = fw i z) : jRi l yX6_agreesWithTastes wsX6_agreesWithTastes ({ frames := 3, cells := 0, slots := 0, locals := 67 }) [.ref x, .int (nI j)] D cI cJ (fun H => va_P D vwCl [(x, .inr (6, [a0, a1, .ref xj, .int (nI n), .ref xn, a5, a6, a7, a8, a9, a10, a11])), (xj, .inl (cJ, 6, .inr (.inr (.inr (.inr jr))))), (xn, .inr (1, [b0, b1, b2, b3, .int (nI tn), b5, b6, .ref n7, .ref n8])), (n7, .inl (cI, 6, .inl tY)), (n8, .inl (cI, 6, .inl tW))] H ∧ jJ D n jr jk jg js jm H) (fun r => r = (if jag fw j tY tW tn then 1 else 0)) := by
  intro sz
  refine Met.ofW (cc := cX6_agreesWithTastes) (maxL := 3) (ret := (some .boolean)) (by decide) rfl ?_
  intro p e s m args below meth c s₁ B hml hv
  obtain ⟨rfl, hsz, hT, ⟨hPr, hJ⟩⟩ := hv
  have hK := hT.1
  have hx := B.exec
  have hb := B.bytes
  have hr := B.returns
  have hts := atoms_spec (ws := wsX6_agreesWithTastes) B.pre
  have hown : s.vm.findClass RX6 = some m.cls := findClass_of_methodNamed B.named
  have hlocks := B.notSynchronized
  subst hsz
  generalize hAe : va_A [] s.heap.size = A
  have hA : ∀ q : Nat, s.heap.size ≤ q → A q := fun q h => by rw [← hAe]; exact Or.inr h
  have hS : va_S A s.heap s.heap [] := va_S.rf
  have hl := lv_entry ([.ref x, .int (nI j)] : List Value) (n := 3) (Nat.le_of_ble_eq_true rfl)
  rw [lg_entry_eq]
  generalize (lg_sl ([.ref x, .int (nI j)]) ++ List.replicate (3 - (lg_sl ([.ref x, .int (nI j)])).length) Slot.unset).toArray = ls at hl ⊢
  have hl : lv_has ls 3 [(0, .ref x), (1, .int (nI j))] := hl
  refine lv_iconst (v := 0) hx hb dX6_agreesWithTastes_0 (by decide) ?_
  refine lv_istore_n (lv' := [(2, .int 0), (0, .ref x), (1, .int (nI j))]) hx hb dX6_agreesWithTastes_1 rfl hl (by decide) rfl (fun ls hl => ?_)
  refine jloop (α := Nat) (fun (k : Nat) (H : Heap) (locs : List Loc) (ls : Array Slot) => (va_P D vwCl [(x, .inr (6, [a0, a1, .ref xj, .int (nI n), .ref xn, a5, a6, a7, a8, a9, a10, a11])), (xj, .inl (cJ, 6, .inr (.inr (.inr (.inr jr))))), (xn, .inr (1, [b0, b1, b2, b3, .int (nI tn), b5, b6, .ref n7, .ref n8])), (n7, .inl (cI, 6, .inl tY)), (n8, .inl (cI, 6, .inl tW))] H) ∧ (jJ D n jr jk jg js jm H) ∧ (va_S A s.heap H locs) ∧ (lv_has ls 3 [(0, .ref x), (1, .int (nI j)), (2, .int (nI k))]) ∧ (k ≤ tn) ∧ (jag fw j tY tW k = true)) (fun (k : Nat) => tn - k) (fun k H locs ls hx9 ih_2 => ?_) 0 _ _ _ ⟨hPr, hJ, hS, lv_sub hl [1, 2, 0] rfl, (by omega), rfl⟩
  obtain ⟨hPr, hJ, hS, hl, hk9, hag⟩ := hx9
  refine lv_iload_n hx hb dX6_agreesWithTastes_2 rfl (lv_at hl 2 rfl) ?_
  refine lv_aload_n hx hb dX6_agreesWithTastes_3 rfl (lv_at hl 0 rfl) ?_
  refine va_get (D := D) (ci := 6) (v := .ref xn) (C := RX6) (T := TX6) (N := 12) hx hb hts (fun w h => List.mem_cons_of_mem _ (List.mem_append_left _ (List.mem_append_left _ (List.mem_append_left _ (List.mem_append_left _ (List.mem_append_left _ (List.mem_append_left _ (List.mem_append_right _ h)))))))) hown hK hPr 0 rfl rfl 4 (by decide) (hts (Cond.fieldLink RX6 29 "JamDays" "now" "LJamDays$Days;") (List.mem_of_getElem? (i := 1) rfl)) (fun _ h9 => h9) rfl dX6_agreesWithTastes_4 ?_
  refine va_get (D := D) (ci := 1) (v := .int (nI tn)) (C := RX1) (T := TX1) (N := 9) hx hb hts (fun w h => List.mem_cons_of_mem _ (List.mem_append_left _ (List.mem_append_left _ (List.mem_append_left _ (List.mem_append_left _ (List.mem_append_left _ (List.mem_append_right _ h))))))) hown hK hPr 2 rfl rfl 4 (by decide) (hts (Cond.fieldLink RX6 143 "JamDays$Days" "tasted" "I") (List.mem_of_getElem? (i := 2) rfl)) (fun _ h9 => h9) rfl dX6_agreesWithTastes_7 ?_
  refine lv_icmp_ge (tgt := 53) hx hb dX6_agreesWithTastes_10 (by decide) (fun c_1 => ?_) (fun c_1 => ?_)
  · skip
    replace c_1 : tn ≤ k := (nI_leI (a := tn) (b := k) (by omega) (by omega)).mp c_1
    refine lv_iconst (v := 1) hx hb dX6_agreesWithTastes_53 (by decide) ?_
    exact W.zret (v := 1) hx hb hr (by decide) (fun t ht hW => ⟨⟨1, (), rfl, (by rw [show tn = k by omega, hag]; rfl), trivial⟩, hS.F ht⟩) hS.2.2 dX6_agreesWithTastes_54
  · skip
    replace c_1 : ¬ tn ≤ k := fun h => c_1 ((nI_leI (a := tn) (b := k) (by omega) (by omega)).mpr h)
    refine lv_iload_n hx hb dX6_agreesWithTastes_13 rfl (lv_at hl 2 rfl) ?_
    refine lv_bipush (v := 6) hx hb dX6_agreesWithTastes_14 (by decide) ?_
    refine lv_icmp_ge (tgt := 53) hx hb dX6_agreesWithTastes_16 (by decide) (fun c_2 => ?_) (fun c_2 => ?_)
    · skip
      replace c_2 : 6 ≤ k := (nI_leI (a := 6) (b := k) (by omega) (by omega)).mp c_2
      refine lv_iconst (v := 1) hx hb dX6_agreesWithTastes_53 (by decide) ?_
      exact W.zret (v := 1) hx hb hr (by decide) (fun t ht hW => ⟨⟨1, (), rfl, (by rw [show tn = k by omega, hag]; rfl), trivial⟩, hS.F ht⟩) hS.2.2 dX6_agreesWithTastes_54
    · skip
      replace c_2 : ¬ 6 ≤ k := fun h => c_2 ((nI_leI (a := 6) (b := k) (by omega) (by omega)).mpr h)
      refine lv_aload_n hx hb dX6_agreesWithTastes_19 rfl (lv_at hl 0 rfl) ?_
      refine lv_iload_n hx hb dX6_agreesWithTastes_20 rfl (lv_at hl 1 rfl) ?_
      refine lv_aload_n hx hb dX6_agreesWithTastes_21 rfl (lv_at hl 0 rfl) ?_
      refine va_get (D := D) (ci := 6) (v := .ref xn) (C := RX6) (T := TX6) (N := 12) hx hb hts (fun w h => List.mem_cons_of_mem _ (List.mem_append_left _ (List.mem_append_left _ (List.mem_append_left _ (List.mem_append_left _ (List.mem_append_left _ (List.mem_append_left _ (List.mem_append_right _ h)))))))) hown hK hPr 0 rfl rfl 4 (by decide) (hts (Cond.fieldLink RX6 29 "JamDays" "now" "LJamDays$Days;") (List.mem_of_getElem? (i := 1) rfl)) (fun _ h9 => h9) rfl dX6_agreesWithTastes_22 ?_
      refine va_get (D := D) (ci := 1) (v := .ref n7) (C := RX1) (T := TX1) (N := 9) hx hb hts (fun w h => List.mem_cons_of_mem _ (List.mem_append_left _ (List.mem_append_left _ (List.mem_append_left _ (List.mem_append_left _ (List.mem_append_left _ (List.mem_append_right _ h))))))) hown hK hPr 2 rfl rfl 7 (by decide) (hts (Cond.fieldLink RX6 249 "JamDays$Days" "tastedYear" "[I") (List.mem_of_getElem? (i := 3) rfl)) (fun _ h9 => h9) rfl dX6_agreesWithTastes_25 ?_
      refine lv_iload_n hx hb dX6_agreesWithTastes_28 rfl (lv_at hl 2 rfl) ?_
      refine jv_ald (k := k) hx hb hK hPr 3 0 rfl rfl (by omega) (by decide) dX6_agreesWithTastes_29 ?_
      have hPc_3 := hPr.sub (ws' := [(x, .inr (6, [a0, a1, .ref xj, .int (nI n), .ref xn, a5, a6, a7, a8, a9, a10, a11])), (xj, .inl (cJ, 6, .inr (.inr (.inr (.inr jr)))))]) [0, 1] rfl
      refine jcalli (va_runV (As := [.int (nI j), .int (tY k)]) (rest := []) ⟨hx, hb, hml, hown, hts⟩ (c_firstWorth l D cI cJ x xj n a0 a1 (.ref xn) a5 a6 a7 a8 a9 a10 a11 jr jk jg js jm fw j (tY k) hj hn6 hfw H.size) (cwV 2 hts gX6_agreesWithTastes_X6_firstWorth rfl rfl rfl (by decide +kernel) ⟨Nat.le_of_ble_eq_true rfl, Nat.le_of_ble_eq_true rfl⟩) (jpreV hT (va_recv hK hPr (ci := 6) (q0 := 0) rfl rfl) ⟨hPc_3, hJ⟩) rfl rfl hl.1 rfl (lv_room (Nat.le_of_ble_eq_true rfl)) dX6_agreesWithTastes_30 ⟨(Nat.zero_le _), (Nat.zero_le _)⟩) hS hA (fun r_4 H locs hw_r_4 hkq hS => ?_)
      try dsimp only at hw_r_4
      have hPr := jkeep hPr hkq
      have hJ := hJ.kept hkq
      subst hw_r_4
      refine lv_aload_n hx hb dX6_agreesWithTastes_33 rfl (lv_at hl 0 rfl) ?_
      refine va_get (D := D) (ci := 6) (v := .ref xn) (C := RX6) (T := TX6) (N := 12) hx hb hts (fun w h => List.mem_cons_of_mem _ (List.mem_append_left _ (List.mem_append_left _ (List.mem_append_left _ (List.mem_append_left _ (List.mem_append_left _ (List.mem_append_left _ (List.mem_append_right _ h)))))))) hown hK hPr 0 rfl rfl 4 (by decide) (hts (Cond.fieldLink RX6 29 "JamDays" "now" "LJamDays$Days;") (List.mem_of_getElem? (i := 1) rfl)) (fun _ h9 => h9) rfl dX6_agreesWithTastes_34 ?_
      refine va_get (D := D) (ci := 1) (v := .ref n8) (C := RX1) (T := TX1) (N := 9) hx hb hts (fun w h => List.mem_cons_of_mem _ (List.mem_append_left _ (List.mem_append_left _ (List.mem_append_left _ (List.mem_append_left _ (List.mem_append_left _ (List.mem_append_right _ h))))))) hown hK hPr 2 rfl rfl 8 (by decide) (hts (Cond.fieldLink RX6 252 "JamDays$Days" "tastedWorth" "[I") (List.mem_of_getElem? (i := 4) rfl)) (fun _ h9 => h9) rfl dX6_agreesWithTastes_37 ?_
      refine lv_iload_n hx hb dX6_agreesWithTastes_40 rfl (lv_at hl 2 rfl) ?_
      refine jv_ald (k := k) hx hb hK hPr 4 0 rfl rfl (by omega) (by decide) dX6_agreesWithTastes_41 ?_
      refine lv_icmp_eq (tgt := 47) hx hb dX6_agreesWithTastes_42 (by decide) (fun c_5 => ?_) (fun c_5 => ?_)
      · skip
        refine lv_iinc (v := nI (k + 1)) (lv' := [(2, .int (nI (k + 1))), (0, .ref x), (1, .int (nI j))]) hx hb dX6_agreesWithTastes_47 hl (k := 2) rfl ((rfl : nI k + Int32.ofInt 1 = nI k + nI 1).trans (nI_add k 1)) (by decide) rfl (fun ls hl => ?_)
        refine lv_goto (tgt := 2) hx hb dX6_agreesWithTastes_50 (by decide) ?_
        exact ih_2 (k + 1) _ _ _ ⟨hPr, hJ, hS, lv_sub hl [1, 2, 0] rfl, (by omega), (by rw [jag, hag]; simp [c_5])⟩ (by omega)
      · skip
        refine lv_iconst (v := 0) hx hb dX6_agreesWithTastes_45 (by decide) ?_
        exact W.zret (v := 0) hx hb hr (by decide) (fun t ht hW => ⟨⟨0, (), rfl, (by rw [jag_no c_5 tn (by omega)]; rfl), trivial⟩, hS.F ht⟩) hS.2.2 dX6_agreesWithTastes_46

set_option maxHeartbeats 4000000 in
set_option maxRecDepth 100000 in
theorem c_candidates (l : Launch) (D : va_G) (cI cJ : ClassId) (x : Nat) (xj : Nat) (xn : Nat) (n7 : Nat) (n8 : Nat) (tn : Nat) (n : Nat) (a0 : Value) (a1 : Value) (a5 : Value) (a6 : Value) (a7 : Value) (a8 : Value) (a9 : Value) (a10 : Value) (a11 : Value) (b0 : Value) (b1 : Value) (b2 : Value) (b3 : Value) (b5 : Value) (b6 : Value) (jr : Nat → Option Nat) (jk : Nat → Nat) (jg : Nat → Int32) (js : Nat → Int32) (jm : Nat → Int32) (fw : Nat → Int32 → Int32) (tY : Nat → Int32) (tW : Nat → Int32) (hn6 : n ≤ 6) (ht6 : tn ≤ 6) (hfw : ∀ i : Nat, i < n → ∀ z : Int32, cfw (jk i) (jg i) (jm i) z = fw i z) : jRi l yX6_candidates wsX6_candidates ({ frames := 4, cells := 0, slots := 0, locals := 89 }) [.ref x] D cI cJ (fun H => va_P D vwCl [(x, .inr (6, [a0, a1, .ref xj, .int (nI n), .ref xn, a5, a6, a7, a8, a9, a10, a11])), (xj, .inl (cJ, 6, .inr (.inr (.inr (.inr jr))))), (xn, .inr (1, [b0, b1, b2, b3, .int (nI tn), b5, b6, .ref n7, .ref n8])), (n7, .inl (cI, 6, .inl tY)), (n8, .inl (cI, 6, .inl tW))] H ∧ jJ D n jr jk jg js jm H) (fun r => r = jcan (fun i => jag fw i tY tW tn) n) := by
  intro sz
  refine Met.ofW (cc := cX6_candidates) (maxL := 3) (ret := (some .int)) (by decide) rfl ?_
  intro p e s m args below meth c s₁ B hml hv
  obtain ⟨rfl, hsz, hT, ⟨hPr, hJ⟩⟩ := hv
  have hK := hT.1
  have hx := B.exec
  have hb := B.bytes
  have hr := B.returns
  have hts := atoms_spec (ws := wsX6_candidates) B.pre
  have hown : s.vm.findClass RX6 = some m.cls := findClass_of_methodNamed B.named
  have hlocks := B.notSynchronized
  subst hsz
  generalize hAe : va_A [] s.heap.size = A
  have hA : ∀ q : Nat, s.heap.size ≤ q → A q := fun q h => by rw [← hAe]; exact Or.inr h
  have hS : va_S A s.heap s.heap [] := va_S.rf
  have hl := lv_entry ([.ref x] : List Value) (n := 3) (Nat.le_of_ble_eq_true rfl)
  rw [lg_entry_eq]
  generalize (lg_sl ([.ref x]) ++ List.replicate (3 - (lg_sl ([.ref x])).length) Slot.unset).toArray = ls at hl ⊢
  have hl : lv_has ls 3 [(0, .ref x)] := hl
  refine lv_iconst (v := 0) hx hb dX6_candidates_0 (by decide) ?_
  refine lv_istore_n (lv' := [(1, .int 0), (0, .ref x)]) hx hb dX6_candidates_1 rfl hl (by decide) rfl (fun ls hl => ?_)
  refine lv_iconst (v := 0) hx hb dX6_candidates_2 (by decide) ?_
  refine lv_istore_n (lv' := [(2, .int 0), (1, .int 0), (0, .ref x)]) hx hb dX6_candidates_3 rfl hl (by decide) rfl (fun ls hl => ?_)
  refine jloop (α := Nat × Int32) (fun (x9 : Nat × Int32) (H : Heap) (locs : List Loc) (ls : Array Slot) => match x9 with | (k, acc) => (va_P D vwCl [(x, .inr (6, [a0, a1, .ref xj, .int (nI n), .ref xn, a5, a6, a7, a8, a9, a10, a11])), (xj, .inl (cJ, 6, .inr (.inr (.inr (.inr jr))))), (xn, .inr (1, [b0, b1, b2, b3, .int (nI tn), b5, b6, .ref n7, .ref n8])), (n7, .inl (cI, 6, .inl tY)), (n8, .inl (cI, 6, .inl tW))] H) ∧ (jJ D n jr jk jg js jm H) ∧ (va_S A s.heap H locs) ∧ (lv_has ls 3 [(0, .ref x), (1, .int acc), (2, .int (nI k))]) ∧ (k ≤ n) ∧ (acc = jcan (fun i => jag fw i tY tW tn) k)) (fun (x9 : Nat × Int32) => match x9 with | (k, acc) => n - k) (fun x9 H locs ls hx9 ih_4 => ?_) (0, 0) _ _ _ ⟨hPr, hJ, hS, lv_sub hl [2, 1, 0] rfl, (by omega), rfl⟩
  obtain ⟨k, acc⟩ := x9
  obtain ⟨hPr, hJ, hS, hl, hk9, hac⟩ := hx9
  refine lv_iload_n hx hb dX6_candidates_4 rfl (lv_at hl 2 rfl) ?_
  refine lv_aload_n hx hb dX6_candidates_5 rfl (lv_at hl 0 rfl) ?_
  refine va_get (D := D) (ci := 6) (v := .int (nI n)) (C := RX6) (T := TX6) (N := 12) hx hb hts (fun w h => List.mem_cons_of_mem _ (List.mem_append_left _ (List.mem_append_left _ (List.mem_append_left _ (List.mem_append_left _ (List.mem_append_left _ (List.mem_append_left _ (List.mem_append_right _ h)))))))) hown hK hPr 0 rfl rfl 3 (by decide) (hts (Cond.fieldLink RX6 23 "JamDays" "jarCount" "I") (List.mem_of_getElem? (i := 1) rfl)) (fun _ h9 => h9) rfl dX6_candidates_6 ?_
  refine lv_icmp_ge (tgt := 32) hx hb dX6_candidates_9 (by decide) (fun c_1 => ?_) (fun c_1 => ?_)
  · skip
    replace c_1 : n ≤ k := (nI_leI (a := n) (b := k) (by omega) (by omega)).mp c_1
    refine lv_iload_n hx hb dX6_candidates_32 rfl (lv_at hl 1 rfl) ?_
    exact W.iret (v := acc) hx hb hr (fun t ht hW => ⟨⟨acc, (), rfl, (by rw [hac, show k = n by omega]), trivial⟩, hS.F ht⟩) hS.2.2 dX6_candidates_33
  · skip
    replace c_1 : ¬ n ≤ k := fun h => c_1 ((nI_leI (a := n) (b := k) (by omega) (by omega)).mpr h)
    refine lv_aload_n hx hb dX6_candidates_12 rfl (lv_at hl 0 rfl) ?_
    refine lv_iload_n hx hb dX6_candidates_13 rfl (lv_at hl 2 rfl) ?_
    have hPc_2 := hPr.sub (ws' := [(x, .inr (6, [a0, a1, .ref xj, .int (nI n), .ref xn, a5, a6, a7, a8, a9, a10, a11])), (xj, .inl (cJ, 6, .inr (.inr (.inr (.inr jr))))), (xn, .inr (1, [b0, b1, b2, b3, .int (nI tn), b5, b6, .ref n7, .ref n8])), (n7, .inl (cI, 6, .inl tY)), (n8, .inl (cI, 6, .inl tW))]) [0, 1, 2, 3, 4] rfl
    refine jcalli (va_runV (As := [.int (nI k)]) (rest := []) ⟨hx, hb, hml, hown, hts⟩ (c_agreesWithTastes l D cI cJ x xj xn n7 n8 tn n a0 a1 a5 a6 a7 a8 a9 a10 a11 b0 b1 b2 b3 b5 b6 jr jk jg js jm fw tY tW k (by omega) hn6 ht6 hfw H.size) (cwV 1 hts gX6_candidates_X6_agreesWithTastes rfl rfl rfl (by decide +kernel) ⟨Nat.le_of_ble_eq_true rfl, Nat.le_of_ble_eq_true rfl⟩) (jpreV hT (va_recv hK hPr (ci := 6) (q0 := 0) rfl rfl) ⟨hPc_2, hJ⟩) rfl rfl hl.1 rfl (lv_room (Nat.le_of_ble_eq_true rfl)) dX6_candidates_14 ⟨(Nat.zero_le _), (Nat.zero_le _)⟩) hS hA (fun r_3 H locs hw_r_3 hkq hS => ?_)
    try dsimp only at hw_r_3
    have hPr := jkeep hPr hkq
    have hJ := hJ.kept hkq
    subst hw_r_3
    refine lv_if_eq (tgt := 26) hx hb dX6_candidates_17 (by decide) (fun c_4 => ?_) (fun c_4 => ?_)
    · skip
      refine lv_iinc (v := nI (k + 1)) (lv' := [(2, .int (nI (k + 1))), (0, .ref x), (1, .int acc)]) hx hb dX6_candidates_26 hl (k := 2) rfl ((rfl : nI k + Int32.ofInt 1 = nI k + nI 1).trans (nI_add k 1)) (by decide) rfl (fun ls hl => ?_)
      refine lv_goto (tgt := 4) hx hb dX6_candidates_29 (by decide) ?_
      exact ih_4 (k + 1, acc) _ _ _ ⟨hPr, hJ, hS, lv_sub hl [1, 2, 0] rfl, (by omega), (by have hc9 := c_4; rw [hac]; simp at hc9; simp [jcan, hc9])⟩ (by dsimp only; omega)
    · skip
      refine lv_iload_n hx hb dX6_candidates_20 rfl (lv_at hl 1 rfl) ?_
      refine lv_iconst (v := 1) hx hb dX6_candidates_21 (by decide) ?_
      refine lv_iload_n hx hb dX6_candidates_22 rfl (lv_at hl 2 rfl) ?_
      refine lv_ishl hx hb dX6_candidates_23 ?_
      refine lv_ior hx hb dX6_candidates_24 ?_
      refine lv_istore_n (lv' := [(1, .int (acc ||| (1 <<< (nI k &&& 31)))), (0, .ref x), (2, .int (nI k))]) hx hb dX6_candidates_25 rfl hl (by decide) rfl (fun ls hl => ?_)
      refine lv_iinc (v := nI (k + 1)) (lv' := [(2, .int (nI (k + 1))), (1, .int (acc ||| (1 <<< (nI k &&& 31)))), (0, .ref x)]) hx hb dX6_candidates_26 hl (k := 2) rfl ((rfl : nI k + Int32.ofInt 1 = nI k + nI 1).trans (nI_add k 1)) (by decide) rfl (fun ls hl => ?_)
      refine lv_goto (tgt := 4) hx hb dX6_candidates_29 (by decide) ?_
      exact ih_4 (k + 1, acc ||| (1 <<< (nI k &&& 31))) _ _ _ ⟨hPr, hJ, hS, lv_sub hl [2, 1, 0] rfl, (by omega), (by have hc9 := c_4; rw [hac]; simp at hc9; simp [jcan, hc9])⟩ (by dsimp only; omega)

def jlk (fw : Nat → Int32 → Int32) (o : Int32) (j : Nat) (y : Int32) : Nat → Int32
  | 0 => 0
  | k + 1 => if jbit o k = true ∧ fw k y = fw j y then jlk fw o j y k + 1 else jlk fw o j y k
def jlw (fw : Nat → Int32 → Int32) (o : Int32) (n : Nat) (y : Int32) : Nat → Int32
  | 0 => 0
  | k + 1 => if jbit o k then (if jlw fw o n y k < jlk fw o k y n then jlk fw o k y n else jlw fw o n y k) else jlw fw o n y k
def jtw (lw : Nat → Int32) : Nat → Int32
  | 0 => 7
  | k + 1 => if jtw lw k ≤ lw k then jtw lw k else lw k
def jtf (lw : Nat → Int32) : Nat → Int32
  | 0 => -1
  | k + 1 => if jtw lw k ≤ lw k then jtf lw k else nI k
set_option maxHeartbeats 4000000 in
set_option maxRecDepth 100000 in
theorem c_openJarsLike (l : Launch) (D : va_G) (cI cJ : ClassId) (x : Nat) (xj : Nat) (n : Nat) (a0 : Value) (a1 : Value) (a4 : Value) (a5 : Value) (a6 : Value) (a7 : Value) (a8 : Value) (a9 : Value) (a10 : Value) (a11 : Value) (jr : Nat → Option Nat) (jk : Nat → Nat) (jg : Nat → Int32) (js : Nat → Int32) (jm : Nat → Int32) (fw : Nat → Int32 → Int32) (j : Nat) (o : Int32) (y : Int32) (hj : j < n) (hn6 : n ≤ 6) (hfw : ∀ i : Nat, i < n → ∀ z : Int32, cfw (jk i) (jg i) (jm i) z = fw i z) : jRi l yX6_openJarsLike wsX6_openJarsLike ({ frames := 3, cells := 0, slots := 0, locals := 67 }) [.ref x, .int (nI j), .int o, .int y] D cI cJ (fun H => va_P D vwCl [(x, .inr (6, [a0, a1, .ref xj, .int (nI n), a4, a5, a6, a7, a8, a9, a10, a11])), (xj, .inl (cJ, 6, .inr (.inr (.inr (.inr jr)))))] H ∧ jJ D n jr jk jg js jm H) (fun r => r = jlk fw o j y n) := by
  intro sz
  refine Met.ofW (cc := cX6_openJarsLike) (maxL := 6) (ret := (some .int)) (by decide) rfl ?_
  intro p e s m args below meth c s₁ B hml hv
  obtain ⟨rfl, hsz, hT, ⟨hPr, hJ⟩⟩ := hv
  have hK := hT.1
  have hx := B.exec
  have hb := B.bytes
  have hr := B.returns
  have hts := atoms_spec (ws := wsX6_openJarsLike) B.pre
  have hown : s.vm.findClass RX6 = some m.cls := findClass_of_methodNamed B.named
  have hlocks := B.notSynchronized
  subst hsz
  generalize hAe : va_A [] s.heap.size = A
  have hA : ∀ q : Nat, s.heap.size ≤ q → A q := fun q h => by rw [← hAe]; exact Or.inr h
  have hS : va_S A s.heap s.heap [] := va_S.rf
  have hl := lv_entry ([.ref x, .int (nI j), .int o, .int y] : List Value) (n := 6) (Nat.le_of_ble_eq_true rfl)
  rw [lg_entry_eq]
  generalize (lg_sl ([.ref x, .int (nI j), .int o, .int y]) ++ List.replicate (6 - (lg_sl ([.ref x, .int (nI j), .int o, .int y])).length) Slot.unset).toArray = ls at hl ⊢
  have hl : lv_has ls 6 [(0, .ref x), (1, .int (nI j)), (2, .int o), (3, .int y)] := hl
  refine lv_iconst (v := 0) hx hb dX6_openJarsLike_0 (by decide) ?_
  refine lv_istore (lv' := [(4, .int 0), (0, .ref x), (1, .int (nI j)), (2, .int o), (3, .int y)]) hx hb dX6_openJarsLike_1 hl (by decide) rfl (fun ls hl => ?_)
  refine lv_iconst (v := 0) hx hb dX6_openJarsLike_3 (by decide) ?_
  refine lv_istore (lv' := [(5, .int 0), (4, .int 0), (0, .ref x), (1, .int (nI j)), (2, .int o), (3, .int y)]) hx hb dX6_openJarsLike_4 hl (by decide) rfl (fun ls hl => ?_)
  refine jloop (α := Nat × Int32) (fun (x9 : Nat × Int32) (H : Heap) (locs : List Loc) (ls : Array Slot) => match x9 with | (k, acc) => (va_P D vwCl [(x, .inr (6, [a0, a1, .ref xj, .int (nI n), a4, a5, a6, a7, a8, a9, a10, a11])), (xj, .inl (cJ, 6, .inr (.inr (.inr (.inr jr)))))] H) ∧ (jJ D n jr jk jg js jm H) ∧ (va_S A s.heap H locs) ∧ (lv_has ls 6 [(0, .ref x), (1, .int (nI j)), (2, .int o), (3, .int y), (4, .int acc), (5, .int (nI k))]) ∧ (k ≤ n) ∧ (acc = jlk fw o j y k)) (fun (x9 : Nat × Int32) => match x9 with | (k, acc) => n - k) (fun x9 H locs ls hx9 ih_6 => ?_) (0, 0) _ _ _ ⟨hPr, hJ, hS, lv_sub hl [2, 3, 4, 5, 1, 0] rfl, (by omega), rfl⟩
  obtain ⟨k, acc⟩ := x9
  obtain ⟨hPr, hJ, hS, hl, hk9, hac⟩ := hx9
  refine lv_iload hx hb dX6_openJarsLike_6 (lv_at hl 5 rfl) ?_
  refine lv_aload_n hx hb dX6_openJarsLike_8 rfl (lv_at hl 0 rfl) ?_
  refine va_get (D := D) (ci := 6) (v := .int (nI n)) (C := RX6) (T := TX6) (N := 12) hx hb hts (fun w h => List.mem_cons_of_mem _ (List.mem_append_left _ (List.mem_append_left _ (List.mem_append_left _ (List.mem_append_left _ (List.mem_append_left _ (List.mem_append_right _ h))))))) hown hK hPr 0 rfl rfl 3 (by decide) (hts (Cond.fieldLink RX6 23 "JamDays" "jarCount" "I") (List.mem_of_getElem? (i := 1) rfl)) (fun _ h9 => h9) rfl dX6_openJarsLike_9 ?_
  refine lv_icmp_ge (tgt := 49) hx hb dX6_openJarsLike_12 (by decide) (fun c_1 => ?_) (fun c_1 => ?_)
  · skip
    replace c_1 : n ≤ k := (nI_leI (a := n) (b := k) (by omega) (by omega)).mp c_1
    refine lv_iload hx hb dX6_openJarsLike_49 (lv_at hl 4 rfl) ?_
    exact W.iret (v := acc) hx hb hr (fun t ht hW => ⟨⟨acc, (), rfl, (by rw [hac, show k = n by omega]), trivial⟩, hS.F ht⟩) hS.2.2 dX6_openJarsLike_51
  · skip
    replace c_1 : ¬ n ≤ k := fun h => c_1 ((nI_leI (a := n) (b := k) (by omega) (by omega)).mpr h)
    refine lv_iload_n hx hb dX6_openJarsLike_15 rfl (lv_at hl 2 rfl) ?_
    refine lv_iload hx hb dX6_openJarsLike_16 (lv_at hl 5 rfl) ?_
    refine jcalli (va_runS (As := [.int o, .int (nI k)]) (rest := []) ⟨hx, hb, hml, hown, hts⟩ (c_isOpen l D cI cJ o k H.size) (va_cwS 2 hts gX6_openJarsLike_X6_isOpen rfl rfl rfl (by decide +kernel) ⟨Nat.le_of_ble_eq_true rfl, Nat.le_of_ble_eq_true rfl⟩) (jpreS hT trivial) rfl rfl hl.1 rfl (lv_room (Nat.le_of_ble_eq_true rfl)) dX6_openJarsLike_18 ⟨(Nat.zero_le _), (Nat.zero_le _)⟩) hS hA (fun r_2 H locs hw_r_2 hkq hS => ?_)
    try dsimp only at hw_r_2
    have hPr := jkeep hPr hkq
    have hJ := hJ.kept hkq
    subst hw_r_2
    refine lv_if_eq (tgt := 43) hx hb dX6_openJarsLike_21 (by decide) (fun c_3 => ?_) (fun c_3 => ?_)
    · skip
      refine lv_iinc (v := nI (k + 1)) (lv' := [(5, .int (nI (k + 1))), (0, .ref x), (1, .int (nI j)), (2, .int o), (3, .int y), (4, .int acc)]) hx hb dX6_openJarsLike_43 hl (k := 5) rfl ((rfl : nI k + Int32.ofInt 1 = nI k + nI 1).trans (nI_add k 1)) (by decide) rfl (fun ls hl => ?_)
      refine lv_goto (tgt := 6) hx hb dX6_openJarsLike_46 (by decide) ?_
      exact ih_6 (k + 1, acc) _ _ _ ⟨hPr, hJ, hS, lv_sub hl [1, 2, 3, 4, 5, 0] rfl, (by omega), (by have hc9 := c_3; rw [hac]; simp at hc9; simp [jlk, hc9])⟩ (by dsimp only; omega)
    · skip
      refine lv_aload_n hx hb dX6_openJarsLike_24 rfl (lv_at hl 0 rfl) ?_
      refine lv_iload hx hb dX6_openJarsLike_25 (lv_at hl 5 rfl) ?_
      refine lv_iload_n hx hb dX6_openJarsLike_27 rfl (lv_at hl 3 rfl) ?_
      have hPc_4 := hPr.sub (ws' := [(x, .inr (6, [a0, a1, .ref xj, .int (nI n), a4, a5, a6, a7, a8, a9, a10, a11])), (xj, .inl (cJ, 6, .inr (.inr (.inr (.inr jr)))))]) [0, 1] rfl
      refine jcalli (va_runV (As := [.int (nI k), .int y]) (rest := []) ⟨hx, hb, hml, hown, hts⟩ (c_firstWorth l D cI cJ x xj n a0 a1 a4 a5 a6 a7 a8 a9 a10 a11 jr jk jg js jm fw k y (by omega) hn6 hfw H.size) (cwV 2 hts gX6_openJarsLike_X6_firstWorth rfl rfl rfl (by decide +kernel) ⟨Nat.le_of_ble_eq_true rfl, Nat.le_of_ble_eq_true rfl⟩) (jpreV hT (va_recv hK hPr (ci := 6) (q0 := 0) rfl rfl) ⟨hPc_4, hJ⟩) rfl rfl hl.1 rfl (lv_room (Nat.le_of_ble_eq_true rfl)) dX6_openJarsLike_28 ⟨(Nat.zero_le _), (Nat.zero_le _)⟩) hS hA (fun r_5 H locs hw_r_5 hkq hS => ?_)
      try dsimp only at hw_r_5
      have hPr := jkeep hPr hkq
      have hJ := hJ.kept hkq
      subst hw_r_5
      refine lv_aload_n hx hb dX6_openJarsLike_31 rfl (lv_at hl 0 rfl) ?_
      refine lv_iload_n hx hb dX6_openJarsLike_32 rfl (lv_at hl 1 rfl) ?_
      refine lv_iload_n hx hb dX6_openJarsLike_33 rfl (lv_at hl 3 rfl) ?_
      have hPc_6 := hPr.sub (ws' := [(x, .inr (6, [a0, a1, .ref xj, .int (nI n), a4, a5, a6, a7, a8, a9, a10, a11])), (xj, .inl (cJ, 6, .inr (.inr (.inr (.inr jr)))))]) [0, 1] rfl
      refine jcalli (va_runV (As := [.int (nI j), .int y]) (rest := [.int (fw k y)]) ⟨hx, hb, hml, hown, hts⟩ (c_firstWorth l D cI cJ x xj n a0 a1 a4 a5 a6 a7 a8 a9 a10 a11 jr jk jg js jm fw j y hj hn6 hfw H.size) (cwV 2 hts gX6_openJarsLike_X6_firstWorth rfl rfl rfl (by decide +kernel) ⟨Nat.le_of_ble_eq_true rfl, Nat.le_of_ble_eq_true rfl⟩) (jpreV hT (va_recv hK hPr (ci := 6) (q0 := 0) rfl rfl) ⟨hPc_6, hJ⟩) rfl rfl hl.1 rfl (lv_room (Nat.le_of_ble_eq_true rfl)) dX6_openJarsLike_34 ⟨(Nat.zero_le _), (Nat.zero_le _)⟩) hS hA (fun r_7 H locs hw_r_7 hkq hS => ?_)
      try dsimp only at hw_r_7
      have hPr := jkeep hPr hkq
      have hJ := hJ.kept hkq
      subst hw_r_7
      refine lv_icmp_ne (tgt := 43) hx hb dX6_openJarsLike_37 (by decide) (fun c_8 => ?_) (fun c_8 => ?_)
      · skip
        refine lv_iinc (v := nI (k + 1)) (lv' := [(5, .int (nI (k + 1))), (0, .ref x), (1, .int (nI j)), (2, .int o), (3, .int y), (4, .int acc)]) hx hb dX6_openJarsLike_43 hl (k := 5) rfl ((rfl : nI k + Int32.ofInt 1 = nI k + nI 1).trans (nI_add k 1)) (by decide) rfl (fun ls hl => ?_)
        refine lv_goto (tgt := 6) hx hb dX6_openJarsLike_46 (by decide) ?_
        exact ih_6 (k + 1, acc) _ _ _ ⟨hPr, hJ, hS, lv_sub hl [1, 2, 3, 4, 5, 0] rfl, (by omega), (by have hc8 := c_3; have hc9 := c_8; rw [hac]; simp at hc8; simp [jlk, hc8, hc9])⟩ (by dsimp only; omega)
      · skip
        refine lv_iinc (v := acc + 1) (lv' := [(4, .int (acc + 1)), (0, .ref x), (1, .int (nI j)), (2, .int o), (3, .int y), (5, .int (nI k))]) hx hb dX6_openJarsLike_40 hl (k := 4) rfl rfl (by decide) rfl (fun ls hl => ?_)
        refine lv_iinc (v := nI (k + 1)) (lv' := [(5, .int (nI (k + 1))), (4, .int (acc + 1)), (0, .ref x), (1, .int (nI j)), (2, .int o), (3, .int y)]) hx hb dX6_openJarsLike_43 hl (k := 5) rfl ((rfl : nI k + Int32.ofInt 1 = nI k + nI 1).trans (nI_add k 1)) (by decide) rfl (fun ls hl => ?_)
        refine lv_goto (tgt := 6) hx hb dX6_openJarsLike_46 (by decide) ?_
        exact ih_6 (k + 1, acc + 1) _ _ _ ⟨hPr, hJ, hS, lv_sub hl [2, 3, 4, 5, 1, 0] rfl, (by omega), (by have hc8 := c_3; have hc9 := c_8; rw [hac]; simp at hc8; simp [jlk, hc8, hc9])⟩ (by dsimp only; omega)

set_option maxHeartbeats 4000000 in
set_option maxRecDepth 100000 in
theorem c_leftAtWorst (l : Launch) (D : va_G) (cI cJ : ClassId) (x : Nat) (xj : Nat) (n : Nat) (a0 : Value) (a1 : Value) (a4 : Value) (a5 : Value) (a6 : Value) (a7 : Value) (a8 : Value) (a9 : Value) (a10 : Value) (a11 : Value) (jr : Nat → Option Nat) (jk : Nat → Nat) (jg : Nat → Int32) (js : Nat → Int32) (jm : Nat → Int32) (fw : Nat → Int32 → Int32) (o : Int32) (y : Int32) (hn6 : n ≤ 6) (hfw : ∀ i : Nat, i < n → ∀ z : Int32, cfw (jk i) (jg i) (jm i) z = fw i z) : jRi l yX6_leftAtWorst wsX6_leftAtWorst ({ frames := 4, cells := 0, slots := 0, locals := 92 }) [.ref x, .int o, .int y] D cI cJ (fun H => va_P D vwCl [(x, .inr (6, [a0, a1, .ref xj, .int (nI n), a4, a5, a6, a7, a8, a9, a10, a11])), (xj, .inl (cJ, 6, .inr (.inr (.inr (.inr jr)))))] H ∧ jJ D n jr jk jg js jm H) (fun r => r = jlw fw o n y n) := by
  intro sz
  refine Met.ofW (cc := cX6_leftAtWorst) (maxL := 5) (ret := (some .int)) (by decide) rfl ?_
  intro p e s m args below meth c s₁ B hml hv
  obtain ⟨rfl, hsz, hT, ⟨hPr, hJ⟩⟩ := hv
  have hK := hT.1
  have hx := B.exec
  have hb := B.bytes
  have hr := B.returns
  have hts := atoms_spec (ws := wsX6_leftAtWorst) B.pre
  have hown : s.vm.findClass RX6 = some m.cls := findClass_of_methodNamed B.named
  have hlocks := B.notSynchronized
  subst hsz
  generalize hAe : va_A [] s.heap.size = A
  have hA : ∀ q : Nat, s.heap.size ≤ q → A q := fun q h => by rw [← hAe]; exact Or.inr h
  have hS : va_S A s.heap s.heap [] := va_S.rf
  have hl := lv_entry ([.ref x, .int o, .int y] : List Value) (n := 5) (Nat.le_of_ble_eq_true rfl)
  rw [lg_entry_eq]
  generalize (lg_sl ([.ref x, .int o, .int y]) ++ List.replicate (5 - (lg_sl ([.ref x, .int o, .int y])).length) Slot.unset).toArray = ls at hl ⊢
  have hl : lv_has ls 5 [(0, .ref x), (1, .int o), (2, .int y)] := hl
  refine lv_iconst (v := 0) hx hb dX6_leftAtWorst_0 (by decide) ?_
  refine lv_istore_n (lv' := [(3, .int 0), (0, .ref x), (1, .int o), (2, .int y)]) hx hb dX6_leftAtWorst_1 rfl hl (by decide) rfl (fun ls hl => ?_)
  refine lv_iconst (v := 0) hx hb dX6_leftAtWorst_2 (by decide) ?_
  refine lv_istore (lv' := [(4, .int 0), (3, .int 0), (0, .ref x), (1, .int o), (2, .int y)]) hx hb dX6_leftAtWorst_3 hl (by decide) rfl (fun ls hl => ?_)
  refine jloop (α := Nat × Int32) (fun (x9 : Nat × Int32) (H : Heap) (locs : List Loc) (ls : Array Slot) => match x9 with | (k, acc) => (va_P D vwCl [(x, .inr (6, [a0, a1, .ref xj, .int (nI n), a4, a5, a6, a7, a8, a9, a10, a11])), (xj, .inl (cJ, 6, .inr (.inr (.inr (.inr jr)))))] H) ∧ (jJ D n jr jk jg js jm H) ∧ (va_S A s.heap H locs) ∧ (lv_has ls 5 [(0, .ref x), (1, .int o), (2, .int y), (3, .int acc), (4, .int (nI k))]) ∧ (k ≤ n) ∧ (acc = jlw fw o n y k)) (fun (x9 : Nat × Int32) => match x9 with | (k, acc) => n - k) (fun x9 H locs ls hx9 ih_5 => ?_) (0, 0) _ _ _ ⟨hPr, hJ, hS, lv_sub hl [2, 3, 4, 1, 0] rfl, (by omega), rfl⟩
  obtain ⟨k, acc⟩ := x9
  obtain ⟨hPr, hJ, hS, hl, hk9, hac⟩ := hx9
  refine lv_iload hx hb dX6_leftAtWorst_5 (lv_at hl 4 rfl) ?_
  refine lv_aload_n hx hb dX6_leftAtWorst_7 rfl (lv_at hl 0 rfl) ?_
  refine va_get (D := D) (ci := 6) (v := .int (nI n)) (C := RX6) (T := TX6) (N := 12) hx hb hts (fun w h => List.mem_cons_of_mem _ (List.mem_append_left _ (List.mem_append_left _ (List.mem_append_left _ (List.mem_append_left _ (List.mem_append_left _ (List.mem_append_right _ h))))))) hown hK hPr 0 rfl rfl 3 (by decide) (hts (Cond.fieldLink RX6 23 "JamDays" "jarCount" "I") (List.mem_of_getElem? (i := 1) rfl)) (fun _ h9 => h9) rfl dX6_leftAtWorst_8 ?_
  refine lv_icmp_ge (tgt := 42) hx hb dX6_leftAtWorst_11 (by decide) (fun c_1 => ?_) (fun c_1 => ?_)
  · skip
    replace c_1 : n ≤ k := (nI_leI (a := n) (b := k) (by omega) (by omega)).mp c_1
    refine lv_iload_n hx hb dX6_leftAtWorst_42 rfl (lv_at hl 3 rfl) ?_
    exact W.iret (v := acc) hx hb hr (fun t ht hW => ⟨⟨acc, (), rfl, (by rw [hac, show k = n by omega]), trivial⟩, hS.F ht⟩) hS.2.2 dX6_leftAtWorst_43
  · skip
    replace c_1 : ¬ n ≤ k := fun h => c_1 ((nI_leI (a := n) (b := k) (by omega) (by omega)).mpr h)
    refine lv_iload_n hx hb dX6_leftAtWorst_14 rfl (lv_at hl 1 rfl) ?_
    refine lv_iload hx hb dX6_leftAtWorst_15 (lv_at hl 4 rfl) ?_
    refine jcalli (va_runS (As := [.int o, .int (nI k)]) (rest := []) ⟨hx, hb, hml, hown, hts⟩ (c_isOpen l D cI cJ o k H.size) (va_cwS 2 hts gX6_leftAtWorst_X6_isOpen rfl rfl rfl (by decide +kernel) ⟨Nat.le_of_ble_eq_true rfl, Nat.le_of_ble_eq_true rfl⟩) (jpreS hT trivial) rfl rfl hl.1 rfl (lv_room (Nat.le_of_ble_eq_true rfl)) dX6_leftAtWorst_17 ⟨(Nat.zero_le _), (Nat.zero_le _)⟩) hS hA (fun r_2 H locs hw_r_2 hkq hS => ?_)
    try dsimp only at hw_r_2
    have hPr := jkeep hPr hkq
    have hJ := hJ.kept hkq
    subst hw_r_2
    refine lv_if_eq (tgt := 36) hx hb dX6_leftAtWorst_20 (by decide) (fun c_3 => ?_) (fun c_3 => ?_)
    · skip
      refine lv_iinc (v := nI (k + 1)) (lv' := [(4, .int (nI (k + 1))), (0, .ref x), (1, .int o), (2, .int y), (3, .int acc)]) hx hb dX6_leftAtWorst_36 hl (k := 4) rfl ((rfl : nI k + Int32.ofInt 1 = nI k + nI 1).trans (nI_add k 1)) (by decide) rfl (fun ls hl => ?_)
      refine lv_goto (tgt := 5) hx hb dX6_leftAtWorst_39 (by decide) ?_
      exact ih_5 (k + 1, acc) _ _ _ ⟨hPr, hJ, hS, lv_sub hl [1, 2, 3, 4, 0] rfl, (by omega), (by have hc9 := c_3; rw [hac]; simp at hc9; simp [jlw, hc9])⟩ (by dsimp only; omega)
    · skip
      refine lv_iload_n hx hb dX6_leftAtWorst_23 rfl (lv_at hl 3 rfl) ?_
      refine lv_aload_n hx hb dX6_leftAtWorst_24 rfl (lv_at hl 0 rfl) ?_
      refine lv_iload hx hb dX6_leftAtWorst_25 (lv_at hl 4 rfl) ?_
      refine lv_iload_n hx hb dX6_leftAtWorst_27 rfl (lv_at hl 1 rfl) ?_
      refine lv_iload_n hx hb dX6_leftAtWorst_28 rfl (lv_at hl 2 rfl) ?_
      have hPc_4 := hPr.sub (ws' := [(x, .inr (6, [a0, a1, .ref xj, .int (nI n), a4, a5, a6, a7, a8, a9, a10, a11])), (xj, .inl (cJ, 6, .inr (.inr (.inr (.inr jr)))))]) [0, 1] rfl
      refine jcalli (va_runV (As := [.int (nI k), .int o, .int y]) (rest := [.int acc]) ⟨hx, hb, hml, hown, hts⟩ (c_openJarsLike l D cI cJ x xj n a0 a1 a4 a5 a6 a7 a8 a9 a10 a11 jr jk jg js jm fw k o y (by omega) hn6 hfw H.size) (cwV 3 hts gX6_leftAtWorst_X6_openJarsLike rfl rfl rfl (by decide +kernel) ⟨Nat.le_of_ble_eq_true rfl, Nat.le_of_ble_eq_true rfl⟩) (jpreV hT (va_recv hK hPr (ci := 6) (q0 := 0) rfl rfl) ⟨hPc_4, hJ⟩) rfl rfl hl.1 rfl (lv_room (Nat.le_of_ble_eq_true rfl)) dX6_leftAtWorst_29 ⟨(Nat.zero_le _), (Nat.zero_le _)⟩) hS hA (fun r_5 H locs hw_r_5 hkq hS => ?_)
      try dsimp only at hw_r_5
      have hPr := jkeep hPr hkq
      have hJ := hJ.kept hkq
      subst hw_r_5
      refine va_mmax hx hb (by rw [hml]; exact hl.1.symm) hown (hts (Cond.methodLink RX6 237 Lib.Math.max.name) (List.mem_of_getElem? (i := 2) rfl)) (hts (Cond.static Lib.Math.max.name) (List.mem_of_getElem? (i := 3) rfl)) (hts (Cond.initialized "java/lang/Math") (List.mem_of_getElem? (i := 4) rfl)) (hts (Cond.code Lib.Math.max.name Lib.Math.max.code 2 (some .int)) (List.mem_of_getElem? (i := 5) rfl)) (Nat.le_of_ble_eq_true rfl) (Nat.le_of_ble_eq_true rfl) (Nat.zero_le _) (Nat.zero_le _) dX6_leftAtWorst_32 ?_
      refine lv_istore_n (lv' := [(3, .int (if acc < (jlk fw o k y n) then jlk fw o k y n else acc)), (0, .ref x), (1, .int o), (2, .int y), (4, .int (nI k))]) hx hb dX6_leftAtWorst_35 rfl hl (by decide) rfl (fun ls hl => ?_)
      refine lv_iinc (v := nI (k + 1)) (lv' := [(4, .int (nI (k + 1))), (3, .int (if acc < (jlk fw o k y n) then jlk fw o k y n else acc)), (0, .ref x), (1, .int o), (2, .int y)]) hx hb dX6_leftAtWorst_36 hl (k := 4) rfl ((rfl : nI k + Int32.ofInt 1 = nI k + nI 1).trans (nI_add k 1)) (by decide) rfl (fun ls hl => ?_)
      refine lv_goto (tgt := 5) hx hb dX6_leftAtWorst_39 (by decide) ?_
      exact ih_5 (k + 1, if acc < (jlk fw o k y n) then jlk fw o k y n else acc) _ _ _ ⟨hPr, hJ, hS, lv_sub hl [2, 3, 4, 1, 0] rfl, (by omega), (by have hc9 := c_3; rw [hac]; simp at hc9; simp [jlw, hc9])⟩ (by dsimp only; omega)

set_option maxHeartbeats 4000000 in
set_option maxRecDepth 100000 in
theorem c_tasteNext_n (l : Launch) (D : va_G) (cI cJ : ClassId) (x : Nat) (n : Nat) (a0 : Value) (a1 : Value) (a2 : Value) (a4 : Value) (a5 : Value) (a6 : Value) (a7 : Value) (a8 : Value) (a9 : Value) (a10 : Value) (a11 : Value) (hn0 : n = 0) : jRi l yX6_tasteNext wsX6_tasteNext ({ frames := 1, cells := 0, slots := 0, locals := 20 }) [.ref x] D cI cJ (fun H => va_P D vwCl [(x, .inr (6, [a0, a1, a2, .int (nI n), a4, a5, a6, a7, a8, a9, a10, a11]))] H) (fun r => r = -103) := by
  intro sz
  refine Met.ofW (cc := cX6_tasteNext) (maxL := 6) (ret := (some .int)) (by decide) rfl ?_
  intro p e s m args below meth c s₁ B hml hv
  obtain ⟨rfl, hsz, hT, hPr⟩ := hv
  have hK := hT.1
  have hx := B.exec
  have hb := B.bytes
  have hr := B.returns
  have hts := atoms_spec (ws := wsX6_tasteNext) B.pre
  have hown : s.vm.findClass RX6 = some m.cls := findClass_of_methodNamed B.named
  have hlocks := B.notSynchronized
  subst hsz
  generalize hAe : va_A [] s.heap.size = A
  have hA : ∀ q : Nat, s.heap.size ≤ q → A q := fun q h => by rw [← hAe]; exact Or.inr h
  have hS : va_S A s.heap s.heap [] := va_S.rf
  have hl := lv_entry ([.ref x] : List Value) (n := 6) (Nat.le_of_ble_eq_true rfl)
  rw [lg_entry_eq]
  generalize (lg_sl ([.ref x]) ++ List.replicate (6 - (lg_sl ([.ref x])).length) Slot.unset).toArray = ls at hl ⊢
  have hl : lv_has ls 6 [(0, .ref x)] := hl
  refine lv_aload_n hx hb dX6_tasteNext_0 rfl (lv_at hl 0 rfl) ?_
  have hPc_1 := hPr.sub (ws' := [(x, .inr (6, [a0, a1, a2, .int (nI n), a4, a5, a6, a7, a8, a9, a10, a11]))]) [0] rfl
  refine jcalli (va_runV (As := []) (rest := []) ⟨hx, hb, hml, hown, hts⟩ (c_hasNoLarder_y l D cI cJ x n a0 a1 a2 a4 a5 a6 a7 a8 a9 a10 a11 hn0 s.heap.size) (cwV 0 hts gX6_tasteNext_X6_hasNoLarder rfl rfl rfl (by decide +kernel) ⟨Nat.le_of_ble_eq_true rfl, Nat.le_of_ble_eq_true rfl⟩) (jpreV hT (va_recv hK hPr (ci := 6) (q0 := 0) rfl rfl) hPc_1) rfl rfl hl.1 rfl (lv_room (Nat.le_of_ble_eq_true rfl)) dX6_tasteNext_1 ⟨(Nat.zero_le _), (Nat.zero_le _)⟩) hS hA (fun r_2 H locs hw_r_2 hkq hS => ?_)
  try dsimp only at hw_r_2
  have hPr := jkeep hPr hkq
  subst hw_r_2
  refine lv_if_eq (tgt := 10) hx hb dX6_tasteNext_4 (by decide) (fun c_3 => ?_) (fun c_3 => ?_)
  · skip
    exact absurd c_3 (by decide)
  · skip
    refine lv_bipush (v := (-103)) hx hb dX6_tasteNext_7 (by decide) ?_
    exact W.iret (v := (-103)) hx hb hr (fun t ht hW => ⟨⟨(-103), (), rfl, rfl, trivial⟩, hS.F ht⟩) hS.2.2 dX6_tasteNext_9

set_option maxHeartbeats 4000000 in
set_option maxRecDepth 100000 in
theorem c_tasteNext (l : Launch) (D : va_G) (cI cJ : ClassId) (x : Nat) (xj : Nat) (xn : Nat) (n7 : Nat) (n8 : Nat) (tn : Nat) (n : Nat) (a0 : Value) (a1 : Value) (a5 : Value) (a6 : Value) (a7 : Value) (a8 : Value) (a9 : Value) (a10 : Value) (a11 : Value) (b1 : Value) (b2 : Value) (b3 : Value) (b5 : Value) (b6 : Value) (jr : Nat → Option Nat) (jk : Nat → Nat) (jg : Nat → Int32) (js : Nat → Int32) (jm : Nat → Int32) (fw : Nat → Int32 → Int32) (tY : Nat → Int32) (tW : Nat → Int32) (y : Int32) (hn0 : 0 < n) (hn6 : n ≤ 6) (ht6 : tn ≤ 6) (hfw : ∀ i : Nat, i < n → ∀ z : Int32, cfw (jk i) (jg i) (jm i) z = fw i z) : jRi l yX6_tasteNext wsX6_tasteNext ({ frames := 5, cells := 0, slots := 0, locals := 116 }) [.ref x] D cI cJ (fun H => va_P D vwCl [(x, .inr (6, [a0, a1, .ref xj, .int (nI n), .ref xn, a5, a6, a7, a8, a9, a10, a11])), (xj, .inl (cJ, 6, .inr (.inr (.inr (.inr jr))))), (xn, .inr (1, [.int y, b1, b2, b3, .int (nI tn), b5, b6, .ref n7, .ref n8])), (n7, .inl (cI, 6, .inl tY)), (n8, .inl (cI, 6, .inl tW))] H ∧ jJ D n jr jk jg js jm H) (fun r => r = (if jcan (fun i => jag fw i tY tW tn) n = 0 then -1 else jtf (fun i => jlw fw (jcan (fun i => jag fw i tY tW tn) n) n (y + nI i) n) 10)) := by
  intro sz
  refine Met.ofW (cc := cX6_tasteNext) (maxL := 6) (ret := (some .int)) (by decide) rfl ?_
  intro p e s m args below meth c s₁ B hml hv
  obtain ⟨rfl, hsz, hT, ⟨hPr, hJ⟩⟩ := hv
  have hK := hT.1
  have hx := B.exec
  have hb := B.bytes
  have hr := B.returns
  have hts := atoms_spec (ws := wsX6_tasteNext) B.pre
  have hown : s.vm.findClass RX6 = some m.cls := findClass_of_methodNamed B.named
  have hlocks := B.notSynchronized
  subst hsz
  generalize hAe : va_A [] s.heap.size = A
  have hA : ∀ q : Nat, s.heap.size ≤ q → A q := fun q h => by rw [← hAe]; exact Or.inr h
  have hS : va_S A s.heap s.heap [] := va_S.rf
  have hl := lv_entry ([.ref x] : List Value) (n := 6) (Nat.le_of_ble_eq_true rfl)
  rw [lg_entry_eq]
  generalize (lg_sl ([.ref x]) ++ List.replicate (6 - (lg_sl ([.ref x])).length) Slot.unset).toArray = ls at hl ⊢
  have hl : lv_has ls 6 [(0, .ref x)] := hl
  refine lv_aload_n hx hb dX6_tasteNext_0 rfl (lv_at hl 0 rfl) ?_
  have hPc_1 := hPr.sub (ws' := [(x, .inr (6, [a0, a1, .ref xj, .int (nI n), .ref xn, a5, a6, a7, a8, a9, a10, a11]))]) [0] rfl
  refine jcalli (va_runV (As := []) (rest := []) ⟨hx, hb, hml, hown, hts⟩ (c_hasNoLarder_n l D cI cJ x n a0 a1 (.ref xj) (.ref xn) a5 a6 a7 a8 a9 a10 a11 hn0 hn6 s.heap.size) (cwV 0 hts gX6_tasteNext_X6_hasNoLarder rfl rfl rfl (by decide +kernel) ⟨Nat.le_of_ble_eq_true rfl, Nat.le_of_ble_eq_true rfl⟩) (jpreV hT (va_recv hK hPr (ci := 6) (q0 := 0) rfl rfl) hPc_1) rfl rfl hl.1 rfl (lv_room (Nat.le_of_ble_eq_true rfl)) dX6_tasteNext_1 ⟨(Nat.zero_le _), (Nat.zero_le _)⟩) hS hA (fun r_2 H locs hw_r_2 hkq hS => ?_)
  try dsimp only at hw_r_2
  have hPr := jkeep hPr hkq
  have hJ := hJ.kept hkq
  subst hw_r_2
  refine lv_if_eq (tgt := 10) hx hb dX6_tasteNext_4 (by decide) (fun c_3 => ?_) (fun c_3 => ?_)
  · skip
    refine lv_aload_n hx hb dX6_tasteNext_10 rfl (lv_at hl 0 rfl) ?_
    have hPc_4 := hPr.sub (ws' := [(x, .inr (6, [a0, a1, .ref xj, .int (nI n), .ref xn, a5, a6, a7, a8, a9, a10, a11])), (xj, .inl (cJ, 6, .inr (.inr (.inr (.inr jr))))), (xn, .inr (1, [.int y, b1, b2, b3, .int (nI tn), b5, b6, .ref n7, .ref n8])), (n7, .inl (cI, 6, .inl tY)), (n8, .inl (cI, 6, .inl tW))]) [0, 1, 2, 3, 4] rfl
    refine jcalli (va_runV (As := []) (rest := []) ⟨hx, hb, hml, hown, hts⟩ (c_candidates l D cI cJ x xj xn n7 n8 tn n a0 a1 a5 a6 a7 a8 a9 a10 a11 (.int y) b1 b2 b3 b5 b6 jr jk jg js jm fw tY tW hn6 ht6 hfw H.size) (cwV 0 hts gX6_tasteNext_X6_candidates rfl rfl rfl (by decide +kernel) ⟨Nat.le_of_ble_eq_true rfl, Nat.le_of_ble_eq_true rfl⟩) (jpreV hT (va_recv hK hPr (ci := 6) (q0 := 0) rfl rfl) ⟨hPc_4, hJ⟩) rfl rfl hl.1 rfl (lv_room (Nat.le_of_ble_eq_true rfl)) dX6_tasteNext_11 ⟨(Nat.zero_le _), (Nat.zero_le _)⟩) hS hA (fun r_5 H locs hw_r_5 hkq hS => ?_)
    try dsimp only at hw_r_5
    have hPr := jkeep hPr hkq
    have hJ := hJ.kept hkq
    subst hw_r_5
    refine lv_istore_n (lv' := [(1, .int (jcan (fun i => jag fw i tY tW tn) n)), (0, .ref x)]) hx hb dX6_tasteNext_14 rfl hl (by decide) rfl (fun ls hl => ?_)
    refine lv_iconst (v := (-1)) hx hb dX6_tasteNext_15 (by decide) ?_
    refine lv_istore_n (lv' := [(2, .int (-1)), (1, .int (jcan (fun i => jag fw i tY tW tn) n)), (0, .ref x)]) hx hb dX6_tasteNext_16 rfl hl (by decide) rfl (fun ls hl => ?_)
    refine lv_bipush (v := 7) hx hb dX6_tasteNext_17 (by decide) ?_
    refine lv_istore_n (lv' := [(3, .int 7), (2, .int (-1)), (1, .int (jcan (fun i => jag fw i tY tW tn) n)), (0, .ref x)]) hx hb dX6_tasteNext_19 rfl hl (by decide) rfl (fun ls hl => ?_)
    refine lv_iconst (v := 0) hx hb dX6_tasteNext_20 (by decide) ?_
    refine lv_istore (lv' := [(4, .int 0), (3, .int 7), (2, .int (-1)), (1, .int (jcan (fun i => jag fw i tY tW tn) n)), (0, .ref x)]) hx hb dX6_tasteNext_21 hl (by decide) rfl (fun ls hl => ?_)
    refine jloop (α := Nat × Int32 × Int32) (fun (x9 : Nat × Int32 × Int32) (H : Heap) (locs : List Loc) (ls : Array Slot) => match x9 with | (k, f, w) => (va_P D vwCl [(x, .inr (6, [a0, a1, .ref xj, .int (nI n), .ref xn, a5, a6, a7, a8, a9, a10, a11])), (xj, .inl (cJ, 6, .inr (.inr (.inr (.inr jr))))), (xn, .inr (1, [.int y, b1, b2, b3, .int (nI tn), b5, b6, .ref n7, .ref n8])), (n7, .inl (cI, 6, .inl tY)), (n8, .inl (cI, 6, .inl tW))] H) ∧ (jJ D n jr jk jg js jm H) ∧ (va_S A s.heap H locs) ∧ (lv_has ls 6 [(0, .ref x), (1, .int (jcan (fun i => jag fw i tY tW tn) n)), (2, .int f), (3, .int w), (4, .int (nI k))]) ∧ (k ≤ 10) ∧ (f = jtf (fun i => jlw fw (jcan (fun i => jag fw i tY tW tn) n) n (y + nI i) n) k) ∧ (w = jtw (fun i => jlw fw (jcan (fun i => jag fw i tY tW tn) n) n (y + nI i) n) k) ∧ (k = 0 ∨ ¬ jcan (fun i => jag fw i tY tW tn) n = 0)) (fun (x9 : Nat × Int32 × Int32) => match x9 with | (k, f, w) => 10 - k) (fun x9 H locs ls hx9 ih_23 => ?_) (0, (-1), 7) _ _ _ ⟨hPr, hJ, hS, lv_sub hl [4, 3, 2, 1, 0] rfl, (by omega), rfl, rfl, (Or.inl rfl)⟩
    obtain ⟨k, f, w⟩ := x9
    obtain ⟨hPr, hJ, hS, hl, hk9, hfk, hwk, hz⟩ := hx9
    refine lv_iload hx hb dX6_tasteNext_23 (lv_at hl 4 rfl) ?_
    refine lv_bipush (v := 10) hx hb dX6_tasteNext_25 (by decide) ?_
    refine lv_icmp_ge (tgt := 69) hx hb dX6_tasteNext_27 (by decide) (fun c_6 => ?_) (fun c_6 => ?_)
    · skip
      replace c_6 : 10 ≤ k := (nI_leI (a := 10) (b := k) (by omega) (by omega)).mp c_6
      refine lv_iload_n hx hb dX6_tasteNext_69 rfl (lv_at hl 2 rfl) ?_
      exact W.iret (v := f) hx hb hr (fun t ht hW => ⟨⟨f, (), rfl, (by rw [if_neg (hz.resolve_left (by omega)), hfk, show k = 10 by omega]), trivial⟩, hS.F ht⟩) hS.2.2 dX6_tasteNext_70
    · skip
      replace c_6 : ¬ 10 ≤ k := fun h => c_6 ((nI_leI (a := 10) (b := k) (by omega) (by omega)).mpr h)
      refine lv_iload_n hx hb dX6_tasteNext_30 rfl (lv_at hl 1 rfl) ?_
      refine lv_if_eq (tgt := 69) hx hb dX6_tasteNext_31 (by decide) (fun c_7 => ?_) (fun c_7 => ?_)
      · skip
        refine lv_iload_n hx hb dX6_tasteNext_69 rfl (lv_at hl 2 rfl) ?_
        exact W.iret (v := f) hx hb hr (fun t ht hW => ⟨⟨f, (), rfl, (by rw [if_pos c_7, hfk, hz.resolve_right (fun h => h c_7)]; rfl), trivial⟩, hS.F ht⟩) hS.2.2 dX6_tasteNext_70
      · skip
        refine lv_aload_n hx hb dX6_tasteNext_34 rfl (lv_at hl 0 rfl) ?_
        refine lv_iload_n hx hb dX6_tasteNext_35 rfl (lv_at hl 1 rfl) ?_
        refine lv_aload_n hx hb dX6_tasteNext_36 rfl (lv_at hl 0 rfl) ?_
        refine va_get (D := D) (ci := 6) (v := .ref xn) (C := RX6) (T := TX6) (N := 12) hx hb hts (fun w h => List.mem_cons_of_mem _ (List.mem_append_left _ (List.mem_append_left _ (List.mem_append_left _ (List.mem_append_left _ (List.mem_append_left _ (List.mem_append_left _ (List.mem_append_right _ h)))))))) hown hK hPr 0 rfl rfl 4 (by decide) (hts (Cond.fieldLink RX6 29 "JamDays" "now" "LJamDays$Days;") (List.mem_of_getElem? (i := 1) rfl)) (fun _ h9 => h9) rfl dX6_tasteNext_37 ?_
        refine va_get (D := D) (ci := 1) (v := .int y) (C := RX1) (T := TX1) (N := 9) hx hb hts (fun w h => List.mem_cons_of_mem _ (List.mem_append_left _ (List.mem_append_left _ (List.mem_append_left _ (List.mem_append_left _ (List.mem_append_left _ (List.mem_append_right _ h))))))) hown hK hPr 2 rfl rfl 0 (by decide) (hts (Cond.fieldLink RX6 91 "JamDays$Days" "year" "I") (List.mem_of_getElem? (i := 2) rfl)) (fun _ h9 => h9) rfl dX6_tasteNext_40 ?_
        refine lv_iload hx hb dX6_tasteNext_43 (lv_at hl 4 rfl) ?_
        refine lv_iadd hx hb dX6_tasteNext_45 ?_
        have hPc_8 := hPr.sub (ws' := [(x, .inr (6, [a0, a1, .ref xj, .int (nI n), .ref xn, a5, a6, a7, a8, a9, a10, a11])), (xj, .inl (cJ, 6, .inr (.inr (.inr (.inr jr)))))]) [0, 1] rfl
        refine jcalli (va_runV (As := [.int (jcan (fun i => jag fw i tY tW tn) n), .int (y + (nI k))]) (rest := []) ⟨hx, hb, hml, hown, hts⟩ (c_leftAtWorst l D cI cJ x xj n a0 a1 (.ref xn) a5 a6 a7 a8 a9 a10 a11 jr jk jg js jm fw (jcan (fun i => jag fw i tY tW tn) n) (y + (nI k)) hn6 hfw H.size) (cwV 2 hts gX6_tasteNext_X6_leftAtWorst rfl rfl rfl (by decide +kernel) ⟨Nat.le_of_ble_eq_true rfl, Nat.le_of_ble_eq_true rfl⟩) (jpreV hT (va_recv hK hPr (ci := 6) (q0 := 0) rfl rfl) ⟨hPc_8, hJ⟩) rfl rfl hl.1 rfl (lv_room (Nat.le_of_ble_eq_true rfl)) dX6_tasteNext_46 ⟨(Nat.zero_le _), (Nat.zero_le _)⟩) hS hA (fun r_9 H locs hw_r_9 hkq hS => ?_)
        try dsimp only at hw_r_9
        have hPr := jkeep hPr hkq
        have hJ := hJ.kept hkq
        subst hw_r_9
        refine lv_istore (lv' := [(5, .int (jlw fw (jcan (fun i => jag fw i tY tW tn) n) n (y + (nI k)) n)), (0, .ref x), (1, .int (jcan (fun i => jag fw i tY tW tn) n)), (2, .int f), (3, .int w), (4, .int (nI k))]) hx hb dX6_tasteNext_49 hl (by decide) rfl (fun ls hl => ?_)
        refine lv_iload hx hb dX6_tasteNext_51 (lv_at hl 0 rfl) ?_
        refine lv_iload_n hx hb dX6_tasteNext_53 rfl (lv_at hl 4 rfl) ?_
        refine lv_icmp_ge (tgt := 63) hx hb dX6_tasteNext_54 (by decide) (fun c_10 => ?_) (fun c_10 => ?_)
        · skip
          refine lv_iinc (v := nI (k + 1)) (lv' := [(4, .int (nI (k + 1))), (5, .int (jlw fw (jcan (fun i => jag fw i tY tW tn) n) n (y + (nI k)) n)), (0, .ref x), (1, .int (jcan (fun i => jag fw i tY tW tn) n)), (2, .int f), (3, .int w)]) hx hb dX6_tasteNext_63 hl (k := 5) rfl ((rfl : nI k + Int32.ofInt 1 = nI k + nI 1).trans (nI_add k 1)) (by decide) rfl (fun ls hl => ?_)
          refine lv_goto (tgt := 23) hx hb dX6_tasteNext_66 (by decide) ?_
          exact ih_23 (k + 1, f, w) _ _ _ ⟨hPr, hJ, hS, lv_sub hl [2, 3, 4, 5, 0] rfl, (by omega), (by rw [jtf, if_pos (by rw [← hwk]; exact c_10)]; exact hfk), (by rw [jtw, if_pos (by rw [← hwk]; exact c_10)]; exact hwk), (Or.inr c_7)⟩ (by dsimp only; omega)
        · skip
          refine lv_iload hx hb dX6_tasteNext_57 (lv_at hl 0 rfl) ?_
          refine lv_istore_n (lv' := [(3, .int (jlw fw (jcan (fun i => jag fw i tY tW tn) n) n (y + (nI k)) n)), (5, .int (jlw fw (jcan (fun i => jag fw i tY tW tn) n) n (y + (nI k)) n)), (0, .ref x), (1, .int (jcan (fun i => jag fw i tY tW tn) n)), (2, .int f), (4, .int (nI k))]) hx hb dX6_tasteNext_59 rfl hl (by decide) rfl (fun ls hl => ?_)
          refine lv_iload hx hb dX6_tasteNext_60 (lv_at hl 5 rfl) ?_
          refine lv_istore_n (lv' := [(2, .int (nI k)), (3, .int (jlw fw (jcan (fun i => jag fw i tY tW tn) n) n (y + (nI k)) n)), (5, .int (jlw fw (jcan (fun i => jag fw i tY tW tn) n) n (y + (nI k)) n)), (0, .ref x), (1, .int (jcan (fun i => jag fw i tY tW tn) n)), (4, .int (nI k))]) hx hb dX6_tasteNext_62 rfl hl (by decide) rfl (fun ls hl => ?_)
          refine lv_iinc (v := nI (k + 1)) (lv' := [(4, .int (nI (k + 1))), (2, .int (nI k)), (3, .int (jlw fw (jcan (fun i => jag fw i tY tW tn) n) n (y + (nI k)) n)), (5, .int (jlw fw (jcan (fun i => jag fw i tY tW tn) n) n (y + (nI k)) n)), (0, .ref x), (1, .int (jcan (fun i => jag fw i tY tW tn) n))]) hx hb dX6_tasteNext_63 hl (k := 5) rfl ((rfl : nI k + Int32.ofInt 1 = nI k + nI 1).trans (nI_add k 1)) (by decide) rfl (fun ls hl => ?_)
          refine lv_goto (tgt := 23) hx hb dX6_tasteNext_66 (by decide) ?_
          exact ih_23 (k + 1, nI k, jlw fw (jcan (fun i => jag fw i tY tW tn) n) n (y + (nI k)) n) _ _ _ ⟨hPr, hJ, hS, lv_sub hl [4, 5, 1, 2, 0] rfl, (by omega), (by rw [jtf, if_neg (by rw [← hwk]; exact c_10)]), (by rw [jtw, if_neg (by rw [← hwk]; exact c_10)]), (Or.inr c_7)⟩ (by dsimp only; omega)
  · skip
    exact absurd c_3 (by decide)

set_option maxHeartbeats 4000000 in
set_option maxRecDepth 100000 in
theorem c_which_n (l : Launch) (D : va_G) (cI cJ : ClassId) (x : Nat) (n : Nat) (a0 : Value) (a1 : Value) (a2 : Value) (a4 : Value) (a5 : Value) (a6 : Value) (a7 : Value) (a8 : Value) (a9 : Value) (a10 : Value) (a11 : Value) (hn0 : n = 0) : jRi l yX6_which wsX6_which ({ frames := 1, cells := 0, slots := 0, locals := 20 }) [.ref x] D cI cJ (fun H => va_P D vwCl [(x, .inr (6, [a0, a1, a2, .int (nI n), a4, a5, a6, a7, a8, a9, a10, a11]))] H) (fun r => r = -103) := by
  intro sz
  refine Met.ofW (cc := cX6_which) (maxL := 1) (ret := (some .int)) (by decide) rfl ?_
  intro p e s m args below meth c s₁ B hml hv
  obtain ⟨rfl, hsz, hT, hPr⟩ := hv
  have hK := hT.1
  have hx := B.exec
  have hb := B.bytes
  have hr := B.returns
  have hts := atoms_spec (ws := wsX6_which) B.pre
  have hown : s.vm.findClass RX6 = some m.cls := findClass_of_methodNamed B.named
  have hlocks := B.notSynchronized
  subst hsz
  generalize hAe : va_A [] s.heap.size = A
  have hA : ∀ q : Nat, s.heap.size ≤ q → A q := fun q h => by rw [← hAe]; exact Or.inr h
  have hS : va_S A s.heap s.heap [] := va_S.rf
  have hl := lv_entry ([.ref x] : List Value) (n := 1) (Nat.le_of_ble_eq_true rfl)
  rw [lg_entry_eq]
  generalize (lg_sl ([.ref x]) ++ List.replicate (1 - (lg_sl ([.ref x])).length) Slot.unset).toArray = ls at hl ⊢
  have hl : lv_has ls 1 [(0, .ref x)] := hl
  refine lv_aload_n hx hb dX6_which_0 rfl (lv_at hl 0 rfl) ?_
  have hPc_1 := hPr.sub (ws' := [(x, .inr (6, [a0, a1, a2, .int (nI n), a4, a5, a6, a7, a8, a9, a10, a11]))]) [0] rfl
  refine jcalli (va_runV (As := []) (rest := []) ⟨hx, hb, hml, hown, hts⟩ (c_hasNoLarder_y l D cI cJ x n a0 a1 a2 a4 a5 a6 a7 a8 a9 a10 a11 hn0 s.heap.size) (cwV 0 hts gX6_which_X6_hasNoLarder rfl rfl rfl (by decide +kernel) ⟨Nat.le_of_ble_eq_true rfl, Nat.le_of_ble_eq_true rfl⟩) (jpreV hT (va_recv hK hPr (ci := 6) (q0 := 0) rfl rfl) hPc_1) rfl rfl hl.1 rfl (lv_room (Nat.le_of_ble_eq_true rfl)) dX6_which_1 ⟨(Nat.zero_le _), (Nat.zero_le _)⟩) hS hA (fun r_2 H locs hw_r_2 hkq hS => ?_)
  try dsimp only at hw_r_2
  have hPr := jkeep hPr hkq
  subst hw_r_2
  refine lv_if_eq (tgt := 12) hx hb dX6_which_4 (by decide) (fun c_3 => ?_) (fun c_3 => ?_)
  · skip
    exact absurd c_3 (by decide)
  · skip
    refine lv_bipush (v := (-103)) hx hb dX6_which_7 (by decide) ?_
    refine lv_goto (tgt := 16) hx hb dX6_which_9 (by decide) ?_
    exact W.iret (v := (-103)) hx hb hr (fun t ht hW => ⟨⟨(-103), (), rfl, rfl, trivial⟩, hS.F ht⟩) hS.2.2 dX6_which_16

set_option maxHeartbeats 4000000 in
set_option maxRecDepth 100000 in
theorem c_which (l : Launch) (D : va_G) (cI cJ : ClassId) (x : Nat) (xj : Nat) (xn : Nat) (n7 : Nat) (n8 : Nat) (tn : Nat) (n : Nat) (a0 : Value) (a1 : Value) (a5 : Value) (a6 : Value) (a7 : Value) (a8 : Value) (a9 : Value) (a10 : Value) (a11 : Value) (b0 : Value) (b1 : Value) (b2 : Value) (b3 : Value) (b5 : Value) (b6 : Value) (jr : Nat → Option Nat) (jk : Nat → Nat) (jg : Nat → Int32) (js : Nat → Int32) (jm : Nat → Int32) (fw : Nat → Int32 → Int32) (tY : Nat → Int32) (tW : Nat → Int32) (hn0 : 0 < n) (hn6 : n ≤ 6) (ht6 : tn ≤ 6) (hfw : ∀ i : Nat, i < n → ∀ z : Int32, cfw (jk i) (jg i) (jm i) z = fw i z) : jRi l yX6_which wsX6_which ({ frames := 5, cells := 0, slots := 0, locals := 111 }) [.ref x] D cI cJ (fun H => va_P D vwCl [(x, .inr (6, [a0, a1, .ref xj, .int (nI n), .ref xn, a5, a6, a7, a8, a9, a10, a11])), (xj, .inl (cJ, 6, .inr (.inr (.inr (.inr jr))))), (xn, .inr (1, [b0, b1, b2, b3, .int (nI tn), b5, b6, .ref n7, .ref n8])), (n7, .inl (cI, 6, .inl tY)), (n8, .inl (cI, 6, .inl tW))] H ∧ jJ D n jr jk jg js jm H) (fun r => r = jcan (fun i => jag fw i tY tW tn) n) := by
  intro sz
  refine Met.ofW (cc := cX6_which) (maxL := 1) (ret := (some .int)) (by decide) rfl ?_
  intro p e s m args below meth c s₁ B hml hv
  obtain ⟨rfl, hsz, hT, ⟨hPr, hJ⟩⟩ := hv
  have hK := hT.1
  have hx := B.exec
  have hb := B.bytes
  have hr := B.returns
  have hts := atoms_spec (ws := wsX6_which) B.pre
  have hown : s.vm.findClass RX6 = some m.cls := findClass_of_methodNamed B.named
  have hlocks := B.notSynchronized
  subst hsz
  generalize hAe : va_A [] s.heap.size = A
  have hA : ∀ q : Nat, s.heap.size ≤ q → A q := fun q h => by rw [← hAe]; exact Or.inr h
  have hS : va_S A s.heap s.heap [] := va_S.rf
  have hl := lv_entry ([.ref x] : List Value) (n := 1) (Nat.le_of_ble_eq_true rfl)
  rw [lg_entry_eq]
  generalize (lg_sl ([.ref x]) ++ List.replicate (1 - (lg_sl ([.ref x])).length) Slot.unset).toArray = ls at hl ⊢
  have hl : lv_has ls 1 [(0, .ref x)] := hl
  refine lv_aload_n hx hb dX6_which_0 rfl (lv_at hl 0 rfl) ?_
  have hPc_1 := hPr.sub (ws' := [(x, .inr (6, [a0, a1, .ref xj, .int (nI n), .ref xn, a5, a6, a7, a8, a9, a10, a11]))]) [0] rfl
  refine jcalli (va_runV (As := []) (rest := []) ⟨hx, hb, hml, hown, hts⟩ (c_hasNoLarder_n l D cI cJ x n a0 a1 (.ref xj) (.ref xn) a5 a6 a7 a8 a9 a10 a11 hn0 hn6 s.heap.size) (cwV 0 hts gX6_which_X6_hasNoLarder rfl rfl rfl (by decide +kernel) ⟨Nat.le_of_ble_eq_true rfl, Nat.le_of_ble_eq_true rfl⟩) (jpreV hT (va_recv hK hPr (ci := 6) (q0 := 0) rfl rfl) hPc_1) rfl rfl hl.1 rfl (lv_room (Nat.le_of_ble_eq_true rfl)) dX6_which_1 ⟨(Nat.zero_le _), (Nat.zero_le _)⟩) hS hA (fun r_2 H locs hw_r_2 hkq hS => ?_)
  try dsimp only at hw_r_2
  have hPr := jkeep hPr hkq
  have hJ := hJ.kept hkq
  subst hw_r_2
  refine lv_if_eq (tgt := 12) hx hb dX6_which_4 (by decide) (fun c_3 => ?_) (fun c_3 => ?_)
  · skip
    refine lv_aload_n hx hb dX6_which_12 rfl (lv_at hl 0 rfl) ?_
    have hPc_4 := hPr.sub (ws' := [(x, .inr (6, [a0, a1, .ref xj, .int (nI n), .ref xn, a5, a6, a7, a8, a9, a10, a11])), (xj, .inl (cJ, 6, .inr (.inr (.inr (.inr jr))))), (xn, .inr (1, [b0, b1, b2, b3, .int (nI tn), b5, b6, .ref n7, .ref n8])), (n7, .inl (cI, 6, .inl tY)), (n8, .inl (cI, 6, .inl tW))]) [0, 1, 2, 3, 4] rfl
    refine jcalli (va_runV (As := []) (rest := []) ⟨hx, hb, hml, hown, hts⟩ (c_candidates l D cI cJ x xj xn n7 n8 tn n a0 a1 a5 a6 a7 a8 a9 a10 a11 b0 b1 b2 b3 b5 b6 jr jk jg js jm fw tY tW hn6 ht6 hfw H.size) (cwV 0 hts gX6_which_X6_candidates rfl rfl rfl (by decide +kernel) ⟨Nat.le_of_ble_eq_true rfl, Nat.le_of_ble_eq_true rfl⟩) (jpreV hT (va_recv hK hPr (ci := 6) (q0 := 0) rfl rfl) ⟨hPc_4, hJ⟩) rfl rfl hl.1 rfl (lv_room (Nat.le_of_ble_eq_true rfl)) dX6_which_13 ⟨(Nat.zero_le _), (Nat.zero_le _)⟩) hS hA (fun r_5 H locs hw_r_5 hkq hS => ?_)
    try dsimp only at hw_r_5
    have hPr := jkeep hPr hkq
    have hJ := hJ.kept hkq
    subst hw_r_5
    exact W.iret (v := jcan (fun i => jag fw i tY tW tn) n) hx hb hr (fun t ht hW => ⟨⟨jcan (fun i => jag fw i tY tW tn) n, (), rfl, rfl, trivial⟩, hS.F ht⟩) hS.2.2 dX6_which_16
  · skip
    exact absurd c_3 (by decide)
end
