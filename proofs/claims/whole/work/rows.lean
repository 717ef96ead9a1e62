section
-- ===== PART A: goes FIRST, ahead of the names: the tables' words, and 'selects' of the private methods out of them =====
/-- a private method of a class that the tables say can be made, by its rows of tables_1 -/
def lw_okq (q : MethodName × Nat) : Prop := (q.1.cls ≠ "java/lang/invoke/MethodHandle" ∧ q.1.cls ≠ "java/lang/invoke/VarHandle") ∧ Cond.instantiable q.1.cls q.2 ∈ tables_1 ∧ Cond.privateMethod q.1 ∈ tables_1 ∧ Cond.instanceMethod q.1 ∈ tables_1
theorem lw_p0 : lw_okq (⟨"BehindOrgan$Reader", "readToken", "()V"⟩, 9) := ⟨⟨by decide +kernel, by decide +kernel⟩, List.mem_of_getElem? (i := 18) (by decide +kernel), List.mem_of_getElem? (i := 244) (by decide +kernel), List.mem_of_getElem? (i := 245) (by decide +kernel)⟩
theorem lw_p1 : lw_okq (⟨"BehindOrgan$Reader", "readDigits", "()V"⟩, 9) := ⟨⟨by decide +kernel, by decide +kernel⟩, List.mem_of_getElem? (i := 18) (by decide +kernel), List.mem_of_getElem? (i := 251) (by decide +kernel), List.mem_of_getElem? (i := 252) (by decide +kernel)⟩
theorem lw_p2 : lw_okq (⟨"BehindOrgan$Reader", "readItem", "(LBehindOrgan$Church;)Z"⟩, 9) := ⟨⟨by decide +kernel, by decide +kernel⟩, List.mem_of_getElem? (i := 18) (by decide +kernel), List.mem_of_getElem? (i := 255) (by decide +kernel), List.mem_of_getElem? (i := 256) (by decide +kernel)⟩
theorem lw_p3 : lw_okq (⟨"BehindOrgan$Reader", "readPew", "(LBehindOrgan$Church;)Z"⟩, 9) := ⟨⟨by decide +kernel, by decide +kernel⟩, List.mem_of_getElem? (i := 18) (by decide +kernel), List.mem_of_getElem? (i := 259) (by decide +kernel), List.mem_of_getElem? (i := 260) (by decide +kernel)⟩
theorem lw_p4 : lw_okq (⟨"BehindOrgan$Reader", "readNumber", "(II)Z"⟩, 9) := ⟨⟨by decide +kernel, by decide +kernel⟩, List.mem_of_getElem? (i := 18) (by decide +kernel), List.mem_of_getElem? (i := 263) (by decide +kernel), List.mem_of_getElem? (i := 264) (by decide +kernel)⟩
theorem lw_p5 : lw_okq (⟨"BehindOrgan$Reader", "readItemEnd", "()Z"⟩, 9) := ⟨⟨by decide +kernel, by decide +kernel⟩, List.mem_of_getElem? (i := 18) (by decide +kernel), List.mem_of_getElem? (i := 268) (by decide +kernel), List.mem_of_getElem? (i := 269) (by decide +kernel)⟩
theorem lw_p6 : lw_okq (⟨"BehindOrgan$Reader", "readWait", "(LBehindOrgan$Church;)Z"⟩, 9) := ⟨⟨by decide +kernel, by decide +kernel⟩, List.mem_of_getElem? (i := 18) (by decide +kernel), List.mem_of_getElem? (i := 272) (by decide +kernel), List.mem_of_getElem? (i := 273) (by decide +kernel)⟩
theorem lw_p7 : lw_okq (⟨"BehindOrgan$Reader", "readLines", "(LBehindOrgan$Church;)Z"⟩, 9) := ⟨⟨by decide +kernel, by decide +kernel⟩, List.mem_of_getElem? (i := 18) (by decide +kernel), List.mem_of_getElem? (i := 276) (by decide +kernel), List.mem_of_getElem? (i := 277) (by decide +kernel)⟩
theorem lw_p8 : lw_okq (⟨"BehindOrgan$Reader", "readGap", "(LBehindOrgan$Church;)Z"⟩, 9) := ⟨⟨by decide +kernel, by decide +kernel⟩, List.mem_of_getElem? (i := 18) (by decide +kernel), List.mem_of_getElem? (i := 280) (by decide +kernel), List.mem_of_getElem? (i := 281) (by decide +kernel)⟩
theorem lw_p9 : lw_okq (⟨"BehindOrgan$Church", "copyPew", "(ILBehindOrgan$Church;I)V"⟩, 9) := ⟨⟨by decide +kernel, by decide +kernel⟩, List.mem_of_getElem? (i := 54) (by decide +kernel), List.mem_of_getElem? (i := 288) (by decide +kernel), List.mem_of_getElem? (i := 289) (by decide +kernel)⟩
theorem lw_p10 : lw_okq (⟨"BehindOrgan", "beginAnew", "()V"⟩, 14) := ⟨⟨by decide +kernel, by decide +kernel⟩, List.mem_of_getElem? (i := 10) (by decide +kernel), List.mem_of_getElem? (i := 292) (by decide +kernel), List.mem_of_getElem? (i := 293) (by decide +kernel)⟩
theorem lw_p11 : lw_okq (⟨"BehindOrgan$Church", "lateBehindLine", "(ILBehindOrgan$Singing;)I"⟩, 9) := ⟨⟨by decide +kernel, by decide +kernel⟩, List.mem_of_getElem? (i := 54) (by decide +kernel), List.mem_of_getElem? (i := 348) (by decide +kernel), List.mem_of_getElem? (i := 349) (by decide +kernel)⟩
theorem lw_p12 : lw_okq (⟨"BehindOrgan$Church", "meanBeside", "(I)I"⟩, 9) := ⟨⟨by decide +kernel, by decide +kernel⟩, List.mem_of_getElem? (i := 54) (by decide +kernel), List.mem_of_getElem? (i := 353) (by decide +kernel), List.mem_of_getElem? (i := 354) (by decide +kernel)⟩
theorem lw_p13 : lw_okq (⟨"BehindOrgan$Church", "between", "(II)I"⟩, 9) := ⟨⟨by decide +kernel, by decide +kernel⟩, List.mem_of_getElem? (i := 54) (by decide +kernel), List.mem_of_getElem? (i := 358) (by decide +kernel), List.mem_of_getElem? (i := 359) (by decide +kernel)⟩
theorem lw_p14 : lw_okq (⟨"BehindOrgan$Church", "waitFor", "(LBehindOrgan$Singing;)V"⟩, 9) := ⟨⟨by decide +kernel, by decide +kernel⟩, List.mem_of_getElem? (i := 54) (by decide +kernel), List.mem_of_getElem? (i := 371) (by decide +kernel), List.mem_of_getElem? (i := 372) (by decide +kernel)⟩
theorem lw_p15 : lw_okq (⟨"BehindOrgan", "apartBySeat", "(II)I"⟩, 14) := ⟨⟨by decide +kernel, by decide +kernel⟩, List.mem_of_getElem? (i := 10) (by decide +kernel), List.mem_of_getElem? (i := 447) (by decide +kernel), List.mem_of_getElem? (i := 448) (by decide +kernel)⟩
def lw_privs_1 : List (MethodName × Nat) := [(⟨"BehindOrgan$Reader", "readToken", "()V"⟩, 9), (⟨"BehindOrgan$Reader", "readDigits", "()V"⟩, 9), (⟨"BehindOrgan$Reader", "readItem", "(LBehindOrgan$Church;)Z"⟩, 9), (⟨"BehindOrgan$Reader", "readPew", "(LBehindOrgan$Church;)Z"⟩, 9), (⟨"BehindOrgan$Reader", "readNumber", "(II)Z"⟩, 9), (⟨"BehindOrgan$Reader", "readItemEnd", "()Z"⟩, 9), (⟨"BehindOrgan$Reader", "readWait", "(LBehindOrgan$Church;)Z"⟩, 9), (⟨"BehindOrgan$Reader", "readLines", "(LBehindOrgan$Church;)Z"⟩, 9), (⟨"BehindOrgan$Reader", "readGap", "(LBehindOrgan$Church;)Z"⟩, 9), (⟨"BehindOrgan$Church", "copyPew", "(ILBehindOrgan$Church;I)V"⟩, 9), (⟨"BehindOrgan", "beginAnew", "()V"⟩, 14), (⟨"BehindOrgan$Church", "lateBehindLine", "(ILBehindOrgan$Singing;)I"⟩, 9), (⟨"BehindOrgan$Church", "meanBeside", "(I)I"⟩, 9), (⟨"BehindOrgan$Church", "between", "(II)I"⟩, 9), (⟨"BehindOrgan$Church", "waitFor", "(LBehindOrgan$Singing;)V"⟩, 9), (⟨"BehindOrgan", "apartBySeat", "(II)I"⟩, 14)]
theorem lw_r1 : ∀ q ∈ lw_privs_1, lw_okq q := List.forall_mem_cons.mpr ⟨lw_p0, List.forall_mem_cons.mpr ⟨lw_p1, List.forall_mem_cons.mpr ⟨lw_p2, List.forall_mem_cons.mpr ⟨lw_p3, List.forall_mem_cons.mpr ⟨lw_p4, List.forall_mem_cons.mpr ⟨lw_p5, List.forall_mem_cons.mpr ⟨lw_p6, List.forall_mem_cons.mpr ⟨lw_p7, List.forall_mem_cons.mpr ⟨lw_p8, List.forall_mem_cons.mpr ⟨lw_p9, List.forall_mem_cons.mpr ⟨lw_p10, List.forall_mem_cons.mpr ⟨lw_p11, List.forall_mem_cons.mpr ⟨lw_p12, List.forall_mem_cons.mpr ⟨lw_p13, List.forall_mem_cons.mpr ⟨lw_p14, List.forall_mem_cons.mpr ⟨lw_p15, fun _ h => absurd h List.not_mem_nil⟩⟩⟩⟩⟩⟩⟩⟩⟩⟩⟩⟩⟩⟩⟩⟩
theorem lw_p16 : lw_okq (⟨"BehindOrgan", "knowersOfSize", "(III)I"⟩, 14) := ⟨⟨by decide +kernel, by decide +kernel⟩, List.mem_of_getElem? (i := 10) (by decide +kernel), List.mem_of_getElem? (i := 455) (by decide +kernel), List.mem_of_getElem? (i := 456) (by decide +kernel)⟩
theorem lw_p17 : lw_okq (⟨"BehindOrgan", "paceWithout", "(II)I"⟩, 14) := ⟨⟨by decide +kernel, by decide +kernel⟩, List.mem_of_getElem? (i := 10) (by decide +kernel), List.mem_of_getElem? (i := 463) (by decide +kernel), List.mem_of_getElem? (i := 464) (by decide +kernel)⟩
theorem lw_p18 : lw_okq (⟨"BehindOrgan", "apartByChange", "(III)I"⟩, 14) := ⟨⟨by decide +kernel, by decide +kernel⟩, List.mem_of_getElem? (i := 10) (by decide +kernel), List.mem_of_getElem? (i := 480) (by decide +kernel), List.mem_of_getElem? (i := 481) (by decide +kernel)⟩
theorem lw_p19 : lw_okq (⟨"BehindOrgan", "isAllHeardSo", "(I)Z"⟩, 14) := ⟨⟨by decide +kernel, by decide +kernel⟩, List.mem_of_getElem? (i := 10) (by decide +kernel), List.mem_of_getElem? (i := 500) (by decide +kernel), List.mem_of_getElem? (i := 501) (by decide +kernel)⟩
theorem lw_p20 : lw_okq (⟨"BehindOrgan", "apartByPlays", "(III)I"⟩, 14) := ⟨⟨by decide +kernel, by decide +kernel⟩, List.mem_of_getElem? (i := 10) (by decide +kernel), List.mem_of_getElem? (i := 509) (by decide +kernel), List.mem_of_getElem? (i := 510) (by decide +kernel)⟩
theorem lw_p21 : lw_okq (⟨"BehindOrgan", "rateFront", "(I)I"⟩, 14) := ⟨⟨by decide +kernel, by decide +kernel⟩, List.mem_of_getElem? (i := 10) (by decide +kernel), List.mem_of_getElem? (i := 523) (by decide +kernel), List.mem_of_getElem? (i := 524) (by decide +kernel)⟩
theorem lw_p22 : lw_okq (⟨"BehindOrgan", "ratePew", "(I)I"⟩, 14) := ⟨⟨by decide +kernel, by decide +kernel⟩, List.mem_of_getElem? (i := 10) (by decide +kernel), List.mem_of_getElem? (i := 528) (by decide +kernel), List.mem_of_getElem? (i := 529) (by decide +kernel)⟩
theorem lw_p23 : lw_okq (⟨"BehindOrgan", "rateBasses", "(I)I"⟩, 14) := ⟨⟨by decide +kernel, by decide +kernel⟩, List.mem_of_getElem? (i := 10) (by decide +kernel), List.mem_of_getElem? (i := 532) (by decide +kernel), List.mem_of_getElem? (i := 533) (by decide +kernel)⟩
theorem lw_p24 : lw_okq (⟨"BehindOrgan", "rateWidows", "(I)I"⟩, 14) := ⟨⟨by decide +kernel, by decide +kernel⟩, List.mem_of_getElem? (i := 10) (by decide +kernel), List.mem_of_getElem? (i := 537) (by decide +kernel), List.mem_of_getElem? (i := 538) (by decide +kernel)⟩
theorem lw_p25 : lw_okq (⟨"BehindOrgan", "rateBoys", "(I)I"⟩, 14) := ⟨⟨by decide +kernel, by decide +kernel⟩, List.mem_of_getElem? (i := 10) (by decide +kernel), List.mem_of_getElem? (i := 542) (by decide +kernel), List.mem_of_getElem? (i := 543) (by decide +kernel)⟩
theorem lw_p26 : lw_okq (⟨"BehindOrgan", "rateStrangers", "(I)I"⟩, 14) := ⟨⟨by decide +kernel, by decide +kernel⟩, List.mem_of_getElem? (i := 10) (by decide +kernel), List.mem_of_getElem? (i := 547) (by decide +kernel), List.mem_of_getElem? (i := 548) (by decide +kernel)⟩
theorem lw_p27 : lw_okq (⟨"BehindOrganModel", "first", "()I"⟩, 17) := ⟨⟨by decide +kernel, by decide +kernel⟩, List.mem_of_getElem? (i := 568) (by decide +kernel), List.mem_of_getElem? (i := 647) (by decide +kernel), List.mem_of_getElem? (i := 648) (by decide +kernel)⟩
theorem lw_p28 : lw_okq (⟨"BehindOrganModel", "takesItem", "(I)Z"⟩, 17) := ⟨⟨by decide +kernel, by decide +kernel⟩, List.mem_of_getElem? (i := 568) (by decide +kernel), List.mem_of_getElem? (i := 651) (by decide +kernel), List.mem_of_getElem? (i := 652) (by decide +kernel)⟩
theorem lw_p29 : lw_okq (⟨"BehindOrganModel", "takesPew", "()Z"⟩, 17) := ⟨⟨by decide +kernel, by decide +kernel⟩, List.mem_of_getElem? (i := 568) (by decide +kernel), List.mem_of_getElem? (i := 655) (by decide +kernel), List.mem_of_getElem? (i := 656) (by decide +kernel)⟩
theorem lw_p30 : lw_okq (⟨"BehindOrganModel", "number", "(III)Z"⟩, 17) := ⟨⟨by decide +kernel, by decide +kernel⟩, List.mem_of_getElem? (i := 568) (by decide +kernel), List.mem_of_getElem? (i := 659) (by decide +kernel), List.mem_of_getElem? (i := 660) (by decide +kernel)⟩
theorem lw_p31 : lw_okq (⟨"BehindOrganModel", "ends", "()Z"⟩, 17) := ⟨⟨by decide +kernel, by decide +kernel⟩, List.mem_of_getElem? (i := 568) (by decide +kernel), List.mem_of_getElem? (i := 665) (by decide +kernel), List.mem_of_getElem? (i := 666) (by decide +kernel)⟩
def lw_privs_2 : List (MethodName × Nat) := [(⟨"BehindOrgan", "knowersOfSize", "(III)I"⟩, 14), (⟨"BehindOrgan", "paceWithout", "(II)I"⟩, 14), (⟨"BehindOrgan", "apartByChange", "(III)I"⟩, 14), (⟨"BehindOrgan", "isAllHeardSo", "(I)Z"⟩, 14), (⟨"BehindOrgan", "apartByPlays", "(III)I"⟩, 14), (⟨"BehindOrgan", "rateFront", "(I)I"⟩, 14), (⟨"BehindOrgan", "ratePew", "(I)I"⟩, 14), (⟨"BehindOrgan", "rateBasses", "(I)I"⟩, 14), (⟨"BehindOrgan", "rateWidows", "(I)I"⟩, 14), (⟨"BehindOrgan", "rateBoys", "(I)I"⟩, 14), (⟨"BehindOrgan", "rateStrangers", "(I)I"⟩, 14), (⟨"BehindOrganModel", "first", "()I"⟩, 17), (⟨"BehindOrganModel", "takesItem", "(I)Z"⟩, 17), (⟨"BehindOrganModel", "takesPew", "()Z"⟩, 17), (⟨"BehindOrganModel", "number", "(III)Z"⟩, 17), (⟨"BehindOrganModel", "ends", "()Z"⟩, 17)]
theorem lw_r2 : ∀ q ∈ lw_privs_2, lw_okq q := List.forall_mem_cons.mpr ⟨lw_p16, List.forall_mem_cons.mpr ⟨lw_p17, List.forall_mem_cons.mpr ⟨lw_p18, List.forall_mem_cons.mpr ⟨lw_p19, List.forall_mem_cons.mpr ⟨lw_p20, List.forall_mem_cons.mpr ⟨lw_p21, List.forall_mem_cons.mpr ⟨lw_p22, List.forall_mem_cons.mpr ⟨lw_p23, List.forall_mem_cons.mpr ⟨lw_p24, List.forall_mem_cons.mpr ⟨lw_p25, List.forall_mem_cons.mpr ⟨lw_p26, List.forall_mem_cons.mpr ⟨lw_p27, List.forall_mem_cons.mpr ⟨lw_p28, List.forall_mem_cons.mpr ⟨lw_p29, List.forall_mem_cons.mpr ⟨lw_p30, List.forall_mem_cons.mpr ⟨lw_p31, fun _ h => absurd h List.not_mem_nil⟩⟩⟩⟩⟩⟩⟩⟩⟩⟩⟩⟩⟩⟩⟩⟩
theorem lw_p32 : lw_okq (⟨"BehindOrganModel", "takesOne", "(III)Z"⟩, 17) := ⟨⟨by decide +kernel, by decide +kernel⟩, List.mem_of_getElem? (i := 568) (by decide +kernel), List.mem_of_getElem? (i := 669) (by decide +kernel), List.mem_of_getElem? (i := 670) (by decide +kernel)⟩
theorem lw_p33 : lw_okq (⟨"BehindOrganModel", "isPew", "(I)Z"⟩, 17) := ⟨⟨by decide +kernel, by decide +kernel⟩, List.mem_of_getElem? (i := 568) (by decide +kernel), List.mem_of_getElem? (i := 680) (by decide +kernel), List.mem_of_getElem? (i := 681) (by decide +kernel)⟩
theorem lw_p34 : lw_okq (⟨"BehindOrganModel", "remember", "()V"⟩, 17) := ⟨⟨by decide +kernel, by decide +kernel⟩, List.mem_of_getElem? (i := 568) (by decide +kernel), List.mem_of_getElem? (i := 698) (by decide +kernel), List.mem_of_getElem? (i := 699) (by decide +kernel)⟩
theorem lw_p35 : lw_okq (⟨"BehindOrganModel", "sings", "([I)V"⟩, 17) := ⟨⟨by decide +kernel, by decide +kernel⟩, List.mem_of_getElem? (i := 568) (by decide +kernel), List.mem_of_getElem? (i := 702) (by decide +kernel), List.mem_of_getElem? (i := 703) (by decide +kernel)⟩
theorem lw_p36 : lw_okq (⟨"BehindOrganModel", "puts", "(II)I"⟩, 17) := ⟨⟨by decide +kernel, by decide +kernel⟩, List.mem_of_getElem? (i := 568) (by decide +kernel), List.mem_of_getElem? (i := 724) (by decide +kernel), List.mem_of_getElem? (i := 725) (by decide +kernel)⟩
theorem lw_p37 : lw_okq (⟨"BehindOrganModel", "asNow", "()V"⟩, 17) := ⟨⟨by decide +kernel, by decide +kernel⟩, List.mem_of_getElem? (i := 568) (by decide +kernel), List.mem_of_getElem? (i := 756) (by decide +kernel), List.mem_of_getElem? (i := 757) (by decide +kernel)⟩
theorem lw_p38 : lw_okq (⟨"BehindOrganModel", "go", "(I)V"⟩, 17) := ⟨⟨by decide +kernel, by decide +kernel⟩, List.mem_of_getElem? (i := 568) (by decide +kernel), List.mem_of_getElem? (i := 760) (by decide +kernel), List.mem_of_getElem? (i := 761) (by decide +kernel)⟩
theorem lw_p39 : lw_okq (⟨"BehindOrganModel", "without", "(I)V"⟩, 17) := ⟨⟨by decide +kernel, by decide +kernel⟩, List.mem_of_getElem? (i := 568) (by decide +kernel), List.mem_of_getElem? (i := 798) (by decide +kernel), List.mem_of_getElem? (i := 799) (by decide +kernel)⟩
theorem lw_p40 : lw_okq (⟨"BehindOrganModel", "isSo", "(I)Z"⟩, 17) := ⟨⟨by decide +kernel, by decide +kernel⟩, List.mem_of_getElem? (i := 568) (by decide +kernel), List.mem_of_getElem? (i := 824) (by decide +kernel), List.mem_of_getElem? (i := 825) (by decide +kernel)⟩
def lw_privs_3 : List (MethodName × Nat) := [(⟨"BehindOrganModel", "takesOne", "(III)Z"⟩, 17), (⟨"BehindOrganModel", "isPew", "(I)Z"⟩, 17), (⟨"BehindOrganModel", "remember", "()V"⟩, 17), (⟨"BehindOrganModel", "sings", "([I)V"⟩, 17), (⟨"BehindOrganModel", "puts", "(II)I"⟩, 17), (⟨"BehindOrganModel", "asNow", "()V"⟩, 17), (⟨"BehindOrganModel", "go", "(I)V"⟩, 17), (⟨"BehindOrganModel", "without", "(I)V"⟩, 17), (⟨"BehindOrganModel", "isSo", "(I)Z"⟩, 17)]
theorem lw_r3 : ∀ q ∈ lw_privs_3, lw_okq q := List.forall_mem_cons.mpr ⟨lw_p32, List.forall_mem_cons.mpr ⟨lw_p33, List.forall_mem_cons.mpr ⟨lw_p34, List.forall_mem_cons.mpr ⟨lw_p35, List.forall_mem_cons.mpr ⟨lw_p36, List.forall_mem_cons.mpr ⟨lw_p37, List.forall_mem_cons.mpr ⟨lw_p38, List.forall_mem_cons.mpr ⟨lw_p39, List.forall_mem_cons.mpr ⟨lw_p40, fun _ h => absurd h List.not_mem_nil⟩⟩⟩⟩⟩⟩⟩⟩⟩
def lw_privs : List (MethodName × Nat) := lw_privs_1 ++ (lw_privs_2 ++ (lw_privs_3))
def lw_tbl : List Cond := k2_sels lw_privs ++ tables_1
theorem lw_privs_ok : ∀ q ∈ lw_privs, lw_okq q := by
  show ∀ q ∈ lw_privs_1 ++ (lw_privs_2 ++ (lw_privs_3)), lw_okq q
  exact List.forall_mem_append.mpr ⟨lw_r1, List.forall_mem_append.mpr ⟨lw_r2, lw_r3⟩⟩
end
section
def RX0 : String := "BehindOrgan$Church"
def TX0 : u_T := fun k => match k with
  | 0 => ("BehindOrgan$Church", "yards", "[I", true)
  | 1 => ("BehindOrgan$Church", "organ", "[I", true)
  | 2 => ("BehindOrgan$Church", "neighbours", "[I", true)
  | 3 => ("BehindOrgan$Church", "habit", "[I", true)
  | 4 => ("BehindOrgan$Church", "pews", "I", false)
  | 5 => ("BehindOrgan$Church", "wait", "I", false)
  | 6 => ("BehindOrgan$Church", "lines", "I", false)
  | 7 => ("BehindOrgan$Church", "gap", "I", false)
  | _ => ("BehindOrgan$Church", "was", "[I", true)
def tyX0 : Nat → FieldType := fun k => match k with
  | 0 => .array .int
  | 1 => .array .int
  | 2 => .array .int
  | 3 => .array .int
  | 4 => .int
  | 5 => .int
  | 6 => .int
  | 7 => .int
  | _ => .array .int
theorem nmX0 : ∀ a, a < 9 → ∀ b, b < 9 → a ≠ b → (TX0 a).2.1 ≠ (TX0 b).2.1 := by decide +kernel
theorem tyX0_ok : ∀ k, k < 9 → parseFieldDescriptor (TX0 k).2.2.1 = some (tyX0 k) := by decide +kernel
def RX1 : String := "BehindOrgan$History"
def TX1 : u_T := fun k => match k with
  | 0 => ("BehindOrgan$History", "states", "[LBehindOrgan$Singing;", true)
  | 1 => ("BehindOrgan$History", "next", "I", false)
  | _ => ("BehindOrgan$History", "known", "I", false)
def tyX1 : Nat → FieldType := fun k => match k with
  | 0 => .array (.object "BehindOrgan$Singing")
  | 1 => .int
  | _ => .int
theorem nmX1 : ∀ a, a < 3 → ∀ b, b < 3 → a ≠ b → (TX1 a).2.1 ≠ (TX1 b).2.1 := by decide +kernel
theorem tyX1_ok : ∀ k, k < 3 → parseFieldDescriptor (TX1 k).2.2.1 = some (tyX1 k) := by decide +kernel
def RX2 : String := "BehindOrgan$Reader"
def TX2 : u_T := fun k => match k with
  | 0 => ("BehindOrgan$Reader", "letters", "[I", true)
  | 1 => ("BehindOrgan$Reader", "length", "I", false)
  | 2 => ("BehindOrgan$Reader", "token", "I", false)
  | 3 => ("BehindOrgan$Reader", "place", "I", false)
  | 4 => ("BehindOrgan$Reader", "number", "I", false)
  | 5 => ("BehindOrgan$Reader", "next", "I", false)
  | 6 => ("BehindOrgan$Reader", "waitTold", "Z", false)
  | 7 => ("BehindOrgan$Reader", "linesTold", "Z", false)
  | _ => ("BehindOrgan$Reader", "gapTold", "Z", false)
def tyX2 : Nat → FieldType := fun k => match k with
  | 0 => .array .int
  | 1 => .int
  | 2 => .int
  | 3 => .int
  | 4 => .int
  | 5 => .int
  | 6 => .boolean
  | 7 => .boolean
  | _ => .boolean
theorem nmX2 : ∀ a, a < 9 → ∀ b, b < 9 → a ≠ b → (TX2 a).2.1 ≠ (TX2 b).2.1 := by decide +kernel
theorem tyX2_ok : ∀ k, k < 9 → parseFieldDescriptor (TX2 k).2.2.1 = some (tyX2 k) := by decide +kernel
def RX3 : String := "BehindOrgan$Singing"
def TX3 : u_T := fun k => match k with
  | 0 => ("BehindOrgan$Singing", "late", "[I", true)
  | 1 => ("BehindOrgan$Singing", "playsAhead", "I", false)
  | 2 => ("BehindOrgan$Singing", "choirAt", "I", false)
  | 3 => ("BehindOrgan$Singing", "knowing", "I", false)
  | 4 => ("BehindOrgan$Singing", "waiting", "I", false)
  | 5 => ("BehindOrgan$Singing", "pace", "I", false)
  | _ => ("BehindOrgan$Singing", "sung", "I", false)
def tyX3 : Nat → FieldType := fun k => match k with
  | 0 => .array .int
  | 1 => .int
  | 2 => .int
  | 3 => .int
  | 4 => .int
  | 5 => .int
  | _ => .int
theorem nmX3 : ∀ a, a < 7 → ∀ b, b < 7 → a ≠ b → (TX3 a).2.1 ≠ (TX3 b).2.1 := by decide +kernel
theorem tyX3_ok : ∀ k, k < 7 → parseFieldDescriptor (TX3 k).2.2.1 = some (tyX3 k) := by decide +kernel
def RX4 : String := "BehindOrgan"
def TX4 : u_T := fun k => match k with
  | 0 => ("BehindOrgan", "reader", "LBehindOrgan$Reader;", true)
  | 1 => ("BehindOrgan", "told", "LBehindOrgan$Church;", true)
  | 2 => ("BehindOrgan", "other", "LBehindOrgan$Church;", true)
  | 3 => ("BehindOrgan", "current", "LBehindOrgan$Singing;", true)
  | 4 => ("BehindOrgan", "trial", "LBehindOrgan$Singing;", true)
  | 5 => ("BehindOrgan", "earlier", "LBehindOrgan$Singing;", true)
  | 6 => ("BehindOrgan", "history", "LBehindOrgan$History;", true)
  | 7 => ("BehindOrgan", "images", "[LBehindOrgan$Singing;", true)
  | 8 => ("BehindOrgan", "imageKept", "[Z", true)
  | 9 => ("BehindOrgan", "heardLine", "[I", true)
  | 10 => ("BehindOrgan", "heardPew", "[I", true)
  | 11 => ("BehindOrgan", "heardLate", "[I", true)
  | 12 => ("BehindOrgan", "heard", "I", false)
  | _ => ("BehindOrgan", "traced", "J", false)
def tyX4 : Nat → FieldType := fun k => match k with
  | 0 => .object "BehindOrgan$Reader"
  | 1 => .object "BehindOrgan$Church"
  | 2 => .object "BehindOrgan$Church"
  | 3 => .object "BehindOrgan$Singing"
  | 4 => .object "BehindOrgan$Singing"
  | 5 => .object "BehindOrgan$Singing"
  | 6 => .object "BehindOrgan$History"
  | 7 => .array (.object "BehindOrgan$Singing")
  | 8 => .array .boolean
  | 9 => .array .int
  | 10 => .array .int
  | 11 => .array .int
  | 12 => .int
  | _ => .long
theorem nmX4 : ∀ a, a < 14 → ∀ b, b < 14 → a ≠ b → (TX4 a).2.1 ≠ (TX4 b).2.1 := by decide +kernel
theorem tyX4_ok : ∀ k, k < 14 → parseFieldDescriptor (TX4 k).2.2.1 = some (tyX4 k) := by decide +kernel
def RX5 : String := "BehindOrganModel"
def TX5 : u_T := fun k => match k with
  | 0 => ("BehindOrganModel", "now", "[I", true)
  | 1 => ("BehindOrganModel", "past", "[I", true)
  | 2 => ("BehindOrganModel", "undos", "I", false)
  | 3 => ("BehindOrganModel", "images", "[I", true)
  | 4 => ("BehindOrganModel", "kept", "[Z", true)
  | 5 => ("BehindOrganModel", "text", "[I", true)
  | 6 => ("BehindOrganModel", "size", "I", false)
  | 7 => ("BehindOrganModel", "heard", "[I", true)
  | 8 => ("BehindOrganModel", "ears", "I", false)
  | 9 => ("BehindOrganModel", "trace", "J", false)
  | 10 => ("BehindOrganModel", "read", "[I", true)
  | 11 => ("BehindOrganModel", "at", "I", false)
  | 12 => ("BehindOrganModel", "begin", "I", false)
  | 13 => ("BehindOrganModel", "met", "I", false)
  | 14 => ("BehindOrganModel", "then", "[I", true)
  | 15 => ("BehindOrganModel", "tried", "[I", true)
  | _ => ("BehindOrganModel", "lates", "[I", true)
def tyX5 : Nat → FieldType := fun k => match k with
  | 0 => .array .int
  | 1 => .array .int
  | 2 => .int
  | 3 => .array .int
  | 4 => .array .boolean
  | 5 => .array .int
  | 6 => .int
  | 7 => .array .int
  | 8 => .int
  | 9 => .long
  | 10 => .array .int
  | 11 => .int
  | 12 => .int
  | 13 => .int
  | 14 => .array .int
  | 15 => .array .int
  | _ => .array .int
theorem nmX5 : ∀ a, a < 17 → ∀ b, b < 17 → a ≠ b → (TX5 a).2.1 ≠ (TX5 b).2.1 := by decide +kernel
theorem tyX5_ok : ∀ k, k < 17 → parseFieldDescriptor (TX5 k).2.2.1 = some (tyX5 k) := by decide +kernel
def RJ6 : String := "java/lang/Integer"
def RJ9 : String := "java/lang/Math"
def RL : String := "BehindOrganLaw"
abbrev vwCl : List vw_C := [(RX0, TX0, 9), (RX1, TX1, 3), (RX2, TX2, 9), (RX3, TX3, 7), (RX4, TX4, 14), (RX5, TX5, 17)]
/-- the words that go along: those that hold on in every warmer state -/
def WS : List Cond := lw_tbl.filter goodWord
theorem ws_sub {w : Cond} (h : w ∈ WS) : w ∈ lw_tbl := (List.mem_filter.mp h).1
theorem ws_in (i : Nat) {w : Cond} (h : tables_1[i]? = some w) (hg : goodWord w = true) : w ∈ WS := List.mem_filter.mpr ⟨List.mem_append_right _ (List.mem_of_getElem? h), hg⟩
theorem ws_1 (i : Nat) {w : Cond} (h : tables_1_1[i]? = some w) (hg : goodWord w = true) : w ∈ WS := List.mem_filter.mpr ⟨List.mem_append_right _ (List.mem_append_left _ (List.mem_of_getElem? h)), hg⟩
theorem ws_2 (i : Nat) {w : Cond} (h : tables_1_2[i]? = some w) (hg : goodWord w = true) : w ∈ WS := List.mem_filter.mpr ⟨List.mem_append_right _ (List.mem_append_right _ (List.mem_append_left _ (List.mem_of_getElem? h))), hg⟩
theorem ws_3 (i : Nat) {w : Cond} (h : tables_1_3[i]? = some w) (hg : goodWord w = true) : w ∈ WS := List.mem_filter.mpr ⟨List.mem_append_right _ (List.mem_append_right _ (List.mem_append_right _ (List.mem_append_left _ (List.mem_of_getElem? h)))), hg⟩
theorem ws_4 (i : Nat) {w : Cond} (h : tables_1_4[i]? = some w) (hg : goodWord w = true) : w ∈ WS := List.mem_filter.mpr ⟨List.mem_append_right _ (List.mem_append_right _ (List.mem_append_right _ (List.mem_append_right _ (List.mem_of_getElem? h)))), hg⟩
theorem ws_pr (i : Nat) {w : Cond} (h : (k2_sels lw_privs)[i]? = some w) (hg : goodWord w = true) : w ∈ WS := List.mem_filter.mpr ⟨List.mem_append_left _ (List.mem_of_getElem? h), hg⟩
theorem ws_all : GoodIn WS WS := fun w h => ⟨h, good_of_word (List.mem_filter.mp h).2⟩
/-- a method: its bytes, its class, its locals, what it returns, its room, its name -/
abbrev MI : Type := ByteArray × String × Nat × Option FieldType × Room × MethodName
/-- what a caller must know of a method with n parameters -/
def MOK (n : Nat) (M : MI) : Prop := Cond.code M.2.2.2.2.2 M.1 M.2.2.1 M.2.2.2.1 ∈ WS ∧ Cond.initialized M.2.2.2.2.2.cls ∈ WS ∧ (M.2.2.2.2.2.cls ≠ "java/lang/invoke/MethodHandle" ∧ M.2.2.2.2.2.cls ≠ "java/lang/invoke/VarHandle" ∧ (parseMethodDescriptor M.2.2.2.2.2.desc).map (fun d => d.parameters.length) = some n)
/-- an instance method of its own class, as a virtual call takes it -/
def MV (M : MI) : Prop := Cond.instanceMethod M.2.2.2.2.2 ∈ WS ∧ Cond.selects M.2.2.2.2.2.cls M.2.2.2.2.2 M.2.2.2.2.2 ∈ WS
def FL (own : String) (idx ci k : Nat) : Prop := ∃ q : vw_C, vwCl[ci]? = some q ∧ k < q.2.2 ∧ Cond.fieldLink own idx (q.2.1 k).1 (q.2.1 k).2.1 (q.2.1 k).2.2.1 ∈ WS
def M_Bo_init : MI := (prog_1_method_1_code, RX4, 1, none, ({ frames := 3, cells := 51, slots := 517, locals := 61 } : Room), ⟨RX4, "<init>", "()V"⟩)
def M_Re_init : MI := (prog_4_method_1_code, RX2, 1, none, ({ frames := 1, cells := 1, slots := 200, locals := 20 } : Room), ⟨RX2, "<init>", "()V"⟩)
def M_Ch_init : MI := (prog_2_method_1_code, RX0, 1, none, ({ frames := 1, cells := 5, slots := 30, locals := 20 } : Room), ⟨RX0, "<init>", "()V"⟩)
def M_Ch_empty : MI := (prog_2_method_2_code, RX0, 1, none, ({ frames := 0, cells := 0, slots := 0, locals := 0 } : Room), ⟨RX0, "empty", "()V"⟩)
def M_Si_init : MI := (prog_5_method_1_code, RX3, 1, none, ({ frames := 1, cells := 1, slots := 6, locals := 20 } : Room), ⟨RX3, "<init>", "()V"⟩)
def M_Hi_init : MI := (prog_3_method_1_code, RX1, 2, none, ({ frames := 2, cells := 21, slots := 140, locals := 40 } : Room), ⟨RX1, "<init>", "()V"⟩)
def M_Bo_type : MI := (prog_1_method_2_code, RX4, 2, (some .int), ({ frames := 1, cells := 0, slots := 0, locals := 22 } : Room), ⟨RX4, "type", "(I)I"⟩)
def M_Bo_within : MI := (prog_1_method_45_code, RX4, 3, (some .boolean), ({ frames := 0, cells := 0, slots := 0, locals := 0 } : Room), ⟨RX4, "within", "(III)Z"⟩)
def M_Re_add : MI := (prog_4_method_2_code, RX2, 2, (some .boolean), ({ frames := 0, cells := 0, slots := 0, locals := 0 } : Room), ⟨RX2, "add", "(I)Z"⟩)
def M_Bo_clear : MI := (prog_1_method_3_code, RX4, 1, (some .int), ({ frames := 1, cells := 0, slots := 0, locals := 21 } : Room), ⟨RX4, "clear", "()I"⟩)
def M_Re_empty : MI := (prog_4_method_3_code, RX2, 2, (some .int), ({ frames := 0, cells := 0, slots := 0, locals := 0 } : Room), ⟨RX2, "empty", "()I"⟩)
def M_Bo_church : MI := (prog_1_method_4_code, RX4, 2, (some .int), ({ frames := 7, cells := 0, slots := 0, locals := 149 } : Room), ⟨RX4, "church", "()I"⟩)
def M_Re_readInto : MI := (prog_4_method_4_code, RX2, 3, (some .int), ({ frames := 6, cells := 0, slots := 0, locals := 127 } : Room), ⟨RX2, "readInto", "(LBehindOrgan$Church;)I"⟩)
def M_Re_readToken : MI := (prog_4_method_12_code, RX2, 1, none, ({ frames := 2, cells := 0, slots := 0, locals := 42 } : Room), ⟨RX2, "readToken", "()V"⟩)
def M_Re_isDigit : MI := (prog_4_method_14_code, RX2, 1, (some .boolean), ({ frames := 0, cells := 0, slots := 0, locals := 0 } : Room), ⟨RX2, "isDigit", "(I)Z"⟩)
def M_Re_readDigits : MI := (prog_4_method_13_code, RX2, 3, none, ({ frames := 1, cells := 0, slots := 0, locals := 20 } : Room), ⟨RX2, "readDigits", "()V"⟩)
def M_Re_readItem : MI := (prog_4_method_5_code, RX2, 2, (some .boolean), ({ frames := 5, cells := 0, slots := 0, locals := 106 } : Room), ⟨RX2, "readItem", "(LBehindOrgan$Church;)Z"⟩)
def M_Re_readPew : MI := (prog_4_method_6_code, RX2, 3, (some .boolean), ({ frames := 4, cells := 0, slots := 0, locals := 84 } : Room), ⟨RX2, "readPew", "(LBehindOrgan$Church;)Z"⟩)
def M_Re_readNumber : MI := (prog_4_method_10_code, RX2, 3, (some .boolean), ({ frames := 3, cells := 0, slots := 0, locals := 62 } : Room), ⟨RX2, "readNumber", "(II)Z"⟩)
def M_Re_readItemEnd : MI := (prog_4_method_11_code, RX2, 1, (some .boolean), ({ frames := 3, cells := 0, slots := 0, locals := 62 } : Room), ⟨RX2, "readItemEnd", "()Z"⟩)
def M_Re_readWait : MI := (prog_4_method_7_code, RX2, 2, (some .boolean), ({ frames := 4, cells := 0, slots := 0, locals := 84 } : Room), ⟨RX2, "readWait", "(LBehindOrgan$Church;)Z"⟩)
def M_Re_readLines : MI := (prog_4_method_8_code, RX2, 2, (some .boolean), ({ frames := 4, cells := 0, slots := 0, locals := 84 } : Room), ⟨RX2, "readLines", "(LBehindOrgan$Church;)Z"⟩)
def M_Re_readGap : MI := (prog_4_method_9_code, RX2, 2, (some .boolean), ({ frames := 4, cells := 0, slots := 0, locals := 84 } : Room), ⟨RX2, "readGap", "(LBehindOrgan$Church;)Z"⟩)
def M_Ch_copyFrom : MI := (prog_2_method_6_code, RX0, 3, none, ({ frames := 1, cells := 0, slots := 0, locals := 23 } : Room), ⟨RX0, "copyFrom", "(LBehindOrgan$Church;)V"⟩)
def M_Ch_copyPew : MI := (prog_2_method_7_code, RX0, 4, none, ({ frames := 0, cells := 0, slots := 0, locals := 0 } : Room), ⟨RX0, "copyPew", "(ILBehindOrgan$Church;I)V"⟩)
def M_Bo_beginAnew : MI := (prog_1_method_5_code, RX4, 2, none, ({ frames := 1, cells := 0, slots := 0, locals := 22 } : Room), ⟨RX4, "beginAnew", "()V"⟩)
def M_Si_begin : MI := (prog_5_method_2_code, RX3, 3, none, ({ frames := 0, cells := 0, slots := 0, locals := 0 } : Room), ⟨RX3, "begin", "(I)V"⟩)
def M_Bo_pew : MI := (prog_1_method_6_code, RX4, 3, (some .int), ({ frames := 1, cells := 0, slots := 0, locals := 21 } : Room), ⟨RX4, "pew", "(II)I"⟩)
def M_Ch_has : MI := (prog_2_method_3_code, RX0, 2, (some .boolean), ({ frames := 0, cells := 0, slots := 0, locals := 0 } : Room), ⟨RX0, "has", "(I)Z"⟩)
def M_Ch_lag : MI := (prog_2_method_4_code, RX0, 2, (some .int), ({ frames := 0, cells := 0, slots := 0, locals := 0 } : Room), ⟨RX0, "lag", "(I)I"⟩)
def M_Si_isKnower : MI := (prog_5_method_4_code, RX3, 2, (some .boolean), ({ frames := 0, cells := 0, slots := 0, locals := 0 } : Room), ⟨RX3, "isKnower", "(I)Z"⟩)
def M_Bo_now : MI := (prog_1_method_7_code, RX4, 2, (some .int), ({ frames := 2, cells := 0, slots := 0, locals := 45 } : Room), ⟨RX4, "now", "(I)I"⟩)
def M_Si_apart : MI := (prog_5_method_5_code, RX3, 5, (some .int), ({ frames := 1, cells := 0, slots := 0, locals := 21 } : Room), ⟨RX3, "apart", "(I)I"⟩)
def M_Ma_max : MI := (prog_9_method_65_code, RJ9, 2, (some .int), ({ frames := 0, cells := 0, slots := 0, locals := 0 } : Room), ⟨RJ9, "max", "(II)I"⟩)
def M_Ma_min : MI := (prog_9_method_69_code, RJ9, 2, (some .int), ({ frames := 0, cells := 0, slots := 0, locals := 0 } : Room), ⟨RJ9, "min", "(II)I"⟩)
def M_Bo_line : MI := (prog_1_method_8_code, RX4, 1, (some .int), ({ frames := 5, cells := 0, slots := 0, locals := 113 } : Room), ⟨RX4, "line", "()I"⟩)
def M_Hi_remember : MI := (prog_3_method_2_code, RX1, 2, none, ({ frames := 1, cells := 0, slots := 0, locals := 22 } : Room), ⟨RX1, "remember", "(LBehindOrgan$Singing;)V"⟩)
def M_Si_copyFrom : MI := (prog_5_method_3_code, RX3, 3, none, ({ frames := 0, cells := 0, slots := 0, locals := 0 } : Room), ⟨RX3, "copyFrom", "(LBehindOrgan$Singing;)V"⟩)
def M_Ch_singLine : MI := (prog_2_method_10_code, RX0, 3, none, ({ frames := 4, cells := 0, slots := 0, locals := 91 } : Room), ⟨RX0, "singLine", "(LBehindOrgan$Singing;)V"⟩)
def M_Ch_lateBehindLine : MI := (prog_2_method_11_code, RX0, 6, (some .int), ({ frames := 3, cells := 0, slots := 0, locals := 66 } : Room), ⟨RX0, "lateBehindLine", "(ILBehindOrgan$Singing;)I"⟩)
def M_Ch_meanBeside : MI := (prog_2_method_12_code, RX0, 5, (some .int), ({ frames := 2, cells := 0, slots := 0, locals := 42 } : Room), ⟨RX0, "meanBeside", "(I)I"⟩)
def M_Ch_between : MI := (prog_2_method_5_code, RX0, 3, (some .int), ({ frames := 1, cells := 0, slots := 0, locals := 20 } : Room), ⟨RX0, "between", "(II)I"⟩)
def M_Ma_abs : MI := (prog_9_method_59_code, RJ9, 1, (some .int), ({ frames := 0, cells := 0, slots := 0, locals := 0 } : Room), ⟨RJ9, "abs", "(I)I"⟩)
def M_Bo_divided : MI := (prog_1_method_46_code, RX4, 2, (some .int), ({ frames := 0, cells := 0, slots := 0, locals := 0 } : Room), ⟨RX4, "divided", "(II)I"⟩)
def M_Ch_waitFor : MI := (prog_2_method_13_code, RX0, 5, none, ({ frames := 1, cells := 0, slots := 0, locals := 21 } : Room), ⟨RX0, "waitFor", "(LBehindOrgan$Singing;)V"⟩)
def M_Bo_verse : MI := (prog_1_method_9_code, RX4, 2, (some .int), ({ frames := 6, cells := 0, slots := 0, locals := 136 } : Room), ⟨RX4, "verse", "()I"⟩)
def M_Ch_singLines : MI := (prog_2_method_9_code, RX0, 4, none, ({ frames := 5, cells := 0, slots := 0, locals := 113 } : Room), ⟨RX0, "singLines", "(LBehindOrgan$Singing;I)V"⟩)
def M_Bo_ahead : MI := (prog_1_method_10_code, RX4, 3, (some .int), ({ frames := 2, cells := 0, slots := 0, locals := 43 } : Room), ⟨RX4, "ahead", "(I)I"⟩)
def M_Bo_choir : MI := (prog_1_method_11_code, RX4, 3, (some .int), ({ frames := 2, cells := 0, slots := 0, locals := 43 } : Room), ⟨RX4, "choir", "(I)I"⟩)
def M_Bo_knows : MI := (prog_1_method_12_code, RX4, 4, (some .int), ({ frames := 2, cells := 0, slots := 0, locals := 43 } : Room), ⟨RX4, "knows", "(II)I"⟩)
def M_In_bitCount : MI := (prog_8_method_49_code, RJ6, 1, (some .int), ({ frames := 0, cells := 0, slots := 0, locals := 0 } : Room), ⟨RJ6, "bitCount", "(I)I"⟩)
def M_Bo_waits : MI := (prog_1_method_13_code, RX4, 3, (some .int), ({ frames := 2, cells := 0, slots := 0, locals := 43 } : Room), ⟨RX4, "waits", "(I)I"⟩)
def M_Bo_undo : MI := (prog_1_method_14_code, RX4, 1, (some .int), ({ frames := 2, cells := 0, slots := 0, locals := 43 } : Room), ⟨RX4, "undo", "()I"⟩)
def M_Hi_takeBack : MI := (prog_3_method_3_code, RX1, 2, none, ({ frames := 1, cells := 0, slots := 0, locals := 22 } : Room), ⟨RX1, "takeBack", "(LBehindOrgan$Singing;)V"⟩)
def M_Bo_behind : MI := (prog_1_method_15_code, RX4, 3, (some .int), ({ frames := 6, cells := 0, slots := 0, locals := 136 } : Room), ⟨RX4, "behind", "(II)I"⟩)
def M_Bo_asleep : MI := (prog_1_method_16_code, RX4, 3, (some .int), ({ frames := 5, cells := 0, slots := 0, locals := 113 } : Room), ⟨RX4, "asleep", "(I)I"⟩)
def M_Bo_rest : MI := (prog_1_method_17_code, RX4, 2, (some .int), ({ frames := 5, cells := 0, slots := 0, locals := 113 } : Room), ⟨RX4, "rest", "()I"⟩)
def M_Si_isAsLateAs : MI := (prog_5_method_7_code, RX3, 4, (some .boolean), ({ frames := 0, cells := 0, slots := 0, locals := 0 } : Room), ⟨RX3, "isAsLateAs", "(LBehindOrgan$Singing;I)Z"⟩)
def M_Bo_playAhead : MI := (prog_1_method_18_code, RX4, 7, (some .int), ({ frames := 6, cells := 0, slots := 0, locals := 136 } : Room), ⟨RX4, "playAhead", "(II)I"⟩)
def M_Si_greatest : MI := (prog_5_method_6_code, RX3, 4, (some .int), ({ frames := 1, cells := 0, slots := 0, locals := 21 } : Room), ⟨RX3, "greatest", "(I)I"⟩)
def M_Bo_seat : MI := (prog_1_method_19_code, RX4, 7, (some .int), ({ frames := 7, cells := 0, slots := 0, locals := 158 } : Room), ⟨RX4, "seat", "(II)I"⟩)
def M_Bo_apartBySeat : MI := (prog_1_method_20_code, RX4, 3, (some .int), ({ frames := 6, cells := 0, slots := 0, locals := 136 } : Room), ⟨RX4, "apartBySeat", "(II)I"⟩)
def M_Bo_knowers : MI := (prog_1_method_21_code, RX4, 5, (some .int), ({ frames := 7, cells := 0, slots := 0, locals := 161 } : Room), ⟨RX4, "knowers", "(II)I"⟩)
def M_Bo_knowersOfSize : MI := (prog_1_method_22_code, RX4, 6, (some .int), ({ frames := 6, cells := 0, slots := 0, locals := 136 } : Room), ⟨RX4, "knowersOfSize", "(III)I"⟩)
def M_Bo_pulls : MI := (prog_1_method_23_code, RX4, 6, (some .int), ({ frames := 7, cells := 0, slots := 0, locals := 158 } : Room), ⟨RX4, "pulls", "(I)I"⟩)
def M_Bo_paceWithout : MI := (prog_1_method_24_code, RX4, 3, (some .int), ({ frames := 6, cells := 0, slots := 0, locals := 136 } : Room), ⟨RX4, "paceWithout", "(II)I"⟩)
def M_Ch_leaveOut : MI := (prog_2_method_8_code, RX0, 3, none, ({ frames := 1, cells := 0, slots := 0, locals := 23 } : Room), ⟨RX0, "leaveOut", "(I)V"⟩)
def M_Si_leaveOut : MI := (prog_5_method_8_code, RX3, 3, none, ({ frames := 1, cells := 0, slots := 0, locals := 22 } : Room), ⟨RX3, "leaveOut", "(I)V"⟩)
def M_Bo_change : MI := (prog_1_method_25_code, RX4, 7, (some .int), ({ frames := 7, cells := 0, slots := 0, locals := 159 } : Room), ⟨RX4, "change", "(I)I"⟩)
def M_Bo_apartByChange : MI := (prog_1_method_26_code, RX4, 4, (some .int), ({ frames := 6, cells := 0, slots := 0, locals := 136 } : Room), ⟨RX4, "apartByChange", "(III)I"⟩)
def M_Bo_gaps : MI := (prog_1_method_27_code, RX4, 4, (some .int), ({ frames := 6, cells := 0, slots := 0, locals := 136 } : Room), ⟨RX4, "gaps", "(I)I"⟩)
def M_Bo_hear : MI := (prog_1_method_28_code, RX4, 4, (some .int), ({ frames := 1, cells := 0, slots := 0, locals := 22 } : Room), ⟨RX4, "hear", "(III)I"⟩)
def M_Bo_forget : MI := (prog_1_method_29_code, RX4, 2, (some .int), ({ frames := 0, cells := 0, slots := 0, locals := 0 } : Room), ⟨RX4, "forget", "()I"⟩)
def M_Bo_waited : MI := (prog_1_method_30_code, RX4, 3, (some .int), ({ frames := 6, cells := 0, slots := 0, locals := 136 } : Room), ⟨RX4, "waited", "()I"⟩)
def M_Bo_isAllHeardSo : MI := (prog_1_method_31_code, RX4, 4, (some .boolean), ({ frames := 5, cells := 0, slots := 0, locals := 113 } : Room), ⟨RX4, "isAllHeardSo", "(I)Z"⟩)
def M_Bo_odds : MI := (prog_1_method_32_code, RX4, 13, (some .long), ({ frames := 6, cells := 0, slots := 0, locals := 137 } : Room), ⟨RX4, "odds", "(IIIII)J"⟩)
def M_Bo_apartByPlays : MI := (prog_1_method_33_code, RX4, 5, (some .int), ({ frames := 5, cells := 0, slots := 0, locals := 113 } : Room), ⟨RX4, "apartByPlays", "(III)I"⟩)
def M_Bo_power : MI := (prog_1_method_47_code, RX4, 5, (some .long), ({ frames := 0, cells := 0, slots := 0, locals := 0 } : Room), ⟨RX4, "power", "(II)J"⟩)
def M_Bo_commonDivisor : MI := (prog_1_method_48_code, RX4, 7, (some .long), ({ frames := 0, cells := 0, slots := 0, locals := 0 } : Room), ⟨RX4, "commonDivisor", "(JJ)J"⟩)
def M_Bo_rate : MI := (prog_1_method_34_code, RX4, 3, (some .int), ({ frames := 3, cells := 0, slots := 0, locals := 63 } : Room), ⟨RX4, "rate", "(II)I"⟩)
def M_Bo_rateFront : MI := (prog_1_method_36_code, RX4, 2, (some .int), ({ frames := 1, cells := 0, slots := 0, locals := 21 } : Room), ⟨RX4, "rateFront", "(I)I"⟩)
def M_Bo_ratePew : MI := (prog_1_method_35_code, RX4, 2, (some .int), ({ frames := 0, cells := 0, slots := 0, locals := 0 } : Room), ⟨RX4, "ratePew", "(I)I"⟩)
def M_Bo_rateBasses : MI := (prog_1_method_37_code, RX4, 2, (some .int), ({ frames := 1, cells := 0, slots := 0, locals := 21 } : Room), ⟨RX4, "rateBasses", "(I)I"⟩)
def M_Bo_rateWidows : MI := (prog_1_method_38_code, RX4, 2, (some .int), ({ frames := 2, cells := 0, slots := 0, locals := 42 } : Room), ⟨RX4, "rateWidows", "(I)I"⟩)
def M_Bo_rateBoys : MI := (prog_1_method_39_code, RX4, 2, (some .int), ({ frames := 2, cells := 0, slots := 0, locals := 42 } : Room), ⟨RX4, "rateBoys", "(I)I"⟩)
def M_Bo_rateStrangers : MI := (prog_1_method_40_code, RX4, 2, (some .int), ({ frames := 1, cells := 0, slots := 0, locals := 21 } : Room), ⟨RX4, "rateStrangers", "(I)I"⟩)
def M_Bo_keep : MI := (prog_1_method_41_code, RX4, 2, (some .int), ({ frames := 1, cells := 0, slots := 0, locals := 22 } : Room), ⟨RX4, "keep", "(I)I"⟩)
def M_Bo_back : MI := (prog_1_method_42_code, RX4, 2, (some .int), ({ frames := 1, cells := 0, slots := 0, locals := 22 } : Room), ⟨RX4, "back", "(I)I"⟩)
def M_Bo_count : MI := (prog_1_method_43_code, RX4, 2, (some .int), ({ frames := 0, cells := 0, slots := 0, locals := 0 } : Room), ⟨RX4, "count", "(I)I"⟩)
def M_Bo_trace : MI := (prog_1_method_44_code, RX4, 1, (some .long), ({ frames := 0, cells := 0, slots := 0, locals := 0 } : Room), ⟨RX4, "trace", "()J"⟩)
def M_Mo_init : MI := (prog_7_method_1_code, RX5, 1, none, ({ frames := 1, cells := 10, slots := 817, locals := 21 } : Room), ⟨RX5, "<init>", "()V"⟩)
def M_Mo_clean : MI := (prog_7_method_5_code, RX5, 2, none, ({ frames := 0, cells := 0, slots := 0, locals := 0 } : Room), ⟨RX5, "clean", "([I)V"⟩)
def M_Mo_type : MI := (prog_7_method_6_code, RX5, 2, (some .int), ({ frames := 1, cells := 0, slots := 0, locals := 25 } : Room), ⟨RX5, "type", "(I)I"⟩)
def M_Mo_in : MI := (prog_7_method_3_code, RX5, 6, (some .boolean), ({ frames := 0, cells := 0, slots := 0, locals := 0 } : Room), ⟨RX5, "in", "(JJJ)Z"⟩)
def M_Mo_clear : MI := (prog_7_method_7_code, RX5, 2, (some .int), ({ frames := 0, cells := 0, slots := 0, locals := 0 } : Room), ⟨RX5, "clear", "()I"⟩)
def M_Mo_church : MI := (prog_7_method_14_code, RX5, 3, (some .int), ({ frames := 4, cells := 0, slots := 0, locals := 94 } : Room), ⟨RX5, "church", "()I"⟩)
def M_Mo_first : MI := (prog_7_method_8_code, RX5, 1, (some .int), ({ frames := 0, cells := 0, slots := 0, locals := 0 } : Room), ⟨RX5, "first", "()I"⟩)
def M_Mo_takesItem : MI := (prog_7_method_13_code, RX5, 2, (some .boolean), ({ frames := 3, cells := 0, slots := 0, locals := 73 } : Room), ⟨RX5, "takesItem", "(I)Z"⟩)
def M_Mo_takesPew : MI := (prog_7_method_11_code, RX5, 2, (some .boolean), ({ frames := 2, cells := 0, slots := 0, locals := 50 } : Room), ⟨RX5, "takesPew", "()Z"⟩)
def M_Mo_number : MI := (prog_7_method_9_code, RX5, 6, (some .boolean), ({ frames := 1, cells := 0, slots := 0, locals := 25 } : Room), ⟨RX5, "number", "(III)Z"⟩)
def M_Mo_ends : MI := (prog_7_method_10_code, RX5, 1, (some .boolean), ({ frames := 1, cells := 0, slots := 0, locals := 20 } : Room), ⟨RX5, "ends", "()Z"⟩)
def M_Mo_takesOne : MI := (prog_7_method_12_code, RX5, 4, (some .boolean), ({ frames := 2, cells := 0, slots := 0, locals := 50 } : Room), ⟨RX5, "takesOne", "(III)Z"⟩)
def M_Mo_copies : MI := (prog_7_method_15_code, RX5, 5, none, ({ frames := 0, cells := 0, slots := 0, locals := 0 } : Room), ⟨RX5, "copies", "([II[II)V"⟩)
def M_Mo_pew : MI := (prog_7_method_17_code, RX5, 3, (some .int), ({ frames := 2, cells := 0, slots := 0, locals := 46 } : Room), ⟨RX5, "pew", "(II)I"⟩)
def M_Mo_isPew : MI := (prog_7_method_16_code, RX5, 2, (some .boolean), ({ frames := 1, cells := 0, slots := 0, locals := 25 } : Room), ⟨RX5, "isPew", "(I)Z"⟩)
def M_Mo_now : MI := (prog_7_method_19_code, RX5, 2, (some .int), ({ frames := 1, cells := 0, slots := 0, locals := 24 } : Room), ⟨RX5, "now", "(I)I"⟩)
def M_Mo_apart : MI := (prog_7_method_18_code, RX5, 5, (some .int), ({ frames := 0, cells := 0, slots := 0, locals := 0 } : Room), ⟨RX5, "apart", "([I)I"⟩)
def M_Mo_line : MI := (prog_7_method_25_code, RX5, 1, (some .int), ({ frames := 3, cells := 0, slots := 0, locals := 75 } : Room), ⟨RX5, "line", "()I"⟩)
def M_Mo_remember : MI := (prog_7_method_24_code, RX5, 2, none, ({ frames := 1, cells := 0, slots := 0, locals := 24 } : Room), ⟨RX5, "remember", "()V"⟩)
def M_Mo_sings : MI := (prog_7_method_22_code, RX5, 6, none, ({ frames := 2, cells := 0, slots := 0, locals := 50 } : Room), ⟨RX5, "sings", "([I)V"⟩)
def M_Mo_lateThen : MI := (prog_7_method_21_code, RX5, 8, (some .int), ({ frames := 1, cells := 0, slots := 0, locals := 23 } : Room), ⟨RX5, "lateThen", "([II)I"⟩)
def M_Mo_from : MI := (prog_7_method_20_code, RX5, 4, (some .int), ({ frames := 0, cells := 0, slots := 0, locals := 0 } : Room), ⟨RX5, "from", "([III)I"⟩)
def M_Mo_verse : MI := (prog_7_method_26_code, RX5, 2, (some .int), ({ frames := 3, cells := 0, slots := 0, locals := 75 } : Room), ⟨RX5, "verse", "()I"⟩)
def M_Mo_rests : MI := (prog_7_method_23_code, RX5, 3, none, ({ frames := 0, cells := 0, slots := 0, locals := 0 } : Room), ⟨RX5, "rests", "([II)V"⟩)
def M_Mo_ahead : MI := (prog_7_method_28_code, RX5, 2, (some .int), ({ frames := 3, cells := 0, slots := 0, locals := 68 } : Room), ⟨RX5, "ahead", "(I)I"⟩)
def M_Mo_puts : MI := (prog_7_method_27_code, RX5, 4, (some .int), ({ frames := 2, cells := 0, slots := 0, locals := 45 } : Room), ⟨RX5, "puts", "(II)I"⟩)
def M_Mo_choir : MI := (prog_7_method_29_code, RX5, 3, (some .int), ({ frames := 3, cells := 0, slots := 0, locals := 68 } : Room), ⟨RX5, "choir", "(I)I"⟩)
def M_Mo_knows : MI := (prog_7_method_31_code, RX5, 4, (some .int), ({ frames := 3, cells := 0, slots := 0, locals := 68 } : Room), ⟨RX5, "knows", "(II)I"⟩)
def M_Mo_isTwo : MI := (prog_7_method_4_code, RX5, 1, (some .boolean), ({ frames := 1, cells := 0, slots := 0, locals := 25 } : Room), ⟨RX5, "isTwo", "(I)Z"⟩)
def M_Mo_bits : MI := (prog_7_method_30_code, RX5, 3, (some .int), ({ frames := 0, cells := 0, slots := 0, locals := 0 } : Room), ⟨RX5, "bits", "(I)I"⟩)
def M_Mo_waits : MI := (prog_7_method_32_code, RX5, 2, (some .int), ({ frames := 3, cells := 0, slots := 0, locals := 68 } : Room), ⟨RX5, "waits", "(I)I"⟩)
def M_Mo_undo : MI := (prog_7_method_33_code, RX5, 1, (some .int), ({ frames := 1, cells := 0, slots := 0, locals := 24 } : Room), ⟨RX5, "undo", "()I"⟩)
def M_Mo_behind : MI := (prog_7_method_36_code, RX5, 3, (some .int), ({ frames := 4, cells := 0, slots := 0, locals := 97 } : Room), ⟨RX5, "behind", "(II)I"⟩)
def M_Mo_asNow : MI := (prog_7_method_34_code, RX5, 1, none, ({ frames := 1, cells := 0, slots := 0, locals := 24 } : Room), ⟨RX5, "asNow", "()V"⟩)
def M_Mo_go : MI := (prog_7_method_35_code, RX5, 3, none, ({ frames := 3, cells := 0, slots := 0, locals := 75 } : Room), ⟨RX5, "go", "(I)V"⟩)
def M_Mo_asleep : MI := (prog_7_method_37_code, RX5, 3, (some .int), ({ frames := 4, cells := 0, slots := 0, locals := 97 } : Room), ⟨RX5, "asleep", "(I)I"⟩)
def M_Mo_rest : MI := (prog_7_method_38_code, RX5, 4, (some .int), ({ frames := 4, cells := 0, slots := 0, locals := 97 } : Room), ⟨RX5, "rest", "()I"⟩)
def M_Mo_playAhead : MI := (prog_7_method_41_code, RX5, 7, (some .int), ({ frames := 4, cells := 0, slots := 0, locals := 97 } : Room), ⟨RX5, "playAhead", "(II)I"⟩)
def M_Mo_isSpan : MI := (prog_7_method_39_code, RX5, 1, (some .boolean), ({ frames := 1, cells := 0, slots := 0, locals := 25 } : Room), ⟨RX5, "isSpan", "(I)Z"⟩)
def M_Mo_greatest : MI := (prog_7_method_40_code, RX5, 4, (some .int), ({ frames := 0, cells := 0, slots := 0, locals := 0 } : Room), ⟨RX5, "greatest", "([I)I"⟩)
def M_Mo_seat : MI := (prog_7_method_42_code, RX5, 7, (some .int), ({ frames := 4, cells := 0, slots := 0, locals := 97 } : Room), ⟨RX5, "seat", "(II)I"⟩)
def M_Mo_knowers : MI := (prog_7_method_43_code, RX5, 6, (some .int), ({ frames := 4, cells := 0, slots := 0, locals := 97 } : Room), ⟨RX5, "knowers", "(II)I"⟩)
def M_Mo_pulls : MI := (prog_7_method_45_code, RX5, 5, (some .int), ({ frames := 4, cells := 0, slots := 0, locals := 97 } : Room), ⟨RX5, "pulls", "(I)I"⟩)
def M_Mo_without : MI := (prog_7_method_44_code, RX5, 4, none, ({ frames := 2, cells := 0, slots := 0, locals := 44 } : Room), ⟨RX5, "without", "(I)V"⟩)
def M_Mo_change : MI := (prog_7_method_46_code, RX5, 7, (some .int), ({ frames := 4, cells := 0, slots := 0, locals := 97 } : Room), ⟨RX5, "change", "(I)I"⟩)
def M_Mo_gaps : MI := (prog_7_method_47_code, RX5, 3, (some .int), ({ frames := 4, cells := 0, slots := 0, locals := 97 } : Room), ⟨RX5, "gaps", "(I)I"⟩)
def M_Mo_hear : MI := (prog_7_method_48_code, RX5, 4, (some .int), ({ frames := 2, cells := 0, slots := 0, locals := 46 } : Room), ⟨RX5, "hear", "(III)I"⟩)
def M_Mo_forget : MI := (prog_7_method_49_code, RX5, 2, (some .int), ({ frames := 0, cells := 0, slots := 0, locals := 0 } : Room), ⟨RX5, "forget", "()I"⟩)
def M_Mo_waited : MI := (prog_7_method_51_code, RX5, 3, (some .int), ({ frames := 5, cells := 0, slots := 0, locals := 120 } : Room), ⟨RX5, "waited", "()I"⟩)
def M_Mo_isSo : MI := (prog_7_method_50_code, RX5, 4, (some .boolean), ({ frames := 4, cells := 0, slots := 0, locals := 97 } : Room), ⟨RX5, "isSo", "(I)Z"⟩)
def M_Mo_odds : MI := (prog_7_method_52_code, RX5, 16, (some .long), ({ frames := 4, cells := 0, slots := 0, locals := 97 } : Room), ⟨RX5, "odds", "(IIIII)J"⟩)
def M_Mo_rate : MI := (prog_7_method_53_code, RX5, 4, (some .int), ({ frames := 2, cells := 0, slots := 0, locals := 46 } : Room), ⟨RX5, "rate", "(II)I"⟩)
def M_Mo_keep : MI := (prog_7_method_54_code, RX5, 2, (some .int), ({ frames := 2, cells := 0, slots := 0, locals := 45 } : Room), ⟨RX5, "keep", "(I)I"⟩)
def M_Mo_back : MI := (prog_7_method_55_code, RX5, 2, (some .int), ({ frames := 2, cells := 0, slots := 0, locals := 45 } : Room), ⟨RX5, "back", "(I)I"⟩)
def M_Mo_count : MI := (prog_7_method_56_code, RX5, 2, (some .int), ({ frames := 0, cells := 0, slots := 0, locals := 0 } : Room), ⟨RX5, "count", "(I)I"⟩)
def M_Mo_trace : MI := (prog_7_method_57_code, RX5, 1, (some .long), ({ frames := 0, cells := 0, slots := 0, locals := 0 } : Room), ⟨RX5, "trace", "()J"⟩)
def M_La_law : MI := (code, RL, 4, (some .boolean), ({ frames := 10, cells := 600000, slots := 7302250, locals := 374 } : Room), ⟨RL, "law", "([I)Z"⟩)
theorem ok_Bo_init : MOK 0 M_Bo_init := ⟨ws_1 13 rfl rfl, ws_1 1 rfl rfl, by decide +kernel, by decide +kernel, by decide +kernel⟩
theorem im_Bo_init : Cond.instanceMethod M_Bo_init.2.2.2.2.2 ∈ WS := ws_1 12 rfl rfl
theorem ok_Re_init : MOK 0 M_Re_init := ⟨ws_1 21 rfl rfl, ws_1 2 rfl rfl, by decide +kernel, by decide +kernel, by decide +kernel⟩
theorem im_Re_init : Cond.instanceMethod M_Re_init.2.2.2.2.2 ∈ WS := ws_1 20 rfl rfl
theorem ok_Ch_init : MOK 0 M_Ch_init := ⟨ws_1 57 rfl rfl, ws_1 3 rfl rfl, by decide +kernel, by decide +kernel, by decide +kernel⟩
theorem im_Ch_init : Cond.instanceMethod M_Ch_init.2.2.2.2.2 ∈ WS := ws_1 56 rfl rfl
theorem ok_Ch_empty : MOK 0 M_Ch_empty := ⟨ws_1 62 rfl rfl, ws_1 3 rfl rfl, by decide +kernel, by decide +kernel, by decide +kernel⟩
theorem mv_Ch_empty : MV M_Ch_empty := ⟨ws_1 60 rfl rfl, ws_1 61 rfl rfl⟩
theorem ok_Si_init : MOK 0 M_Si_init := ⟨ws_1 111 rfl rfl, ws_1 4 rfl rfl, by decide +kernel, by decide +kernel, by decide +kernel⟩
theorem im_Si_init : Cond.instanceMethod M_Si_init.2.2.2.2.2 ∈ WS := ws_1 110 rfl rfl
theorem ok_Hi_init : MOK 0 M_Hi_init := ⟨ws_1 153 rfl rfl, ws_1 5 rfl rfl, by decide +kernel, by decide +kernel, by decide +kernel⟩
theorem im_Hi_init : Cond.instanceMethod M_Hi_init.2.2.2.2.2 ∈ WS := ws_1 152 rfl rfl
theorem ok_Bo_type : MOK 1 M_Bo_type := ⟨ws_1 216 rfl rfl, ws_1 1 rfl rfl, by decide +kernel, by decide +kernel, by decide +kernel⟩
theorem mv_Bo_type : MV M_Bo_type := ⟨ws_1 214 rfl rfl, ws_1 215 rfl rfl⟩
theorem ok_Bo_within : MOK 3 M_Bo_within := ⟨ws_1 219 rfl rfl, ws_1 1 rfl rfl, by decide +kernel, by decide +kernel, by decide +kernel⟩
theorem st_Bo_within : Cond.static M_Bo_within.2.2.2.2.2 ∈ WS := ws_1 218 rfl rfl
theorem ok_Re_add : MOK 1 M_Re_add := ⟨ws_1 224 rfl rfl, ws_1 2 rfl rfl, by decide +kernel, by decide +kernel, by decide +kernel⟩
theorem mv_Re_add : MV M_Re_add := ⟨ws_1 222 rfl rfl, ws_1 223 rfl rfl⟩
theorem ok_Bo_clear : MOK 0 M_Bo_clear := ⟨ws_1 229 rfl rfl, ws_1 1 rfl rfl, by decide +kernel, by decide +kernel, by decide +kernel⟩
theorem mv_Bo_clear : MV M_Bo_clear := ⟨ws_1 227 rfl rfl, ws_1 228 rfl rfl⟩
theorem ok_Re_empty : MOK 0 M_Re_empty := ⟨ws_1 233 rfl rfl, ws_1 2 rfl rfl, by decide +kernel, by decide +kernel, by decide +kernel⟩
theorem mv_Re_empty : MV M_Re_empty := ⟨ws_1 231 rfl rfl, ws_1 232 rfl rfl⟩
theorem ok_Bo_church : MOK 0 M_Bo_church := ⟨ws_1 237 rfl rfl, ws_1 1 rfl rfl, by decide +kernel, by decide +kernel, by decide +kernel⟩
theorem mv_Bo_church : MV M_Bo_church := ⟨ws_1 235 rfl rfl, ws_1 236 rfl rfl⟩
theorem ok_Re_readInto : MOK 1 M_Re_readInto := ⟨ws_2 1 rfl rfl, ws_1 2 rfl rfl, by decide +kernel, by decide +kernel, by decide +kernel⟩
theorem mv_Re_readInto : MV M_Re_readInto := ⟨ws_1 239 rfl rfl, ws_2 0 rfl rfl⟩
theorem ok_Re_readToken : MOK 0 M_Re_readToken := ⟨ws_2 6 rfl rfl, ws_1 2 rfl rfl, by decide +kernel, by decide +kernel, by decide +kernel⟩
theorem mv_Re_readToken : MV M_Re_readToken := ⟨ws_2 5 rfl rfl, ws_pr 0 rfl rfl⟩
theorem ok_Re_isDigit : MOK 1 M_Re_isDigit := ⟨ws_2 9 rfl rfl, ws_1 2 rfl rfl, by decide +kernel, by decide +kernel, by decide +kernel⟩
theorem st_Re_isDigit : Cond.static M_Re_isDigit.2.2.2.2.2 ∈ WS := ws_2 8 rfl rfl
theorem ok_Re_readDigits : MOK 0 M_Re_readDigits := ⟨ws_2 13 rfl rfl, ws_1 2 rfl rfl, by decide +kernel, by decide +kernel, by decide +kernel⟩
theorem mv_Re_readDigits : MV M_Re_readDigits := ⟨ws_2 12 rfl rfl, ws_pr 1 rfl rfl⟩
theorem ok_Re_readItem : MOK 1 M_Re_readItem := ⟨ws_2 17 rfl rfl, ws_1 2 rfl rfl, by decide +kernel, by decide +kernel, by decide +kernel⟩
theorem mv_Re_readItem : MV M_Re_readItem := ⟨ws_2 16 rfl rfl, ws_pr 2 rfl rfl⟩
theorem ok_Re_readPew : MOK 1 M_Re_readPew := ⟨ws_2 21 rfl rfl, ws_1 2 rfl rfl, by decide +kernel, by decide +kernel, by decide +kernel⟩
theorem mv_Re_readPew : MV M_Re_readPew := ⟨ws_2 20 rfl rfl, ws_pr 3 rfl rfl⟩
theorem ok_Re_readNumber : MOK 2 M_Re_readNumber := ⟨ws_2 25 rfl rfl, ws_1 2 rfl rfl, by decide +kernel, by decide +kernel, by decide +kernel⟩
theorem mv_Re_readNumber : MV M_Re_readNumber := ⟨ws_2 24 rfl rfl, ws_pr 4 rfl rfl⟩
theorem ok_Re_readItemEnd : MOK 0 M_Re_readItemEnd := ⟨ws_2 30 rfl rfl, ws_1 2 rfl rfl, by decide +kernel, by decide +kernel, by decide +kernel⟩
theorem mv_Re_readItemEnd : MV M_Re_readItemEnd := ⟨ws_2 29 rfl rfl, ws_pr 5 rfl rfl⟩
theorem ok_Re_readWait : MOK 1 M_Re_readWait := ⟨ws_2 34 rfl rfl, ws_1 2 rfl rfl, by decide +kernel, by decide +kernel, by decide +kernel⟩
theorem mv_Re_readWait : MV M_Re_readWait := ⟨ws_2 33 rfl rfl, ws_pr 6 rfl rfl⟩
theorem ok_Re_readLines : MOK 1 M_Re_readLines := ⟨ws_2 38 rfl rfl, ws_1 2 rfl rfl, by decide +kernel, by decide +kernel, by decide +kernel⟩
theorem mv_Re_readLines : MV M_Re_readLines := ⟨ws_2 37 rfl rfl, ws_pr 7 rfl rfl⟩
theorem ok_Re_readGap : MOK 1 M_Re_readGap := ⟨ws_2 42 rfl rfl, ws_1 2 rfl rfl, by decide +kernel, by decide +kernel, by decide +kernel⟩
theorem mv_Re_readGap : MV M_Re_readGap := ⟨ws_2 41 rfl rfl, ws_pr 8 rfl rfl⟩
theorem ok_Ch_copyFrom : MOK 1 M_Ch_copyFrom := ⟨ws_2 46 rfl rfl, ws_1 3 rfl rfl, by decide +kernel, by decide +kernel, by decide +kernel⟩
theorem mv_Ch_copyFrom : MV M_Ch_copyFrom := ⟨ws_2 44 rfl rfl, ws_2 45 rfl rfl⟩
theorem ok_Ch_copyPew : MOK 3 M_Ch_copyPew := ⟨ws_2 50 rfl rfl, ws_1 3 rfl rfl, by decide +kernel, by decide +kernel, by decide +kernel⟩
theorem mv_Ch_copyPew : MV M_Ch_copyPew := ⟨ws_2 49 rfl rfl, ws_pr 9 rfl rfl⟩
theorem ok_Bo_beginAnew : MOK 0 M_Bo_beginAnew := ⟨ws_2 54 rfl rfl, ws_1 1 rfl rfl, by decide +kernel, by decide +kernel, by decide +kernel⟩
theorem mv_Bo_beginAnew : MV M_Bo_beginAnew := ⟨ws_2 53 rfl rfl, ws_pr 10 rfl rfl⟩
theorem ok_Si_begin : MOK 1 M_Si_begin := ⟨ws_2 58 rfl rfl, ws_1 4 rfl rfl, by decide +kernel, by decide +kernel, by decide +kernel⟩
theorem mv_Si_begin : MV M_Si_begin := ⟨ws_2 56 rfl rfl, ws_2 57 rfl rfl⟩
theorem ok_Bo_pew : MOK 2 M_Bo_pew := ⟨ws_2 62 rfl rfl, ws_1 1 rfl rfl, by decide +kernel, by decide +kernel, by decide +kernel⟩
theorem mv_Bo_pew : MV M_Bo_pew := ⟨ws_2 60 rfl rfl, ws_2 61 rfl rfl⟩
theorem ok_Ch_has : MOK 1 M_Ch_has := ⟨ws_2 66 rfl rfl, ws_1 3 rfl rfl, by decide +kernel, by decide +kernel, by decide +kernel⟩
theorem mv_Ch_has : MV M_Ch_has := ⟨ws_2 64 rfl rfl, ws_2 65 rfl rfl⟩
theorem ok_Ch_lag : MOK 1 M_Ch_lag := ⟨ws_2 70 rfl rfl, ws_1 3 rfl rfl, by decide +kernel, by decide +kernel, by decide +kernel⟩
theorem mv_Ch_lag : MV M_Ch_lag := ⟨ws_2 68 rfl rfl, ws_2 69 rfl rfl⟩
theorem ok_Si_isKnower : MOK 1 M_Si_isKnower := ⟨ws_2 74 rfl rfl, ws_1 4 rfl rfl, by decide +kernel, by decide +kernel, by decide +kernel⟩
theorem mv_Si_isKnower : MV M_Si_isKnower := ⟨ws_2 72 rfl rfl, ws_2 73 rfl rfl⟩
theorem ok_Bo_now : MOK 1 M_Bo_now := ⟨ws_2 78 rfl rfl, ws_1 1 rfl rfl, by decide +kernel, by decide +kernel, by decide +kernel⟩
theorem mv_Bo_now : MV M_Bo_now := ⟨ws_2 76 rfl rfl, ws_2 77 rfl rfl⟩
theorem ok_Si_apart : MOK 1 M_Si_apart := ⟨ws_2 82 rfl rfl, ws_1 4 rfl rfl, by decide +kernel, by decide +kernel, by decide +kernel⟩
theorem mv_Si_apart : MV M_Si_apart := ⟨ws_2 80 rfl rfl, ws_2 81 rfl rfl⟩
theorem ok_Ma_max : MOK 2 M_Ma_max := ⟨ws_2 85 rfl rfl, ws_1 7 rfl rfl, by decide +kernel, by decide +kernel, by decide +kernel⟩
theorem st_Ma_max : Cond.static M_Ma_max.2.2.2.2.2 ∈ WS := ws_2 84 rfl rfl
theorem ok_Ma_min : MOK 2 M_Ma_min := ⟨ws_2 88 rfl rfl, ws_1 7 rfl rfl, by decide +kernel, by decide +kernel, by decide +kernel⟩
theorem st_Ma_min : Cond.static M_Ma_min.2.2.2.2.2 ∈ WS := ws_2 87 rfl rfl
theorem ok_Bo_line : MOK 0 M_Bo_line := ⟨ws_2 92 rfl rfl, ws_1 1 rfl rfl, by decide +kernel, by decide +kernel, by decide +kernel⟩
theorem mv_Bo_line : MV M_Bo_line := ⟨ws_2 90 rfl rfl, ws_2 91 rfl rfl⟩
theorem ok_Hi_remember : MOK 1 M_Hi_remember := ⟨ws_2 97 rfl rfl, ws_1 5 rfl rfl, by decide +kernel, by decide +kernel, by decide +kernel⟩
theorem mv_Hi_remember : MV M_Hi_remember := ⟨ws_2 95 rfl rfl, ws_2 96 rfl rfl⟩
theorem ok_Si_copyFrom : MOK 1 M_Si_copyFrom := ⟨ws_2 101 rfl rfl, ws_1 4 rfl rfl, by decide +kernel, by decide +kernel, by decide +kernel⟩
theorem mv_Si_copyFrom : MV M_Si_copyFrom := ⟨ws_2 99 rfl rfl, ws_2 100 rfl rfl⟩
theorem ok_Ch_singLine : MOK 1 M_Ch_singLine := ⟨ws_2 106 rfl rfl, ws_1 3 rfl rfl, by decide +kernel, by decide +kernel, by decide +kernel⟩
theorem mv_Ch_singLine : MV M_Ch_singLine := ⟨ws_2 104 rfl rfl, ws_2 105 rfl rfl⟩
theorem ok_Ch_lateBehindLine : MOK 2 M_Ch_lateBehindLine := ⟨ws_2 110 rfl rfl, ws_1 3 rfl rfl, by decide +kernel, by decide +kernel, by decide +kernel⟩
theorem mv_Ch_lateBehindLine : MV M_Ch_lateBehindLine := ⟨ws_2 109 rfl rfl, ws_pr 11 rfl rfl⟩
theorem ok_Ch_meanBeside : MOK 1 M_Ch_meanBeside := ⟨ws_2 115 rfl rfl, ws_1 3 rfl rfl, by decide +kernel, by decide +kernel, by decide +kernel⟩
theorem mv_Ch_meanBeside : MV M_Ch_meanBeside := ⟨ws_2 114 rfl rfl, ws_pr 12 rfl rfl⟩
theorem ok_Ch_between : MOK 2 M_Ch_between := ⟨ws_2 120 rfl rfl, ws_1 3 rfl rfl, by decide +kernel, by decide +kernel, by decide +kernel⟩
theorem mv_Ch_between : MV M_Ch_between := ⟨ws_2 119 rfl rfl, ws_pr 13 rfl rfl⟩
theorem ok_Ma_abs : MOK 1 M_Ma_abs := ⟨ws_2 123 rfl rfl, ws_1 7 rfl rfl, by decide +kernel, by decide +kernel, by decide +kernel⟩
theorem st_Ma_abs : Cond.static M_Ma_abs.2.2.2.2.2 ∈ WS := ws_2 122 rfl rfl
theorem ok_Bo_divided : MOK 2 M_Bo_divided := ⟨ws_2 126 rfl rfl, ws_1 1 rfl rfl, by decide +kernel, by decide +kernel, by decide +kernel⟩
theorem st_Bo_divided : Cond.static M_Bo_divided.2.2.2.2.2 ∈ WS := ws_2 125 rfl rfl
theorem ok_Ch_waitFor : MOK 1 M_Ch_waitFor := ⟨ws_2 133 rfl rfl, ws_1 3 rfl rfl, by decide +kernel, by decide +kernel, by decide +kernel⟩
theorem mv_Ch_waitFor : MV M_Ch_waitFor := ⟨ws_2 132 rfl rfl, ws_pr 14 rfl rfl⟩
theorem ok_Bo_verse : MOK 0 M_Bo_verse := ⟨ws_2 137 rfl rfl, ws_1 1 rfl rfl, by decide +kernel, by decide +kernel, by decide +kernel⟩
theorem mv_Bo_verse : MV M_Bo_verse := ⟨ws_2 135 rfl rfl, ws_2 136 rfl rfl⟩
theorem ok_Ch_singLines : MOK 2 M_Ch_singLines := ⟨ws_2 141 rfl rfl, ws_1 3 rfl rfl, by decide +kernel, by decide +kernel, by decide +kernel⟩
theorem mv_Ch_singLines : MV M_Ch_singLines := ⟨ws_2 139 rfl rfl, ws_2 140 rfl rfl⟩
theorem ok_Bo_ahead : MOK 1 M_Bo_ahead := ⟨ws_2 147 rfl rfl, ws_1 1 rfl rfl, by decide +kernel, by decide +kernel, by decide +kernel⟩
theorem mv_Bo_ahead : MV M_Bo_ahead := ⟨ws_2 145 rfl rfl, ws_2 146 rfl rfl⟩
theorem ok_Bo_choir : MOK 1 M_Bo_choir := ⟨ws_2 151 rfl rfl, ws_1 1 rfl rfl, by decide +kernel, by decide +kernel, by decide +kernel⟩
theorem mv_Bo_choir : MV M_Bo_choir := ⟨ws_2 149 rfl rfl, ws_2 150 rfl rfl⟩
theorem ok_Bo_knows : MOK 2 M_Bo_knows := ⟨ws_2 156 rfl rfl, ws_1 1 rfl rfl, by decide +kernel, by decide +kernel, by decide +kernel⟩
theorem mv_Bo_knows : MV M_Bo_knows := ⟨ws_2 154 rfl rfl, ws_2 155 rfl rfl⟩
theorem ok_In_bitCount : MOK 1 M_In_bitCount := ⟨ws_2 159 rfl rfl, ws_1 8 rfl rfl, by decide +kernel, by decide +kernel, by decide +kernel⟩
theorem st_In_bitCount : Cond.static M_In_bitCount.2.2.2.2.2 ∈ WS := ws_2 158 rfl rfl
theorem ok_Bo_waits : MOK 1 M_Bo_waits := ⟨ws_2 166 rfl rfl, ws_1 1 rfl rfl, by decide +kernel, by decide +kernel, by decide +kernel⟩
theorem mv_Bo_waits : MV M_Bo_waits := ⟨ws_2 164 rfl rfl, ws_2 165 rfl rfl⟩
theorem ok_Bo_undo : MOK 0 M_Bo_undo := ⟨ws_2 170 rfl rfl, ws_1 1 rfl rfl, by decide +kernel, by decide +kernel, by decide +kernel⟩
theorem mv_Bo_undo : MV M_Bo_undo := ⟨ws_2 168 rfl rfl, ws_2 169 rfl rfl⟩
theorem ok_Hi_takeBack : MOK 1 M_Hi_takeBack := ⟨ws_2 174 rfl rfl, ws_1 5 rfl rfl, by decide +kernel, by decide +kernel, by decide +kernel⟩
theorem mv_Hi_takeBack : MV M_Hi_takeBack := ⟨ws_2 172 rfl rfl, ws_2 173 rfl rfl⟩
theorem ok_Bo_behind : MOK 2 M_Bo_behind := ⟨ws_2 178 rfl rfl, ws_1 1 rfl rfl, by decide +kernel, by decide +kernel, by decide +kernel⟩
theorem mv_Bo_behind : MV M_Bo_behind := ⟨ws_2 176 rfl rfl, ws_2 177 rfl rfl⟩
theorem ok_Bo_asleep : MOK 1 M_Bo_asleep := ⟨ws_2 183 rfl rfl, ws_1 1 rfl rfl, by decide +kernel, by decide +kernel, by decide +kernel⟩
theorem mv_Bo_asleep : MV M_Bo_asleep := ⟨ws_2 181 rfl rfl, ws_2 182 rfl rfl⟩
theorem ok_Bo_rest : MOK 0 M_Bo_rest := ⟨ws_2 187 rfl rfl, ws_1 1 rfl rfl, by decide +kernel, by decide +kernel, by decide +kernel⟩
theorem mv_Bo_rest : MV M_Bo_rest := ⟨ws_2 185 rfl rfl, ws_2 186 rfl rfl⟩
theorem ok_Si_isAsLateAs : MOK 2 M_Si_isAsLateAs := ⟨ws_2 191 rfl rfl, ws_1 4 rfl rfl, by decide +kernel, by decide +kernel, by decide +kernel⟩
theorem mv_Si_isAsLateAs : MV M_Si_isAsLateAs := ⟨ws_2 189 rfl rfl, ws_2 190 rfl rfl⟩
theorem ok_Bo_playAhead : MOK 2 M_Bo_playAhead := ⟨ws_2 195 rfl rfl, ws_1 1 rfl rfl, by decide +kernel, by decide +kernel, by decide +kernel⟩
theorem mv_Bo_playAhead : MV M_Bo_playAhead := ⟨ws_2 193 rfl rfl, ws_2 194 rfl rfl⟩
theorem ok_Si_greatest : MOK 1 M_Si_greatest := ⟨ws_2 200 rfl rfl, ws_1 4 rfl rfl, by decide +kernel, by decide +kernel, by decide +kernel⟩
theorem mv_Si_greatest : MV M_Si_greatest := ⟨ws_2 198 rfl rfl, ws_2 199 rfl rfl⟩
theorem ok_Bo_seat : MOK 2 M_Bo_seat := ⟨ws_2 205 rfl rfl, ws_1 1 rfl rfl, by decide +kernel, by decide +kernel, by decide +kernel⟩
theorem mv_Bo_seat : MV M_Bo_seat := ⟨ws_2 203 rfl rfl, ws_2 204 rfl rfl⟩
theorem ok_Bo_apartBySeat : MOK 2 M_Bo_apartBySeat := ⟨ws_2 209 rfl rfl, ws_1 1 rfl rfl, by decide +kernel, by decide +kernel, by decide +kernel⟩
theorem mv_Bo_apartBySeat : MV M_Bo_apartBySeat := ⟨ws_2 208 rfl rfl, ws_pr 15 rfl rfl⟩
theorem ok_Bo_knowers : MOK 2 M_Bo_knowers := ⟨ws_2 213 rfl rfl, ws_1 1 rfl rfl, by decide +kernel, by decide +kernel, by decide +kernel⟩
theorem mv_Bo_knowers : MV M_Bo_knowers := ⟨ws_2 211 rfl rfl, ws_2 212 rfl rfl⟩
theorem ok_Bo_knowersOfSize : MOK 3 M_Bo_knowersOfSize := ⟨ws_2 217 rfl rfl, ws_1 1 rfl rfl, by decide +kernel, by decide +kernel, by decide +kernel⟩
theorem mv_Bo_knowersOfSize : MV M_Bo_knowersOfSize := ⟨ws_2 216 rfl rfl, ws_pr 16 rfl rfl⟩
theorem ok_Bo_pulls : MOK 1 M_Bo_pulls := ⟨ws_2 221 rfl rfl, ws_1 1 rfl rfl, by decide +kernel, by decide +kernel, by decide +kernel⟩
theorem mv_Bo_pulls : MV M_Bo_pulls := ⟨ws_2 219 rfl rfl, ws_2 220 rfl rfl⟩
theorem ok_Bo_paceWithout : MOK 2 M_Bo_paceWithout := ⟨ws_2 225 rfl rfl, ws_1 1 rfl rfl, by decide +kernel, by decide +kernel, by decide +kernel⟩
theorem mv_Bo_paceWithout : MV M_Bo_paceWithout := ⟨ws_2 224 rfl rfl, ws_pr 17 rfl rfl⟩
theorem ok_Ch_leaveOut : MOK 1 M_Ch_leaveOut := ⟨ws_2 229 rfl rfl, ws_1 3 rfl rfl, by decide +kernel, by decide +kernel, by decide +kernel⟩
theorem mv_Ch_leaveOut : MV M_Ch_leaveOut := ⟨ws_2 227 rfl rfl, ws_2 228 rfl rfl⟩
theorem ok_Si_leaveOut : MOK 1 M_Si_leaveOut := ⟨ws_2 233 rfl rfl, ws_1 4 rfl rfl, by decide +kernel, by decide +kernel, by decide +kernel⟩
theorem mv_Si_leaveOut : MV M_Si_leaveOut := ⟨ws_2 231 rfl rfl, ws_2 232 rfl rfl⟩
theorem ok_Bo_change : MOK 1 M_Bo_change := ⟨ws_2 238 rfl rfl, ws_1 1 rfl rfl, by decide +kernel, by decide +kernel, by decide +kernel⟩
theorem mv_Bo_change : MV M_Bo_change := ⟨ws_2 236 rfl rfl, ws_2 237 rfl rfl⟩
theorem ok_Bo_apartByChange : MOK 3 M_Bo_apartByChange := ⟨ws_3 2 rfl rfl, ws_1 1 rfl rfl, by decide +kernel, by decide +kernel, by decide +kernel⟩
theorem mv_Bo_apartByChange : MV M_Bo_apartByChange := ⟨ws_3 1 rfl rfl, ws_pr 18 rfl rfl⟩
theorem ok_Bo_gaps : MOK 1 M_Bo_gaps := ⟨ws_3 6 rfl rfl, ws_1 1 rfl rfl, by decide +kernel, by decide +kernel, by decide +kernel⟩
theorem mv_Bo_gaps : MV M_Bo_gaps := ⟨ws_3 4 rfl rfl, ws_3 5 rfl rfl⟩
theorem ok_Bo_hear : MOK 3 M_Bo_hear := ⟨ws_3 10 rfl rfl, ws_1 1 rfl rfl, by decide +kernel, by decide +kernel, by decide +kernel⟩
theorem mv_Bo_hear : MV M_Bo_hear := ⟨ws_3 8 rfl rfl, ws_3 9 rfl rfl⟩
theorem ok_Bo_forget : MOK 0 M_Bo_forget := ⟨ws_3 14 rfl rfl, ws_1 1 rfl rfl, by decide +kernel, by decide +kernel, by decide +kernel⟩
theorem mv_Bo_forget : MV M_Bo_forget := ⟨ws_3 12 rfl rfl, ws_3 13 rfl rfl⟩
theorem ok_Bo_waited : MOK 0 M_Bo_waited := ⟨ws_3 18 rfl rfl, ws_1 1 rfl rfl, by decide +kernel, by decide +kernel, by decide +kernel⟩
theorem mv_Bo_waited : MV M_Bo_waited := ⟨ws_3 16 rfl rfl, ws_3 17 rfl rfl⟩
theorem ok_Bo_isAllHeardSo : MOK 1 M_Bo_isAllHeardSo := ⟨ws_3 22 rfl rfl, ws_1 1 rfl rfl, by decide +kernel, by decide +kernel, by decide +kernel⟩
theorem mv_Bo_isAllHeardSo : MV M_Bo_isAllHeardSo := ⟨ws_3 21 rfl rfl, ws_pr 19 rfl rfl⟩
theorem ok_Bo_odds : MOK 5 M_Bo_odds := ⟨ws_3 26 rfl rfl, ws_1 1 rfl rfl, by decide +kernel, by decide +kernel, by decide +kernel⟩
theorem mv_Bo_odds : MV M_Bo_odds := ⟨ws_3 24 rfl rfl, ws_3 25 rfl rfl⟩
theorem ok_Bo_apartByPlays : MOK 3 M_Bo_apartByPlays := ⟨ws_3 31 rfl rfl, ws_1 1 rfl rfl, by decide +kernel, by decide +kernel, by decide +kernel⟩
theorem mv_Bo_apartByPlays : MV M_Bo_apartByPlays := ⟨ws_3 30 rfl rfl, ws_pr 20 rfl rfl⟩
theorem ok_Bo_power : MOK 2 M_Bo_power := ⟨ws_3 34 rfl rfl, ws_1 1 rfl rfl, by decide +kernel, by decide +kernel, by decide +kernel⟩
theorem st_Bo_power : Cond.static M_Bo_power.2.2.2.2.2 ∈ WS := ws_3 33 rfl rfl
theorem ok_Bo_commonDivisor : MOK 2 M_Bo_commonDivisor := ⟨ws_3 37 rfl rfl, ws_1 1 rfl rfl, by decide +kernel, by decide +kernel, by decide +kernel⟩
theorem st_Bo_commonDivisor : Cond.static M_Bo_commonDivisor.2.2.2.2.2 ∈ WS := ws_3 36 rfl rfl
theorem ok_Bo_rate : MOK 2 M_Bo_rate := ⟨ws_3 41 rfl rfl, ws_1 1 rfl rfl, by decide +kernel, by decide +kernel, by decide +kernel⟩
theorem mv_Bo_rate : MV M_Bo_rate := ⟨ws_3 39 rfl rfl, ws_3 40 rfl rfl⟩
theorem ok_Bo_rateFront : MOK 1 M_Bo_rateFront := ⟨ws_3 45 rfl rfl, ws_1 1 rfl rfl, by decide +kernel, by decide +kernel, by decide +kernel⟩
theorem mv_Bo_rateFront : MV M_Bo_rateFront := ⟨ws_3 44 rfl rfl, ws_pr 21 rfl rfl⟩
theorem ok_Bo_ratePew : MOK 1 M_Bo_ratePew := ⟨ws_3 50 rfl rfl, ws_1 1 rfl rfl, by decide +kernel, by decide +kernel, by decide +kernel⟩
theorem mv_Bo_ratePew : MV M_Bo_ratePew := ⟨ws_3 49 rfl rfl, ws_pr 22 rfl rfl⟩
theorem ok_Bo_rateBasses : MOK 1 M_Bo_rateBasses := ⟨ws_3 54 rfl rfl, ws_1 1 rfl rfl, by decide +kernel, by decide +kernel, by decide +kernel⟩
theorem mv_Bo_rateBasses : MV M_Bo_rateBasses := ⟨ws_3 53 rfl rfl, ws_pr 23 rfl rfl⟩
theorem ok_Bo_rateWidows : MOK 1 M_Bo_rateWidows := ⟨ws_3 59 rfl rfl, ws_1 1 rfl rfl, by decide +kernel, by decide +kernel, by decide +kernel⟩
theorem mv_Bo_rateWidows : MV M_Bo_rateWidows := ⟨ws_3 58 rfl rfl, ws_pr 24 rfl rfl⟩
theorem ok_Bo_rateBoys : MOK 1 M_Bo_rateBoys := ⟨ws_3 64 rfl rfl, ws_1 1 rfl rfl, by decide +kernel, by decide +kernel, by decide +kernel⟩
theorem mv_Bo_rateBoys : MV M_Bo_rateBoys := ⟨ws_3 63 rfl rfl, ws_pr 25 rfl rfl⟩
theorem ok_Bo_rateStrangers : MOK 1 M_Bo_rateStrangers := ⟨ws_3 69 rfl rfl, ws_1 1 rfl rfl, by decide +kernel, by decide +kernel, by decide +kernel⟩
theorem mv_Bo_rateStrangers : MV M_Bo_rateStrangers := ⟨ws_3 68 rfl rfl, ws_pr 26 rfl rfl⟩
theorem ok_Bo_keep : MOK 1 M_Bo_keep := ⟨ws_3 74 rfl rfl, ws_1 1 rfl rfl, by decide +kernel, by decide +kernel, by decide +kernel⟩
theorem mv_Bo_keep : MV M_Bo_keep := ⟨ws_3 72 rfl rfl, ws_3 73 rfl rfl⟩
theorem ok_Bo_back : MOK 1 M_Bo_back := ⟨ws_3 78 rfl rfl, ws_1 1 rfl rfl, by decide +kernel, by decide +kernel, by decide +kernel⟩
theorem mv_Bo_back : MV M_Bo_back := ⟨ws_3 76 rfl rfl, ws_3 77 rfl rfl⟩
theorem ok_Bo_count : MOK 1 M_Bo_count := ⟨ws_3 82 rfl rfl, ws_1 1 rfl rfl, by decide +kernel, by decide +kernel, by decide +kernel⟩
theorem mv_Bo_count : MV M_Bo_count := ⟨ws_3 80 rfl rfl, ws_3 81 rfl rfl⟩
theorem ok_Bo_trace : MOK 0 M_Bo_trace := ⟨ws_3 86 rfl rfl, ws_1 1 rfl rfl, by decide +kernel, by decide +kernel, by decide +kernel⟩
theorem mv_Bo_trace : MV M_Bo_trace := ⟨ws_3 84 rfl rfl, ws_3 85 rfl rfl⟩
theorem ok_Mo_init : MOK 0 M_Mo_init := ⟨ws_3 91 rfl rfl, ws_1 6 rfl rfl, by decide +kernel, by decide +kernel, by decide +kernel⟩
theorem im_Mo_init : Cond.instanceMethod M_Mo_init.2.2.2.2.2 ∈ WS := ws_3 90 rfl rfl
theorem ok_Mo_clean : MOK 1 M_Mo_clean := ⟨ws_3 95 rfl rfl, ws_1 6 rfl rfl, by decide +kernel, by decide +kernel, by decide +kernel⟩
theorem st_Mo_clean : Cond.static M_Mo_clean.2.2.2.2.2 ∈ WS := ws_3 94 rfl rfl
theorem ok_Mo_type : MOK 1 M_Mo_type := ⟨ws_3 151 rfl rfl, ws_1 6 rfl rfl, by decide +kernel, by decide +kernel, by decide +kernel⟩
theorem mv_Mo_type : MV M_Mo_type := ⟨ws_3 149 rfl rfl, ws_3 150 rfl rfl⟩
theorem ok_Mo_in : MOK 3 M_Mo_in := ⟨ws_3 155 rfl rfl, ws_1 6 rfl rfl, by decide +kernel, by decide +kernel, by decide +kernel⟩
theorem st_Mo_in : Cond.static M_Mo_in.2.2.2.2.2 ∈ WS := ws_3 154 rfl rfl
theorem ok_Mo_clear : MOK 0 M_Mo_clear := ⟨ws_3 161 rfl rfl, ws_1 6 rfl rfl, by decide +kernel, by decide +kernel, by decide +kernel⟩
theorem mv_Mo_clear : MV M_Mo_clear := ⟨ws_3 159 rfl rfl, ws_3 160 rfl rfl⟩
theorem ok_Mo_church : MOK 0 M_Mo_church := ⟨ws_3 165 rfl rfl, ws_1 6 rfl rfl, by decide +kernel, by decide +kernel, by decide +kernel⟩
theorem mv_Mo_church : MV M_Mo_church := ⟨ws_3 163 rfl rfl, ws_3 164 rfl rfl⟩
theorem ok_Mo_first : MOK 0 M_Mo_first := ⟨ws_3 169 rfl rfl, ws_1 6 rfl rfl, by decide +kernel, by decide +kernel, by decide +kernel⟩
theorem mv_Mo_first : MV M_Mo_first := ⟨ws_3 168 rfl rfl, ws_pr 27 rfl rfl⟩
theorem ok_Mo_takesItem : MOK 1 M_Mo_takesItem := ⟨ws_3 173 rfl rfl, ws_1 6 rfl rfl, by decide +kernel, by decide +kernel, by decide +kernel⟩
theorem mv_Mo_takesItem : MV M_Mo_takesItem := ⟨ws_3 172 rfl rfl, ws_pr 28 rfl rfl⟩
theorem ok_Mo_takesPew : MOK 0 M_Mo_takesPew := ⟨ws_3 177 rfl rfl, ws_1 6 rfl rfl, by decide +kernel, by decide +kernel, by decide +kernel⟩
theorem mv_Mo_takesPew : MV M_Mo_takesPew := ⟨ws_3 176 rfl rfl, ws_pr 29 rfl rfl⟩
theorem ok_Mo_number : MOK 3 M_Mo_number := ⟨ws_3 181 rfl rfl, ws_1 6 rfl rfl, by decide +kernel, by decide +kernel, by decide +kernel⟩
theorem mv_Mo_number : MV M_Mo_number := ⟨ws_3 180 rfl rfl, ws_pr 30 rfl rfl⟩
theorem ok_Mo_ends : MOK 0 M_Mo_ends := ⟨ws_3 187 rfl rfl, ws_1 6 rfl rfl, by decide +kernel, by decide +kernel, by decide +kernel⟩
theorem mv_Mo_ends : MV M_Mo_ends := ⟨ws_3 186 rfl rfl, ws_pr 31 rfl rfl⟩
theorem ok_Mo_takesOne : MOK 3 M_Mo_takesOne := ⟨ws_3 191 rfl rfl, ws_1 6 rfl rfl, by decide +kernel, by decide +kernel, by decide +kernel⟩
theorem mv_Mo_takesOne : MV M_Mo_takesOne := ⟨ws_3 190 rfl rfl, ws_pr 32 rfl rfl⟩
theorem ok_Mo_copies : MOK 4 M_Mo_copies := ⟨ws_3 194 rfl rfl, ws_1 6 rfl rfl, by decide +kernel, by decide +kernel, by decide +kernel⟩
theorem st_Mo_copies : Cond.static M_Mo_copies.2.2.2.2.2 ∈ WS := ws_3 193 rfl rfl
theorem ok_Mo_pew : MOK 2 M_Mo_pew := ⟨ws_3 198 rfl rfl, ws_1 6 rfl rfl, by decide +kernel, by decide +kernel, by decide +kernel⟩
theorem mv_Mo_pew : MV M_Mo_pew := ⟨ws_3 196 rfl rfl, ws_3 197 rfl rfl⟩
theorem ok_Mo_isPew : MOK 1 M_Mo_isPew := ⟨ws_3 202 rfl rfl, ws_1 6 rfl rfl, by decide +kernel, by decide +kernel, by decide +kernel⟩
theorem mv_Mo_isPew : MV M_Mo_isPew := ⟨ws_3 201 rfl rfl, ws_pr 33 rfl rfl⟩
theorem ok_Mo_now : MOK 1 M_Mo_now := ⟨ws_3 207 rfl rfl, ws_1 6 rfl rfl, by decide +kernel, by decide +kernel, by decide +kernel⟩
theorem mv_Mo_now : MV M_Mo_now := ⟨ws_3 205 rfl rfl, ws_3 206 rfl rfl⟩
theorem ok_Mo_apart : MOK 1 M_Mo_apart := ⟨ws_3 211 rfl rfl, ws_1 6 rfl rfl, by decide +kernel, by decide +kernel, by decide +kernel⟩
theorem st_Mo_apart : Cond.static M_Mo_apart.2.2.2.2.2 ∈ WS := ws_3 210 rfl rfl
theorem ok_Mo_line : MOK 0 M_Mo_line := ⟨ws_3 215 rfl rfl, ws_1 6 rfl rfl, by decide +kernel, by decide +kernel, by decide +kernel⟩
theorem mv_Mo_line : MV M_Mo_line := ⟨ws_3 213 rfl rfl, ws_3 214 rfl rfl⟩
theorem ok_Mo_remember : MOK 0 M_Mo_remember := ⟨ws_3 220 rfl rfl, ws_1 6 rfl rfl, by decide +kernel, by decide +kernel, by decide +kernel⟩
theorem mv_Mo_remember : MV M_Mo_remember := ⟨ws_3 219 rfl rfl, ws_pr 34 rfl rfl⟩
theorem ok_Mo_sings : MOK 1 M_Mo_sings := ⟨ws_3 224 rfl rfl, ws_1 6 rfl rfl, by decide +kernel, by decide +kernel, by decide +kernel⟩
theorem mv_Mo_sings : MV M_Mo_sings := ⟨ws_3 223 rfl rfl, ws_pr 35 rfl rfl⟩
theorem ok_Mo_lateThen : MOK 2 M_Mo_lateThen := ⟨ws_3 227 rfl rfl, ws_1 6 rfl rfl, by decide +kernel, by decide +kernel, by decide +kernel⟩
theorem st_Mo_lateThen : Cond.static M_Mo_lateThen.2.2.2.2.2 ∈ WS := ws_3 226 rfl rfl
theorem ok_Mo_from : MOK 3 M_Mo_from := ⟨ws_3 230 rfl rfl, ws_1 6 rfl rfl, by decide +kernel, by decide +kernel, by decide +kernel⟩
theorem st_Mo_from : Cond.static M_Mo_from.2.2.2.2.2 ∈ WS := ws_3 229 rfl rfl
theorem ok_Mo_verse : MOK 0 M_Mo_verse := ⟨ws_3 234 rfl rfl, ws_1 6 rfl rfl, by decide +kernel, by decide +kernel, by decide +kernel⟩
theorem mv_Mo_verse : MV M_Mo_verse := ⟨ws_3 232 rfl rfl, ws_3 233 rfl rfl⟩
theorem ok_Mo_rests : MOK 2 M_Mo_rests := ⟨ws_3 237 rfl rfl, ws_1 6 rfl rfl, by decide +kernel, by decide +kernel, by decide +kernel⟩
theorem st_Mo_rests : Cond.static M_Mo_rests.2.2.2.2.2 ∈ WS := ws_3 236 rfl rfl
theorem ok_Mo_ahead : MOK 1 M_Mo_ahead := ⟨ws_4 1 rfl rfl, ws_1 6 rfl rfl, by decide +kernel, by decide +kernel, by decide +kernel⟩
theorem mv_Mo_ahead : MV M_Mo_ahead := ⟨ws_3 239 rfl rfl, ws_4 0 rfl rfl⟩
theorem ok_Mo_puts : MOK 2 M_Mo_puts := ⟨ws_4 6 rfl rfl, ws_1 6 rfl rfl, by decide +kernel, by decide +kernel, by decide +kernel⟩
theorem mv_Mo_puts : MV M_Mo_puts := ⟨ws_4 5 rfl rfl, ws_pr 36 rfl rfl⟩
theorem ok_Mo_choir : MOK 1 M_Mo_choir := ⟨ws_4 10 rfl rfl, ws_1 6 rfl rfl, by decide +kernel, by decide +kernel, by decide +kernel⟩
theorem mv_Mo_choir : MV M_Mo_choir := ⟨ws_4 8 rfl rfl, ws_4 9 rfl rfl⟩
theorem ok_Mo_knows : MOK 2 M_Mo_knows := ⟨ws_4 14 rfl rfl, ws_1 6 rfl rfl, by decide +kernel, by decide +kernel, by decide +kernel⟩
theorem mv_Mo_knows : MV M_Mo_knows := ⟨ws_4 12 rfl rfl, ws_4 13 rfl rfl⟩
theorem ok_Mo_isTwo : MOK 1 M_Mo_isTwo := ⟨ws_4 17 rfl rfl, ws_1 6 rfl rfl, by decide +kernel, by decide +kernel, by decide +kernel⟩
theorem st_Mo_isTwo : Cond.static M_Mo_isTwo.2.2.2.2.2 ∈ WS := ws_4 16 rfl rfl
theorem ok_Mo_bits : MOK 1 M_Mo_bits := ⟨ws_4 20 rfl rfl, ws_1 6 rfl rfl, by decide +kernel, by decide +kernel, by decide +kernel⟩
theorem st_Mo_bits : Cond.static M_Mo_bits.2.2.2.2.2 ∈ WS := ws_4 19 rfl rfl
theorem ok_Mo_waits : MOK 1 M_Mo_waits := ⟨ws_4 24 rfl rfl, ws_1 6 rfl rfl, by decide +kernel, by decide +kernel, by decide +kernel⟩
theorem mv_Mo_waits : MV M_Mo_waits := ⟨ws_4 22 rfl rfl, ws_4 23 rfl rfl⟩
theorem ok_Mo_undo : MOK 0 M_Mo_undo := ⟨ws_4 29 rfl rfl, ws_1 6 rfl rfl, by decide +kernel, by decide +kernel, by decide +kernel⟩
theorem mv_Mo_undo : MV M_Mo_undo := ⟨ws_4 27 rfl rfl, ws_4 28 rfl rfl⟩
theorem ok_Mo_behind : MOK 2 M_Mo_behind := ⟨ws_4 33 rfl rfl, ws_1 6 rfl rfl, by decide +kernel, by decide +kernel, by decide +kernel⟩
theorem mv_Mo_behind : MV M_Mo_behind := ⟨ws_4 31 rfl rfl, ws_4 32 rfl rfl⟩
theorem ok_Mo_asNow : MOK 0 M_Mo_asNow := ⟨ws_4 38 rfl rfl, ws_1 6 rfl rfl, by decide +kernel, by decide +kernel, by decide +kernel⟩
theorem mv_Mo_asNow : MV M_Mo_asNow := ⟨ws_4 37 rfl rfl, ws_pr 37 rfl rfl⟩
theorem ok_Mo_go : MOK 1 M_Mo_go := ⟨ws_4 42 rfl rfl, ws_1 6 rfl rfl, by decide +kernel, by decide +kernel, by decide +kernel⟩
theorem mv_Mo_go : MV M_Mo_go := ⟨ws_4 41 rfl rfl, ws_pr 38 rfl rfl⟩
theorem ok_Mo_asleep : MOK 1 M_Mo_asleep := ⟨ws_4 46 rfl rfl, ws_1 6 rfl rfl, by decide +kernel, by decide +kernel, by decide +kernel⟩
theorem mv_Mo_asleep : MV M_Mo_asleep := ⟨ws_4 44 rfl rfl, ws_4 45 rfl rfl⟩
theorem ok_Mo_rest : MOK 0 M_Mo_rest := ⟨ws_4 51 rfl rfl, ws_1 6 rfl rfl, by decide +kernel, by decide +kernel, by decide +kernel⟩
theorem mv_Mo_rest : MV M_Mo_rest := ⟨ws_4 49 rfl rfl, ws_4 50 rfl rfl⟩
theorem ok_Mo_playAhead : MOK 2 M_Mo_playAhead := ⟨ws_4 55 rfl rfl, ws_1 6 rfl rfl, by decide +kernel, by decide +kernel, by decide +kernel⟩
theorem mv_Mo_playAhead : MV M_Mo_playAhead := ⟨ws_4 53 rfl rfl, ws_4 54 rfl rfl⟩
theorem ok_Mo_isSpan : MOK 1 M_Mo_isSpan := ⟨ws_4 58 rfl rfl, ws_1 6 rfl rfl, by decide +kernel, by decide +kernel, by decide +kernel⟩
theorem st_Mo_isSpan : Cond.static M_Mo_isSpan.2.2.2.2.2 ∈ WS := ws_4 57 rfl rfl
theorem ok_Mo_greatest : MOK 1 M_Mo_greatest := ⟨ws_4 63 rfl rfl, ws_1 6 rfl rfl, by decide +kernel, by decide +kernel, by decide +kernel⟩
theorem st_Mo_greatest : Cond.static M_Mo_greatest.2.2.2.2.2 ∈ WS := ws_4 62 rfl rfl
theorem ok_Mo_seat : MOK 2 M_Mo_seat := ⟨ws_4 67 rfl rfl, ws_1 6 rfl rfl, by decide +kernel, by decide +kernel, by decide +kernel⟩
theorem mv_Mo_seat : MV M_Mo_seat := ⟨ws_4 65 rfl rfl, ws_4 66 rfl rfl⟩
theorem ok_Mo_knowers : MOK 2 M_Mo_knowers := ⟨ws_4 71 rfl rfl, ws_1 6 rfl rfl, by decide +kernel, by decide +kernel, by decide +kernel⟩
theorem mv_Mo_knowers : MV M_Mo_knowers := ⟨ws_4 69 rfl rfl, ws_4 70 rfl rfl⟩
theorem ok_Mo_pulls : MOK 1 M_Mo_pulls := ⟨ws_4 76 rfl rfl, ws_1 6 rfl rfl, by decide +kernel, by decide +kernel, by decide +kernel⟩
theorem mv_Mo_pulls : MV M_Mo_pulls := ⟨ws_4 74 rfl rfl, ws_4 75 rfl rfl⟩
theorem ok_Mo_without : MOK 1 M_Mo_without := ⟨ws_4 80 rfl rfl, ws_1 6 rfl rfl, by decide +kernel, by decide +kernel, by decide +kernel⟩
theorem mv_Mo_without : MV M_Mo_without := ⟨ws_4 79 rfl rfl, ws_pr 39 rfl rfl⟩
theorem ok_Mo_change : MOK 1 M_Mo_change := ⟨ws_4 84 rfl rfl, ws_1 6 rfl rfl, by decide +kernel, by decide +kernel, by decide +kernel⟩
theorem mv_Mo_change : MV M_Mo_change := ⟨ws_4 82 rfl rfl, ws_4 83 rfl rfl⟩
theorem ok_Mo_gaps : MOK 1 M_Mo_gaps := ⟨ws_4 88 rfl rfl, ws_1 6 rfl rfl, by decide +kernel, by decide +kernel, by decide +kernel⟩
theorem mv_Mo_gaps : MV M_Mo_gaps := ⟨ws_4 86 rfl rfl, ws_4 87 rfl rfl⟩
theorem ok_Mo_hear : MOK 3 M_Mo_hear := ⟨ws_4 92 rfl rfl, ws_1 6 rfl rfl, by decide +kernel, by decide +kernel, by decide +kernel⟩
theorem mv_Mo_hear : MV M_Mo_hear := ⟨ws_4 90 rfl rfl, ws_4 91 rfl rfl⟩
theorem ok_Mo_forget : MOK 0 M_Mo_forget := ⟨ws_4 98 rfl rfl, ws_1 6 rfl rfl, by decide +kernel, by decide +kernel, by decide +kernel⟩
theorem mv_Mo_forget : MV M_Mo_forget := ⟨ws_4 96 rfl rfl, ws_4 97 rfl rfl⟩
theorem ok_Mo_waited : MOK 0 M_Mo_waited := ⟨ws_4 102 rfl rfl, ws_1 6 rfl rfl, by decide +kernel, by decide +kernel, by decide +kernel⟩
theorem mv_Mo_waited : MV M_Mo_waited := ⟨ws_4 100 rfl rfl, ws_4 101 rfl rfl⟩
theorem ok_Mo_isSo : MOK 1 M_Mo_isSo := ⟨ws_4 106 rfl rfl, ws_1 6 rfl rfl, by decide +kernel, by decide +kernel, by decide +kernel⟩
theorem mv_Mo_isSo : MV M_Mo_isSo := ⟨ws_4 105 rfl rfl, ws_pr 40 rfl rfl⟩
theorem ok_Mo_odds : MOK 5 M_Mo_odds := ⟨ws_4 110 rfl rfl, ws_1 6 rfl rfl, by decide +kernel, by decide +kernel, by decide +kernel⟩
theorem mv_Mo_odds : MV M_Mo_odds := ⟨ws_4 108 rfl rfl, ws_4 109 rfl rfl⟩
theorem ok_Mo_rate : MOK 2 M_Mo_rate := ⟨ws_4 115 rfl rfl, ws_1 6 rfl rfl, by decide +kernel, by decide +kernel, by decide +kernel⟩
theorem mv_Mo_rate : MV M_Mo_rate := ⟨ws_4 113 rfl rfl, ws_4 114 rfl rfl⟩
theorem ok_Mo_keep : MOK 1 M_Mo_keep := ⟨ws_4 124 rfl rfl, ws_1 6 rfl rfl, by decide +kernel, by decide +kernel, by decide +kernel⟩
theorem mv_Mo_keep : MV M_Mo_keep := ⟨ws_4 122 rfl rfl, ws_4 123 rfl rfl⟩
theorem ok_Mo_back : MOK 1 M_Mo_back := ⟨ws_4 128 rfl rfl, ws_1 6 rfl rfl, by decide +kernel, by decide +kernel, by decide +kernel⟩
theorem mv_Mo_back : MV M_Mo_back := ⟨ws_4 126 rfl rfl, ws_4 127 rfl rfl⟩
theorem ok_Mo_count : MOK 1 M_Mo_count := ⟨ws_4 132 rfl rfl, ws_1 6 rfl rfl, by decide +kernel, by decide +kernel, by decide +kernel⟩
theorem mv_Mo_count : MV M_Mo_count := ⟨ws_4 130 rfl rfl, ws_4 131 rfl rfl⟩
theorem ok_Mo_trace : MOK 0 M_Mo_trace := ⟨ws_4 136 rfl rfl, ws_1 6 rfl rfl, by decide +kernel, by decide +kernel, by decide +kernel⟩
theorem mv_Mo_trace : MV M_Mo_trace := ⟨ws_4 134 rfl rfl, ws_4 135 rfl rfl⟩
theorem ml_La_9 : Cond.methodLink RL 9 M_Bo_init.2.2.2.2.2 ∈ WS := ws_1 11 rfl rfl
theorem ml_Bo_1 : Cond.methodLink RX4 1 objectInit ∈ WS := ws_1 14 rfl rfl
theorem ml_Re_3 : Cond.methodLink RX2 3 objectInit ∈ WS := ws_1 22 rfl rfl
theorem ml_Bo_18 : Cond.methodLink RX4 18 M_Ch_init.2.2.2.2.2 ∈ WS := ws_1 55 rfl rfl
theorem ml_Ch_3 : Cond.methodLink RX0 3 objectInit ∈ WS := ws_1 58 rfl rfl
theorem ml_Ch_27 : Cond.methodLink RX0 27 M_Ch_empty.2.2.2.2.2 ∈ WS := ws_1 59 rfl rfl
theorem ml_Si_3 : Cond.methodLink RX3 3 objectInit ∈ WS := ws_1 112 rfl rfl
theorem ml_Bo_41 : Cond.methodLink RX4 41 M_Hi_init.2.2.2.2.2 ∈ WS := ws_1 151 rfl rfl
theorem ml_Hi_3 : Cond.methodLink RX1 3 objectInit ∈ WS := ws_1 154 rfl rfl
theorem ml_La_13 : Cond.methodLink RL 13 M_Bo_type.2.2.2.2.2 ∈ WS := ws_1 213 rfl rfl
theorem ml_Bo_64 : Cond.methodLink RX4 64 M_Bo_within.2.2.2.2.2 ∈ WS := ws_1 217 rfl rfl
theorem ml_Bo_69 : Cond.methodLink RX4 69 M_Re_add.2.2.2.2.2 ∈ WS := ws_1 221 rfl rfl
theorem ml_La_18 : Cond.methodLink RL 18 M_Bo_clear.2.2.2.2.2 ∈ WS := ws_1 226 rfl rfl
theorem ml_Bo_78 : Cond.methodLink RX4 78 M_Re_empty.2.2.2.2.2 ∈ WS := ws_1 230 rfl rfl
theorem ml_La_23 : Cond.methodLink RL 23 M_Bo_church.2.2.2.2.2 ∈ WS := ws_1 234 rfl rfl
theorem ml_Bo_82 : Cond.methodLink RX4 82 M_Re_readInto.2.2.2.2.2 ∈ WS := ws_1 238 rfl rfl
theorem ml_Re_19 : Cond.methodLink RX2 19 M_Ch_empty.2.2.2.2.2 ∈ WS := ws_2 2 rfl rfl
theorem ml_Re_37 : Cond.methodLink RX2 37 M_Re_readToken.2.2.2.2.2 ∈ WS := ws_2 3 rfl rfl
theorem ml_Re_101 : Cond.methodLink RX2 101 M_Re_isDigit.2.2.2.2.2 ∈ WS := ws_2 7 rfl rfl
theorem ml_Re_105 : Cond.methodLink RX2 105 M_Re_readDigits.2.2.2.2.2 ∈ WS := ws_2 10 rfl rfl
theorem ml_Re_43 : Cond.methodLink RX2 43 M_Re_readItem.2.2.2.2.2 ∈ WS := ws_2 14 rfl rfl
theorem ml_Re_53 : Cond.methodLink RX2 53 M_Re_readPew.2.2.2.2.2 ∈ WS := ws_2 18 rfl rfl
theorem ml_Re_69 : Cond.methodLink RX2 69 M_Re_readNumber.2.2.2.2.2 ∈ WS := ws_2 22 rfl rfl
theorem ml_Re_56 : Cond.methodLink RX2 56 M_Re_readItemEnd.2.2.2.2.2 ∈ WS := ws_2 27 rfl rfl
theorem ml_Re_60 : Cond.methodLink RX2 60 M_Re_readWait.2.2.2.2.2 ∈ WS := ws_2 31 rfl rfl
theorem ml_Re_63 : Cond.methodLink RX2 63 M_Re_readLines.2.2.2.2.2 ∈ WS := ws_2 35 rfl rfl
theorem ml_Re_66 : Cond.methodLink RX2 66 M_Re_readGap.2.2.2.2.2 ∈ WS := ws_2 39 rfl rfl
theorem ml_Bo_86 : Cond.methodLink RX4 86 M_Ch_copyFrom.2.2.2.2.2 ∈ WS := ws_2 43 rfl rfl
theorem ml_Ch_49 : Cond.methodLink RX0 49 M_Ch_copyPew.2.2.2.2.2 ∈ WS := ws_2 47 rfl rfl
theorem ml_Bo_90 : Cond.methodLink RX4 90 M_Bo_beginAnew.2.2.2.2.2 ∈ WS := ws_2 51 rfl rfl
theorem ml_Bo_96 : Cond.methodLink RX4 96 M_Si_begin.2.2.2.2.2 ∈ WS := ws_2 55 rfl rfl
theorem ml_La_27 : Cond.methodLink RL 27 M_Bo_pew.2.2.2.2.2 ∈ WS := ws_2 59 rfl rfl
theorem ml_Bo_106 : Cond.methodLink RX4 106 M_Ch_has.2.2.2.2.2 ∈ WS := ws_2 63 rfl rfl
theorem ml_Bo_124 : Cond.methodLink RX4 124 M_Ch_lag.2.2.2.2.2 ∈ WS := ws_2 67 rfl rfl
theorem ml_Bo_128 : Cond.methodLink RX4 128 M_Si_isKnower.2.2.2.2.2 ∈ WS := ws_2 71 rfl rfl
theorem ml_La_32 : Cond.methodLink RL 32 M_Bo_now.2.2.2.2.2 ∈ WS := ws_2 75 rfl rfl
theorem ml_Bo_149 : Cond.methodLink RX4 149 M_Si_apart.2.2.2.2.2 ∈ WS := ws_2 79 rfl rfl
theorem ml_Si_35 : Cond.methodLink RX3 35 M_Ma_max.2.2.2.2.2 ∈ WS := ws_2 83 rfl rfl
theorem ml_Si_41 : Cond.methodLink RX3 41 M_Ma_min.2.2.2.2.2 ∈ WS := ws_2 86 rfl rfl
theorem ml_La_36 : Cond.methodLink RL 36 M_Bo_line.2.2.2.2.2 ∈ WS := ws_2 89 rfl rfl
theorem ml_Bo_153 : Cond.methodLink RX4 153 M_Hi_remember.2.2.2.2.2 ∈ WS := ws_2 94 rfl rfl
theorem ml_Hi_22 : Cond.methodLink RX1 22 M_Si_copyFrom.2.2.2.2.2 ∈ WS := ws_2 98 rfl rfl
theorem ml_Hi_29 : Cond.methodLink RX1 29 M_Ma_min.2.2.2.2.2 ∈ WS := ws_2 102 rfl rfl
theorem ml_Bo_157 : Cond.methodLink RX4 157 M_Ch_singLine.2.2.2.2.2 ∈ WS := ws_2 103 rfl rfl
theorem ml_Ch_69 : Cond.methodLink RX0 69 M_Ch_lateBehindLine.2.2.2.2.2 ∈ WS := ws_2 107 rfl rfl
theorem ml_Ch_83 : Cond.methodLink RX0 83 M_Ch_lag.2.2.2.2.2 ∈ WS := ws_2 111 rfl rfl
theorem ml_Ch_89 : Cond.methodLink RX0 89 M_Ch_meanBeside.2.2.2.2.2 ∈ WS := ws_2 112 rfl rfl
theorem ml_Ch_53 : Cond.methodLink RX0 53 M_Ch_has.2.2.2.2.2 ∈ WS := ws_2 116 rfl rfl
theorem ml_Ch_101 : Cond.methodLink RX0 101 M_Ch_between.2.2.2.2.2 ∈ WS := ws_2 117 rfl rfl
theorem ml_Ch_43 : Cond.methodLink RX0 43 M_Ma_abs.2.2.2.2.2 ∈ WS := ws_2 121 rfl rfl
theorem ml_Ch_95 : Cond.methodLink RX0 95 M_Si_isKnower.2.2.2.2.2 ∈ WS := ws_2 127 rfl rfl
theorem ml_Ch_79 : Cond.methodLink RX0 79 M_Ma_min.2.2.2.2.2 ∈ WS := ws_2 128 rfl rfl
theorem ml_Ch_98 : Cond.methodLink RX0 98 M_Ma_max.2.2.2.2.2 ∈ WS := ws_2 129 rfl rfl
theorem ml_Ch_73 : Cond.methodLink RX0 73 M_Ch_waitFor.2.2.2.2.2 ∈ WS := ws_2 130 rfl rfl
theorem ml_La_40 : Cond.methodLink RL 40 M_Bo_verse.2.2.2.2.2 ∈ WS := ws_2 134 rfl rfl
theorem ml_Bo_163 : Cond.methodLink RX4 163 M_Ch_singLines.2.2.2.2.2 ∈ WS := ws_2 138 rfl rfl
theorem ml_Ch_57 : Cond.methodLink RX0 57 M_Ch_singLine.2.2.2.2.2 ∈ WS := ws_2 142 rfl rfl
theorem ml_Bo_170 : Cond.methodLink RX4 170 M_Bo_divided.2.2.2.2.2 ∈ WS := ws_2 143 rfl rfl
theorem ml_La_44 : Cond.methodLink RL 44 M_Bo_ahead.2.2.2.2.2 ∈ WS := ws_2 144 rfl rfl
theorem ml_La_48 : Cond.methodLink RL 48 M_Bo_choir.2.2.2.2.2 ∈ WS := ws_2 148 rfl rfl
theorem ml_La_52 : Cond.methodLink RL 52 M_Bo_knows.2.2.2.2.2 ∈ WS := ws_2 153 rfl rfl
theorem ml_Bo_178 : Cond.methodLink RX4 178 M_In_bitCount.2.2.2.2.2 ∈ WS := ws_2 157 rfl rfl
theorem ml_La_56 : Cond.methodLink RL 56 M_Bo_waits.2.2.2.2.2 ∈ WS := ws_2 163 rfl rfl
theorem ml_La_60 : Cond.methodLink RL 60 M_Bo_undo.2.2.2.2.2 ∈ WS := ws_2 167 rfl rfl
theorem ml_Bo_183 : Cond.methodLink RX4 183 M_Hi_takeBack.2.2.2.2.2 ∈ WS := ws_2 171 rfl rfl
theorem ml_La_64 : Cond.methodLink RL 64 M_Bo_behind.2.2.2.2.2 ∈ WS := ws_2 175 rfl rfl
theorem ml_Bo_186 : Cond.methodLink RX4 186 M_Si_copyFrom.2.2.2.2.2 ∈ WS := ws_2 179 rfl rfl
theorem ml_La_68 : Cond.methodLink RL 68 M_Bo_asleep.2.2.2.2.2 ∈ WS := ws_2 180 rfl rfl
theorem ml_La_72 : Cond.methodLink RL 72 M_Bo_rest.2.2.2.2.2 ∈ WS := ws_2 184 rfl rfl
theorem ml_Bo_188 : Cond.methodLink RX4 188 M_Si_isAsLateAs.2.2.2.2.2 ∈ WS := ws_2 188 rfl rfl
theorem ml_La_76 : Cond.methodLink RL 76 M_Bo_playAhead.2.2.2.2.2 ∈ WS := ws_2 192 rfl rfl
theorem ml_Bo_193 : Cond.methodLink RX4 193 M_Si_greatest.2.2.2.2.2 ∈ WS := ws_2 197 rfl rfl
theorem ml_Si_44 : Cond.methodLink RX3 44 M_Ma_abs.2.2.2.2.2 ∈ WS := ws_2 201 rfl rfl
theorem ml_La_80 : Cond.methodLink RL 80 M_Bo_seat.2.2.2.2.2 ∈ WS := ws_2 202 rfl rfl
theorem ml_Bo_196 : Cond.methodLink RX4 196 M_Bo_apartBySeat.2.2.2.2.2 ∈ WS := ws_2 206 rfl rfl
theorem ml_La_84 : Cond.methodLink RL 84 M_Bo_knowers.2.2.2.2.2 ∈ WS := ws_2 210 rfl rfl
theorem ml_Bo_199 : Cond.methodLink RX4 199 M_Bo_knowersOfSize.2.2.2.2.2 ∈ WS := ws_2 214 rfl rfl
theorem ml_La_88 : Cond.methodLink RL 88 M_Bo_pulls.2.2.2.2.2 ∈ WS := ws_2 218 rfl rfl
theorem ml_Bo_203 : Cond.methodLink RX4 203 M_Bo_paceWithout.2.2.2.2.2 ∈ WS := ws_2 222 rfl rfl
theorem ml_Bo_206 : Cond.methodLink RX4 206 M_Ch_leaveOut.2.2.2.2.2 ∈ WS := ws_2 226 rfl rfl
theorem ml_Bo_209 : Cond.methodLink RX4 209 M_Si_leaveOut.2.2.2.2.2 ∈ WS := ws_2 230 rfl rfl
theorem ml_La_92 : Cond.methodLink RL 92 M_Bo_change.2.2.2.2.2 ∈ WS := ws_2 235 rfl rfl
theorem ml_Bo_210 : Cond.methodLink RX4 210 M_Bo_apartByChange.2.2.2.2.2 ∈ WS := ws_2 239 rfl rfl
theorem ml_La_96 : Cond.methodLink RL 96 M_Bo_gaps.2.2.2.2.2 ∈ WS := ws_3 3 rfl rfl
theorem ml_La_100 : Cond.methodLink RL 100 M_Bo_hear.2.2.2.2.2 ∈ WS := ws_3 7 rfl rfl
theorem ml_La_105 : Cond.methodLink RL 105 M_Bo_forget.2.2.2.2.2 ∈ WS := ws_3 11 rfl rfl
theorem ml_La_109 : Cond.methodLink RL 109 M_Bo_waited.2.2.2.2.2 ∈ WS := ws_3 15 rfl rfl
theorem ml_Bo_213 : Cond.methodLink RX4 213 M_Bo_isAllHeardSo.2.2.2.2.2 ∈ WS := ws_3 19 rfl rfl
theorem ml_La_113 : Cond.methodLink RL 113 M_Bo_odds.2.2.2.2.2 ∈ WS := ws_3 23 rfl rfl
theorem ml_Bo_218 : Cond.methodLink RX4 218 M_Bo_apartByPlays.2.2.2.2.2 ∈ WS := ws_3 28 rfl rfl
theorem ml_Bo_221 : Cond.methodLink RX4 221 M_Bo_power.2.2.2.2.2 ∈ WS := ws_3 32 rfl rfl
theorem ml_Bo_225 : Cond.methodLink RX4 225 M_Bo_commonDivisor.2.2.2.2.2 ∈ WS := ws_3 35 rfl rfl
theorem ml_La_118 : Cond.methodLink RL 118 M_Bo_rate.2.2.2.2.2 ∈ WS := ws_3 38 rfl rfl
theorem ml_Bo_229 : Cond.methodLink RX4 229 M_Bo_rateFront.2.2.2.2.2 ∈ WS := ws_3 42 rfl rfl
theorem ml_Bo_244 : Cond.methodLink RX4 244 M_Bo_ratePew.2.2.2.2.2 ∈ WS := ws_3 47 rfl rfl
theorem ml_Bo_232 : Cond.methodLink RX4 232 M_Bo_rateBasses.2.2.2.2.2 ∈ WS := ws_3 51 rfl rfl
theorem ml_Bo_235 : Cond.methodLink RX4 235 M_Bo_rateWidows.2.2.2.2.2 ∈ WS := ws_3 56 rfl rfl
theorem ml_Bo_238 : Cond.methodLink RX4 238 M_Bo_rateBoys.2.2.2.2.2 ∈ WS := ws_3 61 rfl rfl
theorem ml_Bo_241 : Cond.methodLink RX4 241 M_Bo_rateStrangers.2.2.2.2.2 ∈ WS := ws_3 66 rfl rfl
theorem ml_La_122 : Cond.methodLink RL 122 M_Bo_keep.2.2.2.2.2 ∈ WS := ws_3 71 rfl rfl
theorem ml_La_126 : Cond.methodLink RL 126 M_Bo_back.2.2.2.2.2 ∈ WS := ws_3 75 rfl rfl
theorem ml_La_130 : Cond.methodLink RL 130 M_Bo_count.2.2.2.2.2 ∈ WS := ws_3 79 rfl rfl
theorem ml_La_134 : Cond.methodLink RL 134 M_Bo_trace.2.2.2.2.2 ∈ WS := ws_3 83 rfl rfl
theorem ml_La_12 : Cond.methodLink RL 12 M_Mo_init.2.2.2.2.2 ∈ WS := ws_3 89 rfl rfl
theorem ml_Mo_1 : Cond.methodLink RX5 1 objectInit ∈ WS := ws_3 92 rfl rfl
theorem ml_Mo_41 : Cond.methodLink RX5 41 M_Mo_clean.2.2.2.2.2 ∈ WS := ws_3 93 rfl rfl
theorem ml_La_17 : Cond.methodLink RL 17 M_Mo_type.2.2.2.2.2 ∈ WS := ws_3 148 rfl rfl
theorem ml_Mo_45 : Cond.methodLink RX5 45 M_Mo_in.2.2.2.2.2 ∈ WS := ws_3 153 rfl rfl
theorem ml_La_22 : Cond.methodLink RL 22 M_Mo_clear.2.2.2.2.2 ∈ WS := ws_3 158 rfl rfl
theorem ml_La_26 : Cond.methodLink RL 26 M_Mo_church.2.2.2.2.2 ∈ WS := ws_3 162 rfl rfl
theorem ml_Mo_63 : Cond.methodLink RX5 63 M_Mo_first.2.2.2.2.2 ∈ WS := ws_3 166 rfl rfl
theorem ml_Mo_88 : Cond.methodLink RX5 88 M_Mo_takesItem.2.2.2.2.2 ∈ WS := ws_3 170 rfl rfl
theorem ml_Mo_82 : Cond.methodLink RX5 82 M_Mo_takesPew.2.2.2.2.2 ∈ WS := ws_3 174 rfl rfl
theorem ml_Mo_71 : Cond.methodLink RX5 71 M_Mo_number.2.2.2.2.2 ∈ WS := ws_3 178 rfl rfl
theorem ml_Mo_75 : Cond.methodLink RX5 75 M_Mo_ends.2.2.2.2.2 ∈ WS := ws_3 184 rfl rfl
theorem ml_Mo_85 : Cond.methodLink RX5 85 M_Mo_takesOne.2.2.2.2.2 ∈ WS := ws_3 188 rfl rfl
theorem ml_Mo_92 : Cond.methodLink RX5 92 M_Mo_copies.2.2.2.2.2 ∈ WS := ws_3 192 rfl rfl
theorem ml_La_31 : Cond.methodLink RL 31 M_Mo_pew.2.2.2.2.2 ∈ WS := ws_3 195 rfl rfl
theorem ml_Mo_102 : Cond.methodLink RX5 102 M_Mo_isPew.2.2.2.2.2 ∈ WS := ws_3 199 rfl rfl
theorem ml_La_35 : Cond.methodLink RL 35 M_Mo_now.2.2.2.2.2 ∈ WS := ws_3 204 rfl rfl
theorem ml_Mo_108 : Cond.methodLink RX5 108 M_Mo_apart.2.2.2.2.2 ∈ WS := ws_3 209 rfl rfl
theorem ml_La_39 : Cond.methodLink RL 39 M_Mo_line.2.2.2.2.2 ∈ WS := ws_3 212 rfl rfl
theorem ml_Mo_121 : Cond.methodLink RX5 121 M_Mo_remember.2.2.2.2.2 ∈ WS := ws_3 217 rfl rfl
theorem ml_Mo_124 : Cond.methodLink RX5 124 M_Mo_sings.2.2.2.2.2 ∈ WS := ws_3 221 rfl rfl
theorem ml_Mo_116 : Cond.methodLink RX5 116 M_Mo_lateThen.2.2.2.2.2 ∈ WS := ws_3 225 rfl rfl
theorem ml_Mo_112 : Cond.methodLink RX5 112 M_Mo_from.2.2.2.2.2 ∈ WS := ws_3 228 rfl rfl
theorem ml_La_43 : Cond.methodLink RL 43 M_Mo_verse.2.2.2.2.2 ∈ WS := ws_3 231 rfl rfl
theorem ml_Mo_127 : Cond.methodLink RX5 127 M_Mo_rests.2.2.2.2.2 ∈ WS := ws_3 235 rfl rfl
theorem ml_La_47 : Cond.methodLink RL 47 M_Mo_ahead.2.2.2.2.2 ∈ WS := ws_3 238 rfl rfl
theorem ml_Mo_133 : Cond.methodLink RX5 133 M_Mo_puts.2.2.2.2.2 ∈ WS := ws_4 3 rfl rfl
theorem ml_La_51 : Cond.methodLink RL 51 M_Mo_choir.2.2.2.2.2 ∈ WS := ws_4 7 rfl rfl
theorem ml_La_55 : Cond.methodLink RL 55 M_Mo_knows.2.2.2.2.2 ∈ WS := ws_4 11 rfl rfl
theorem ml_Mo_137 : Cond.methodLink RX5 137 M_Mo_isTwo.2.2.2.2.2 ∈ WS := ws_4 15 rfl rfl
theorem ml_Mo_140 : Cond.methodLink RX5 140 M_Mo_bits.2.2.2.2.2 ∈ WS := ws_4 18 rfl rfl
theorem ml_La_59 : Cond.methodLink RL 59 M_Mo_waits.2.2.2.2.2 ∈ WS := ws_4 21 rfl rfl
theorem ml_La_63 : Cond.methodLink RL 63 M_Mo_undo.2.2.2.2.2 ∈ WS := ws_4 26 rfl rfl
theorem ml_La_67 : Cond.methodLink RL 67 M_Mo_behind.2.2.2.2.2 ∈ WS := ws_4 30 rfl rfl
theorem ml_Mo_148 : Cond.methodLink RX5 148 M_Mo_asNow.2.2.2.2.2 ∈ WS := ws_4 35 rfl rfl
theorem ml_Mo_151 : Cond.methodLink RX5 151 M_Mo_go.2.2.2.2.2 ∈ WS := ws_4 39 rfl rfl
theorem ml_La_71 : Cond.methodLink RL 71 M_Mo_asleep.2.2.2.2.2 ∈ WS := ws_4 43 rfl rfl
theorem ml_La_75 : Cond.methodLink RL 75 M_Mo_rest.2.2.2.2.2 ∈ WS := ws_4 48 rfl rfl
theorem ml_La_79 : Cond.methodLink RL 79 M_Mo_playAhead.2.2.2.2.2 ∈ WS := ws_4 52 rfl rfl
theorem ml_Mo_159 : Cond.methodLink RX5 159 M_Mo_isSpan.2.2.2.2.2 ∈ WS := ws_4 56 rfl rfl
theorem ml_Mo_163 : Cond.methodLink RX5 163 M_Mo_greatest.2.2.2.2.2 ∈ WS := ws_4 61 rfl rfl
theorem ml_La_83 : Cond.methodLink RL 83 M_Mo_seat.2.2.2.2.2 ∈ WS := ws_4 64 rfl rfl
theorem ml_La_87 : Cond.methodLink RL 87 M_Mo_knowers.2.2.2.2.2 ∈ WS := ws_4 68 rfl rfl
theorem ml_La_91 : Cond.methodLink RL 91 M_Mo_pulls.2.2.2.2.2 ∈ WS := ws_4 73 rfl rfl
theorem ml_Mo_168 : Cond.methodLink RX5 168 M_Mo_without.2.2.2.2.2 ∈ WS := ws_4 77 rfl rfl
theorem ml_La_95 : Cond.methodLink RL 95 M_Mo_change.2.2.2.2.2 ∈ WS := ws_4 81 rfl rfl
theorem ml_La_99 : Cond.methodLink RL 99 M_Mo_gaps.2.2.2.2.2 ∈ WS := ws_4 85 rfl rfl
theorem ml_La_104 : Cond.methodLink RL 104 M_Mo_hear.2.2.2.2.2 ∈ WS := ws_4 89 rfl rfl
theorem ml_La_108 : Cond.methodLink RL 108 M_Mo_forget.2.2.2.2.2 ∈ WS := ws_4 95 rfl rfl
theorem ml_La_112 : Cond.methodLink RL 112 M_Mo_waited.2.2.2.2.2 ∈ WS := ws_4 99 rfl rfl
theorem ml_Mo_175 : Cond.methodLink RX5 175 M_Mo_isSo.2.2.2.2.2 ∈ WS := ws_4 103 rfl rfl
theorem ml_La_117 : Cond.methodLink RL 117 M_Mo_odds.2.2.2.2.2 ∈ WS := ws_4 107 rfl rfl
theorem ml_La_121 : Cond.methodLink RL 121 M_Mo_rate.2.2.2.2.2 ∈ WS := ws_4 112 rfl rfl
theorem ml_La_125 : Cond.methodLink RL 125 M_Mo_keep.2.2.2.2.2 ∈ WS := ws_4 121 rfl rfl
theorem ml_La_129 : Cond.methodLink RL 129 M_Mo_back.2.2.2.2.2 ∈ WS := ws_4 125 rfl rfl
theorem ml_La_133 : Cond.methodLink RL 133 M_Mo_count.2.2.2.2.2 ∈ WS := ws_4 129 rfl rfl
theorem ml_La_138 : Cond.methodLink RL 138 M_Mo_trace.2.2.2.2.2 ∈ WS := ws_4 133 rfl rfl
theorem nl_Bo_9 : Cond.methodLinkNest RX4 9 M_Re_init.2.2.2.2.2 "BehindOrgan" ∈ tables_1 := List.mem_of_getElem? (i := 19) rfl
theorem nl_Bo_28 : Cond.methodLinkNest RX4 28 M_Si_init.2.2.2.2.2 "BehindOrgan" ∈ tables_1 := List.mem_of_getElem? (i := 109) rfl
theorem nl_Hi_17 : Cond.methodLinkNest RX1 17 M_Si_init.2.2.2.2.2 "BehindOrgan" ∈ tables_1 := List.mem_of_getElem? (i := 157) rfl
theorem nl_Re_97 : Cond.methodLinkNest RX2 97 M_Bo_within.2.2.2.2.2 "BehindOrgan" ∈ tables_1 := List.mem_of_getElem? (i := 266) rfl
theorem nl_Ch_92 : Cond.methodLinkNest RX0 92 M_Bo_divided.2.2.2.2.2 "BehindOrgan" ∈ tables_1 := List.mem_of_getElem? (i := 364) rfl
theorem nl_Si_48 : Cond.methodLinkNest RX3 48 M_Bo_within.2.2.2.2.2 "BehindOrgan" ∈ tables_1 := List.mem_of_getElem? (i := 474) rfl
theorem fl_Re_9 : FL RX2 9 2 0 := ⟨(RX2, TX2, 9), rfl, by decide, ws_1 23 rfl rfl⟩
theorem fl_Re_15 : FL RX2 15 2 1 := ⟨(RX2, TX2, 9), rfl, by decide, ws_1 24 rfl rfl⟩
theorem fl_Bo_73 : FL RX4 73 2 1 := ⟨(RX2, TX2, 9), rfl, by decide, ws_1 25 rfl rfl⟩
theorem fl_Re_40 : FL RX2 40 2 2 := ⟨(RX2, TX2, 9), rfl, by decide, ws_1 26 rfl rfl⟩
theorem fl_Re_47 : FL RX2 47 2 3 := ⟨(RX2, TX2, 9), rfl, by decide, ws_1 27 rfl rfl⟩
theorem fl_Re_76 : FL RX2 76 2 4 := ⟨(RX2, TX2, 9), rfl, by decide, ws_1 28 rfl rfl⟩
theorem fl_Re_24 : FL RX2 24 2 5 := ⟨(RX2, TX2, 9), rfl, by decide, ws_1 29 rfl rfl⟩
theorem fl_Re_27 : FL RX2 27 2 6 := ⟨(RX2, TX2, 9), rfl, by decide, ws_1 30 rfl rfl⟩
theorem fl_Re_31 : FL RX2 31 2 7 := ⟨(RX2, TX2, 9), rfl, by decide, ws_1 31 rfl rfl⟩
theorem fl_Re_34 : FL RX2 34 2 8 := ⟨(RX2, TX2, 9), rfl, by decide, ws_1 32 rfl rfl⟩
theorem fl_Ch_9 : FL RX0 9 0 0 := ⟨(RX0, TX0, 9), rfl, by decide, ws_1 63 rfl rfl⟩
theorem fl_Re_73 : FL RX2 73 0 0 := ⟨(RX0, TX0, 9), rfl, by decide, ws_1 64 rfl rfl⟩
theorem fl_Bo_109 : FL RX4 109 0 0 := ⟨(RX0, TX0, 9), rfl, by decide, ws_1 65 rfl rfl⟩
theorem fl_Ch_15 : FL RX0 15 0 1 := ⟨(RX0, TX0, 9), rfl, by decide, ws_1 66 rfl rfl⟩
theorem fl_Re_79 : FL RX2 79 0 1 := ⟨(RX0, TX0, 9), rfl, by decide, ws_1 67 rfl rfl⟩
theorem fl_Bo_112 : FL RX4 112 0 1 := ⟨(RX0, TX0, 9), rfl, by decide, ws_1 68 rfl rfl⟩
theorem fl_Ch_18 : FL RX0 18 0 2 := ⟨(RX0, TX0, 9), rfl, by decide, ws_1 69 rfl rfl⟩
theorem fl_Re_82 : FL RX2 82 0 2 := ⟨(RX0, TX0, 9), rfl, by decide, ws_1 70 rfl rfl⟩
theorem fl_Bo_115 : FL RX4 115 0 2 := ⟨(RX0, TX0, 9), rfl, by decide, ws_1 71 rfl rfl⟩
theorem fl_Ch_21 : FL RX0 21 0 3 := ⟨(RX0, TX0, 9), rfl, by decide, ws_1 72 rfl rfl⟩
theorem fl_Re_85 : FL RX2 85 0 3 := ⟨(RX0, TX0, 9), rfl, by decide, ws_1 73 rfl rfl⟩
theorem fl_Bo_118 : FL RX4 118 0 3 := ⟨(RX0, TX0, 9), rfl, by decide, ws_1 74 rfl rfl⟩
theorem fl_Ch_30 : FL RX0 30 0 4 := ⟨(RX0, TX0, 9), rfl, by decide, ws_1 75 rfl rfl⟩
theorem fl_Re_50 : FL RX2 50 0 4 := ⟨(RX0, TX0, 9), rfl, by decide, ws_1 76 rfl rfl⟩
theorem fl_Bo_146 : FL RX4 146 0 4 := ⟨(RX0, TX0, 9), rfl, by decide, ws_1 77 rfl rfl⟩
theorem fl_Ch_34 : FL RX0 34 0 5 := ⟨(RX0, TX0, 9), rfl, by decide, ws_1 78 rfl rfl⟩
theorem fl_Bo_93 : FL RX4 93 0 5 := ⟨(RX0, TX0, 9), rfl, by decide, ws_1 79 rfl rfl⟩
theorem fl_Re_88 : FL RX2 88 0 5 := ⟨(RX0, TX0, 9), rfl, by decide, ws_1 80 rfl rfl⟩
theorem fl_Ch_37 : FL RX0 37 0 6 := ⟨(RX0, TX0, 9), rfl, by decide, ws_1 81 rfl rfl⟩
theorem fl_Re_91 : FL RX2 91 0 6 := ⟨(RX0, TX0, 9), rfl, by decide, ws_1 82 rfl rfl⟩
theorem fl_Bo_160 : FL RX4 160 0 6 := ⟨(RX0, TX0, 9), rfl, by decide, ws_1 83 rfl rfl⟩
theorem fl_Ch_40 : FL RX0 40 0 7 := ⟨(RX0, TX0, 9), rfl, by decide, ws_1 84 rfl rfl⟩
theorem fl_Re_94 : FL RX2 94 0 7 := ⟨(RX0, TX0, 9), rfl, by decide, ws_1 85 rfl rfl⟩
theorem fl_Bo_167 : FL RX4 167 0 7 := ⟨(RX0, TX0, 9), rfl, by decide, ws_1 86 rfl rfl⟩
theorem fl_Ch_24 : FL RX0 24 0 8 := ⟨(RX0, TX0, 9), rfl, by decide, ws_1 87 rfl rfl⟩
theorem fl_Si_9 : FL RX3 9 3 0 := ⟨(RX3, TX3, 7), rfl, by decide, ws_1 114 rfl rfl⟩
theorem fl_Bo_121 : FL RX4 121 3 0 := ⟨(RX3, TX3, 7), rfl, by decide, ws_1 115 rfl rfl⟩
theorem fl_Ch_61 : FL RX0 61 3 0 := ⟨(RX3, TX3, 7), rfl, by decide, ws_1 116 rfl rfl⟩
theorem fl_Si_20 : FL RX3 20 3 1 := ⟨(RX3, TX3, 7), rfl, by decide, ws_1 117 rfl rfl⟩
theorem fl_Bo_137 : FL RX4 137 3 1 := ⟨(RX3, TX3, 7), rfl, by decide, ws_1 118 rfl rfl⟩
theorem fl_Ch_86 : FL RX0 86 3 1 := ⟨(RX3, TX3, 7), rfl, by decide, ws_1 119 rfl rfl⟩
theorem fl_Si_16 : FL RX3 16 3 2 := ⟨(RX3, TX3, 7), rfl, by decide, ws_1 120 rfl rfl⟩
theorem fl_Bo_140 : FL RX4 140 3 2 := ⟨(RX3, TX3, 7), rfl, by decide, ws_1 121 rfl rfl⟩
theorem fl_Ch_66 : FL RX0 66 3 2 := ⟨(RX3, TX3, 7), rfl, by decide, ws_1 122 rfl rfl⟩
theorem fl_Si_23 : FL RX3 23 3 3 := ⟨(RX3, TX3, 7), rfl, by decide, ws_1 123 rfl rfl⟩
theorem fl_Bo_175 : FL RX4 175 3 3 := ⟨(RX3, TX3, 7), rfl, by decide, ws_1 124 rfl rfl⟩
theorem fl_Si_26 : FL RX3 26 3 4 := ⟨(RX3, TX3, 7), rfl, by decide, ws_1 125 rfl rfl⟩
theorem fl_Bo_143 : FL RX4 143 3 4 := ⟨(RX3, TX3, 7), rfl, by decide, ws_1 126 rfl rfl⟩
theorem fl_Ch_104 : FL RX0 104 3 4 := ⟨(RX3, TX3, 7), rfl, by decide, ws_1 127 rfl rfl⟩
theorem fl_Si_29 : FL RX3 29 3 5 := ⟨(RX3, TX3, 7), rfl, by decide, ws_1 128 rfl rfl⟩
theorem fl_Bo_134 : FL RX4 134 3 5 := ⟨(RX3, TX3, 7), rfl, by decide, ws_1 129 rfl rfl⟩
theorem fl_Ch_107 : FL RX0 107 3 5 := ⟨(RX3, TX3, 7), rfl, by decide, ws_1 130 rfl rfl⟩
theorem fl_Si_32 : FL RX3 32 3 6 := ⟨(RX3, TX3, 7), rfl, by decide, ws_1 131 rfl rfl⟩
theorem fl_Bo_131 : FL RX4 131 3 6 := ⟨(RX3, TX3, 7), rfl, by decide, ws_1 132 rfl rfl⟩
theorem fl_Ch_76 : FL RX0 76 3 6 := ⟨(RX3, TX3, 7), rfl, by decide, ws_1 133 rfl rfl⟩
theorem fl_Hi_11 : FL RX1 11 1 0 := ⟨(RX1, TX1, 3), rfl, by decide, ws_1 158 rfl rfl⟩
theorem fl_Hi_18 : FL RX1 18 1 1 := ⟨(RX1, TX1, 3), rfl, by decide, ws_1 159 rfl rfl⟩
theorem fl_Hi_26 : FL RX1 26 1 2 := ⟨(RX1, TX1, 3), rfl, by decide, ws_1 160 rfl rfl⟩
theorem fl_Bo_100 : FL RX4 100 1 2 := ⟨(RX1, TX1, 3), rfl, by decide, ws_1 161 rfl rfl⟩
theorem fl_Bo_10 : FL RX4 10 4 0 := ⟨(RX4, TX4, 14), rfl, by decide, ws_1 169 rfl rfl⟩
theorem fl_Bo_19 : FL RX4 19 4 1 := ⟨(RX4, TX4, 14), rfl, by decide, ws_1 170 rfl rfl⟩
theorem fl_Bo_23 : FL RX4 23 4 2 := ⟨(RX4, TX4, 14), rfl, by decide, ws_1 171 rfl rfl⟩
theorem fl_Bo_29 : FL RX4 29 4 3 := ⟨(RX4, TX4, 14), rfl, by decide, ws_1 172 rfl rfl⟩
theorem fl_Bo_33 : FL RX4 33 4 4 := ⟨(RX4, TX4, 14), rfl, by decide, ws_1 173 rfl rfl⟩
theorem fl_Bo_36 : FL RX4 36 4 5 := ⟨(RX4, TX4, 14), rfl, by decide, ws_1 174 rfl rfl⟩
theorem fl_Bo_42 : FL RX4 42 4 6 := ⟨(RX4, TX4, 14), rfl, by decide, ws_1 175 rfl rfl⟩
theorem fl_Bo_46 : FL RX4 46 4 7 := ⟨(RX4, TX4, 14), rfl, by decide, ws_1 176 rfl rfl⟩
theorem fl_Bo_50 : FL RX4 50 4 8 := ⟨(RX4, TX4, 14), rfl, by decide, ws_1 177 rfl rfl⟩
theorem fl_Bo_54 : FL RX4 54 4 9 := ⟨(RX4, TX4, 14), rfl, by decide, ws_1 178 rfl rfl⟩
theorem fl_Bo_58 : FL RX4 58 4 10 := ⟨(RX4, TX4, 14), rfl, by decide, ws_1 179 rfl rfl⟩
theorem fl_Bo_61 : FL RX4 61 4 11 := ⟨(RX4, TX4, 14), rfl, by decide, ws_1 180 rfl rfl⟩
theorem fl_Bo_103 : FL RX4 103 4 12 := ⟨(RX4, TX4, 14), rfl, by decide, ws_1 181 rfl rfl⟩
theorem fl_Bo_247 : FL RX4 247 4 13 := ⟨(RX4, TX4, 14), rfl, by decide, ws_1 182 rfl rfl⟩
theorem fl_Mo_7 : FL RX5 7 5 0 := ⟨(RX5, TX5, 17), rfl, by decide, ws_3 96 rfl rfl⟩
theorem fl_Mo_13 : FL RX5 13 5 1 := ⟨(RX5, TX5, 17), rfl, by decide, ws_3 97 rfl rfl⟩
theorem fl_Mo_96 : FL RX5 96 5 2 := ⟨(RX5, TX5, 17), rfl, by decide, ws_3 98 rfl rfl⟩
theorem fl_Mo_16 : FL RX5 16 5 3 := ⟨(RX5, TX5, 17), rfl, by decide, ws_3 99 rfl rfl⟩
theorem fl_Mo_19 : FL RX5 19 5 4 := ⟨(RX5, TX5, 17), rfl, by decide, ws_3 100 rfl rfl⟩
theorem fl_Mo_23 : FL RX5 23 5 5 := ⟨(RX5, TX5, 17), rfl, by decide, ws_3 101 rfl rfl⟩
theorem fl_Mo_52 : FL RX5 52 5 6 := ⟨(RX5, TX5, 17), rfl, by decide, ws_3 102 rfl rfl⟩
theorem fl_Mo_26 : FL RX5 26 5 7 := ⟨(RX5, TX5, 17), rfl, by decide, ws_3 103 rfl rfl⟩
theorem fl_Mo_99 : FL RX5 99 5 8 := ⟨(RX5, TX5, 17), rfl, by decide, ws_3 104 rfl rfl⟩
theorem fl_Mo_182 : FL RX5 182 5 9 := ⟨(RX5, TX5, 17), rfl, by decide, ws_3 105 rfl rfl⟩
theorem fl_Mo_29 : FL RX5 29 5 10 := ⟨(RX5, TX5, 17), rfl, by decide, ws_3 106 rfl rfl⟩
theorem fl_Mo_57 : FL RX5 57 5 11 := ⟨(RX5, TX5, 17), rfl, by decide, ws_3 107 rfl rfl⟩
theorem fl_Mo_60 : FL RX5 60 5 12 := ⟨(RX5, TX5, 17), rfl, by decide, ws_3 108 rfl rfl⟩
theorem fl_Mo_79 : FL RX5 79 5 13 := ⟨(RX5, TX5, 17), rfl, by decide, ws_3 109 rfl rfl⟩
theorem fl_Mo_32 : FL RX5 32 5 14 := ⟨(RX5, TX5, 17), rfl, by decide, ws_3 110 rfl rfl⟩
theorem fl_Mo_35 : FL RX5 35 5 15 := ⟨(RX5, TX5, 17), rfl, by decide, ws_3 111 rfl rfl⟩
theorem fl_Mo_38 : FL RX5 38 5 16 := ⟨(RX5, TX5, 17), rfl, by decide, ws_3 112 rfl rfl⟩
theorem kc_Si_15 : Cond.constant RX3 15 (-1000009) ∈ WS := ws_1 113 rfl rfl
theorem kc_Bo_68 : Cond.constant RX4 68 (-1000001) ∈ WS := ws_1 220 rfl rfl
theorem kc_Bo_77 : Cond.constant RX4 77 (-1000003) ∈ WS := ws_1 225 rfl rfl
theorem kc_Bo_152 : Cond.constant RX4 152 (-1000002) ∈ WS := ws_2 93 rfl rfl
theorem kc_Bo_174 : Cond.constant RX4 174 (-1000009) ∈ WS := ws_2 152 rfl rfl
theorem kc_In_265 : Cond.constant RJ6 265 (1431655765) ∈ WS := ws_2 160 rfl rfl
theorem kc_In_266 : Cond.constant RJ6 266 (858993459) ∈ WS := ws_2 161 rfl rfl
theorem kc_In_267 : Cond.constant RJ6 267 (252645135) ∈ WS := ws_2 162 rfl rfl
theorem kc_Bo_192 : Cond.constant RX4 192 (2147483647) ∈ WS := ws_2 196 rfl rfl
theorem kc_Mo_51 : Cond.constant RX5 51 (-1000001) ∈ WS := ws_3 156 rfl rfl
theorem kc_Mo_56 : Cond.constant RX5 56 (-1000003) ∈ WS := ws_3 157 rfl rfl
theorem kc_Mo_107 : Cond.constant RX5 107 (-1000009) ∈ WS := ws_3 208 rfl rfl
theorem kc_Mo_120 : Cond.constant RX5 120 (-1000002) ∈ WS := ws_3 216 rfl rfl
theorem kc_Mo_162 : Cond.constant RX5 162 (1000000) ∈ WS := ws_4 60 rfl rfl
theorem kl_Bo_216 : Cond.constantLong RX4 216 (-1000001) ∈ WS := ws_3 27 rfl rfl
theorem kl_Bo_251 : Cond.constantLong RX4 251 (10) ∈ WS := ws_3 46 rfl rfl
theorem kl_Bo_253 : Cond.constantLong RX4 253 (100) ∈ WS := ws_3 55 rfl rfl
theorem kl_Bo_255 : Cond.constantLong RX4 255 (1000) ∈ WS := ws_3 60 rfl rfl
theorem kl_Bo_257 : Cond.constantLong RX4 257 (10000) ∈ WS := ws_3 65 rfl rfl
theorem kl_Bo_259 : Cond.constantLong RX4 259 (100000) ∈ WS := ws_3 70 rfl rfl
theorem kl_Mo_49 : Cond.constantLong RX5 49 (255) ∈ WS := ws_3 152 rfl rfl
theorem kl_Mo_67 : Cond.constantLong RX5 67 (48) ∈ WS := ws_3 182 rfl rfl
theorem kl_Mo_69 : Cond.constantLong RX5 69 (57) ∈ WS := ws_3 183 rfl rfl
theorem kl_Mo_105 : Cond.constantLong RX5 105 (6) ∈ WS := ws_3 203 rfl rfl
theorem kl_Mo_131 : Cond.constantLong RX5 131 (20) ∈ WS := ws_4 2 rfl rfl
theorem kl_Mo_144 : Cond.constantLong RX5 144 (10) ∈ WS := ws_4 25 rfl rfl
theorem kl_Mo_146 : Cond.constantLong RX5 146 (60) ∈ WS := ws_4 34 rfl rfl
theorem kl_Mo_155 : Cond.constantLong RX5 155 (9999) ∈ WS := ws_4 47 rfl rfl
theorem kl_Mo_157 : Cond.constantLong RX5 157 (30) ∈ WS := ws_4 59 rfl rfl
theorem kl_Mo_166 : Cond.constantLong RX5 166 (99) ∈ WS := ws_4 72 rfl rfl
theorem kl_Mo_171 : Cond.constantLong RX5 171 (-99) ∈ WS := ws_4 93 rfl rfl
theorem kl_Mo_173 : Cond.constantLong RX5 173 (999) ∈ WS := ws_4 94 rfl rfl
theorem kl_Mo_178 : Cond.constantLong RX5 178 (-1000001) ∈ WS := ws_4 111 rfl rfl
theorem kl_Mo_180 : Cond.constantLong RX5 180 (5) ∈ WS := ws_4 116 rfl rfl
theorem kl_Mo_186 : Cond.constantLong RX5 186 (100) ∈ WS := ws_4 117 rfl rfl
theorem kl_Mo_188 : Cond.constantLong RX5 188 (1010) ∈ WS := ws_4 118 rfl rfl
theorem kl_Mo_190 : Cond.constantLong RX5 190 (10100) ∈ WS := ws_4 119 rfl rfl
theorem kl_Mo_192 : Cond.constantLong RX5 192 (100000) ∈ WS := ws_4 120 rfl rfl
theorem cl_La_7 : Cond.classLink RL 7 RX4 ∈ WS := ws_1 9 rfl rfl
theorem cl_Bo_7 : Cond.classLink RX4 7 RX2 ∈ WS := ws_1 17 rfl rfl
theorem cl_Bo_16 : Cond.classLink RX4 16 RX0 ∈ WS := ws_1 53 rfl rfl
theorem cl_Bo_26 : Cond.classLink RX4 26 RX3 ∈ WS := ws_1 107 rfl rfl
theorem cl_Bo_39 : Cond.classLink RX4 39 RX1 ∈ WS := ws_1 149 rfl rfl
theorem cl_Hi_9 : Cond.classLink RX1 9 RX3 ∈ WS := ws_1 155 rfl rfl
theorem cl_La_10 : Cond.classLink RL 10 RX5 ∈ WS := ws_3 87 rfl rfl
theorem in_Bo : Cond.instantiable RX4 14 ∈ WS := ws_1 10 rfl rfl
theorem in_Re : Cond.instantiable RX2 9 ∈ WS := ws_1 18 rfl rfl
theorem in_Ch : Cond.instantiable RX0 9 ∈ WS := ws_1 54 rfl rfl
theorem in_Si : Cond.instantiable RX3 7 ∈ WS := ws_1 108 rfl rfl
theorem in_Hi : Cond.instantiable RX1 3 ∈ WS := ws_1 150 rfl rfl
theorem in_Mo : Cond.instantiable RX5 17 ∈ WS := ws_3 88 rfl rfl
theorem ii_La : Cond.initialized RL ∈ WS := ws_1 0 rfl rfl
theorem ii_Bo : Cond.initialized RX4 ∈ WS := ws_1 1 rfl rfl
theorem ii_Re : Cond.initialized RX2 ∈ WS := ws_1 2 rfl rfl
theorem ii_Ch : Cond.initialized RX0 ∈ WS := ws_1 3 rfl rfl
theorem ii_Si : Cond.initialized RX3 ∈ WS := ws_1 4 rfl rfl
theorem ii_Hi : Cond.initialized RX1 ∈ WS := ws_1 5 rfl rfl
theorem ii_Mo : Cond.initialized RX5 ∈ WS := ws_1 6 rfl rfl
theorem ii_Ma : Cond.initialized RJ9 ∈ WS := ws_1 7 rfl rfl
theorem ii_In : Cond.initialized RJ6 ∈ WS := ws_1 8 rfl rfl
end
section
theorem d_Ch_init_0 : decode M_Ch_init.1 0 = .ok (.aload_n 0, 1) := by decide +kernel
theorem d_Ch_init_1 : decode M_Ch_init.1 1 = .ok (.invokespecial 3, 3) := by decide +kernel
theorem d_Ch_init_4 : decode M_Ch_init.1 4 = .ok (.aload_n 0, 1) := by decide +kernel
theorem d_Ch_init_5 : decode M_Ch_init.1 5 = .ok (.bipush 6, 2) := by decide +kernel
theorem d_Ch_init_7 : decode M_Ch_init.1 7 = .ok (.newarray .int, 2) := by decide +kernel
theorem d_Ch_init_9 : decode M_Ch_init.1 9 = .ok (.putfield 9, 3) := by decide +kernel
theorem d_Ch_init_12 : decode M_Ch_init.1 12 = .ok (.aload_n 0, 1) := by decide +kernel
theorem d_Ch_init_13 : decode M_Ch_init.1 13 = .ok (.bipush 6, 2) := by decide +kernel
theorem d_Ch_init_15 : decode M_Ch_init.1 15 = .ok (.newarray .int, 2) := by decide +kernel
theorem d_Ch_init_17 : decode M_Ch_init.1 17 = .ok (.putfield 15, 3) := by decide +kernel
theorem d_Ch_init_20 : decode M_Ch_init.1 20 = .ok (.aload_n 0, 1) := by decide +kernel
theorem d_Ch_init_21 : decode M_Ch_init.1 21 = .ok (.bipush 6, 2) := by decide +kernel
theorem d_Ch_init_23 : decode M_Ch_init.1 23 = .ok (.newarray .int, 2) := by decide +kernel
theorem d_Ch_init_25 : decode M_Ch_init.1 25 = .ok (.putfield 18, 3) := by decide +kernel
theorem d_Ch_init_28 : decode M_Ch_init.1 28 = .ok (.aload_n 0, 1) := by decide +kernel
theorem d_Ch_init_29 : decode M_Ch_init.1 29 = .ok (.bipush 6, 2) := by decide +kernel
theorem d_Ch_init_31 : decode M_Ch_init.1 31 = .ok (.newarray .int, 2) := by decide +kernel
theorem d_Ch_init_33 : decode M_Ch_init.1 33 = .ok (.putfield 21, 3) := by decide +kernel
theorem d_Ch_init_36 : decode M_Ch_init.1 36 = .ok (.aload_n 0, 1) := by decide +kernel
theorem d_Ch_init_37 : decode M_Ch_init.1 37 = .ok (.bipush 6, 2) := by decide +kernel
theorem d_Ch_init_39 : decode M_Ch_init.1 39 = .ok (.newarray .int, 2) := by decide +kernel
theorem d_Ch_init_41 : decode M_Ch_init.1 41 = .ok (.putfield 24, 3) := by decide +kernel
theorem d_Ch_init_44 : decode M_Ch_init.1 44 = .ok (.aload_n 0, 1) := by decide +kernel
theorem d_Ch_init_45 : decode M_Ch_init.1 45 = .ok (.invokevirtual 27, 3) := by decide +kernel
theorem d_Ch_init_48 : decode M_Ch_init.1 48 = .ok (.return_, 1) := by decide +kernel
theorem d_Ch_empty_0 : decode M_Ch_empty.1 0 = .ok (.aload_n 0, 1) := by decide +kernel
theorem d_Ch_empty_1 : decode M_Ch_empty.1 1 = .ok (.iconst 0, 1) := by decide +kernel
theorem d_Ch_empty_2 : decode M_Ch_empty.1 2 = .ok (.putfield 30, 3) := by decide +kernel
theorem d_Ch_empty_5 : decode M_Ch_empty.1 5 = .ok (.aload_n 0, 1) := by decide +kernel
theorem d_Ch_empty_6 : decode M_Ch_empty.1 6 = .ok (.iconst 0, 1) := by decide +kernel
theorem d_Ch_empty_7 : decode M_Ch_empty.1 7 = .ok (.putfield 34, 3) := by decide +kernel
theorem d_Ch_empty_10 : decode M_Ch_empty.1 10 = .ok (.aload_n 0, 1) := by decide +kernel
theorem d_Ch_empty_11 : decode M_Ch_empty.1 11 = .ok (.iconst 4, 1) := by decide +kernel
theorem d_Ch_empty_12 : decode M_Ch_empty.1 12 = .ok (.putfield 37, 3) := by decide +kernel
theorem d_Ch_empty_15 : decode M_Ch_empty.1 15 = .ok (.aload_n 0, 1) := by decide +kernel
theorem d_Ch_empty_16 : decode M_Ch_empty.1 16 = .ok (.iconst 2, 1) := by decide +kernel
theorem d_Ch_empty_17 : decode M_Ch_empty.1 17 = .ok (.putfield 40, 3) := by decide +kernel
theorem d_Ch_empty_20 : decode M_Ch_empty.1 20 = .ok (.return_, 1) := by decide +kernel
theorem d_Ch_has_0 : decode M_Ch_has.1 0 = .ok (.iload_n 1, 1) := by decide +kernel
theorem d_Ch_has_1 : decode M_Ch_has.1 1 = .ok (.ifCond .lt 15, 3) := by decide +kernel
theorem d_Ch_has_4 : decode M_Ch_has.1 4 = .ok (.iload_n 1, 1) := by decide +kernel
theorem d_Ch_has_5 : decode M_Ch_has.1 5 = .ok (.aload_n 0, 1) := by decide +kernel
theorem d_Ch_has_6 : decode M_Ch_has.1 6 = .ok (.getfield 30, 3) := by decide +kernel
theorem d_Ch_has_9 : decode M_Ch_has.1 9 = .ok (.if_icmp .ge 7, 3) := by decide +kernel
theorem d_Ch_has_12 : decode M_Ch_has.1 12 = .ok (.iconst 1, 1) := by decide +kernel
theorem d_Ch_has_13 : decode M_Ch_has.1 13 = .ok (.goto 4, 3) := by decide +kernel
theorem d_Ch_has_16 : decode M_Ch_has.1 16 = .ok (.iconst 0, 1) := by decide +kernel
theorem d_Ch_has_17 : decode M_Ch_has.1 17 = .ok (.ireturn, 1) := by decide +kernel
theorem d_Ch_lag_0 : decode M_Ch_lag.1 0 = .ok (.aload_n 0, 1) := by decide +kernel
theorem d_Ch_lag_1 : decode M_Ch_lag.1 1 = .ok (.getfield 9, 3) := by decide +kernel
theorem d_Ch_lag_4 : decode M_Ch_lag.1 4 = .ok (.iload_n 1, 1) := by decide +kernel
theorem d_Ch_lag_5 : decode M_Ch_lag.1 5 = .ok (.iaload, 1) := by decide +kernel
theorem d_Ch_lag_6 : decode M_Ch_lag.1 6 = .ok (.bipush 6, 2) := by decide +kernel
theorem d_Ch_lag_8 : decode M_Ch_lag.1 8 = .ok (.idiv, 1) := by decide +kernel
theorem d_Ch_lag_9 : decode M_Ch_lag.1 9 = .ok (.ireturn, 1) := by decide +kernel
theorem d_Ch_between_0 : decode M_Ch_between.1 0 = .ok (.aload_n 0, 1) := by decide +kernel
theorem d_Ch_between_1 : decode M_Ch_between.1 1 = .ok (.getfield 9, 3) := by decide +kernel
theorem d_Ch_between_4 : decode M_Ch_between.1 4 = .ok (.iload_n 1, 1) := by decide +kernel
theorem d_Ch_between_5 : decode M_Ch_between.1 5 = .ok (.iaload, 1) := by decide +kernel
theorem d_Ch_between_6 : decode M_Ch_between.1 6 = .ok (.aload_n 0, 1) := by decide +kernel
theorem d_Ch_between_7 : decode M_Ch_between.1 7 = .ok (.getfield 9, 3) := by decide +kernel
theorem d_Ch_between_10 : decode M_Ch_between.1 10 = .ok (.iload_n 2, 1) := by decide +kernel
theorem d_Ch_between_11 : decode M_Ch_between.1 11 = .ok (.iaload, 1) := by decide +kernel
theorem d_Ch_between_12 : decode M_Ch_between.1 12 = .ok (.isub, 1) := by decide +kernel
theorem d_Ch_between_13 : decode M_Ch_between.1 13 = .ok (.invokestatic 43, 3) := by decide +kernel
theorem d_Ch_between_16 : decode M_Ch_between.1 16 = .ok (.bipush 6, 2) := by decide +kernel
theorem d_Ch_between_18 : decode M_Ch_between.1 18 = .ok (.idiv, 1) := by decide +kernel
theorem d_Ch_between_19 : decode M_Ch_between.1 19 = .ok (.ireturn, 1) := by decide +kernel
theorem d_Ch_copyFrom_0 : decode M_Ch_copyFrom.1 0 = .ok (.aload_n 0, 1) := by decide +kernel
theorem d_Ch_copyFrom_1 : decode M_Ch_copyFrom.1 1 = .ok (.aload_n 1, 1) := by decide +kernel
theorem d_Ch_copyFrom_2 : decode M_Ch_copyFrom.1 2 = .ok (.getfield 30, 3) := by decide +kernel
theorem d_Ch_copyFrom_5 : decode M_Ch_copyFrom.1 5 = .ok (.putfield 30, 3) := by decide +kernel
theorem d_Ch_copyFrom_8 : decode M_Ch_copyFrom.1 8 = .ok (.aload_n 0, 1) := by decide +kernel
theorem d_Ch_copyFrom_9 : decode M_Ch_copyFrom.1 9 = .ok (.aload_n 1, 1) := by decide +kernel
theorem d_Ch_copyFrom_10 : decode M_Ch_copyFrom.1 10 = .ok (.getfield 34, 3) := by decide +kernel
theorem d_Ch_copyFrom_13 : decode M_Ch_copyFrom.1 13 = .ok (.putfield 34, 3) := by decide +kernel
theorem d_Ch_copyFrom_16 : decode M_Ch_copyFrom.1 16 = .ok (.aload_n 0, 1) := by decide +kernel
theorem d_Ch_copyFrom_17 : decode M_Ch_copyFrom.1 17 = .ok (.aload_n 1, 1) := by decide +kernel
theorem d_Ch_copyFrom_18 : decode M_Ch_copyFrom.1 18 = .ok (.getfield 37, 3) := by decide +kernel
theorem d_Ch_copyFrom_21 : decode M_Ch_copyFrom.1 21 = .ok (.putfield 37, 3) := by decide +kernel
theorem d_Ch_copyFrom_24 : decode M_Ch_copyFrom.1 24 = .ok (.aload_n 0, 1) := by decide +kernel
theorem d_Ch_copyFrom_25 : decode M_Ch_copyFrom.1 25 = .ok (.aload_n 1, 1) := by decide +kernel
theorem d_Ch_copyFrom_26 : decode M_Ch_copyFrom.1 26 = .ok (.getfield 40, 3) := by decide +kernel
theorem d_Ch_copyFrom_29 : decode M_Ch_copyFrom.1 29 = .ok (.putfield 40, 3) := by decide +kernel
theorem d_Ch_copyFrom_32 : decode M_Ch_copyFrom.1 32 = .ok (.iconst 0, 1) := by decide +kernel
theorem d_Ch_copyFrom_33 : decode M_Ch_copyFrom.1 33 = .ok (.istore_n 2, 1) := by decide +kernel
theorem d_Ch_copyFrom_34 : decode M_Ch_copyFrom.1 34 = .ok (.iload_n 2, 1) := by decide +kernel
theorem d_Ch_copyFrom_35 : decode M_Ch_copyFrom.1 35 = .ok (.bipush 6, 2) := by decide +kernel
theorem d_Ch_copyFrom_37 : decode M_Ch_copyFrom.1 37 = .ok (.if_icmp .ge 16, 3) := by decide +kernel
theorem d_Ch_copyFrom_40 : decode M_Ch_copyFrom.1 40 = .ok (.aload_n 0, 1) := by decide +kernel
theorem d_Ch_copyFrom_41 : decode M_Ch_copyFrom.1 41 = .ok (.iload_n 2, 1) := by decide +kernel
theorem d_Ch_copyFrom_42 : decode M_Ch_copyFrom.1 42 = .ok (.aload_n 1, 1) := by decide +kernel
theorem d_Ch_copyFrom_43 : decode M_Ch_copyFrom.1 43 = .ok (.iload_n 2, 1) := by decide +kernel
theorem d_Ch_copyFrom_44 : decode M_Ch_copyFrom.1 44 = .ok (.invokevirtual 49, 3) := by decide +kernel
theorem d_Ch_copyFrom_47 : decode M_Ch_copyFrom.1 47 = .ok (.iinc 2 1, 3) := by decide +kernel
theorem d_Ch_copyFrom_50 : decode M_Ch_copyFrom.1 50 = .ok (.goto (-16), 3) := by decide +kernel
theorem d_Ch_copyFrom_53 : decode M_Ch_copyFrom.1 53 = .ok (.return_, 1) := by decide +kernel
theorem d_Ch_copyPew_0 : decode M_Ch_copyPew.1 0 = .ok (.aload_n 0, 1) := by decide +kernel
theorem d_Ch_copyPew_1 : decode M_Ch_copyPew.1 1 = .ok (.getfield 9, 3) := by decide +kernel
theorem d_Ch_copyPew_4 : decode M_Ch_copyPew.1 4 = .ok (.iload_n 1, 1) := by decide +kernel
theorem d_Ch_copyPew_5 : decode M_Ch_copyPew.1 5 = .ok (.aload_n 2, 1) := by decide +kernel
theorem d_Ch_copyPew_6 : decode M_Ch_copyPew.1 6 = .ok (.getfield 9, 3) := by decide +kernel
theorem d_Ch_copyPew_9 : decode M_Ch_copyPew.1 9 = .ok (.iload_n 3, 1) := by decide +kernel
theorem d_Ch_copyPew_10 : decode M_Ch_copyPew.1 10 = .ok (.iaload, 1) := by decide +kernel
theorem d_Ch_copyPew_11 : decode M_Ch_copyPew.1 11 = .ok (.iastore, 1) := by decide +kernel
theorem d_Ch_copyPew_12 : decode M_Ch_copyPew.1 12 = .ok (.aload_n 0, 1) := by decide +kernel
theorem d_Ch_copyPew_13 : decode M_Ch_copyPew.1 13 = .ok (.getfield 15, 3) := by decide +kernel
theorem d_Ch_copyPew_16 : decode M_Ch_copyPew.1 16 = .ok (.iload_n 1, 1) := by decide +kernel
theorem d_Ch_copyPew_17 : decode M_Ch_copyPew.1 17 = .ok (.aload_n 2, 1) := by decide +kernel
theorem d_Ch_copyPew_18 : decode M_Ch_copyPew.1 18 = .ok (.getfield 15, 3) := by decide +kernel
theorem d_Ch_copyPew_21 : decode M_Ch_copyPew.1 21 = .ok (.iload_n 3, 1) := by decide +kernel
theorem d_Ch_copyPew_22 : decode M_Ch_copyPew.1 22 = .ok (.iaload, 1) := by decide +kernel
theorem d_Ch_copyPew_23 : decode M_Ch_copyPew.1 23 = .ok (.iastore, 1) := by decide +kernel
theorem d_Ch_copyPew_24 : decode M_Ch_copyPew.1 24 = .ok (.aload_n 0, 1) := by decide +kernel
theorem d_Ch_copyPew_25 : decode M_Ch_copyPew.1 25 = .ok (.getfield 18, 3) := by decide +kernel
theorem d_Ch_copyPew_28 : decode M_Ch_copyPew.1 28 = .ok (.iload_n 1, 1) := by decide +kernel
theorem d_Ch_copyPew_29 : decode M_Ch_copyPew.1 29 = .ok (.aload_n 2, 1) := by decide +kernel
theorem d_Ch_copyPew_30 : decode M_Ch_copyPew.1 30 = .ok (.getfield 18, 3) := by decide +kernel
theorem d_Ch_copyPew_33 : decode M_Ch_copyPew.1 33 = .ok (.iload_n 3, 1) := by decide +kernel
theorem d_Ch_copyPew_34 : decode M_Ch_copyPew.1 34 = .ok (.iaload, 1) := by decide +kernel
theorem d_Ch_copyPew_35 : decode M_Ch_copyPew.1 35 = .ok (.iastore, 1) := by decide +kernel
theorem d_Ch_copyPew_36 : decode M_Ch_copyPew.1 36 = .ok (.aload_n 0, 1) := by decide +kernel
theorem d_Ch_copyPew_37 : decode M_Ch_copyPew.1 37 = .ok (.getfield 21, 3) := by decide +kernel
theorem d_Ch_copyPew_40 : decode M_Ch_copyPew.1 40 = .ok (.iload_n 1, 1) := by decide +kernel
theorem d_Ch_copyPew_41 : decode M_Ch_copyPew.1 41 = .ok (.aload_n 2, 1) := by decide +kernel
theorem d_Ch_copyPew_42 : decode M_Ch_copyPew.1 42 = .ok (.getfield 21, 3) := by decide +kernel
theorem d_Ch_copyPew_45 : decode M_Ch_copyPew.1 45 = .ok (.iload_n 3, 1) := by decide +kernel
theorem d_Ch_copyPew_46 : decode M_Ch_copyPew.1 46 = .ok (.iaload, 1) := by decide +kernel
theorem d_Ch_copyPew_47 : decode M_Ch_copyPew.1 47 = .ok (.iastore, 1) := by decide +kernel
theorem d_Ch_copyPew_48 : decode M_Ch_copyPew.1 48 = .ok (.return_, 1) := by decide +kernel
theorem d_Ch_leaveOut_0 : decode M_Ch_leaveOut.1 0 = .ok (.aload_n 0, 1) := by decide +kernel
theorem d_Ch_leaveOut_1 : decode M_Ch_leaveOut.1 1 = .ok (.iload_n 1, 1) := by decide +kernel
theorem d_Ch_leaveOut_2 : decode M_Ch_leaveOut.1 2 = .ok (.invokevirtual 53, 3) := by decide +kernel
theorem d_Ch_leaveOut_5 : decode M_Ch_leaveOut.1 5 = .ok (.ifCond .ne 4, 3) := by decide +kernel
theorem d_Ch_leaveOut_8 : decode M_Ch_leaveOut.1 8 = .ok (.return_, 1) := by decide +kernel
theorem d_Ch_leaveOut_9 : decode M_Ch_leaveOut.1 9 = .ok (.iload_n 1, 1) := by decide +kernel
theorem d_Ch_leaveOut_10 : decode M_Ch_leaveOut.1 10 = .ok (.istore_n 2, 1) := by decide +kernel
theorem d_Ch_leaveOut_11 : decode M_Ch_leaveOut.1 11 = .ok (.iload_n 2, 1) := by decide +kernel
theorem d_Ch_leaveOut_12 : decode M_Ch_leaveOut.1 12 = .ok (.iconst 1, 1) := by decide +kernel
theorem d_Ch_leaveOut_13 : decode M_Ch_leaveOut.1 13 = .ok (.iadd, 1) := by decide +kernel
theorem d_Ch_leaveOut_14 : decode M_Ch_leaveOut.1 14 = .ok (.aload_n 0, 1) := by decide +kernel
theorem d_Ch_leaveOut_15 : decode M_Ch_leaveOut.1 15 = .ok (.getfield 30, 3) := by decide +kernel
theorem d_Ch_leaveOut_18 : decode M_Ch_leaveOut.1 18 = .ok (.if_icmp .ge 18, 3) := by decide +kernel
theorem d_Ch_leaveOut_21 : decode M_Ch_leaveOut.1 21 = .ok (.aload_n 0, 1) := by decide +kernel
theorem d_Ch_leaveOut_22 : decode M_Ch_leaveOut.1 22 = .ok (.iload_n 2, 1) := by decide +kernel
theorem d_Ch_leaveOut_23 : decode M_Ch_leaveOut.1 23 = .ok (.aload_n 0, 1) := by decide +kernel
theorem d_Ch_leaveOut_24 : decode M_Ch_leaveOut.1 24 = .ok (.iload_n 2, 1) := by decide +kernel
theorem d_Ch_leaveOut_25 : decode M_Ch_leaveOut.1 25 = .ok (.iconst 1, 1) := by decide +kernel
theorem d_Ch_leaveOut_26 : decode M_Ch_leaveOut.1 26 = .ok (.iadd, 1) := by decide +kernel
theorem d_Ch_leaveOut_27 : decode M_Ch_leaveOut.1 27 = .ok (.invokevirtual 49, 3) := by decide +kernel
theorem d_Ch_leaveOut_30 : decode M_Ch_leaveOut.1 30 = .ok (.iinc 2 1, 3) := by decide +kernel
theorem d_Ch_leaveOut_33 : decode M_Ch_leaveOut.1 33 = .ok (.goto (-22), 3) := by decide +kernel
theorem d_Ch_leaveOut_36 : decode M_Ch_leaveOut.1 36 = .ok (.aload_n 0, 1) := by decide +kernel
theorem d_Ch_leaveOut_37 : decode M_Ch_leaveOut.1 37 = .ok (.dup, 1) := by decide +kernel
theorem d_Ch_leaveOut_38 : decode M_Ch_leaveOut.1 38 = .ok (.getfield 30, 3) := by decide +kernel
theorem d_Ch_leaveOut_41 : decode M_Ch_leaveOut.1 41 = .ok (.iconst 1, 1) := by decide +kernel
theorem d_Ch_leaveOut_42 : decode M_Ch_leaveOut.1 42 = .ok (.isub, 1) := by decide +kernel
theorem d_Ch_leaveOut_43 : decode M_Ch_leaveOut.1 43 = .ok (.putfield 30, 3) := by decide +kernel
theorem d_Ch_leaveOut_46 : decode M_Ch_leaveOut.1 46 = .ok (.return_, 1) := by decide +kernel
theorem d_Ch_singLines_0 : decode M_Ch_singLines.1 0 = .ok (.iconst 0, 1) := by decide +kernel
theorem d_Ch_singLines_1 : decode M_Ch_singLines.1 1 = .ok (.istore_n 3, 1) := by decide +kernel
theorem d_Ch_singLines_2 : decode M_Ch_singLines.1 2 = .ok (.iload_n 3, 1) := by decide +kernel
theorem d_Ch_singLines_3 : decode M_Ch_singLines.1 3 = .ok (.iload_n 2, 1) := by decide +kernel
theorem d_Ch_singLines_4 : decode M_Ch_singLines.1 4 = .ok (.if_icmp .ge 14, 3) := by decide +kernel
theorem d_Ch_singLines_7 : decode M_Ch_singLines.1 7 = .ok (.aload_n 0, 1) := by decide +kernel
theorem d_Ch_singLines_8 : decode M_Ch_singLines.1 8 = .ok (.aload_n 1, 1) := by decide +kernel
theorem d_Ch_singLines_9 : decode M_Ch_singLines.1 9 = .ok (.invokevirtual 57, 3) := by decide +kernel
theorem d_Ch_singLines_12 : decode M_Ch_singLines.1 12 = .ok (.iinc 3 1, 3) := by decide +kernel
theorem d_Ch_singLines_15 : decode M_Ch_singLines.1 15 = .ok (.goto (-13), 3) := by decide +kernel
theorem d_Ch_singLines_18 : decode M_Ch_singLines.1 18 = .ok (.return_, 1) := by decide +kernel
theorem d_Ch_singLine_0 : decode M_Ch_singLine.1 0 = .ok (.iconst 0, 1) := by decide +kernel
theorem d_Ch_singLine_1 : decode M_Ch_singLine.1 1 = .ok (.istore_n 2, 1) := by decide +kernel
theorem d_Ch_singLine_2 : decode M_Ch_singLine.1 2 = .ok (.iload_n 2, 1) := by decide +kernel
theorem d_Ch_singLine_3 : decode M_Ch_singLine.1 3 = .ok (.aload_n 0, 1) := by decide +kernel
theorem d_Ch_singLine_4 : decode M_Ch_singLine.1 4 = .ok (.getfield 30, 3) := by decide +kernel
theorem d_Ch_singLine_7 : decode M_Ch_singLine.1 7 = .ok (.if_icmp .ge 21, 3) := by decide +kernel
theorem d_Ch_singLine_10 : decode M_Ch_singLine.1 10 = .ok (.aload_n 0, 1) := by decide +kernel
theorem d_Ch_singLine_11 : decode M_Ch_singLine.1 11 = .ok (.getfield 24, 3) := by decide +kernel
theorem d_Ch_singLine_14 : decode M_Ch_singLine.1 14 = .ok (.iload_n 2, 1) := by decide +kernel
theorem d_Ch_singLine_15 : decode M_Ch_singLine.1 15 = .ok (.aload_n 1, 1) := by decide +kernel
theorem d_Ch_singLine_16 : decode M_Ch_singLine.1 16 = .ok (.getfield 61, 3) := by decide +kernel
theorem d_Ch_singLine_19 : decode M_Ch_singLine.1 19 = .ok (.iload_n 2, 1) := by decide +kernel
theorem d_Ch_singLine_20 : decode M_Ch_singLine.1 20 = .ok (.iaload, 1) := by decide +kernel
theorem d_Ch_singLine_21 : decode M_Ch_singLine.1 21 = .ok (.iastore, 1) := by decide +kernel
theorem d_Ch_singLine_22 : decode M_Ch_singLine.1 22 = .ok (.iinc 2 1, 3) := by decide +kernel
theorem d_Ch_singLine_25 : decode M_Ch_singLine.1 25 = .ok (.goto (-23), 3) := by decide +kernel
theorem d_Ch_singLine_28 : decode M_Ch_singLine.1 28 = .ok (.iconst 0, 1) := by decide +kernel
theorem d_Ch_singLine_29 : decode M_Ch_singLine.1 29 = .ok (.istore_n 2, 1) := by decide +kernel
theorem d_Ch_singLine_30 : decode M_Ch_singLine.1 30 = .ok (.iload_n 2, 1) := by decide +kernel
theorem d_Ch_singLine_31 : decode M_Ch_singLine.1 31 = .ok (.aload_n 0, 1) := by decide +kernel
theorem d_Ch_singLine_32 : decode M_Ch_singLine.1 32 = .ok (.getfield 30, 3) := by decide +kernel
theorem d_Ch_singLine_35 : decode M_Ch_singLine.1 35 = .ok (.if_icmp .ge 33, 3) := by decide +kernel
theorem d_Ch_singLine_38 : decode M_Ch_singLine.1 38 = .ok (.aload_n 1, 1) := by decide +kernel
theorem d_Ch_singLine_39 : decode M_Ch_singLine.1 39 = .ok (.getfield 61, 3) := by decide +kernel
theorem d_Ch_singLine_42 : decode M_Ch_singLine.1 42 = .ok (.iload_n 2, 1) := by decide +kernel
theorem d_Ch_singLine_43 : decode M_Ch_singLine.1 43 = .ok (.aload_n 1, 1) := by decide +kernel
theorem d_Ch_singLine_44 : decode M_Ch_singLine.1 44 = .ok (.getfield 66, 3) := by decide +kernel
theorem d_Ch_singLine_47 : decode M_Ch_singLine.1 47 = .ok (.iload_n 2, 1) := by decide +kernel
theorem d_Ch_singLine_48 : decode M_Ch_singLine.1 48 = .ok (.if_icmp .ne 7, 3) := by decide +kernel
theorem d_Ch_singLine_51 : decode M_Ch_singLine.1 51 = .ok (.iconst 0, 1) := by decide +kernel
theorem d_Ch_singLine_52 : decode M_Ch_singLine.1 52 = .ok (.goto 9, 3) := by decide +kernel
theorem d_Ch_singLine_55 : decode M_Ch_singLine.1 55 = .ok (.aload_n 0, 1) := by decide +kernel
theorem d_Ch_singLine_56 : decode M_Ch_singLine.1 56 = .ok (.iload_n 2, 1) := by decide +kernel
theorem d_Ch_singLine_57 : decode M_Ch_singLine.1 57 = .ok (.aload_n 1, 1) := by decide +kernel
theorem d_Ch_singLine_58 : decode M_Ch_singLine.1 58 = .ok (.invokevirtual 69, 3) := by decide +kernel
theorem d_Ch_singLine_61 : decode M_Ch_singLine.1 61 = .ok (.iastore, 1) := by decide +kernel
theorem d_Ch_singLine_62 : decode M_Ch_singLine.1 62 = .ok (.iinc 2 1, 3) := by decide +kernel
theorem d_Ch_singLine_65 : decode M_Ch_singLine.1 65 = .ok (.goto (-35), 3) := by decide +kernel
theorem d_Ch_singLine_68 : decode M_Ch_singLine.1 68 = .ok (.aload_n 0, 1) := by decide +kernel
theorem d_Ch_singLine_69 : decode M_Ch_singLine.1 69 = .ok (.aload_n 1, 1) := by decide +kernel
theorem d_Ch_singLine_70 : decode M_Ch_singLine.1 70 = .ok (.invokevirtual 73, 3) := by decide +kernel
theorem d_Ch_singLine_73 : decode M_Ch_singLine.1 73 = .ok (.aload_n 1, 1) := by decide +kernel
theorem d_Ch_singLine_74 : decode M_Ch_singLine.1 74 = .ok (.sipush 999, 3) := by decide +kernel
theorem d_Ch_singLine_77 : decode M_Ch_singLine.1 77 = .ok (.aload_n 1, 1) := by decide +kernel
theorem d_Ch_singLine_78 : decode M_Ch_singLine.1 78 = .ok (.getfield 76, 3) := by decide +kernel
theorem d_Ch_singLine_81 : decode M_Ch_singLine.1 81 = .ok (.iconst 1, 1) := by decide +kernel
theorem d_Ch_singLine_82 : decode M_Ch_singLine.1 82 = .ok (.iadd, 1) := by decide +kernel
theorem d_Ch_singLine_83 : decode M_Ch_singLine.1 83 = .ok (.invokestatic 79, 3) := by decide +kernel
theorem d_Ch_singLine_86 : decode M_Ch_singLine.1 86 = .ok (.putfield 76, 3) := by decide +kernel
theorem d_Ch_singLine_89 : decode M_Ch_singLine.1 89 = .ok (.return_, 1) := by decide +kernel
theorem d_Ch_lateBehindLine_0 : decode M_Ch_lateBehindLine.1 0 = .ok (.aload_n 0, 1) := by decide +kernel
theorem d_Ch_lateBehindLine_1 : decode M_Ch_lateBehindLine.1 1 = .ok (.getfield 30, 3) := by decide +kernel
theorem d_Ch_lateBehindLine_4 : decode M_Ch_lateBehindLine.1 4 = .ok (.iconst 1, 1) := by decide +kernel
theorem d_Ch_lateBehindLine_5 : decode M_Ch_lateBehindLine.1 5 = .ok (.if_icmp .ne 7, 3) := by decide +kernel
theorem d_Ch_lateBehindLine_8 : decode M_Ch_lateBehindLine.1 8 = .ok (.iconst 0, 1) := by decide +kernel
theorem d_Ch_lateBehindLine_9 : decode M_Ch_lateBehindLine.1 9 = .ok (.goto 9, 3) := by decide +kernel
theorem d_Ch_lateBehindLine_12 : decode M_Ch_lateBehindLine.1 12 = .ok (.aload_n 0, 1) := by decide +kernel
theorem d_Ch_lateBehindLine_13 : decode M_Ch_lateBehindLine.1 13 = .ok (.getfield 18, 3) := by decide +kernel
theorem d_Ch_lateBehindLine_16 : decode M_Ch_lateBehindLine.1 16 = .ok (.iload_n 1, 1) := by decide +kernel
theorem d_Ch_lateBehindLine_17 : decode M_Ch_lateBehindLine.1 17 = .ok (.iaload, 1) := by decide +kernel
theorem d_Ch_lateBehindLine_18 : decode M_Ch_lateBehindLine.1 18 = .ok (.istore_n 3, 1) := by decide +kernel
theorem d_Ch_lateBehindLine_19 : decode M_Ch_lateBehindLine.1 19 = .ok (.aload_n 0, 1) := by decide +kernel
theorem d_Ch_lateBehindLine_20 : decode M_Ch_lateBehindLine.1 20 = .ok (.getfield 15, 3) := by decide +kernel
theorem d_Ch_lateBehindLine_23 : decode M_Ch_lateBehindLine.1 23 = .ok (.iload_n 1, 1) := by decide +kernel
theorem d_Ch_lateBehindLine_24 : decode M_Ch_lateBehindLine.1 24 = .ok (.iaload, 1) := by decide +kernel
theorem d_Ch_lateBehindLine_25 : decode M_Ch_lateBehindLine.1 25 = .ok (.aload_n 0, 1) := by decide +kernel
theorem d_Ch_lateBehindLine_26 : decode M_Ch_lateBehindLine.1 26 = .ok (.iload_n 1, 1) := by decide +kernel
theorem d_Ch_lateBehindLine_27 : decode M_Ch_lateBehindLine.1 27 = .ok (.invokevirtual 83, 3) := by decide +kernel
theorem d_Ch_lateBehindLine_30 : decode M_Ch_lateBehindLine.1 30 = .ok (.aload_n 2, 1) := by decide +kernel
theorem d_Ch_lateBehindLine_31 : decode M_Ch_lateBehindLine.1 31 = .ok (.getfield 86, 3) := by decide +kernel
theorem d_Ch_lateBehindLine_34 : decode M_Ch_lateBehindLine.1 34 = .ok (.isub, 1) := by decide +kernel
theorem d_Ch_lateBehindLine_35 : decode M_Ch_lateBehindLine.1 35 = .ok (.imul, 1) := by decide +kernel
theorem d_Ch_lateBehindLine_36 : decode M_Ch_lateBehindLine.1 36 = .ok (.iload_n 3, 1) := by decide +kernel
theorem d_Ch_lateBehindLine_37 : decode M_Ch_lateBehindLine.1 37 = .ok (.aload_n 0, 1) := by decide +kernel
theorem d_Ch_lateBehindLine_38 : decode M_Ch_lateBehindLine.1 38 = .ok (.iload_n 1, 1) := by decide +kernel
theorem d_Ch_lateBehindLine_39 : decode M_Ch_lateBehindLine.1 39 = .ok (.invokevirtual 89, 3) := by decide +kernel
theorem d_Ch_lateBehindLine_42 : decode M_Ch_lateBehindLine.1 42 = .ok (.imul, 1) := by decide +kernel
theorem d_Ch_lateBehindLine_43 : decode M_Ch_lateBehindLine.1 43 = .ok (.iadd, 1) := by decide +kernel
theorem d_Ch_lateBehindLine_44 : decode M_Ch_lateBehindLine.1 44 = .ok (.iconst 5, 1) := by decide +kernel
theorem d_Ch_lateBehindLine_45 : decode M_Ch_lateBehindLine.1 45 = .ok (.aload_n 0, 1) := by decide +kernel
theorem d_Ch_lateBehindLine_46 : decode M_Ch_lateBehindLine.1 46 = .ok (.getfield 24, 3) := by decide +kernel
theorem d_Ch_lateBehindLine_49 : decode M_Ch_lateBehindLine.1 49 = .ok (.iload_n 1, 1) := by decide +kernel
theorem d_Ch_lateBehindLine_50 : decode M_Ch_lateBehindLine.1 50 = .ok (.iaload, 1) := by decide +kernel
theorem d_Ch_lateBehindLine_51 : decode M_Ch_lateBehindLine.1 51 = .ok (.imul, 1) := by decide +kernel
theorem d_Ch_lateBehindLine_52 : decode M_Ch_lateBehindLine.1 52 = .ok (.iadd, 1) := by decide +kernel
theorem d_Ch_lateBehindLine_53 : decode M_Ch_lateBehindLine.1 53 = .ok (.istore 4, 2) := by decide +kernel
theorem d_Ch_lateBehindLine_55 : decode M_Ch_lateBehindLine.1 55 = .ok (.iload 4, 2) := by decide +kernel
theorem d_Ch_lateBehindLine_57 : decode M_Ch_lateBehindLine.1 57 = .ok (.aload_n 0, 1) := by decide +kernel
theorem d_Ch_lateBehindLine_58 : decode M_Ch_lateBehindLine.1 58 = .ok (.getfield 15, 3) := by decide +kernel
theorem d_Ch_lateBehindLine_61 : decode M_Ch_lateBehindLine.1 61 = .ok (.iload_n 1, 1) := by decide +kernel
theorem d_Ch_lateBehindLine_62 : decode M_Ch_lateBehindLine.1 62 = .ok (.iaload, 1) := by decide +kernel
theorem d_Ch_lateBehindLine_63 : decode M_Ch_lateBehindLine.1 63 = .ok (.iload_n 3, 1) := by decide +kernel
theorem d_Ch_lateBehindLine_64 : decode M_Ch_lateBehindLine.1 64 = .ok (.iadd, 1) := by decide +kernel
theorem d_Ch_lateBehindLine_65 : decode M_Ch_lateBehindLine.1 65 = .ok (.iconst 5, 1) := by decide +kernel
theorem d_Ch_lateBehindLine_66 : decode M_Ch_lateBehindLine.1 66 = .ok (.iadd, 1) := by decide +kernel
theorem d_Ch_lateBehindLine_67 : decode M_Ch_lateBehindLine.1 67 = .ok (.invokestatic 92, 3) := by decide +kernel
theorem d_Ch_lateBehindLine_70 : decode M_Ch_lateBehindLine.1 70 = .ok (.aload_n 2, 1) := by decide +kernel
theorem d_Ch_lateBehindLine_71 : decode M_Ch_lateBehindLine.1 71 = .ok (.iload_n 1, 1) := by decide +kernel
theorem d_Ch_lateBehindLine_72 : decode M_Ch_lateBehindLine.1 72 = .ok (.invokevirtual 95, 3) := by decide +kernel
theorem d_Ch_lateBehindLine_75 : decode M_Ch_lateBehindLine.1 75 = .ok (.ifCond .eq 7, 3) := by decide +kernel
theorem d_Ch_lateBehindLine_78 : decode M_Ch_lateBehindLine.1 78 = .ok (.iconst 0, 1) := by decide +kernel
theorem d_Ch_lateBehindLine_79 : decode M_Ch_lateBehindLine.1 79 = .ok (.goto 9, 3) := by decide +kernel
theorem d_Ch_lateBehindLine_82 : decode M_Ch_lateBehindLine.1 82 = .ok (.aload_n 0, 1) := by decide +kernel
theorem d_Ch_lateBehindLine_83 : decode M_Ch_lateBehindLine.1 83 = .ok (.getfield 21, 3) := by decide +kernel
theorem d_Ch_lateBehindLine_86 : decode M_Ch_lateBehindLine.1 86 = .ok (.iload_n 1, 1) := by decide +kernel
theorem d_Ch_lateBehindLine_87 : decode M_Ch_lateBehindLine.1 87 = .ok (.iaload, 1) := by decide +kernel
theorem d_Ch_lateBehindLine_88 : decode M_Ch_lateBehindLine.1 88 = .ok (.iadd, 1) := by decide +kernel
theorem d_Ch_lateBehindLine_89 : decode M_Ch_lateBehindLine.1 89 = .ok (.istore 5, 2) := by decide +kernel
theorem d_Ch_lateBehindLine_91 : decode M_Ch_lateBehindLine.1 91 = .ok (.bipush (-99), 2) := by decide +kernel
theorem d_Ch_lateBehindLine_93 : decode M_Ch_lateBehindLine.1 93 = .ok (.sipush 999, 3) := by decide +kernel
theorem d_Ch_lateBehindLine_96 : decode M_Ch_lateBehindLine.1 96 = .ok (.iload 5, 2) := by decide +kernel
theorem d_Ch_lateBehindLine_98 : decode M_Ch_lateBehindLine.1 98 = .ok (.invokestatic 79, 3) := by decide +kernel
theorem d_Ch_lateBehindLine_101 : decode M_Ch_lateBehindLine.1 101 = .ok (.invokestatic 98, 3) := by decide +kernel
theorem d_Ch_lateBehindLine_104 : decode M_Ch_lateBehindLine.1 104 = .ok (.ireturn, 1) := by decide +kernel
theorem d_Ch_meanBeside_0 : decode M_Ch_meanBeside.1 0 = .ok (.iconst 0, 1) := by decide +kernel
theorem d_Ch_meanBeside_1 : decode M_Ch_meanBeside.1 1 = .ok (.istore_n 2, 1) := by decide +kernel
theorem d_Ch_meanBeside_2 : decode M_Ch_meanBeside.1 2 = .ok (.iconst 0, 1) := by decide +kernel
theorem d_Ch_meanBeside_3 : decode M_Ch_meanBeside.1 3 = .ok (.istore_n 3, 1) := by decide +kernel
theorem d_Ch_meanBeside_4 : decode M_Ch_meanBeside.1 4 = .ok (.iload_n 1, 1) := by decide +kernel
theorem d_Ch_meanBeside_5 : decode M_Ch_meanBeside.1 5 = .ok (.iconst 1, 1) := by decide +kernel
theorem d_Ch_meanBeside_6 : decode M_Ch_meanBeside.1 6 = .ok (.isub, 1) := by decide +kernel
theorem d_Ch_meanBeside_7 : decode M_Ch_meanBeside.1 7 = .ok (.istore 4, 2) := by decide +kernel
theorem d_Ch_meanBeside_9 : decode M_Ch_meanBeside.1 9 = .ok (.iload 4, 2) := by decide +kernel
theorem d_Ch_meanBeside_11 : decode M_Ch_meanBeside.1 11 = .ok (.iload_n 1, 1) := by decide +kernel
theorem d_Ch_meanBeside_12 : decode M_Ch_meanBeside.1 12 = .ok (.iconst 1, 1) := by decide +kernel
theorem d_Ch_meanBeside_13 : decode M_Ch_meanBeside.1 13 = .ok (.iadd, 1) := by decide +kernel
theorem d_Ch_meanBeside_14 : decode M_Ch_meanBeside.1 14 = .ok (.if_icmp .gt 39, 3) := by decide +kernel
theorem d_Ch_meanBeside_17 : decode M_Ch_meanBeside.1 17 = .ok (.aload_n 0, 1) := by decide +kernel
theorem d_Ch_meanBeside_18 : decode M_Ch_meanBeside.1 18 = .ok (.iload 4, 2) := by decide +kernel
theorem d_Ch_meanBeside_20 : decode M_Ch_meanBeside.1 20 = .ok (.invokevirtual 53, 3) := by decide +kernel
theorem d_Ch_meanBeside_23 : decode M_Ch_meanBeside.1 23 = .ok (.ifCond .eq 24, 3) := by decide +kernel
theorem d_Ch_meanBeside_26 : decode M_Ch_meanBeside.1 26 = .ok (.iload_n 2, 1) := by decide +kernel
theorem d_Ch_meanBeside_27 : decode M_Ch_meanBeside.1 27 = .ok (.aload_n 0, 1) := by decide +kernel
theorem d_Ch_meanBeside_28 : decode M_Ch_meanBeside.1 28 = .ok (.getfield 24, 3) := by decide +kernel
theorem d_Ch_meanBeside_31 : decode M_Ch_meanBeside.1 31 = .ok (.iload 4, 2) := by decide +kernel
theorem d_Ch_meanBeside_33 : decode M_Ch_meanBeside.1 33 = .ok (.iaload, 1) := by decide +kernel
theorem d_Ch_meanBeside_34 : decode M_Ch_meanBeside.1 34 = .ok (.aload_n 0, 1) := by decide +kernel
theorem d_Ch_meanBeside_35 : decode M_Ch_meanBeside.1 35 = .ok (.iload 4, 2) := by decide +kernel
theorem d_Ch_meanBeside_37 : decode M_Ch_meanBeside.1 37 = .ok (.iload_n 1, 1) := by decide +kernel
theorem d_Ch_meanBeside_38 : decode M_Ch_meanBeside.1 38 = .ok (.invokevirtual 101, 3) := by decide +kernel
theorem d_Ch_meanBeside_41 : decode M_Ch_meanBeside.1 41 = .ok (.iadd, 1) := by decide +kernel
theorem d_Ch_meanBeside_42 : decode M_Ch_meanBeside.1 42 = .ok (.iadd, 1) := by decide +kernel
theorem d_Ch_meanBeside_43 : decode M_Ch_meanBeside.1 43 = .ok (.istore_n 2, 1) := by decide +kernel
theorem d_Ch_meanBeside_44 : decode M_Ch_meanBeside.1 44 = .ok (.iinc 3 1, 3) := by decide +kernel
theorem d_Ch_meanBeside_47 : decode M_Ch_meanBeside.1 47 = .ok (.iinc 4 2, 3) := by decide +kernel
theorem d_Ch_meanBeside_50 : decode M_Ch_meanBeside.1 50 = .ok (.goto (-41), 3) := by decide +kernel
theorem d_Ch_meanBeside_53 : decode M_Ch_meanBeside.1 53 = .ok (.iload_n 2, 1) := by decide +kernel
theorem d_Ch_meanBeside_54 : decode M_Ch_meanBeside.1 54 = .ok (.iload_n 3, 1) := by decide +kernel
theorem d_Ch_meanBeside_55 : decode M_Ch_meanBeside.1 55 = .ok (.invokestatic 92, 3) := by decide +kernel
theorem d_Ch_meanBeside_58 : decode M_Ch_meanBeside.1 58 = .ok (.ireturn, 1) := by decide +kernel
theorem d_Ch_waitFor_0 : decode M_Ch_waitFor.1 0 = .ok (.iconst 0, 1) := by decide +kernel
theorem d_Ch_waitFor_1 : decode M_Ch_waitFor.1 1 = .ok (.istore_n 2, 1) := by decide +kernel
theorem d_Ch_waitFor_2 : decode M_Ch_waitFor.1 2 = .ok (.iconst 0, 1) := by decide +kernel
theorem d_Ch_waitFor_3 : decode M_Ch_waitFor.1 3 = .ok (.istore_n 3, 1) := by decide +kernel
theorem d_Ch_waitFor_4 : decode M_Ch_waitFor.1 4 = .ok (.iload_n 3, 1) := by decide +kernel
theorem d_Ch_waitFor_5 : decode M_Ch_waitFor.1 5 = .ok (.aload_n 0, 1) := by decide +kernel
theorem d_Ch_waitFor_6 : decode M_Ch_waitFor.1 6 = .ok (.getfield 30, 3) := by decide +kernel
theorem d_Ch_waitFor_9 : decode M_Ch_waitFor.1 9 = .ok (.if_icmp .ge 18, 3) := by decide +kernel
theorem d_Ch_waitFor_12 : decode M_Ch_waitFor.1 12 = .ok (.iload_n 2, 1) := by decide +kernel
theorem d_Ch_waitFor_13 : decode M_Ch_waitFor.1 13 = .ok (.aload_n 1, 1) := by decide +kernel
theorem d_Ch_waitFor_14 : decode M_Ch_waitFor.1 14 = .ok (.getfield 61, 3) := by decide +kernel
theorem d_Ch_waitFor_17 : decode M_Ch_waitFor.1 17 = .ok (.iload_n 3, 1) := by decide +kernel
theorem d_Ch_waitFor_18 : decode M_Ch_waitFor.1 18 = .ok (.iaload, 1) := by decide +kernel
theorem d_Ch_waitFor_19 : decode M_Ch_waitFor.1 19 = .ok (.iadd, 1) := by decide +kernel
theorem d_Ch_waitFor_20 : decode M_Ch_waitFor.1 20 = .ok (.istore_n 2, 1) := by decide +kernel
theorem d_Ch_waitFor_21 : decode M_Ch_waitFor.1 21 = .ok (.iinc 3 1, 3) := by decide +kernel
theorem d_Ch_waitFor_24 : decode M_Ch_waitFor.1 24 = .ok (.goto (-20), 3) := by decide +kernel
theorem d_Ch_waitFor_27 : decode M_Ch_waitFor.1 27 = .ok (.aload_n 1, 1) := by decide +kernel
theorem d_Ch_waitFor_28 : decode M_Ch_waitFor.1 28 = .ok (.getfield 104, 3) := by decide +kernel
theorem d_Ch_waitFor_31 : decode M_Ch_waitFor.1 31 = .ok (.iload_n 2, 1) := by decide +kernel
theorem d_Ch_waitFor_32 : decode M_Ch_waitFor.1 32 = .ok (.aload_n 0, 1) := by decide +kernel
theorem d_Ch_waitFor_33 : decode M_Ch_waitFor.1 33 = .ok (.getfield 30, 3) := by decide +kernel
theorem d_Ch_waitFor_36 : decode M_Ch_waitFor.1 36 = .ok (.invokestatic 92, 3) := by decide +kernel
theorem d_Ch_waitFor_39 : decode M_Ch_waitFor.1 39 = .ok (.imul, 1) := by decide +kernel
theorem d_Ch_waitFor_40 : decode M_Ch_waitFor.1 40 = .ok (.bipush 10, 2) := by decide +kernel
theorem d_Ch_waitFor_42 : decode M_Ch_waitFor.1 42 = .ok (.idiv, 1) := by decide +kernel
theorem d_Ch_waitFor_43 : decode M_Ch_waitFor.1 43 = .ok (.istore_n 3, 1) := by decide +kernel
theorem d_Ch_waitFor_44 : decode M_Ch_waitFor.1 44 = .ok (.iload_n 3, 1) := by decide +kernel
theorem d_Ch_waitFor_45 : decode M_Ch_waitFor.1 45 = .ok (.ifCond .gt 4, 3) := by decide +kernel
theorem d_Ch_waitFor_48 : decode M_Ch_waitFor.1 48 = .ok (.return_, 1) := by decide +kernel
theorem d_Ch_waitFor_49 : decode M_Ch_waitFor.1 49 = .ok (.aload_n 1, 1) := by decide +kernel
theorem d_Ch_waitFor_50 : decode M_Ch_waitFor.1 50 = .ok (.sipush 9999, 3) := by decide +kernel
theorem d_Ch_waitFor_53 : decode M_Ch_waitFor.1 53 = .ok (.aload_n 1, 1) := by decide +kernel
theorem d_Ch_waitFor_54 : decode M_Ch_waitFor.1 54 = .ok (.getfield 107, 3) := by decide +kernel
theorem d_Ch_waitFor_57 : decode M_Ch_waitFor.1 57 = .ok (.iload_n 3, 1) := by decide +kernel
theorem d_Ch_waitFor_58 : decode M_Ch_waitFor.1 58 = .ok (.iadd, 1) := by decide +kernel
theorem d_Ch_waitFor_59 : decode M_Ch_waitFor.1 59 = .ok (.invokestatic 79, 3) := by decide +kernel
theorem d_Ch_waitFor_62 : decode M_Ch_waitFor.1 62 = .ok (.putfield 107, 3) := by decide +kernel
theorem d_Ch_waitFor_65 : decode M_Ch_waitFor.1 65 = .ok (.iconst 0, 1) := by decide +kernel
theorem d_Ch_waitFor_66 : decode M_Ch_waitFor.1 66 = .ok (.istore 4, 2) := by decide +kernel
theorem d_Ch_waitFor_68 : decode M_Ch_waitFor.1 68 = .ok (.iload 4, 2) := by decide +kernel
theorem d_Ch_waitFor_70 : decode M_Ch_waitFor.1 70 = .ok (.aload_n 0, 1) := by decide +kernel
theorem d_Ch_waitFor_71 : decode M_Ch_waitFor.1 71 = .ok (.getfield 30, 3) := by decide +kernel
theorem d_Ch_waitFor_74 : decode M_Ch_waitFor.1 74 = .ok (.if_icmp .ge 20, 3) := by decide +kernel
theorem d_Ch_waitFor_77 : decode M_Ch_waitFor.1 77 = .ok (.aload_n 1, 1) := by decide +kernel
theorem d_Ch_waitFor_78 : decode M_Ch_waitFor.1 78 = .ok (.getfield 61, 3) := by decide +kernel
theorem d_Ch_waitFor_81 : decode M_Ch_waitFor.1 81 = .ok (.iload 4, 2) := by decide +kernel
theorem d_Ch_waitFor_83 : decode M_Ch_waitFor.1 83 = .ok (.dup2, 1) := by decide +kernel
theorem d_Ch_waitFor_84 : decode M_Ch_waitFor.1 84 = .ok (.iaload, 1) := by decide +kernel
theorem d_Ch_waitFor_85 : decode M_Ch_waitFor.1 85 = .ok (.iload_n 3, 1) := by decide +kernel
theorem d_Ch_waitFor_86 : decode M_Ch_waitFor.1 86 = .ok (.isub, 1) := by decide +kernel
theorem d_Ch_waitFor_87 : decode M_Ch_waitFor.1 87 = .ok (.iastore, 1) := by decide +kernel
theorem d_Ch_waitFor_88 : decode M_Ch_waitFor.1 88 = .ok (.iinc 4 1, 3) := by decide +kernel
theorem d_Ch_waitFor_91 : decode M_Ch_waitFor.1 91 = .ok (.goto (-23), 3) := by decide +kernel
theorem d_Ch_waitFor_94 : decode M_Ch_waitFor.1 94 = .ok (.return_, 1) := by decide +kernel
theorem d_Hi_init_0 : decode M_Hi_init.1 0 = .ok (.aload_n 0, 1) := by decide +kernel
theorem d_Hi_init_1 : decode M_Hi_init.1 1 = .ok (.invokespecial 3, 3) := by decide +kernel
theorem d_Hi_init_4 : decode M_Hi_init.1 4 = .ok (.aload_n 0, 1) := by decide +kernel
theorem d_Hi_init_5 : decode M_Hi_init.1 5 = .ok (.bipush 10, 2) := by decide +kernel
theorem d_Hi_init_7 : decode M_Hi_init.1 7 = .ok (.anewarray 9, 3) := by decide +kernel
theorem d_Hi_init_10 : decode M_Hi_init.1 10 = .ok (.putfield 11, 3) := by decide +kernel
theorem d_Hi_init_13 : decode M_Hi_init.1 13 = .ok (.iconst 0, 1) := by decide +kernel
theorem d_Hi_init_14 : decode M_Hi_init.1 14 = .ok (.istore_n 1, 1) := by decide +kernel
theorem d_Hi_init_15 : decode M_Hi_init.1 15 = .ok (.iload_n 1, 1) := by decide +kernel
theorem d_Hi_init_16 : decode M_Hi_init.1 16 = .ok (.bipush 10, 2) := by decide +kernel
theorem d_Hi_init_18 : decode M_Hi_init.1 18 = .ok (.if_icmp .ge 22, 3) := by decide +kernel
theorem d_Hi_init_21 : decode M_Hi_init.1 21 = .ok (.aload_n 0, 1) := by decide +kernel
theorem d_Hi_init_22 : decode M_Hi_init.1 22 = .ok (.getfield 11, 3) := by decide +kernel
theorem d_Hi_init_25 : decode M_Hi_init.1 25 = .ok (.iload_n 1, 1) := by decide +kernel
theorem d_Hi_init_26 : decode M_Hi_init.1 26 = .ok (.new 9, 3) := by decide +kernel
theorem d_Hi_init_29 : decode M_Hi_init.1 29 = .ok (.dup, 1) := by decide +kernel
theorem d_Hi_init_30 : decode M_Hi_init.1 30 = .ok (.invokespecial 17, 3) := by decide +kernel
theorem d_Hi_init_33 : decode M_Hi_init.1 33 = .ok (.aastore, 1) := by decide +kernel
theorem d_Hi_init_34 : decode M_Hi_init.1 34 = .ok (.iinc 1 1, 3) := by decide +kernel
theorem d_Hi_init_37 : decode M_Hi_init.1 37 = .ok (.goto (-22), 3) := by decide +kernel
theorem d_Hi_init_40 : decode M_Hi_init.1 40 = .ok (.return_, 1) := by decide +kernel
theorem d_Hi_remember_0 : decode M_Hi_remember.1 0 = .ok (.aload_n 0, 1) := by decide +kernel
theorem d_Hi_remember_1 : decode M_Hi_remember.1 1 = .ok (.getfield 11, 3) := by decide +kernel
theorem d_Hi_remember_4 : decode M_Hi_remember.1 4 = .ok (.aload_n 0, 1) := by decide +kernel
theorem d_Hi_remember_5 : decode M_Hi_remember.1 5 = .ok (.getfield 18, 3) := by decide +kernel
theorem d_Hi_remember_8 : decode M_Hi_remember.1 8 = .ok (.aaload, 1) := by decide +kernel
theorem d_Hi_remember_9 : decode M_Hi_remember.1 9 = .ok (.aload_n 1, 1) := by decide +kernel
theorem d_Hi_remember_10 : decode M_Hi_remember.1 10 = .ok (.invokevirtual 22, 3) := by decide +kernel
theorem d_Hi_remember_13 : decode M_Hi_remember.1 13 = .ok (.aload_n 0, 1) := by decide +kernel
theorem d_Hi_remember_14 : decode M_Hi_remember.1 14 = .ok (.aload_n 0, 1) := by decide +kernel
theorem d_Hi_remember_15 : decode M_Hi_remember.1 15 = .ok (.getfield 18, 3) := by decide +kernel
theorem d_Hi_remember_18 : decode M_Hi_remember.1 18 = .ok (.iconst 1, 1) := by decide +kernel
theorem d_Hi_remember_19 : decode M_Hi_remember.1 19 = .ok (.iadd, 1) := by decide +kernel
theorem d_Hi_remember_20 : decode M_Hi_remember.1 20 = .ok (.bipush 10, 2) := by decide +kernel
theorem d_Hi_remember_22 : decode M_Hi_remember.1 22 = .ok (.irem, 1) := by decide +kernel
theorem d_Hi_remember_23 : decode M_Hi_remember.1 23 = .ok (.putfield 18, 3) := by decide +kernel
theorem d_Hi_remember_26 : decode M_Hi_remember.1 26 = .ok (.aload_n 0, 1) := by decide +kernel
theorem d_Hi_remember_27 : decode M_Hi_remember.1 27 = .ok (.bipush 10, 2) := by decide +kernel
theorem d_Hi_remember_29 : decode M_Hi_remember.1 29 = .ok (.aload_n 0, 1) := by decide +kernel
theorem d_Hi_remember_30 : decode M_Hi_remember.1 30 = .ok (.getfield 26, 3) := by decide +kernel
theorem d_Hi_remember_33 : decode M_Hi_remember.1 33 = .ok (.iconst 1, 1) := by decide +kernel
theorem d_Hi_remember_34 : decode M_Hi_remember.1 34 = .ok (.iadd, 1) := by decide +kernel
theorem d_Hi_remember_35 : decode M_Hi_remember.1 35 = .ok (.invokestatic 29, 3) := by decide +kernel
theorem d_Hi_remember_38 : decode M_Hi_remember.1 38 = .ok (.putfield 26, 3) := by decide +kernel
theorem d_Hi_remember_41 : decode M_Hi_remember.1 41 = .ok (.return_, 1) := by decide +kernel
theorem d_Hi_takeBack_0 : decode M_Hi_takeBack.1 0 = .ok (.aload_n 0, 1) := by decide +kernel
theorem d_Hi_takeBack_1 : decode M_Hi_takeBack.1 1 = .ok (.aload_n 0, 1) := by decide +kernel
theorem d_Hi_takeBack_2 : decode M_Hi_takeBack.1 2 = .ok (.getfield 18, 3) := by decide +kernel
theorem d_Hi_takeBack_5 : decode M_Hi_takeBack.1 5 = .ok (.bipush 10, 2) := by decide +kernel
theorem d_Hi_takeBack_7 : decode M_Hi_takeBack.1 7 = .ok (.iadd, 1) := by decide +kernel
theorem d_Hi_takeBack_8 : decode M_Hi_takeBack.1 8 = .ok (.iconst 1, 1) := by decide +kernel
theorem d_Hi_takeBack_9 : decode M_Hi_takeBack.1 9 = .ok (.isub, 1) := by decide +kernel
theorem d_Hi_takeBack_10 : decode M_Hi_takeBack.1 10 = .ok (.bipush 10, 2) := by decide +kernel
theorem d_Hi_takeBack_12 : decode M_Hi_takeBack.1 12 = .ok (.irem, 1) := by decide +kernel
theorem d_Hi_takeBack_13 : decode M_Hi_takeBack.1 13 = .ok (.putfield 18, 3) := by decide +kernel
theorem d_Hi_takeBack_16 : decode M_Hi_takeBack.1 16 = .ok (.aload_n 1, 1) := by decide +kernel
theorem d_Hi_takeBack_17 : decode M_Hi_takeBack.1 17 = .ok (.aload_n 0, 1) := by decide +kernel
theorem d_Hi_takeBack_18 : decode M_Hi_takeBack.1 18 = .ok (.getfield 11, 3) := by decide +kernel
theorem d_Hi_takeBack_21 : decode M_Hi_takeBack.1 21 = .ok (.aload_n 0, 1) := by decide +kernel
theorem d_Hi_takeBack_22 : decode M_Hi_takeBack.1 22 = .ok (.getfield 18, 3) := by decide +kernel
theorem d_Hi_takeBack_25 : decode M_Hi_takeBack.1 25 = .ok (.aaload, 1) := by decide +kernel
theorem d_Hi_takeBack_26 : decode M_Hi_takeBack.1 26 = .ok (.invokevirtual 22, 3) := by decide +kernel
theorem d_Hi_takeBack_29 : decode M_Hi_takeBack.1 29 = .ok (.aload_n 0, 1) := by decide +kernel
theorem d_Hi_takeBack_30 : decode M_Hi_takeBack.1 30 = .ok (.dup, 1) := by decide +kernel
theorem d_Hi_takeBack_31 : decode M_Hi_takeBack.1 31 = .ok (.getfield 26, 3) := by decide +kernel
theorem d_Hi_takeBack_34 : decode M_Hi_takeBack.1 34 = .ok (.iconst 1, 1) := by decide +kernel
theorem d_Hi_takeBack_35 : decode M_Hi_takeBack.1 35 = .ok (.isub, 1) := by decide +kernel
theorem d_Hi_takeBack_36 : decode M_Hi_takeBack.1 36 = .ok (.putfield 26, 3) := by decide +kernel
theorem d_Hi_takeBack_39 : decode M_Hi_takeBack.1 39 = .ok (.return_, 1) := by decide +kernel
theorem d_Re_init_0 : decode M_Re_init.1 0 = .ok (.aload_n 0, 1) := by decide +kernel
theorem d_Re_init_1 : decode M_Re_init.1 1 = .ok (.invokespecial 3, 3) := by decide +kernel
theorem d_Re_init_4 : decode M_Re_init.1 4 = .ok (.aload_n 0, 1) := by decide +kernel
theorem d_Re_init_5 : decode M_Re_init.1 5 = .ok (.sipush 200, 3) := by decide +kernel
theorem d_Re_init_8 : decode M_Re_init.1 8 = .ok (.newarray .int, 2) := by decide +kernel
theorem d_Re_init_10 : decode M_Re_init.1 10 = .ok (.putfield 9, 3) := by decide +kernel
theorem d_Re_init_13 : decode M_Re_init.1 13 = .ok (.return_, 1) := by decide +kernel
theorem d_Re_add_0 : decode M_Re_add.1 0 = .ok (.aload_n 0, 1) := by decide +kernel
theorem d_Re_add_1 : decode M_Re_add.1 1 = .ok (.getfield 15, 3) := by decide +kernel
theorem d_Re_add_4 : decode M_Re_add.1 4 = .ok (.sipush 200, 3) := by decide +kernel
theorem d_Re_add_7 : decode M_Re_add.1 7 = .ok (.if_icmp .lt 5, 3) := by decide +kernel
theorem d_Re_add_10 : decode M_Re_add.1 10 = .ok (.iconst 0, 1) := by decide +kernel
theorem d_Re_add_11 : decode M_Re_add.1 11 = .ok (.ireturn, 1) := by decide +kernel
theorem d_Re_add_12 : decode M_Re_add.1 12 = .ok (.aload_n 0, 1) := by decide +kernel
theorem d_Re_add_13 : decode M_Re_add.1 13 = .ok (.getfield 9, 3) := by decide +kernel
theorem d_Re_add_16 : decode M_Re_add.1 16 = .ok (.aload_n 0, 1) := by decide +kernel
theorem d_Re_add_17 : decode M_Re_add.1 17 = .ok (.getfield 15, 3) := by decide +kernel
theorem d_Re_add_20 : decode M_Re_add.1 20 = .ok (.iload_n 1, 1) := by decide +kernel
theorem d_Re_add_21 : decode M_Re_add.1 21 = .ok (.iastore, 1) := by decide +kernel
theorem d_Re_add_22 : decode M_Re_add.1 22 = .ok (.aload_n 0, 1) := by decide +kernel
theorem d_Re_add_23 : decode M_Re_add.1 23 = .ok (.dup, 1) := by decide +kernel
theorem d_Re_add_24 : decode M_Re_add.1 24 = .ok (.getfield 15, 3) := by decide +kernel
theorem d_Re_add_27 : decode M_Re_add.1 27 = .ok (.iconst 1, 1) := by decide +kernel
theorem d_Re_add_28 : decode M_Re_add.1 28 = .ok (.iadd, 1) := by decide +kernel
theorem d_Re_add_29 : decode M_Re_add.1 29 = .ok (.putfield 15, 3) := by decide +kernel
theorem d_Re_add_32 : decode M_Re_add.1 32 = .ok (.iconst 1, 1) := by decide +kernel
theorem d_Re_add_33 : decode M_Re_add.1 33 = .ok (.ireturn, 1) := by decide +kernel
theorem d_Re_empty_0 : decode M_Re_empty.1 0 = .ok (.aload_n 0, 1) := by decide +kernel
theorem d_Re_empty_1 : decode M_Re_empty.1 1 = .ok (.getfield 15, 3) := by decide +kernel
theorem d_Re_empty_4 : decode M_Re_empty.1 4 = .ok (.istore_n 1, 1) := by decide +kernel
theorem d_Re_empty_5 : decode M_Re_empty.1 5 = .ok (.aload_n 0, 1) := by decide +kernel
theorem d_Re_empty_6 : decode M_Re_empty.1 6 = .ok (.iconst 0, 1) := by decide +kernel
theorem d_Re_empty_7 : decode M_Re_empty.1 7 = .ok (.putfield 15, 3) := by decide +kernel
theorem d_Re_empty_10 : decode M_Re_empty.1 10 = .ok (.iload_n 1, 1) := by decide +kernel
theorem d_Re_empty_11 : decode M_Re_empty.1 11 = .ok (.ireturn, 1) := by decide +kernel
theorem d_Re_readInto_0 : decode M_Re_readInto.1 0 = .ok (.aload_n 1, 1) := by decide +kernel
theorem d_Re_readInto_1 : decode M_Re_readInto.1 1 = .ok (.invokevirtual 19, 3) := by decide +kernel
theorem d_Re_readInto_4 : decode M_Re_readInto.1 4 = .ok (.aload_n 0, 1) := by decide +kernel
theorem d_Re_readInto_5 : decode M_Re_readInto.1 5 = .ok (.iconst 0, 1) := by decide +kernel
theorem d_Re_readInto_6 : decode M_Re_readInto.1 6 = .ok (.putfield 24, 3) := by decide +kernel
theorem d_Re_readInto_9 : decode M_Re_readInto.1 9 = .ok (.aload_n 0, 1) := by decide +kernel
theorem d_Re_readInto_10 : decode M_Re_readInto.1 10 = .ok (.iconst 0, 1) := by decide +kernel
theorem d_Re_readInto_11 : decode M_Re_readInto.1 11 = .ok (.putfield 27, 3) := by decide +kernel
theorem d_Re_readInto_14 : decode M_Re_readInto.1 14 = .ok (.aload_n 0, 1) := by decide +kernel
theorem d_Re_readInto_15 : decode M_Re_readInto.1 15 = .ok (.iconst 0, 1) := by decide +kernel
theorem d_Re_readInto_16 : decode M_Re_readInto.1 16 = .ok (.putfield 31, 3) := by decide +kernel
theorem d_Re_readInto_19 : decode M_Re_readInto.1 19 = .ok (.aload_n 0, 1) := by decide +kernel
theorem d_Re_readInto_20 : decode M_Re_readInto.1 20 = .ok (.iconst 0, 1) := by decide +kernel
theorem d_Re_readInto_21 : decode M_Re_readInto.1 21 = .ok (.putfield 34, 3) := by decide +kernel
theorem d_Re_readInto_24 : decode M_Re_readInto.1 24 = .ok (.iconst 0, 1) := by decide +kernel
theorem d_Re_readInto_25 : decode M_Re_readInto.1 25 = .ok (.istore_n 2, 1) := by decide +kernel
theorem d_Re_readInto_26 : decode M_Re_readInto.1 26 = .ok (.iload_n 2, 1) := by decide +kernel
theorem d_Re_readInto_27 : decode M_Re_readInto.1 27 = .ok (.sipush 200, 3) := by decide +kernel
theorem d_Re_readInto_30 : decode M_Re_readInto.1 30 = .ok (.if_icmp .gt 34, 3) := by decide +kernel
theorem d_Re_readInto_33 : decode M_Re_readInto.1 33 = .ok (.aload_n 0, 1) := by decide +kernel
theorem d_Re_readInto_34 : decode M_Re_readInto.1 34 = .ok (.invokevirtual 37, 3) := by decide +kernel
theorem d_Re_readInto_37 : decode M_Re_readInto.1 37 = .ok (.aload_n 0, 1) := by decide +kernel
theorem d_Re_readInto_38 : decode M_Re_readInto.1 38 = .ok (.getfield 40, 3) := by decide +kernel
theorem d_Re_readInto_41 : decode M_Re_readInto.1 41 = .ok (.iconst (-1), 1) := by decide +kernel
theorem d_Re_readInto_42 : decode M_Re_readInto.1 42 = .ok (.if_icmp .ne 5, 3) := by decide +kernel
theorem d_Re_readInto_45 : decode M_Re_readInto.1 45 = .ok (.iload_n 2, 1) := by decide +kernel
theorem d_Re_readInto_46 : decode M_Re_readInto.1 46 = .ok (.ireturn, 1) := by decide +kernel
theorem d_Re_readInto_47 : decode M_Re_readInto.1 47 = .ok (.aload_n 0, 1) := by decide +kernel
theorem d_Re_readInto_48 : decode M_Re_readInto.1 48 = .ok (.aload_n 1, 1) := by decide +kernel
theorem d_Re_readInto_49 : decode M_Re_readInto.1 49 = .ok (.invokevirtual 43, 3) := by decide +kernel
theorem d_Re_readInto_52 : decode M_Re_readInto.1 52 = .ok (.ifCond .ne 6, 3) := by decide +kernel
theorem d_Re_readInto_55 : decode M_Re_readInto.1 55 = .ok (.goto 9, 3) := by decide +kernel
theorem d_Re_readInto_58 : decode M_Re_readInto.1 58 = .ok (.iinc 2 1, 3) := by decide +kernel
theorem d_Re_readInto_61 : decode M_Re_readInto.1 61 = .ok (.goto (-35), 3) := by decide +kernel
theorem d_Re_readInto_64 : decode M_Re_readInto.1 64 = .ok (.bipush (-10), 2) := by decide +kernel
theorem d_Re_readInto_66 : decode M_Re_readInto.1 66 = .ok (.aload_n 0, 1) := by decide +kernel
theorem d_Re_readInto_67 : decode M_Re_readInto.1 67 = .ok (.getfield 47, 3) := by decide +kernel
theorem d_Re_readInto_70 : decode M_Re_readInto.1 70 = .ok (.isub, 1) := by decide +kernel
theorem d_Re_readInto_71 : decode M_Re_readInto.1 71 = .ok (.ireturn, 1) := by decide +kernel
theorem d_Re_readItem_0 : decode M_Re_readItem.1 0 = .ok (.aload_n 0, 1) := by decide +kernel
theorem d_Re_readItem_1 : decode M_Re_readItem.1 1 = .ok (.getfield 40, 3) := by decide +kernel
theorem d_Re_readItem_4 : decode M_Re_readItem.1 4 = .ok (.lookupswitch 158 #[(103, 130), (108, 102), (112, 44), (119, 74)], 44) := by decide +kernel
theorem d_Re_readItem_48 : decode M_Re_readItem.1 48 = .ok (.aload_n 1, 1) := by decide +kernel
theorem d_Re_readItem_49 : decode M_Re_readItem.1 49 = .ok (.getfield 50, 3) := by decide +kernel
theorem d_Re_readItem_52 : decode M_Re_readItem.1 52 = .ok (.bipush 6, 2) := by decide +kernel
theorem d_Re_readItem_54 : decode M_Re_readItem.1 54 = .ok (.if_icmp .ge 22, 3) := by decide +kernel
theorem d_Re_readItem_57 : decode M_Re_readItem.1 57 = .ok (.aload_n 0, 1) := by decide +kernel
theorem d_Re_readItem_58 : decode M_Re_readItem.1 58 = .ok (.aload_n 1, 1) := by decide +kernel
theorem d_Re_readItem_59 : decode M_Re_readItem.1 59 = .ok (.invokevirtual 53, 3) := by decide +kernel
theorem d_Re_readItem_62 : decode M_Re_readItem.1 62 = .ok (.ifCond .eq 14, 3) := by decide +kernel
theorem d_Re_readItem_65 : decode M_Re_readItem.1 65 = .ok (.aload_n 0, 1) := by decide +kernel
theorem d_Re_readItem_66 : decode M_Re_readItem.1 66 = .ok (.invokevirtual 56, 3) := by decide +kernel
theorem d_Re_readItem_69 : decode M_Re_readItem.1 69 = .ok (.ifCond .eq 7, 3) := by decide +kernel
theorem d_Re_readItem_72 : decode M_Re_readItem.1 72 = .ok (.iconst 1, 1) := by decide +kernel
theorem d_Re_readItem_73 : decode M_Re_readItem.1 73 = .ok (.goto 4, 3) := by decide +kernel
theorem d_Re_readItem_76 : decode M_Re_readItem.1 76 = .ok (.iconst 0, 1) := by decide +kernel
theorem d_Re_readItem_77 : decode M_Re_readItem.1 77 = .ok (.ireturn, 1) := by decide +kernel
theorem d_Re_readItem_78 : decode M_Re_readItem.1 78 = .ok (.aload_n 0, 1) := by decide +kernel
theorem d_Re_readItem_79 : decode M_Re_readItem.1 79 = .ok (.getfield 27, 3) := by decide +kernel
theorem d_Re_readItem_82 : decode M_Re_readItem.1 82 = .ok (.ifCond .ne 22, 3) := by decide +kernel
theorem d_Re_readItem_85 : decode M_Re_readItem.1 85 = .ok (.aload_n 0, 1) := by decide +kernel
theorem d_Re_readItem_86 : decode M_Re_readItem.1 86 = .ok (.aload_n 1, 1) := by decide +kernel
theorem d_Re_readItem_87 : decode M_Re_readItem.1 87 = .ok (.invokevirtual 60, 3) := by decide +kernel
theorem d_Re_readItem_90 : decode M_Re_readItem.1 90 = .ok (.ifCond .eq 14, 3) := by decide +kernel
theorem d_Re_readItem_93 : decode M_Re_readItem.1 93 = .ok (.aload_n 0, 1) := by decide +kernel
theorem d_Re_readItem_94 : decode M_Re_readItem.1 94 = .ok (.invokevirtual 56, 3) := by decide +kernel
theorem d_Re_readItem_97 : decode M_Re_readItem.1 97 = .ok (.ifCond .eq 7, 3) := by decide +kernel
theorem d_Re_readItem_100 : decode M_Re_readItem.1 100 = .ok (.iconst 1, 1) := by decide +kernel
theorem d_Re_readItem_101 : decode M_Re_readItem.1 101 = .ok (.goto 4, 3) := by decide +kernel
theorem d_Re_readItem_104 : decode M_Re_readItem.1 104 = .ok (.iconst 0, 1) := by decide +kernel
theorem d_Re_readItem_105 : decode M_Re_readItem.1 105 = .ok (.ireturn, 1) := by decide +kernel
theorem d_Re_readItem_106 : decode M_Re_readItem.1 106 = .ok (.aload_n 0, 1) := by decide +kernel
theorem d_Re_readItem_107 : decode M_Re_readItem.1 107 = .ok (.getfield 31, 3) := by decide +kernel
theorem d_Re_readItem_110 : decode M_Re_readItem.1 110 = .ok (.ifCond .ne 22, 3) := by decide +kernel
theorem d_Re_readItem_113 : decode M_Re_readItem.1 113 = .ok (.aload_n 0, 1) := by decide +kernel
theorem d_Re_readItem_114 : decode M_Re_readItem.1 114 = .ok (.aload_n 1, 1) := by decide +kernel
theorem d_Re_readItem_115 : decode M_Re_readItem.1 115 = .ok (.invokevirtual 63, 3) := by decide +kernel
theorem d_Re_readItem_118 : decode M_Re_readItem.1 118 = .ok (.ifCond .eq 14, 3) := by decide +kernel
theorem d_Re_readItem_121 : decode M_Re_readItem.1 121 = .ok (.aload_n 0, 1) := by decide +kernel
theorem d_Re_readItem_122 : decode M_Re_readItem.1 122 = .ok (.invokevirtual 56, 3) := by decide +kernel
theorem d_Re_readItem_125 : decode M_Re_readItem.1 125 = .ok (.ifCond .eq 7, 3) := by decide +kernel
theorem d_Re_readItem_128 : decode M_Re_readItem.1 128 = .ok (.iconst 1, 1) := by decide +kernel
theorem d_Re_readItem_129 : decode M_Re_readItem.1 129 = .ok (.goto 4, 3) := by decide +kernel
theorem d_Re_readItem_132 : decode M_Re_readItem.1 132 = .ok (.iconst 0, 1) := by decide +kernel
theorem d_Re_readItem_133 : decode M_Re_readItem.1 133 = .ok (.ireturn, 1) := by decide +kernel
theorem d_Re_readItem_134 : decode M_Re_readItem.1 134 = .ok (.aload_n 0, 1) := by decide +kernel
theorem d_Re_readItem_135 : decode M_Re_readItem.1 135 = .ok (.getfield 34, 3) := by decide +kernel
theorem d_Re_readItem_138 : decode M_Re_readItem.1 138 = .ok (.ifCond .ne 22, 3) := by decide +kernel
theorem d_Re_readItem_141 : decode M_Re_readItem.1 141 = .ok (.aload_n 0, 1) := by decide +kernel
theorem d_Re_readItem_142 : decode M_Re_readItem.1 142 = .ok (.aload_n 1, 1) := by decide +kernel
theorem d_Re_readItem_143 : decode M_Re_readItem.1 143 = .ok (.invokevirtual 66, 3) := by decide +kernel
theorem d_Re_readItem_146 : decode M_Re_readItem.1 146 = .ok (.ifCond .eq 14, 3) := by decide +kernel
theorem d_Re_readItem_149 : decode M_Re_readItem.1 149 = .ok (.aload_n 0, 1) := by decide +kernel
theorem d_Re_readItem_150 : decode M_Re_readItem.1 150 = .ok (.invokevirtual 56, 3) := by decide +kernel
theorem d_Re_readItem_153 : decode M_Re_readItem.1 153 = .ok (.ifCond .eq 7, 3) := by decide +kernel
theorem d_Re_readItem_156 : decode M_Re_readItem.1 156 = .ok (.iconst 1, 1) := by decide +kernel
theorem d_Re_readItem_157 : decode M_Re_readItem.1 157 = .ok (.goto 4, 3) := by decide +kernel
theorem d_Re_readItem_160 : decode M_Re_readItem.1 160 = .ok (.iconst 0, 1) := by decide +kernel
theorem d_Re_readItem_161 : decode M_Re_readItem.1 161 = .ok (.ireturn, 1) := by decide +kernel
theorem d_Re_readItem_162 : decode M_Re_readItem.1 162 = .ok (.iconst 0, 1) := by decide +kernel
theorem d_Re_readItem_163 : decode M_Re_readItem.1 163 = .ok (.ireturn, 1) := by decide +kernel
theorem d_Re_readPew_0 : decode M_Re_readPew.1 0 = .ok (.aload_n 1, 1) := by decide +kernel
theorem d_Re_readPew_1 : decode M_Re_readPew.1 1 = .ok (.getfield 50, 3) := by decide +kernel
theorem d_Re_readPew_4 : decode M_Re_readPew.1 4 = .ok (.istore_n 2, 1) := by decide +kernel
theorem d_Re_readPew_5 : decode M_Re_readPew.1 5 = .ok (.aload_n 0, 1) := by decide +kernel
theorem d_Re_readPew_6 : decode M_Re_readPew.1 6 = .ok (.iconst 0, 1) := by decide +kernel
theorem d_Re_readPew_7 : decode M_Re_readPew.1 7 = .ok (.bipush 60, 2) := by decide +kernel
theorem d_Re_readPew_9 : decode M_Re_readPew.1 9 = .ok (.invokevirtual 69, 3) := by decide +kernel
theorem d_Re_readPew_12 : decode M_Re_readPew.1 12 = .ok (.ifCond .ne 5, 3) := by decide +kernel
theorem d_Re_readPew_15 : decode M_Re_readPew.1 15 = .ok (.iconst 0, 1) := by decide +kernel
theorem d_Re_readPew_16 : decode M_Re_readPew.1 16 = .ok (.ireturn, 1) := by decide +kernel
theorem d_Re_readPew_17 : decode M_Re_readPew.1 17 = .ok (.aload_n 1, 1) := by decide +kernel
theorem d_Re_readPew_18 : decode M_Re_readPew.1 18 = .ok (.getfield 73, 3) := by decide +kernel
theorem d_Re_readPew_21 : decode M_Re_readPew.1 21 = .ok (.iload_n 2, 1) := by decide +kernel
theorem d_Re_readPew_22 : decode M_Re_readPew.1 22 = .ok (.aload_n 0, 1) := by decide +kernel
theorem d_Re_readPew_23 : decode M_Re_readPew.1 23 = .ok (.getfield 76, 3) := by decide +kernel
theorem d_Re_readPew_26 : decode M_Re_readPew.1 26 = .ok (.iastore, 1) := by decide +kernel
theorem d_Re_readPew_27 : decode M_Re_readPew.1 27 = .ok (.aload_n 0, 1) := by decide +kernel
theorem d_Re_readPew_28 : decode M_Re_readPew.1 28 = .ok (.iconst 0, 1) := by decide +kernel
theorem d_Re_readPew_29 : decode M_Re_readPew.1 29 = .ok (.bipush 9, 2) := by decide +kernel
theorem d_Re_readPew_31 : decode M_Re_readPew.1 31 = .ok (.invokevirtual 69, 3) := by decide +kernel
theorem d_Re_readPew_34 : decode M_Re_readPew.1 34 = .ok (.ifCond .ne 5, 3) := by decide +kernel
theorem d_Re_readPew_37 : decode M_Re_readPew.1 37 = .ok (.iconst 0, 1) := by decide +kernel
theorem d_Re_readPew_38 : decode M_Re_readPew.1 38 = .ok (.ireturn, 1) := by decide +kernel
theorem d_Re_readPew_39 : decode M_Re_readPew.1 39 = .ok (.aload_n 1, 1) := by decide +kernel
theorem d_Re_readPew_40 : decode M_Re_readPew.1 40 = .ok (.getfield 79, 3) := by decide +kernel
theorem d_Re_readPew_43 : decode M_Re_readPew.1 43 = .ok (.iload_n 2, 1) := by decide +kernel
theorem d_Re_readPew_44 : decode M_Re_readPew.1 44 = .ok (.aload_n 0, 1) := by decide +kernel
theorem d_Re_readPew_45 : decode M_Re_readPew.1 45 = .ok (.getfield 76, 3) := by decide +kernel
theorem d_Re_readPew_48 : decode M_Re_readPew.1 48 = .ok (.iastore, 1) := by decide +kernel
theorem d_Re_readPew_49 : decode M_Re_readPew.1 49 = .ok (.aload_n 0, 1) := by decide +kernel
theorem d_Re_readPew_50 : decode M_Re_readPew.1 50 = .ok (.iconst 0, 1) := by decide +kernel
theorem d_Re_readPew_51 : decode M_Re_readPew.1 51 = .ok (.bipush 9, 2) := by decide +kernel
theorem d_Re_readPew_53 : decode M_Re_readPew.1 53 = .ok (.invokevirtual 69, 3) := by decide +kernel
theorem d_Re_readPew_56 : decode M_Re_readPew.1 56 = .ok (.ifCond .ne 5, 3) := by decide +kernel
theorem d_Re_readPew_59 : decode M_Re_readPew.1 59 = .ok (.iconst 0, 1) := by decide +kernel
theorem d_Re_readPew_60 : decode M_Re_readPew.1 60 = .ok (.ireturn, 1) := by decide +kernel
theorem d_Re_readPew_61 : decode M_Re_readPew.1 61 = .ok (.aload_n 1, 1) := by decide +kernel
theorem d_Re_readPew_62 : decode M_Re_readPew.1 62 = .ok (.getfield 82, 3) := by decide +kernel
theorem d_Re_readPew_65 : decode M_Re_readPew.1 65 = .ok (.iload_n 2, 1) := by decide +kernel
theorem d_Re_readPew_66 : decode M_Re_readPew.1 66 = .ok (.aload_n 0, 1) := by decide +kernel
theorem d_Re_readPew_67 : decode M_Re_readPew.1 67 = .ok (.getfield 76, 3) := by decide +kernel
theorem d_Re_readPew_70 : decode M_Re_readPew.1 70 = .ok (.iastore, 1) := by decide +kernel
theorem d_Re_readPew_71 : decode M_Re_readPew.1 71 = .ok (.aload_n 0, 1) := by decide +kernel
theorem d_Re_readPew_72 : decode M_Re_readPew.1 72 = .ok (.iconst 0, 1) := by decide +kernel
theorem d_Re_readPew_73 : decode M_Re_readPew.1 73 = .ok (.bipush 9, 2) := by decide +kernel
theorem d_Re_readPew_75 : decode M_Re_readPew.1 75 = .ok (.invokevirtual 69, 3) := by decide +kernel
theorem d_Re_readPew_78 : decode M_Re_readPew.1 78 = .ok (.ifCond .ne 5, 3) := by decide +kernel
theorem d_Re_readPew_81 : decode M_Re_readPew.1 81 = .ok (.iconst 0, 1) := by decide +kernel
theorem d_Re_readPew_82 : decode M_Re_readPew.1 82 = .ok (.ireturn, 1) := by decide +kernel
theorem d_Re_readPew_83 : decode M_Re_readPew.1 83 = .ok (.aload_n 1, 1) := by decide +kernel
theorem d_Re_readPew_84 : decode M_Re_readPew.1 84 = .ok (.getfield 85, 3) := by decide +kernel
theorem d_Re_readPew_87 : decode M_Re_readPew.1 87 = .ok (.iload_n 2, 1) := by decide +kernel
theorem d_Re_readPew_88 : decode M_Re_readPew.1 88 = .ok (.aload_n 0, 1) := by decide +kernel
theorem d_Re_readPew_89 : decode M_Re_readPew.1 89 = .ok (.getfield 76, 3) := by decide +kernel
theorem d_Re_readPew_92 : decode M_Re_readPew.1 92 = .ok (.iastore, 1) := by decide +kernel
theorem d_Re_readPew_93 : decode M_Re_readPew.1 93 = .ok (.aload_n 1, 1) := by decide +kernel
theorem d_Re_readPew_94 : decode M_Re_readPew.1 94 = .ok (.dup, 1) := by decide +kernel
theorem d_Re_readPew_95 : decode M_Re_readPew.1 95 = .ok (.getfield 50, 3) := by decide +kernel
theorem d_Re_readPew_98 : decode M_Re_readPew.1 98 = .ok (.iconst 1, 1) := by decide +kernel
theorem d_Re_readPew_99 : decode M_Re_readPew.1 99 = .ok (.iadd, 1) := by decide +kernel
theorem d_Re_readPew_100 : decode M_Re_readPew.1 100 = .ok (.putfield 50, 3) := by decide +kernel
theorem d_Re_readPew_103 : decode M_Re_readPew.1 103 = .ok (.iconst 1, 1) := by decide +kernel
theorem d_Re_readPew_104 : decode M_Re_readPew.1 104 = .ok (.ireturn, 1) := by decide +kernel
theorem d_Re_readWait_0 : decode M_Re_readWait.1 0 = .ok (.aload_n 0, 1) := by decide +kernel
theorem d_Re_readWait_1 : decode M_Re_readWait.1 1 = .ok (.aload_n 0, 1) := by decide +kernel
theorem d_Re_readWait_2 : decode M_Re_readWait.1 2 = .ok (.iconst 0, 1) := by decide +kernel
theorem d_Re_readWait_3 : decode M_Re_readWait.1 3 = .ok (.bipush 10, 2) := by decide +kernel
theorem d_Re_readWait_5 : decode M_Re_readWait.1 5 = .ok (.invokevirtual 69, 3) := by decide +kernel
theorem d_Re_readWait_8 : decode M_Re_readWait.1 8 = .ok (.putfield 27, 3) := by decide +kernel
theorem d_Re_readWait_11 : decode M_Re_readWait.1 11 = .ok (.aload_n 1, 1) := by decide +kernel
theorem d_Re_readWait_12 : decode M_Re_readWait.1 12 = .ok (.aload_n 0, 1) := by decide +kernel
theorem d_Re_readWait_13 : decode M_Re_readWait.1 13 = .ok (.getfield 76, 3) := by decide +kernel
theorem d_Re_readWait_16 : decode M_Re_readWait.1 16 = .ok (.putfield 88, 3) := by decide +kernel
theorem d_Re_readWait_19 : decode M_Re_readWait.1 19 = .ok (.aload_n 0, 1) := by decide +kernel
theorem d_Re_readWait_20 : decode M_Re_readWait.1 20 = .ok (.getfield 27, 3) := by decide +kernel
theorem d_Re_readWait_23 : decode M_Re_readWait.1 23 = .ok (.ireturn, 1) := by decide +kernel
theorem d_Re_readLines_0 : decode M_Re_readLines.1 0 = .ok (.aload_n 0, 1) := by decide +kernel
theorem d_Re_readLines_1 : decode M_Re_readLines.1 1 = .ok (.aload_n 0, 1) := by decide +kernel
theorem d_Re_readLines_2 : decode M_Re_readLines.1 2 = .ok (.iconst 1, 1) := by decide +kernel
theorem d_Re_readLines_3 : decode M_Re_readLines.1 3 = .ok (.bipush 9, 2) := by decide +kernel
theorem d_Re_readLines_5 : decode M_Re_readLines.1 5 = .ok (.invokevirtual 69, 3) := by decide +kernel
theorem d_Re_readLines_8 : decode M_Re_readLines.1 8 = .ok (.putfield 31, 3) := by decide +kernel
theorem d_Re_readLines_11 : decode M_Re_readLines.1 11 = .ok (.aload_n 1, 1) := by decide +kernel
theorem d_Re_readLines_12 : decode M_Re_readLines.1 12 = .ok (.aload_n 0, 1) := by decide +kernel
theorem d_Re_readLines_13 : decode M_Re_readLines.1 13 = .ok (.getfield 76, 3) := by decide +kernel
theorem d_Re_readLines_16 : decode M_Re_readLines.1 16 = .ok (.putfield 91, 3) := by decide +kernel
theorem d_Re_readLines_19 : decode M_Re_readLines.1 19 = .ok (.aload_n 0, 1) := by decide +kernel
theorem d_Re_readLines_20 : decode M_Re_readLines.1 20 = .ok (.getfield 31, 3) := by decide +kernel
theorem d_Re_readLines_23 : decode M_Re_readLines.1 23 = .ok (.ireturn, 1) := by decide +kernel
theorem d_Re_readGap_0 : decode M_Re_readGap.1 0 = .ok (.aload_n 0, 1) := by decide +kernel
theorem d_Re_readGap_1 : decode M_Re_readGap.1 1 = .ok (.aload_n 0, 1) := by decide +kernel
theorem d_Re_readGap_2 : decode M_Re_readGap.1 2 = .ok (.iconst 0, 1) := by decide +kernel
theorem d_Re_readGap_3 : decode M_Re_readGap.1 3 = .ok (.bipush 9, 2) := by decide +kernel
theorem d_Re_readGap_5 : decode M_Re_readGap.1 5 = .ok (.invokevirtual 69, 3) := by decide +kernel
theorem d_Re_readGap_8 : decode M_Re_readGap.1 8 = .ok (.putfield 34, 3) := by decide +kernel
theorem d_Re_readGap_11 : decode M_Re_readGap.1 11 = .ok (.aload_n 1, 1) := by decide +kernel
theorem d_Re_readGap_12 : decode M_Re_readGap.1 12 = .ok (.aload_n 0, 1) := by decide +kernel
theorem d_Re_readGap_13 : decode M_Re_readGap.1 13 = .ok (.getfield 76, 3) := by decide +kernel
theorem d_Re_readGap_16 : decode M_Re_readGap.1 16 = .ok (.putfield 94, 3) := by decide +kernel
theorem d_Re_readGap_19 : decode M_Re_readGap.1 19 = .ok (.aload_n 0, 1) := by decide +kernel
theorem d_Re_readGap_20 : decode M_Re_readGap.1 20 = .ok (.getfield 34, 3) := by decide +kernel
theorem d_Re_readGap_23 : decode M_Re_readGap.1 23 = .ok (.ireturn, 1) := by decide +kernel
theorem d_Re_readNumber_0 : decode M_Re_readNumber.1 0 = .ok (.aload_n 0, 1) := by decide +kernel
theorem d_Re_readNumber_1 : decode M_Re_readNumber.1 1 = .ok (.invokevirtual 37, 3) := by decide +kernel
theorem d_Re_readNumber_4 : decode M_Re_readNumber.1 4 = .ok (.aload_n 0, 1) := by decide +kernel
theorem d_Re_readNumber_5 : decode M_Re_readNumber.1 5 = .ok (.getfield 40, 3) := by decide +kernel
theorem d_Re_readNumber_8 : decode M_Re_readNumber.1 8 = .ok (.bipush (-2), 2) := by decide +kernel
theorem d_Re_readNumber_10 : decode M_Re_readNumber.1 10 = .ok (.if_icmp .ne 19, 3) := by decide +kernel
theorem d_Re_readNumber_13 : decode M_Re_readNumber.1 13 = .ok (.aload_n 0, 1) := by decide +kernel
theorem d_Re_readNumber_14 : decode M_Re_readNumber.1 14 = .ok (.getfield 76, 3) := by decide +kernel
theorem d_Re_readNumber_17 : decode M_Re_readNumber.1 17 = .ok (.iload_n 1, 1) := by decide +kernel
theorem d_Re_readNumber_18 : decode M_Re_readNumber.1 18 = .ok (.iload_n 2, 1) := by decide +kernel
theorem d_Re_readNumber_19 : decode M_Re_readNumber.1 19 = .ok (.invokestatic 97, 3) := by decide +kernel
theorem d_Re_readNumber_22 : decode M_Re_readNumber.1 22 = .ok (.ifCond .eq 7, 3) := by decide +kernel
theorem d_Re_readNumber_25 : decode M_Re_readNumber.1 25 = .ok (.iconst 1, 1) := by decide +kernel
theorem d_Re_readNumber_26 : decode M_Re_readNumber.1 26 = .ok (.goto 4, 3) := by decide +kernel
theorem d_Re_readNumber_29 : decode M_Re_readNumber.1 29 = .ok (.iconst 0, 1) := by decide +kernel
theorem d_Re_readNumber_30 : decode M_Re_readNumber.1 30 = .ok (.ireturn, 1) := by decide +kernel
theorem d_Re_readItemEnd_0 : decode M_Re_readItemEnd.1 0 = .ok (.aload_n 0, 1) := by decide +kernel
theorem d_Re_readItemEnd_1 : decode M_Re_readItemEnd.1 1 = .ok (.invokevirtual 37, 3) := by decide +kernel
theorem d_Re_readItemEnd_4 : decode M_Re_readItemEnd.1 4 = .ok (.aload_n 0, 1) := by decide +kernel
theorem d_Re_readItemEnd_5 : decode M_Re_readItemEnd.1 5 = .ok (.getfield 40, 3) := by decide +kernel
theorem d_Re_readItemEnd_8 : decode M_Re_readItemEnd.1 8 = .ok (.bipush 59, 2) := by decide +kernel
theorem d_Re_readItemEnd_10 : decode M_Re_readItemEnd.1 10 = .ok (.if_icmp .ne 7, 3) := by decide +kernel
theorem d_Re_readItemEnd_13 : decode M_Re_readItemEnd.1 13 = .ok (.iconst 1, 1) := by decide +kernel
theorem d_Re_readItemEnd_14 : decode M_Re_readItemEnd.1 14 = .ok (.goto 4, 3) := by decide +kernel
theorem d_Re_readItemEnd_17 : decode M_Re_readItemEnd.1 17 = .ok (.iconst 0, 1) := by decide +kernel
theorem d_Re_readItemEnd_18 : decode M_Re_readItemEnd.1 18 = .ok (.ireturn, 1) := by decide +kernel
theorem d_Re_readToken_0 : decode M_Re_readToken.1 0 = .ok (.aload_n 0, 1) := by decide +kernel
theorem d_Re_readToken_1 : decode M_Re_readToken.1 1 = .ok (.getfield 24, 3) := by decide +kernel
theorem d_Re_readToken_4 : decode M_Re_readToken.1 4 = .ok (.aload_n 0, 1) := by decide +kernel
theorem d_Re_readToken_5 : decode M_Re_readToken.1 5 = .ok (.getfield 15, 3) := by decide +kernel
theorem d_Re_readToken_8 : decode M_Re_readToken.1 8 = .ok (.if_icmp .ge 30, 3) := by decide +kernel
theorem d_Re_readToken_11 : decode M_Re_readToken.1 11 = .ok (.aload_n 0, 1) := by decide +kernel
theorem d_Re_readToken_12 : decode M_Re_readToken.1 12 = .ok (.getfield 9, 3) := by decide +kernel
theorem d_Re_readToken_15 : decode M_Re_readToken.1 15 = .ok (.aload_n 0, 1) := by decide +kernel
theorem d_Re_readToken_16 : decode M_Re_readToken.1 16 = .ok (.getfield 24, 3) := by decide +kernel
theorem d_Re_readToken_19 : decode M_Re_readToken.1 19 = .ok (.iaload, 1) := by decide +kernel
theorem d_Re_readToken_20 : decode M_Re_readToken.1 20 = .ok (.bipush 32, 2) := by decide +kernel
theorem d_Re_readToken_22 : decode M_Re_readToken.1 22 = .ok (.if_icmp .ne 16, 3) := by decide +kernel
theorem d_Re_readToken_25 : decode M_Re_readToken.1 25 = .ok (.aload_n 0, 1) := by decide +kernel
theorem d_Re_readToken_26 : decode M_Re_readToken.1 26 = .ok (.dup, 1) := by decide +kernel
theorem d_Re_readToken_27 : decode M_Re_readToken.1 27 = .ok (.getfield 24, 3) := by decide +kernel
theorem d_Re_readToken_30 : decode M_Re_readToken.1 30 = .ok (.iconst 1, 1) := by decide +kernel
theorem d_Re_readToken_31 : decode M_Re_readToken.1 31 = .ok (.iadd, 1) := by decide +kernel
theorem d_Re_readToken_32 : decode M_Re_readToken.1 32 = .ok (.putfield 24, 3) := by decide +kernel
theorem d_Re_readToken_35 : decode M_Re_readToken.1 35 = .ok (.goto (-35), 3) := by decide +kernel
theorem d_Re_readToken_38 : decode M_Re_readToken.1 38 = .ok (.aload_n 0, 1) := by decide +kernel
theorem d_Re_readToken_39 : decode M_Re_readToken.1 39 = .ok (.aload_n 0, 1) := by decide +kernel
theorem d_Re_readToken_40 : decode M_Re_readToken.1 40 = .ok (.getfield 24, 3) := by decide +kernel
theorem d_Re_readToken_43 : decode M_Re_readToken.1 43 = .ok (.putfield 47, 3) := by decide +kernel
theorem d_Re_readToken_46 : decode M_Re_readToken.1 46 = .ok (.aload_n 0, 1) := by decide +kernel
theorem d_Re_readToken_47 : decode M_Re_readToken.1 47 = .ok (.getfield 24, 3) := by decide +kernel
theorem d_Re_readToken_50 : decode M_Re_readToken.1 50 = .ok (.aload_n 0, 1) := by decide +kernel
theorem d_Re_readToken_51 : decode M_Re_readToken.1 51 = .ok (.getfield 15, 3) := by decide +kernel
theorem d_Re_readToken_54 : decode M_Re_readToken.1 54 = .ok (.if_icmp .lt 11, 3) := by decide +kernel
theorem d_Re_readToken_57 : decode M_Re_readToken.1 57 = .ok (.aload_n 0, 1) := by decide +kernel
theorem d_Re_readToken_58 : decode M_Re_readToken.1 58 = .ok (.iconst (-1), 1) := by decide +kernel
theorem d_Re_readToken_59 : decode M_Re_readToken.1 59 = .ok (.putfield 40, 3) := by decide +kernel
theorem d_Re_readToken_62 : decode M_Re_readToken.1 62 = .ok (.goto 48, 3) := by decide +kernel
theorem d_Re_readToken_65 : decode M_Re_readToken.1 65 = .ok (.aload_n 0, 1) := by decide +kernel
theorem d_Re_readToken_66 : decode M_Re_readToken.1 66 = .ok (.getfield 9, 3) := by decide +kernel
theorem d_Re_readToken_69 : decode M_Re_readToken.1 69 = .ok (.aload_n 0, 1) := by decide +kernel
theorem d_Re_readToken_70 : decode M_Re_readToken.1 70 = .ok (.getfield 24, 3) := by decide +kernel
theorem d_Re_readToken_73 : decode M_Re_readToken.1 73 = .ok (.iaload, 1) := by decide +kernel
theorem d_Re_readToken_74 : decode M_Re_readToken.1 74 = .ok (.invokestatic 101, 3) := by decide +kernel
theorem d_Re_readToken_77 : decode M_Re_readToken.1 77 = .ok (.ifCond .eq 10, 3) := by decide +kernel
theorem d_Re_readToken_80 : decode M_Re_readToken.1 80 = .ok (.aload_n 0, 1) := by decide +kernel
theorem d_Re_readToken_81 : decode M_Re_readToken.1 81 = .ok (.invokevirtual 105, 3) := by decide +kernel
theorem d_Re_readToken_84 : decode M_Re_readToken.1 84 = .ok (.goto 26, 3) := by decide +kernel
theorem d_Re_readToken_87 : decode M_Re_readToken.1 87 = .ok (.aload_n 0, 1) := by decide +kernel
theorem d_Re_readToken_88 : decode M_Re_readToken.1 88 = .ok (.aload_n 0, 1) := by decide +kernel
theorem d_Re_readToken_89 : decode M_Re_readToken.1 89 = .ok (.getfield 9, 3) := by decide +kernel
theorem d_Re_readToken_92 : decode M_Re_readToken.1 92 = .ok (.aload_n 0, 1) := by decide +kernel
theorem d_Re_readToken_93 : decode M_Re_readToken.1 93 = .ok (.getfield 24, 3) := by decide +kernel
theorem d_Re_readToken_96 : decode M_Re_readToken.1 96 = .ok (.iaload, 1) := by decide +kernel
theorem d_Re_readToken_97 : decode M_Re_readToken.1 97 = .ok (.putfield 40, 3) := by decide +kernel
theorem d_Re_readToken_100 : decode M_Re_readToken.1 100 = .ok (.aload_n 0, 1) := by decide +kernel
theorem d_Re_readToken_101 : decode M_Re_readToken.1 101 = .ok (.dup, 1) := by decide +kernel
theorem d_Re_readToken_102 : decode M_Re_readToken.1 102 = .ok (.getfield 24, 3) := by decide +kernel
theorem d_Re_readToken_105 : decode M_Re_readToken.1 105 = .ok (.iconst 1, 1) := by decide +kernel
theorem d_Re_readToken_106 : decode M_Re_readToken.1 106 = .ok (.iadd, 1) := by decide +kernel
theorem d_Re_readToken_107 : decode M_Re_readToken.1 107 = .ok (.putfield 24, 3) := by decide +kernel
theorem d_Re_readToken_110 : decode M_Re_readToken.1 110 = .ok (.return_, 1) := by decide +kernel
theorem d_Re_readDigits_0 : decode M_Re_readDigits.1 0 = .ok (.aload_n 0, 1) := by decide +kernel
theorem d_Re_readDigits_1 : decode M_Re_readDigits.1 1 = .ok (.iconst 0, 1) := by decide +kernel
theorem d_Re_readDigits_2 : decode M_Re_readDigits.1 2 = .ok (.putfield 76, 3) := by decide +kernel
theorem d_Re_readDigits_5 : decode M_Re_readDigits.1 5 = .ok (.aload_n 0, 1) := by decide +kernel
theorem d_Re_readDigits_6 : decode M_Re_readDigits.1 6 = .ok (.getfield 24, 3) := by decide +kernel
theorem d_Re_readDigits_9 : decode M_Re_readDigits.1 9 = .ok (.aload_n 0, 1) := by decide +kernel
theorem d_Re_readDigits_10 : decode M_Re_readDigits.1 10 = .ok (.getfield 15, 3) := by decide +kernel
theorem d_Re_readDigits_13 : decode M_Re_readDigits.1 13 = .ok (.if_icmp .ge 55, 3) := by decide +kernel
theorem d_Re_readDigits_16 : decode M_Re_readDigits.1 16 = .ok (.aload_n 0, 1) := by decide +kernel
theorem d_Re_readDigits_17 : decode M_Re_readDigits.1 17 = .ok (.getfield 9, 3) := by decide +kernel
theorem d_Re_readDigits_20 : decode M_Re_readDigits.1 20 = .ok (.aload_n 0, 1) := by decide +kernel
theorem d_Re_readDigits_21 : decode M_Re_readDigits.1 21 = .ok (.getfield 24, 3) := by decide +kernel
theorem d_Re_readDigits_24 : decode M_Re_readDigits.1 24 = .ok (.iaload, 1) := by decide +kernel
theorem d_Re_readDigits_25 : decode M_Re_readDigits.1 25 = .ok (.invokestatic 101, 3) := by decide +kernel
theorem d_Re_readDigits_28 : decode M_Re_readDigits.1 28 = .ok (.ifCond .eq 40, 3) := by decide +kernel
theorem d_Re_readDigits_31 : decode M_Re_readDigits.1 31 = .ok (.aload_n 0, 1) := by decide +kernel
theorem d_Re_readDigits_32 : decode M_Re_readDigits.1 32 = .ok (.bipush 10, 2) := by decide +kernel
theorem d_Re_readDigits_34 : decode M_Re_readDigits.1 34 = .ok (.aload_n 0, 1) := by decide +kernel
theorem d_Re_readDigits_35 : decode M_Re_readDigits.1 35 = .ok (.getfield 76, 3) := by decide +kernel
theorem d_Re_readDigits_38 : decode M_Re_readDigits.1 38 = .ok (.imul, 1) := by decide +kernel
theorem d_Re_readDigits_39 : decode M_Re_readDigits.1 39 = .ok (.aload_n 0, 1) := by decide +kernel
theorem d_Re_readDigits_40 : decode M_Re_readDigits.1 40 = .ok (.getfield 9, 3) := by decide +kernel
theorem d_Re_readDigits_43 : decode M_Re_readDigits.1 43 = .ok (.aload_n 0, 1) := by decide +kernel
theorem d_Re_readDigits_44 : decode M_Re_readDigits.1 44 = .ok (.getfield 24, 3) := by decide +kernel
theorem d_Re_readDigits_47 : decode M_Re_readDigits.1 47 = .ok (.iaload, 1) := by decide +kernel
theorem d_Re_readDigits_48 : decode M_Re_readDigits.1 48 = .ok (.iadd, 1) := by decide +kernel
theorem d_Re_readDigits_49 : decode M_Re_readDigits.1 49 = .ok (.bipush 48, 2) := by decide +kernel
theorem d_Re_readDigits_51 : decode M_Re_readDigits.1 51 = .ok (.isub, 1) := by decide +kernel
theorem d_Re_readDigits_52 : decode M_Re_readDigits.1 52 = .ok (.putfield 76, 3) := by decide +kernel
theorem d_Re_readDigits_55 : decode M_Re_readDigits.1 55 = .ok (.aload_n 0, 1) := by decide +kernel
theorem d_Re_readDigits_56 : decode M_Re_readDigits.1 56 = .ok (.dup, 1) := by decide +kernel
theorem d_Re_readDigits_57 : decode M_Re_readDigits.1 57 = .ok (.getfield 24, 3) := by decide +kernel
theorem d_Re_readDigits_60 : decode M_Re_readDigits.1 60 = .ok (.iconst 1, 1) := by decide +kernel
theorem d_Re_readDigits_61 : decode M_Re_readDigits.1 61 = .ok (.iadd, 1) := by decide +kernel
theorem d_Re_readDigits_62 : decode M_Re_readDigits.1 62 = .ok (.putfield 24, 3) := by decide +kernel
theorem d_Re_readDigits_65 : decode M_Re_readDigits.1 65 = .ok (.goto (-60), 3) := by decide +kernel
theorem d_Re_readDigits_68 : decode M_Re_readDigits.1 68 = .ok (.aload_n 0, 1) := by decide +kernel
theorem d_Re_readDigits_69 : decode M_Re_readDigits.1 69 = .ok (.getfield 24, 3) := by decide +kernel
theorem d_Re_readDigits_72 : decode M_Re_readDigits.1 72 = .ok (.aload_n 0, 1) := by decide +kernel
theorem d_Re_readDigits_73 : decode M_Re_readDigits.1 73 = .ok (.getfield 47, 3) := by decide +kernel
theorem d_Re_readDigits_76 : decode M_Re_readDigits.1 76 = .ok (.isub, 1) := by decide +kernel
theorem d_Re_readDigits_77 : decode M_Re_readDigits.1 77 = .ok (.istore_n 1, 1) := by decide +kernel
theorem d_Re_readDigits_78 : decode M_Re_readDigits.1 78 = .ok (.iload_n 1, 1) := by decide +kernel
theorem d_Re_readDigits_79 : decode M_Re_readDigits.1 79 = .ok (.iconst 2, 1) := by decide +kernel
theorem d_Re_readDigits_80 : decode M_Re_readDigits.1 80 = .ok (.if_icmp .gt 22, 3) := by decide +kernel
theorem d_Re_readDigits_83 : decode M_Re_readDigits.1 83 = .ok (.iload_n 1, 1) := by decide +kernel
theorem d_Re_readDigits_84 : decode M_Re_readDigits.1 84 = .ok (.iconst 1, 1) := by decide +kernel
theorem d_Re_readDigits_85 : decode M_Re_readDigits.1 85 = .ok (.if_icmp .le 21, 3) := by decide +kernel
theorem d_Re_readDigits_88 : decode M_Re_readDigits.1 88 = .ok (.aload_n 0, 1) := by decide +kernel
theorem d_Re_readDigits_89 : decode M_Re_readDigits.1 89 = .ok (.getfield 9, 3) := by decide +kernel
theorem d_Re_readDigits_92 : decode M_Re_readDigits.1 92 = .ok (.aload_n 0, 1) := by decide +kernel
theorem d_Re_readDigits_93 : decode M_Re_readDigits.1 93 = .ok (.getfield 47, 3) := by decide +kernel
theorem d_Re_readDigits_96 : decode M_Re_readDigits.1 96 = .ok (.iaload, 1) := by decide +kernel
theorem d_Re_readDigits_97 : decode M_Re_readDigits.1 97 = .ok (.bipush 48, 2) := by decide +kernel
theorem d_Re_readDigits_99 : decode M_Re_readDigits.1 99 = .ok (.if_icmp .ne 7, 3) := by decide +kernel
theorem d_Re_readDigits_102 : decode M_Re_readDigits.1 102 = .ok (.iconst 1, 1) := by decide +kernel
theorem d_Re_readDigits_103 : decode M_Re_readDigits.1 103 = .ok (.goto 4, 3) := by decide +kernel
theorem d_Re_readDigits_106 : decode M_Re_readDigits.1 106 = .ok (.iconst 0, 1) := by decide +kernel
theorem d_Re_readDigits_107 : decode M_Re_readDigits.1 107 = .ok (.istore_n 2, 1) := by decide +kernel
theorem d_Re_readDigits_108 : decode M_Re_readDigits.1 108 = .ok (.aload_n 0, 1) := by decide +kernel
theorem d_Re_readDigits_109 : decode M_Re_readDigits.1 109 = .ok (.iload_n 2, 1) := by decide +kernel
theorem d_Re_readDigits_110 : decode M_Re_readDigits.1 110 = .ok (.ifCond .eq 8, 3) := by decide +kernel
theorem d_Re_readDigits_113 : decode M_Re_readDigits.1 113 = .ok (.bipush (-3), 2) := by decide +kernel
theorem d_Re_readDigits_115 : decode M_Re_readDigits.1 115 = .ok (.goto 5, 3) := by decide +kernel
theorem d_Re_readDigits_118 : decode M_Re_readDigits.1 118 = .ok (.bipush (-2), 2) := by decide +kernel
theorem d_Re_readDigits_120 : decode M_Re_readDigits.1 120 = .ok (.putfield 40, 3) := by decide +kernel
theorem d_Re_readDigits_123 : decode M_Re_readDigits.1 123 = .ok (.return_, 1) := by decide +kernel
theorem d_Re_isDigit_0 : decode M_Re_isDigit.1 0 = .ok (.iload_n 0, 1) := by decide +kernel
theorem d_Re_isDigit_1 : decode M_Re_isDigit.1 1 = .ok (.bipush 48, 2) := by decide +kernel
theorem d_Re_isDigit_3 : decode M_Re_isDigit.1 3 = .ok (.if_icmp .lt 13, 3) := by decide +kernel
theorem d_Re_isDigit_6 : decode M_Re_isDigit.1 6 = .ok (.iload_n 0, 1) := by decide +kernel
theorem d_Re_isDigit_7 : decode M_Re_isDigit.1 7 = .ok (.bipush 57, 2) := by decide +kernel
theorem d_Re_isDigit_9 : decode M_Re_isDigit.1 9 = .ok (.if_icmp .gt 7, 3) := by decide +kernel
theorem d_Re_isDigit_12 : decode M_Re_isDigit.1 12 = .ok (.iconst 1, 1) := by decide +kernel
theorem d_Re_isDigit_13 : decode M_Re_isDigit.1 13 = .ok (.goto 4, 3) := by decide +kernel
theorem d_Re_isDigit_16 : decode M_Re_isDigit.1 16 = .ok (.iconst 0, 1) := by decide +kernel
theorem d_Re_isDigit_17 : decode M_Re_isDigit.1 17 = .ok (.ireturn, 1) := by decide +kernel
theorem d_Si_init_0 : decode M_Si_init.1 0 = .ok (.aload_n 0, 1) := by decide +kernel
theorem d_Si_init_1 : decode M_Si_init.1 1 = .ok (.invokespecial 3, 3) := by decide +kernel
theorem d_Si_init_4 : decode M_Si_init.1 4 = .ok (.aload_n 0, 1) := by decide +kernel
theorem d_Si_init_5 : decode M_Si_init.1 5 = .ok (.bipush 6, 2) := by decide +kernel
theorem d_Si_init_7 : decode M_Si_init.1 7 = .ok (.newarray .int, 2) := by decide +kernel
theorem d_Si_init_9 : decode M_Si_init.1 9 = .ok (.putfield 9, 3) := by decide +kernel
theorem d_Si_init_12 : decode M_Si_init.1 12 = .ok (.aload_n 0, 1) := by decide +kernel
theorem d_Si_init_13 : decode M_Si_init.1 13 = .ok (.ldc 15, 2) := by decide +kernel
theorem d_Si_init_15 : decode M_Si_init.1 15 = .ok (.putfield 16, 3) := by decide +kernel
theorem d_Si_init_18 : decode M_Si_init.1 18 = .ok (.return_, 1) := by decide +kernel
theorem d_Si_begin_0 : decode M_Si_begin.1 0 = .ok (.iconst 0, 1) := by decide +kernel
theorem d_Si_begin_1 : decode M_Si_begin.1 1 = .ok (.istore_n 2, 1) := by decide +kernel
theorem d_Si_begin_2 : decode M_Si_begin.1 2 = .ok (.iload_n 2, 1) := by decide +kernel
theorem d_Si_begin_3 : decode M_Si_begin.1 3 = .ok (.bipush 6, 2) := by decide +kernel
theorem d_Si_begin_5 : decode M_Si_begin.1 5 = .ok (.if_icmp .ge 16, 3) := by decide +kernel
theorem d_Si_begin_8 : decode M_Si_begin.1 8 = .ok (.aload_n 0, 1) := by decide +kernel
theorem d_Si_begin_9 : decode M_Si_begin.1 9 = .ok (.getfield 9, 3) := by decide +kernel
theorem d_Si_begin_12 : decode M_Si_begin.1 12 = .ok (.iload_n 2, 1) := by decide +kernel
theorem d_Si_begin_13 : decode M_Si_begin.1 13 = .ok (.iconst 0, 1) := by decide +kernel
theorem d_Si_begin_14 : decode M_Si_begin.1 14 = .ok (.iastore, 1) := by decide +kernel
theorem d_Si_begin_15 : decode M_Si_begin.1 15 = .ok (.iinc 2 1, 3) := by decide +kernel
theorem d_Si_begin_18 : decode M_Si_begin.1 18 = .ok (.goto (-16), 3) := by decide +kernel
theorem d_Si_begin_21 : decode M_Si_begin.1 21 = .ok (.aload_n 0, 1) := by decide +kernel
theorem d_Si_begin_22 : decode M_Si_begin.1 22 = .ok (.iconst 0, 1) := by decide +kernel
theorem d_Si_begin_23 : decode M_Si_begin.1 23 = .ok (.putfield 20, 3) := by decide +kernel
theorem d_Si_begin_26 : decode M_Si_begin.1 26 = .ok (.aload_n 0, 1) := by decide +kernel
theorem d_Si_begin_27 : decode M_Si_begin.1 27 = .ok (.ldc 15, 2) := by decide +kernel
theorem d_Si_begin_29 : decode M_Si_begin.1 29 = .ok (.putfield 16, 3) := by decide +kernel
theorem d_Si_begin_32 : decode M_Si_begin.1 32 = .ok (.aload_n 0, 1) := by decide +kernel
theorem d_Si_begin_33 : decode M_Si_begin.1 33 = .ok (.iconst 0, 1) := by decide +kernel
theorem d_Si_begin_34 : decode M_Si_begin.1 34 = .ok (.putfield 23, 3) := by decide +kernel
theorem d_Si_begin_37 : decode M_Si_begin.1 37 = .ok (.aload_n 0, 1) := by decide +kernel
theorem d_Si_begin_38 : decode M_Si_begin.1 38 = .ok (.iload_n 1, 1) := by decide +kernel
theorem d_Si_begin_39 : decode M_Si_begin.1 39 = .ok (.putfield 26, 3) := by decide +kernel
theorem d_Si_begin_42 : decode M_Si_begin.1 42 = .ok (.aload_n 0, 1) := by decide +kernel
theorem d_Si_begin_43 : decode M_Si_begin.1 43 = .ok (.iconst 0, 1) := by decide +kernel
theorem d_Si_begin_44 : decode M_Si_begin.1 44 = .ok (.putfield 29, 3) := by decide +kernel
theorem d_Si_begin_47 : decode M_Si_begin.1 47 = .ok (.aload_n 0, 1) := by decide +kernel
theorem d_Si_begin_48 : decode M_Si_begin.1 48 = .ok (.iconst 0, 1) := by decide +kernel
theorem d_Si_begin_49 : decode M_Si_begin.1 49 = .ok (.putfield 32, 3) := by decide +kernel
theorem d_Si_begin_52 : decode M_Si_begin.1 52 = .ok (.return_, 1) := by decide +kernel
theorem d_Si_copyFrom_0 : decode M_Si_copyFrom.1 0 = .ok (.iconst 0, 1) := by decide +kernel
theorem d_Si_copyFrom_1 : decode M_Si_copyFrom.1 1 = .ok (.istore_n 2, 1) := by decide +kernel
theorem d_Si_copyFrom_2 : decode M_Si_copyFrom.1 2 = .ok (.iload_n 2, 1) := by decide +kernel
theorem d_Si_copyFrom_3 : decode M_Si_copyFrom.1 3 = .ok (.bipush 6, 2) := by decide +kernel
theorem d_Si_copyFrom_5 : decode M_Si_copyFrom.1 5 = .ok (.if_icmp .ge 21, 3) := by decide +kernel
theorem d_Si_copyFrom_8 : decode M_Si_copyFrom.1 8 = .ok (.aload_n 0, 1) := by decide +kernel
theorem d_Si_copyFrom_9 : decode M_Si_copyFrom.1 9 = .ok (.getfield 9, 3) := by decide +kernel
theorem d_Si_copyFrom_12 : decode M_Si_copyFrom.1 12 = .ok (.iload_n 2, 1) := by decide +kernel
theorem d_Si_copyFrom_13 : decode M_Si_copyFrom.1 13 = .ok (.aload_n 1, 1) := by decide +kernel
theorem d_Si_copyFrom_14 : decode M_Si_copyFrom.1 14 = .ok (.getfield 9, 3) := by decide +kernel
theorem d_Si_copyFrom_17 : decode M_Si_copyFrom.1 17 = .ok (.iload_n 2, 1) := by decide +kernel
theorem d_Si_copyFrom_18 : decode M_Si_copyFrom.1 18 = .ok (.iaload, 1) := by decide +kernel
theorem d_Si_copyFrom_19 : decode M_Si_copyFrom.1 19 = .ok (.iastore, 1) := by decide +kernel
theorem d_Si_copyFrom_20 : decode M_Si_copyFrom.1 20 = .ok (.iinc 2 1, 3) := by decide +kernel
theorem d_Si_copyFrom_23 : decode M_Si_copyFrom.1 23 = .ok (.goto (-21), 3) := by decide +kernel
theorem d_Si_copyFrom_26 : decode M_Si_copyFrom.1 26 = .ok (.aload_n 0, 1) := by decide +kernel
theorem d_Si_copyFrom_27 : decode M_Si_copyFrom.1 27 = .ok (.aload_n 1, 1) := by decide +kernel
theorem d_Si_copyFrom_28 : decode M_Si_copyFrom.1 28 = .ok (.getfield 20, 3) := by decide +kernel
theorem d_Si_copyFrom_31 : decode M_Si_copyFrom.1 31 = .ok (.putfield 20, 3) := by decide +kernel
theorem d_Si_copyFrom_34 : decode M_Si_copyFrom.1 34 = .ok (.aload_n 0, 1) := by decide +kernel
theorem d_Si_copyFrom_35 : decode M_Si_copyFrom.1 35 = .ok (.aload_n 1, 1) := by decide +kernel
theorem d_Si_copyFrom_36 : decode M_Si_copyFrom.1 36 = .ok (.getfield 16, 3) := by decide +kernel
theorem d_Si_copyFrom_39 : decode M_Si_copyFrom.1 39 = .ok (.putfield 16, 3) := by decide +kernel
theorem d_Si_copyFrom_42 : decode M_Si_copyFrom.1 42 = .ok (.aload_n 0, 1) := by decide +kernel
theorem d_Si_copyFrom_43 : decode M_Si_copyFrom.1 43 = .ok (.aload_n 1, 1) := by decide +kernel
theorem d_Si_copyFrom_44 : decode M_Si_copyFrom.1 44 = .ok (.getfield 23, 3) := by decide +kernel
theorem d_Si_copyFrom_47 : decode M_Si_copyFrom.1 47 = .ok (.putfield 23, 3) := by decide +kernel
theorem d_Si_copyFrom_50 : decode M_Si_copyFrom.1 50 = .ok (.aload_n 0, 1) := by decide +kernel
theorem d_Si_copyFrom_51 : decode M_Si_copyFrom.1 51 = .ok (.aload_n 1, 1) := by decide +kernel
theorem d_Si_copyFrom_52 : decode M_Si_copyFrom.1 52 = .ok (.getfield 26, 3) := by decide +kernel
theorem d_Si_copyFrom_55 : decode M_Si_copyFrom.1 55 = .ok (.putfield 26, 3) := by decide +kernel
theorem d_Si_copyFrom_58 : decode M_Si_copyFrom.1 58 = .ok (.aload_n 0, 1) := by decide +kernel
theorem d_Si_copyFrom_59 : decode M_Si_copyFrom.1 59 = .ok (.aload_n 1, 1) := by decide +kernel
theorem d_Si_copyFrom_60 : decode M_Si_copyFrom.1 60 = .ok (.getfield 29, 3) := by decide +kernel
theorem d_Si_copyFrom_63 : decode M_Si_copyFrom.1 63 = .ok (.putfield 29, 3) := by decide +kernel
theorem d_Si_copyFrom_66 : decode M_Si_copyFrom.1 66 = .ok (.aload_n 0, 1) := by decide +kernel
theorem d_Si_copyFrom_67 : decode M_Si_copyFrom.1 67 = .ok (.aload_n 1, 1) := by decide +kernel
theorem d_Si_copyFrom_68 : decode M_Si_copyFrom.1 68 = .ok (.getfield 32, 3) := by decide +kernel
theorem d_Si_copyFrom_71 : decode M_Si_copyFrom.1 71 = .ok (.putfield 32, 3) := by decide +kernel
theorem d_Si_copyFrom_74 : decode M_Si_copyFrom.1 74 = .ok (.return_, 1) := by decide +kernel
theorem d_Si_isKnower_0 : decode M_Si_isKnower.1 0 = .ok (.aload_n 0, 1) := by decide +kernel
theorem d_Si_isKnower_1 : decode M_Si_isKnower.1 1 = .ok (.getfield 23, 3) := by decide +kernel
theorem d_Si_isKnower_4 : decode M_Si_isKnower.1 4 = .ok (.iload_n 1, 1) := by decide +kernel
theorem d_Si_isKnower_5 : decode M_Si_isKnower.1 5 = .ok (.ishr, 1) := by decide +kernel
theorem d_Si_isKnower_6 : decode M_Si_isKnower.1 6 = .ok (.iconst 1, 1) := by decide +kernel
theorem d_Si_isKnower_7 : decode M_Si_isKnower.1 7 = .ok (.iand, 1) := by decide +kernel
theorem d_Si_isKnower_8 : decode M_Si_isKnower.1 8 = .ok (.iconst 1, 1) := by decide +kernel
theorem d_Si_isKnower_9 : decode M_Si_isKnower.1 9 = .ok (.if_icmp .ne 7, 3) := by decide +kernel
theorem d_Si_isKnower_12 : decode M_Si_isKnower.1 12 = .ok (.iconst 1, 1) := by decide +kernel
theorem d_Si_isKnower_13 : decode M_Si_isKnower.1 13 = .ok (.goto 4, 3) := by decide +kernel
theorem d_Si_isKnower_16 : decode M_Si_isKnower.1 16 = .ok (.iconst 0, 1) := by decide +kernel
theorem d_Si_isKnower_17 : decode M_Si_isKnower.1 17 = .ok (.ireturn, 1) := by decide +kernel
theorem d_Si_apart_0 : decode M_Si_apart.1 0 = .ok (.iload_n 1, 1) := by decide +kernel
theorem d_Si_apart_1 : decode M_Si_apart.1 1 = .ok (.ifCond .ne 5, 3) := by decide +kernel
theorem d_Si_apart_4 : decode M_Si_apart.1 4 = .ok (.iconst 0, 1) := by decide +kernel
theorem d_Si_apart_5 : decode M_Si_apart.1 5 = .ok (.ireturn, 1) := by decide +kernel
theorem d_Si_apart_6 : decode M_Si_apart.1 6 = .ok (.aload_n 0, 1) := by decide +kernel
theorem d_Si_apart_7 : decode M_Si_apart.1 7 = .ok (.getfield 9, 3) := by decide +kernel
theorem d_Si_apart_10 : decode M_Si_apart.1 10 = .ok (.iconst 0, 1) := by decide +kernel
theorem d_Si_apart_11 : decode M_Si_apart.1 11 = .ok (.iaload, 1) := by decide +kernel
theorem d_Si_apart_12 : decode M_Si_apart.1 12 = .ok (.istore_n 2, 1) := by decide +kernel
theorem d_Si_apart_13 : decode M_Si_apart.1 13 = .ok (.aload_n 0, 1) := by decide +kernel
theorem d_Si_apart_14 : decode M_Si_apart.1 14 = .ok (.getfield 9, 3) := by decide +kernel
theorem d_Si_apart_17 : decode M_Si_apart.1 17 = .ok (.iconst 0, 1) := by decide +kernel
theorem d_Si_apart_18 : decode M_Si_apart.1 18 = .ok (.iaload, 1) := by decide +kernel
theorem d_Si_apart_19 : decode M_Si_apart.1 19 = .ok (.istore_n 3, 1) := by decide +kernel
theorem d_Si_apart_20 : decode M_Si_apart.1 20 = .ok (.iconst 1, 1) := by decide +kernel
theorem d_Si_apart_21 : decode M_Si_apart.1 21 = .ok (.istore 4, 2) := by decide +kernel
theorem d_Si_apart_23 : decode M_Si_apart.1 23 = .ok (.iload 4, 2) := by decide +kernel
theorem d_Si_apart_25 : decode M_Si_apart.1 25 = .ok (.iload_n 1, 1) := by decide +kernel
theorem d_Si_apart_26 : decode M_Si_apart.1 26 = .ok (.if_icmp .ge 33, 3) := by decide +kernel
theorem d_Si_apart_29 : decode M_Si_apart.1 29 = .ok (.iload_n 2, 1) := by decide +kernel
theorem d_Si_apart_30 : decode M_Si_apart.1 30 = .ok (.aload_n 0, 1) := by decide +kernel
theorem d_Si_apart_31 : decode M_Si_apart.1 31 = .ok (.getfield 9, 3) := by decide +kernel
theorem d_Si_apart_34 : decode M_Si_apart.1 34 = .ok (.iload 4, 2) := by decide +kernel
theorem d_Si_apart_36 : decode M_Si_apart.1 36 = .ok (.iaload, 1) := by decide +kernel
theorem d_Si_apart_37 : decode M_Si_apart.1 37 = .ok (.invokestatic 35, 3) := by decide +kernel
theorem d_Si_apart_40 : decode M_Si_apart.1 40 = .ok (.istore_n 2, 1) := by decide +kernel
theorem d_Si_apart_41 : decode M_Si_apart.1 41 = .ok (.iload_n 3, 1) := by decide +kernel
theorem d_Si_apart_42 : decode M_Si_apart.1 42 = .ok (.aload_n 0, 1) := by decide +kernel
theorem d_Si_apart_43 : decode M_Si_apart.1 43 = .ok (.getfield 9, 3) := by decide +kernel
theorem d_Si_apart_46 : decode M_Si_apart.1 46 = .ok (.iload 4, 2) := by decide +kernel
theorem d_Si_apart_48 : decode M_Si_apart.1 48 = .ok (.iaload, 1) := by decide +kernel
theorem d_Si_apart_49 : decode M_Si_apart.1 49 = .ok (.invokestatic 41, 3) := by decide +kernel
theorem d_Si_apart_52 : decode M_Si_apart.1 52 = .ok (.istore_n 3, 1) := by decide +kernel
theorem d_Si_apart_53 : decode M_Si_apart.1 53 = .ok (.iinc 4 1, 3) := by decide +kernel
theorem d_Si_apart_56 : decode M_Si_apart.1 56 = .ok (.goto (-33), 3) := by decide +kernel
theorem d_Si_apart_59 : decode M_Si_apart.1 59 = .ok (.iload_n 2, 1) := by decide +kernel
theorem d_Si_apart_60 : decode M_Si_apart.1 60 = .ok (.iload_n 3, 1) := by decide +kernel
theorem d_Si_apart_61 : decode M_Si_apart.1 61 = .ok (.isub, 1) := by decide +kernel
theorem d_Si_apart_62 : decode M_Si_apart.1 62 = .ok (.ireturn, 1) := by decide +kernel
theorem d_Si_greatest_0 : decode M_Si_greatest.1 0 = .ok (.iconst 0, 1) := by decide +kernel
theorem d_Si_greatest_1 : decode M_Si_greatest.1 1 = .ok (.istore_n 2, 1) := by decide +kernel
theorem d_Si_greatest_2 : decode M_Si_greatest.1 2 = .ok (.iconst 0, 1) := by decide +kernel
theorem d_Si_greatest_3 : decode M_Si_greatest.1 3 = .ok (.istore_n 3, 1) := by decide +kernel
theorem d_Si_greatest_4 : decode M_Si_greatest.1 4 = .ok (.iload_n 3, 1) := by decide +kernel
theorem d_Si_greatest_5 : decode M_Si_greatest.1 5 = .ok (.iload_n 1, 1) := by decide +kernel
theorem d_Si_greatest_6 : decode M_Si_greatest.1 6 = .ok (.if_icmp .ge 23, 3) := by decide +kernel
theorem d_Si_greatest_9 : decode M_Si_greatest.1 9 = .ok (.iload_n 2, 1) := by decide +kernel
theorem d_Si_greatest_10 : decode M_Si_greatest.1 10 = .ok (.aload_n 0, 1) := by decide +kernel
theorem d_Si_greatest_11 : decode M_Si_greatest.1 11 = .ok (.getfield 9, 3) := by decide +kernel
theorem d_Si_greatest_14 : decode M_Si_greatest.1 14 = .ok (.iload_n 3, 1) := by decide +kernel
theorem d_Si_greatest_15 : decode M_Si_greatest.1 15 = .ok (.iaload, 1) := by decide +kernel
theorem d_Si_greatest_16 : decode M_Si_greatest.1 16 = .ok (.invokestatic 44, 3) := by decide +kernel
theorem d_Si_greatest_19 : decode M_Si_greatest.1 19 = .ok (.invokestatic 35, 3) := by decide +kernel
theorem d_Si_greatest_22 : decode M_Si_greatest.1 22 = .ok (.istore_n 2, 1) := by decide +kernel
theorem d_Si_greatest_23 : decode M_Si_greatest.1 23 = .ok (.iinc 3 1, 3) := by decide +kernel
theorem d_Si_greatest_26 : decode M_Si_greatest.1 26 = .ok (.goto (-22), 3) := by decide +kernel
theorem d_Si_greatest_29 : decode M_Si_greatest.1 29 = .ok (.iload_n 2, 1) := by decide +kernel
theorem d_Si_greatest_30 : decode M_Si_greatest.1 30 = .ok (.ireturn, 1) := by decide +kernel
theorem d_Si_isAsLateAs_0 : decode M_Si_isAsLateAs.1 0 = .ok (.iconst 0, 1) := by decide +kernel
theorem d_Si_isAsLateAs_1 : decode M_Si_isAsLateAs.1 1 = .ok (.istore_n 3, 1) := by decide +kernel
theorem d_Si_isAsLateAs_2 : decode M_Si_isAsLateAs.1 2 = .ok (.iload_n 3, 1) := by decide +kernel
theorem d_Si_isAsLateAs_3 : decode M_Si_isAsLateAs.1 3 = .ok (.iload_n 2, 1) := by decide +kernel
theorem d_Si_isAsLateAs_4 : decode M_Si_isAsLateAs.1 4 = .ok (.if_icmp .ge 26, 3) := by decide +kernel
theorem d_Si_isAsLateAs_7 : decode M_Si_isAsLateAs.1 7 = .ok (.aload_n 0, 1) := by decide +kernel
theorem d_Si_isAsLateAs_8 : decode M_Si_isAsLateAs.1 8 = .ok (.getfield 9, 3) := by decide +kernel
theorem d_Si_isAsLateAs_11 : decode M_Si_isAsLateAs.1 11 = .ok (.iload_n 3, 1) := by decide +kernel
theorem d_Si_isAsLateAs_12 : decode M_Si_isAsLateAs.1 12 = .ok (.iaload, 1) := by decide +kernel
theorem d_Si_isAsLateAs_13 : decode M_Si_isAsLateAs.1 13 = .ok (.aload_n 1, 1) := by decide +kernel
theorem d_Si_isAsLateAs_14 : decode M_Si_isAsLateAs.1 14 = .ok (.getfield 9, 3) := by decide +kernel
theorem d_Si_isAsLateAs_17 : decode M_Si_isAsLateAs.1 17 = .ok (.iload_n 3, 1) := by decide +kernel
theorem d_Si_isAsLateAs_18 : decode M_Si_isAsLateAs.1 18 = .ok (.iaload, 1) := by decide +kernel
theorem d_Si_isAsLateAs_19 : decode M_Si_isAsLateAs.1 19 = .ok (.if_icmp .eq 5, 3) := by decide +kernel
theorem d_Si_isAsLateAs_22 : decode M_Si_isAsLateAs.1 22 = .ok (.iconst 0, 1) := by decide +kernel
theorem d_Si_isAsLateAs_23 : decode M_Si_isAsLateAs.1 23 = .ok (.ireturn, 1) := by decide +kernel
theorem d_Si_isAsLateAs_24 : decode M_Si_isAsLateAs.1 24 = .ok (.iinc 3 1, 3) := by decide +kernel
theorem d_Si_isAsLateAs_27 : decode M_Si_isAsLateAs.1 27 = .ok (.goto (-25), 3) := by decide +kernel
theorem d_Si_isAsLateAs_30 : decode M_Si_isAsLateAs.1 30 = .ok (.iconst 1, 1) := by decide +kernel
theorem d_Si_isAsLateAs_31 : decode M_Si_isAsLateAs.1 31 = .ok (.ireturn, 1) := by decide +kernel
theorem d_Si_leaveOut_0 : decode M_Si_leaveOut.1 0 = .ok (.iload_n 1, 1) := by decide +kernel
theorem d_Si_leaveOut_1 : decode M_Si_leaveOut.1 1 = .ok (.iconst 0, 1) := by decide +kernel
theorem d_Si_leaveOut_2 : decode M_Si_leaveOut.1 2 = .ok (.iconst 5, 1) := by decide +kernel
theorem d_Si_leaveOut_3 : decode M_Si_leaveOut.1 3 = .ok (.invokestatic 48, 3) := by decide +kernel
theorem d_Si_leaveOut_6 : decode M_Si_leaveOut.1 6 = .ok (.ifCond .ne 4, 3) := by decide +kernel
theorem d_Si_leaveOut_9 : decode M_Si_leaveOut.1 9 = .ok (.return_, 1) := by decide +kernel
theorem d_Si_leaveOut_10 : decode M_Si_leaveOut.1 10 = .ok (.iload_n 1, 1) := by decide +kernel
theorem d_Si_leaveOut_11 : decode M_Si_leaveOut.1 11 = .ok (.istore_n 2, 1) := by decide +kernel
theorem d_Si_leaveOut_12 : decode M_Si_leaveOut.1 12 = .ok (.iload_n 2, 1) := by decide +kernel
theorem d_Si_leaveOut_13 : decode M_Si_leaveOut.1 13 = .ok (.iconst 1, 1) := by decide +kernel
theorem d_Si_leaveOut_14 : decode M_Si_leaveOut.1 14 = .ok (.iadd, 1) := by decide +kernel
theorem d_Si_leaveOut_15 : decode M_Si_leaveOut.1 15 = .ok (.bipush 6, 2) := by decide +kernel
theorem d_Si_leaveOut_17 : decode M_Si_leaveOut.1 17 = .ok (.if_icmp .ge 23, 3) := by decide +kernel
theorem d_Si_leaveOut_20 : decode M_Si_leaveOut.1 20 = .ok (.aload_n 0, 1) := by decide +kernel
theorem d_Si_leaveOut_21 : decode M_Si_leaveOut.1 21 = .ok (.getfield 9, 3) := by decide +kernel
theorem d_Si_leaveOut_24 : decode M_Si_leaveOut.1 24 = .ok (.iload_n 2, 1) := by decide +kernel
theorem d_Si_leaveOut_25 : decode M_Si_leaveOut.1 25 = .ok (.aload_n 0, 1) := by decide +kernel
theorem d_Si_leaveOut_26 : decode M_Si_leaveOut.1 26 = .ok (.getfield 9, 3) := by decide +kernel
theorem d_Si_leaveOut_29 : decode M_Si_leaveOut.1 29 = .ok (.iload_n 2, 1) := by decide +kernel
theorem d_Si_leaveOut_30 : decode M_Si_leaveOut.1 30 = .ok (.iconst 1, 1) := by decide +kernel
theorem d_Si_leaveOut_31 : decode M_Si_leaveOut.1 31 = .ok (.iadd, 1) := by decide +kernel
theorem d_Si_leaveOut_32 : decode M_Si_leaveOut.1 32 = .ok (.iaload, 1) := by decide +kernel
theorem d_Si_leaveOut_33 : decode M_Si_leaveOut.1 33 = .ok (.iastore, 1) := by decide +kernel
theorem d_Si_leaveOut_34 : decode M_Si_leaveOut.1 34 = .ok (.iinc 2 1, 3) := by decide +kernel
theorem d_Si_leaveOut_37 : decode M_Si_leaveOut.1 37 = .ok (.goto (-25), 3) := by decide +kernel
theorem d_Si_leaveOut_40 : decode M_Si_leaveOut.1 40 = .ok (.iconst 1, 1) := by decide +kernel
theorem d_Si_leaveOut_41 : decode M_Si_leaveOut.1 41 = .ok (.iload_n 1, 1) := by decide +kernel
theorem d_Si_leaveOut_42 : decode M_Si_leaveOut.1 42 = .ok (.ishl, 1) := by decide +kernel
theorem d_Si_leaveOut_43 : decode M_Si_leaveOut.1 43 = .ok (.iconst 1, 1) := by decide +kernel
theorem d_Si_leaveOut_44 : decode M_Si_leaveOut.1 44 = .ok (.isub, 1) := by decide +kernel
theorem d_Si_leaveOut_45 : decode M_Si_leaveOut.1 45 = .ok (.istore_n 2, 1) := by decide +kernel
theorem d_Si_leaveOut_46 : decode M_Si_leaveOut.1 46 = .ok (.aload_n 0, 1) := by decide +kernel
theorem d_Si_leaveOut_47 : decode M_Si_leaveOut.1 47 = .ok (.aload_n 0, 1) := by decide +kernel
theorem d_Si_leaveOut_48 : decode M_Si_leaveOut.1 48 = .ok (.getfield 23, 3) := by decide +kernel
theorem d_Si_leaveOut_51 : decode M_Si_leaveOut.1 51 = .ok (.iload_n 2, 1) := by decide +kernel
theorem d_Si_leaveOut_52 : decode M_Si_leaveOut.1 52 = .ok (.iand, 1) := by decide +kernel
theorem d_Si_leaveOut_53 : decode M_Si_leaveOut.1 53 = .ok (.aload_n 0, 1) := by decide +kernel
theorem d_Si_leaveOut_54 : decode M_Si_leaveOut.1 54 = .ok (.getfield 23, 3) := by decide +kernel
theorem d_Si_leaveOut_57 : decode M_Si_leaveOut.1 57 = .ok (.iconst 1, 1) := by decide +kernel
theorem d_Si_leaveOut_58 : decode M_Si_leaveOut.1 58 = .ok (.ishr, 1) := by decide +kernel
theorem d_Si_leaveOut_59 : decode M_Si_leaveOut.1 59 = .ok (.iload_n 2, 1) := by decide +kernel
theorem d_Si_leaveOut_60 : decode M_Si_leaveOut.1 60 = .ok (.iconst (-1), 1) := by decide +kernel
theorem d_Si_leaveOut_61 : decode M_Si_leaveOut.1 61 = .ok (.ixor, 1) := by decide +kernel
theorem d_Si_leaveOut_62 : decode M_Si_leaveOut.1 62 = .ok (.iand, 1) := by decide +kernel
theorem d_Si_leaveOut_63 : decode M_Si_leaveOut.1 63 = .ok (.ior, 1) := by decide +kernel
theorem d_Si_leaveOut_64 : decode M_Si_leaveOut.1 64 = .ok (.putfield 23, 3) := by decide +kernel
theorem d_Si_leaveOut_67 : decode M_Si_leaveOut.1 67 = .ok (.aload_n 0, 1) := by decide +kernel
theorem d_Si_leaveOut_68 : decode M_Si_leaveOut.1 68 = .ok (.getfield 16, 3) := by decide +kernel
theorem d_Si_leaveOut_71 : decode M_Si_leaveOut.1 71 = .ok (.iload_n 1, 1) := by decide +kernel
theorem d_Si_leaveOut_72 : decode M_Si_leaveOut.1 72 = .ok (.if_icmp .ne 12, 3) := by decide +kernel
theorem d_Si_leaveOut_75 : decode M_Si_leaveOut.1 75 = .ok (.aload_n 0, 1) := by decide +kernel
theorem d_Si_leaveOut_76 : decode M_Si_leaveOut.1 76 = .ok (.ldc 15, 2) := by decide +kernel
theorem d_Si_leaveOut_78 : decode M_Si_leaveOut.1 78 = .ok (.putfield 16, 3) := by decide +kernel
theorem d_Si_leaveOut_81 : decode M_Si_leaveOut.1 81 = .ok (.goto 21, 3) := by decide +kernel
theorem d_Si_leaveOut_84 : decode M_Si_leaveOut.1 84 = .ok (.aload_n 0, 1) := by decide +kernel
theorem d_Si_leaveOut_85 : decode M_Si_leaveOut.1 85 = .ok (.getfield 16, 3) := by decide +kernel
theorem d_Si_leaveOut_88 : decode M_Si_leaveOut.1 88 = .ok (.iload_n 1, 1) := by decide +kernel
theorem d_Si_leaveOut_89 : decode M_Si_leaveOut.1 89 = .ok (.if_icmp .le 13, 3) := by decide +kernel
theorem d_Si_leaveOut_92 : decode M_Si_leaveOut.1 92 = .ok (.aload_n 0, 1) := by decide +kernel
theorem d_Si_leaveOut_93 : decode M_Si_leaveOut.1 93 = .ok (.dup, 1) := by decide +kernel
theorem d_Si_leaveOut_94 : decode M_Si_leaveOut.1 94 = .ok (.getfield 16, 3) := by decide +kernel
theorem d_Si_leaveOut_97 : decode M_Si_leaveOut.1 97 = .ok (.iconst 1, 1) := by decide +kernel
theorem d_Si_leaveOut_98 : decode M_Si_leaveOut.1 98 = .ok (.isub, 1) := by decide +kernel
theorem d_Si_leaveOut_99 : decode M_Si_leaveOut.1 99 = .ok (.putfield 16, 3) := by decide +kernel
theorem d_Si_leaveOut_102 : decode M_Si_leaveOut.1 102 = .ok (.return_, 1) := by decide +kernel
theorem d_Bo_init_0 : decode M_Bo_init.1 0 = .ok (.aload_n 0, 1) := by decide +kernel
theorem d_Bo_init_1 : decode M_Bo_init.1 1 = .ok (.invokespecial 1, 3) := by decide +kernel
theorem d_Bo_init_4 : decode M_Bo_init.1 4 = .ok (.aload_n 0, 1) := by decide +kernel
theorem d_Bo_init_5 : decode M_Bo_init.1 5 = .ok (.new 7, 3) := by decide +kernel
theorem d_Bo_init_8 : decode M_Bo_init.1 8 = .ok (.dup, 1) := by decide +kernel
theorem d_Bo_init_9 : decode M_Bo_init.1 9 = .ok (.invokespecial 9, 3) := by decide +kernel
theorem d_Bo_init_12 : decode M_Bo_init.1 12 = .ok (.putfield 10, 3) := by decide +kernel
theorem d_Bo_init_15 : decode M_Bo_init.1 15 = .ok (.aload_n 0, 1) := by decide +kernel
theorem d_Bo_init_16 : decode M_Bo_init.1 16 = .ok (.new 16, 3) := by decide +kernel
theorem d_Bo_init_19 : decode M_Bo_init.1 19 = .ok (.dup, 1) := by decide +kernel
theorem d_Bo_init_20 : decode M_Bo_init.1 20 = .ok (.invokespecial 18, 3) := by decide +kernel
theorem d_Bo_init_23 : decode M_Bo_init.1 23 = .ok (.putfield 19, 3) := by decide +kernel
theorem d_Bo_init_26 : decode M_Bo_init.1 26 = .ok (.aload_n 0, 1) := by decide +kernel
theorem d_Bo_init_27 : decode M_Bo_init.1 27 = .ok (.new 16, 3) := by decide +kernel
theorem d_Bo_init_30 : decode M_Bo_init.1 30 = .ok (.dup, 1) := by decide +kernel
theorem d_Bo_init_31 : decode M_Bo_init.1 31 = .ok (.invokespecial 18, 3) := by decide +kernel
theorem d_Bo_init_34 : decode M_Bo_init.1 34 = .ok (.putfield 23, 3) := by decide +kernel
theorem d_Bo_init_37 : decode M_Bo_init.1 37 = .ok (.aload_n 0, 1) := by decide +kernel
theorem d_Bo_init_38 : decode M_Bo_init.1 38 = .ok (.new 26, 3) := by decide +kernel
theorem d_Bo_init_41 : decode M_Bo_init.1 41 = .ok (.dup, 1) := by decide +kernel
theorem d_Bo_init_42 : decode M_Bo_init.1 42 = .ok (.invokespecial 28, 3) := by decide +kernel
theorem d_Bo_init_45 : decode M_Bo_init.1 45 = .ok (.putfield 29, 3) := by decide +kernel
theorem d_Bo_init_48 : decode M_Bo_init.1 48 = .ok (.aload_n 0, 1) := by decide +kernel
theorem d_Bo_init_49 : decode M_Bo_init.1 49 = .ok (.new 26, 3) := by decide +kernel
theorem d_Bo_init_52 : decode M_Bo_init.1 52 = .ok (.dup, 1) := by decide +kernel
theorem d_Bo_init_53 : decode M_Bo_init.1 53 = .ok (.invokespecial 28, 3) := by decide +kernel
theorem d_Bo_init_56 : decode M_Bo_init.1 56 = .ok (.putfield 33, 3) := by decide +kernel
theorem d_Bo_init_59 : decode M_Bo_init.1 59 = .ok (.aload_n 0, 1) := by decide +kernel
theorem d_Bo_init_60 : decode M_Bo_init.1 60 = .ok (.new 26, 3) := by decide +kernel
theorem d_Bo_init_63 : decode M_Bo_init.1 63 = .ok (.dup, 1) := by decide +kernel
theorem d_Bo_init_64 : decode M_Bo_init.1 64 = .ok (.invokespecial 28, 3) := by decide +kernel
theorem d_Bo_init_67 : decode M_Bo_init.1 67 = .ok (.putfield 36, 3) := by decide +kernel
theorem d_Bo_init_70 : decode M_Bo_init.1 70 = .ok (.aload_n 0, 1) := by decide +kernel
theorem d_Bo_init_71 : decode M_Bo_init.1 71 = .ok (.new 39, 3) := by decide +kernel
theorem d_Bo_init_74 : decode M_Bo_init.1 74 = .ok (.dup, 1) := by decide +kernel
theorem d_Bo_init_75 : decode M_Bo_init.1 75 = .ok (.invokespecial 41, 3) := by decide +kernel
theorem d_Bo_init_78 : decode M_Bo_init.1 78 = .ok (.putfield 42, 3) := by decide +kernel
theorem d_Bo_init_81 : decode M_Bo_init.1 81 = .ok (.aload_n 0, 1) := by decide +kernel
theorem d_Bo_init_82 : decode M_Bo_init.1 82 = .ok (.iconst 2, 1) := by decide +kernel
theorem d_Bo_init_83 : decode M_Bo_init.1 83 = .ok (.anewarray 26, 3) := by decide +kernel
theorem d_Bo_init_86 : decode M_Bo_init.1 86 = .ok (.dup, 1) := by decide +kernel
theorem d_Bo_init_87 : decode M_Bo_init.1 87 = .ok (.iconst 0, 1) := by decide +kernel
theorem d_Bo_init_88 : decode M_Bo_init.1 88 = .ok (.new 26, 3) := by decide +kernel
theorem d_Bo_init_91 : decode M_Bo_init.1 91 = .ok (.dup, 1) := by decide +kernel
theorem d_Bo_init_92 : decode M_Bo_init.1 92 = .ok (.invokespecial 28, 3) := by decide +kernel
theorem d_Bo_init_95 : decode M_Bo_init.1 95 = .ok (.aastore, 1) := by decide +kernel
theorem d_Bo_init_96 : decode M_Bo_init.1 96 = .ok (.dup, 1) := by decide +kernel
theorem d_Bo_init_97 : decode M_Bo_init.1 97 = .ok (.iconst 1, 1) := by decide +kernel
theorem d_Bo_init_98 : decode M_Bo_init.1 98 = .ok (.new 26, 3) := by decide +kernel
theorem d_Bo_init_101 : decode M_Bo_init.1 101 = .ok (.dup, 1) := by decide +kernel
theorem d_Bo_init_102 : decode M_Bo_init.1 102 = .ok (.invokespecial 28, 3) := by decide +kernel
theorem d_Bo_init_105 : decode M_Bo_init.1 105 = .ok (.aastore, 1) := by decide +kernel
theorem d_Bo_init_106 : decode M_Bo_init.1 106 = .ok (.putfield 46, 3) := by decide +kernel
theorem d_Bo_init_109 : decode M_Bo_init.1 109 = .ok (.aload_n 0, 1) := by decide +kernel
theorem d_Bo_init_110 : decode M_Bo_init.1 110 = .ok (.iconst 2, 1) := by decide +kernel
theorem d_Bo_init_111 : decode M_Bo_init.1 111 = .ok (.newarray .boolean, 2) := by decide +kernel
theorem d_Bo_init_113 : decode M_Bo_init.1 113 = .ok (.putfield 50, 3) := by decide +kernel
theorem d_Bo_init_116 : decode M_Bo_init.1 116 = .ok (.aload_n 0, 1) := by decide +kernel
theorem d_Bo_init_117 : decode M_Bo_init.1 117 = .ok (.bipush 6, 2) := by decide +kernel
theorem d_Bo_init_119 : decode M_Bo_init.1 119 = .ok (.newarray .int, 2) := by decide +kernel
theorem d_Bo_init_121 : decode M_Bo_init.1 121 = .ok (.putfield 54, 3) := by decide +kernel
theorem d_Bo_init_124 : decode M_Bo_init.1 124 = .ok (.aload_n 0, 1) := by decide +kernel
theorem d_Bo_init_125 : decode M_Bo_init.1 125 = .ok (.bipush 6, 2) := by decide +kernel
theorem d_Bo_init_127 : decode M_Bo_init.1 127 = .ok (.newarray .int, 2) := by decide +kernel
theorem d_Bo_init_129 : decode M_Bo_init.1 129 = .ok (.putfield 58, 3) := by decide +kernel
theorem d_Bo_init_132 : decode M_Bo_init.1 132 = .ok (.aload_n 0, 1) := by decide +kernel
theorem d_Bo_init_133 : decode M_Bo_init.1 133 = .ok (.bipush 6, 2) := by decide +kernel
theorem d_Bo_init_135 : decode M_Bo_init.1 135 = .ok (.newarray .int, 2) := by decide +kernel
theorem d_Bo_init_137 : decode M_Bo_init.1 137 = .ok (.putfield 61, 3) := by decide +kernel
theorem d_Bo_init_140 : decode M_Bo_init.1 140 = .ok (.return_, 1) := by decide +kernel
theorem d_Bo_type_0 : decode M_Bo_type.1 0 = .ok (.iload_n 1, 1) := by decide +kernel
theorem d_Bo_type_1 : decode M_Bo_type.1 1 = .ok (.iconst 0, 1) := by decide +kernel
theorem d_Bo_type_2 : decode M_Bo_type.1 2 = .ok (.sipush 255, 3) := by decide +kernel
theorem d_Bo_type_5 : decode M_Bo_type.1 5 = .ok (.invokestatic 64, 3) := by decide +kernel
theorem d_Bo_type_8 : decode M_Bo_type.1 8 = .ok (.ifCond .ne 6, 3) := by decide +kernel
theorem d_Bo_type_11 : decode M_Bo_type.1 11 = .ok (.ldc 68, 2) := by decide +kernel
theorem d_Bo_type_13 : decode M_Bo_type.1 13 = .ok (.ireturn, 1) := by decide +kernel
theorem d_Bo_type_14 : decode M_Bo_type.1 14 = .ok (.aload_n 0, 1) := by decide +kernel
theorem d_Bo_type_15 : decode M_Bo_type.1 15 = .ok (.getfield 10, 3) := by decide +kernel
theorem d_Bo_type_18 : decode M_Bo_type.1 18 = .ok (.iload_n 1, 1) := by decide +kernel
theorem d_Bo_type_19 : decode M_Bo_type.1 19 = .ok (.invokevirtual 69, 3) := by decide +kernel
theorem d_Bo_type_22 : decode M_Bo_type.1 22 = .ok (.ifCond .eq 13, 3) := by decide +kernel
theorem d_Bo_type_25 : decode M_Bo_type.1 25 = .ok (.aload_n 0, 1) := by decide +kernel
theorem d_Bo_type_26 : decode M_Bo_type.1 26 = .ok (.getfield 10, 3) := by decide +kernel
theorem d_Bo_type_29 : decode M_Bo_type.1 29 = .ok (.getfield 73, 3) := by decide +kernel
theorem d_Bo_type_32 : decode M_Bo_type.1 32 = .ok (.goto 5, 3) := by decide +kernel
theorem d_Bo_type_35 : decode M_Bo_type.1 35 = .ok (.ldc 77, 2) := by decide +kernel
theorem d_Bo_type_37 : decode M_Bo_type.1 37 = .ok (.ireturn, 1) := by decide +kernel
theorem d_Bo_clear_0 : decode M_Bo_clear.1 0 = .ok (.aload_n 0, 1) := by decide +kernel
theorem d_Bo_clear_1 : decode M_Bo_clear.1 1 = .ok (.getfield 10, 3) := by decide +kernel
theorem d_Bo_clear_4 : decode M_Bo_clear.1 4 = .ok (.invokevirtual 78, 3) := by decide +kernel
theorem d_Bo_clear_7 : decode M_Bo_clear.1 7 = .ok (.ireturn, 1) := by decide +kernel
theorem d_Bo_church_0 : decode M_Bo_church.1 0 = .ok (.aload_n 0, 1) := by decide +kernel
theorem d_Bo_church_1 : decode M_Bo_church.1 1 = .ok (.getfield 10, 3) := by decide +kernel
theorem d_Bo_church_4 : decode M_Bo_church.1 4 = .ok (.aload_n 0, 1) := by decide +kernel
theorem d_Bo_church_5 : decode M_Bo_church.1 5 = .ok (.getfield 23, 3) := by decide +kernel
theorem d_Bo_church_8 : decode M_Bo_church.1 8 = .ok (.invokevirtual 82, 3) := by decide +kernel
theorem d_Bo_church_11 : decode M_Bo_church.1 11 = .ok (.istore_n 1, 1) := by decide +kernel
theorem d_Bo_church_12 : decode M_Bo_church.1 12 = .ok (.iload_n 1, 1) := by decide +kernel
theorem d_Bo_church_13 : decode M_Bo_church.1 13 = .ok (.ifCond .lt 26, 3) := by decide +kernel
theorem d_Bo_church_16 : decode M_Bo_church.1 16 = .ok (.aload_n 0, 1) := by decide +kernel
theorem d_Bo_church_17 : decode M_Bo_church.1 17 = .ok (.getfield 19, 3) := by decide +kernel
theorem d_Bo_church_20 : decode M_Bo_church.1 20 = .ok (.aload_n 0, 1) := by decide +kernel
theorem d_Bo_church_21 : decode M_Bo_church.1 21 = .ok (.getfield 23, 3) := by decide +kernel
theorem d_Bo_church_24 : decode M_Bo_church.1 24 = .ok (.invokevirtual 86, 3) := by decide +kernel
theorem d_Bo_church_27 : decode M_Bo_church.1 27 = .ok (.aload_n 0, 1) := by decide +kernel
theorem d_Bo_church_28 : decode M_Bo_church.1 28 = .ok (.getfield 10, 3) := by decide +kernel
theorem d_Bo_church_31 : decode M_Bo_church.1 31 = .ok (.invokevirtual 78, 3) := by decide +kernel
theorem d_Bo_church_34 : decode M_Bo_church.1 34 = .ok (.pop, 1) := by decide +kernel
theorem d_Bo_church_35 : decode M_Bo_church.1 35 = .ok (.aload_n 0, 1) := by decide +kernel
theorem d_Bo_church_36 : decode M_Bo_church.1 36 = .ok (.invokevirtual 90, 3) := by decide +kernel
theorem d_Bo_church_39 : decode M_Bo_church.1 39 = .ok (.iload_n 1, 1) := by decide +kernel
theorem d_Bo_church_40 : decode M_Bo_church.1 40 = .ok (.ireturn, 1) := by decide +kernel
theorem d_Bo_beginAnew_0 : decode M_Bo_beginAnew.1 0 = .ok (.aload_n 0, 1) := by decide +kernel
theorem d_Bo_beginAnew_1 : decode M_Bo_beginAnew.1 1 = .ok (.getfield 29, 3) := by decide +kernel
theorem d_Bo_beginAnew_4 : decode M_Bo_beginAnew.1 4 = .ok (.aload_n 0, 1) := by decide +kernel
theorem d_Bo_beginAnew_5 : decode M_Bo_beginAnew.1 5 = .ok (.getfield 19, 3) := by decide +kernel
theorem d_Bo_beginAnew_8 : decode M_Bo_beginAnew.1 8 = .ok (.getfield 93, 3) := by decide +kernel
theorem d_Bo_beginAnew_11 : decode M_Bo_beginAnew.1 11 = .ok (.invokevirtual 96, 3) := by decide +kernel
theorem d_Bo_beginAnew_14 : decode M_Bo_beginAnew.1 14 = .ok (.aload_n 0, 1) := by decide +kernel
theorem d_Bo_beginAnew_15 : decode M_Bo_beginAnew.1 15 = .ok (.getfield 42, 3) := by decide +kernel
theorem d_Bo_beginAnew_18 : decode M_Bo_beginAnew.1 18 = .ok (.iconst 0, 1) := by decide +kernel
theorem d_Bo_beginAnew_19 : decode M_Bo_beginAnew.1 19 = .ok (.putfield 100, 3) := by decide +kernel
theorem d_Bo_beginAnew_22 : decode M_Bo_beginAnew.1 22 = .ok (.aload_n 0, 1) := by decide +kernel
theorem d_Bo_beginAnew_23 : decode M_Bo_beginAnew.1 23 = .ok (.iconst 0, 1) := by decide +kernel
theorem d_Bo_beginAnew_24 : decode M_Bo_beginAnew.1 24 = .ok (.putfield 103, 3) := by decide +kernel
theorem d_Bo_beginAnew_27 : decode M_Bo_beginAnew.1 27 = .ok (.iconst 0, 1) := by decide +kernel
theorem d_Bo_beginAnew_28 : decode M_Bo_beginAnew.1 28 = .ok (.istore_n 1, 1) := by decide +kernel
theorem d_Bo_beginAnew_29 : decode M_Bo_beginAnew.1 29 = .ok (.iload_n 1, 1) := by decide +kernel
theorem d_Bo_beginAnew_30 : decode M_Bo_beginAnew.1 30 = .ok (.iconst 2, 1) := by decide +kernel
theorem d_Bo_beginAnew_31 : decode M_Bo_beginAnew.1 31 = .ok (.if_icmp .ge 16, 3) := by decide +kernel
theorem d_Bo_beginAnew_34 : decode M_Bo_beginAnew.1 34 = .ok (.aload_n 0, 1) := by decide +kernel
theorem d_Bo_beginAnew_35 : decode M_Bo_beginAnew.1 35 = .ok (.getfield 50, 3) := by decide +kernel
theorem d_Bo_beginAnew_38 : decode M_Bo_beginAnew.1 38 = .ok (.iload_n 1, 1) := by decide +kernel
theorem d_Bo_beginAnew_39 : decode M_Bo_beginAnew.1 39 = .ok (.iconst 0, 1) := by decide +kernel
theorem d_Bo_beginAnew_40 : decode M_Bo_beginAnew.1 40 = .ok (.bastore, 1) := by decide +kernel
theorem d_Bo_beginAnew_41 : decode M_Bo_beginAnew.1 41 = .ok (.iinc 1 1, 3) := by decide +kernel
theorem d_Bo_beginAnew_44 : decode M_Bo_beginAnew.1 44 = .ok (.goto (-15), 3) := by decide +kernel
theorem d_Bo_beginAnew_47 : decode M_Bo_beginAnew.1 47 = .ok (.return_, 1) := by decide +kernel
theorem d_Bo_pew_0 : decode M_Bo_pew.1 0 = .ok (.aload_n 0, 1) := by decide +kernel
theorem d_Bo_pew_1 : decode M_Bo_pew.1 1 = .ok (.getfield 19, 3) := by decide +kernel
theorem d_Bo_pew_4 : decode M_Bo_pew.1 4 = .ok (.iload_n 1, 1) := by decide +kernel
theorem d_Bo_pew_5 : decode M_Bo_pew.1 5 = .ok (.invokevirtual 106, 3) := by decide +kernel
theorem d_Bo_pew_8 : decode M_Bo_pew.1 8 = .ok (.ifCond .ne 6, 3) := by decide +kernel
theorem d_Bo_pew_11 : decode M_Bo_pew.1 11 = .ok (.ldc 68, 2) := by decide +kernel
theorem d_Bo_pew_13 : decode M_Bo_pew.1 13 = .ok (.ireturn, 1) := by decide +kernel
theorem d_Bo_pew_14 : decode M_Bo_pew.1 14 = .ok (.iload_n 2, 1) := by decide +kernel
theorem d_Bo_pew_15 : decode M_Bo_pew.1 15 = .ok (.tableswitch 117 0 6 #[41, 51, 61, 71, 81, 91, 100], 41) := by decide +kernel
theorem d_Bo_pew_56 : decode M_Bo_pew.1 56 = .ok (.aload_n 0, 1) := by decide +kernel
theorem d_Bo_pew_57 : decode M_Bo_pew.1 57 = .ok (.getfield 19, 3) := by decide +kernel
theorem d_Bo_pew_60 : decode M_Bo_pew.1 60 = .ok (.getfield 109, 3) := by decide +kernel
theorem d_Bo_pew_63 : decode M_Bo_pew.1 63 = .ok (.iload_n 1, 1) := by decide +kernel
theorem d_Bo_pew_64 : decode M_Bo_pew.1 64 = .ok (.iaload, 1) := by decide +kernel
theorem d_Bo_pew_65 : decode M_Bo_pew.1 65 = .ok (.ireturn, 1) := by decide +kernel
theorem d_Bo_pew_66 : decode M_Bo_pew.1 66 = .ok (.aload_n 0, 1) := by decide +kernel
theorem d_Bo_pew_67 : decode M_Bo_pew.1 67 = .ok (.getfield 19, 3) := by decide +kernel
theorem d_Bo_pew_70 : decode M_Bo_pew.1 70 = .ok (.getfield 112, 3) := by decide +kernel
theorem d_Bo_pew_73 : decode M_Bo_pew.1 73 = .ok (.iload_n 1, 1) := by decide +kernel
theorem d_Bo_pew_74 : decode M_Bo_pew.1 74 = .ok (.iaload, 1) := by decide +kernel
theorem d_Bo_pew_75 : decode M_Bo_pew.1 75 = .ok (.ireturn, 1) := by decide +kernel
theorem d_Bo_pew_76 : decode M_Bo_pew.1 76 = .ok (.aload_n 0, 1) := by decide +kernel
theorem d_Bo_pew_77 : decode M_Bo_pew.1 77 = .ok (.getfield 19, 3) := by decide +kernel
theorem d_Bo_pew_80 : decode M_Bo_pew.1 80 = .ok (.getfield 115, 3) := by decide +kernel
theorem d_Bo_pew_83 : decode M_Bo_pew.1 83 = .ok (.iload_n 1, 1) := by decide +kernel
theorem d_Bo_pew_84 : decode M_Bo_pew.1 84 = .ok (.iaload, 1) := by decide +kernel
theorem d_Bo_pew_85 : decode M_Bo_pew.1 85 = .ok (.ireturn, 1) := by decide +kernel
theorem d_Bo_pew_86 : decode M_Bo_pew.1 86 = .ok (.aload_n 0, 1) := by decide +kernel
theorem d_Bo_pew_87 : decode M_Bo_pew.1 87 = .ok (.getfield 19, 3) := by decide +kernel
theorem d_Bo_pew_90 : decode M_Bo_pew.1 90 = .ok (.getfield 118, 3) := by decide +kernel
theorem d_Bo_pew_93 : decode M_Bo_pew.1 93 = .ok (.iload_n 1, 1) := by decide +kernel
theorem d_Bo_pew_94 : decode M_Bo_pew.1 94 = .ok (.iaload, 1) := by decide +kernel
theorem d_Bo_pew_95 : decode M_Bo_pew.1 95 = .ok (.ireturn, 1) := by decide +kernel
theorem d_Bo_pew_96 : decode M_Bo_pew.1 96 = .ok (.aload_n 0, 1) := by decide +kernel
theorem d_Bo_pew_97 : decode M_Bo_pew.1 97 = .ok (.getfield 29, 3) := by decide +kernel
theorem d_Bo_pew_100 : decode M_Bo_pew.1 100 = .ok (.getfield 121, 3) := by decide +kernel
theorem d_Bo_pew_103 : decode M_Bo_pew.1 103 = .ok (.iload_n 1, 1) := by decide +kernel
theorem d_Bo_pew_104 : decode M_Bo_pew.1 104 = .ok (.iaload, 1) := by decide +kernel
theorem d_Bo_pew_105 : decode M_Bo_pew.1 105 = .ok (.ireturn, 1) := by decide +kernel
theorem d_Bo_pew_106 : decode M_Bo_pew.1 106 = .ok (.aload_n 0, 1) := by decide +kernel
theorem d_Bo_pew_107 : decode M_Bo_pew.1 107 = .ok (.getfield 19, 3) := by decide +kernel
theorem d_Bo_pew_110 : decode M_Bo_pew.1 110 = .ok (.iload_n 1, 1) := by decide +kernel
theorem d_Bo_pew_111 : decode M_Bo_pew.1 111 = .ok (.invokevirtual 124, 3) := by decide +kernel
theorem d_Bo_pew_114 : decode M_Bo_pew.1 114 = .ok (.ireturn, 1) := by decide +kernel
theorem d_Bo_pew_115 : decode M_Bo_pew.1 115 = .ok (.aload_n 0, 1) := by decide +kernel
theorem d_Bo_pew_116 : decode M_Bo_pew.1 116 = .ok (.getfield 29, 3) := by decide +kernel
theorem d_Bo_pew_119 : decode M_Bo_pew.1 119 = .ok (.iload_n 1, 1) := by decide +kernel
theorem d_Bo_pew_120 : decode M_Bo_pew.1 120 = .ok (.invokevirtual 128, 3) := by decide +kernel
theorem d_Bo_pew_123 : decode M_Bo_pew.1 123 = .ok (.ifCond .eq 7, 3) := by decide +kernel
theorem d_Bo_pew_126 : decode M_Bo_pew.1 126 = .ok (.iconst 1, 1) := by decide +kernel
theorem d_Bo_pew_127 : decode M_Bo_pew.1 127 = .ok (.goto 4, 3) := by decide +kernel
theorem d_Bo_pew_130 : decode M_Bo_pew.1 130 = .ok (.iconst 0, 1) := by decide +kernel
theorem d_Bo_pew_131 : decode M_Bo_pew.1 131 = .ok (.ireturn, 1) := by decide +kernel
theorem d_Bo_pew_132 : decode M_Bo_pew.1 132 = .ok (.ldc 68, 2) := by decide +kernel
theorem d_Bo_pew_134 : decode M_Bo_pew.1 134 = .ok (.ireturn, 1) := by decide +kernel
theorem d_Bo_now_0 : decode M_Bo_now.1 0 = .ok (.iload_n 1, 1) := by decide +kernel
theorem d_Bo_now_1 : decode M_Bo_now.1 1 = .ok (.tableswitch 106 0 6 #[43, 51, 59, 67, 75, 83, 98], 43) := by decide +kernel
theorem d_Bo_now_44 : decode M_Bo_now.1 44 = .ok (.aload_n 0, 1) := by decide +kernel
theorem d_Bo_now_45 : decode M_Bo_now.1 45 = .ok (.getfield 29, 3) := by decide +kernel
theorem d_Bo_now_48 : decode M_Bo_now.1 48 = .ok (.getfield 131, 3) := by decide +kernel
theorem d_Bo_now_51 : decode M_Bo_now.1 51 = .ok (.ireturn, 1) := by decide +kernel
theorem d_Bo_now_52 : decode M_Bo_now.1 52 = .ok (.aload_n 0, 1) := by decide +kernel
theorem d_Bo_now_53 : decode M_Bo_now.1 53 = .ok (.getfield 29, 3) := by decide +kernel
theorem d_Bo_now_56 : decode M_Bo_now.1 56 = .ok (.getfield 134, 3) := by decide +kernel
theorem d_Bo_now_59 : decode M_Bo_now.1 59 = .ok (.ireturn, 1) := by decide +kernel
theorem d_Bo_now_60 : decode M_Bo_now.1 60 = .ok (.aload_n 0, 1) := by decide +kernel
theorem d_Bo_now_61 : decode M_Bo_now.1 61 = .ok (.getfield 29, 3) := by decide +kernel
theorem d_Bo_now_64 : decode M_Bo_now.1 64 = .ok (.getfield 137, 3) := by decide +kernel
theorem d_Bo_now_67 : decode M_Bo_now.1 67 = .ok (.ireturn, 1) := by decide +kernel
theorem d_Bo_now_68 : decode M_Bo_now.1 68 = .ok (.aload_n 0, 1) := by decide +kernel
theorem d_Bo_now_69 : decode M_Bo_now.1 69 = .ok (.getfield 29, 3) := by decide +kernel
theorem d_Bo_now_72 : decode M_Bo_now.1 72 = .ok (.getfield 140, 3) := by decide +kernel
theorem d_Bo_now_75 : decode M_Bo_now.1 75 = .ok (.ireturn, 1) := by decide +kernel
theorem d_Bo_now_76 : decode M_Bo_now.1 76 = .ok (.aload_n 0, 1) := by decide +kernel
theorem d_Bo_now_77 : decode M_Bo_now.1 77 = .ok (.getfield 29, 3) := by decide +kernel
theorem d_Bo_now_80 : decode M_Bo_now.1 80 = .ok (.getfield 143, 3) := by decide +kernel
theorem d_Bo_now_83 : decode M_Bo_now.1 83 = .ok (.ireturn, 1) := by decide +kernel
theorem d_Bo_now_84 : decode M_Bo_now.1 84 = .ok (.aload_n 0, 1) := by decide +kernel
theorem d_Bo_now_85 : decode M_Bo_now.1 85 = .ok (.getfield 29, 3) := by decide +kernel
theorem d_Bo_now_88 : decode M_Bo_now.1 88 = .ok (.aload_n 0, 1) := by decide +kernel
theorem d_Bo_now_89 : decode M_Bo_now.1 89 = .ok (.getfield 19, 3) := by decide +kernel
theorem d_Bo_now_92 : decode M_Bo_now.1 92 = .ok (.getfield 146, 3) := by decide +kernel
theorem d_Bo_now_95 : decode M_Bo_now.1 95 = .ok (.invokevirtual 149, 3) := by decide +kernel
theorem d_Bo_now_98 : decode M_Bo_now.1 98 = .ok (.ireturn, 1) := by decide +kernel
theorem d_Bo_now_99 : decode M_Bo_now.1 99 = .ok (.aload_n 0, 1) := by decide +kernel
theorem d_Bo_now_100 : decode M_Bo_now.1 100 = .ok (.getfield 42, 3) := by decide +kernel
theorem d_Bo_now_103 : decode M_Bo_now.1 103 = .ok (.getfield 100, 3) := by decide +kernel
theorem d_Bo_now_106 : decode M_Bo_now.1 106 = .ok (.ireturn, 1) := by decide +kernel
theorem d_Bo_now_107 : decode M_Bo_now.1 107 = .ok (.ldc 68, 2) := by decide +kernel
theorem d_Bo_now_109 : decode M_Bo_now.1 109 = .ok (.ireturn, 1) := by decide +kernel
theorem d_Bo_line_0 : decode M_Bo_line.1 0 = .ok (.aload_n 0, 1) := by decide +kernel
theorem d_Bo_line_1 : decode M_Bo_line.1 1 = .ok (.getfield 29, 3) := by decide +kernel
theorem d_Bo_line_4 : decode M_Bo_line.1 4 = .ok (.getfield 131, 3) := by decide +kernel
theorem d_Bo_line_7 : decode M_Bo_line.1 7 = .ok (.sipush 999, 3) := by decide +kernel
theorem d_Bo_line_10 : decode M_Bo_line.1 10 = .ok (.if_icmp .lt 6, 3) := by decide +kernel
theorem d_Bo_line_13 : decode M_Bo_line.1 13 = .ok (.ldc 152, 2) := by decide +kernel
theorem d_Bo_line_15 : decode M_Bo_line.1 15 = .ok (.ireturn, 1) := by decide +kernel
theorem d_Bo_line_16 : decode M_Bo_line.1 16 = .ok (.aload_n 0, 1) := by decide +kernel
theorem d_Bo_line_17 : decode M_Bo_line.1 17 = .ok (.getfield 42, 3) := by decide +kernel
theorem d_Bo_line_20 : decode M_Bo_line.1 20 = .ok (.aload_n 0, 1) := by decide +kernel
theorem d_Bo_line_21 : decode M_Bo_line.1 21 = .ok (.getfield 29, 3) := by decide +kernel
theorem d_Bo_line_24 : decode M_Bo_line.1 24 = .ok (.invokevirtual 153, 3) := by decide +kernel
theorem d_Bo_line_27 : decode M_Bo_line.1 27 = .ok (.aload_n 0, 1) := by decide +kernel
theorem d_Bo_line_28 : decode M_Bo_line.1 28 = .ok (.getfield 19, 3) := by decide +kernel
theorem d_Bo_line_31 : decode M_Bo_line.1 31 = .ok (.aload_n 0, 1) := by decide +kernel
theorem d_Bo_line_32 : decode M_Bo_line.1 32 = .ok (.getfield 29, 3) := by decide +kernel
theorem d_Bo_line_35 : decode M_Bo_line.1 35 = .ok (.invokevirtual 157, 3) := by decide +kernel
theorem d_Bo_line_38 : decode M_Bo_line.1 38 = .ok (.aload_n 0, 1) := by decide +kernel
theorem d_Bo_line_39 : decode M_Bo_line.1 39 = .ok (.getfield 29, 3) := by decide +kernel
theorem d_Bo_line_42 : decode M_Bo_line.1 42 = .ok (.getfield 134, 3) := by decide +kernel
theorem d_Bo_line_45 : decode M_Bo_line.1 45 = .ok (.ireturn, 1) := by decide +kernel
theorem d_Bo_verse_0 : decode M_Bo_verse.1 0 = .ok (.aload_n 0, 1) := by decide +kernel
theorem d_Bo_verse_1 : decode M_Bo_verse.1 1 = .ok (.getfield 29, 3) := by decide +kernel
theorem d_Bo_verse_4 : decode M_Bo_verse.1 4 = .ok (.getfield 131, 3) := by decide +kernel
theorem d_Bo_verse_7 : decode M_Bo_verse.1 7 = .ok (.aload_n 0, 1) := by decide +kernel
theorem d_Bo_verse_8 : decode M_Bo_verse.1 8 = .ok (.getfield 19, 3) := by decide +kernel
theorem d_Bo_verse_11 : decode M_Bo_verse.1 11 = .ok (.getfield 160, 3) := by decide +kernel
theorem d_Bo_verse_14 : decode M_Bo_verse.1 14 = .ok (.iadd, 1) := by decide +kernel
theorem d_Bo_verse_15 : decode M_Bo_verse.1 15 = .ok (.sipush 999, 3) := by decide +kernel
theorem d_Bo_verse_18 : decode M_Bo_verse.1 18 = .ok (.if_icmp .le 6, 3) := by decide +kernel
theorem d_Bo_verse_21 : decode M_Bo_verse.1 21 = .ok (.ldc 152, 2) := by decide +kernel
theorem d_Bo_verse_23 : decode M_Bo_verse.1 23 = .ok (.ireturn, 1) := by decide +kernel
theorem d_Bo_verse_24 : decode M_Bo_verse.1 24 = .ok (.aload_n 0, 1) := by decide +kernel
theorem d_Bo_verse_25 : decode M_Bo_verse.1 25 = .ok (.getfield 42, 3) := by decide +kernel
theorem d_Bo_verse_28 : decode M_Bo_verse.1 28 = .ok (.aload_n 0, 1) := by decide +kernel
theorem d_Bo_verse_29 : decode M_Bo_verse.1 29 = .ok (.getfield 29, 3) := by decide +kernel
theorem d_Bo_verse_32 : decode M_Bo_verse.1 32 = .ok (.invokevirtual 153, 3) := by decide +kernel
theorem d_Bo_verse_35 : decode M_Bo_verse.1 35 = .ok (.aload_n 0, 1) := by decide +kernel
theorem d_Bo_verse_36 : decode M_Bo_verse.1 36 = .ok (.getfield 19, 3) := by decide +kernel
theorem d_Bo_verse_39 : decode M_Bo_verse.1 39 = .ok (.aload_n 0, 1) := by decide +kernel
theorem d_Bo_verse_40 : decode M_Bo_verse.1 40 = .ok (.getfield 29, 3) := by decide +kernel
theorem d_Bo_verse_43 : decode M_Bo_verse.1 43 = .ok (.aload_n 0, 1) := by decide +kernel
theorem d_Bo_verse_44 : decode M_Bo_verse.1 44 = .ok (.getfield 19, 3) := by decide +kernel
theorem d_Bo_verse_47 : decode M_Bo_verse.1 47 = .ok (.getfield 160, 3) := by decide +kernel
theorem d_Bo_verse_50 : decode M_Bo_verse.1 50 = .ok (.invokevirtual 163, 3) := by decide +kernel
theorem d_Bo_verse_53 : decode M_Bo_verse.1 53 = .ok (.iconst 0, 1) := by decide +kernel
theorem d_Bo_verse_54 : decode M_Bo_verse.1 54 = .ok (.istore_n 1, 1) := by decide +kernel
theorem d_Bo_verse_55 : decode M_Bo_verse.1 55 = .ok (.iload_n 1, 1) := by decide +kernel
theorem d_Bo_verse_56 : decode M_Bo_verse.1 56 = .ok (.aload_n 0, 1) := by decide +kernel
theorem d_Bo_verse_57 : decode M_Bo_verse.1 57 = .ok (.getfield 19, 3) := by decide +kernel
theorem d_Bo_verse_60 : decode M_Bo_verse.1 60 = .ok (.getfield 146, 3) := by decide +kernel
theorem d_Bo_verse_63 : decode M_Bo_verse.1 63 = .ok (.if_icmp .ge 39, 3) := by decide +kernel
theorem d_Bo_verse_66 : decode M_Bo_verse.1 66 = .ok (.aload_n 0, 1) := by decide +kernel
theorem d_Bo_verse_67 : decode M_Bo_verse.1 67 = .ok (.getfield 29, 3) := by decide +kernel
theorem d_Bo_verse_70 : decode M_Bo_verse.1 70 = .ok (.getfield 121, 3) := by decide +kernel
theorem d_Bo_verse_73 : decode M_Bo_verse.1 73 = .ok (.iload_n 1, 1) := by decide +kernel
theorem d_Bo_verse_74 : decode M_Bo_verse.1 74 = .ok (.aload_n 0, 1) := by decide +kernel
theorem d_Bo_verse_75 : decode M_Bo_verse.1 75 = .ok (.getfield 29, 3) := by decide +kernel
theorem d_Bo_verse_78 : decode M_Bo_verse.1 78 = .ok (.getfield 121, 3) := by decide +kernel
theorem d_Bo_verse_81 : decode M_Bo_verse.1 81 = .ok (.iload_n 1, 1) := by decide +kernel
theorem d_Bo_verse_82 : decode M_Bo_verse.1 82 = .ok (.iaload, 1) := by decide +kernel
theorem d_Bo_verse_83 : decode M_Bo_verse.1 83 = .ok (.aload_n 0, 1) := by decide +kernel
theorem d_Bo_verse_84 : decode M_Bo_verse.1 84 = .ok (.getfield 19, 3) := by decide +kernel
theorem d_Bo_verse_87 : decode M_Bo_verse.1 87 = .ok (.getfield 167, 3) := by decide +kernel
theorem d_Bo_verse_90 : decode M_Bo_verse.1 90 = .ok (.iconst 1, 1) := by decide +kernel
theorem d_Bo_verse_91 : decode M_Bo_verse.1 91 = .ok (.iadd, 1) := by decide +kernel
theorem d_Bo_verse_92 : decode M_Bo_verse.1 92 = .ok (.invokestatic 170, 3) := by decide +kernel
theorem d_Bo_verse_95 : decode M_Bo_verse.1 95 = .ok (.iastore, 1) := by decide +kernel
theorem d_Bo_verse_96 : decode M_Bo_verse.1 96 = .ok (.iinc 1 1, 3) := by decide +kernel
theorem d_Bo_verse_99 : decode M_Bo_verse.1 99 = .ok (.goto (-44), 3) := by decide +kernel
theorem d_Bo_verse_102 : decode M_Bo_verse.1 102 = .ok (.aload_n 0, 1) := by decide +kernel
theorem d_Bo_verse_103 : decode M_Bo_verse.1 103 = .ok (.getfield 29, 3) := by decide +kernel
theorem d_Bo_verse_106 : decode M_Bo_verse.1 106 = .ok (.getfield 134, 3) := by decide +kernel
theorem d_Bo_verse_109 : decode M_Bo_verse.1 109 = .ok (.ireturn, 1) := by decide +kernel
theorem d_Bo_ahead_0 : decode M_Bo_ahead.1 0 = .ok (.iload_n 1, 1) := by decide +kernel
theorem d_Bo_ahead_1 : decode M_Bo_ahead.1 1 = .ok (.iconst 0, 1) := by decide +kernel
theorem d_Bo_ahead_2 : decode M_Bo_ahead.1 2 = .ok (.bipush 20, 2) := by decide +kernel
theorem d_Bo_ahead_4 : decode M_Bo_ahead.1 4 = .ok (.invokestatic 64, 3) := by decide +kernel
theorem d_Bo_ahead_7 : decode M_Bo_ahead.1 7 = .ok (.ifCond .ne 6, 3) := by decide +kernel
theorem d_Bo_ahead_10 : decode M_Bo_ahead.1 10 = .ok (.ldc 68, 2) := by decide +kernel
theorem d_Bo_ahead_12 : decode M_Bo_ahead.1 12 = .ok (.ireturn, 1) := by decide +kernel
theorem d_Bo_ahead_13 : decode M_Bo_ahead.1 13 = .ok (.aload_n 0, 1) := by decide +kernel
theorem d_Bo_ahead_14 : decode M_Bo_ahead.1 14 = .ok (.getfield 42, 3) := by decide +kernel
theorem d_Bo_ahead_17 : decode M_Bo_ahead.1 17 = .ok (.aload_n 0, 1) := by decide +kernel
theorem d_Bo_ahead_18 : decode M_Bo_ahead.1 18 = .ok (.getfield 29, 3) := by decide +kernel
theorem d_Bo_ahead_21 : decode M_Bo_ahead.1 21 = .ok (.invokevirtual 153, 3) := by decide +kernel
theorem d_Bo_ahead_24 : decode M_Bo_ahead.1 24 = .ok (.aload_n 0, 1) := by decide +kernel
theorem d_Bo_ahead_25 : decode M_Bo_ahead.1 25 = .ok (.getfield 29, 3) := by decide +kernel
theorem d_Bo_ahead_28 : decode M_Bo_ahead.1 28 = .ok (.getfield 137, 3) := by decide +kernel
theorem d_Bo_ahead_31 : decode M_Bo_ahead.1 31 = .ok (.istore_n 2, 1) := by decide +kernel
theorem d_Bo_ahead_32 : decode M_Bo_ahead.1 32 = .ok (.aload_n 0, 1) := by decide +kernel
theorem d_Bo_ahead_33 : decode M_Bo_ahead.1 33 = .ok (.getfield 29, 3) := by decide +kernel
theorem d_Bo_ahead_36 : decode M_Bo_ahead.1 36 = .ok (.iload_n 1, 1) := by decide +kernel
theorem d_Bo_ahead_37 : decode M_Bo_ahead.1 37 = .ok (.putfield 137, 3) := by decide +kernel
theorem d_Bo_ahead_40 : decode M_Bo_ahead.1 40 = .ok (.iload_n 2, 1) := by decide +kernel
theorem d_Bo_ahead_41 : decode M_Bo_ahead.1 41 = .ok (.ireturn, 1) := by decide +kernel
theorem d_Bo_choir_0 : decode M_Bo_choir.1 0 = .ok (.iload_n 1, 1) := by decide +kernel
theorem d_Bo_choir_1 : decode M_Bo_choir.1 1 = .ok (.ldc 174, 2) := by decide +kernel
theorem d_Bo_choir_3 : decode M_Bo_choir.1 3 = .ok (.if_icmp .eq 17, 3) := by decide +kernel
theorem d_Bo_choir_6 : decode M_Bo_choir.1 6 = .ok (.aload_n 0, 1) := by decide +kernel
theorem d_Bo_choir_7 : decode M_Bo_choir.1 7 = .ok (.getfield 19, 3) := by decide +kernel
theorem d_Bo_choir_10 : decode M_Bo_choir.1 10 = .ok (.iload_n 1, 1) := by decide +kernel
theorem d_Bo_choir_11 : decode M_Bo_choir.1 11 = .ok (.invokevirtual 106, 3) := by decide +kernel
theorem d_Bo_choir_14 : decode M_Bo_choir.1 14 = .ok (.ifCond .ne 6, 3) := by decide +kernel
theorem d_Bo_choir_17 : decode M_Bo_choir.1 17 = .ok (.ldc 68, 2) := by decide +kernel
theorem d_Bo_choir_19 : decode M_Bo_choir.1 19 = .ok (.ireturn, 1) := by decide +kernel
theorem d_Bo_choir_20 : decode M_Bo_choir.1 20 = .ok (.aload_n 0, 1) := by decide +kernel
theorem d_Bo_choir_21 : decode M_Bo_choir.1 21 = .ok (.getfield 42, 3) := by decide +kernel
theorem d_Bo_choir_24 : decode M_Bo_choir.1 24 = .ok (.aload_n 0, 1) := by decide +kernel
theorem d_Bo_choir_25 : decode M_Bo_choir.1 25 = .ok (.getfield 29, 3) := by decide +kernel
theorem d_Bo_choir_28 : decode M_Bo_choir.1 28 = .ok (.invokevirtual 153, 3) := by decide +kernel
theorem d_Bo_choir_31 : decode M_Bo_choir.1 31 = .ok (.aload_n 0, 1) := by decide +kernel
theorem d_Bo_choir_32 : decode M_Bo_choir.1 32 = .ok (.getfield 29, 3) := by decide +kernel
theorem d_Bo_choir_35 : decode M_Bo_choir.1 35 = .ok (.getfield 140, 3) := by decide +kernel
theorem d_Bo_choir_38 : decode M_Bo_choir.1 38 = .ok (.istore_n 2, 1) := by decide +kernel
theorem d_Bo_choir_39 : decode M_Bo_choir.1 39 = .ok (.aload_n 0, 1) := by decide +kernel
theorem d_Bo_choir_40 : decode M_Bo_choir.1 40 = .ok (.getfield 29, 3) := by decide +kernel
theorem d_Bo_choir_43 : decode M_Bo_choir.1 43 = .ok (.iload_n 1, 1) := by decide +kernel
theorem d_Bo_choir_44 : decode M_Bo_choir.1 44 = .ok (.putfield 140, 3) := by decide +kernel
theorem d_Bo_choir_47 : decode M_Bo_choir.1 47 = .ok (.iload_n 2, 1) := by decide +kernel
theorem d_Bo_choir_48 : decode M_Bo_choir.1 48 = .ok (.ireturn, 1) := by decide +kernel
theorem d_Bo_knows_0 : decode M_Bo_knows.1 0 = .ok (.aload_n 0, 1) := by decide +kernel
theorem d_Bo_knows_1 : decode M_Bo_knows.1 1 = .ok (.getfield 19, 3) := by decide +kernel
theorem d_Bo_knows_4 : decode M_Bo_knows.1 4 = .ok (.iload_n 1, 1) := by decide +kernel
theorem d_Bo_knows_5 : decode M_Bo_knows.1 5 = .ok (.invokevirtual 106, 3) := by decide +kernel
theorem d_Bo_knows_8 : decode M_Bo_knows.1 8 = .ok (.ifCond .eq 12, 3) := by decide +kernel
theorem d_Bo_knows_11 : decode M_Bo_knows.1 11 = .ok (.iload_n 2, 1) := by decide +kernel
theorem d_Bo_knows_12 : decode M_Bo_knows.1 12 = .ok (.iconst 0, 1) := by decide +kernel
theorem d_Bo_knows_13 : decode M_Bo_knows.1 13 = .ok (.iconst 1, 1) := by decide +kernel
theorem d_Bo_knows_14 : decode M_Bo_knows.1 14 = .ok (.invokestatic 64, 3) := by decide +kernel
theorem d_Bo_knows_17 : decode M_Bo_knows.1 17 = .ok (.ifCond .ne 6, 3) := by decide +kernel
theorem d_Bo_knows_20 : decode M_Bo_knows.1 20 = .ok (.ldc 68, 2) := by decide +kernel
theorem d_Bo_knows_22 : decode M_Bo_knows.1 22 = .ok (.ireturn, 1) := by decide +kernel
theorem d_Bo_knows_23 : decode M_Bo_knows.1 23 = .ok (.aload_n 0, 1) := by decide +kernel
theorem d_Bo_knows_24 : decode M_Bo_knows.1 24 = .ok (.getfield 42, 3) := by decide +kernel
theorem d_Bo_knows_27 : decode M_Bo_knows.1 27 = .ok (.aload_n 0, 1) := by decide +kernel
theorem d_Bo_knows_28 : decode M_Bo_knows.1 28 = .ok (.getfield 29, 3) := by decide +kernel
theorem d_Bo_knows_31 : decode M_Bo_knows.1 31 = .ok (.invokevirtual 153, 3) := by decide +kernel
theorem d_Bo_knows_34 : decode M_Bo_knows.1 34 = .ok (.iconst 1, 1) := by decide +kernel
theorem d_Bo_knows_35 : decode M_Bo_knows.1 35 = .ok (.iload_n 1, 1) := by decide +kernel
theorem d_Bo_knows_36 : decode M_Bo_knows.1 36 = .ok (.ishl, 1) := by decide +kernel
theorem d_Bo_knows_37 : decode M_Bo_knows.1 37 = .ok (.istore_n 3, 1) := by decide +kernel
theorem d_Bo_knows_38 : decode M_Bo_knows.1 38 = .ok (.aload_n 0, 1) := by decide +kernel
theorem d_Bo_knows_39 : decode M_Bo_knows.1 39 = .ok (.getfield 29, 3) := by decide +kernel
theorem d_Bo_knows_42 : decode M_Bo_knows.1 42 = .ok (.iload_n 2, 1) := by decide +kernel
theorem d_Bo_knows_43 : decode M_Bo_knows.1 43 = .ok (.iconst 1, 1) := by decide +kernel
theorem d_Bo_knows_44 : decode M_Bo_knows.1 44 = .ok (.if_icmp .ne 15, 3) := by decide +kernel
theorem d_Bo_knows_47 : decode M_Bo_knows.1 47 = .ok (.aload_n 0, 1) := by decide +kernel
theorem d_Bo_knows_48 : decode M_Bo_knows.1 48 = .ok (.getfield 29, 3) := by decide +kernel
theorem d_Bo_knows_51 : decode M_Bo_knows.1 51 = .ok (.getfield 175, 3) := by decide +kernel
theorem d_Bo_knows_54 : decode M_Bo_knows.1 54 = .ok (.iload_n 3, 1) := by decide +kernel
theorem d_Bo_knows_55 : decode M_Bo_knows.1 55 = .ok (.ior, 1) := by decide +kernel
theorem d_Bo_knows_56 : decode M_Bo_knows.1 56 = .ok (.goto 14, 3) := by decide +kernel
theorem d_Bo_knows_59 : decode M_Bo_knows.1 59 = .ok (.aload_n 0, 1) := by decide +kernel
theorem d_Bo_knows_60 : decode M_Bo_knows.1 60 = .ok (.getfield 29, 3) := by decide +kernel
theorem d_Bo_knows_63 : decode M_Bo_knows.1 63 = .ok (.getfield 175, 3) := by decide +kernel
theorem d_Bo_knows_66 : decode M_Bo_knows.1 66 = .ok (.iload_n 3, 1) := by decide +kernel
theorem d_Bo_knows_67 : decode M_Bo_knows.1 67 = .ok (.iconst (-1), 1) := by decide +kernel
theorem d_Bo_knows_68 : decode M_Bo_knows.1 68 = .ok (.ixor, 1) := by decide +kernel
theorem d_Bo_knows_69 : decode M_Bo_knows.1 69 = .ok (.iand, 1) := by decide +kernel
theorem d_Bo_knows_70 : decode M_Bo_knows.1 70 = .ok (.putfield 175, 3) := by decide +kernel
theorem d_Bo_knows_73 : decode M_Bo_knows.1 73 = .ok (.aload_n 0, 1) := by decide +kernel
theorem d_Bo_knows_74 : decode M_Bo_knows.1 74 = .ok (.getfield 29, 3) := by decide +kernel
theorem d_Bo_knows_77 : decode M_Bo_knows.1 77 = .ok (.getfield 175, 3) := by decide +kernel
theorem d_Bo_knows_80 : decode M_Bo_knows.1 80 = .ok (.invokestatic 178, 3) := by decide +kernel
theorem d_Bo_knows_83 : decode M_Bo_knows.1 83 = .ok (.ireturn, 1) := by decide +kernel
theorem d_Bo_waits_0 : decode M_Bo_waits.1 0 = .ok (.iload_n 1, 1) := by decide +kernel
theorem d_Bo_waits_1 : decode M_Bo_waits.1 1 = .ok (.iconst 0, 1) := by decide +kernel
theorem d_Bo_waits_2 : decode M_Bo_waits.1 2 = .ok (.bipush 10, 2) := by decide +kernel
theorem d_Bo_waits_4 : decode M_Bo_waits.1 4 = .ok (.invokestatic 64, 3) := by decide +kernel
theorem d_Bo_waits_7 : decode M_Bo_waits.1 7 = .ok (.ifCond .ne 6, 3) := by decide +kernel
theorem d_Bo_waits_10 : decode M_Bo_waits.1 10 = .ok (.ldc 68, 2) := by decide +kernel
theorem d_Bo_waits_12 : decode M_Bo_waits.1 12 = .ok (.ireturn, 1) := by decide +kernel
theorem d_Bo_waits_13 : decode M_Bo_waits.1 13 = .ok (.aload_n 0, 1) := by decide +kernel
theorem d_Bo_waits_14 : decode M_Bo_waits.1 14 = .ok (.getfield 42, 3) := by decide +kernel
theorem d_Bo_waits_17 : decode M_Bo_waits.1 17 = .ok (.aload_n 0, 1) := by decide +kernel
theorem d_Bo_waits_18 : decode M_Bo_waits.1 18 = .ok (.getfield 29, 3) := by decide +kernel
theorem d_Bo_waits_21 : decode M_Bo_waits.1 21 = .ok (.invokevirtual 153, 3) := by decide +kernel
theorem d_Bo_waits_24 : decode M_Bo_waits.1 24 = .ok (.aload_n 0, 1) := by decide +kernel
theorem d_Bo_waits_25 : decode M_Bo_waits.1 25 = .ok (.getfield 29, 3) := by decide +kernel
theorem d_Bo_waits_28 : decode M_Bo_waits.1 28 = .ok (.getfield 143, 3) := by decide +kernel
theorem d_Bo_waits_31 : decode M_Bo_waits.1 31 = .ok (.istore_n 2, 1) := by decide +kernel
theorem d_Bo_waits_32 : decode M_Bo_waits.1 32 = .ok (.aload_n 0, 1) := by decide +kernel
theorem d_Bo_waits_33 : decode M_Bo_waits.1 33 = .ok (.getfield 29, 3) := by decide +kernel
theorem d_Bo_waits_36 : decode M_Bo_waits.1 36 = .ok (.iload_n 1, 1) := by decide +kernel
theorem d_Bo_waits_37 : decode M_Bo_waits.1 37 = .ok (.putfield 143, 3) := by decide +kernel
theorem d_Bo_waits_40 : decode M_Bo_waits.1 40 = .ok (.iload_n 2, 1) := by decide +kernel
theorem d_Bo_waits_41 : decode M_Bo_waits.1 41 = .ok (.ireturn, 1) := by decide +kernel
theorem d_Bo_undo_0 : decode M_Bo_undo.1 0 = .ok (.aload_n 0, 1) := by decide +kernel
theorem d_Bo_undo_1 : decode M_Bo_undo.1 1 = .ok (.getfield 42, 3) := by decide +kernel
theorem d_Bo_undo_4 : decode M_Bo_undo.1 4 = .ok (.getfield 100, 3) := by decide +kernel
theorem d_Bo_undo_7 : decode M_Bo_undo.1 7 = .ok (.ifCond .ne 6, 3) := by decide +kernel
theorem d_Bo_undo_10 : decode M_Bo_undo.1 10 = .ok (.ldc 152, 2) := by decide +kernel
theorem d_Bo_undo_12 : decode M_Bo_undo.1 12 = .ok (.ireturn, 1) := by decide +kernel
theorem d_Bo_undo_13 : decode M_Bo_undo.1 13 = .ok (.aload_n 0, 1) := by decide +kernel
theorem d_Bo_undo_14 : decode M_Bo_undo.1 14 = .ok (.getfield 42, 3) := by decide +kernel
theorem d_Bo_undo_17 : decode M_Bo_undo.1 17 = .ok (.aload_n 0, 1) := by decide +kernel
theorem d_Bo_undo_18 : decode M_Bo_undo.1 18 = .ok (.getfield 29, 3) := by decide +kernel
theorem d_Bo_undo_21 : decode M_Bo_undo.1 21 = .ok (.invokevirtual 183, 3) := by decide +kernel
theorem d_Bo_undo_24 : decode M_Bo_undo.1 24 = .ok (.aload_n 0, 1) := by decide +kernel
theorem d_Bo_undo_25 : decode M_Bo_undo.1 25 = .ok (.getfield 42, 3) := by decide +kernel
theorem d_Bo_undo_28 : decode M_Bo_undo.1 28 = .ok (.getfield 100, 3) := by decide +kernel
theorem d_Bo_undo_31 : decode M_Bo_undo.1 31 = .ok (.ireturn, 1) := by decide +kernel
theorem d_Bo_behind_0 : decode M_Bo_behind.1 0 = .ok (.iload_n 1, 1) := by decide +kernel
theorem d_Bo_behind_1 : decode M_Bo_behind.1 1 = .ok (.iconst 0, 1) := by decide +kernel
theorem d_Bo_behind_2 : decode M_Bo_behind.1 2 = .ok (.bipush 60, 2) := by decide +kernel
theorem d_Bo_behind_4 : decode M_Bo_behind.1 4 = .ok (.invokestatic 64, 3) := by decide +kernel
theorem d_Bo_behind_7 : decode M_Bo_behind.1 7 = .ok (.ifCond .eq 24, 3) := by decide +kernel
theorem d_Bo_behind_10 : decode M_Bo_behind.1 10 = .ok (.iload_n 2, 1) := by decide +kernel
theorem d_Bo_behind_11 : decode M_Bo_behind.1 11 = .ok (.bipush (-2), 2) := by decide +kernel
theorem d_Bo_behind_13 : decode M_Bo_behind.1 13 = .ok (.iconst (-1), 1) := by decide +kernel
theorem d_Bo_behind_14 : decode M_Bo_behind.1 14 = .ok (.invokestatic 64, 3) := by decide +kernel
theorem d_Bo_behind_17 : decode M_Bo_behind.1 17 = .ok (.ifCond .ne 17, 3) := by decide +kernel
theorem d_Bo_behind_20 : decode M_Bo_behind.1 20 = .ok (.aload_n 0, 1) := by decide +kernel
theorem d_Bo_behind_21 : decode M_Bo_behind.1 21 = .ok (.getfield 19, 3) := by decide +kernel
theorem d_Bo_behind_24 : decode M_Bo_behind.1 24 = .ok (.iload_n 2, 1) := by decide +kernel
theorem d_Bo_behind_25 : decode M_Bo_behind.1 25 = .ok (.invokevirtual 106, 3) := by decide +kernel
theorem d_Bo_behind_28 : decode M_Bo_behind.1 28 = .ok (.ifCond .ne 6, 3) := by decide +kernel
theorem d_Bo_behind_31 : decode M_Bo_behind.1 31 = .ok (.ldc 68, 2) := by decide +kernel
theorem d_Bo_behind_33 : decode M_Bo_behind.1 33 = .ok (.ireturn, 1) := by decide +kernel
theorem d_Bo_behind_34 : decode M_Bo_behind.1 34 = .ok (.aload_n 0, 1) := by decide +kernel
theorem d_Bo_behind_35 : decode M_Bo_behind.1 35 = .ok (.getfield 33, 3) := by decide +kernel
theorem d_Bo_behind_38 : decode M_Bo_behind.1 38 = .ok (.aload_n 0, 1) := by decide +kernel
theorem d_Bo_behind_39 : decode M_Bo_behind.1 39 = .ok (.getfield 29, 3) := by decide +kernel
theorem d_Bo_behind_42 : decode M_Bo_behind.1 42 = .ok (.invokevirtual 186, 3) := by decide +kernel
theorem d_Bo_behind_45 : decode M_Bo_behind.1 45 = .ok (.aload_n 0, 1) := by decide +kernel
theorem d_Bo_behind_46 : decode M_Bo_behind.1 46 = .ok (.getfield 19, 3) := by decide +kernel
theorem d_Bo_behind_49 : decode M_Bo_behind.1 49 = .ok (.aload_n 0, 1) := by decide +kernel
theorem d_Bo_behind_50 : decode M_Bo_behind.1 50 = .ok (.getfield 33, 3) := by decide +kernel
theorem d_Bo_behind_53 : decode M_Bo_behind.1 53 = .ok (.iload_n 1, 1) := by decide +kernel
theorem d_Bo_behind_54 : decode M_Bo_behind.1 54 = .ok (.invokevirtual 163, 3) := by decide +kernel
theorem d_Bo_behind_57 : decode M_Bo_behind.1 57 = .ok (.iload_n 2, 1) := by decide +kernel
theorem d_Bo_behind_58 : decode M_Bo_behind.1 58 = .ok (.iconst (-1), 1) := by decide +kernel
theorem d_Bo_behind_59 : decode M_Bo_behind.1 59 = .ok (.if_icmp .ne 11, 3) := by decide +kernel
theorem d_Bo_behind_62 : decode M_Bo_behind.1 62 = .ok (.aload_n 0, 1) := by decide +kernel
theorem d_Bo_behind_63 : decode M_Bo_behind.1 63 = .ok (.getfield 33, 3) := by decide +kernel
theorem d_Bo_behind_66 : decode M_Bo_behind.1 66 = .ok (.getfield 134, 3) := by decide +kernel
theorem d_Bo_behind_69 : decode M_Bo_behind.1 69 = .ok (.ireturn, 1) := by decide +kernel
theorem d_Bo_behind_70 : decode M_Bo_behind.1 70 = .ok (.iload_n 2, 1) := by decide +kernel
theorem d_Bo_behind_71 : decode M_Bo_behind.1 71 = .ok (.bipush (-2), 2) := by decide +kernel
theorem d_Bo_behind_73 : decode M_Bo_behind.1 73 = .ok (.if_icmp .ne 20, 3) := by decide +kernel
theorem d_Bo_behind_76 : decode M_Bo_behind.1 76 = .ok (.aload_n 0, 1) := by decide +kernel
theorem d_Bo_behind_77 : decode M_Bo_behind.1 77 = .ok (.getfield 33, 3) := by decide +kernel
theorem d_Bo_behind_80 : decode M_Bo_behind.1 80 = .ok (.aload_n 0, 1) := by decide +kernel
theorem d_Bo_behind_81 : decode M_Bo_behind.1 81 = .ok (.getfield 19, 3) := by decide +kernel
theorem d_Bo_behind_84 : decode M_Bo_behind.1 84 = .ok (.getfield 146, 3) := by decide +kernel
theorem d_Bo_behind_87 : decode M_Bo_behind.1 87 = .ok (.invokevirtual 149, 3) := by decide +kernel
theorem d_Bo_behind_90 : decode M_Bo_behind.1 90 = .ok (.goto 12, 3) := by decide +kernel
theorem d_Bo_behind_93 : decode M_Bo_behind.1 93 = .ok (.aload_n 0, 1) := by decide +kernel
theorem d_Bo_behind_94 : decode M_Bo_behind.1 94 = .ok (.getfield 33, 3) := by decide +kernel
theorem d_Bo_behind_97 : decode M_Bo_behind.1 97 = .ok (.getfield 121, 3) := by decide +kernel
theorem d_Bo_behind_100 : decode M_Bo_behind.1 100 = .ok (.iload_n 2, 1) := by decide +kernel
theorem d_Bo_behind_101 : decode M_Bo_behind.1 101 = .ok (.iaload, 1) := by decide +kernel
theorem d_Bo_behind_102 : decode M_Bo_behind.1 102 = .ok (.ireturn, 1) := by decide +kernel
theorem d_Bo_asleep_0 : decode M_Bo_asleep.1 0 = .ok (.iload_n 1, 1) := by decide +kernel
theorem d_Bo_asleep_1 : decode M_Bo_asleep.1 1 = .ok (.iconst 1, 1) := by decide +kernel
theorem d_Bo_asleep_2 : decode M_Bo_asleep.1 2 = .ok (.sipush 9999, 3) := by decide +kernel
theorem d_Bo_asleep_5 : decode M_Bo_asleep.1 5 = .ok (.invokestatic 64, 3) := by decide +kernel
theorem d_Bo_asleep_8 : decode M_Bo_asleep.1 8 = .ok (.ifCond .ne 6, 3) := by decide +kernel
theorem d_Bo_asleep_11 : decode M_Bo_asleep.1 11 = .ok (.ldc 68, 2) := by decide +kernel
theorem d_Bo_asleep_13 : decode M_Bo_asleep.1 13 = .ok (.ireturn, 1) := by decide +kernel
theorem d_Bo_asleep_14 : decode M_Bo_asleep.1 14 = .ok (.aload_n 0, 1) := by decide +kernel
theorem d_Bo_asleep_15 : decode M_Bo_asleep.1 15 = .ok (.getfield 33, 3) := by decide +kernel
theorem d_Bo_asleep_18 : decode M_Bo_asleep.1 18 = .ok (.aload_n 0, 1) := by decide +kernel
theorem d_Bo_asleep_19 : decode M_Bo_asleep.1 19 = .ok (.getfield 29, 3) := by decide +kernel
theorem d_Bo_asleep_22 : decode M_Bo_asleep.1 22 = .ok (.invokevirtual 186, 3) := by decide +kernel
theorem d_Bo_asleep_25 : decode M_Bo_asleep.1 25 = .ok (.iconst 0, 1) := by decide +kernel
theorem d_Bo_asleep_26 : decode M_Bo_asleep.1 26 = .ok (.istore_n 2, 1) := by decide +kernel
theorem d_Bo_asleep_27 : decode M_Bo_asleep.1 27 = .ok (.iload_n 2, 1) := by decide +kernel
theorem d_Bo_asleep_28 : decode M_Bo_asleep.1 28 = .ok (.bipush 60, 2) := by decide +kernel
theorem d_Bo_asleep_30 : decode M_Bo_asleep.1 30 = .ok (.if_icmp .gt 33, 3) := by decide +kernel
theorem d_Bo_asleep_33 : decode M_Bo_asleep.1 33 = .ok (.aload_n 0, 1) := by decide +kernel
theorem d_Bo_asleep_34 : decode M_Bo_asleep.1 34 = .ok (.getfield 33, 3) := by decide +kernel
theorem d_Bo_asleep_37 : decode M_Bo_asleep.1 37 = .ok (.getfield 134, 3) := by decide +kernel
theorem d_Bo_asleep_40 : decode M_Bo_asleep.1 40 = .ok (.iload_n 1, 1) := by decide +kernel
theorem d_Bo_asleep_41 : decode M_Bo_asleep.1 41 = .ok (.if_icmp .lt 5, 3) := by decide +kernel
theorem d_Bo_asleep_44 : decode M_Bo_asleep.1 44 = .ok (.iload_n 2, 1) := by decide +kernel
theorem d_Bo_asleep_45 : decode M_Bo_asleep.1 45 = .ok (.ireturn, 1) := by decide +kernel
theorem d_Bo_asleep_46 : decode M_Bo_asleep.1 46 = .ok (.aload_n 0, 1) := by decide +kernel
theorem d_Bo_asleep_47 : decode M_Bo_asleep.1 47 = .ok (.getfield 19, 3) := by decide +kernel
theorem d_Bo_asleep_50 : decode M_Bo_asleep.1 50 = .ok (.aload_n 0, 1) := by decide +kernel
theorem d_Bo_asleep_51 : decode M_Bo_asleep.1 51 = .ok (.getfield 33, 3) := by decide +kernel
theorem d_Bo_asleep_54 : decode M_Bo_asleep.1 54 = .ok (.invokevirtual 157, 3) := by decide +kernel
theorem d_Bo_asleep_57 : decode M_Bo_asleep.1 57 = .ok (.iinc 2 1, 3) := by decide +kernel
theorem d_Bo_asleep_60 : decode M_Bo_asleep.1 60 = .ok (.goto (-33), 3) := by decide +kernel
theorem d_Bo_asleep_63 : decode M_Bo_asleep.1 63 = .ok (.ldc 174, 2) := by decide +kernel
theorem d_Bo_asleep_65 : decode M_Bo_asleep.1 65 = .ok (.ireturn, 1) := by decide +kernel
theorem d_Bo_rest_0 : decode M_Bo_rest.1 0 = .ok (.aload_n 0, 1) := by decide +kernel
theorem d_Bo_rest_1 : decode M_Bo_rest.1 1 = .ok (.getfield 33, 3) := by decide +kernel
theorem d_Bo_rest_4 : decode M_Bo_rest.1 4 = .ok (.aload_n 0, 1) := by decide +kernel
theorem d_Bo_rest_5 : decode M_Bo_rest.1 5 = .ok (.getfield 29, 3) := by decide +kernel
theorem d_Bo_rest_8 : decode M_Bo_rest.1 8 = .ok (.invokevirtual 186, 3) := by decide +kernel
theorem d_Bo_rest_11 : decode M_Bo_rest.1 11 = .ok (.iconst 0, 1) := by decide +kernel
theorem d_Bo_rest_12 : decode M_Bo_rest.1 12 = .ok (.istore_n 1, 1) := by decide +kernel
theorem d_Bo_rest_13 : decode M_Bo_rest.1 13 = .ok (.iload_n 1, 1) := by decide +kernel
theorem d_Bo_rest_14 : decode M_Bo_rest.1 14 = .ok (.bipush 60, 2) := by decide +kernel
theorem d_Bo_rest_16 : decode M_Bo_rest.1 16 = .ok (.if_icmp .gt 54, 3) := by decide +kernel
theorem d_Bo_rest_19 : decode M_Bo_rest.1 19 = .ok (.aload_n 0, 1) := by decide +kernel
theorem d_Bo_rest_20 : decode M_Bo_rest.1 20 = .ok (.getfield 36, 3) := by decide +kernel
theorem d_Bo_rest_23 : decode M_Bo_rest.1 23 = .ok (.aload_n 0, 1) := by decide +kernel
theorem d_Bo_rest_24 : decode M_Bo_rest.1 24 = .ok (.getfield 33, 3) := by decide +kernel
theorem d_Bo_rest_27 : decode M_Bo_rest.1 27 = .ok (.invokevirtual 186, 3) := by decide +kernel
theorem d_Bo_rest_30 : decode M_Bo_rest.1 30 = .ok (.aload_n 0, 1) := by decide +kernel
theorem d_Bo_rest_31 : decode M_Bo_rest.1 31 = .ok (.getfield 19, 3) := by decide +kernel
theorem d_Bo_rest_34 : decode M_Bo_rest.1 34 = .ok (.aload_n 0, 1) := by decide +kernel
theorem d_Bo_rest_35 : decode M_Bo_rest.1 35 = .ok (.getfield 33, 3) := by decide +kernel
theorem d_Bo_rest_38 : decode M_Bo_rest.1 38 = .ok (.invokevirtual 157, 3) := by decide +kernel
theorem d_Bo_rest_41 : decode M_Bo_rest.1 41 = .ok (.aload_n 0, 1) := by decide +kernel
theorem d_Bo_rest_42 : decode M_Bo_rest.1 42 = .ok (.getfield 33, 3) := by decide +kernel
theorem d_Bo_rest_45 : decode M_Bo_rest.1 45 = .ok (.aload_n 0, 1) := by decide +kernel
theorem d_Bo_rest_46 : decode M_Bo_rest.1 46 = .ok (.getfield 36, 3) := by decide +kernel
theorem d_Bo_rest_49 : decode M_Bo_rest.1 49 = .ok (.aload_n 0, 1) := by decide +kernel
theorem d_Bo_rest_50 : decode M_Bo_rest.1 50 = .ok (.getfield 19, 3) := by decide +kernel
theorem d_Bo_rest_53 : decode M_Bo_rest.1 53 = .ok (.getfield 146, 3) := by decide +kernel
theorem d_Bo_rest_56 : decode M_Bo_rest.1 56 = .ok (.invokevirtual 188, 3) := by decide +kernel
theorem d_Bo_rest_59 : decode M_Bo_rest.1 59 = .ok (.ifCond .eq 5, 3) := by decide +kernel
theorem d_Bo_rest_62 : decode M_Bo_rest.1 62 = .ok (.iload_n 1, 1) := by decide +kernel
theorem d_Bo_rest_63 : decode M_Bo_rest.1 63 = .ok (.ireturn, 1) := by decide +kernel
theorem d_Bo_rest_64 : decode M_Bo_rest.1 64 = .ok (.iinc 1 1, 3) := by decide +kernel
theorem d_Bo_rest_67 : decode M_Bo_rest.1 67 = .ok (.goto (-54), 3) := by decide +kernel
theorem d_Bo_rest_70 : decode M_Bo_rest.1 70 = .ok (.ldc 174, 2) := by decide +kernel
theorem d_Bo_rest_72 : decode M_Bo_rest.1 72 = .ok (.ireturn, 1) := by decide +kernel
theorem d_Bo_playAhead_0 : decode M_Bo_playAhead.1 0 = .ok (.iload_n 1, 1) := by decide +kernel
theorem d_Bo_playAhead_1 : decode M_Bo_playAhead.1 1 = .ok (.iconst 1, 1) := by decide +kernel
theorem d_Bo_playAhead_2 : decode M_Bo_playAhead.1 2 = .ok (.bipush 30, 2) := by decide +kernel
theorem d_Bo_playAhead_4 : decode M_Bo_playAhead.1 4 = .ok (.invokestatic 64, 3) := by decide +kernel
theorem d_Bo_playAhead_7 : decode M_Bo_playAhead.1 7 = .ok (.ifCond .eq 12, 3) := by decide +kernel
theorem d_Bo_playAhead_10 : decode M_Bo_playAhead.1 10 = .ok (.iload_n 2, 1) := by decide +kernel
theorem d_Bo_playAhead_11 : decode M_Bo_playAhead.1 11 = .ok (.iconst 0, 1) := by decide +kernel
theorem d_Bo_playAhead_12 : decode M_Bo_playAhead.1 12 = .ok (.iconst 1, 1) := by decide +kernel
theorem d_Bo_playAhead_13 : decode M_Bo_playAhead.1 13 = .ok (.invokestatic 64, 3) := by decide +kernel
theorem d_Bo_playAhead_16 : decode M_Bo_playAhead.1 16 = .ok (.ifCond .ne 6, 3) := by decide +kernel
theorem d_Bo_playAhead_19 : decode M_Bo_playAhead.1 19 = .ok (.ldc 68, 2) := by decide +kernel
theorem d_Bo_playAhead_21 : decode M_Bo_playAhead.1 21 = .ok (.ireturn, 1) := by decide +kernel
theorem d_Bo_playAhead_22 : decode M_Bo_playAhead.1 22 = .ok (.iconst 0, 1) := by decide +kernel
theorem d_Bo_playAhead_23 : decode M_Bo_playAhead.1 23 = .ok (.istore_n 3, 1) := by decide +kernel
theorem d_Bo_playAhead_24 : decode M_Bo_playAhead.1 24 = .ok (.ldc 192, 2) := by decide +kernel
theorem d_Bo_playAhead_26 : decode M_Bo_playAhead.1 26 = .ok (.istore 4, 2) := by decide +kernel
theorem d_Bo_playAhead_28 : decode M_Bo_playAhead.1 28 = .ok (.iconst 0, 1) := by decide +kernel
theorem d_Bo_playAhead_29 : decode M_Bo_playAhead.1 29 = .ok (.istore 5, 2) := by decide +kernel
theorem d_Bo_playAhead_31 : decode M_Bo_playAhead.1 31 = .ok (.iload 5, 2) := by decide +kernel
theorem d_Bo_playAhead_33 : decode M_Bo_playAhead.1 33 = .ok (.bipush 20, 2) := by decide +kernel
theorem d_Bo_playAhead_35 : decode M_Bo_playAhead.1 35 = .ok (.if_icmp .gt 71, 3) := by decide +kernel
theorem d_Bo_playAhead_38 : decode M_Bo_playAhead.1 38 = .ok (.aload_n 0, 1) := by decide +kernel
theorem d_Bo_playAhead_39 : decode M_Bo_playAhead.1 39 = .ok (.getfield 33, 3) := by decide +kernel
theorem d_Bo_playAhead_42 : decode M_Bo_playAhead.1 42 = .ok (.aload_n 0, 1) := by decide +kernel
theorem d_Bo_playAhead_43 : decode M_Bo_playAhead.1 43 = .ok (.getfield 29, 3) := by decide +kernel
theorem d_Bo_playAhead_46 : decode M_Bo_playAhead.1 46 = .ok (.invokevirtual 186, 3) := by decide +kernel
theorem d_Bo_playAhead_49 : decode M_Bo_playAhead.1 49 = .ok (.aload_n 0, 1) := by decide +kernel
theorem d_Bo_playAhead_50 : decode M_Bo_playAhead.1 50 = .ok (.getfield 33, 3) := by decide +kernel
theorem d_Bo_playAhead_53 : decode M_Bo_playAhead.1 53 = .ok (.iload 5, 2) := by decide +kernel
theorem d_Bo_playAhead_55 : decode M_Bo_playAhead.1 55 = .ok (.putfield 137, 3) := by decide +kernel
theorem d_Bo_playAhead_58 : decode M_Bo_playAhead.1 58 = .ok (.aload_n 0, 1) := by decide +kernel
theorem d_Bo_playAhead_59 : decode M_Bo_playAhead.1 59 = .ok (.getfield 19, 3) := by decide +kernel
theorem d_Bo_playAhead_62 : decode M_Bo_playAhead.1 62 = .ok (.aload_n 0, 1) := by decide +kernel
theorem d_Bo_playAhead_63 : decode M_Bo_playAhead.1 63 = .ok (.getfield 33, 3) := by decide +kernel
theorem d_Bo_playAhead_66 : decode M_Bo_playAhead.1 66 = .ok (.iload_n 1, 1) := by decide +kernel
theorem d_Bo_playAhead_67 : decode M_Bo_playAhead.1 67 = .ok (.invokevirtual 163, 3) := by decide +kernel
theorem d_Bo_playAhead_70 : decode M_Bo_playAhead.1 70 = .ok (.aload_n 0, 1) := by decide +kernel
theorem d_Bo_playAhead_71 : decode M_Bo_playAhead.1 71 = .ok (.getfield 33, 3) := by decide +kernel
theorem d_Bo_playAhead_74 : decode M_Bo_playAhead.1 74 = .ok (.aload_n 0, 1) := by decide +kernel
theorem d_Bo_playAhead_75 : decode M_Bo_playAhead.1 75 = .ok (.getfield 19, 3) := by decide +kernel
theorem d_Bo_playAhead_78 : decode M_Bo_playAhead.1 78 = .ok (.getfield 146, 3) := by decide +kernel
theorem d_Bo_playAhead_81 : decode M_Bo_playAhead.1 81 = .ok (.invokevirtual 193, 3) := by decide +kernel
theorem d_Bo_playAhead_84 : decode M_Bo_playAhead.1 84 = .ok (.istore 6, 2) := by decide +kernel
theorem d_Bo_playAhead_86 : decode M_Bo_playAhead.1 86 = .ok (.iload 6, 2) := by decide +kernel
theorem d_Bo_playAhead_88 : decode M_Bo_playAhead.1 88 = .ok (.iload 4, 2) := by decide +kernel
theorem d_Bo_playAhead_90 : decode M_Bo_playAhead.1 90 = .ok (.if_icmp .ge 10, 3) := by decide +kernel
theorem d_Bo_playAhead_93 : decode M_Bo_playAhead.1 93 = .ok (.iload 6, 2) := by decide +kernel
theorem d_Bo_playAhead_95 : decode M_Bo_playAhead.1 95 = .ok (.istore 4, 2) := by decide +kernel
theorem d_Bo_playAhead_97 : decode M_Bo_playAhead.1 97 = .ok (.iload 5, 2) := by decide +kernel
theorem d_Bo_playAhead_99 : decode M_Bo_playAhead.1 99 = .ok (.istore_n 3, 1) := by decide +kernel
theorem d_Bo_playAhead_100 : decode M_Bo_playAhead.1 100 = .ok (.iinc 5 1, 3) := by decide +kernel
theorem d_Bo_playAhead_103 : decode M_Bo_playAhead.1 103 = .ok (.goto (-72), 3) := by decide +kernel
theorem d_Bo_playAhead_106 : decode M_Bo_playAhead.1 106 = .ok (.iload_n 2, 1) := by decide +kernel
theorem d_Bo_playAhead_107 : decode M_Bo_playAhead.1 107 = .ok (.ifCond .ne 7, 3) := by decide +kernel
theorem d_Bo_playAhead_110 : decode M_Bo_playAhead.1 110 = .ok (.iload_n 3, 1) := by decide +kernel
theorem d_Bo_playAhead_111 : decode M_Bo_playAhead.1 111 = .ok (.goto 5, 3) := by decide +kernel
theorem d_Bo_playAhead_114 : decode M_Bo_playAhead.1 114 = .ok (.iload 4, 2) := by decide +kernel
theorem d_Bo_playAhead_116 : decode M_Bo_playAhead.1 116 = .ok (.ireturn, 1) := by decide +kernel
theorem d_Bo_seat_0 : decode M_Bo_seat.1 0 = .ok (.iload_n 1, 1) := by decide +kernel
theorem d_Bo_seat_1 : decode M_Bo_seat.1 1 = .ok (.iconst 1, 1) := by decide +kernel
theorem d_Bo_seat_2 : decode M_Bo_seat.1 2 = .ok (.bipush 30, 2) := by decide +kernel
theorem d_Bo_seat_4 : decode M_Bo_seat.1 4 = .ok (.invokestatic 64, 3) := by decide +kernel
theorem d_Bo_seat_7 : decode M_Bo_seat.1 7 = .ok (.ifCond .eq 12, 3) := by decide +kernel
theorem d_Bo_seat_10 : decode M_Bo_seat.1 10 = .ok (.iload_n 2, 1) := by decide +kernel
theorem d_Bo_seat_11 : decode M_Bo_seat.1 11 = .ok (.iconst 0, 1) := by decide +kernel
theorem d_Bo_seat_12 : decode M_Bo_seat.1 12 = .ok (.iconst 1, 1) := by decide +kernel
theorem d_Bo_seat_13 : decode M_Bo_seat.1 13 = .ok (.invokestatic 64, 3) := by decide +kernel
theorem d_Bo_seat_16 : decode M_Bo_seat.1 16 = .ok (.ifCond .ne 6, 3) := by decide +kernel
theorem d_Bo_seat_19 : decode M_Bo_seat.1 19 = .ok (.ldc 68, 2) := by decide +kernel
theorem d_Bo_seat_21 : decode M_Bo_seat.1 21 = .ok (.ireturn, 1) := by decide +kernel
theorem d_Bo_seat_22 : decode M_Bo_seat.1 22 = .ok (.ldc 174, 2) := by decide +kernel
theorem d_Bo_seat_24 : decode M_Bo_seat.1 24 = .ok (.istore_n 3, 1) := by decide +kernel
theorem d_Bo_seat_25 : decode M_Bo_seat.1 25 = .ok (.ldc 192, 2) := by decide +kernel
theorem d_Bo_seat_27 : decode M_Bo_seat.1 27 = .ok (.istore 4, 2) := by decide +kernel
theorem d_Bo_seat_29 : decode M_Bo_seat.1 29 = .ok (.iconst 0, 1) := by decide +kernel
theorem d_Bo_seat_30 : decode M_Bo_seat.1 30 = .ok (.istore 5, 2) := by decide +kernel
theorem d_Bo_seat_32 : decode M_Bo_seat.1 32 = .ok (.iload 5, 2) := by decide +kernel
theorem d_Bo_seat_34 : decode M_Bo_seat.1 34 = .ok (.aload_n 0, 1) := by decide +kernel
theorem d_Bo_seat_35 : decode M_Bo_seat.1 35 = .ok (.getfield 19, 3) := by decide +kernel
theorem d_Bo_seat_38 : decode M_Bo_seat.1 38 = .ok (.getfield 146, 3) := by decide +kernel
theorem d_Bo_seat_41 : decode M_Bo_seat.1 41 = .ok (.if_icmp .ge 32, 3) := by decide +kernel
theorem d_Bo_seat_44 : decode M_Bo_seat.1 44 = .ok (.aload_n 0, 1) := by decide +kernel
theorem d_Bo_seat_45 : decode M_Bo_seat.1 45 = .ok (.iload_n 1, 1) := by decide +kernel
theorem d_Bo_seat_46 : decode M_Bo_seat.1 46 = .ok (.iload 5, 2) := by decide +kernel
theorem d_Bo_seat_48 : decode M_Bo_seat.1 48 = .ok (.invokevirtual 196, 3) := by decide +kernel
theorem d_Bo_seat_51 : decode M_Bo_seat.1 51 = .ok (.istore 6, 2) := by decide +kernel
theorem d_Bo_seat_53 : decode M_Bo_seat.1 53 = .ok (.iload 6, 2) := by decide +kernel
theorem d_Bo_seat_55 : decode M_Bo_seat.1 55 = .ok (.iload 4, 2) := by decide +kernel
theorem d_Bo_seat_57 : decode M_Bo_seat.1 57 = .ok (.if_icmp .ge 10, 3) := by decide +kernel
theorem d_Bo_seat_60 : decode M_Bo_seat.1 60 = .ok (.iload 6, 2) := by decide +kernel
theorem d_Bo_seat_62 : decode M_Bo_seat.1 62 = .ok (.istore 4, 2) := by decide +kernel
theorem d_Bo_seat_64 : decode M_Bo_seat.1 64 = .ok (.iload 5, 2) := by decide +kernel
theorem d_Bo_seat_66 : decode M_Bo_seat.1 66 = .ok (.istore_n 3, 1) := by decide +kernel
theorem d_Bo_seat_67 : decode M_Bo_seat.1 67 = .ok (.iinc 5 1, 3) := by decide +kernel
theorem d_Bo_seat_70 : decode M_Bo_seat.1 70 = .ok (.goto (-38), 3) := by decide +kernel
theorem d_Bo_seat_73 : decode M_Bo_seat.1 73 = .ok (.aload_n 0, 1) := by decide +kernel
theorem d_Bo_seat_74 : decode M_Bo_seat.1 74 = .ok (.iload_n 1, 1) := by decide +kernel
theorem d_Bo_seat_75 : decode M_Bo_seat.1 75 = .ok (.ldc 174, 2) := by decide +kernel
theorem d_Bo_seat_77 : decode M_Bo_seat.1 77 = .ok (.invokevirtual 196, 3) := by decide +kernel
theorem d_Bo_seat_80 : decode M_Bo_seat.1 80 = .ok (.istore 5, 2) := by decide +kernel
theorem d_Bo_seat_82 : decode M_Bo_seat.1 82 = .ok (.iload 5, 2) := by decide +kernel
theorem d_Bo_seat_84 : decode M_Bo_seat.1 84 = .ok (.iload 4, 2) := by decide +kernel
theorem d_Bo_seat_86 : decode M_Bo_seat.1 86 = .ok (.if_icmp .ge 10, 3) := by decide +kernel
theorem d_Bo_seat_89 : decode M_Bo_seat.1 89 = .ok (.iload 5, 2) := by decide +kernel
theorem d_Bo_seat_91 : decode M_Bo_seat.1 91 = .ok (.istore 4, 2) := by decide +kernel
theorem d_Bo_seat_93 : decode M_Bo_seat.1 93 = .ok (.ldc 174, 2) := by decide +kernel
theorem d_Bo_seat_95 : decode M_Bo_seat.1 95 = .ok (.istore_n 3, 1) := by decide +kernel
theorem d_Bo_seat_96 : decode M_Bo_seat.1 96 = .ok (.iload_n 2, 1) := by decide +kernel
theorem d_Bo_seat_97 : decode M_Bo_seat.1 97 = .ok (.ifCond .ne 7, 3) := by decide +kernel
theorem d_Bo_seat_100 : decode M_Bo_seat.1 100 = .ok (.iload_n 3, 1) := by decide +kernel
theorem d_Bo_seat_101 : decode M_Bo_seat.1 101 = .ok (.goto 5, 3) := by decide +kernel
theorem d_Bo_seat_104 : decode M_Bo_seat.1 104 = .ok (.iload 4, 2) := by decide +kernel
theorem d_Bo_seat_106 : decode M_Bo_seat.1 106 = .ok (.ireturn, 1) := by decide +kernel
theorem d_Bo_apartBySeat_0 : decode M_Bo_apartBySeat.1 0 = .ok (.aload_n 0, 1) := by decide +kernel
theorem d_Bo_apartBySeat_1 : decode M_Bo_apartBySeat.1 1 = .ok (.getfield 33, 3) := by decide +kernel
theorem d_Bo_apartBySeat_4 : decode M_Bo_apartBySeat.1 4 = .ok (.aload_n 0, 1) := by decide +kernel
theorem d_Bo_apartBySeat_5 : decode M_Bo_apartBySeat.1 5 = .ok (.getfield 29, 3) := by decide +kernel
theorem d_Bo_apartBySeat_8 : decode M_Bo_apartBySeat.1 8 = .ok (.invokevirtual 186, 3) := by decide +kernel
theorem d_Bo_apartBySeat_11 : decode M_Bo_apartBySeat.1 11 = .ok (.aload_n 0, 1) := by decide +kernel
theorem d_Bo_apartBySeat_12 : decode M_Bo_apartBySeat.1 12 = .ok (.getfield 33, 3) := by decide +kernel
theorem d_Bo_apartBySeat_15 : decode M_Bo_apartBySeat.1 15 = .ok (.iload_n 2, 1) := by decide +kernel
theorem d_Bo_apartBySeat_16 : decode M_Bo_apartBySeat.1 16 = .ok (.putfield 140, 3) := by decide +kernel
theorem d_Bo_apartBySeat_19 : decode M_Bo_apartBySeat.1 19 = .ok (.aload_n 0, 1) := by decide +kernel
theorem d_Bo_apartBySeat_20 : decode M_Bo_apartBySeat.1 20 = .ok (.getfield 19, 3) := by decide +kernel
theorem d_Bo_apartBySeat_23 : decode M_Bo_apartBySeat.1 23 = .ok (.aload_n 0, 1) := by decide +kernel
theorem d_Bo_apartBySeat_24 : decode M_Bo_apartBySeat.1 24 = .ok (.getfield 33, 3) := by decide +kernel
theorem d_Bo_apartBySeat_27 : decode M_Bo_apartBySeat.1 27 = .ok (.iload_n 1, 1) := by decide +kernel
theorem d_Bo_apartBySeat_28 : decode M_Bo_apartBySeat.1 28 = .ok (.invokevirtual 163, 3) := by decide +kernel
theorem d_Bo_apartBySeat_31 : decode M_Bo_apartBySeat.1 31 = .ok (.aload_n 0, 1) := by decide +kernel
theorem d_Bo_apartBySeat_32 : decode M_Bo_apartBySeat.1 32 = .ok (.getfield 33, 3) := by decide +kernel
theorem d_Bo_apartBySeat_35 : decode M_Bo_apartBySeat.1 35 = .ok (.aload_n 0, 1) := by decide +kernel
theorem d_Bo_apartBySeat_36 : decode M_Bo_apartBySeat.1 36 = .ok (.getfield 19, 3) := by decide +kernel
theorem d_Bo_apartBySeat_39 : decode M_Bo_apartBySeat.1 39 = .ok (.getfield 146, 3) := by decide +kernel
theorem d_Bo_apartBySeat_42 : decode M_Bo_apartBySeat.1 42 = .ok (.invokevirtual 149, 3) := by decide +kernel
theorem d_Bo_apartBySeat_45 : decode M_Bo_apartBySeat.1 45 = .ok (.ireturn, 1) := by decide +kernel
theorem d_Bo_knowers_0 : decode M_Bo_knowers.1 0 = .ok (.iload_n 1, 1) := by decide +kernel
theorem d_Bo_knowers_1 : decode M_Bo_knowers.1 1 = .ok (.iconst 1, 1) := by decide +kernel
theorem d_Bo_knowers_2 : decode M_Bo_knowers.1 2 = .ok (.bipush 30, 2) := by decide +kernel
theorem d_Bo_knowers_4 : decode M_Bo_knowers.1 4 = .ok (.invokestatic 64, 3) := by decide +kernel
theorem d_Bo_knowers_7 : decode M_Bo_knowers.1 7 = .ok (.ifCond .eq 13, 3) := by decide +kernel
theorem d_Bo_knowers_10 : decode M_Bo_knowers.1 10 = .ok (.iload_n 2, 1) := by decide +kernel
theorem d_Bo_knowers_11 : decode M_Bo_knowers.1 11 = .ok (.iconst 0, 1) := by decide +kernel
theorem d_Bo_knowers_12 : decode M_Bo_knowers.1 12 = .ok (.bipush 99, 2) := by decide +kernel
theorem d_Bo_knowers_14 : decode M_Bo_knowers.1 14 = .ok (.invokestatic 64, 3) := by decide +kernel
theorem d_Bo_knowers_17 : decode M_Bo_knowers.1 17 = .ok (.ifCond .ne 6, 3) := by decide +kernel
theorem d_Bo_knowers_20 : decode M_Bo_knowers.1 20 = .ok (.ldc 68, 2) := by decide +kernel
theorem d_Bo_knowers_22 : decode M_Bo_knowers.1 22 = .ok (.ireturn, 1) := by decide +kernel
theorem d_Bo_knowers_23 : decode M_Bo_knowers.1 23 = .ok (.iconst 0, 1) := by decide +kernel
theorem d_Bo_knowers_24 : decode M_Bo_knowers.1 24 = .ok (.istore_n 3, 1) := by decide +kernel
theorem d_Bo_knowers_25 : decode M_Bo_knowers.1 25 = .ok (.iload_n 3, 1) := by decide +kernel
theorem d_Bo_knowers_26 : decode M_Bo_knowers.1 26 = .ok (.aload_n 0, 1) := by decide +kernel
theorem d_Bo_knowers_27 : decode M_Bo_knowers.1 27 = .ok (.getfield 19, 3) := by decide +kernel
theorem d_Bo_knowers_30 : decode M_Bo_knowers.1 30 = .ok (.getfield 146, 3) := by decide +kernel
theorem d_Bo_knowers_33 : decode M_Bo_knowers.1 33 = .ok (.if_icmp .gt 28, 3) := by decide +kernel
theorem d_Bo_knowers_36 : decode M_Bo_knowers.1 36 = .ok (.aload_n 0, 1) := by decide +kernel
theorem d_Bo_knowers_37 : decode M_Bo_knowers.1 37 = .ok (.iload_n 3, 1) := by decide +kernel
theorem d_Bo_knowers_38 : decode M_Bo_knowers.1 38 = .ok (.iload_n 1, 1) := by decide +kernel
theorem d_Bo_knowers_39 : decode M_Bo_knowers.1 39 = .ok (.iload_n 2, 1) := by decide +kernel
theorem d_Bo_knowers_40 : decode M_Bo_knowers.1 40 = .ok (.invokevirtual 199, 3) := by decide +kernel
theorem d_Bo_knowers_43 : decode M_Bo_knowers.1 43 = .ok (.istore 4, 2) := by decide +kernel
theorem d_Bo_knowers_45 : decode M_Bo_knowers.1 45 = .ok (.iload 4, 2) := by decide +kernel
theorem d_Bo_knowers_47 : decode M_Bo_knowers.1 47 = .ok (.ldc 174, 2) := by decide +kernel
theorem d_Bo_knowers_49 : decode M_Bo_knowers.1 49 = .ok (.if_icmp .eq 6, 3) := by decide +kernel
theorem d_Bo_knowers_52 : decode M_Bo_knowers.1 52 = .ok (.iload 4, 2) := by decide +kernel
theorem d_Bo_knowers_54 : decode M_Bo_knowers.1 54 = .ok (.ireturn, 1) := by decide +kernel
theorem d_Bo_knowers_55 : decode M_Bo_knowers.1 55 = .ok (.iinc 3 1, 3) := by decide +kernel
theorem d_Bo_knowers_58 : decode M_Bo_knowers.1 58 = .ok (.goto (-33), 3) := by decide +kernel
theorem d_Bo_knowers_61 : decode M_Bo_knowers.1 61 = .ok (.ldc 174, 2) := by decide +kernel
theorem d_Bo_knowers_63 : decode M_Bo_knowers.1 63 = .ok (.ireturn, 1) := by decide +kernel
theorem d_Bo_knowersOfSize_0 : decode M_Bo_knowersOfSize.1 0 = .ok (.iconst 1, 1) := by decide +kernel
theorem d_Bo_knowersOfSize_1 : decode M_Bo_knowersOfSize.1 1 = .ok (.aload_n 0, 1) := by decide +kernel
theorem d_Bo_knowersOfSize_2 : decode M_Bo_knowersOfSize.1 2 = .ok (.getfield 19, 3) := by decide +kernel
theorem d_Bo_knowersOfSize_5 : decode M_Bo_knowersOfSize.1 5 = .ok (.getfield 146, 3) := by decide +kernel
theorem d_Bo_knowersOfSize_8 : decode M_Bo_knowersOfSize.1 8 = .ok (.ishl, 1) := by decide +kernel
theorem d_Bo_knowersOfSize_9 : decode M_Bo_knowersOfSize.1 9 = .ok (.istore 4, 2) := by decide +kernel
theorem d_Bo_knowersOfSize_11 : decode M_Bo_knowersOfSize.1 11 = .ok (.iconst 0, 1) := by decide +kernel
theorem d_Bo_knowersOfSize_12 : decode M_Bo_knowersOfSize.1 12 = .ok (.istore 5, 2) := by decide +kernel
theorem d_Bo_knowersOfSize_14 : decode M_Bo_knowersOfSize.1 14 = .ok (.iload 5, 2) := by decide +kernel
theorem d_Bo_knowersOfSize_16 : decode M_Bo_knowersOfSize.1 16 = .ok (.iload 4, 2) := by decide +kernel
theorem d_Bo_knowersOfSize_18 : decode M_Bo_knowersOfSize.1 18 = .ok (.if_icmp .ge 92, 3) := by decide +kernel
theorem d_Bo_knowersOfSize_21 : decode M_Bo_knowersOfSize.1 21 = .ok (.iload 5, 2) := by decide +kernel
theorem d_Bo_knowersOfSize_23 : decode M_Bo_knowersOfSize.1 23 = .ok (.invokestatic 178, 3) := by decide +kernel
theorem d_Bo_knowersOfSize_26 : decode M_Bo_knowersOfSize.1 26 = .ok (.iload_n 1, 1) := by decide +kernel
theorem d_Bo_knowersOfSize_27 : decode M_Bo_knowersOfSize.1 27 = .ok (.if_icmp .ne 77, 3) := by decide +kernel
theorem d_Bo_knowersOfSize_30 : decode M_Bo_knowersOfSize.1 30 = .ok (.iload 5, 2) := by decide +kernel
theorem d_Bo_knowersOfSize_32 : decode M_Bo_knowersOfSize.1 32 = .ok (.aload_n 0, 1) := by decide +kernel
theorem d_Bo_knowersOfSize_33 : decode M_Bo_knowersOfSize.1 33 = .ok (.getfield 29, 3) := by decide +kernel
theorem d_Bo_knowersOfSize_36 : decode M_Bo_knowersOfSize.1 36 = .ok (.getfield 175, 3) := by decide +kernel
theorem d_Bo_knowersOfSize_39 : decode M_Bo_knowersOfSize.1 39 = .ok (.iand, 1) := by decide +kernel
theorem d_Bo_knowersOfSize_40 : decode M_Bo_knowersOfSize.1 40 = .ok (.ifCond .eq 6, 3) := by decide +kernel
theorem d_Bo_knowersOfSize_43 : decode M_Bo_knowersOfSize.1 43 = .ok (.goto 61, 3) := by decide +kernel
theorem d_Bo_knowersOfSize_46 : decode M_Bo_knowersOfSize.1 46 = .ok (.aload_n 0, 1) := by decide +kernel
theorem d_Bo_knowersOfSize_47 : decode M_Bo_knowersOfSize.1 47 = .ok (.getfield 33, 3) := by decide +kernel
theorem d_Bo_knowersOfSize_50 : decode M_Bo_knowersOfSize.1 50 = .ok (.aload_n 0, 1) := by decide +kernel
theorem d_Bo_knowersOfSize_51 : decode M_Bo_knowersOfSize.1 51 = .ok (.getfield 29, 3) := by decide +kernel
theorem d_Bo_knowersOfSize_54 : decode M_Bo_knowersOfSize.1 54 = .ok (.invokevirtual 186, 3) := by decide +kernel
theorem d_Bo_knowersOfSize_57 : decode M_Bo_knowersOfSize.1 57 = .ok (.aload_n 0, 1) := by decide +kernel
theorem d_Bo_knowersOfSize_58 : decode M_Bo_knowersOfSize.1 58 = .ok (.getfield 33, 3) := by decide +kernel
theorem d_Bo_knowersOfSize_61 : decode M_Bo_knowersOfSize.1 61 = .ok (.dup, 1) := by decide +kernel
theorem d_Bo_knowersOfSize_62 : decode M_Bo_knowersOfSize.1 62 = .ok (.getfield 175, 3) := by decide +kernel
theorem d_Bo_knowersOfSize_65 : decode M_Bo_knowersOfSize.1 65 = .ok (.iload 5, 2) := by decide +kernel
theorem d_Bo_knowersOfSize_67 : decode M_Bo_knowersOfSize.1 67 = .ok (.ior, 1) := by decide +kernel
theorem d_Bo_knowersOfSize_68 : decode M_Bo_knowersOfSize.1 68 = .ok (.putfield 175, 3) := by decide +kernel
theorem d_Bo_knowersOfSize_71 : decode M_Bo_knowersOfSize.1 71 = .ok (.aload_n 0, 1) := by decide +kernel
theorem d_Bo_knowersOfSize_72 : decode M_Bo_knowersOfSize.1 72 = .ok (.getfield 19, 3) := by decide +kernel
theorem d_Bo_knowersOfSize_75 : decode M_Bo_knowersOfSize.1 75 = .ok (.aload_n 0, 1) := by decide +kernel
theorem d_Bo_knowersOfSize_76 : decode M_Bo_knowersOfSize.1 76 = .ok (.getfield 33, 3) := by decide +kernel
theorem d_Bo_knowersOfSize_79 : decode M_Bo_knowersOfSize.1 79 = .ok (.iload_n 2, 1) := by decide +kernel
theorem d_Bo_knowersOfSize_80 : decode M_Bo_knowersOfSize.1 80 = .ok (.invokevirtual 163, 3) := by decide +kernel
theorem d_Bo_knowersOfSize_83 : decode M_Bo_knowersOfSize.1 83 = .ok (.aload_n 0, 1) := by decide +kernel
theorem d_Bo_knowersOfSize_84 : decode M_Bo_knowersOfSize.1 84 = .ok (.getfield 33, 3) := by decide +kernel
theorem d_Bo_knowersOfSize_87 : decode M_Bo_knowersOfSize.1 87 = .ok (.aload_n 0, 1) := by decide +kernel
theorem d_Bo_knowersOfSize_88 : decode M_Bo_knowersOfSize.1 88 = .ok (.getfield 19, 3) := by decide +kernel
theorem d_Bo_knowersOfSize_91 : decode M_Bo_knowersOfSize.1 91 = .ok (.getfield 146, 3) := by decide +kernel
theorem d_Bo_knowersOfSize_94 : decode M_Bo_knowersOfSize.1 94 = .ok (.invokevirtual 149, 3) := by decide +kernel
theorem d_Bo_knowersOfSize_97 : decode M_Bo_knowersOfSize.1 97 = .ok (.iload_n 3, 1) := by decide +kernel
theorem d_Bo_knowersOfSize_98 : decode M_Bo_knowersOfSize.1 98 = .ok (.if_icmp .gt 6, 3) := by decide +kernel
theorem d_Bo_knowersOfSize_101 : decode M_Bo_knowersOfSize.1 101 = .ok (.iload 5, 2) := by decide +kernel
theorem d_Bo_knowersOfSize_103 : decode M_Bo_knowersOfSize.1 103 = .ok (.ireturn, 1) := by decide +kernel
theorem d_Bo_knowersOfSize_104 : decode M_Bo_knowersOfSize.1 104 = .ok (.iinc 5 1, 3) := by decide +kernel
theorem d_Bo_knowersOfSize_107 : decode M_Bo_knowersOfSize.1 107 = .ok (.goto (-93), 3) := by decide +kernel
theorem d_Bo_knowersOfSize_110 : decode M_Bo_knowersOfSize.1 110 = .ok (.ldc 174, 2) := by decide +kernel
theorem d_Bo_knowersOfSize_112 : decode M_Bo_knowersOfSize.1 112 = .ok (.ireturn, 1) := by decide +kernel
theorem d_Bo_pulls_0 : decode M_Bo_pulls.1 0 = .ok (.iload_n 1, 1) := by decide +kernel
theorem d_Bo_pulls_1 : decode M_Bo_pulls.1 1 = .ok (.iconst 1, 1) := by decide +kernel
theorem d_Bo_pulls_2 : decode M_Bo_pulls.1 2 = .ok (.bipush 30, 2) := by decide +kernel
theorem d_Bo_pulls_4 : decode M_Bo_pulls.1 4 = .ok (.invokestatic 64, 3) := by decide +kernel
theorem d_Bo_pulls_7 : decode M_Bo_pulls.1 7 = .ok (.ifCond .ne 6, 3) := by decide +kernel
theorem d_Bo_pulls_10 : decode M_Bo_pulls.1 10 = .ok (.ldc 68, 2) := by decide +kernel
theorem d_Bo_pulls_12 : decode M_Bo_pulls.1 12 = .ok (.ireturn, 1) := by decide +kernel
theorem d_Bo_pulls_13 : decode M_Bo_pulls.1 13 = .ok (.aload_n 0, 1) := by decide +kernel
theorem d_Bo_pulls_14 : decode M_Bo_pulls.1 14 = .ok (.getfield 33, 3) := by decide +kernel
theorem d_Bo_pulls_17 : decode M_Bo_pulls.1 17 = .ok (.aload_n 0, 1) := by decide +kernel
theorem d_Bo_pulls_18 : decode M_Bo_pulls.1 18 = .ok (.getfield 29, 3) := by decide +kernel
theorem d_Bo_pulls_21 : decode M_Bo_pulls.1 21 = .ok (.invokevirtual 186, 3) := by decide +kernel
theorem d_Bo_pulls_24 : decode M_Bo_pulls.1 24 = .ok (.aload_n 0, 1) := by decide +kernel
theorem d_Bo_pulls_25 : decode M_Bo_pulls.1 25 = .ok (.getfield 19, 3) := by decide +kernel
theorem d_Bo_pulls_28 : decode M_Bo_pulls.1 28 = .ok (.aload_n 0, 1) := by decide +kernel
theorem d_Bo_pulls_29 : decode M_Bo_pulls.1 29 = .ok (.getfield 33, 3) := by decide +kernel
theorem d_Bo_pulls_32 : decode M_Bo_pulls.1 32 = .ok (.iload_n 1, 1) := by decide +kernel
theorem d_Bo_pulls_33 : decode M_Bo_pulls.1 33 = .ok (.invokevirtual 163, 3) := by decide +kernel
theorem d_Bo_pulls_36 : decode M_Bo_pulls.1 36 = .ok (.aload_n 0, 1) := by decide +kernel
theorem d_Bo_pulls_37 : decode M_Bo_pulls.1 37 = .ok (.getfield 33, 3) := by decide +kernel
theorem d_Bo_pulls_40 : decode M_Bo_pulls.1 40 = .ok (.getfield 134, 3) := by decide +kernel
theorem d_Bo_pulls_43 : decode M_Bo_pulls.1 43 = .ok (.istore_n 2, 1) := by decide +kernel
theorem d_Bo_pulls_44 : decode M_Bo_pulls.1 44 = .ok (.ldc 174, 2) := by decide +kernel
theorem d_Bo_pulls_46 : decode M_Bo_pulls.1 46 = .ok (.istore_n 3, 1) := by decide +kernel
theorem d_Bo_pulls_47 : decode M_Bo_pulls.1 47 = .ok (.iconst 0, 1) := by decide +kernel
theorem d_Bo_pulls_48 : decode M_Bo_pulls.1 48 = .ok (.istore 4, 2) := by decide +kernel
theorem d_Bo_pulls_50 : decode M_Bo_pulls.1 50 = .ok (.iload 4, 2) := by decide +kernel
theorem d_Bo_pulls_52 : decode M_Bo_pulls.1 52 = .ok (.aload_n 0, 1) := by decide +kernel
theorem d_Bo_pulls_53 : decode M_Bo_pulls.1 53 = .ok (.getfield 19, 3) := by decide +kernel
theorem d_Bo_pulls_56 : decode M_Bo_pulls.1 56 = .ok (.getfield 146, 3) := by decide +kernel
theorem d_Bo_pulls_59 : decode M_Bo_pulls.1 59 = .ok (.if_icmp .ge 30, 3) := by decide +kernel
theorem d_Bo_pulls_62 : decode M_Bo_pulls.1 62 = .ok (.aload_n 0, 1) := by decide +kernel
theorem d_Bo_pulls_63 : decode M_Bo_pulls.1 63 = .ok (.iload 4, 2) := by decide +kernel
theorem d_Bo_pulls_65 : decode M_Bo_pulls.1 65 = .ok (.iload_n 1, 1) := by decide +kernel
theorem d_Bo_pulls_66 : decode M_Bo_pulls.1 66 = .ok (.invokevirtual 203, 3) := by decide +kernel
theorem d_Bo_pulls_69 : decode M_Bo_pulls.1 69 = .ok (.istore 5, 2) := by decide +kernel
theorem d_Bo_pulls_71 : decode M_Bo_pulls.1 71 = .ok (.iload 5, 2) := by decide +kernel
theorem d_Bo_pulls_73 : decode M_Bo_pulls.1 73 = .ok (.iload_n 2, 1) := by decide +kernel
theorem d_Bo_pulls_74 : decode M_Bo_pulls.1 74 = .ok (.if_icmp .ge 9, 3) := by decide +kernel
theorem d_Bo_pulls_77 : decode M_Bo_pulls.1 77 = .ok (.iload 5, 2) := by decide +kernel
theorem d_Bo_pulls_79 : decode M_Bo_pulls.1 79 = .ok (.istore_n 2, 1) := by decide +kernel
theorem d_Bo_pulls_80 : decode M_Bo_pulls.1 80 = .ok (.iload 4, 2) := by decide +kernel
theorem d_Bo_pulls_82 : decode M_Bo_pulls.1 82 = .ok (.istore_n 3, 1) := by decide +kernel
theorem d_Bo_pulls_83 : decode M_Bo_pulls.1 83 = .ok (.iinc 4 1, 3) := by decide +kernel
theorem d_Bo_pulls_86 : decode M_Bo_pulls.1 86 = .ok (.goto (-36), 3) := by decide +kernel
theorem d_Bo_pulls_89 : decode M_Bo_pulls.1 89 = .ok (.iload_n 3, 1) := by decide +kernel
theorem d_Bo_pulls_90 : decode M_Bo_pulls.1 90 = .ok (.ireturn, 1) := by decide +kernel
theorem d_Bo_paceWithout_0 : decode M_Bo_paceWithout.1 0 = .ok (.aload_n 0, 1) := by decide +kernel
theorem d_Bo_paceWithout_1 : decode M_Bo_paceWithout.1 1 = .ok (.getfield 23, 3) := by decide +kernel
theorem d_Bo_paceWithout_4 : decode M_Bo_paceWithout.1 4 = .ok (.aload_n 0, 1) := by decide +kernel
theorem d_Bo_paceWithout_5 : decode M_Bo_paceWithout.1 5 = .ok (.getfield 19, 3) := by decide +kernel
theorem d_Bo_paceWithout_8 : decode M_Bo_paceWithout.1 8 = .ok (.invokevirtual 86, 3) := by decide +kernel
theorem d_Bo_paceWithout_11 : decode M_Bo_paceWithout.1 11 = .ok (.aload_n 0, 1) := by decide +kernel
theorem d_Bo_paceWithout_12 : decode M_Bo_paceWithout.1 12 = .ok (.getfield 23, 3) := by decide +kernel
theorem d_Bo_paceWithout_15 : decode M_Bo_paceWithout.1 15 = .ok (.iload_n 1, 1) := by decide +kernel
theorem d_Bo_paceWithout_16 : decode M_Bo_paceWithout.1 16 = .ok (.invokevirtual 206, 3) := by decide +kernel
theorem d_Bo_paceWithout_19 : decode M_Bo_paceWithout.1 19 = .ok (.aload_n 0, 1) := by decide +kernel
theorem d_Bo_paceWithout_20 : decode M_Bo_paceWithout.1 20 = .ok (.getfield 33, 3) := by decide +kernel
theorem d_Bo_paceWithout_23 : decode M_Bo_paceWithout.1 23 = .ok (.aload_n 0, 1) := by decide +kernel
theorem d_Bo_paceWithout_24 : decode M_Bo_paceWithout.1 24 = .ok (.getfield 29, 3) := by decide +kernel
theorem d_Bo_paceWithout_27 : decode M_Bo_paceWithout.1 27 = .ok (.invokevirtual 186, 3) := by decide +kernel
theorem d_Bo_paceWithout_30 : decode M_Bo_paceWithout.1 30 = .ok (.aload_n 0, 1) := by decide +kernel
theorem d_Bo_paceWithout_31 : decode M_Bo_paceWithout.1 31 = .ok (.getfield 33, 3) := by decide +kernel
theorem d_Bo_paceWithout_34 : decode M_Bo_paceWithout.1 34 = .ok (.iload_n 1, 1) := by decide +kernel
theorem d_Bo_paceWithout_35 : decode M_Bo_paceWithout.1 35 = .ok (.invokevirtual 209, 3) := by decide +kernel
theorem d_Bo_paceWithout_38 : decode M_Bo_paceWithout.1 38 = .ok (.aload_n 0, 1) := by decide +kernel
theorem d_Bo_paceWithout_39 : decode M_Bo_paceWithout.1 39 = .ok (.getfield 23, 3) := by decide +kernel
theorem d_Bo_paceWithout_42 : decode M_Bo_paceWithout.1 42 = .ok (.aload_n 0, 1) := by decide +kernel
theorem d_Bo_paceWithout_43 : decode M_Bo_paceWithout.1 43 = .ok (.getfield 33, 3) := by decide +kernel
theorem d_Bo_paceWithout_46 : decode M_Bo_paceWithout.1 46 = .ok (.iload_n 2, 1) := by decide +kernel
theorem d_Bo_paceWithout_47 : decode M_Bo_paceWithout.1 47 = .ok (.invokevirtual 163, 3) := by decide +kernel
theorem d_Bo_paceWithout_50 : decode M_Bo_paceWithout.1 50 = .ok (.aload_n 0, 1) := by decide +kernel
theorem d_Bo_paceWithout_51 : decode M_Bo_paceWithout.1 51 = .ok (.getfield 33, 3) := by decide +kernel
theorem d_Bo_paceWithout_54 : decode M_Bo_paceWithout.1 54 = .ok (.getfield 134, 3) := by decide +kernel
theorem d_Bo_paceWithout_57 : decode M_Bo_paceWithout.1 57 = .ok (.ireturn, 1) := by decide +kernel
theorem d_Bo_change_0 : decode M_Bo_change.1 0 = .ok (.iload_n 1, 1) := by decide +kernel
theorem d_Bo_change_1 : decode M_Bo_change.1 1 = .ok (.iconst 1, 1) := by decide +kernel
theorem d_Bo_change_2 : decode M_Bo_change.1 2 = .ok (.bipush 30, 2) := by decide +kernel
theorem d_Bo_change_4 : decode M_Bo_change.1 4 = .ok (.invokestatic 64, 3) := by decide +kernel
theorem d_Bo_change_7 : decode M_Bo_change.1 7 = .ok (.ifCond .ne 6, 3) := by decide +kernel
theorem d_Bo_change_10 : decode M_Bo_change.1 10 = .ok (.ldc 68, 2) := by decide +kernel
theorem d_Bo_change_12 : decode M_Bo_change.1 12 = .ok (.ireturn, 1) := by decide +kernel
theorem d_Bo_change_13 : decode M_Bo_change.1 13 = .ok (.aload_n 0, 1) := by decide +kernel
theorem d_Bo_change_14 : decode M_Bo_change.1 14 = .ok (.getfield 33, 3) := by decide +kernel
theorem d_Bo_change_17 : decode M_Bo_change.1 17 = .ok (.aload_n 0, 1) := by decide +kernel
theorem d_Bo_change_18 : decode M_Bo_change.1 18 = .ok (.getfield 29, 3) := by decide +kernel
theorem d_Bo_change_21 : decode M_Bo_change.1 21 = .ok (.invokevirtual 186, 3) := by decide +kernel
theorem d_Bo_change_24 : decode M_Bo_change.1 24 = .ok (.aload_n 0, 1) := by decide +kernel
theorem d_Bo_change_25 : decode M_Bo_change.1 25 = .ok (.getfield 19, 3) := by decide +kernel
theorem d_Bo_change_28 : decode M_Bo_change.1 28 = .ok (.aload_n 0, 1) := by decide +kernel
theorem d_Bo_change_29 : decode M_Bo_change.1 29 = .ok (.getfield 33, 3) := by decide +kernel
theorem d_Bo_change_32 : decode M_Bo_change.1 32 = .ok (.iload_n 1, 1) := by decide +kernel
theorem d_Bo_change_33 : decode M_Bo_change.1 33 = .ok (.invokevirtual 163, 3) := by decide +kernel
theorem d_Bo_change_36 : decode M_Bo_change.1 36 = .ok (.aload_n 0, 1) := by decide +kernel
theorem d_Bo_change_37 : decode M_Bo_change.1 37 = .ok (.getfield 33, 3) := by decide +kernel
theorem d_Bo_change_40 : decode M_Bo_change.1 40 = .ok (.aload_n 0, 1) := by decide +kernel
theorem d_Bo_change_41 : decode M_Bo_change.1 41 = .ok (.getfield 19, 3) := by decide +kernel
theorem d_Bo_change_44 : decode M_Bo_change.1 44 = .ok (.getfield 146, 3) := by decide +kernel
theorem d_Bo_change_47 : decode M_Bo_change.1 47 = .ok (.invokevirtual 149, 3) := by decide +kernel
theorem d_Bo_change_50 : decode M_Bo_change.1 50 = .ok (.istore_n 2, 1) := by decide +kernel
theorem d_Bo_change_51 : decode M_Bo_change.1 51 = .ok (.ldc 174, 2) := by decide +kernel
theorem d_Bo_change_53 : decode M_Bo_change.1 53 = .ok (.istore_n 3, 1) := by decide +kernel
theorem d_Bo_change_54 : decode M_Bo_change.1 54 = .ok (.iconst 0, 1) := by decide +kernel
theorem d_Bo_change_55 : decode M_Bo_change.1 55 = .ok (.istore 4, 2) := by decide +kernel
theorem d_Bo_change_57 : decode M_Bo_change.1 57 = .ok (.iload 4, 2) := by decide +kernel
theorem d_Bo_change_59 : decode M_Bo_change.1 59 = .ok (.aload_n 0, 1) := by decide +kernel
theorem d_Bo_change_60 : decode M_Bo_change.1 60 = .ok (.getfield 19, 3) := by decide +kernel
theorem d_Bo_change_63 : decode M_Bo_change.1 63 = .ok (.getfield 146, 3) := by decide +kernel
theorem d_Bo_change_66 : decode M_Bo_change.1 66 = .ok (.if_icmp .ge 62, 3) := by decide +kernel
theorem d_Bo_change_69 : decode M_Bo_change.1 69 = .ok (.iload 4, 2) := by decide +kernel
theorem d_Bo_change_71 : decode M_Bo_change.1 71 = .ok (.iconst 1, 1) := by decide +kernel
theorem d_Bo_change_72 : decode M_Bo_change.1 72 = .ok (.iadd, 1) := by decide +kernel
theorem d_Bo_change_73 : decode M_Bo_change.1 73 = .ok (.istore 5, 2) := by decide +kernel
theorem d_Bo_change_75 : decode M_Bo_change.1 75 = .ok (.iload 5, 2) := by decide +kernel
theorem d_Bo_change_77 : decode M_Bo_change.1 77 = .ok (.aload_n 0, 1) := by decide +kernel
theorem d_Bo_change_78 : decode M_Bo_change.1 78 = .ok (.getfield 19, 3) := by decide +kernel
theorem d_Bo_change_81 : decode M_Bo_change.1 81 = .ok (.getfield 146, 3) := by decide +kernel
theorem d_Bo_change_84 : decode M_Bo_change.1 84 = .ok (.if_icmp .ge 38, 3) := by decide +kernel
theorem d_Bo_change_87 : decode M_Bo_change.1 87 = .ok (.aload_n 0, 1) := by decide +kernel
theorem d_Bo_change_88 : decode M_Bo_change.1 88 = .ok (.iload 4, 2) := by decide +kernel
theorem d_Bo_change_90 : decode M_Bo_change.1 90 = .ok (.iload 5, 2) := by decide +kernel
theorem d_Bo_change_92 : decode M_Bo_change.1 92 = .ok (.iload_n 1, 1) := by decide +kernel
theorem d_Bo_change_93 : decode M_Bo_change.1 93 = .ok (.invokevirtual 210, 3) := by decide +kernel
theorem d_Bo_change_96 : decode M_Bo_change.1 96 = .ok (.istore 6, 2) := by decide +kernel
theorem d_Bo_change_98 : decode M_Bo_change.1 98 = .ok (.iload 6, 2) := by decide +kernel
theorem d_Bo_change_100 : decode M_Bo_change.1 100 = .ok (.iload_n 2, 1) := by decide +kernel
theorem d_Bo_change_101 : decode M_Bo_change.1 101 = .ok (.if_icmp .ge 15, 3) := by decide +kernel
theorem d_Bo_change_104 : decode M_Bo_change.1 104 = .ok (.iload 6, 2) := by decide +kernel
theorem d_Bo_change_106 : decode M_Bo_change.1 106 = .ok (.istore_n 2, 1) := by decide +kernel
theorem d_Bo_change_107 : decode M_Bo_change.1 107 = .ok (.bipush 10, 2) := by decide +kernel
theorem d_Bo_change_109 : decode M_Bo_change.1 109 = .ok (.iload 4, 2) := by decide +kernel
theorem d_Bo_change_111 : decode M_Bo_change.1 111 = .ok (.imul, 1) := by decide +kernel
theorem d_Bo_change_112 : decode M_Bo_change.1 112 = .ok (.iload 5, 2) := by decide +kernel
theorem d_Bo_change_114 : decode M_Bo_change.1 114 = .ok (.iadd, 1) := by decide +kernel
theorem d_Bo_change_115 : decode M_Bo_change.1 115 = .ok (.istore_n 3, 1) := by decide +kernel
theorem d_Bo_change_116 : decode M_Bo_change.1 116 = .ok (.iinc 5 1, 3) := by decide +kernel
theorem d_Bo_change_119 : decode M_Bo_change.1 119 = .ok (.goto (-44), 3) := by decide +kernel
theorem d_Bo_change_122 : decode M_Bo_change.1 122 = .ok (.iinc 4 1, 3) := by decide +kernel
theorem d_Bo_change_125 : decode M_Bo_change.1 125 = .ok (.goto (-68), 3) := by decide +kernel
theorem d_Bo_change_128 : decode M_Bo_change.1 128 = .ok (.iload_n 3, 1) := by decide +kernel
theorem d_Bo_change_129 : decode M_Bo_change.1 129 = .ok (.ireturn, 1) := by decide +kernel
theorem d_Bo_apartByChange_0 : decode M_Bo_apartByChange.1 0 = .ok (.aload_n 0, 1) := by decide +kernel
theorem d_Bo_apartByChange_1 : decode M_Bo_apartByChange.1 1 = .ok (.getfield 23, 3) := by decide +kernel
theorem d_Bo_apartByChange_4 : decode M_Bo_apartByChange.1 4 = .ok (.aload_n 0, 1) := by decide +kernel
theorem d_Bo_apartByChange_5 : decode M_Bo_apartByChange.1 5 = .ok (.getfield 19, 3) := by decide +kernel
theorem d_Bo_apartByChange_8 : decode M_Bo_apartByChange.1 8 = .ok (.invokevirtual 86, 3) := by decide +kernel
theorem d_Bo_apartByChange_11 : decode M_Bo_apartByChange.1 11 = .ok (.aload_n 0, 1) := by decide +kernel
theorem d_Bo_apartByChange_12 : decode M_Bo_apartByChange.1 12 = .ok (.getfield 23, 3) := by decide +kernel
theorem d_Bo_apartByChange_15 : decode M_Bo_apartByChange.1 15 = .ok (.getfield 109, 3) := by decide +kernel
theorem d_Bo_apartByChange_18 : decode M_Bo_apartByChange.1 18 = .ok (.iload_n 1, 1) := by decide +kernel
theorem d_Bo_apartByChange_19 : decode M_Bo_apartByChange.1 19 = .ok (.aload_n 0, 1) := by decide +kernel
theorem d_Bo_apartByChange_20 : decode M_Bo_apartByChange.1 20 = .ok (.getfield 19, 3) := by decide +kernel
theorem d_Bo_apartByChange_23 : decode M_Bo_apartByChange.1 23 = .ok (.getfield 109, 3) := by decide +kernel
theorem d_Bo_apartByChange_26 : decode M_Bo_apartByChange.1 26 = .ok (.iload_n 2, 1) := by decide +kernel
theorem d_Bo_apartByChange_27 : decode M_Bo_apartByChange.1 27 = .ok (.iaload, 1) := by decide +kernel
theorem d_Bo_apartByChange_28 : decode M_Bo_apartByChange.1 28 = .ok (.iastore, 1) := by decide +kernel
theorem d_Bo_apartByChange_29 : decode M_Bo_apartByChange.1 29 = .ok (.aload_n 0, 1) := by decide +kernel
theorem d_Bo_apartByChange_30 : decode M_Bo_apartByChange.1 30 = .ok (.getfield 23, 3) := by decide +kernel
theorem d_Bo_apartByChange_33 : decode M_Bo_apartByChange.1 33 = .ok (.getfield 109, 3) := by decide +kernel
theorem d_Bo_apartByChange_36 : decode M_Bo_apartByChange.1 36 = .ok (.iload_n 2, 1) := by decide +kernel
theorem d_Bo_apartByChange_37 : decode M_Bo_apartByChange.1 37 = .ok (.aload_n 0, 1) := by decide +kernel
theorem d_Bo_apartByChange_38 : decode M_Bo_apartByChange.1 38 = .ok (.getfield 19, 3) := by decide +kernel
theorem d_Bo_apartByChange_41 : decode M_Bo_apartByChange.1 41 = .ok (.getfield 109, 3) := by decide +kernel
theorem d_Bo_apartByChange_44 : decode M_Bo_apartByChange.1 44 = .ok (.iload_n 1, 1) := by decide +kernel
theorem d_Bo_apartByChange_45 : decode M_Bo_apartByChange.1 45 = .ok (.iaload, 1) := by decide +kernel
theorem d_Bo_apartByChange_46 : decode M_Bo_apartByChange.1 46 = .ok (.iastore, 1) := by decide +kernel
theorem d_Bo_apartByChange_47 : decode M_Bo_apartByChange.1 47 = .ok (.aload_n 0, 1) := by decide +kernel
theorem d_Bo_apartByChange_48 : decode M_Bo_apartByChange.1 48 = .ok (.getfield 33, 3) := by decide +kernel
theorem d_Bo_apartByChange_51 : decode M_Bo_apartByChange.1 51 = .ok (.aload_n 0, 1) := by decide +kernel
theorem d_Bo_apartByChange_52 : decode M_Bo_apartByChange.1 52 = .ok (.getfield 29, 3) := by decide +kernel
theorem d_Bo_apartByChange_55 : decode M_Bo_apartByChange.1 55 = .ok (.invokevirtual 186, 3) := by decide +kernel
theorem d_Bo_apartByChange_58 : decode M_Bo_apartByChange.1 58 = .ok (.aload_n 0, 1) := by decide +kernel
theorem d_Bo_apartByChange_59 : decode M_Bo_apartByChange.1 59 = .ok (.getfield 23, 3) := by decide +kernel
theorem d_Bo_apartByChange_62 : decode M_Bo_apartByChange.1 62 = .ok (.aload_n 0, 1) := by decide +kernel
theorem d_Bo_apartByChange_63 : decode M_Bo_apartByChange.1 63 = .ok (.getfield 33, 3) := by decide +kernel
theorem d_Bo_apartByChange_66 : decode M_Bo_apartByChange.1 66 = .ok (.iload_n 3, 1) := by decide +kernel
theorem d_Bo_apartByChange_67 : decode M_Bo_apartByChange.1 67 = .ok (.invokevirtual 163, 3) := by decide +kernel
theorem d_Bo_apartByChange_70 : decode M_Bo_apartByChange.1 70 = .ok (.aload_n 0, 1) := by decide +kernel
theorem d_Bo_apartByChange_71 : decode M_Bo_apartByChange.1 71 = .ok (.getfield 33, 3) := by decide +kernel
theorem d_Bo_apartByChange_74 : decode M_Bo_apartByChange.1 74 = .ok (.aload_n 0, 1) := by decide +kernel
theorem d_Bo_apartByChange_75 : decode M_Bo_apartByChange.1 75 = .ok (.getfield 19, 3) := by decide +kernel
theorem d_Bo_apartByChange_78 : decode M_Bo_apartByChange.1 78 = .ok (.getfield 146, 3) := by decide +kernel
theorem d_Bo_apartByChange_81 : decode M_Bo_apartByChange.1 81 = .ok (.invokevirtual 149, 3) := by decide +kernel
theorem d_Bo_apartByChange_84 : decode M_Bo_apartByChange.1 84 = .ok (.ireturn, 1) := by decide +kernel
theorem d_Bo_gaps_0 : decode M_Bo_gaps.1 0 = .ok (.iload_n 1, 1) := by decide +kernel
theorem d_Bo_gaps_1 : decode M_Bo_gaps.1 1 = .ok (.iconst 0, 1) := by decide +kernel
theorem d_Bo_gaps_2 : decode M_Bo_gaps.1 2 = .ok (.bipush 99, 2) := by decide +kernel
theorem d_Bo_gaps_4 : decode M_Bo_gaps.1 4 = .ok (.invokestatic 64, 3) := by decide +kernel
theorem d_Bo_gaps_7 : decode M_Bo_gaps.1 7 = .ok (.ifCond .ne 6, 3) := by decide +kernel
theorem d_Bo_gaps_10 : decode M_Bo_gaps.1 10 = .ok (.ldc 68, 2) := by decide +kernel
theorem d_Bo_gaps_12 : decode M_Bo_gaps.1 12 = .ok (.ireturn, 1) := by decide +kernel
theorem d_Bo_gaps_13 : decode M_Bo_gaps.1 13 = .ok (.aload_n 0, 1) := by decide +kernel
theorem d_Bo_gaps_14 : decode M_Bo_gaps.1 14 = .ok (.getfield 33, 3) := by decide +kernel
theorem d_Bo_gaps_17 : decode M_Bo_gaps.1 17 = .ok (.aload_n 0, 1) := by decide +kernel
theorem d_Bo_gaps_18 : decode M_Bo_gaps.1 18 = .ok (.getfield 29, 3) := by decide +kernel
theorem d_Bo_gaps_21 : decode M_Bo_gaps.1 21 = .ok (.invokevirtual 186, 3) := by decide +kernel
theorem d_Bo_gaps_24 : decode M_Bo_gaps.1 24 = .ok (.aload_n 0, 1) := by decide +kernel
theorem d_Bo_gaps_25 : decode M_Bo_gaps.1 25 = .ok (.getfield 19, 3) := by decide +kernel
theorem d_Bo_gaps_28 : decode M_Bo_gaps.1 28 = .ok (.aload_n 0, 1) := by decide +kernel
theorem d_Bo_gaps_29 : decode M_Bo_gaps.1 29 = .ok (.getfield 33, 3) := by decide +kernel
theorem d_Bo_gaps_32 : decode M_Bo_gaps.1 32 = .ok (.aload_n 0, 1) := by decide +kernel
theorem d_Bo_gaps_33 : decode M_Bo_gaps.1 33 = .ok (.getfield 19, 3) := by decide +kernel
theorem d_Bo_gaps_36 : decode M_Bo_gaps.1 36 = .ok (.getfield 160, 3) := by decide +kernel
theorem d_Bo_gaps_39 : decode M_Bo_gaps.1 39 = .ok (.invokevirtual 163, 3) := by decide +kernel
theorem d_Bo_gaps_42 : decode M_Bo_gaps.1 42 = .ok (.aload_n 0, 1) := by decide +kernel
theorem d_Bo_gaps_43 : decode M_Bo_gaps.1 43 = .ok (.getfield 33, 3) := by decide +kernel
theorem d_Bo_gaps_46 : decode M_Bo_gaps.1 46 = .ok (.aload_n 0, 1) := by decide +kernel
theorem d_Bo_gaps_47 : decode M_Bo_gaps.1 47 = .ok (.getfield 19, 3) := by decide +kernel
theorem d_Bo_gaps_50 : decode M_Bo_gaps.1 50 = .ok (.getfield 146, 3) := by decide +kernel
theorem d_Bo_gaps_53 : decode M_Bo_gaps.1 53 = .ok (.invokevirtual 193, 3) := by decide +kernel
theorem d_Bo_gaps_56 : decode M_Bo_gaps.1 56 = .ok (.istore_n 2, 1) := by decide +kernel
theorem d_Bo_gaps_57 : decode M_Bo_gaps.1 57 = .ok (.iconst 0, 1) := by decide +kernel
theorem d_Bo_gaps_58 : decode M_Bo_gaps.1 58 = .ok (.istore_n 3, 1) := by decide +kernel
theorem d_Bo_gaps_59 : decode M_Bo_gaps.1 59 = .ok (.iload_n 3, 1) := by decide +kernel
theorem d_Bo_gaps_60 : decode M_Bo_gaps.1 60 = .ok (.bipush 9, 2) := by decide +kernel
theorem d_Bo_gaps_62 : decode M_Bo_gaps.1 62 = .ok (.if_icmp .gt 22, 3) := by decide +kernel
theorem d_Bo_gaps_65 : decode M_Bo_gaps.1 65 = .ok (.iload_n 2, 1) := by decide +kernel
theorem d_Bo_gaps_66 : decode M_Bo_gaps.1 66 = .ok (.iload_n 3, 1) := by decide +kernel
theorem d_Bo_gaps_67 : decode M_Bo_gaps.1 67 = .ok (.iconst 1, 1) := by decide +kernel
theorem d_Bo_gaps_68 : decode M_Bo_gaps.1 68 = .ok (.iadd, 1) := by decide +kernel
theorem d_Bo_gaps_69 : decode M_Bo_gaps.1 69 = .ok (.invokestatic 170, 3) := by decide +kernel
theorem d_Bo_gaps_72 : decode M_Bo_gaps.1 72 = .ok (.iload_n 1, 1) := by decide +kernel
theorem d_Bo_gaps_73 : decode M_Bo_gaps.1 73 = .ok (.if_icmp .gt 5, 3) := by decide +kernel
theorem d_Bo_gaps_76 : decode M_Bo_gaps.1 76 = .ok (.iload_n 3, 1) := by decide +kernel
theorem d_Bo_gaps_77 : decode M_Bo_gaps.1 77 = .ok (.ireturn, 1) := by decide +kernel
theorem d_Bo_gaps_78 : decode M_Bo_gaps.1 78 = .ok (.iinc 3 1, 3) := by decide +kernel
theorem d_Bo_gaps_81 : decode M_Bo_gaps.1 81 = .ok (.goto (-22), 3) := by decide +kernel
theorem d_Bo_gaps_84 : decode M_Bo_gaps.1 84 = .ok (.ldc 174, 2) := by decide +kernel
theorem d_Bo_gaps_86 : decode M_Bo_gaps.1 86 = .ok (.ireturn, 1) := by decide +kernel
theorem d_Bo_hear_0 : decode M_Bo_hear.1 0 = .ok (.iload_n 1, 1) := by decide +kernel
theorem d_Bo_hear_1 : decode M_Bo_hear.1 1 = .ok (.iconst 1, 1) := by decide +kernel
theorem d_Bo_hear_2 : decode M_Bo_hear.1 2 = .ok (.bipush 20, 2) := by decide +kernel
theorem d_Bo_hear_4 : decode M_Bo_hear.1 4 = .ok (.invokestatic 64, 3) := by decide +kernel
theorem d_Bo_hear_7 : decode M_Bo_hear.1 7 = .ok (.ifCond .eq 26, 3) := by decide +kernel
theorem d_Bo_hear_10 : decode M_Bo_hear.1 10 = .ok (.aload_n 0, 1) := by decide +kernel
theorem d_Bo_hear_11 : decode M_Bo_hear.1 11 = .ok (.getfield 19, 3) := by decide +kernel
theorem d_Bo_hear_14 : decode M_Bo_hear.1 14 = .ok (.iload_n 2, 1) := by decide +kernel
theorem d_Bo_hear_15 : decode M_Bo_hear.1 15 = .ok (.invokevirtual 106, 3) := by decide +kernel
theorem d_Bo_hear_18 : decode M_Bo_hear.1 18 = .ok (.ifCond .eq 15, 3) := by decide +kernel
theorem d_Bo_hear_21 : decode M_Bo_hear.1 21 = .ok (.iload_n 3, 1) := by decide +kernel
theorem d_Bo_hear_22 : decode M_Bo_hear.1 22 = .ok (.bipush (-99), 2) := by decide +kernel
theorem d_Bo_hear_24 : decode M_Bo_hear.1 24 = .ok (.sipush 999, 3) := by decide +kernel
theorem d_Bo_hear_27 : decode M_Bo_hear.1 27 = .ok (.invokestatic 64, 3) := by decide +kernel
theorem d_Bo_hear_30 : decode M_Bo_hear.1 30 = .ok (.ifCond .ne 6, 3) := by decide +kernel
theorem d_Bo_hear_33 : decode M_Bo_hear.1 33 = .ok (.ldc 68, 2) := by decide +kernel
theorem d_Bo_hear_35 : decode M_Bo_hear.1 35 = .ok (.ireturn, 1) := by decide +kernel
theorem d_Bo_hear_36 : decode M_Bo_hear.1 36 = .ok (.aload_n 0, 1) := by decide +kernel
theorem d_Bo_hear_37 : decode M_Bo_hear.1 37 = .ok (.getfield 103, 3) := by decide +kernel
theorem d_Bo_hear_40 : decode M_Bo_hear.1 40 = .ok (.bipush 6, 2) := by decide +kernel
theorem d_Bo_hear_42 : decode M_Bo_hear.1 42 = .ok (.if_icmp .lt 6, 3) := by decide +kernel
theorem d_Bo_hear_45 : decode M_Bo_hear.1 45 = .ok (.ldc 77, 2) := by decide +kernel
theorem d_Bo_hear_47 : decode M_Bo_hear.1 47 = .ok (.ireturn, 1) := by decide +kernel
theorem d_Bo_hear_48 : decode M_Bo_hear.1 48 = .ok (.aload_n 0, 1) := by decide +kernel
theorem d_Bo_hear_49 : decode M_Bo_hear.1 49 = .ok (.getfield 54, 3) := by decide +kernel
theorem d_Bo_hear_52 : decode M_Bo_hear.1 52 = .ok (.aload_n 0, 1) := by decide +kernel
theorem d_Bo_hear_53 : decode M_Bo_hear.1 53 = .ok (.getfield 103, 3) := by decide +kernel
theorem d_Bo_hear_56 : decode M_Bo_hear.1 56 = .ok (.iload_n 1, 1) := by decide +kernel
theorem d_Bo_hear_57 : decode M_Bo_hear.1 57 = .ok (.iastore, 1) := by decide +kernel
theorem d_Bo_hear_58 : decode M_Bo_hear.1 58 = .ok (.aload_n 0, 1) := by decide +kernel
theorem d_Bo_hear_59 : decode M_Bo_hear.1 59 = .ok (.getfield 58, 3) := by decide +kernel
theorem d_Bo_hear_62 : decode M_Bo_hear.1 62 = .ok (.aload_n 0, 1) := by decide +kernel
theorem d_Bo_hear_63 : decode M_Bo_hear.1 63 = .ok (.getfield 103, 3) := by decide +kernel
theorem d_Bo_hear_66 : decode M_Bo_hear.1 66 = .ok (.iload_n 2, 1) := by decide +kernel
theorem d_Bo_hear_67 : decode M_Bo_hear.1 67 = .ok (.iastore, 1) := by decide +kernel
theorem d_Bo_hear_68 : decode M_Bo_hear.1 68 = .ok (.aload_n 0, 1) := by decide +kernel
theorem d_Bo_hear_69 : decode M_Bo_hear.1 69 = .ok (.getfield 61, 3) := by decide +kernel
theorem d_Bo_hear_72 : decode M_Bo_hear.1 72 = .ok (.aload_n 0, 1) := by decide +kernel
theorem d_Bo_hear_73 : decode M_Bo_hear.1 73 = .ok (.getfield 103, 3) := by decide +kernel
theorem d_Bo_hear_76 : decode M_Bo_hear.1 76 = .ok (.iload_n 3, 1) := by decide +kernel
theorem d_Bo_hear_77 : decode M_Bo_hear.1 77 = .ok (.iastore, 1) := by decide +kernel
theorem d_Bo_hear_78 : decode M_Bo_hear.1 78 = .ok (.aload_n 0, 1) := by decide +kernel
theorem d_Bo_hear_79 : decode M_Bo_hear.1 79 = .ok (.dup, 1) := by decide +kernel
theorem d_Bo_hear_80 : decode M_Bo_hear.1 80 = .ok (.getfield 103, 3) := by decide +kernel
theorem d_Bo_hear_83 : decode M_Bo_hear.1 83 = .ok (.iconst 1, 1) := by decide +kernel
theorem d_Bo_hear_84 : decode M_Bo_hear.1 84 = .ok (.iadd, 1) := by decide +kernel
theorem d_Bo_hear_85 : decode M_Bo_hear.1 85 = .ok (.putfield 103, 3) := by decide +kernel
theorem d_Bo_hear_88 : decode M_Bo_hear.1 88 = .ok (.aload_n 0, 1) := by decide +kernel
theorem d_Bo_hear_89 : decode M_Bo_hear.1 89 = .ok (.getfield 103, 3) := by decide +kernel
theorem d_Bo_hear_92 : decode M_Bo_hear.1 92 = .ok (.ireturn, 1) := by decide +kernel
theorem d_Bo_forget_0 : decode M_Bo_forget.1 0 = .ok (.aload_n 0, 1) := by decide +kernel
theorem d_Bo_forget_1 : decode M_Bo_forget.1 1 = .ok (.getfield 103, 3) := by decide +kernel
theorem d_Bo_forget_4 : decode M_Bo_forget.1 4 = .ok (.istore_n 1, 1) := by decide +kernel
theorem d_Bo_forget_5 : decode M_Bo_forget.1 5 = .ok (.aload_n 0, 1) := by decide +kernel
theorem d_Bo_forget_6 : decode M_Bo_forget.1 6 = .ok (.iconst 0, 1) := by decide +kernel
theorem d_Bo_forget_7 : decode M_Bo_forget.1 7 = .ok (.putfield 103, 3) := by decide +kernel
theorem d_Bo_forget_10 : decode M_Bo_forget.1 10 = .ok (.iload_n 1, 1) := by decide +kernel
theorem d_Bo_forget_11 : decode M_Bo_forget.1 11 = .ok (.ireturn, 1) := by decide +kernel
theorem d_Bo_waited_0 : decode M_Bo_waited.1 0 = .ok (.iconst 0, 1) := by decide +kernel
theorem d_Bo_waited_1 : decode M_Bo_waited.1 1 = .ok (.istore_n 1, 1) := by decide +kernel
theorem d_Bo_waited_2 : decode M_Bo_waited.1 2 = .ok (.iconst 0, 1) := by decide +kernel
theorem d_Bo_waited_3 : decode M_Bo_waited.1 3 = .ok (.istore_n 2, 1) := by decide +kernel
theorem d_Bo_waited_4 : decode M_Bo_waited.1 4 = .ok (.iload_n 2, 1) := by decide +kernel
theorem d_Bo_waited_5 : decode M_Bo_waited.1 5 = .ok (.bipush 10, 2) := by decide +kernel
theorem d_Bo_waited_7 : decode M_Bo_waited.1 7 = .ok (.if_icmp .gt 23, 3) := by decide +kernel
theorem d_Bo_waited_10 : decode M_Bo_waited.1 10 = .ok (.aload_n 0, 1) := by decide +kernel
theorem d_Bo_waited_11 : decode M_Bo_waited.1 11 = .ok (.iload_n 2, 1) := by decide +kernel
theorem d_Bo_waited_12 : decode M_Bo_waited.1 12 = .ok (.invokevirtual 213, 3) := by decide +kernel
theorem d_Bo_waited_15 : decode M_Bo_waited.1 15 = .ok (.ifCond .eq 9, 3) := by decide +kernel
theorem d_Bo_waited_18 : decode M_Bo_waited.1 18 = .ok (.iload_n 1, 1) := by decide +kernel
theorem d_Bo_waited_19 : decode M_Bo_waited.1 19 = .ok (.iconst 1, 1) := by decide +kernel
theorem d_Bo_waited_20 : decode M_Bo_waited.1 20 = .ok (.iload_n 2, 1) := by decide +kernel
theorem d_Bo_waited_21 : decode M_Bo_waited.1 21 = .ok (.ishl, 1) := by decide +kernel
theorem d_Bo_waited_22 : decode M_Bo_waited.1 22 = .ok (.ior, 1) := by decide +kernel
theorem d_Bo_waited_23 : decode M_Bo_waited.1 23 = .ok (.istore_n 1, 1) := by decide +kernel
theorem d_Bo_waited_24 : decode M_Bo_waited.1 24 = .ok (.iinc 2 1, 3) := by decide +kernel
theorem d_Bo_waited_27 : decode M_Bo_waited.1 27 = .ok (.goto (-23), 3) := by decide +kernel
theorem d_Bo_waited_30 : decode M_Bo_waited.1 30 = .ok (.iload_n 1, 1) := by decide +kernel
theorem d_Bo_waited_31 : decode M_Bo_waited.1 31 = .ok (.ireturn, 1) := by decide +kernel
theorem d_Bo_isAllHeardSo_0 : decode M_Bo_isAllHeardSo.1 0 = .ok (.aload_n 0, 1) := by decide +kernel
theorem d_Bo_isAllHeardSo_1 : decode M_Bo_isAllHeardSo.1 1 = .ok (.getfield 33, 3) := by decide +kernel
theorem d_Bo_isAllHeardSo_4 : decode M_Bo_isAllHeardSo.1 4 = .ok (.iload_n 1, 1) := by decide +kernel
theorem d_Bo_isAllHeardSo_5 : decode M_Bo_isAllHeardSo.1 5 = .ok (.invokevirtual 96, 3) := by decide +kernel
theorem d_Bo_isAllHeardSo_8 : decode M_Bo_isAllHeardSo.1 8 = .ok (.iconst 1, 1) := by decide +kernel
theorem d_Bo_isAllHeardSo_9 : decode M_Bo_isAllHeardSo.1 9 = .ok (.istore_n 2, 1) := by decide +kernel
theorem d_Bo_isAllHeardSo_10 : decode M_Bo_isAllHeardSo.1 10 = .ok (.iload_n 2, 1) := by decide +kernel
theorem d_Bo_isAllHeardSo_11 : decode M_Bo_isAllHeardSo.1 11 = .ok (.bipush 20, 2) := by decide +kernel
theorem d_Bo_isAllHeardSo_13 : decode M_Bo_isAllHeardSo.1 13 = .ok (.if_icmp .gt 71, 3) := by decide +kernel
theorem d_Bo_isAllHeardSo_16 : decode M_Bo_isAllHeardSo.1 16 = .ok (.aload_n 0, 1) := by decide +kernel
theorem d_Bo_isAllHeardSo_17 : decode M_Bo_isAllHeardSo.1 17 = .ok (.getfield 19, 3) := by decide +kernel
theorem d_Bo_isAllHeardSo_20 : decode M_Bo_isAllHeardSo.1 20 = .ok (.aload_n 0, 1) := by decide +kernel
theorem d_Bo_isAllHeardSo_21 : decode M_Bo_isAllHeardSo.1 21 = .ok (.getfield 33, 3) := by decide +kernel
theorem d_Bo_isAllHeardSo_24 : decode M_Bo_isAllHeardSo.1 24 = .ok (.invokevirtual 157, 3) := by decide +kernel
theorem d_Bo_isAllHeardSo_27 : decode M_Bo_isAllHeardSo.1 27 = .ok (.iconst 0, 1) := by decide +kernel
theorem d_Bo_isAllHeardSo_28 : decode M_Bo_isAllHeardSo.1 28 = .ok (.istore_n 3, 1) := by decide +kernel
theorem d_Bo_isAllHeardSo_29 : decode M_Bo_isAllHeardSo.1 29 = .ok (.iload_n 3, 1) := by decide +kernel
theorem d_Bo_isAllHeardSo_30 : decode M_Bo_isAllHeardSo.1 30 = .ok (.aload_n 0, 1) := by decide +kernel
theorem d_Bo_isAllHeardSo_31 : decode M_Bo_isAllHeardSo.1 31 = .ok (.getfield 103, 3) := by decide +kernel
theorem d_Bo_isAllHeardSo_34 : decode M_Bo_isAllHeardSo.1 34 = .ok (.if_icmp .ge 44, 3) := by decide +kernel
theorem d_Bo_isAllHeardSo_37 : decode M_Bo_isAllHeardSo.1 37 = .ok (.aload_n 0, 1) := by decide +kernel
theorem d_Bo_isAllHeardSo_38 : decode M_Bo_isAllHeardSo.1 38 = .ok (.getfield 54, 3) := by decide +kernel
theorem d_Bo_isAllHeardSo_41 : decode M_Bo_isAllHeardSo.1 41 = .ok (.iload_n 3, 1) := by decide +kernel
theorem d_Bo_isAllHeardSo_42 : decode M_Bo_isAllHeardSo.1 42 = .ok (.iaload, 1) := by decide +kernel
theorem d_Bo_isAllHeardSo_43 : decode M_Bo_isAllHeardSo.1 43 = .ok (.iload_n 2, 1) := by decide +kernel
theorem d_Bo_isAllHeardSo_44 : decode M_Bo_isAllHeardSo.1 44 = .ok (.if_icmp .ne 28, 3) := by decide +kernel
theorem d_Bo_isAllHeardSo_47 : decode M_Bo_isAllHeardSo.1 47 = .ok (.aload_n 0, 1) := by decide +kernel
theorem d_Bo_isAllHeardSo_48 : decode M_Bo_isAllHeardSo.1 48 = .ok (.getfield 33, 3) := by decide +kernel
theorem d_Bo_isAllHeardSo_51 : decode M_Bo_isAllHeardSo.1 51 = .ok (.getfield 121, 3) := by decide +kernel
theorem d_Bo_isAllHeardSo_54 : decode M_Bo_isAllHeardSo.1 54 = .ok (.aload_n 0, 1) := by decide +kernel
theorem d_Bo_isAllHeardSo_55 : decode M_Bo_isAllHeardSo.1 55 = .ok (.getfield 58, 3) := by decide +kernel
theorem d_Bo_isAllHeardSo_58 : decode M_Bo_isAllHeardSo.1 58 = .ok (.iload_n 3, 1) := by decide +kernel
theorem d_Bo_isAllHeardSo_59 : decode M_Bo_isAllHeardSo.1 59 = .ok (.iaload, 1) := by decide +kernel
theorem d_Bo_isAllHeardSo_60 : decode M_Bo_isAllHeardSo.1 60 = .ok (.iaload, 1) := by decide +kernel
theorem d_Bo_isAllHeardSo_61 : decode M_Bo_isAllHeardSo.1 61 = .ok (.aload_n 0, 1) := by decide +kernel
theorem d_Bo_isAllHeardSo_62 : decode M_Bo_isAllHeardSo.1 62 = .ok (.getfield 61, 3) := by decide +kernel
theorem d_Bo_isAllHeardSo_65 : decode M_Bo_isAllHeardSo.1 65 = .ok (.iload_n 3, 1) := by decide +kernel
theorem d_Bo_isAllHeardSo_66 : decode M_Bo_isAllHeardSo.1 66 = .ok (.iaload, 1) := by decide +kernel
theorem d_Bo_isAllHeardSo_67 : decode M_Bo_isAllHeardSo.1 67 = .ok (.if_icmp .eq 5, 3) := by decide +kernel
theorem d_Bo_isAllHeardSo_70 : decode M_Bo_isAllHeardSo.1 70 = .ok (.iconst 0, 1) := by decide +kernel
theorem d_Bo_isAllHeardSo_71 : decode M_Bo_isAllHeardSo.1 71 = .ok (.ireturn, 1) := by decide +kernel
theorem d_Bo_isAllHeardSo_72 : decode M_Bo_isAllHeardSo.1 72 = .ok (.iinc 3 1, 3) := by decide +kernel
theorem d_Bo_isAllHeardSo_75 : decode M_Bo_isAllHeardSo.1 75 = .ok (.goto (-46), 3) := by decide +kernel
theorem d_Bo_isAllHeardSo_78 : decode M_Bo_isAllHeardSo.1 78 = .ok (.iinc 2 1, 3) := by decide +kernel
theorem d_Bo_isAllHeardSo_81 : decode M_Bo_isAllHeardSo.1 81 = .ok (.goto (-71), 3) := by decide +kernel
theorem d_Bo_isAllHeardSo_84 : decode M_Bo_isAllHeardSo.1 84 = .ok (.iconst 1, 1) := by decide +kernel
theorem d_Bo_isAllHeardSo_85 : decode M_Bo_isAllHeardSo.1 85 = .ok (.ireturn, 1) := by decide +kernel
theorem d_Bo_odds_0 : decode M_Bo_odds.1 0 = .ok (.iload_n 1, 1) := by decide +kernel
theorem d_Bo_odds_1 : decode M_Bo_odds.1 1 = .ok (.iconst 0, 1) := by decide +kernel
theorem d_Bo_odds_2 : decode M_Bo_odds.1 2 = .ok (.bipush 20, 2) := by decide +kernel
theorem d_Bo_odds_4 : decode M_Bo_odds.1 4 = .ok (.invokestatic 64, 3) := by decide +kernel
theorem d_Bo_odds_7 : decode M_Bo_odds.1 7 = .ok (.ifCond .eq 48, 3) := by decide +kernel
theorem d_Bo_odds_10 : decode M_Bo_odds.1 10 = .ok (.iload_n 2, 1) := by decide +kernel
theorem d_Bo_odds_11 : decode M_Bo_odds.1 11 = .ok (.iconst 0, 1) := by decide +kernel
theorem d_Bo_odds_12 : decode M_Bo_odds.1 12 = .ok (.bipush 10, 2) := by decide +kernel
theorem d_Bo_odds_14 : decode M_Bo_odds.1 14 = .ok (.invokestatic 64, 3) := by decide +kernel
theorem d_Bo_odds_17 : decode M_Bo_odds.1 17 = .ok (.ifCond .eq 38, 3) := by decide +kernel
theorem d_Bo_odds_20 : decode M_Bo_odds.1 20 = .ok (.iload_n 3, 1) := by decide +kernel
theorem d_Bo_odds_21 : decode M_Bo_odds.1 21 = .ok (.iconst 0, 1) := by decide +kernel
theorem d_Bo_odds_22 : decode M_Bo_odds.1 22 = .ok (.bipush 6, 2) := by decide +kernel
theorem d_Bo_odds_24 : decode M_Bo_odds.1 24 = .ok (.invokestatic 64, 3) := by decide +kernel
theorem d_Bo_odds_27 : decode M_Bo_odds.1 27 = .ok (.ifCond .eq 28, 3) := by decide +kernel
theorem d_Bo_odds_30 : decode M_Bo_odds.1 30 = .ok (.iload 4, 2) := by decide +kernel
theorem d_Bo_odds_32 : decode M_Bo_odds.1 32 = .ok (.iconst 0, 1) := by decide +kernel
theorem d_Bo_odds_33 : decode M_Bo_odds.1 33 = .ok (.bipush 99, 2) := by decide +kernel
theorem d_Bo_odds_35 : decode M_Bo_odds.1 35 = .ok (.invokestatic 64, 3) := by decide +kernel
theorem d_Bo_odds_38 : decode M_Bo_odds.1 38 = .ok (.ifCond .eq 17, 3) := by decide +kernel
theorem d_Bo_odds_41 : decode M_Bo_odds.1 41 = .ok (.iload 5, 2) := by decide +kernel
theorem d_Bo_odds_43 : decode M_Bo_odds.1 43 = .ok (.iconst 0, 1) := by decide +kernel
theorem d_Bo_odds_44 : decode M_Bo_odds.1 44 = .ok (.iconst 1, 1) := by decide +kernel
theorem d_Bo_odds_45 : decode M_Bo_odds.1 45 = .ok (.invokestatic 64, 3) := by decide +kernel
theorem d_Bo_odds_48 : decode M_Bo_odds.1 48 = .ok (.ifCond .eq 7, 3) := by decide +kernel
theorem d_Bo_odds_51 : decode M_Bo_odds.1 51 = .ok (.iconst 1, 1) := by decide +kernel
theorem d_Bo_odds_52 : decode M_Bo_odds.1 52 = .ok (.goto 4, 3) := by decide +kernel
theorem d_Bo_odds_55 : decode M_Bo_odds.1 55 = .ok (.iconst 0, 1) := by decide +kernel
theorem d_Bo_odds_56 : decode M_Bo_odds.1 56 = .ok (.istore 6, 2) := by decide +kernel
theorem d_Bo_odds_58 : decode M_Bo_odds.1 58 = .ok (.iload 6, 2) := by decide +kernel
theorem d_Bo_odds_60 : decode M_Bo_odds.1 60 = .ok (.ifCond .ne 7, 3) := by decide +kernel
theorem d_Bo_odds_63 : decode M_Bo_odds.1 63 = .ok (.ldc2_w 216, 3) := by decide +kernel
theorem d_Bo_odds_66 : decode M_Bo_odds.1 66 = .ok (.lreturn, 1) := by decide +kernel
theorem d_Bo_odds_67 : decode M_Bo_odds.1 67 = .ok (.lconst 0, 1) := by decide +kernel
theorem d_Bo_odds_68 : decode M_Bo_odds.1 68 = .ok (.lstore 7, 2) := by decide +kernel
theorem d_Bo_odds_70 : decode M_Bo_odds.1 70 = .ok (.iconst 0, 1) := by decide +kernel
theorem d_Bo_odds_71 : decode M_Bo_odds.1 71 = .ok (.istore 9, 2) := by decide +kernel
theorem d_Bo_odds_73 : decode M_Bo_odds.1 73 = .ok (.iload 9, 2) := by decide +kernel
theorem d_Bo_odds_75 : decode M_Bo_odds.1 75 = .ok (.iconst 1, 1) := by decide +kernel
theorem d_Bo_odds_76 : decode M_Bo_odds.1 76 = .ok (.iload_n 3, 1) := by decide +kernel
theorem d_Bo_odds_77 : decode M_Bo_odds.1 77 = .ok (.ishl, 1) := by decide +kernel
theorem d_Bo_odds_78 : decode M_Bo_odds.1 78 = .ok (.if_icmp .ge 52, 3) := by decide +kernel
theorem d_Bo_odds_81 : decode M_Bo_odds.1 81 = .ok (.aload_n 0, 1) := by decide +kernel
theorem d_Bo_odds_82 : decode M_Bo_odds.1 82 = .ok (.iload_n 1, 1) := by decide +kernel
theorem d_Bo_odds_83 : decode M_Bo_odds.1 83 = .ok (.iload_n 3, 1) := by decide +kernel
theorem d_Bo_odds_84 : decode M_Bo_odds.1 84 = .ok (.iload 9, 2) := by decide +kernel
theorem d_Bo_odds_86 : decode M_Bo_odds.1 86 = .ok (.invokevirtual 218, 3) := by decide +kernel
theorem d_Bo_odds_89 : decode M_Bo_odds.1 89 = .ok (.iload 4, 2) := by decide +kernel
theorem d_Bo_odds_91 : decode M_Bo_odds.1 91 = .ok (.if_icmp .gt 33, 3) := by decide +kernel
theorem d_Bo_odds_94 : decode M_Bo_odds.1 94 = .ok (.iload 9, 2) := by decide +kernel
theorem d_Bo_odds_96 : decode M_Bo_odds.1 96 = .ok (.invokestatic 178, 3) := by decide +kernel
theorem d_Bo_odds_99 : decode M_Bo_odds.1 99 = .ok (.istore 10, 2) := by decide +kernel
theorem d_Bo_odds_101 : decode M_Bo_odds.1 101 = .ok (.lload 7, 2) := by decide +kernel
theorem d_Bo_odds_103 : decode M_Bo_odds.1 103 = .ok (.iload_n 2, 1) := by decide +kernel
theorem d_Bo_odds_104 : decode M_Bo_odds.1 104 = .ok (.iload 10, 2) := by decide +kernel
theorem d_Bo_odds_106 : decode M_Bo_odds.1 106 = .ok (.invokestatic 221, 3) := by decide +kernel
theorem d_Bo_odds_109 : decode M_Bo_odds.1 109 = .ok (.bipush 10, 2) := by decide +kernel
theorem d_Bo_odds_111 : decode M_Bo_odds.1 111 = .ok (.iload_n 2, 1) := by decide +kernel
theorem d_Bo_odds_112 : decode M_Bo_odds.1 112 = .ok (.isub, 1) := by decide +kernel
theorem d_Bo_odds_113 : decode M_Bo_odds.1 113 = .ok (.iload_n 3, 1) := by decide +kernel
theorem d_Bo_odds_114 : decode M_Bo_odds.1 114 = .ok (.iload 10, 2) := by decide +kernel
theorem d_Bo_odds_116 : decode M_Bo_odds.1 116 = .ok (.isub, 1) := by decide +kernel
theorem d_Bo_odds_117 : decode M_Bo_odds.1 117 = .ok (.invokestatic 221, 3) := by decide +kernel
theorem d_Bo_odds_120 : decode M_Bo_odds.1 120 = .ok (.lmul, 1) := by decide +kernel
theorem d_Bo_odds_121 : decode M_Bo_odds.1 121 = .ok (.ladd, 1) := by decide +kernel
theorem d_Bo_odds_122 : decode M_Bo_odds.1 122 = .ok (.lstore 7, 2) := by decide +kernel
theorem d_Bo_odds_124 : decode M_Bo_odds.1 124 = .ok (.iinc 9 1, 3) := by decide +kernel
theorem d_Bo_odds_127 : decode M_Bo_odds.1 127 = .ok (.goto (-54), 3) := by decide +kernel
theorem d_Bo_odds_130 : decode M_Bo_odds.1 130 = .ok (.bipush 10, 2) := by decide +kernel
theorem d_Bo_odds_132 : decode M_Bo_odds.1 132 = .ok (.iload_n 3, 1) := by decide +kernel
theorem d_Bo_odds_133 : decode M_Bo_odds.1 133 = .ok (.invokestatic 221, 3) := by decide +kernel
theorem d_Bo_odds_136 : decode M_Bo_odds.1 136 = .ok (.lstore 9, 2) := by decide +kernel
theorem d_Bo_odds_138 : decode M_Bo_odds.1 138 = .ok (.lload 9, 2) := by decide +kernel
theorem d_Bo_odds_140 : decode M_Bo_odds.1 140 = .ok (.lload 7, 2) := by decide +kernel
theorem d_Bo_odds_142 : decode M_Bo_odds.1 142 = .ok (.invokestatic 225, 3) := by decide +kernel
theorem d_Bo_odds_145 : decode M_Bo_odds.1 145 = .ok (.lstore 11, 2) := by decide +kernel
theorem d_Bo_odds_147 : decode M_Bo_odds.1 147 = .ok (.lload 11, 2) := by decide +kernel
theorem d_Bo_odds_149 : decode M_Bo_odds.1 149 = .ok (.lconst 0, 1) := by decide +kernel
theorem d_Bo_odds_150 : decode M_Bo_odds.1 150 = .ok (.lcmp, 1) := by decide +kernel
theorem d_Bo_odds_151 : decode M_Bo_odds.1 151 = .ok (.ifCond .ne 7, 3) := by decide +kernel
theorem d_Bo_odds_154 : decode M_Bo_odds.1 154 = .ok (.ldc2_w 216, 3) := by decide +kernel
theorem d_Bo_odds_157 : decode M_Bo_odds.1 157 = .ok (.lreturn, 1) := by decide +kernel
theorem d_Bo_odds_158 : decode M_Bo_odds.1 158 = .ok (.iload 5, 2) := by decide +kernel
theorem d_Bo_odds_160 : decode M_Bo_odds.1 160 = .ok (.ifCond .ne 8, 3) := by decide +kernel
theorem d_Bo_odds_163 : decode M_Bo_odds.1 163 = .ok (.lload 7, 2) := by decide +kernel
theorem d_Bo_odds_165 : decode M_Bo_odds.1 165 = .ok (.goto 5, 3) := by decide +kernel
theorem d_Bo_odds_168 : decode M_Bo_odds.1 168 = .ok (.lload 9, 2) := by decide +kernel
theorem d_Bo_odds_170 : decode M_Bo_odds.1 170 = .ok (.lload 11, 2) := by decide +kernel
theorem d_Bo_odds_172 : decode M_Bo_odds.1 172 = .ok (.ldiv, 1) := by decide +kernel
theorem d_Bo_odds_173 : decode M_Bo_odds.1 173 = .ok (.lreturn, 1) := by decide +kernel
theorem d_Bo_apartByPlays_0 : decode M_Bo_apartByPlays.1 0 = .ok (.aload_n 0, 1) := by decide +kernel
theorem d_Bo_apartByPlays_1 : decode M_Bo_apartByPlays.1 1 = .ok (.getfield 33, 3) := by decide +kernel
theorem d_Bo_apartByPlays_4 : decode M_Bo_apartByPlays.1 4 = .ok (.aload_n 0, 1) := by decide +kernel
theorem d_Bo_apartByPlays_5 : decode M_Bo_apartByPlays.1 5 = .ok (.getfield 29, 3) := by decide +kernel
theorem d_Bo_apartByPlays_8 : decode M_Bo_apartByPlays.1 8 = .ok (.invokevirtual 186, 3) := by decide +kernel
theorem d_Bo_apartByPlays_11 : decode M_Bo_apartByPlays.1 11 = .ok (.iconst 0, 1) := by decide +kernel
theorem d_Bo_apartByPlays_12 : decode M_Bo_apartByPlays.1 12 = .ok (.istore 4, 2) := by decide +kernel
theorem d_Bo_apartByPlays_14 : decode M_Bo_apartByPlays.1 14 = .ok (.iload 4, 2) := by decide +kernel
theorem d_Bo_apartByPlays_16 : decode M_Bo_apartByPlays.1 16 = .ok (.iload_n 2, 1) := by decide +kernel
theorem d_Bo_apartByPlays_17 : decode M_Bo_apartByPlays.1 17 = .ok (.if_icmp .ge 42, 3) := by decide +kernel
theorem d_Bo_apartByPlays_20 : decode M_Bo_apartByPlays.1 20 = .ok (.aload_n 0, 1) := by decide +kernel
theorem d_Bo_apartByPlays_21 : decode M_Bo_apartByPlays.1 21 = .ok (.getfield 33, 3) := by decide +kernel
theorem d_Bo_apartByPlays_24 : decode M_Bo_apartByPlays.1 24 = .ok (.iload_n 3, 1) := by decide +kernel
theorem d_Bo_apartByPlays_25 : decode M_Bo_apartByPlays.1 25 = .ok (.iload 4, 2) := by decide +kernel
theorem d_Bo_apartByPlays_27 : decode M_Bo_apartByPlays.1 27 = .ok (.ishr, 1) := by decide +kernel
theorem d_Bo_apartByPlays_28 : decode M_Bo_apartByPlays.1 28 = .ok (.iconst 1, 1) := by decide +kernel
theorem d_Bo_apartByPlays_29 : decode M_Bo_apartByPlays.1 29 = .ok (.iand, 1) := by decide +kernel
theorem d_Bo_apartByPlays_30 : decode M_Bo_apartByPlays.1 30 = .ok (.iconst 1, 1) := by decide +kernel
theorem d_Bo_apartByPlays_31 : decode M_Bo_apartByPlays.1 31 = .ok (.if_icmp .ne 7, 3) := by decide +kernel
theorem d_Bo_apartByPlays_34 : decode M_Bo_apartByPlays.1 34 = .ok (.iload_n 1, 1) := by decide +kernel
theorem d_Bo_apartByPlays_35 : decode M_Bo_apartByPlays.1 35 = .ok (.goto 4, 3) := by decide +kernel
theorem d_Bo_apartByPlays_38 : decode M_Bo_apartByPlays.1 38 = .ok (.iconst 0, 1) := by decide +kernel
theorem d_Bo_apartByPlays_39 : decode M_Bo_apartByPlays.1 39 = .ok (.putfield 137, 3) := by decide +kernel
theorem d_Bo_apartByPlays_42 : decode M_Bo_apartByPlays.1 42 = .ok (.aload_n 0, 1) := by decide +kernel
theorem d_Bo_apartByPlays_43 : decode M_Bo_apartByPlays.1 43 = .ok (.getfield 19, 3) := by decide +kernel
theorem d_Bo_apartByPlays_46 : decode M_Bo_apartByPlays.1 46 = .ok (.aload_n 0, 1) := by decide +kernel
theorem d_Bo_apartByPlays_47 : decode M_Bo_apartByPlays.1 47 = .ok (.getfield 33, 3) := by decide +kernel
theorem d_Bo_apartByPlays_50 : decode M_Bo_apartByPlays.1 50 = .ok (.invokevirtual 157, 3) := by decide +kernel
theorem d_Bo_apartByPlays_53 : decode M_Bo_apartByPlays.1 53 = .ok (.iinc 4 1, 3) := by decide +kernel
theorem d_Bo_apartByPlays_56 : decode M_Bo_apartByPlays.1 56 = .ok (.goto (-42), 3) := by decide +kernel
theorem d_Bo_apartByPlays_59 : decode M_Bo_apartByPlays.1 59 = .ok (.aload_n 0, 1) := by decide +kernel
theorem d_Bo_apartByPlays_60 : decode M_Bo_apartByPlays.1 60 = .ok (.getfield 33, 3) := by decide +kernel
theorem d_Bo_apartByPlays_63 : decode M_Bo_apartByPlays.1 63 = .ok (.aload_n 0, 1) := by decide +kernel
theorem d_Bo_apartByPlays_64 : decode M_Bo_apartByPlays.1 64 = .ok (.getfield 19, 3) := by decide +kernel
theorem d_Bo_apartByPlays_67 : decode M_Bo_apartByPlays.1 67 = .ok (.getfield 146, 3) := by decide +kernel
theorem d_Bo_apartByPlays_70 : decode M_Bo_apartByPlays.1 70 = .ok (.invokevirtual 149, 3) := by decide +kernel
theorem d_Bo_apartByPlays_73 : decode M_Bo_apartByPlays.1 73 = .ok (.ireturn, 1) := by decide +kernel
theorem d_Bo_rate_0 : decode M_Bo_rate.1 0 = .ok (.iload_n 1, 1) := by decide +kernel
theorem d_Bo_rate_1 : decode M_Bo_rate.1 1 = .ok (.iconst 0, 1) := by decide +kernel
theorem d_Bo_rate_2 : decode M_Bo_rate.1 2 = .ok (.iconst 5, 1) := by decide +kernel
theorem d_Bo_rate_3 : decode M_Bo_rate.1 3 = .ok (.invokestatic 64, 3) := by decide +kernel
theorem d_Bo_rate_6 : decode M_Bo_rate.1 6 = .ok (.ifCond .eq 14, 3) := by decide +kernel
theorem d_Bo_rate_9 : decode M_Bo_rate.1 9 = .ok (.aload_n 0, 1) := by decide +kernel
theorem d_Bo_rate_10 : decode M_Bo_rate.1 10 = .ok (.getfield 19, 3) := by decide +kernel
theorem d_Bo_rate_13 : decode M_Bo_rate.1 13 = .ok (.iload_n 2, 1) := by decide +kernel
theorem d_Bo_rate_14 : decode M_Bo_rate.1 14 = .ok (.invokevirtual 106, 3) := by decide +kernel
theorem d_Bo_rate_17 : decode M_Bo_rate.1 17 = .ok (.ifCond .ne 6, 3) := by decide +kernel
theorem d_Bo_rate_20 : decode M_Bo_rate.1 20 = .ok (.ldc 68, 2) := by decide +kernel
theorem d_Bo_rate_22 : decode M_Bo_rate.1 22 = .ok (.ireturn, 1) := by decide +kernel
theorem d_Bo_rate_23 : decode M_Bo_rate.1 23 = .ok (.iload_n 1, 1) := by decide +kernel
theorem d_Bo_rate_24 : decode M_Bo_rate.1 24 = .ok (.tableswitch 66 1 5 #[36, 42, 48, 54, 60], 36) := by decide +kernel
theorem d_Bo_rate_60 : decode M_Bo_rate.1 60 = .ok (.aload_n 0, 1) := by decide +kernel
theorem d_Bo_rate_61 : decode M_Bo_rate.1 61 = .ok (.iload_n 2, 1) := by decide +kernel
theorem d_Bo_rate_62 : decode M_Bo_rate.1 62 = .ok (.invokevirtual 229, 3) := by decide +kernel
theorem d_Bo_rate_65 : decode M_Bo_rate.1 65 = .ok (.ireturn, 1) := by decide +kernel
theorem d_Bo_rate_66 : decode M_Bo_rate.1 66 = .ok (.aload_n 0, 1) := by decide +kernel
theorem d_Bo_rate_67 : decode M_Bo_rate.1 67 = .ok (.iload_n 2, 1) := by decide +kernel
theorem d_Bo_rate_68 : decode M_Bo_rate.1 68 = .ok (.invokevirtual 232, 3) := by decide +kernel
theorem d_Bo_rate_71 : decode M_Bo_rate.1 71 = .ok (.ireturn, 1) := by decide +kernel
theorem d_Bo_rate_72 : decode M_Bo_rate.1 72 = .ok (.aload_n 0, 1) := by decide +kernel
theorem d_Bo_rate_73 : decode M_Bo_rate.1 73 = .ok (.iload_n 2, 1) := by decide +kernel
theorem d_Bo_rate_74 : decode M_Bo_rate.1 74 = .ok (.invokevirtual 235, 3) := by decide +kernel
theorem d_Bo_rate_77 : decode M_Bo_rate.1 77 = .ok (.ireturn, 1) := by decide +kernel
theorem d_Bo_rate_78 : decode M_Bo_rate.1 78 = .ok (.aload_n 0, 1) := by decide +kernel
theorem d_Bo_rate_79 : decode M_Bo_rate.1 79 = .ok (.iload_n 2, 1) := by decide +kernel
theorem d_Bo_rate_80 : decode M_Bo_rate.1 80 = .ok (.invokevirtual 238, 3) := by decide +kernel
theorem d_Bo_rate_83 : decode M_Bo_rate.1 83 = .ok (.ireturn, 1) := by decide +kernel
theorem d_Bo_rate_84 : decode M_Bo_rate.1 84 = .ok (.aload_n 0, 1) := by decide +kernel
theorem d_Bo_rate_85 : decode M_Bo_rate.1 85 = .ok (.iload_n 2, 1) := by decide +kernel
theorem d_Bo_rate_86 : decode M_Bo_rate.1 86 = .ok (.invokevirtual 241, 3) := by decide +kernel
theorem d_Bo_rate_89 : decode M_Bo_rate.1 89 = .ok (.ireturn, 1) := by decide +kernel
theorem d_Bo_rate_90 : decode M_Bo_rate.1 90 = .ok (.aload_n 0, 1) := by decide +kernel
theorem d_Bo_rate_91 : decode M_Bo_rate.1 91 = .ok (.iload_n 2, 1) := by decide +kernel
theorem d_Bo_rate_92 : decode M_Bo_rate.1 92 = .ok (.invokevirtual 244, 3) := by decide +kernel
theorem d_Bo_rate_95 : decode M_Bo_rate.1 95 = .ok (.ireturn, 1) := by decide +kernel
theorem d_Bo_ratePew_0 : decode M_Bo_ratePew.1 0 = .ok (.aload_n 0, 1) := by decide +kernel
theorem d_Bo_ratePew_1 : decode M_Bo_ratePew.1 1 = .ok (.dup, 1) := by decide +kernel
theorem d_Bo_ratePew_2 : decode M_Bo_ratePew.1 2 = .ok (.getfield 247, 3) := by decide +kernel
theorem d_Bo_ratePew_5 : decode M_Bo_ratePew.1 5 = .ok (.lconst 1, 1) := by decide +kernel
theorem d_Bo_ratePew_6 : decode M_Bo_ratePew.1 6 = .ok (.ladd, 1) := by decide +kernel
theorem d_Bo_ratePew_7 : decode M_Bo_ratePew.1 7 = .ok (.putfield 247, 3) := by decide +kernel
theorem d_Bo_ratePew_10 : decode M_Bo_ratePew.1 10 = .ok (.aload_n 0, 1) := by decide +kernel
theorem d_Bo_ratePew_11 : decode M_Bo_ratePew.1 11 = .ok (.getfield 29, 3) := by decide +kernel
theorem d_Bo_ratePew_14 : decode M_Bo_ratePew.1 14 = .ok (.getfield 121, 3) := by decide +kernel
theorem d_Bo_ratePew_17 : decode M_Bo_ratePew.1 17 = .ok (.iload_n 1, 1) := by decide +kernel
theorem d_Bo_ratePew_18 : decode M_Bo_ratePew.1 18 = .ok (.iaload, 1) := by decide +kernel
theorem d_Bo_ratePew_19 : decode M_Bo_ratePew.1 19 = .ok (.ireturn, 1) := by decide +kernel
theorem d_Bo_rateFront_0 : decode M_Bo_rateFront.1 0 = .ok (.aload_n 0, 1) := by decide +kernel
theorem d_Bo_rateFront_1 : decode M_Bo_rateFront.1 1 = .ok (.dup, 1) := by decide +kernel
theorem d_Bo_rateFront_2 : decode M_Bo_rateFront.1 2 = .ok (.getfield 247, 3) := by decide +kernel
theorem d_Bo_rateFront_5 : decode M_Bo_rateFront.1 5 = .ok (.ldc2_w 251, 3) := by decide +kernel
theorem d_Bo_rateFront_8 : decode M_Bo_rateFront.1 8 = .ok (.ladd, 1) := by decide +kernel
theorem d_Bo_rateFront_9 : decode M_Bo_rateFront.1 9 = .ok (.putfield 247, 3) := by decide +kernel
theorem d_Bo_rateFront_12 : decode M_Bo_rateFront.1 12 = .ok (.aload_n 0, 1) := by decide +kernel
theorem d_Bo_rateFront_13 : decode M_Bo_rateFront.1 13 = .ok (.iload_n 1, 1) := by decide +kernel
theorem d_Bo_rateFront_14 : decode M_Bo_rateFront.1 14 = .ok (.invokevirtual 244, 3) := by decide +kernel
theorem d_Bo_rateFront_17 : decode M_Bo_rateFront.1 17 = .ok (.aload_n 0, 1) := by decide +kernel
theorem d_Bo_rateFront_18 : decode M_Bo_rateFront.1 18 = .ok (.getfield 19, 3) := by decide +kernel
theorem d_Bo_rateFront_21 : decode M_Bo_rateFront.1 21 = .ok (.iload_n 1, 1) := by decide +kernel
theorem d_Bo_rateFront_22 : decode M_Bo_rateFront.1 22 = .ok (.invokevirtual 124, 3) := by decide +kernel
theorem d_Bo_rateFront_25 : decode M_Bo_rateFront.1 25 = .ok (.iadd, 1) := by decide +kernel
theorem d_Bo_rateFront_26 : decode M_Bo_rateFront.1 26 = .ok (.ireturn, 1) := by decide +kernel
theorem d_Bo_rateBasses_0 : decode M_Bo_rateBasses.1 0 = .ok (.aload_n 0, 1) := by decide +kernel
theorem d_Bo_rateBasses_1 : decode M_Bo_rateBasses.1 1 = .ok (.dup, 1) := by decide +kernel
theorem d_Bo_rateBasses_2 : decode M_Bo_rateBasses.1 2 = .ok (.getfield 247, 3) := by decide +kernel
theorem d_Bo_rateBasses_5 : decode M_Bo_rateBasses.1 5 = .ok (.ldc2_w 253, 3) := by decide +kernel
theorem d_Bo_rateBasses_8 : decode M_Bo_rateBasses.1 8 = .ok (.ladd, 1) := by decide +kernel
theorem d_Bo_rateBasses_9 : decode M_Bo_rateBasses.1 9 = .ok (.putfield 247, 3) := by decide +kernel
theorem d_Bo_rateBasses_12 : decode M_Bo_rateBasses.1 12 = .ok (.aload_n 0, 1) := by decide +kernel
theorem d_Bo_rateBasses_13 : decode M_Bo_rateBasses.1 13 = .ok (.iload_n 1, 1) := by decide +kernel
theorem d_Bo_rateBasses_14 : decode M_Bo_rateBasses.1 14 = .ok (.invokevirtual 244, 3) := by decide +kernel
theorem d_Bo_rateBasses_17 : decode M_Bo_rateBasses.1 17 = .ok (.aload_n 0, 1) := by decide +kernel
theorem d_Bo_rateBasses_18 : decode M_Bo_rateBasses.1 18 = .ok (.getfield 19, 3) := by decide +kernel
theorem d_Bo_rateBasses_21 : decode M_Bo_rateBasses.1 21 = .ok (.getfield 118, 3) := by decide +kernel
theorem d_Bo_rateBasses_24 : decode M_Bo_rateBasses.1 24 = .ok (.iload_n 1, 1) := by decide +kernel
theorem d_Bo_rateBasses_25 : decode M_Bo_rateBasses.1 25 = .ok (.iaload, 1) := by decide +kernel
theorem d_Bo_rateBasses_26 : decode M_Bo_rateBasses.1 26 = .ok (.isub, 1) := by decide +kernel
theorem d_Bo_rateBasses_27 : decode M_Bo_rateBasses.1 27 = .ok (.ireturn, 1) := by decide +kernel
theorem d_Bo_rateWidows_0 : decode M_Bo_rateWidows.1 0 = .ok (.aload_n 0, 1) := by decide +kernel
theorem d_Bo_rateWidows_1 : decode M_Bo_rateWidows.1 1 = .ok (.dup, 1) := by decide +kernel
theorem d_Bo_rateWidows_2 : decode M_Bo_rateWidows.1 2 = .ok (.getfield 247, 3) := by decide +kernel
theorem d_Bo_rateWidows_5 : decode M_Bo_rateWidows.1 5 = .ok (.ldc2_w 255, 3) := by decide +kernel
theorem d_Bo_rateWidows_8 : decode M_Bo_rateWidows.1 8 = .ok (.ladd, 1) := by decide +kernel
theorem d_Bo_rateWidows_9 : decode M_Bo_rateWidows.1 9 = .ok (.putfield 247, 3) := by decide +kernel
theorem d_Bo_rateWidows_12 : decode M_Bo_rateWidows.1 12 = .ok (.iconst 2, 1) := by decide +kernel
theorem d_Bo_rateWidows_13 : decode M_Bo_rateWidows.1 13 = .ok (.aload_n 0, 1) := by decide +kernel
theorem d_Bo_rateWidows_14 : decode M_Bo_rateWidows.1 14 = .ok (.iload_n 1, 1) := by decide +kernel
theorem d_Bo_rateWidows_15 : decode M_Bo_rateWidows.1 15 = .ok (.invokevirtual 229, 3) := by decide +kernel
theorem d_Bo_rateWidows_18 : decode M_Bo_rateWidows.1 18 = .ok (.imul, 1) := by decide +kernel
theorem d_Bo_rateWidows_19 : decode M_Bo_rateWidows.1 19 = .ok (.ireturn, 1) := by decide +kernel
theorem d_Bo_rateBoys_0 : decode M_Bo_rateBoys.1 0 = .ok (.aload_n 0, 1) := by decide +kernel
theorem d_Bo_rateBoys_1 : decode M_Bo_rateBoys.1 1 = .ok (.dup, 1) := by decide +kernel
theorem d_Bo_rateBoys_2 : decode M_Bo_rateBoys.1 2 = .ok (.getfield 247, 3) := by decide +kernel
theorem d_Bo_rateBoys_5 : decode M_Bo_rateBoys.1 5 = .ok (.ldc2_w 257, 3) := by decide +kernel
theorem d_Bo_rateBoys_8 : decode M_Bo_rateBoys.1 8 = .ok (.ladd, 1) := by decide +kernel
theorem d_Bo_rateBoys_9 : decode M_Bo_rateBoys.1 9 = .ok (.putfield 247, 3) := by decide +kernel
theorem d_Bo_rateBoys_12 : decode M_Bo_rateBoys.1 12 = .ok (.aload_n 0, 1) := by decide +kernel
theorem d_Bo_rateBoys_13 : decode M_Bo_rateBoys.1 13 = .ok (.iload_n 1, 1) := by decide +kernel
theorem d_Bo_rateBoys_14 : decode M_Bo_rateBoys.1 14 = .ok (.invokevirtual 232, 3) := by decide +kernel
theorem d_Bo_rateBoys_17 : decode M_Bo_rateBoys.1 17 = .ok (.iload_n 1, 1) := by decide +kernel
theorem d_Bo_rateBoys_18 : decode M_Bo_rateBoys.1 18 = .ok (.iadd, 1) := by decide +kernel
theorem d_Bo_rateBoys_19 : decode M_Bo_rateBoys.1 19 = .ok (.ireturn, 1) := by decide +kernel
theorem d_Bo_rateStrangers_0 : decode M_Bo_rateStrangers.1 0 = .ok (.aload_n 0, 1) := by decide +kernel
theorem d_Bo_rateStrangers_1 : decode M_Bo_rateStrangers.1 1 = .ok (.dup, 1) := by decide +kernel
theorem d_Bo_rateStrangers_2 : decode M_Bo_rateStrangers.1 2 = .ok (.getfield 247, 3) := by decide +kernel
theorem d_Bo_rateStrangers_5 : decode M_Bo_rateStrangers.1 5 = .ok (.ldc2_w 259, 3) := by decide +kernel
theorem d_Bo_rateStrangers_8 : decode M_Bo_rateStrangers.1 8 = .ok (.ladd, 1) := by decide +kernel
theorem d_Bo_rateStrangers_9 : decode M_Bo_rateStrangers.1 9 = .ok (.putfield 247, 3) := by decide +kernel
theorem d_Bo_rateStrangers_12 : decode M_Bo_rateStrangers.1 12 = .ok (.aload_n 0, 1) := by decide +kernel
theorem d_Bo_rateStrangers_13 : decode M_Bo_rateStrangers.1 13 = .ok (.iload_n 1, 1) := by decide +kernel
theorem d_Bo_rateStrangers_14 : decode M_Bo_rateStrangers.1 14 = .ok (.invokevirtual 244, 3) := by decide +kernel
theorem d_Bo_rateStrangers_17 : decode M_Bo_rateStrangers.1 17 = .ok (.aload_n 0, 1) := by decide +kernel
theorem d_Bo_rateStrangers_18 : decode M_Bo_rateStrangers.1 18 = .ok (.getfield 29, 3) := by decide +kernel
theorem d_Bo_rateStrangers_21 : decode M_Bo_rateStrangers.1 21 = .ok (.getfield 134, 3) := by decide +kernel
theorem d_Bo_rateStrangers_24 : decode M_Bo_rateStrangers.1 24 = .ok (.iadd, 1) := by decide +kernel
theorem d_Bo_rateStrangers_25 : decode M_Bo_rateStrangers.1 25 = .ok (.ireturn, 1) := by decide +kernel
theorem d_Bo_keep_0 : decode M_Bo_keep.1 0 = .ok (.iload_n 1, 1) := by decide +kernel
theorem d_Bo_keep_1 : decode M_Bo_keep.1 1 = .ok (.iconst 0, 1) := by decide +kernel
theorem d_Bo_keep_2 : decode M_Bo_keep.1 2 = .ok (.iconst 1, 1) := by decide +kernel
theorem d_Bo_keep_3 : decode M_Bo_keep.1 3 = .ok (.invokestatic 64, 3) := by decide +kernel
theorem d_Bo_keep_6 : decode M_Bo_keep.1 6 = .ok (.ifCond .ne 6, 3) := by decide +kernel
theorem d_Bo_keep_9 : decode M_Bo_keep.1 9 = .ok (.ldc 68, 2) := by decide +kernel
theorem d_Bo_keep_11 : decode M_Bo_keep.1 11 = .ok (.ireturn, 1) := by decide +kernel
theorem d_Bo_keep_12 : decode M_Bo_keep.1 12 = .ok (.aload_n 0, 1) := by decide +kernel
theorem d_Bo_keep_13 : decode M_Bo_keep.1 13 = .ok (.getfield 46, 3) := by decide +kernel
theorem d_Bo_keep_16 : decode M_Bo_keep.1 16 = .ok (.iload_n 1, 1) := by decide +kernel
theorem d_Bo_keep_17 : decode M_Bo_keep.1 17 = .ok (.aaload, 1) := by decide +kernel
theorem d_Bo_keep_18 : decode M_Bo_keep.1 18 = .ok (.aload_n 0, 1) := by decide +kernel
theorem d_Bo_keep_19 : decode M_Bo_keep.1 19 = .ok (.getfield 29, 3) := by decide +kernel
theorem d_Bo_keep_22 : decode M_Bo_keep.1 22 = .ok (.invokevirtual 186, 3) := by decide +kernel
theorem d_Bo_keep_25 : decode M_Bo_keep.1 25 = .ok (.aload_n 0, 1) := by decide +kernel
theorem d_Bo_keep_26 : decode M_Bo_keep.1 26 = .ok (.getfield 50, 3) := by decide +kernel
theorem d_Bo_keep_29 : decode M_Bo_keep.1 29 = .ok (.iload_n 1, 1) := by decide +kernel
theorem d_Bo_keep_30 : decode M_Bo_keep.1 30 = .ok (.iconst 1, 1) := by decide +kernel
theorem d_Bo_keep_31 : decode M_Bo_keep.1 31 = .ok (.bastore, 1) := by decide +kernel
theorem d_Bo_keep_32 : decode M_Bo_keep.1 32 = .ok (.aload_n 0, 1) := by decide +kernel
theorem d_Bo_keep_33 : decode M_Bo_keep.1 33 = .ok (.getfield 29, 3) := by decide +kernel
theorem d_Bo_keep_36 : decode M_Bo_keep.1 36 = .ok (.getfield 131, 3) := by decide +kernel
theorem d_Bo_keep_39 : decode M_Bo_keep.1 39 = .ok (.ireturn, 1) := by decide +kernel
theorem d_Bo_back_0 : decode M_Bo_back.1 0 = .ok (.iload_n 1, 1) := by decide +kernel
theorem d_Bo_back_1 : decode M_Bo_back.1 1 = .ok (.iconst 0, 1) := by decide +kernel
theorem d_Bo_back_2 : decode M_Bo_back.1 2 = .ok (.iconst 1, 1) := by decide +kernel
theorem d_Bo_back_3 : decode M_Bo_back.1 3 = .ok (.invokestatic 64, 3) := by decide +kernel
theorem d_Bo_back_6 : decode M_Bo_back.1 6 = .ok (.ifCond .ne 6, 3) := by decide +kernel
theorem d_Bo_back_9 : decode M_Bo_back.1 9 = .ok (.ldc 68, 2) := by decide +kernel
theorem d_Bo_back_11 : decode M_Bo_back.1 11 = .ok (.ireturn, 1) := by decide +kernel
theorem d_Bo_back_12 : decode M_Bo_back.1 12 = .ok (.aload_n 0, 1) := by decide +kernel
theorem d_Bo_back_13 : decode M_Bo_back.1 13 = .ok (.getfield 50, 3) := by decide +kernel
theorem d_Bo_back_16 : decode M_Bo_back.1 16 = .ok (.iload_n 1, 1) := by decide +kernel
theorem d_Bo_back_17 : decode M_Bo_back.1 17 = .ok (.baload, 1) := by decide +kernel
theorem d_Bo_back_18 : decode M_Bo_back.1 18 = .ok (.ifCond .ne 6, 3) := by decide +kernel
theorem d_Bo_back_21 : decode M_Bo_back.1 21 = .ok (.ldc 152, 2) := by decide +kernel
theorem d_Bo_back_23 : decode M_Bo_back.1 23 = .ok (.ireturn, 1) := by decide +kernel
theorem d_Bo_back_24 : decode M_Bo_back.1 24 = .ok (.aload_n 0, 1) := by decide +kernel
theorem d_Bo_back_25 : decode M_Bo_back.1 25 = .ok (.getfield 29, 3) := by decide +kernel
theorem d_Bo_back_28 : decode M_Bo_back.1 28 = .ok (.aload_n 0, 1) := by decide +kernel
theorem d_Bo_back_29 : decode M_Bo_back.1 29 = .ok (.getfield 46, 3) := by decide +kernel
theorem d_Bo_back_32 : decode M_Bo_back.1 32 = .ok (.iload_n 1, 1) := by decide +kernel
theorem d_Bo_back_33 : decode M_Bo_back.1 33 = .ok (.aaload, 1) := by decide +kernel
theorem d_Bo_back_34 : decode M_Bo_back.1 34 = .ok (.invokevirtual 186, 3) := by decide +kernel
theorem d_Bo_back_37 : decode M_Bo_back.1 37 = .ok (.aload_n 0, 1) := by decide +kernel
theorem d_Bo_back_38 : decode M_Bo_back.1 38 = .ok (.getfield 42, 3) := by decide +kernel
theorem d_Bo_back_41 : decode M_Bo_back.1 41 = .ok (.iconst 0, 1) := by decide +kernel
theorem d_Bo_back_42 : decode M_Bo_back.1 42 = .ok (.putfield 100, 3) := by decide +kernel
theorem d_Bo_back_45 : decode M_Bo_back.1 45 = .ok (.aload_n 0, 1) := by decide +kernel
theorem d_Bo_back_46 : decode M_Bo_back.1 46 = .ok (.getfield 29, 3) := by decide +kernel
theorem d_Bo_back_49 : decode M_Bo_back.1 49 = .ok (.getfield 131, 3) := by decide +kernel
theorem d_Bo_back_52 : decode M_Bo_back.1 52 = .ok (.ireturn, 1) := by decide +kernel
theorem d_Bo_count_0 : decode M_Bo_count.1 0 = .ok (.iload_n 1, 1) := by decide +kernel
theorem d_Bo_count_1 : decode M_Bo_count.1 1 = .ok (.tableswitch 72 0 4 #[35, 43, 51, 59, 64], 35) := by decide +kernel
theorem d_Bo_count_36 : decode M_Bo_count.1 36 = .ok (.aload_n 0, 1) := by decide +kernel
theorem d_Bo_count_37 : decode M_Bo_count.1 37 = .ok (.getfield 19, 3) := by decide +kernel
theorem d_Bo_count_40 : decode M_Bo_count.1 40 = .ok (.getfield 146, 3) := by decide +kernel
theorem d_Bo_count_43 : decode M_Bo_count.1 43 = .ok (.ireturn, 1) := by decide +kernel
theorem d_Bo_count_44 : decode M_Bo_count.1 44 = .ok (.aload_n 0, 1) := by decide +kernel
theorem d_Bo_count_45 : decode M_Bo_count.1 45 = .ok (.getfield 19, 3) := by decide +kernel
theorem d_Bo_count_48 : decode M_Bo_count.1 48 = .ok (.getfield 160, 3) := by decide +kernel
theorem d_Bo_count_51 : decode M_Bo_count.1 51 = .ok (.ireturn, 1) := by decide +kernel
theorem d_Bo_count_52 : decode M_Bo_count.1 52 = .ok (.aload_n 0, 1) := by decide +kernel
theorem d_Bo_count_53 : decode M_Bo_count.1 53 = .ok (.getfield 19, 3) := by decide +kernel
theorem d_Bo_count_56 : decode M_Bo_count.1 56 = .ok (.getfield 167, 3) := by decide +kernel
theorem d_Bo_count_59 : decode M_Bo_count.1 59 = .ok (.ireturn, 1) := by decide +kernel
theorem d_Bo_count_60 : decode M_Bo_count.1 60 = .ok (.aload_n 0, 1) := by decide +kernel
theorem d_Bo_count_61 : decode M_Bo_count.1 61 = .ok (.getfield 103, 3) := by decide +kernel
theorem d_Bo_count_64 : decode M_Bo_count.1 64 = .ok (.ireturn, 1) := by decide +kernel
theorem d_Bo_count_65 : decode M_Bo_count.1 65 = .ok (.aload_n 0, 1) := by decide +kernel
theorem d_Bo_count_66 : decode M_Bo_count.1 66 = .ok (.getfield 10, 3) := by decide +kernel
theorem d_Bo_count_69 : decode M_Bo_count.1 69 = .ok (.getfield 73, 3) := by decide +kernel
theorem d_Bo_count_72 : decode M_Bo_count.1 72 = .ok (.ireturn, 1) := by decide +kernel
theorem d_Bo_count_73 : decode M_Bo_count.1 73 = .ok (.ldc 68, 2) := by decide +kernel
theorem d_Bo_count_75 : decode M_Bo_count.1 75 = .ok (.ireturn, 1) := by decide +kernel
theorem d_Bo_trace_0 : decode M_Bo_trace.1 0 = .ok (.aload_n 0, 1) := by decide +kernel
theorem d_Bo_trace_1 : decode M_Bo_trace.1 1 = .ok (.getfield 247, 3) := by decide +kernel
theorem d_Bo_trace_4 : decode M_Bo_trace.1 4 = .ok (.lreturn, 1) := by decide +kernel
theorem d_Bo_within_0 : decode M_Bo_within.1 0 = .ok (.iload_n 0, 1) := by decide +kernel
theorem d_Bo_within_1 : decode M_Bo_within.1 1 = .ok (.iload_n 1, 1) := by decide +kernel
theorem d_Bo_within_2 : decode M_Bo_within.1 2 = .ok (.if_icmp .lt 12, 3) := by decide +kernel
theorem d_Bo_within_5 : decode M_Bo_within.1 5 = .ok (.iload_n 0, 1) := by decide +kernel
theorem d_Bo_within_6 : decode M_Bo_within.1 6 = .ok (.iload_n 2, 1) := by decide +kernel
theorem d_Bo_within_7 : decode M_Bo_within.1 7 = .ok (.if_icmp .gt 7, 3) := by decide +kernel
theorem d_Bo_within_10 : decode M_Bo_within.1 10 = .ok (.iconst 1, 1) := by decide +kernel
theorem d_Bo_within_11 : decode M_Bo_within.1 11 = .ok (.goto 4, 3) := by decide +kernel
theorem d_Bo_within_14 : decode M_Bo_within.1 14 = .ok (.iconst 0, 1) := by decide +kernel
theorem d_Bo_within_15 : decode M_Bo_within.1 15 = .ok (.ireturn, 1) := by decide +kernel
theorem d_Bo_divided_0 : decode M_Bo_divided.1 0 = .ok (.iload_n 1, 1) := by decide +kernel
theorem d_Bo_divided_1 : decode M_Bo_divided.1 1 = .ok (.ifCond .ne 7, 3) := by decide +kernel
theorem d_Bo_divided_4 : decode M_Bo_divided.1 4 = .ok (.iconst 0, 1) := by decide +kernel
theorem d_Bo_divided_5 : decode M_Bo_divided.1 5 = .ok (.goto 6, 3) := by decide +kernel
theorem d_Bo_divided_8 : decode M_Bo_divided.1 8 = .ok (.iload_n 0, 1) := by decide +kernel
theorem d_Bo_divided_9 : decode M_Bo_divided.1 9 = .ok (.iload_n 1, 1) := by decide +kernel
theorem d_Bo_divided_10 : decode M_Bo_divided.1 10 = .ok (.idiv, 1) := by decide +kernel
theorem d_Bo_divided_11 : decode M_Bo_divided.1 11 = .ok (.ireturn, 1) := by decide +kernel
theorem d_Bo_power_0 : decode M_Bo_power.1 0 = .ok (.lconst 1, 1) := by decide +kernel
theorem d_Bo_power_1 : decode M_Bo_power.1 1 = .ok (.lstore_n 2, 1) := by decide +kernel
theorem d_Bo_power_2 : decode M_Bo_power.1 2 = .ok (.iconst 0, 1) := by decide +kernel
theorem d_Bo_power_3 : decode M_Bo_power.1 3 = .ok (.istore 4, 2) := by decide +kernel
theorem d_Bo_power_5 : decode M_Bo_power.1 5 = .ok (.iload 4, 2) := by decide +kernel
theorem d_Bo_power_7 : decode M_Bo_power.1 7 = .ok (.iload_n 1, 1) := by decide +kernel
theorem d_Bo_power_8 : decode M_Bo_power.1 8 = .ok (.if_icmp .ge 14, 3) := by decide +kernel
theorem d_Bo_power_11 : decode M_Bo_power.1 11 = .ok (.lload_n 2, 1) := by decide +kernel
theorem d_Bo_power_12 : decode M_Bo_power.1 12 = .ok (.iload_n 0, 1) := by decide +kernel
theorem d_Bo_power_13 : decode M_Bo_power.1 13 = .ok (.i2l, 1) := by decide +kernel
theorem d_Bo_power_14 : decode M_Bo_power.1 14 = .ok (.lmul, 1) := by decide +kernel
theorem d_Bo_power_15 : decode M_Bo_power.1 15 = .ok (.lstore_n 2, 1) := by decide +kernel
theorem d_Bo_power_16 : decode M_Bo_power.1 16 = .ok (.iinc 4 1, 3) := by decide +kernel
theorem d_Bo_power_19 : decode M_Bo_power.1 19 = .ok (.goto (-14), 3) := by decide +kernel
theorem d_Bo_power_22 : decode M_Bo_power.1 22 = .ok (.lload_n 2, 1) := by decide +kernel
theorem d_Bo_power_23 : decode M_Bo_power.1 23 = .ok (.lreturn, 1) := by decide +kernel
theorem d_Bo_commonDivisor_0 : decode M_Bo_commonDivisor.1 0 = .ok (.iconst 0, 1) := by decide +kernel
theorem d_Bo_commonDivisor_1 : decode M_Bo_commonDivisor.1 1 = .ok (.istore 4, 2) := by decide +kernel
theorem d_Bo_commonDivisor_3 : decode M_Bo_commonDivisor.1 3 = .ok (.iload 4, 2) := by decide +kernel
theorem d_Bo_commonDivisor_5 : decode M_Bo_commonDivisor.1 5 = .ok (.bipush 64, 2) := by decide +kernel
theorem d_Bo_commonDivisor_7 : decode M_Bo_commonDivisor.1 7 = .ok (.if_icmp .ge 25, 3) := by decide +kernel
theorem d_Bo_commonDivisor_10 : decode M_Bo_commonDivisor.1 10 = .ok (.lload_n 2, 1) := by decide +kernel
theorem d_Bo_commonDivisor_11 : decode M_Bo_commonDivisor.1 11 = .ok (.lconst 0, 1) := by decide +kernel
theorem d_Bo_commonDivisor_12 : decode M_Bo_commonDivisor.1 12 = .ok (.lcmp, 1) := by decide +kernel
theorem d_Bo_commonDivisor_13 : decode M_Bo_commonDivisor.1 13 = .ok (.ifCond .eq 19, 3) := by decide +kernel
theorem d_Bo_commonDivisor_16 : decode M_Bo_commonDivisor.1 16 = .ok (.lload_n 0, 1) := by decide +kernel
theorem d_Bo_commonDivisor_17 : decode M_Bo_commonDivisor.1 17 = .ok (.lload_n 2, 1) := by decide +kernel
theorem d_Bo_commonDivisor_18 : decode M_Bo_commonDivisor.1 18 = .ok (.lrem, 1) := by decide +kernel
theorem d_Bo_commonDivisor_19 : decode M_Bo_commonDivisor.1 19 = .ok (.lstore 5, 2) := by decide +kernel
theorem d_Bo_commonDivisor_21 : decode M_Bo_commonDivisor.1 21 = .ok (.lload_n 2, 1) := by decide +kernel
theorem d_Bo_commonDivisor_22 : decode M_Bo_commonDivisor.1 22 = .ok (.lstore_n 0, 1) := by decide +kernel
theorem d_Bo_commonDivisor_23 : decode M_Bo_commonDivisor.1 23 = .ok (.lload 5, 2) := by decide +kernel
theorem d_Bo_commonDivisor_25 : decode M_Bo_commonDivisor.1 25 = .ok (.lstore_n 2, 1) := by decide +kernel
theorem d_Bo_commonDivisor_26 : decode M_Bo_commonDivisor.1 26 = .ok (.iinc 4 1, 3) := by decide +kernel
theorem d_Bo_commonDivisor_29 : decode M_Bo_commonDivisor.1 29 = .ok (.goto (-26), 3) := by decide +kernel
theorem d_Bo_commonDivisor_32 : decode M_Bo_commonDivisor.1 32 = .ok (.lload_n 0, 1) := by decide +kernel
theorem d_Bo_commonDivisor_33 : decode M_Bo_commonDivisor.1 33 = .ok (.lreturn, 1) := by decide +kernel
theorem d_Mo_init_0 : decode M_Mo_init.1 0 = .ok (.aload_n 0, 1) := by decide +kernel
theorem d_Mo_init_1 : decode M_Mo_init.1 1 = .ok (.invokespecial 1, 3) := by decide +kernel
theorem d_Mo_init_4 : decode M_Mo_init.1 4 = .ok (.aload_n 0, 1) := by decide +kernel
theorem d_Mo_init_5 : decode M_Mo_init.1 5 = .ok (.bipush 39, 2) := by decide +kernel
theorem d_Mo_init_7 : decode M_Mo_init.1 7 = .ok (.newarray .int, 2) := by decide +kernel
theorem d_Mo_init_9 : decode M_Mo_init.1 9 = .ok (.putfield 7, 3) := by decide +kernel
theorem d_Mo_init_12 : decode M_Mo_init.1 12 = .ok (.aload_n 0, 1) := by decide +kernel
theorem d_Mo_init_13 : decode M_Mo_init.1 13 = .ok (.sipush 390, 3) := by decide +kernel
theorem d_Mo_init_16 : decode M_Mo_init.1 16 = .ok (.newarray .int, 2) := by decide +kernel
theorem d_Mo_init_18 : decode M_Mo_init.1 18 = .ok (.putfield 13, 3) := by decide +kernel
theorem d_Mo_init_21 : decode M_Mo_init.1 21 = .ok (.aload_n 0, 1) := by decide +kernel
theorem d_Mo_init_22 : decode M_Mo_init.1 22 = .ok (.bipush 78, 2) := by decide +kernel
theorem d_Mo_init_24 : decode M_Mo_init.1 24 = .ok (.newarray .int, 2) := by decide +kernel
theorem d_Mo_init_26 : decode M_Mo_init.1 26 = .ok (.putfield 16, 3) := by decide +kernel
theorem d_Mo_init_29 : decode M_Mo_init.1 29 = .ok (.aload_n 0, 1) := by decide +kernel
theorem d_Mo_init_30 : decode M_Mo_init.1 30 = .ok (.iconst 2, 1) := by decide +kernel
theorem d_Mo_init_31 : decode M_Mo_init.1 31 = .ok (.newarray .boolean, 2) := by decide +kernel
theorem d_Mo_init_33 : decode M_Mo_init.1 33 = .ok (.putfield 19, 3) := by decide +kernel
theorem d_Mo_init_36 : decode M_Mo_init.1 36 = .ok (.aload_n 0, 1) := by decide +kernel
theorem d_Mo_init_37 : decode M_Mo_init.1 37 = .ok (.sipush 200, 3) := by decide +kernel
theorem d_Mo_init_40 : decode M_Mo_init.1 40 = .ok (.newarray .int, 2) := by decide +kernel
theorem d_Mo_init_42 : decode M_Mo_init.1 42 = .ok (.putfield 23, 3) := by decide +kernel
theorem d_Mo_init_45 : decode M_Mo_init.1 45 = .ok (.aload_n 0, 1) := by decide +kernel
theorem d_Mo_init_46 : decode M_Mo_init.1 46 = .ok (.bipush 18, 2) := by decide +kernel
theorem d_Mo_init_48 : decode M_Mo_init.1 48 = .ok (.newarray .int, 2) := by decide +kernel
theorem d_Mo_init_50 : decode M_Mo_init.1 50 = .ok (.putfield 26, 3) := by decide +kernel
theorem d_Mo_init_53 : decode M_Mo_init.1 53 = .ok (.aload_n 0, 1) := by decide +kernel
theorem d_Mo_init_54 : decode M_Mo_init.1 54 = .ok (.bipush 39, 2) := by decide +kernel
theorem d_Mo_init_56 : decode M_Mo_init.1 56 = .ok (.newarray .int, 2) := by decide +kernel
theorem d_Mo_init_58 : decode M_Mo_init.1 58 = .ok (.putfield 29, 3) := by decide +kernel
theorem d_Mo_init_61 : decode M_Mo_init.1 61 = .ok (.aload_n 0, 1) := by decide +kernel
theorem d_Mo_init_62 : decode M_Mo_init.1 62 = .ok (.bipush 6, 2) := by decide +kernel
theorem d_Mo_init_64 : decode M_Mo_init.1 64 = .ok (.newarray .int, 2) := by decide +kernel
theorem d_Mo_init_66 : decode M_Mo_init.1 66 = .ok (.putfield 32, 3) := by decide +kernel
theorem d_Mo_init_69 : decode M_Mo_init.1 69 = .ok (.aload_n 0, 1) := by decide +kernel
theorem d_Mo_init_70 : decode M_Mo_init.1 70 = .ok (.bipush 39, 2) := by decide +kernel
theorem d_Mo_init_72 : decode M_Mo_init.1 72 = .ok (.newarray .int, 2) := by decide +kernel
theorem d_Mo_init_74 : decode M_Mo_init.1 74 = .ok (.putfield 35, 3) := by decide +kernel
theorem d_Mo_init_77 : decode M_Mo_init.1 77 = .ok (.aload_n 0, 1) := by decide +kernel
theorem d_Mo_init_78 : decode M_Mo_init.1 78 = .ok (.bipush 6, 2) := by decide +kernel
theorem d_Mo_init_80 : decode M_Mo_init.1 80 = .ok (.newarray .int, 2) := by decide +kernel
theorem d_Mo_init_82 : decode M_Mo_init.1 82 = .ok (.putfield 38, 3) := by decide +kernel
theorem d_Mo_init_85 : decode M_Mo_init.1 85 = .ok (.aload_n 0, 1) := by decide +kernel
theorem d_Mo_init_86 : decode M_Mo_init.1 86 = .ok (.getfield 7, 3) := by decide +kernel
theorem d_Mo_init_89 : decode M_Mo_init.1 89 = .ok (.invokestatic 41, 3) := by decide +kernel
theorem d_Mo_init_92 : decode M_Mo_init.1 92 = .ok (.return_, 1) := by decide +kernel
theorem d_Mo_in_0 : decode M_Mo_in.1 0 = .ok (.lload_n 0, 1) := by decide +kernel
theorem d_Mo_in_1 : decode M_Mo_in.1 1 = .ok (.lload_n 2, 1) := by decide +kernel
theorem d_Mo_in_2 : decode M_Mo_in.1 2 = .ok (.lcmp, 1) := by decide +kernel
theorem d_Mo_in_3 : decode M_Mo_in.1 3 = .ok (.ifCond .lt 14, 3) := by decide +kernel
theorem d_Mo_in_6 : decode M_Mo_in.1 6 = .ok (.lload_n 0, 1) := by decide +kernel
theorem d_Mo_in_7 : decode M_Mo_in.1 7 = .ok (.lload 4, 2) := by decide +kernel
theorem d_Mo_in_9 : decode M_Mo_in.1 9 = .ok (.lcmp, 1) := by decide +kernel
theorem d_Mo_in_10 : decode M_Mo_in.1 10 = .ok (.ifCond .gt 7, 3) := by decide +kernel
theorem d_Mo_in_13 : decode M_Mo_in.1 13 = .ok (.iconst 1, 1) := by decide +kernel
theorem d_Mo_in_14 : decode M_Mo_in.1 14 = .ok (.goto 4, 3) := by decide +kernel
theorem d_Mo_in_17 : decode M_Mo_in.1 17 = .ok (.iconst 0, 1) := by decide +kernel
theorem d_Mo_in_18 : decode M_Mo_in.1 18 = .ok (.ireturn, 1) := by decide +kernel
theorem d_Mo_isTwo_0 : decode M_Mo_isTwo.1 0 = .ok (.iload_n 0, 1) := by decide +kernel
theorem d_Mo_isTwo_1 : decode M_Mo_isTwo.1 1 = .ok (.i2l, 1) := by decide +kernel
theorem d_Mo_isTwo_2 : decode M_Mo_isTwo.1 2 = .ok (.lconst 0, 1) := by decide +kernel
theorem d_Mo_isTwo_3 : decode M_Mo_isTwo.1 3 = .ok (.lconst 1, 1) := by decide +kernel
theorem d_Mo_isTwo_4 : decode M_Mo_isTwo.1 4 = .ok (.invokestatic 45, 3) := by decide +kernel
theorem d_Mo_isTwo_7 : decode M_Mo_isTwo.1 7 = .ok (.ireturn, 1) := by decide +kernel
theorem d_Mo_clean_0 : decode M_Mo_clean.1 0 = .ok (.iconst 0, 1) := by decide +kernel
theorem d_Mo_clean_1 : decode M_Mo_clean.1 1 = .ok (.istore_n 1, 1) := by decide +kernel
theorem d_Mo_clean_2 : decode M_Mo_clean.1 2 = .ok (.iload_n 1, 1) := by decide +kernel
theorem d_Mo_clean_3 : decode M_Mo_clean.1 3 = .ok (.bipush 39, 2) := by decide +kernel
theorem d_Mo_clean_5 : decode M_Mo_clean.1 5 = .ok (.if_icmp .ge 13, 3) := by decide +kernel
theorem d_Mo_clean_8 : decode M_Mo_clean.1 8 = .ok (.aload_n 0, 1) := by decide +kernel
theorem d_Mo_clean_9 : decode M_Mo_clean.1 9 = .ok (.iload_n 1, 1) := by decide +kernel
theorem d_Mo_clean_10 : decode M_Mo_clean.1 10 = .ok (.iconst 0, 1) := by decide +kernel
theorem d_Mo_clean_11 : decode M_Mo_clean.1 11 = .ok (.iastore, 1) := by decide +kernel
theorem d_Mo_clean_12 : decode M_Mo_clean.1 12 = .ok (.iinc 1 1, 3) := by decide +kernel
theorem d_Mo_clean_15 : decode M_Mo_clean.1 15 = .ok (.goto (-13), 3) := by decide +kernel
theorem d_Mo_clean_18 : decode M_Mo_clean.1 18 = .ok (.aload_n 0, 1) := by decide +kernel
theorem d_Mo_clean_19 : decode M_Mo_clean.1 19 = .ok (.iconst 2, 1) := by decide +kernel
theorem d_Mo_clean_20 : decode M_Mo_clean.1 20 = .ok (.iconst 4, 1) := by decide +kernel
theorem d_Mo_clean_21 : decode M_Mo_clean.1 21 = .ok (.iastore, 1) := by decide +kernel
theorem d_Mo_clean_22 : decode M_Mo_clean.1 22 = .ok (.aload_n 0, 1) := by decide +kernel
theorem d_Mo_clean_23 : decode M_Mo_clean.1 23 = .ok (.iconst 3, 1) := by decide +kernel
theorem d_Mo_clean_24 : decode M_Mo_clean.1 24 = .ok (.iconst 2, 1) := by decide +kernel
theorem d_Mo_clean_25 : decode M_Mo_clean.1 25 = .ok (.iastore, 1) := by decide +kernel
theorem d_Mo_clean_26 : decode M_Mo_clean.1 26 = .ok (.aload_n 0, 1) := by decide +kernel
theorem d_Mo_clean_27 : decode M_Mo_clean.1 27 = .ok (.bipush 36, 2) := by decide +kernel
theorem d_Mo_clean_29 : decode M_Mo_clean.1 29 = .ok (.iconst (-1), 1) := by decide +kernel
theorem d_Mo_clean_30 : decode M_Mo_clean.1 30 = .ok (.iastore, 1) := by decide +kernel
theorem d_Mo_clean_31 : decode M_Mo_clean.1 31 = .ok (.return_, 1) := by decide +kernel
theorem d_Mo_type_0 : decode M_Mo_type.1 0 = .ok (.iload_n 1, 1) := by decide +kernel
theorem d_Mo_type_1 : decode M_Mo_type.1 1 = .ok (.i2l, 1) := by decide +kernel
theorem d_Mo_type_2 : decode M_Mo_type.1 2 = .ok (.lconst 0, 1) := by decide +kernel
theorem d_Mo_type_3 : decode M_Mo_type.1 3 = .ok (.ldc2_w 49, 3) := by decide +kernel
theorem d_Mo_type_6 : decode M_Mo_type.1 6 = .ok (.invokestatic 45, 3) := by decide +kernel
theorem d_Mo_type_9 : decode M_Mo_type.1 9 = .ok (.ifCond .ne 6, 3) := by decide +kernel
theorem d_Mo_type_12 : decode M_Mo_type.1 12 = .ok (.ldc 51, 2) := by decide +kernel
theorem d_Mo_type_14 : decode M_Mo_type.1 14 = .ok (.ireturn, 1) := by decide +kernel
theorem d_Mo_type_15 : decode M_Mo_type.1 15 = .ok (.aload_n 0, 1) := by decide +kernel
theorem d_Mo_type_16 : decode M_Mo_type.1 16 = .ok (.getfield 52, 3) := by decide +kernel
theorem d_Mo_type_19 : decode M_Mo_type.1 19 = .ok (.sipush 200, 3) := by decide +kernel
theorem d_Mo_type_22 : decode M_Mo_type.1 22 = .ok (.if_icmp .ne 6, 3) := by decide +kernel
theorem d_Mo_type_25 : decode M_Mo_type.1 25 = .ok (.ldc 56, 2) := by decide +kernel
theorem d_Mo_type_27 : decode M_Mo_type.1 27 = .ok (.ireturn, 1) := by decide +kernel
theorem d_Mo_type_28 : decode M_Mo_type.1 28 = .ok (.aload_n 0, 1) := by decide +kernel
theorem d_Mo_type_29 : decode M_Mo_type.1 29 = .ok (.getfield 23, 3) := by decide +kernel
theorem d_Mo_type_32 : decode M_Mo_type.1 32 = .ok (.aload_n 0, 1) := by decide +kernel
theorem d_Mo_type_33 : decode M_Mo_type.1 33 = .ok (.getfield 52, 3) := by decide +kernel
theorem d_Mo_type_36 : decode M_Mo_type.1 36 = .ok (.iload_n 1, 1) := by decide +kernel
theorem d_Mo_type_37 : decode M_Mo_type.1 37 = .ok (.iastore, 1) := by decide +kernel
theorem d_Mo_type_38 : decode M_Mo_type.1 38 = .ok (.aload_n 0, 1) := by decide +kernel
theorem d_Mo_type_39 : decode M_Mo_type.1 39 = .ok (.dup, 1) := by decide +kernel
theorem d_Mo_type_40 : decode M_Mo_type.1 40 = .ok (.getfield 52, 3) := by decide +kernel
theorem d_Mo_type_43 : decode M_Mo_type.1 43 = .ok (.iconst 1, 1) := by decide +kernel
theorem d_Mo_type_44 : decode M_Mo_type.1 44 = .ok (.iadd, 1) := by decide +kernel
theorem d_Mo_type_45 : decode M_Mo_type.1 45 = .ok (.putfield 52, 3) := by decide +kernel
theorem d_Mo_type_48 : decode M_Mo_type.1 48 = .ok (.aload_n 0, 1) := by decide +kernel
theorem d_Mo_type_49 : decode M_Mo_type.1 49 = .ok (.getfield 52, 3) := by decide +kernel
theorem d_Mo_type_52 : decode M_Mo_type.1 52 = .ok (.ireturn, 1) := by decide +kernel
theorem d_Mo_clear_0 : decode M_Mo_clear.1 0 = .ok (.aload_n 0, 1) := by decide +kernel
theorem d_Mo_clear_1 : decode M_Mo_clear.1 1 = .ok (.getfield 52, 3) := by decide +kernel
theorem d_Mo_clear_4 : decode M_Mo_clear.1 4 = .ok (.istore_n 1, 1) := by decide +kernel
theorem d_Mo_clear_5 : decode M_Mo_clear.1 5 = .ok (.aload_n 0, 1) := by decide +kernel
theorem d_Mo_clear_6 : decode M_Mo_clear.1 6 = .ok (.iconst 0, 1) := by decide +kernel
theorem d_Mo_clear_7 : decode M_Mo_clear.1 7 = .ok (.putfield 52, 3) := by decide +kernel
theorem d_Mo_clear_10 : decode M_Mo_clear.1 10 = .ok (.iload_n 1, 1) := by decide +kernel
theorem d_Mo_clear_11 : decode M_Mo_clear.1 11 = .ok (.ireturn, 1) := by decide +kernel
theorem d_Mo_first_0 : decode M_Mo_first.1 0 = .ok (.aload_n 0, 1) := by decide +kernel
theorem d_Mo_first_1 : decode M_Mo_first.1 1 = .ok (.getfield 57, 3) := by decide +kernel
theorem d_Mo_first_4 : decode M_Mo_first.1 4 = .ok (.aload_n 0, 1) := by decide +kernel
theorem d_Mo_first_5 : decode M_Mo_first.1 5 = .ok (.getfield 52, 3) := by decide +kernel
theorem d_Mo_first_8 : decode M_Mo_first.1 8 = .ok (.if_icmp .ge 30, 3) := by decide +kernel
theorem d_Mo_first_11 : decode M_Mo_first.1 11 = .ok (.aload_n 0, 1) := by decide +kernel
theorem d_Mo_first_12 : decode M_Mo_first.1 12 = .ok (.getfield 23, 3) := by decide +kernel
theorem d_Mo_first_15 : decode M_Mo_first.1 15 = .ok (.aload_n 0, 1) := by decide +kernel
theorem d_Mo_first_16 : decode M_Mo_first.1 16 = .ok (.getfield 57, 3) := by decide +kernel
theorem d_Mo_first_19 : decode M_Mo_first.1 19 = .ok (.iaload, 1) := by decide +kernel
theorem d_Mo_first_20 : decode M_Mo_first.1 20 = .ok (.bipush 32, 2) := by decide +kernel
theorem d_Mo_first_22 : decode M_Mo_first.1 22 = .ok (.if_icmp .ne 16, 3) := by decide +kernel
theorem d_Mo_first_25 : decode M_Mo_first.1 25 = .ok (.aload_n 0, 1) := by decide +kernel
theorem d_Mo_first_26 : decode M_Mo_first.1 26 = .ok (.dup, 1) := by decide +kernel
theorem d_Mo_first_27 : decode M_Mo_first.1 27 = .ok (.getfield 57, 3) := by decide +kernel
theorem d_Mo_first_30 : decode M_Mo_first.1 30 = .ok (.iconst 1, 1) := by decide +kernel
theorem d_Mo_first_31 : decode M_Mo_first.1 31 = .ok (.iadd, 1) := by decide +kernel
theorem d_Mo_first_32 : decode M_Mo_first.1 32 = .ok (.putfield 57, 3) := by decide +kernel
theorem d_Mo_first_35 : decode M_Mo_first.1 35 = .ok (.goto (-35), 3) := by decide +kernel
theorem d_Mo_first_38 : decode M_Mo_first.1 38 = .ok (.aload_n 0, 1) := by decide +kernel
theorem d_Mo_first_39 : decode M_Mo_first.1 39 = .ok (.aload_n 0, 1) := by decide +kernel
theorem d_Mo_first_40 : decode M_Mo_first.1 40 = .ok (.getfield 57, 3) := by decide +kernel
theorem d_Mo_first_43 : decode M_Mo_first.1 43 = .ok (.putfield 60, 3) := by decide +kernel
theorem d_Mo_first_46 : decode M_Mo_first.1 46 = .ok (.aload_n 0, 1) := by decide +kernel
theorem d_Mo_first_47 : decode M_Mo_first.1 47 = .ok (.getfield 57, 3) := by decide +kernel
theorem d_Mo_first_50 : decode M_Mo_first.1 50 = .ok (.aload_n 0, 1) := by decide +kernel
theorem d_Mo_first_51 : decode M_Mo_first.1 51 = .ok (.getfield 52, 3) := by decide +kernel
theorem d_Mo_first_54 : decode M_Mo_first.1 54 = .ok (.if_icmp .ge 15, 3) := by decide +kernel
theorem d_Mo_first_57 : decode M_Mo_first.1 57 = .ok (.aload_n 0, 1) := by decide +kernel
theorem d_Mo_first_58 : decode M_Mo_first.1 58 = .ok (.getfield 23, 3) := by decide +kernel
theorem d_Mo_first_61 : decode M_Mo_first.1 61 = .ok (.aload_n 0, 1) := by decide +kernel
theorem d_Mo_first_62 : decode M_Mo_first.1 62 = .ok (.getfield 57, 3) := by decide +kernel
theorem d_Mo_first_65 : decode M_Mo_first.1 65 = .ok (.iaload, 1) := by decide +kernel
theorem d_Mo_first_66 : decode M_Mo_first.1 66 = .ok (.goto 4, 3) := by decide +kernel
theorem d_Mo_first_69 : decode M_Mo_first.1 69 = .ok (.iconst (-1), 1) := by decide +kernel
theorem d_Mo_first_70 : decode M_Mo_first.1 70 = .ok (.ireturn, 1) := by decide +kernel
theorem d_Mo_number_0 : decode M_Mo_number.1 0 = .ok (.aload_n 0, 1) := by decide +kernel
theorem d_Mo_number_1 : decode M_Mo_number.1 1 = .ok (.invokevirtual 63, 3) := by decide +kernel
theorem d_Mo_number_4 : decode M_Mo_number.1 4 = .ok (.istore 4, 2) := by decide +kernel
theorem d_Mo_number_6 : decode M_Mo_number.1 6 = .ok (.iload 4, 2) := by decide +kernel
theorem d_Mo_number_8 : decode M_Mo_number.1 8 = .ok (.i2l, 1) := by decide +kernel
theorem d_Mo_number_9 : decode M_Mo_number.1 9 = .ok (.ldc2_w 67, 3) := by decide +kernel
theorem d_Mo_number_12 : decode M_Mo_number.1 12 = .ok (.ldc2_w 69, 3) := by decide +kernel
theorem d_Mo_number_15 : decode M_Mo_number.1 15 = .ok (.invokestatic 45, 3) := by decide +kernel
theorem d_Mo_number_18 : decode M_Mo_number.1 18 = .ok (.ifCond .ne 5, 3) := by decide +kernel
theorem d_Mo_number_21 : decode M_Mo_number.1 21 = .ok (.iconst 0, 1) := by decide +kernel
theorem d_Mo_number_22 : decode M_Mo_number.1 22 = .ok (.ireturn, 1) := by decide +kernel
theorem d_Mo_number_23 : decode M_Mo_number.1 23 = .ok (.iconst 0, 1) := by decide +kernel
theorem d_Mo_number_24 : decode M_Mo_number.1 24 = .ok (.istore 5, 2) := by decide +kernel
theorem d_Mo_number_26 : decode M_Mo_number.1 26 = .ok (.aload_n 0, 1) := by decide +kernel
theorem d_Mo_number_27 : decode M_Mo_number.1 27 = .ok (.getfield 57, 3) := by decide +kernel
theorem d_Mo_number_30 : decode M_Mo_number.1 30 = .ok (.aload_n 0, 1) := by decide +kernel
theorem d_Mo_number_31 : decode M_Mo_number.1 31 = .ok (.getfield 52, 3) := by decide +kernel
theorem d_Mo_number_34 : decode M_Mo_number.1 34 = .ok (.if_icmp .ge 70, 3) := by decide +kernel
theorem d_Mo_number_37 : decode M_Mo_number.1 37 = .ok (.aload_n 0, 1) := by decide +kernel
theorem d_Mo_number_38 : decode M_Mo_number.1 38 = .ok (.getfield 23, 3) := by decide +kernel
theorem d_Mo_number_41 : decode M_Mo_number.1 41 = .ok (.aload_n 0, 1) := by decide +kernel
theorem d_Mo_number_42 : decode M_Mo_number.1 42 = .ok (.getfield 57, 3) := by decide +kernel
theorem d_Mo_number_45 : decode M_Mo_number.1 45 = .ok (.iaload, 1) := by decide +kernel
theorem d_Mo_number_46 : decode M_Mo_number.1 46 = .ok (.i2l, 1) := by decide +kernel
theorem d_Mo_number_47 : decode M_Mo_number.1 47 = .ok (.ldc2_w 67, 3) := by decide +kernel
theorem d_Mo_number_50 : decode M_Mo_number.1 50 = .ok (.ldc2_w 69, 3) := by decide +kernel
theorem d_Mo_number_53 : decode M_Mo_number.1 53 = .ok (.invokestatic 45, 3) := by decide +kernel
theorem d_Mo_number_56 : decode M_Mo_number.1 56 = .ok (.ifCond .eq 48, 3) := by decide +kernel
theorem d_Mo_number_59 : decode M_Mo_number.1 59 = .ok (.iload 5, 2) := by decide +kernel
theorem d_Mo_number_61 : decode M_Mo_number.1 61 = .ok (.bipush 99, 2) := by decide +kernel
theorem d_Mo_number_63 : decode M_Mo_number.1 63 = .ok (.if_icmp .le 8, 3) := by decide +kernel
theorem d_Mo_number_66 : decode M_Mo_number.1 66 = .ok (.iload 5, 2) := by decide +kernel
theorem d_Mo_number_68 : decode M_Mo_number.1 68 = .ok (.goto 21, 3) := by decide +kernel
theorem d_Mo_number_71 : decode M_Mo_number.1 71 = .ok (.bipush 10, 2) := by decide +kernel
theorem d_Mo_number_73 : decode M_Mo_number.1 73 = .ok (.iload 5, 2) := by decide +kernel
theorem d_Mo_number_75 : decode M_Mo_number.1 75 = .ok (.imul, 1) := by decide +kernel
theorem d_Mo_number_76 : decode M_Mo_number.1 76 = .ok (.aload_n 0, 1) := by decide +kernel
theorem d_Mo_number_77 : decode M_Mo_number.1 77 = .ok (.getfield 23, 3) := by decide +kernel
theorem d_Mo_number_80 : decode M_Mo_number.1 80 = .ok (.aload_n 0, 1) := by decide +kernel
theorem d_Mo_number_81 : decode M_Mo_number.1 81 = .ok (.getfield 57, 3) := by decide +kernel
theorem d_Mo_number_84 : decode M_Mo_number.1 84 = .ok (.iaload, 1) := by decide +kernel
theorem d_Mo_number_85 : decode M_Mo_number.1 85 = .ok (.iadd, 1) := by decide +kernel
theorem d_Mo_number_86 : decode M_Mo_number.1 86 = .ok (.bipush 48, 2) := by decide +kernel
theorem d_Mo_number_88 : decode M_Mo_number.1 88 = .ok (.isub, 1) := by decide +kernel
theorem d_Mo_number_89 : decode M_Mo_number.1 89 = .ok (.istore 5, 2) := by decide +kernel
theorem d_Mo_number_91 : decode M_Mo_number.1 91 = .ok (.aload_n 0, 1) := by decide +kernel
theorem d_Mo_number_92 : decode M_Mo_number.1 92 = .ok (.dup, 1) := by decide +kernel
theorem d_Mo_number_93 : decode M_Mo_number.1 93 = .ok (.getfield 57, 3) := by decide +kernel
theorem d_Mo_number_96 : decode M_Mo_number.1 96 = .ok (.iconst 1, 1) := by decide +kernel
theorem d_Mo_number_97 : decode M_Mo_number.1 97 = .ok (.iadd, 1) := by decide +kernel
theorem d_Mo_number_98 : decode M_Mo_number.1 98 = .ok (.putfield 57, 3) := by decide +kernel
theorem d_Mo_number_101 : decode M_Mo_number.1 101 = .ok (.goto (-75), 3) := by decide +kernel
theorem d_Mo_number_104 : decode M_Mo_number.1 104 = .ok (.iload 4, 2) := by decide +kernel
theorem d_Mo_number_106 : decode M_Mo_number.1 106 = .ok (.bipush 48, 2) := by decide +kernel
theorem d_Mo_number_108 : decode M_Mo_number.1 108 = .ok (.if_icmp .ne 16, 3) := by decide +kernel
theorem d_Mo_number_111 : decode M_Mo_number.1 111 = .ok (.aload_n 0, 1) := by decide +kernel
theorem d_Mo_number_112 : decode M_Mo_number.1 112 = .ok (.getfield 57, 3) := by decide +kernel
theorem d_Mo_number_115 : decode M_Mo_number.1 115 = .ok (.aload_n 0, 1) := by decide +kernel
theorem d_Mo_number_116 : decode M_Mo_number.1 116 = .ok (.getfield 60, 3) := by decide +kernel
theorem d_Mo_number_119 : decode M_Mo_number.1 119 = .ok (.isub, 1) := by decide +kernel
theorem d_Mo_number_120 : decode M_Mo_number.1 120 = .ok (.iconst 1, 1) := by decide +kernel
theorem d_Mo_number_121 : decode M_Mo_number.1 121 = .ok (.if_icmp .gt 16, 3) := by decide +kernel
theorem d_Mo_number_124 : decode M_Mo_number.1 124 = .ok (.iload 5, 2) := by decide +kernel
theorem d_Mo_number_126 : decode M_Mo_number.1 126 = .ok (.i2l, 1) := by decide +kernel
theorem d_Mo_number_127 : decode M_Mo_number.1 127 = .ok (.iload_n 2, 1) := by decide +kernel
theorem d_Mo_number_128 : decode M_Mo_number.1 128 = .ok (.i2l, 1) := by decide +kernel
theorem d_Mo_number_129 : decode M_Mo_number.1 129 = .ok (.iload_n 3, 1) := by decide +kernel
theorem d_Mo_number_130 : decode M_Mo_number.1 130 = .ok (.i2l, 1) := by decide +kernel
theorem d_Mo_number_131 : decode M_Mo_number.1 131 = .ok (.invokestatic 45, 3) := by decide +kernel
theorem d_Mo_number_134 : decode M_Mo_number.1 134 = .ok (.ifCond .ne 5, 3) := by decide +kernel
theorem d_Mo_number_137 : decode M_Mo_number.1 137 = .ok (.iconst 0, 1) := by decide +kernel
theorem d_Mo_number_138 : decode M_Mo_number.1 138 = .ok (.ireturn, 1) := by decide +kernel
theorem d_Mo_number_139 : decode M_Mo_number.1 139 = .ok (.aload_n 0, 1) := by decide +kernel
theorem d_Mo_number_140 : decode M_Mo_number.1 140 = .ok (.getfield 29, 3) := by decide +kernel
theorem d_Mo_number_143 : decode M_Mo_number.1 143 = .ok (.iload_n 1, 1) := by decide +kernel
theorem d_Mo_number_144 : decode M_Mo_number.1 144 = .ok (.iload 5, 2) := by decide +kernel
theorem d_Mo_number_146 : decode M_Mo_number.1 146 = .ok (.iastore, 1) := by decide +kernel
theorem d_Mo_number_147 : decode M_Mo_number.1 147 = .ok (.iconst 1, 1) := by decide +kernel
theorem d_Mo_number_148 : decode M_Mo_number.1 148 = .ok (.ireturn, 1) := by decide +kernel
theorem d_Mo_ends_0 : decode M_Mo_ends.1 0 = .ok (.aload_n 0, 1) := by decide +kernel
theorem d_Mo_ends_1 : decode M_Mo_ends.1 1 = .ok (.invokevirtual 63, 3) := by decide +kernel
theorem d_Mo_ends_4 : decode M_Mo_ends.1 4 = .ok (.bipush 59, 2) := by decide +kernel
theorem d_Mo_ends_6 : decode M_Mo_ends.1 6 = .ok (.if_icmp .eq 5, 3) := by decide +kernel
theorem d_Mo_ends_9 : decode M_Mo_ends.1 9 = .ok (.iconst 0, 1) := by decide +kernel
theorem d_Mo_ends_10 : decode M_Mo_ends.1 10 = .ok (.ireturn, 1) := by decide +kernel
theorem d_Mo_ends_11 : decode M_Mo_ends.1 11 = .ok (.aload_n 0, 1) := by decide +kernel
theorem d_Mo_ends_12 : decode M_Mo_ends.1 12 = .ok (.dup, 1) := by decide +kernel
theorem d_Mo_ends_13 : decode M_Mo_ends.1 13 = .ok (.getfield 57, 3) := by decide +kernel
theorem d_Mo_ends_16 : decode M_Mo_ends.1 16 = .ok (.iconst 1, 1) := by decide +kernel
theorem d_Mo_ends_17 : decode M_Mo_ends.1 17 = .ok (.iadd, 1) := by decide +kernel
theorem d_Mo_ends_18 : decode M_Mo_ends.1 18 = .ok (.putfield 57, 3) := by decide +kernel
theorem d_Mo_ends_21 : decode M_Mo_ends.1 21 = .ok (.iconst 1, 1) := by decide +kernel
theorem d_Mo_ends_22 : decode M_Mo_ends.1 22 = .ok (.ireturn, 1) := by decide +kernel
theorem d_Mo_takesPew_0 : decode M_Mo_takesPew.1 0 = .ok (.aload_n 0, 1) := by decide +kernel
theorem d_Mo_takesPew_1 : decode M_Mo_takesPew.1 1 = .ok (.getfield 29, 3) := by decide +kernel
theorem d_Mo_takesPew_4 : decode M_Mo_takesPew.1 4 = .ok (.iconst 0, 1) := by decide +kernel
theorem d_Mo_takesPew_5 : decode M_Mo_takesPew.1 5 = .ok (.iaload, 1) := by decide +kernel
theorem d_Mo_takesPew_6 : decode M_Mo_takesPew.1 6 = .ok (.istore_n 1, 1) := by decide +kernel
theorem d_Mo_takesPew_7 : decode M_Mo_takesPew.1 7 = .ok (.iload_n 1, 1) := by decide +kernel
theorem d_Mo_takesPew_8 : decode M_Mo_takesPew.1 8 = .ok (.bipush 6, 2) := by decide +kernel
theorem d_Mo_takesPew_10 : decode M_Mo_takesPew.1 10 = .ok (.if_icmp .ne 5, 3) := by decide +kernel
theorem d_Mo_takesPew_13 : decode M_Mo_takesPew.1 13 = .ok (.iconst 0, 1) := by decide +kernel
theorem d_Mo_takesPew_14 : decode M_Mo_takesPew.1 14 = .ok (.ireturn, 1) := by decide +kernel
theorem d_Mo_takesPew_15 : decode M_Mo_takesPew.1 15 = .ok (.aload_n 0, 1) := by decide +kernel
theorem d_Mo_takesPew_16 : decode M_Mo_takesPew.1 16 = .ok (.dup, 1) := by decide +kernel
theorem d_Mo_takesPew_17 : decode M_Mo_takesPew.1 17 = .ok (.getfield 57, 3) := by decide +kernel
theorem d_Mo_takesPew_20 : decode M_Mo_takesPew.1 20 = .ok (.iconst 1, 1) := by decide +kernel
theorem d_Mo_takesPew_21 : decode M_Mo_takesPew.1 21 = .ok (.iadd, 1) := by decide +kernel
theorem d_Mo_takesPew_22 : decode M_Mo_takesPew.1 22 = .ok (.putfield 57, 3) := by decide +kernel
theorem d_Mo_takesPew_25 : decode M_Mo_takesPew.1 25 = .ok (.aload_n 0, 1) := by decide +kernel
theorem d_Mo_takesPew_26 : decode M_Mo_takesPew.1 26 = .ok (.iconst 4, 1) := by decide +kernel
theorem d_Mo_takesPew_27 : decode M_Mo_takesPew.1 27 = .ok (.iload_n 1, 1) := by decide +kernel
theorem d_Mo_takesPew_28 : decode M_Mo_takesPew.1 28 = .ok (.iadd, 1) := by decide +kernel
theorem d_Mo_takesPew_29 : decode M_Mo_takesPew.1 29 = .ok (.iconst 0, 1) := by decide +kernel
theorem d_Mo_takesPew_30 : decode M_Mo_takesPew.1 30 = .ok (.bipush 60, 2) := by decide +kernel
theorem d_Mo_takesPew_32 : decode M_Mo_takesPew.1 32 = .ok (.invokevirtual 71, 3) := by decide +kernel
theorem d_Mo_takesPew_35 : decode M_Mo_takesPew.1 35 = .ok (.ifCond .eq 45, 3) := by decide +kernel
theorem d_Mo_takesPew_38 : decode M_Mo_takesPew.1 38 = .ok (.aload_n 0, 1) := by decide +kernel
theorem d_Mo_takesPew_39 : decode M_Mo_takesPew.1 39 = .ok (.bipush 10, 2) := by decide +kernel
theorem d_Mo_takesPew_41 : decode M_Mo_takesPew.1 41 = .ok (.iload_n 1, 1) := by decide +kernel
theorem d_Mo_takesPew_42 : decode M_Mo_takesPew.1 42 = .ok (.iadd, 1) := by decide +kernel
theorem d_Mo_takesPew_43 : decode M_Mo_takesPew.1 43 = .ok (.iconst 0, 1) := by decide +kernel
theorem d_Mo_takesPew_44 : decode M_Mo_takesPew.1 44 = .ok (.bipush 9, 2) := by decide +kernel
theorem d_Mo_takesPew_46 : decode M_Mo_takesPew.1 46 = .ok (.invokevirtual 71, 3) := by decide +kernel
theorem d_Mo_takesPew_49 : decode M_Mo_takesPew.1 49 = .ok (.ifCond .eq 31, 3) := by decide +kernel
theorem d_Mo_takesPew_52 : decode M_Mo_takesPew.1 52 = .ok (.aload_n 0, 1) := by decide +kernel
theorem d_Mo_takesPew_53 : decode M_Mo_takesPew.1 53 = .ok (.bipush 16, 2) := by decide +kernel
theorem d_Mo_takesPew_55 : decode M_Mo_takesPew.1 55 = .ok (.iload_n 1, 1) := by decide +kernel
theorem d_Mo_takesPew_56 : decode M_Mo_takesPew.1 56 = .ok (.iadd, 1) := by decide +kernel
theorem d_Mo_takesPew_57 : decode M_Mo_takesPew.1 57 = .ok (.iconst 0, 1) := by decide +kernel
theorem d_Mo_takesPew_58 : decode M_Mo_takesPew.1 58 = .ok (.bipush 9, 2) := by decide +kernel
theorem d_Mo_takesPew_60 : decode M_Mo_takesPew.1 60 = .ok (.invokevirtual 71, 3) := by decide +kernel
theorem d_Mo_takesPew_63 : decode M_Mo_takesPew.1 63 = .ok (.ifCond .eq 17, 3) := by decide +kernel
theorem d_Mo_takesPew_66 : decode M_Mo_takesPew.1 66 = .ok (.aload_n 0, 1) := by decide +kernel
theorem d_Mo_takesPew_67 : decode M_Mo_takesPew.1 67 = .ok (.bipush 22, 2) := by decide +kernel
theorem d_Mo_takesPew_69 : decode M_Mo_takesPew.1 69 = .ok (.iload_n 1, 1) := by decide +kernel
theorem d_Mo_takesPew_70 : decode M_Mo_takesPew.1 70 = .ok (.iadd, 1) := by decide +kernel
theorem d_Mo_takesPew_71 : decode M_Mo_takesPew.1 71 = .ok (.iconst 0, 1) := by decide +kernel
theorem d_Mo_takesPew_72 : decode M_Mo_takesPew.1 72 = .ok (.bipush 9, 2) := by decide +kernel
theorem d_Mo_takesPew_74 : decode M_Mo_takesPew.1 74 = .ok (.invokevirtual 71, 3) := by decide +kernel
theorem d_Mo_takesPew_77 : decode M_Mo_takesPew.1 77 = .ok (.ifCond .ne 5, 3) := by decide +kernel
theorem d_Mo_takesPew_80 : decode M_Mo_takesPew.1 80 = .ok (.iconst 0, 1) := by decide +kernel
theorem d_Mo_takesPew_81 : decode M_Mo_takesPew.1 81 = .ok (.ireturn, 1) := by decide +kernel
theorem d_Mo_takesPew_82 : decode M_Mo_takesPew.1 82 = .ok (.aload_n 0, 1) := by decide +kernel
theorem d_Mo_takesPew_83 : decode M_Mo_takesPew.1 83 = .ok (.getfield 29, 3) := by decide +kernel
theorem d_Mo_takesPew_86 : decode M_Mo_takesPew.1 86 = .ok (.iconst 0, 1) := by decide +kernel
theorem d_Mo_takesPew_87 : decode M_Mo_takesPew.1 87 = .ok (.dup2, 1) := by decide +kernel
theorem d_Mo_takesPew_88 : decode M_Mo_takesPew.1 88 = .ok (.iaload, 1) := by decide +kernel
theorem d_Mo_takesPew_89 : decode M_Mo_takesPew.1 89 = .ok (.iconst 1, 1) := by decide +kernel
theorem d_Mo_takesPew_90 : decode M_Mo_takesPew.1 90 = .ok (.iadd, 1) := by decide +kernel
theorem d_Mo_takesPew_91 : decode M_Mo_takesPew.1 91 = .ok (.iastore, 1) := by decide +kernel
theorem d_Mo_takesPew_92 : decode M_Mo_takesPew.1 92 = .ok (.aload_n 0, 1) := by decide +kernel
theorem d_Mo_takesPew_93 : decode M_Mo_takesPew.1 93 = .ok (.invokevirtual 75, 3) := by decide +kernel
theorem d_Mo_takesPew_96 : decode M_Mo_takesPew.1 96 = .ok (.ireturn, 1) := by decide +kernel
theorem d_Mo_takesOne_0 : decode M_Mo_takesOne.1 0 = .ok (.aload_n 0, 1) := by decide +kernel
theorem d_Mo_takesOne_1 : decode M_Mo_takesOne.1 1 = .ok (.getfield 79, 3) := by decide +kernel
theorem d_Mo_takesOne_4 : decode M_Mo_takesOne.1 4 = .ok (.iload_n 1, 1) := by decide +kernel
theorem d_Mo_takesOne_5 : decode M_Mo_takesOne.1 5 = .ok (.ishr, 1) := by decide +kernel
theorem d_Mo_takesOne_6 : decode M_Mo_takesOne.1 6 = .ok (.iconst 1, 1) := by decide +kernel
theorem d_Mo_takesOne_7 : decode M_Mo_takesOne.1 7 = .ok (.iand, 1) := by decide +kernel
theorem d_Mo_takesOne_8 : decode M_Mo_takesOne.1 8 = .ok (.iconst 1, 1) := by decide +kernel
theorem d_Mo_takesOne_9 : decode M_Mo_takesOne.1 9 = .ok (.if_icmp .ne 5, 3) := by decide +kernel
theorem d_Mo_takesOne_12 : decode M_Mo_takesOne.1 12 = .ok (.iconst 0, 1) := by decide +kernel
theorem d_Mo_takesOne_13 : decode M_Mo_takesOne.1 13 = .ok (.ireturn, 1) := by decide +kernel
theorem d_Mo_takesOne_14 : decode M_Mo_takesOne.1 14 = .ok (.aload_n 0, 1) := by decide +kernel
theorem d_Mo_takesOne_15 : decode M_Mo_takesOne.1 15 = .ok (.dup, 1) := by decide +kernel
theorem d_Mo_takesOne_16 : decode M_Mo_takesOne.1 16 = .ok (.getfield 57, 3) := by decide +kernel
theorem d_Mo_takesOne_19 : decode M_Mo_takesOne.1 19 = .ok (.iconst 1, 1) := by decide +kernel
theorem d_Mo_takesOne_20 : decode M_Mo_takesOne.1 20 = .ok (.iadd, 1) := by decide +kernel
theorem d_Mo_takesOne_21 : decode M_Mo_takesOne.1 21 = .ok (.putfield 57, 3) := by decide +kernel
theorem d_Mo_takesOne_24 : decode M_Mo_takesOne.1 24 = .ok (.aload_n 0, 1) := by decide +kernel
theorem d_Mo_takesOne_25 : decode M_Mo_takesOne.1 25 = .ok (.dup, 1) := by decide +kernel
theorem d_Mo_takesOne_26 : decode M_Mo_takesOne.1 26 = .ok (.getfield 79, 3) := by decide +kernel
theorem d_Mo_takesOne_29 : decode M_Mo_takesOne.1 29 = .ok (.iconst 1, 1) := by decide +kernel
theorem d_Mo_takesOne_30 : decode M_Mo_takesOne.1 30 = .ok (.iload_n 1, 1) := by decide +kernel
theorem d_Mo_takesOne_31 : decode M_Mo_takesOne.1 31 = .ok (.ishl, 1) := by decide +kernel
theorem d_Mo_takesOne_32 : decode M_Mo_takesOne.1 32 = .ok (.ior, 1) := by decide +kernel
theorem d_Mo_takesOne_33 : decode M_Mo_takesOne.1 33 = .ok (.putfield 79, 3) := by decide +kernel
theorem d_Mo_takesOne_36 : decode M_Mo_takesOne.1 36 = .ok (.aload_n 0, 1) := by decide +kernel
theorem d_Mo_takesOne_37 : decode M_Mo_takesOne.1 37 = .ok (.iload_n 1, 1) := by decide +kernel
theorem d_Mo_takesOne_38 : decode M_Mo_takesOne.1 38 = .ok (.iload_n 2, 1) := by decide +kernel
theorem d_Mo_takesOne_39 : decode M_Mo_takesOne.1 39 = .ok (.iload_n 3, 1) := by decide +kernel
theorem d_Mo_takesOne_40 : decode M_Mo_takesOne.1 40 = .ok (.invokevirtual 71, 3) := by decide +kernel
theorem d_Mo_takesOne_43 : decode M_Mo_takesOne.1 43 = .ok (.ifCond .eq 14, 3) := by decide +kernel
theorem d_Mo_takesOne_46 : decode M_Mo_takesOne.1 46 = .ok (.aload_n 0, 1) := by decide +kernel
theorem d_Mo_takesOne_47 : decode M_Mo_takesOne.1 47 = .ok (.invokevirtual 75, 3) := by decide +kernel
theorem d_Mo_takesOne_50 : decode M_Mo_takesOne.1 50 = .ok (.ifCond .eq 7, 3) := by decide +kernel
theorem d_Mo_takesOne_53 : decode M_Mo_takesOne.1 53 = .ok (.iconst 1, 1) := by decide +kernel
theorem d_Mo_takesOne_54 : decode M_Mo_takesOne.1 54 = .ok (.goto 4, 3) := by decide +kernel
theorem d_Mo_takesOne_57 : decode M_Mo_takesOne.1 57 = .ok (.iconst 0, 1) := by decide +kernel
theorem d_Mo_takesOne_58 : decode M_Mo_takesOne.1 58 = .ok (.ireturn, 1) := by decide +kernel
theorem d_Mo_takesItem_0 : decode M_Mo_takesItem.1 0 = .ok (.iload_n 1, 1) := by decide +kernel
theorem d_Mo_takesItem_1 : decode M_Mo_takesItem.1 1 = .ok (.lookupswitch 75 #[(103, 66), (108, 57), (112, 43), (119, 48)], 43) := by decide +kernel
theorem d_Mo_takesItem_44 : decode M_Mo_takesItem.1 44 = .ok (.aload_n 0, 1) := by decide +kernel
theorem d_Mo_takesItem_45 : decode M_Mo_takesItem.1 45 = .ok (.invokevirtual 82, 3) := by decide +kernel
theorem d_Mo_takesItem_48 : decode M_Mo_takesItem.1 48 = .ok (.ireturn, 1) := by decide +kernel
theorem d_Mo_takesItem_49 : decode M_Mo_takesItem.1 49 = .ok (.aload_n 0, 1) := by decide +kernel
theorem d_Mo_takesItem_50 : decode M_Mo_takesItem.1 50 = .ok (.iconst 1, 1) := by decide +kernel
theorem d_Mo_takesItem_51 : decode M_Mo_takesItem.1 51 = .ok (.iconst 0, 1) := by decide +kernel
theorem d_Mo_takesItem_52 : decode M_Mo_takesItem.1 52 = .ok (.bipush 10, 2) := by decide +kernel
theorem d_Mo_takesItem_54 : decode M_Mo_takesItem.1 54 = .ok (.invokevirtual 85, 3) := by decide +kernel
theorem d_Mo_takesItem_57 : decode M_Mo_takesItem.1 57 = .ok (.ireturn, 1) := by decide +kernel
theorem d_Mo_takesItem_58 : decode M_Mo_takesItem.1 58 = .ok (.aload_n 0, 1) := by decide +kernel
theorem d_Mo_takesItem_59 : decode M_Mo_takesItem.1 59 = .ok (.iconst 2, 1) := by decide +kernel
theorem d_Mo_takesItem_60 : decode M_Mo_takesItem.1 60 = .ok (.iconst 1, 1) := by decide +kernel
theorem d_Mo_takesItem_61 : decode M_Mo_takesItem.1 61 = .ok (.bipush 9, 2) := by decide +kernel
theorem d_Mo_takesItem_63 : decode M_Mo_takesItem.1 63 = .ok (.invokevirtual 85, 3) := by decide +kernel
theorem d_Mo_takesItem_66 : decode M_Mo_takesItem.1 66 = .ok (.ireturn, 1) := by decide +kernel
theorem d_Mo_takesItem_67 : decode M_Mo_takesItem.1 67 = .ok (.aload_n 0, 1) := by decide +kernel
theorem d_Mo_takesItem_68 : decode M_Mo_takesItem.1 68 = .ok (.iconst 3, 1) := by decide +kernel
theorem d_Mo_takesItem_69 : decode M_Mo_takesItem.1 69 = .ok (.iconst 0, 1) := by decide +kernel
theorem d_Mo_takesItem_70 : decode M_Mo_takesItem.1 70 = .ok (.bipush 9, 2) := by decide +kernel
theorem d_Mo_takesItem_72 : decode M_Mo_takesItem.1 72 = .ok (.invokevirtual 85, 3) := by decide +kernel
theorem d_Mo_takesItem_75 : decode M_Mo_takesItem.1 75 = .ok (.ireturn, 1) := by decide +kernel
theorem d_Mo_takesItem_76 : decode M_Mo_takesItem.1 76 = .ok (.iconst 0, 1) := by decide +kernel
theorem d_Mo_takesItem_77 : decode M_Mo_takesItem.1 77 = .ok (.ireturn, 1) := by decide +kernel
theorem d_Mo_church_0 : decode M_Mo_church.1 0 = .ok (.aload_n 0, 1) := by decide +kernel
theorem d_Mo_church_1 : decode M_Mo_church.1 1 = .ok (.getfield 29, 3) := by decide +kernel
theorem d_Mo_church_4 : decode M_Mo_church.1 4 = .ok (.invokestatic 41, 3) := by decide +kernel
theorem d_Mo_church_7 : decode M_Mo_church.1 7 = .ok (.aload_n 0, 1) := by decide +kernel
theorem d_Mo_church_8 : decode M_Mo_church.1 8 = .ok (.iconst 0, 1) := by decide +kernel
theorem d_Mo_church_9 : decode M_Mo_church.1 9 = .ok (.putfield 57, 3) := by decide +kernel
theorem d_Mo_church_12 : decode M_Mo_church.1 12 = .ok (.aload_n 0, 1) := by decide +kernel
theorem d_Mo_church_13 : decode M_Mo_church.1 13 = .ok (.iconst 0, 1) := by decide +kernel
theorem d_Mo_church_14 : decode M_Mo_church.1 14 = .ok (.putfield 79, 3) := by decide +kernel
theorem d_Mo_church_17 : decode M_Mo_church.1 17 = .ok (.iconst 0, 1) := by decide +kernel
theorem d_Mo_church_18 : decode M_Mo_church.1 18 = .ok (.istore_n 1, 1) := by decide +kernel
theorem d_Mo_church_19 : decode M_Mo_church.1 19 = .ok (.aload_n 0, 1) := by decide +kernel
theorem d_Mo_church_20 : decode M_Mo_church.1 20 = .ok (.invokevirtual 63, 3) := by decide +kernel
theorem d_Mo_church_23 : decode M_Mo_church.1 23 = .ok (.istore_n 2, 1) := by decide +kernel
theorem d_Mo_church_24 : decode M_Mo_church.1 24 = .ok (.iload_n 2, 1) := by decide +kernel
theorem d_Mo_church_25 : decode M_Mo_church.1 25 = .ok (.ifCond .lt 30, 3) := by decide +kernel
theorem d_Mo_church_28 : decode M_Mo_church.1 28 = .ok (.aload_n 0, 1) := by decide +kernel
theorem d_Mo_church_29 : decode M_Mo_church.1 29 = .ok (.iload_n 2, 1) := by decide +kernel
theorem d_Mo_church_30 : decode M_Mo_church.1 30 = .ok (.invokevirtual 88, 3) := by decide +kernel
theorem d_Mo_church_33 : decode M_Mo_church.1 33 = .ok (.ifCond .ne 11, 3) := by decide +kernel
theorem d_Mo_church_36 : decode M_Mo_church.1 36 = .ok (.bipush (-10), 2) := by decide +kernel
theorem d_Mo_church_38 : decode M_Mo_church.1 38 = .ok (.aload_n 0, 1) := by decide +kernel
theorem d_Mo_church_39 : decode M_Mo_church.1 39 = .ok (.getfield 60, 3) := by decide +kernel
theorem d_Mo_church_42 : decode M_Mo_church.1 42 = .ok (.isub, 1) := by decide +kernel
theorem d_Mo_church_43 : decode M_Mo_church.1 43 = .ok (.ireturn, 1) := by decide +kernel
theorem d_Mo_church_44 : decode M_Mo_church.1 44 = .ok (.iinc 1 1, 3) := by decide +kernel
theorem d_Mo_church_47 : decode M_Mo_church.1 47 = .ok (.aload_n 0, 1) := by decide +kernel
theorem d_Mo_church_48 : decode M_Mo_church.1 48 = .ok (.invokevirtual 63, 3) := by decide +kernel
theorem d_Mo_church_51 : decode M_Mo_church.1 51 = .ok (.istore_n 2, 1) := by decide +kernel
theorem d_Mo_church_52 : decode M_Mo_church.1 52 = .ok (.goto (-28), 3) := by decide +kernel
theorem d_Mo_church_55 : decode M_Mo_church.1 55 = .ok (.aload_n 0, 1) := by decide +kernel
theorem d_Mo_church_56 : decode M_Mo_church.1 56 = .ok (.getfield 29, 3) := by decide +kernel
theorem d_Mo_church_59 : decode M_Mo_church.1 59 = .ok (.iconst 0, 1) := by decide +kernel
theorem d_Mo_church_60 : decode M_Mo_church.1 60 = .ok (.aload_n 0, 1) := by decide +kernel
theorem d_Mo_church_61 : decode M_Mo_church.1 61 = .ok (.getfield 7, 3) := by decide +kernel
theorem d_Mo_church_64 : decode M_Mo_church.1 64 = .ok (.iconst 0, 1) := by decide +kernel
theorem d_Mo_church_65 : decode M_Mo_church.1 65 = .ok (.invokestatic 92, 3) := by decide +kernel
theorem d_Mo_church_68 : decode M_Mo_church.1 68 = .ok (.aload_n 0, 1) := by decide +kernel
theorem d_Mo_church_69 : decode M_Mo_church.1 69 = .ok (.iconst 0, 1) := by decide +kernel
theorem d_Mo_church_70 : decode M_Mo_church.1 70 = .ok (.putfield 52, 3) := by decide +kernel
theorem d_Mo_church_73 : decode M_Mo_church.1 73 = .ok (.aload_n 0, 1) := by decide +kernel
theorem d_Mo_church_74 : decode M_Mo_church.1 74 = .ok (.iconst 0, 1) := by decide +kernel
theorem d_Mo_church_75 : decode M_Mo_church.1 75 = .ok (.putfield 96, 3) := by decide +kernel
theorem d_Mo_church_78 : decode M_Mo_church.1 78 = .ok (.aload_n 0, 1) := by decide +kernel
theorem d_Mo_church_79 : decode M_Mo_church.1 79 = .ok (.iconst 0, 1) := by decide +kernel
theorem d_Mo_church_80 : decode M_Mo_church.1 80 = .ok (.putfield 99, 3) := by decide +kernel
theorem d_Mo_church_83 : decode M_Mo_church.1 83 = .ok (.aload_n 0, 1) := by decide +kernel
theorem d_Mo_church_84 : decode M_Mo_church.1 84 = .ok (.getfield 19, 3) := by decide +kernel
theorem d_Mo_church_87 : decode M_Mo_church.1 87 = .ok (.iconst 0, 1) := by decide +kernel
theorem d_Mo_church_88 : decode M_Mo_church.1 88 = .ok (.iconst 0, 1) := by decide +kernel
theorem d_Mo_church_89 : decode M_Mo_church.1 89 = .ok (.bastore, 1) := by decide +kernel
theorem d_Mo_church_90 : decode M_Mo_church.1 90 = .ok (.aload_n 0, 1) := by decide +kernel
theorem d_Mo_church_91 : decode M_Mo_church.1 91 = .ok (.getfield 19, 3) := by decide +kernel
theorem d_Mo_church_94 : decode M_Mo_church.1 94 = .ok (.iconst 1, 1) := by decide +kernel
theorem d_Mo_church_95 : decode M_Mo_church.1 95 = .ok (.iconst 0, 1) := by decide +kernel
theorem d_Mo_church_96 : decode M_Mo_church.1 96 = .ok (.bastore, 1) := by decide +kernel
theorem d_Mo_church_97 : decode M_Mo_church.1 97 = .ok (.iload_n 1, 1) := by decide +kernel
theorem d_Mo_church_98 : decode M_Mo_church.1 98 = .ok (.ireturn, 1) := by decide +kernel
theorem d_Mo_copies_0 : decode M_Mo_copies.1 0 = .ok (.iconst 0, 1) := by decide +kernel
theorem d_Mo_copies_1 : decode M_Mo_copies.1 1 = .ok (.istore 4, 2) := by decide +kernel
theorem d_Mo_copies_3 : decode M_Mo_copies.1 3 = .ok (.iload 4, 2) := by decide +kernel
theorem d_Mo_copies_5 : decode M_Mo_copies.1 5 = .ok (.bipush 39, 2) := by decide +kernel
theorem d_Mo_copies_7 : decode M_Mo_copies.1 7 = .ok (.if_icmp .ge 21, 3) := by decide +kernel
theorem d_Mo_copies_10 : decode M_Mo_copies.1 10 = .ok (.aload_n 2, 1) := by decide +kernel
theorem d_Mo_copies_11 : decode M_Mo_copies.1 11 = .ok (.iload_n 3, 1) := by decide +kernel
theorem d_Mo_copies_12 : decode M_Mo_copies.1 12 = .ok (.iload 4, 2) := by decide +kernel
theorem d_Mo_copies_14 : decode M_Mo_copies.1 14 = .ok (.iadd, 1) := by decide +kernel
theorem d_Mo_copies_15 : decode M_Mo_copies.1 15 = .ok (.aload_n 0, 1) := by decide +kernel
theorem d_Mo_copies_16 : decode M_Mo_copies.1 16 = .ok (.iload_n 1, 1) := by decide +kernel
theorem d_Mo_copies_17 : decode M_Mo_copies.1 17 = .ok (.iload 4, 2) := by decide +kernel
theorem d_Mo_copies_19 : decode M_Mo_copies.1 19 = .ok (.iadd, 1) := by decide +kernel
theorem d_Mo_copies_20 : decode M_Mo_copies.1 20 = .ok (.iaload, 1) := by decide +kernel
theorem d_Mo_copies_21 : decode M_Mo_copies.1 21 = .ok (.iastore, 1) := by decide +kernel
theorem d_Mo_copies_22 : decode M_Mo_copies.1 22 = .ok (.iinc 4 1, 3) := by decide +kernel
theorem d_Mo_copies_25 : decode M_Mo_copies.1 25 = .ok (.goto (-22), 3) := by decide +kernel
theorem d_Mo_copies_28 : decode M_Mo_copies.1 28 = .ok (.return_, 1) := by decide +kernel
theorem d_Mo_isPew_0 : decode M_Mo_isPew.1 0 = .ok (.iload_n 1, 1) := by decide +kernel
theorem d_Mo_isPew_1 : decode M_Mo_isPew.1 1 = .ok (.i2l, 1) := by decide +kernel
theorem d_Mo_isPew_2 : decode M_Mo_isPew.1 2 = .ok (.lconst 0, 1) := by decide +kernel
theorem d_Mo_isPew_3 : decode M_Mo_isPew.1 3 = .ok (.aload_n 0, 1) := by decide +kernel
theorem d_Mo_isPew_4 : decode M_Mo_isPew.1 4 = .ok (.getfield 7, 3) := by decide +kernel
theorem d_Mo_isPew_7 : decode M_Mo_isPew.1 7 = .ok (.iconst 0, 1) := by decide +kernel
theorem d_Mo_isPew_8 : decode M_Mo_isPew.1 8 = .ok (.iaload, 1) := by decide +kernel
theorem d_Mo_isPew_9 : decode M_Mo_isPew.1 9 = .ok (.iconst 1, 1) := by decide +kernel
theorem d_Mo_isPew_10 : decode M_Mo_isPew.1 10 = .ok (.isub, 1) := by decide +kernel
theorem d_Mo_isPew_11 : decode M_Mo_isPew.1 11 = .ok (.i2l, 1) := by decide +kernel
theorem d_Mo_isPew_12 : decode M_Mo_isPew.1 12 = .ok (.invokestatic 45, 3) := by decide +kernel
theorem d_Mo_isPew_15 : decode M_Mo_isPew.1 15 = .ok (.ireturn, 1) := by decide +kernel
theorem d_Mo_pew_0 : decode M_Mo_pew.1 0 = .ok (.aload_n 0, 1) := by decide +kernel
theorem d_Mo_pew_1 : decode M_Mo_pew.1 1 = .ok (.iload_n 1, 1) := by decide +kernel
theorem d_Mo_pew_2 : decode M_Mo_pew.1 2 = .ok (.invokevirtual 102, 3) := by decide +kernel
theorem d_Mo_pew_5 : decode M_Mo_pew.1 5 = .ok (.ifCond .eq 15, 3) := by decide +kernel
theorem d_Mo_pew_8 : decode M_Mo_pew.1 8 = .ok (.iload_n 2, 1) := by decide +kernel
theorem d_Mo_pew_9 : decode M_Mo_pew.1 9 = .ok (.i2l, 1) := by decide +kernel
theorem d_Mo_pew_10 : decode M_Mo_pew.1 10 = .ok (.lconst 0, 1) := by decide +kernel
theorem d_Mo_pew_11 : decode M_Mo_pew.1 11 = .ok (.ldc2_w 105, 3) := by decide +kernel
theorem d_Mo_pew_14 : decode M_Mo_pew.1 14 = .ok (.invokestatic 45, 3) := by decide +kernel
theorem d_Mo_pew_17 : decode M_Mo_pew.1 17 = .ok (.ifCond .ne 6, 3) := by decide +kernel
theorem d_Mo_pew_20 : decode M_Mo_pew.1 20 = .ok (.ldc 51, 2) := by decide +kernel
theorem d_Mo_pew_22 : decode M_Mo_pew.1 22 = .ok (.ireturn, 1) := by decide +kernel
theorem d_Mo_pew_23 : decode M_Mo_pew.1 23 = .ok (.iload_n 2, 1) := by decide +kernel
theorem d_Mo_pew_24 : decode M_Mo_pew.1 24 = .ok (.iconst 5, 1) := by decide +kernel
theorem d_Mo_pew_25 : decode M_Mo_pew.1 25 = .ok (.if_icmp .ge 19, 3) := by decide +kernel
theorem d_Mo_pew_28 : decode M_Mo_pew.1 28 = .ok (.aload_n 0, 1) := by decide +kernel
theorem d_Mo_pew_29 : decode M_Mo_pew.1 29 = .ok (.getfield 7, 3) := by decide +kernel
theorem d_Mo_pew_32 : decode M_Mo_pew.1 32 = .ok (.iconst 4, 1) := by decide +kernel
theorem d_Mo_pew_33 : decode M_Mo_pew.1 33 = .ok (.bipush 6, 2) := by decide +kernel
theorem d_Mo_pew_35 : decode M_Mo_pew.1 35 = .ok (.iload_n 2, 1) := by decide +kernel
theorem d_Mo_pew_36 : decode M_Mo_pew.1 36 = .ok (.imul, 1) := by decide +kernel
theorem d_Mo_pew_37 : decode M_Mo_pew.1 37 = .ok (.iadd, 1) := by decide +kernel
theorem d_Mo_pew_38 : decode M_Mo_pew.1 38 = .ok (.iload_n 1, 1) := by decide +kernel
theorem d_Mo_pew_39 : decode M_Mo_pew.1 39 = .ok (.iadd, 1) := by decide +kernel
theorem d_Mo_pew_40 : decode M_Mo_pew.1 40 = .ok (.iaload, 1) := by decide +kernel
theorem d_Mo_pew_41 : decode M_Mo_pew.1 41 = .ok (.goto 33, 3) := by decide +kernel
theorem d_Mo_pew_44 : decode M_Mo_pew.1 44 = .ok (.iload_n 2, 1) := by decide +kernel
theorem d_Mo_pew_45 : decode M_Mo_pew.1 45 = .ok (.iconst 5, 1) := by decide +kernel
theorem d_Mo_pew_46 : decode M_Mo_pew.1 46 = .ok (.if_icmp .ne 17, 3) := by decide +kernel
theorem d_Mo_pew_49 : decode M_Mo_pew.1 49 = .ok (.aload_n 0, 1) := by decide +kernel
theorem d_Mo_pew_50 : decode M_Mo_pew.1 50 = .ok (.getfield 7, 3) := by decide +kernel
theorem d_Mo_pew_53 : decode M_Mo_pew.1 53 = .ok (.iconst 4, 1) := by decide +kernel
theorem d_Mo_pew_54 : decode M_Mo_pew.1 54 = .ok (.iload_n 1, 1) := by decide +kernel
theorem d_Mo_pew_55 : decode M_Mo_pew.1 55 = .ok (.iadd, 1) := by decide +kernel
theorem d_Mo_pew_56 : decode M_Mo_pew.1 56 = .ok (.iaload, 1) := by decide +kernel
theorem d_Mo_pew_57 : decode M_Mo_pew.1 57 = .ok (.bipush 6, 2) := by decide +kernel
theorem d_Mo_pew_59 : decode M_Mo_pew.1 59 = .ok (.idiv, 1) := by decide +kernel
theorem d_Mo_pew_60 : decode M_Mo_pew.1 60 = .ok (.goto 14, 3) := by decide +kernel
theorem d_Mo_pew_63 : decode M_Mo_pew.1 63 = .ok (.aload_n 0, 1) := by decide +kernel
theorem d_Mo_pew_64 : decode M_Mo_pew.1 64 = .ok (.getfield 7, 3) := by decide +kernel
theorem d_Mo_pew_67 : decode M_Mo_pew.1 67 = .ok (.bipush 37, 2) := by decide +kernel
theorem d_Mo_pew_69 : decode M_Mo_pew.1 69 = .ok (.iaload, 1) := by decide +kernel
theorem d_Mo_pew_70 : decode M_Mo_pew.1 70 = .ok (.iload_n 1, 1) := by decide +kernel
theorem d_Mo_pew_71 : decode M_Mo_pew.1 71 = .ok (.ishr, 1) := by decide +kernel
theorem d_Mo_pew_72 : decode M_Mo_pew.1 72 = .ok (.iconst 1, 1) := by decide +kernel
theorem d_Mo_pew_73 : decode M_Mo_pew.1 73 = .ok (.iand, 1) := by decide +kernel
theorem d_Mo_pew_74 : decode M_Mo_pew.1 74 = .ok (.ireturn, 1) := by decide +kernel
theorem d_Mo_apart_0 : decode M_Mo_apart.1 0 = .ok (.iconst 0, 1) := by decide +kernel
theorem d_Mo_apart_1 : decode M_Mo_apart.1 1 = .ok (.istore_n 1, 1) := by decide +kernel
theorem d_Mo_apart_2 : decode M_Mo_apart.1 2 = .ok (.iconst 0, 1) := by decide +kernel
theorem d_Mo_apart_3 : decode M_Mo_apart.1 3 = .ok (.istore_n 2, 1) := by decide +kernel
theorem d_Mo_apart_4 : decode M_Mo_apart.1 4 = .ok (.iconst 0, 1) := by decide +kernel
theorem d_Mo_apart_5 : decode M_Mo_apart.1 5 = .ok (.istore_n 3, 1) := by decide +kernel
theorem d_Mo_apart_6 : decode M_Mo_apart.1 6 = .ok (.iload_n 3, 1) := by decide +kernel
theorem d_Mo_apart_7 : decode M_Mo_apart.1 7 = .ok (.aload_n 0, 1) := by decide +kernel
theorem d_Mo_apart_8 : decode M_Mo_apart.1 8 = .ok (.iconst 0, 1) := by decide +kernel
theorem d_Mo_apart_9 : decode M_Mo_apart.1 9 = .ok (.iaload, 1) := by decide +kernel
theorem d_Mo_apart_10 : decode M_Mo_apart.1 10 = .ok (.if_icmp .ge 51, 3) := by decide +kernel
theorem d_Mo_apart_13 : decode M_Mo_apart.1 13 = .ok (.aload_n 0, 1) := by decide +kernel
theorem d_Mo_apart_14 : decode M_Mo_apart.1 14 = .ok (.bipush 28, 2) := by decide +kernel
theorem d_Mo_apart_16 : decode M_Mo_apart.1 16 = .ok (.iload_n 3, 1) := by decide +kernel
theorem d_Mo_apart_17 : decode M_Mo_apart.1 17 = .ok (.iadd, 1) := by decide +kernel
theorem d_Mo_apart_18 : decode M_Mo_apart.1 18 = .ok (.iaload, 1) := by decide +kernel
theorem d_Mo_apart_19 : decode M_Mo_apart.1 19 = .ok (.istore 4, 2) := by decide +kernel
theorem d_Mo_apart_21 : decode M_Mo_apart.1 21 = .ok (.iload_n 3, 1) := by decide +kernel
theorem d_Mo_apart_22 : decode M_Mo_apart.1 22 = .ok (.ifCond .eq 9, 3) := by decide +kernel
theorem d_Mo_apart_25 : decode M_Mo_apart.1 25 = .ok (.iload 4, 2) := by decide +kernel
theorem d_Mo_apart_27 : decode M_Mo_apart.1 27 = .ok (.iload_n 1, 1) := by decide +kernel
theorem d_Mo_apart_28 : decode M_Mo_apart.1 28 = .ok (.if_icmp .le 8, 3) := by decide +kernel
theorem d_Mo_apart_31 : decode M_Mo_apart.1 31 = .ok (.iload 4, 2) := by decide +kernel
theorem d_Mo_apart_33 : decode M_Mo_apart.1 33 = .ok (.goto 4, 3) := by decide +kernel
theorem d_Mo_apart_36 : decode M_Mo_apart.1 36 = .ok (.iload_n 1, 1) := by decide +kernel
theorem d_Mo_apart_37 : decode M_Mo_apart.1 37 = .ok (.istore_n 1, 1) := by decide +kernel
theorem d_Mo_apart_38 : decode M_Mo_apart.1 38 = .ok (.iload_n 3, 1) := by decide +kernel
theorem d_Mo_apart_39 : decode M_Mo_apart.1 39 = .ok (.ifCond .eq 9, 3) := by decide +kernel
theorem d_Mo_apart_42 : decode M_Mo_apart.1 42 = .ok (.iload 4, 2) := by decide +kernel
theorem d_Mo_apart_44 : decode M_Mo_apart.1 44 = .ok (.iload_n 2, 1) := by decide +kernel
theorem d_Mo_apart_45 : decode M_Mo_apart.1 45 = .ok (.if_icmp .ge 8, 3) := by decide +kernel
theorem d_Mo_apart_48 : decode M_Mo_apart.1 48 = .ok (.iload 4, 2) := by decide +kernel
theorem d_Mo_apart_50 : decode M_Mo_apart.1 50 = .ok (.goto 4, 3) := by decide +kernel
theorem d_Mo_apart_53 : decode M_Mo_apart.1 53 = .ok (.iload_n 2, 1) := by decide +kernel
theorem d_Mo_apart_54 : decode M_Mo_apart.1 54 = .ok (.istore_n 2, 1) := by decide +kernel
theorem d_Mo_apart_55 : decode M_Mo_apart.1 55 = .ok (.iinc 3 1, 3) := by decide +kernel
theorem d_Mo_apart_58 : decode M_Mo_apart.1 58 = .ok (.goto (-52), 3) := by decide +kernel
theorem d_Mo_apart_61 : decode M_Mo_apart.1 61 = .ok (.iload_n 1, 1) := by decide +kernel
theorem d_Mo_apart_62 : decode M_Mo_apart.1 62 = .ok (.iload_n 2, 1) := by decide +kernel
theorem d_Mo_apart_63 : decode M_Mo_apart.1 63 = .ok (.isub, 1) := by decide +kernel
theorem d_Mo_apart_64 : decode M_Mo_apart.1 64 = .ok (.ireturn, 1) := by decide +kernel
theorem d_Mo_now_0 : decode M_Mo_now.1 0 = .ok (.iload_n 1, 1) := by decide +kernel
theorem d_Mo_now_1 : decode M_Mo_now.1 1 = .ok (.tableswitch 110 0 6 #[43, 51, 59, 67, 90, 97, 105], 43) := by decide +kernel
theorem d_Mo_now_44 : decode M_Mo_now.1 44 = .ok (.aload_n 0, 1) := by decide +kernel
theorem d_Mo_now_45 : decode M_Mo_now.1 45 = .ok (.getfield 7, 3) := by decide +kernel
theorem d_Mo_now_48 : decode M_Mo_now.1 48 = .ok (.bipush 38, 2) := by decide +kernel
theorem d_Mo_now_50 : decode M_Mo_now.1 50 = .ok (.iaload, 1) := by decide +kernel
theorem d_Mo_now_51 : decode M_Mo_now.1 51 = .ok (.ireturn, 1) := by decide +kernel
theorem d_Mo_now_52 : decode M_Mo_now.1 52 = .ok (.aload_n 0, 1) := by decide +kernel
theorem d_Mo_now_53 : decode M_Mo_now.1 53 = .ok (.getfield 7, 3) := by decide +kernel
theorem d_Mo_now_56 : decode M_Mo_now.1 56 = .ok (.bipush 34, 2) := by decide +kernel
theorem d_Mo_now_58 : decode M_Mo_now.1 58 = .ok (.iaload, 1) := by decide +kernel
theorem d_Mo_now_59 : decode M_Mo_now.1 59 = .ok (.ireturn, 1) := by decide +kernel
theorem d_Mo_now_60 : decode M_Mo_now.1 60 = .ok (.aload_n 0, 1) := by decide +kernel
theorem d_Mo_now_61 : decode M_Mo_now.1 61 = .ok (.getfield 7, 3) := by decide +kernel
theorem d_Mo_now_64 : decode M_Mo_now.1 64 = .ok (.bipush 35, 2) := by decide +kernel
theorem d_Mo_now_66 : decode M_Mo_now.1 66 = .ok (.iaload, 1) := by decide +kernel
theorem d_Mo_now_67 : decode M_Mo_now.1 67 = .ok (.ireturn, 1) := by decide +kernel
theorem d_Mo_now_68 : decode M_Mo_now.1 68 = .ok (.aload_n 0, 1) := by decide +kernel
theorem d_Mo_now_69 : decode M_Mo_now.1 69 = .ok (.getfield 7, 3) := by decide +kernel
theorem d_Mo_now_72 : decode M_Mo_now.1 72 = .ok (.bipush 36, 2) := by decide +kernel
theorem d_Mo_now_74 : decode M_Mo_now.1 74 = .ok (.iaload, 1) := by decide +kernel
theorem d_Mo_now_75 : decode M_Mo_now.1 75 = .ok (.ifCond .ge 8, 3) := by decide +kernel
theorem d_Mo_now_78 : decode M_Mo_now.1 78 = .ok (.ldc 107, 2) := by decide +kernel
theorem d_Mo_now_80 : decode M_Mo_now.1 80 = .ok (.goto 10, 3) := by decide +kernel
theorem d_Mo_now_83 : decode M_Mo_now.1 83 = .ok (.aload_n 0, 1) := by decide +kernel
theorem d_Mo_now_84 : decode M_Mo_now.1 84 = .ok (.getfield 7, 3) := by decide +kernel
theorem d_Mo_now_87 : decode M_Mo_now.1 87 = .ok (.bipush 36, 2) := by decide +kernel
theorem d_Mo_now_89 : decode M_Mo_now.1 89 = .ok (.iaload, 1) := by decide +kernel
theorem d_Mo_now_90 : decode M_Mo_now.1 90 = .ok (.ireturn, 1) := by decide +kernel
theorem d_Mo_now_91 : decode M_Mo_now.1 91 = .ok (.aload_n 0, 1) := by decide +kernel
theorem d_Mo_now_92 : decode M_Mo_now.1 92 = .ok (.getfield 7, 3) := by decide +kernel
theorem d_Mo_now_95 : decode M_Mo_now.1 95 = .ok (.iconst 1, 1) := by decide +kernel
theorem d_Mo_now_96 : decode M_Mo_now.1 96 = .ok (.iaload, 1) := by decide +kernel
theorem d_Mo_now_97 : decode M_Mo_now.1 97 = .ok (.ireturn, 1) := by decide +kernel
theorem d_Mo_now_98 : decode M_Mo_now.1 98 = .ok (.aload_n 0, 1) := by decide +kernel
theorem d_Mo_now_99 : decode M_Mo_now.1 99 = .ok (.getfield 7, 3) := by decide +kernel
theorem d_Mo_now_102 : decode M_Mo_now.1 102 = .ok (.invokestatic 108, 3) := by decide +kernel
theorem d_Mo_now_105 : decode M_Mo_now.1 105 = .ok (.ireturn, 1) := by decide +kernel
theorem d_Mo_now_106 : decode M_Mo_now.1 106 = .ok (.aload_n 0, 1) := by decide +kernel
theorem d_Mo_now_107 : decode M_Mo_now.1 107 = .ok (.getfield 96, 3) := by decide +kernel
theorem d_Mo_now_110 : decode M_Mo_now.1 110 = .ok (.ireturn, 1) := by decide +kernel
theorem d_Mo_now_111 : decode M_Mo_now.1 111 = .ok (.ldc 51, 2) := by decide +kernel
theorem d_Mo_now_113 : decode M_Mo_now.1 113 = .ok (.ireturn, 1) := by decide +kernel
theorem d_Mo_from_0 : decode M_Mo_from.1 0 = .ok (.aload_n 0, 1) := by decide +kernel
theorem d_Mo_from_1 : decode M_Mo_from.1 1 = .ok (.iconst 4, 1) := by decide +kernel
theorem d_Mo_from_2 : decode M_Mo_from.1 2 = .ok (.iload_n 1, 1) := by decide +kernel
theorem d_Mo_from_3 : decode M_Mo_from.1 3 = .ok (.iadd, 1) := by decide +kernel
theorem d_Mo_from_4 : decode M_Mo_from.1 4 = .ok (.iaload, 1) := by decide +kernel
theorem d_Mo_from_5 : decode M_Mo_from.1 5 = .ok (.aload_n 0, 1) := by decide +kernel
theorem d_Mo_from_6 : decode M_Mo_from.1 6 = .ok (.iconst 4, 1) := by decide +kernel
theorem d_Mo_from_7 : decode M_Mo_from.1 7 = .ok (.iload_n 2, 1) := by decide +kernel
theorem d_Mo_from_8 : decode M_Mo_from.1 8 = .ok (.iadd, 1) := by decide +kernel
theorem d_Mo_from_9 : decode M_Mo_from.1 9 = .ok (.iaload, 1) := by decide +kernel
theorem d_Mo_from_10 : decode M_Mo_from.1 10 = .ok (.isub, 1) := by decide +kernel
theorem d_Mo_from_11 : decode M_Mo_from.1 11 = .ok (.istore_n 3, 1) := by decide +kernel
theorem d_Mo_from_12 : decode M_Mo_from.1 12 = .ok (.aload_n 0, 1) := by decide +kernel
theorem d_Mo_from_13 : decode M_Mo_from.1 13 = .ok (.bipush 28, 2) := by decide +kernel
theorem d_Mo_from_15 : decode M_Mo_from.1 15 = .ok (.iload_n 2, 1) := by decide +kernel
theorem d_Mo_from_16 : decode M_Mo_from.1 16 = .ok (.iadd, 1) := by decide +kernel
theorem d_Mo_from_17 : decode M_Mo_from.1 17 = .ok (.iaload, 1) := by decide +kernel
theorem d_Mo_from_18 : decode M_Mo_from.1 18 = .ok (.iload_n 3, 1) := by decide +kernel
theorem d_Mo_from_19 : decode M_Mo_from.1 19 = .ok (.ifCond .ge 8, 3) := by decide +kernel
theorem d_Mo_from_22 : decode M_Mo_from.1 22 = .ok (.iload_n 3, 1) := by decide +kernel
theorem d_Mo_from_23 : decode M_Mo_from.1 23 = .ok (.ineg, 1) := by decide +kernel
theorem d_Mo_from_24 : decode M_Mo_from.1 24 = .ok (.goto 4, 3) := by decide +kernel
theorem d_Mo_from_27 : decode M_Mo_from.1 27 = .ok (.iload_n 3, 1) := by decide +kernel
theorem d_Mo_from_28 : decode M_Mo_from.1 28 = .ok (.bipush 6, 2) := by decide +kernel
theorem d_Mo_from_30 : decode M_Mo_from.1 30 = .ok (.idiv, 1) := by decide +kernel
theorem d_Mo_from_31 : decode M_Mo_from.1 31 = .ok (.iadd, 1) := by decide +kernel
theorem d_Mo_from_32 : decode M_Mo_from.1 32 = .ok (.ireturn, 1) := by decide +kernel
theorem d_Mo_lateThen_0 : decode M_Mo_lateThen.1 0 = .ok (.iconst 0, 1) := by decide +kernel
theorem d_Mo_lateThen_1 : decode M_Mo_lateThen.1 1 = .ok (.istore_n 2, 1) := by decide +kernel
theorem d_Mo_lateThen_2 : decode M_Mo_lateThen.1 2 = .ok (.iconst 0, 1) := by decide +kernel
theorem d_Mo_lateThen_3 : decode M_Mo_lateThen.1 3 = .ok (.istore_n 3, 1) := by decide +kernel
theorem d_Mo_lateThen_4 : decode M_Mo_lateThen.1 4 = .ok (.iload_n 1, 1) := by decide +kernel
theorem d_Mo_lateThen_5 : decode M_Mo_lateThen.1 5 = .ok (.ifCond .le 17, 3) := by decide +kernel
theorem d_Mo_lateThen_8 : decode M_Mo_lateThen.1 8 = .ok (.iload_n 2, 1) := by decide +kernel
theorem d_Mo_lateThen_9 : decode M_Mo_lateThen.1 9 = .ok (.aload_n 0, 1) := by decide +kernel
theorem d_Mo_lateThen_10 : decode M_Mo_lateThen.1 10 = .ok (.iload_n 1, 1) := by decide +kernel
theorem d_Mo_lateThen_11 : decode M_Mo_lateThen.1 11 = .ok (.iload_n 1, 1) := by decide +kernel
theorem d_Mo_lateThen_12 : decode M_Mo_lateThen.1 12 = .ok (.iconst 1, 1) := by decide +kernel
theorem d_Mo_lateThen_13 : decode M_Mo_lateThen.1 13 = .ok (.isub, 1) := by decide +kernel
theorem d_Mo_lateThen_14 : decode M_Mo_lateThen.1 14 = .ok (.invokestatic 112, 3) := by decide +kernel
theorem d_Mo_lateThen_17 : decode M_Mo_lateThen.1 17 = .ok (.iadd, 1) := by decide +kernel
theorem d_Mo_lateThen_18 : decode M_Mo_lateThen.1 18 = .ok (.istore_n 2, 1) := by decide +kernel
theorem d_Mo_lateThen_19 : decode M_Mo_lateThen.1 19 = .ok (.iinc 3 1, 3) := by decide +kernel
theorem d_Mo_lateThen_22 : decode M_Mo_lateThen.1 22 = .ok (.iload_n 1, 1) := by decide +kernel
theorem d_Mo_lateThen_23 : decode M_Mo_lateThen.1 23 = .ok (.aload_n 0, 1) := by decide +kernel
theorem d_Mo_lateThen_24 : decode M_Mo_lateThen.1 24 = .ok (.iconst 0, 1) := by decide +kernel
theorem d_Mo_lateThen_25 : decode M_Mo_lateThen.1 25 = .ok (.iaload, 1) := by decide +kernel
theorem d_Mo_lateThen_26 : decode M_Mo_lateThen.1 26 = .ok (.iconst 1, 1) := by decide +kernel
theorem d_Mo_lateThen_27 : decode M_Mo_lateThen.1 27 = .ok (.isub, 1) := by decide +kernel
theorem d_Mo_lateThen_28 : decode M_Mo_lateThen.1 28 = .ok (.if_icmp .ge 17, 3) := by decide +kernel
theorem d_Mo_lateThen_31 : decode M_Mo_lateThen.1 31 = .ok (.iload_n 2, 1) := by decide +kernel
theorem d_Mo_lateThen_32 : decode M_Mo_lateThen.1 32 = .ok (.aload_n 0, 1) := by decide +kernel
theorem d_Mo_lateThen_33 : decode M_Mo_lateThen.1 33 = .ok (.iload_n 1, 1) := by decide +kernel
theorem d_Mo_lateThen_34 : decode M_Mo_lateThen.1 34 = .ok (.iload_n 1, 1) := by decide +kernel
theorem d_Mo_lateThen_35 : decode M_Mo_lateThen.1 35 = .ok (.iconst 1, 1) := by decide +kernel
theorem d_Mo_lateThen_36 : decode M_Mo_lateThen.1 36 = .ok (.iadd, 1) := by decide +kernel
theorem d_Mo_lateThen_37 : decode M_Mo_lateThen.1 37 = .ok (.invokestatic 112, 3) := by decide +kernel
theorem d_Mo_lateThen_40 : decode M_Mo_lateThen.1 40 = .ok (.iadd, 1) := by decide +kernel
theorem d_Mo_lateThen_41 : decode M_Mo_lateThen.1 41 = .ok (.istore_n 2, 1) := by decide +kernel
theorem d_Mo_lateThen_42 : decode M_Mo_lateThen.1 42 = .ok (.iinc 3 1, 3) := by decide +kernel
theorem d_Mo_lateThen_45 : decode M_Mo_lateThen.1 45 = .ok (.iload_n 3, 1) := by decide +kernel
theorem d_Mo_lateThen_46 : decode M_Mo_lateThen.1 46 = .ok (.ifCond .ne 7, 3) := by decide +kernel
theorem d_Mo_lateThen_49 : decode M_Mo_lateThen.1 49 = .ok (.iconst 0, 1) := by decide +kernel
theorem d_Mo_lateThen_50 : decode M_Mo_lateThen.1 50 = .ok (.goto 9, 3) := by decide +kernel
theorem d_Mo_lateThen_53 : decode M_Mo_lateThen.1 53 = .ok (.aload_n 0, 1) := by decide +kernel
theorem d_Mo_lateThen_54 : decode M_Mo_lateThen.1 54 = .ok (.bipush 16, 2) := by decide +kernel
theorem d_Mo_lateThen_56 : decode M_Mo_lateThen.1 56 = .ok (.iload_n 1, 1) := by decide +kernel
theorem d_Mo_lateThen_57 : decode M_Mo_lateThen.1 57 = .ok (.iadd, 1) := by decide +kernel
theorem d_Mo_lateThen_58 : decode M_Mo_lateThen.1 58 = .ok (.iaload, 1) := by decide +kernel
theorem d_Mo_lateThen_59 : decode M_Mo_lateThen.1 59 = .ok (.istore 4, 2) := by decide +kernel
theorem d_Mo_lateThen_61 : decode M_Mo_lateThen.1 61 = .ok (.iload_n 3, 1) := by decide +kernel
theorem d_Mo_lateThen_62 : decode M_Mo_lateThen.1 62 = .ok (.ifCond .ne 7, 3) := by decide +kernel
theorem d_Mo_lateThen_65 : decode M_Mo_lateThen.1 65 = .ok (.iconst 0, 1) := by decide +kernel
theorem d_Mo_lateThen_66 : decode M_Mo_lateThen.1 66 = .ok (.goto 6, 3) := by decide +kernel
theorem d_Mo_lateThen_69 : decode M_Mo_lateThen.1 69 = .ok (.iload_n 2, 1) := by decide +kernel
theorem d_Mo_lateThen_70 : decode M_Mo_lateThen.1 70 = .ok (.iload_n 3, 1) := by decide +kernel
theorem d_Mo_lateThen_71 : decode M_Mo_lateThen.1 71 = .ok (.idiv, 1) := by decide +kernel
theorem d_Mo_lateThen_72 : decode M_Mo_lateThen.1 72 = .ok (.istore 5, 2) := by decide +kernel
theorem d_Mo_lateThen_74 : decode M_Mo_lateThen.1 74 = .ok (.aload_n 0, 1) := by decide +kernel
theorem d_Mo_lateThen_75 : decode M_Mo_lateThen.1 75 = .ok (.bipush 10, 2) := by decide +kernel
theorem d_Mo_lateThen_77 : decode M_Mo_lateThen.1 77 = .ok (.iload_n 1, 1) := by decide +kernel
theorem d_Mo_lateThen_78 : decode M_Mo_lateThen.1 78 = .ok (.iadd, 1) := by decide +kernel
theorem d_Mo_lateThen_79 : decode M_Mo_lateThen.1 79 = .ok (.iaload, 1) := by decide +kernel
theorem d_Mo_lateThen_80 : decode M_Mo_lateThen.1 80 = .ok (.aload_n 0, 1) := by decide +kernel
theorem d_Mo_lateThen_81 : decode M_Mo_lateThen.1 81 = .ok (.iconst 4, 1) := by decide +kernel
theorem d_Mo_lateThen_82 : decode M_Mo_lateThen.1 82 = .ok (.iload_n 1, 1) := by decide +kernel
theorem d_Mo_lateThen_83 : decode M_Mo_lateThen.1 83 = .ok (.iadd, 1) := by decide +kernel
theorem d_Mo_lateThen_84 : decode M_Mo_lateThen.1 84 = .ok (.iaload, 1) := by decide +kernel
theorem d_Mo_lateThen_85 : decode M_Mo_lateThen.1 85 = .ok (.bipush 6, 2) := by decide +kernel
theorem d_Mo_lateThen_87 : decode M_Mo_lateThen.1 87 = .ok (.idiv, 1) := by decide +kernel
theorem d_Mo_lateThen_88 : decode M_Mo_lateThen.1 88 = .ok (.aload_n 0, 1) := by decide +kernel
theorem d_Mo_lateThen_89 : decode M_Mo_lateThen.1 89 = .ok (.bipush 35, 2) := by decide +kernel
theorem d_Mo_lateThen_91 : decode M_Mo_lateThen.1 91 = .ok (.iaload, 1) := by decide +kernel
theorem d_Mo_lateThen_92 : decode M_Mo_lateThen.1 92 = .ok (.isub, 1) := by decide +kernel
theorem d_Mo_lateThen_93 : decode M_Mo_lateThen.1 93 = .ok (.imul, 1) := by decide +kernel
theorem d_Mo_lateThen_94 : decode M_Mo_lateThen.1 94 = .ok (.iload 4, 2) := by decide +kernel
theorem d_Mo_lateThen_96 : decode M_Mo_lateThen.1 96 = .ok (.iload 5, 2) := by decide +kernel
theorem d_Mo_lateThen_98 : decode M_Mo_lateThen.1 98 = .ok (.imul, 1) := by decide +kernel
theorem d_Mo_lateThen_99 : decode M_Mo_lateThen.1 99 = .ok (.iadd, 1) := by decide +kernel
theorem d_Mo_lateThen_100 : decode M_Mo_lateThen.1 100 = .ok (.iconst 5, 1) := by decide +kernel
theorem d_Mo_lateThen_101 : decode M_Mo_lateThen.1 101 = .ok (.aload_n 0, 1) := by decide +kernel
theorem d_Mo_lateThen_102 : decode M_Mo_lateThen.1 102 = .ok (.bipush 28, 2) := by decide +kernel
theorem d_Mo_lateThen_104 : decode M_Mo_lateThen.1 104 = .ok (.iload_n 1, 1) := by decide +kernel
theorem d_Mo_lateThen_105 : decode M_Mo_lateThen.1 105 = .ok (.iadd, 1) := by decide +kernel
theorem d_Mo_lateThen_106 : decode M_Mo_lateThen.1 106 = .ok (.iaload, 1) := by decide +kernel
theorem d_Mo_lateThen_107 : decode M_Mo_lateThen.1 107 = .ok (.imul, 1) := by decide +kernel
theorem d_Mo_lateThen_108 : decode M_Mo_lateThen.1 108 = .ok (.iadd, 1) := by decide +kernel
theorem d_Mo_lateThen_109 : decode M_Mo_lateThen.1 109 = .ok (.istore 6, 2) := by decide +kernel
theorem d_Mo_lateThen_111 : decode M_Mo_lateThen.1 111 = .ok (.iload 6, 2) := by decide +kernel
theorem d_Mo_lateThen_113 : decode M_Mo_lateThen.1 113 = .ok (.aload_n 0, 1) := by decide +kernel
theorem d_Mo_lateThen_114 : decode M_Mo_lateThen.1 114 = .ok (.bipush 10, 2) := by decide +kernel
theorem d_Mo_lateThen_116 : decode M_Mo_lateThen.1 116 = .ok (.iload_n 1, 1) := by decide +kernel
theorem d_Mo_lateThen_117 : decode M_Mo_lateThen.1 117 = .ok (.iadd, 1) := by decide +kernel
theorem d_Mo_lateThen_118 : decode M_Mo_lateThen.1 118 = .ok (.iaload, 1) := by decide +kernel
theorem d_Mo_lateThen_119 : decode M_Mo_lateThen.1 119 = .ok (.iload 4, 2) := by decide +kernel
theorem d_Mo_lateThen_121 : decode M_Mo_lateThen.1 121 = .ok (.iadd, 1) := by decide +kernel
theorem d_Mo_lateThen_122 : decode M_Mo_lateThen.1 122 = .ok (.iconst 5, 1) := by decide +kernel
theorem d_Mo_lateThen_123 : decode M_Mo_lateThen.1 123 = .ok (.iadd, 1) := by decide +kernel
theorem d_Mo_lateThen_124 : decode M_Mo_lateThen.1 124 = .ok (.idiv, 1) := by decide +kernel
theorem d_Mo_lateThen_125 : decode M_Mo_lateThen.1 125 = .ok (.aload_n 0, 1) := by decide +kernel
theorem d_Mo_lateThen_126 : decode M_Mo_lateThen.1 126 = .ok (.bipush 37, 2) := by decide +kernel
theorem d_Mo_lateThen_128 : decode M_Mo_lateThen.1 128 = .ok (.iaload, 1) := by decide +kernel
theorem d_Mo_lateThen_129 : decode M_Mo_lateThen.1 129 = .ok (.iload_n 1, 1) := by decide +kernel
theorem d_Mo_lateThen_130 : decode M_Mo_lateThen.1 130 = .ok (.ishr, 1) := by decide +kernel
theorem d_Mo_lateThen_131 : decode M_Mo_lateThen.1 131 = .ok (.iconst 1, 1) := by decide +kernel
theorem d_Mo_lateThen_132 : decode M_Mo_lateThen.1 132 = .ok (.iand, 1) := by decide +kernel
theorem d_Mo_lateThen_133 : decode M_Mo_lateThen.1 133 = .ok (.iconst 1, 1) := by decide +kernel
theorem d_Mo_lateThen_134 : decode M_Mo_lateThen.1 134 = .ok (.if_icmp .ne 7, 3) := by decide +kernel
theorem d_Mo_lateThen_137 : decode M_Mo_lateThen.1 137 = .ok (.iconst 0, 1) := by decide +kernel
theorem d_Mo_lateThen_138 : decode M_Mo_lateThen.1 138 = .ok (.goto 9, 3) := by decide +kernel
theorem d_Mo_lateThen_141 : decode M_Mo_lateThen.1 141 = .ok (.aload_n 0, 1) := by decide +kernel
theorem d_Mo_lateThen_142 : decode M_Mo_lateThen.1 142 = .ok (.bipush 22, 2) := by decide +kernel
theorem d_Mo_lateThen_144 : decode M_Mo_lateThen.1 144 = .ok (.iload_n 1, 1) := by decide +kernel
theorem d_Mo_lateThen_145 : decode M_Mo_lateThen.1 145 = .ok (.iadd, 1) := by decide +kernel
theorem d_Mo_lateThen_146 : decode M_Mo_lateThen.1 146 = .ok (.iaload, 1) := by decide +kernel
theorem d_Mo_lateThen_147 : decode M_Mo_lateThen.1 147 = .ok (.iadd, 1) := by decide +kernel
theorem d_Mo_lateThen_148 : decode M_Mo_lateThen.1 148 = .ok (.istore 7, 2) := by decide +kernel
theorem d_Mo_lateThen_150 : decode M_Mo_lateThen.1 150 = .ok (.iload 7, 2) := by decide +kernel
theorem d_Mo_lateThen_152 : decode M_Mo_lateThen.1 152 = .ok (.bipush (-99), 2) := by decide +kernel
theorem d_Mo_lateThen_154 : decode M_Mo_lateThen.1 154 = .ok (.if_icmp .ge 8, 3) := by decide +kernel
theorem d_Mo_lateThen_157 : decode M_Mo_lateThen.1 157 = .ok (.bipush (-99), 2) := by decide +kernel
theorem d_Mo_lateThen_159 : decode M_Mo_lateThen.1 159 = .ok (.goto 19, 3) := by decide +kernel
theorem d_Mo_lateThen_162 : decode M_Mo_lateThen.1 162 = .ok (.iload 7, 2) := by decide +kernel
theorem d_Mo_lateThen_164 : decode M_Mo_lateThen.1 164 = .ok (.sipush 999, 3) := by decide +kernel
theorem d_Mo_lateThen_167 : decode M_Mo_lateThen.1 167 = .ok (.if_icmp .le 9, 3) := by decide +kernel
theorem d_Mo_lateThen_170 : decode M_Mo_lateThen.1 170 = .ok (.sipush 999, 3) := by decide +kernel
theorem d_Mo_lateThen_173 : decode M_Mo_lateThen.1 173 = .ok (.goto 5, 3) := by decide +kernel
theorem d_Mo_lateThen_176 : decode M_Mo_lateThen.1 176 = .ok (.iload 7, 2) := by decide +kernel
theorem d_Mo_lateThen_178 : decode M_Mo_lateThen.1 178 = .ok (.ireturn, 1) := by decide +kernel
theorem d_Mo_sings_0 : decode M_Mo_sings.1 0 = .ok (.aload_n 1, 1) := by decide +kernel
theorem d_Mo_sings_1 : decode M_Mo_sings.1 1 = .ok (.iconst 0, 1) := by decide +kernel
theorem d_Mo_sings_2 : decode M_Mo_sings.1 2 = .ok (.iaload, 1) := by decide +kernel
theorem d_Mo_sings_3 : decode M_Mo_sings.1 3 = .ok (.istore_n 2, 1) := by decide +kernel
theorem d_Mo_sings_4 : decode M_Mo_sings.1 4 = .ok (.iconst 0, 1) := by decide +kernel
theorem d_Mo_sings_5 : decode M_Mo_sings.1 5 = .ok (.istore_n 3, 1) := by decide +kernel
theorem d_Mo_sings_6 : decode M_Mo_sings.1 6 = .ok (.iconst 0, 1) := by decide +kernel
theorem d_Mo_sings_7 : decode M_Mo_sings.1 7 = .ok (.istore 4, 2) := by decide +kernel
theorem d_Mo_sings_9 : decode M_Mo_sings.1 9 = .ok (.iload 4, 2) := by decide +kernel
theorem d_Mo_sings_11 : decode M_Mo_sings.1 11 = .ok (.iload_n 2, 1) := by decide +kernel
theorem d_Mo_sings_12 : decode M_Mo_sings.1 12 = .ok (.if_icmp .ge 45, 3) := by decide +kernel
theorem d_Mo_sings_15 : decode M_Mo_sings.1 15 = .ok (.aload_n 0, 1) := by decide +kernel
theorem d_Mo_sings_16 : decode M_Mo_sings.1 16 = .ok (.getfield 32, 3) := by decide +kernel
theorem d_Mo_sings_19 : decode M_Mo_sings.1 19 = .ok (.iload 4, 2) := by decide +kernel
theorem d_Mo_sings_21 : decode M_Mo_sings.1 21 = .ok (.iload 4, 2) := by decide +kernel
theorem d_Mo_sings_23 : decode M_Mo_sings.1 23 = .ok (.aload_n 1, 1) := by decide +kernel
theorem d_Mo_sings_24 : decode M_Mo_sings.1 24 = .ok (.bipush 36, 2) := by decide +kernel
theorem d_Mo_sings_26 : decode M_Mo_sings.1 26 = .ok (.iaload, 1) := by decide +kernel
theorem d_Mo_sings_27 : decode M_Mo_sings.1 27 = .ok (.if_icmp .ne 7, 3) := by decide +kernel
theorem d_Mo_sings_30 : decode M_Mo_sings.1 30 = .ok (.iconst 0, 1) := by decide +kernel
theorem d_Mo_sings_31 : decode M_Mo_sings.1 31 = .ok (.goto 9, 3) := by decide +kernel
theorem d_Mo_sings_34 : decode M_Mo_sings.1 34 = .ok (.aload_n 1, 1) := by decide +kernel
theorem d_Mo_sings_35 : decode M_Mo_sings.1 35 = .ok (.iload 4, 2) := by decide +kernel
theorem d_Mo_sings_37 : decode M_Mo_sings.1 37 = .ok (.invokestatic 116, 3) := by decide +kernel
theorem d_Mo_sings_40 : decode M_Mo_sings.1 40 = .ok (.iastore, 1) := by decide +kernel
theorem d_Mo_sings_41 : decode M_Mo_sings.1 41 = .ok (.iload_n 3, 1) := by decide +kernel
theorem d_Mo_sings_42 : decode M_Mo_sings.1 42 = .ok (.aload_n 0, 1) := by decide +kernel
theorem d_Mo_sings_43 : decode M_Mo_sings.1 43 = .ok (.getfield 32, 3) := by decide +kernel
theorem d_Mo_sings_46 : decode M_Mo_sings.1 46 = .ok (.iload 4, 2) := by decide +kernel
theorem d_Mo_sings_48 : decode M_Mo_sings.1 48 = .ok (.iaload, 1) := by decide +kernel
theorem d_Mo_sings_49 : decode M_Mo_sings.1 49 = .ok (.iadd, 1) := by decide +kernel
theorem d_Mo_sings_50 : decode M_Mo_sings.1 50 = .ok (.istore_n 3, 1) := by decide +kernel
theorem d_Mo_sings_51 : decode M_Mo_sings.1 51 = .ok (.iinc 4 1, 3) := by decide +kernel
theorem d_Mo_sings_54 : decode M_Mo_sings.1 54 = .ok (.goto (-45), 3) := by decide +kernel
theorem d_Mo_sings_57 : decode M_Mo_sings.1 57 = .ok (.iload_n 2, 1) := by decide +kernel
theorem d_Mo_sings_58 : decode M_Mo_sings.1 58 = .ok (.ifCond .ne 7, 3) := by decide +kernel
theorem d_Mo_sings_61 : decode M_Mo_sings.1 61 = .ok (.iconst 0, 1) := by decide +kernel
theorem d_Mo_sings_62 : decode M_Mo_sings.1 62 = .ok (.goto 13, 3) := by decide +kernel
theorem d_Mo_sings_65 : decode M_Mo_sings.1 65 = .ok (.aload_n 1, 1) := by decide +kernel
theorem d_Mo_sings_66 : decode M_Mo_sings.1 66 = .ok (.iconst 1, 1) := by decide +kernel
theorem d_Mo_sings_67 : decode M_Mo_sings.1 67 = .ok (.iaload, 1) := by decide +kernel
theorem d_Mo_sings_68 : decode M_Mo_sings.1 68 = .ok (.iload_n 3, 1) := by decide +kernel
theorem d_Mo_sings_69 : decode M_Mo_sings.1 69 = .ok (.iload_n 2, 1) := by decide +kernel
theorem d_Mo_sings_70 : decode M_Mo_sings.1 70 = .ok (.idiv, 1) := by decide +kernel
theorem d_Mo_sings_71 : decode M_Mo_sings.1 71 = .ok (.imul, 1) := by decide +kernel
theorem d_Mo_sings_72 : decode M_Mo_sings.1 72 = .ok (.bipush 10, 2) := by decide +kernel
theorem d_Mo_sings_74 : decode M_Mo_sings.1 74 = .ok (.idiv, 1) := by decide +kernel
theorem d_Mo_sings_75 : decode M_Mo_sings.1 75 = .ok (.istore 4, 2) := by decide +kernel
theorem d_Mo_sings_77 : decode M_Mo_sings.1 77 = .ok (.iload 4, 2) := by decide +kernel
theorem d_Mo_sings_79 : decode M_Mo_sings.1 79 = .ok (.ifCond .le 8, 3) := by decide +kernel
theorem d_Mo_sings_82 : decode M_Mo_sings.1 82 = .ok (.iload 4, 2) := by decide +kernel
theorem d_Mo_sings_84 : decode M_Mo_sings.1 84 = .ok (.goto 4, 3) := by decide +kernel
theorem d_Mo_sings_87 : decode M_Mo_sings.1 87 = .ok (.iconst 0, 1) := by decide +kernel
theorem d_Mo_sings_88 : decode M_Mo_sings.1 88 = .ok (.istore 4, 2) := by decide +kernel
theorem d_Mo_sings_90 : decode M_Mo_sings.1 90 = .ok (.iconst 0, 1) := by decide +kernel
theorem d_Mo_sings_91 : decode M_Mo_sings.1 91 = .ok (.istore 5, 2) := by decide +kernel
theorem d_Mo_sings_93 : decode M_Mo_sings.1 93 = .ok (.iload 5, 2) := by decide +kernel
theorem d_Mo_sings_95 : decode M_Mo_sings.1 95 = .ok (.iload_n 2, 1) := by decide +kernel
theorem d_Mo_sings_96 : decode M_Mo_sings.1 96 = .ok (.if_icmp .ge 26, 3) := by decide +kernel
theorem d_Mo_sings_99 : decode M_Mo_sings.1 99 = .ok (.aload_n 1, 1) := by decide +kernel
theorem d_Mo_sings_100 : decode M_Mo_sings.1 100 = .ok (.bipush 28, 2) := by decide +kernel
theorem d_Mo_sings_102 : decode M_Mo_sings.1 102 = .ok (.iload 5, 2) := by decide +kernel
theorem d_Mo_sings_104 : decode M_Mo_sings.1 104 = .ok (.iadd, 1) := by decide +kernel
theorem d_Mo_sings_105 : decode M_Mo_sings.1 105 = .ok (.aload_n 0, 1) := by decide +kernel
theorem d_Mo_sings_106 : decode M_Mo_sings.1 106 = .ok (.getfield 32, 3) := by decide +kernel
theorem d_Mo_sings_109 : decode M_Mo_sings.1 109 = .ok (.iload 5, 2) := by decide +kernel
theorem d_Mo_sings_111 : decode M_Mo_sings.1 111 = .ok (.iaload, 1) := by decide +kernel
theorem d_Mo_sings_112 : decode M_Mo_sings.1 112 = .ok (.iload 4, 2) := by decide +kernel
theorem d_Mo_sings_114 : decode M_Mo_sings.1 114 = .ok (.isub, 1) := by decide +kernel
theorem d_Mo_sings_115 : decode M_Mo_sings.1 115 = .ok (.iastore, 1) := by decide +kernel
theorem d_Mo_sings_116 : decode M_Mo_sings.1 116 = .ok (.iinc 5 1, 3) := by decide +kernel
theorem d_Mo_sings_119 : decode M_Mo_sings.1 119 = .ok (.goto (-26), 3) := by decide +kernel
theorem d_Mo_sings_122 : decode M_Mo_sings.1 122 = .ok (.aload_n 1, 1) := by decide +kernel
theorem d_Mo_sings_123 : decode M_Mo_sings.1 123 = .ok (.bipush 34, 2) := by decide +kernel
theorem d_Mo_sings_125 : decode M_Mo_sings.1 125 = .ok (.iaload, 1) := by decide +kernel
theorem d_Mo_sings_126 : decode M_Mo_sings.1 126 = .ok (.iload 4, 2) := by decide +kernel
theorem d_Mo_sings_128 : decode M_Mo_sings.1 128 = .ok (.iadd, 1) := by decide +kernel
theorem d_Mo_sings_129 : decode M_Mo_sings.1 129 = .ok (.istore 5, 2) := by decide +kernel
theorem d_Mo_sings_131 : decode M_Mo_sings.1 131 = .ok (.aload_n 1, 1) := by decide +kernel
theorem d_Mo_sings_132 : decode M_Mo_sings.1 132 = .ok (.bipush 34, 2) := by decide +kernel
theorem d_Mo_sings_134 : decode M_Mo_sings.1 134 = .ok (.iload 5, 2) := by decide +kernel
theorem d_Mo_sings_136 : decode M_Mo_sings.1 136 = .ok (.sipush 9999, 3) := by decide +kernel
theorem d_Mo_sings_139 : decode M_Mo_sings.1 139 = .ok (.if_icmp .le 9, 3) := by decide +kernel
theorem d_Mo_sings_142 : decode M_Mo_sings.1 142 = .ok (.sipush 9999, 3) := by decide +kernel
theorem d_Mo_sings_145 : decode M_Mo_sings.1 145 = .ok (.goto 5, 3) := by decide +kernel
theorem d_Mo_sings_148 : decode M_Mo_sings.1 148 = .ok (.iload 5, 2) := by decide +kernel
theorem d_Mo_sings_150 : decode M_Mo_sings.1 150 = .ok (.iastore, 1) := by decide +kernel
theorem d_Mo_sings_151 : decode M_Mo_sings.1 151 = .ok (.aload_n 1, 1) := by decide +kernel
theorem d_Mo_sings_152 : decode M_Mo_sings.1 152 = .ok (.bipush 38, 2) := by decide +kernel
theorem d_Mo_sings_154 : decode M_Mo_sings.1 154 = .ok (.dup2, 1) := by decide +kernel
theorem d_Mo_sings_155 : decode M_Mo_sings.1 155 = .ok (.iaload, 1) := by decide +kernel
theorem d_Mo_sings_156 : decode M_Mo_sings.1 156 = .ok (.iconst 1, 1) := by decide +kernel
theorem d_Mo_sings_157 : decode M_Mo_sings.1 157 = .ok (.iadd, 1) := by decide +kernel
theorem d_Mo_sings_158 : decode M_Mo_sings.1 158 = .ok (.iastore, 1) := by decide +kernel
theorem d_Mo_sings_159 : decode M_Mo_sings.1 159 = .ok (.return_, 1) := by decide +kernel
theorem d_Mo_rests_0 : decode M_Mo_rests.1 0 = .ok (.iconst 0, 1) := by decide +kernel
theorem d_Mo_rests_1 : decode M_Mo_rests.1 1 = .ok (.istore_n 2, 1) := by decide +kernel
theorem d_Mo_rests_2 : decode M_Mo_rests.1 2 = .ok (.iload_n 2, 1) := by decide +kernel
theorem d_Mo_rests_3 : decode M_Mo_rests.1 3 = .ok (.aload_n 0, 1) := by decide +kernel
theorem d_Mo_rests_4 : decode M_Mo_rests.1 4 = .ok (.iconst 0, 1) := by decide +kernel
theorem d_Mo_rests_5 : decode M_Mo_rests.1 5 = .ok (.iaload, 1) := by decide +kernel
theorem d_Mo_rests_6 : decode M_Mo_rests.1 6 = .ok (.if_icmp .ge 21, 3) := by decide +kernel
theorem d_Mo_rests_9 : decode M_Mo_rests.1 9 = .ok (.aload_n 0, 1) := by decide +kernel
theorem d_Mo_rests_10 : decode M_Mo_rests.1 10 = .ok (.bipush 28, 2) := by decide +kernel
theorem d_Mo_rests_12 : decode M_Mo_rests.1 12 = .ok (.iload_n 2, 1) := by decide +kernel
theorem d_Mo_rests_13 : decode M_Mo_rests.1 13 = .ok (.iadd, 1) := by decide +kernel
theorem d_Mo_rests_14 : decode M_Mo_rests.1 14 = .ok (.dup2, 1) := by decide +kernel
theorem d_Mo_rests_15 : decode M_Mo_rests.1 15 = .ok (.iaload, 1) := by decide +kernel
theorem d_Mo_rests_16 : decode M_Mo_rests.1 16 = .ok (.iload_n 1, 1) := by decide +kernel
theorem d_Mo_rests_17 : decode M_Mo_rests.1 17 = .ok (.iconst 1, 1) := by decide +kernel
theorem d_Mo_rests_18 : decode M_Mo_rests.1 18 = .ok (.iadd, 1) := by decide +kernel
theorem d_Mo_rests_19 : decode M_Mo_rests.1 19 = .ok (.idiv, 1) := by decide +kernel
theorem d_Mo_rests_20 : decode M_Mo_rests.1 20 = .ok (.iastore, 1) := by decide +kernel
theorem d_Mo_rests_21 : decode M_Mo_rests.1 21 = .ok (.iinc 2 1, 3) := by decide +kernel
theorem d_Mo_rests_24 : decode M_Mo_rests.1 24 = .ok (.goto (-22), 3) := by decide +kernel
theorem d_Mo_rests_27 : decode M_Mo_rests.1 27 = .ok (.return_, 1) := by decide +kernel
theorem d_Mo_remember_0 : decode M_Mo_remember.1 0 = .ok (.aload_n 0, 1) := by decide +kernel
theorem d_Mo_remember_1 : decode M_Mo_remember.1 1 = .ok (.getfield 96, 3) := by decide +kernel
theorem d_Mo_remember_4 : decode M_Mo_remember.1 4 = .ok (.bipush 10, 2) := by decide +kernel
theorem d_Mo_remember_6 : decode M_Mo_remember.1 6 = .ok (.if_icmp .ne 43, 3) := by decide +kernel
theorem d_Mo_remember_9 : decode M_Mo_remember.1 9 = .ok (.iconst 0, 1) := by decide +kernel
theorem d_Mo_remember_10 : decode M_Mo_remember.1 10 = .ok (.istore_n 1, 1) := by decide +kernel
theorem d_Mo_remember_11 : decode M_Mo_remember.1 11 = .ok (.iload_n 1, 1) := by decide +kernel
theorem d_Mo_remember_12 : decode M_Mo_remember.1 12 = .ok (.sipush 351, 3) := by decide +kernel
theorem d_Mo_remember_15 : decode M_Mo_remember.1 15 = .ok (.if_icmp .ge 24, 3) := by decide +kernel
theorem d_Mo_remember_18 : decode M_Mo_remember.1 18 = .ok (.aload_n 0, 1) := by decide +kernel
theorem d_Mo_remember_19 : decode M_Mo_remember.1 19 = .ok (.getfield 13, 3) := by decide +kernel
theorem d_Mo_remember_22 : decode M_Mo_remember.1 22 = .ok (.iload_n 1, 1) := by decide +kernel
theorem d_Mo_remember_23 : decode M_Mo_remember.1 23 = .ok (.aload_n 0, 1) := by decide +kernel
theorem d_Mo_remember_24 : decode M_Mo_remember.1 24 = .ok (.getfield 13, 3) := by decide +kernel
theorem d_Mo_remember_27 : decode M_Mo_remember.1 27 = .ok (.iload_n 1, 1) := by decide +kernel
theorem d_Mo_remember_28 : decode M_Mo_remember.1 28 = .ok (.bipush 39, 2) := by decide +kernel
theorem d_Mo_remember_30 : decode M_Mo_remember.1 30 = .ok (.iadd, 1) := by decide +kernel
theorem d_Mo_remember_31 : decode M_Mo_remember.1 31 = .ok (.iaload, 1) := by decide +kernel
theorem d_Mo_remember_32 : decode M_Mo_remember.1 32 = .ok (.iastore, 1) := by decide +kernel
theorem d_Mo_remember_33 : decode M_Mo_remember.1 33 = .ok (.iinc 1 1, 3) := by decide +kernel
theorem d_Mo_remember_36 : decode M_Mo_remember.1 36 = .ok (.goto (-25), 3) := by decide +kernel
theorem d_Mo_remember_39 : decode M_Mo_remember.1 39 = .ok (.aload_n 0, 1) := by decide +kernel
theorem d_Mo_remember_40 : decode M_Mo_remember.1 40 = .ok (.dup, 1) := by decide +kernel
theorem d_Mo_remember_41 : decode M_Mo_remember.1 41 = .ok (.getfield 96, 3) := by decide +kernel
theorem d_Mo_remember_44 : decode M_Mo_remember.1 44 = .ok (.iconst 1, 1) := by decide +kernel
theorem d_Mo_remember_45 : decode M_Mo_remember.1 45 = .ok (.isub, 1) := by decide +kernel
theorem d_Mo_remember_46 : decode M_Mo_remember.1 46 = .ok (.putfield 96, 3) := by decide +kernel
theorem d_Mo_remember_49 : decode M_Mo_remember.1 49 = .ok (.aload_n 0, 1) := by decide +kernel
theorem d_Mo_remember_50 : decode M_Mo_remember.1 50 = .ok (.getfield 7, 3) := by decide +kernel
theorem d_Mo_remember_53 : decode M_Mo_remember.1 53 = .ok (.iconst 0, 1) := by decide +kernel
theorem d_Mo_remember_54 : decode M_Mo_remember.1 54 = .ok (.aload_n 0, 1) := by decide +kernel
theorem d_Mo_remember_55 : decode M_Mo_remember.1 55 = .ok (.getfield 13, 3) := by decide +kernel
theorem d_Mo_remember_58 : decode M_Mo_remember.1 58 = .ok (.bipush 39, 2) := by decide +kernel
theorem d_Mo_remember_60 : decode M_Mo_remember.1 60 = .ok (.aload_n 0, 1) := by decide +kernel
theorem d_Mo_remember_61 : decode M_Mo_remember.1 61 = .ok (.getfield 96, 3) := by decide +kernel
theorem d_Mo_remember_64 : decode M_Mo_remember.1 64 = .ok (.imul, 1) := by decide +kernel
theorem d_Mo_remember_65 : decode M_Mo_remember.1 65 = .ok (.invokestatic 92, 3) := by decide +kernel
theorem d_Mo_remember_68 : decode M_Mo_remember.1 68 = .ok (.aload_n 0, 1) := by decide +kernel
theorem d_Mo_remember_69 : decode M_Mo_remember.1 69 = .ok (.dup, 1) := by decide +kernel
theorem d_Mo_remember_70 : decode M_Mo_remember.1 70 = .ok (.getfield 96, 3) := by decide +kernel
theorem d_Mo_remember_73 : decode M_Mo_remember.1 73 = .ok (.iconst 1, 1) := by decide +kernel
theorem d_Mo_remember_74 : decode M_Mo_remember.1 74 = .ok (.iadd, 1) := by decide +kernel
theorem d_Mo_remember_75 : decode M_Mo_remember.1 75 = .ok (.putfield 96, 3) := by decide +kernel
theorem d_Mo_remember_78 : decode M_Mo_remember.1 78 = .ok (.return_, 1) := by decide +kernel
theorem d_Mo_line_0 : decode M_Mo_line.1 0 = .ok (.aload_n 0, 1) := by decide +kernel
theorem d_Mo_line_1 : decode M_Mo_line.1 1 = .ok (.getfield 7, 3) := by decide +kernel
theorem d_Mo_line_4 : decode M_Mo_line.1 4 = .ok (.bipush 38, 2) := by decide +kernel
theorem d_Mo_line_6 : decode M_Mo_line.1 6 = .ok (.iaload, 1) := by decide +kernel
theorem d_Mo_line_7 : decode M_Mo_line.1 7 = .ok (.sipush 999, 3) := by decide +kernel
theorem d_Mo_line_10 : decode M_Mo_line.1 10 = .ok (.if_icmp .lt 6, 3) := by decide +kernel
theorem d_Mo_line_13 : decode M_Mo_line.1 13 = .ok (.ldc 120, 2) := by decide +kernel
theorem d_Mo_line_15 : decode M_Mo_line.1 15 = .ok (.ireturn, 1) := by decide +kernel
theorem d_Mo_line_16 : decode M_Mo_line.1 16 = .ok (.aload_n 0, 1) := by decide +kernel
theorem d_Mo_line_17 : decode M_Mo_line.1 17 = .ok (.invokevirtual 121, 3) := by decide +kernel
theorem d_Mo_line_20 : decode M_Mo_line.1 20 = .ok (.aload_n 0, 1) := by decide +kernel
theorem d_Mo_line_21 : decode M_Mo_line.1 21 = .ok (.aload_n 0, 1) := by decide +kernel
theorem d_Mo_line_22 : decode M_Mo_line.1 22 = .ok (.getfield 7, 3) := by decide +kernel
theorem d_Mo_line_25 : decode M_Mo_line.1 25 = .ok (.invokevirtual 124, 3) := by decide +kernel
theorem d_Mo_line_28 : decode M_Mo_line.1 28 = .ok (.aload_n 0, 1) := by decide +kernel
theorem d_Mo_line_29 : decode M_Mo_line.1 29 = .ok (.getfield 7, 3) := by decide +kernel
theorem d_Mo_line_32 : decode M_Mo_line.1 32 = .ok (.bipush 34, 2) := by decide +kernel
theorem d_Mo_line_34 : decode M_Mo_line.1 34 = .ok (.iaload, 1) := by decide +kernel
theorem d_Mo_line_35 : decode M_Mo_line.1 35 = .ok (.ireturn, 1) := by decide +kernel
theorem d_Mo_verse_0 : decode M_Mo_verse.1 0 = .ok (.aload_n 0, 1) := by decide +kernel
theorem d_Mo_verse_1 : decode M_Mo_verse.1 1 = .ok (.getfield 7, 3) := by decide +kernel
theorem d_Mo_verse_4 : decode M_Mo_verse.1 4 = .ok (.bipush 38, 2) := by decide +kernel
theorem d_Mo_verse_6 : decode M_Mo_verse.1 6 = .ok (.iaload, 1) := by decide +kernel
theorem d_Mo_verse_7 : decode M_Mo_verse.1 7 = .ok (.aload_n 0, 1) := by decide +kernel
theorem d_Mo_verse_8 : decode M_Mo_verse.1 8 = .ok (.getfield 7, 3) := by decide +kernel
theorem d_Mo_verse_11 : decode M_Mo_verse.1 11 = .ok (.iconst 2, 1) := by decide +kernel
theorem d_Mo_verse_12 : decode M_Mo_verse.1 12 = .ok (.iaload, 1) := by decide +kernel
theorem d_Mo_verse_13 : decode M_Mo_verse.1 13 = .ok (.iadd, 1) := by decide +kernel
theorem d_Mo_verse_14 : decode M_Mo_verse.1 14 = .ok (.sipush 999, 3) := by decide +kernel
theorem d_Mo_verse_17 : decode M_Mo_verse.1 17 = .ok (.if_icmp .le 6, 3) := by decide +kernel
theorem d_Mo_verse_20 : decode M_Mo_verse.1 20 = .ok (.ldc 120, 2) := by decide +kernel
theorem d_Mo_verse_22 : decode M_Mo_verse.1 22 = .ok (.ireturn, 1) := by decide +kernel
theorem d_Mo_verse_23 : decode M_Mo_verse.1 23 = .ok (.aload_n 0, 1) := by decide +kernel
theorem d_Mo_verse_24 : decode M_Mo_verse.1 24 = .ok (.invokevirtual 121, 3) := by decide +kernel
theorem d_Mo_verse_27 : decode M_Mo_verse.1 27 = .ok (.iconst 0, 1) := by decide +kernel
theorem d_Mo_verse_28 : decode M_Mo_verse.1 28 = .ok (.istore_n 1, 1) := by decide +kernel
theorem d_Mo_verse_29 : decode M_Mo_verse.1 29 = .ok (.iload_n 1, 1) := by decide +kernel
theorem d_Mo_verse_30 : decode M_Mo_verse.1 30 = .ok (.aload_n 0, 1) := by decide +kernel
theorem d_Mo_verse_31 : decode M_Mo_verse.1 31 = .ok (.getfield 7, 3) := by decide +kernel
theorem d_Mo_verse_34 : decode M_Mo_verse.1 34 = .ok (.iconst 2, 1) := by decide +kernel
theorem d_Mo_verse_35 : decode M_Mo_verse.1 35 = .ok (.iaload, 1) := by decide +kernel
theorem d_Mo_verse_36 : decode M_Mo_verse.1 36 = .ok (.if_icmp .ge 17, 3) := by decide +kernel
theorem d_Mo_verse_39 : decode M_Mo_verse.1 39 = .ok (.aload_n 0, 1) := by decide +kernel
theorem d_Mo_verse_40 : decode M_Mo_verse.1 40 = .ok (.aload_n 0, 1) := by decide +kernel
theorem d_Mo_verse_41 : decode M_Mo_verse.1 41 = .ok (.getfield 7, 3) := by decide +kernel
theorem d_Mo_verse_44 : decode M_Mo_verse.1 44 = .ok (.invokevirtual 124, 3) := by decide +kernel
theorem d_Mo_verse_47 : decode M_Mo_verse.1 47 = .ok (.iinc 1 1, 3) := by decide +kernel
theorem d_Mo_verse_50 : decode M_Mo_verse.1 50 = .ok (.goto (-21), 3) := by decide +kernel
theorem d_Mo_verse_53 : decode M_Mo_verse.1 53 = .ok (.aload_n 0, 1) := by decide +kernel
theorem d_Mo_verse_54 : decode M_Mo_verse.1 54 = .ok (.getfield 7, 3) := by decide +kernel
theorem d_Mo_verse_57 : decode M_Mo_verse.1 57 = .ok (.aload_n 0, 1) := by decide +kernel
theorem d_Mo_verse_58 : decode M_Mo_verse.1 58 = .ok (.getfield 7, 3) := by decide +kernel
theorem d_Mo_verse_61 : decode M_Mo_verse.1 61 = .ok (.iconst 3, 1) := by decide +kernel
theorem d_Mo_verse_62 : decode M_Mo_verse.1 62 = .ok (.iaload, 1) := by decide +kernel
theorem d_Mo_verse_63 : decode M_Mo_verse.1 63 = .ok (.invokestatic 127, 3) := by decide +kernel
theorem d_Mo_verse_66 : decode M_Mo_verse.1 66 = .ok (.aload_n 0, 1) := by decide +kernel
theorem d_Mo_verse_67 : decode M_Mo_verse.1 67 = .ok (.getfield 7, 3) := by decide +kernel
theorem d_Mo_verse_70 : decode M_Mo_verse.1 70 = .ok (.bipush 34, 2) := by decide +kernel
theorem d_Mo_verse_72 : decode M_Mo_verse.1 72 = .ok (.iaload, 1) := by decide +kernel
theorem d_Mo_verse_73 : decode M_Mo_verse.1 73 = .ok (.ireturn, 1) := by decide +kernel
theorem d_Mo_puts_0 : decode M_Mo_puts.1 0 = .ok (.aload_n 0, 1) := by decide +kernel
theorem d_Mo_puts_1 : decode M_Mo_puts.1 1 = .ok (.invokevirtual 121, 3) := by decide +kernel
theorem d_Mo_puts_4 : decode M_Mo_puts.1 4 = .ok (.aload_n 0, 1) := by decide +kernel
theorem d_Mo_puts_5 : decode M_Mo_puts.1 5 = .ok (.getfield 7, 3) := by decide +kernel
theorem d_Mo_puts_8 : decode M_Mo_puts.1 8 = .ok (.iload_n 1, 1) := by decide +kernel
theorem d_Mo_puts_9 : decode M_Mo_puts.1 9 = .ok (.iaload, 1) := by decide +kernel
theorem d_Mo_puts_10 : decode M_Mo_puts.1 10 = .ok (.istore_n 3, 1) := by decide +kernel
theorem d_Mo_puts_11 : decode M_Mo_puts.1 11 = .ok (.aload_n 0, 1) := by decide +kernel
theorem d_Mo_puts_12 : decode M_Mo_puts.1 12 = .ok (.getfield 7, 3) := by decide +kernel
theorem d_Mo_puts_15 : decode M_Mo_puts.1 15 = .ok (.iload_n 1, 1) := by decide +kernel
theorem d_Mo_puts_16 : decode M_Mo_puts.1 16 = .ok (.iload_n 2, 1) := by decide +kernel
theorem d_Mo_puts_17 : decode M_Mo_puts.1 17 = .ok (.iastore, 1) := by decide +kernel
theorem d_Mo_puts_18 : decode M_Mo_puts.1 18 = .ok (.iload_n 3, 1) := by decide +kernel
theorem d_Mo_puts_19 : decode M_Mo_puts.1 19 = .ok (.ireturn, 1) := by decide +kernel
theorem d_Mo_ahead_0 : decode M_Mo_ahead.1 0 = .ok (.iload_n 1, 1) := by decide +kernel
theorem d_Mo_ahead_1 : decode M_Mo_ahead.1 1 = .ok (.i2l, 1) := by decide +kernel
theorem d_Mo_ahead_2 : decode M_Mo_ahead.1 2 = .ok (.lconst 0, 1) := by decide +kernel
theorem d_Mo_ahead_3 : decode M_Mo_ahead.1 3 = .ok (.ldc2_w 131, 3) := by decide +kernel
theorem d_Mo_ahead_6 : decode M_Mo_ahead.1 6 = .ok (.invokestatic 45, 3) := by decide +kernel
theorem d_Mo_ahead_9 : decode M_Mo_ahead.1 9 = .ok (.ifCond .eq 13, 3) := by decide +kernel
theorem d_Mo_ahead_12 : decode M_Mo_ahead.1 12 = .ok (.aload_n 0, 1) := by decide +kernel
theorem d_Mo_ahead_13 : decode M_Mo_ahead.1 13 = .ok (.bipush 35, 2) := by decide +kernel
theorem d_Mo_ahead_15 : decode M_Mo_ahead.1 15 = .ok (.iload_n 1, 1) := by decide +kernel
theorem d_Mo_ahead_16 : decode M_Mo_ahead.1 16 = .ok (.invokevirtual 133, 3) := by decide +kernel
theorem d_Mo_ahead_19 : decode M_Mo_ahead.1 19 = .ok (.goto 5, 3) := by decide +kernel
theorem d_Mo_ahead_22 : decode M_Mo_ahead.1 22 = .ok (.ldc 51, 2) := by decide +kernel
theorem d_Mo_ahead_24 : decode M_Mo_ahead.1 24 = .ok (.ireturn, 1) := by decide +kernel
theorem d_Mo_choir_0 : decode M_Mo_choir.1 0 = .ok (.aload_n 0, 1) := by decide +kernel
theorem d_Mo_choir_1 : decode M_Mo_choir.1 1 = .ok (.iload_n 1, 1) := by decide +kernel
theorem d_Mo_choir_2 : decode M_Mo_choir.1 2 = .ok (.invokevirtual 102, 3) := by decide +kernel
theorem d_Mo_choir_5 : decode M_Mo_choir.1 5 = .ok (.ifCond .ne 12, 3) := by decide +kernel
theorem d_Mo_choir_8 : decode M_Mo_choir.1 8 = .ok (.iload_n 1, 1) := by decide +kernel
theorem d_Mo_choir_9 : decode M_Mo_choir.1 9 = .ok (.ldc 107, 2) := by decide +kernel
theorem d_Mo_choir_11 : decode M_Mo_choir.1 11 = .ok (.if_icmp .eq 6, 3) := by decide +kernel
theorem d_Mo_choir_14 : decode M_Mo_choir.1 14 = .ok (.ldc 51, 2) := by decide +kernel
theorem d_Mo_choir_16 : decode M_Mo_choir.1 16 = .ok (.ireturn, 1) := by decide +kernel
theorem d_Mo_choir_17 : decode M_Mo_choir.1 17 = .ok (.aload_n 0, 1) := by decide +kernel
theorem d_Mo_choir_18 : decode M_Mo_choir.1 18 = .ok (.bipush 36, 2) := by decide +kernel
theorem d_Mo_choir_20 : decode M_Mo_choir.1 20 = .ok (.iload_n 1, 1) := by decide +kernel
theorem d_Mo_choir_21 : decode M_Mo_choir.1 21 = .ok (.ldc 107, 2) := by decide +kernel
theorem d_Mo_choir_23 : decode M_Mo_choir.1 23 = .ok (.if_icmp .ne 7, 3) := by decide +kernel
theorem d_Mo_choir_26 : decode M_Mo_choir.1 26 = .ok (.iconst (-1), 1) := by decide +kernel
theorem d_Mo_choir_27 : decode M_Mo_choir.1 27 = .ok (.goto 4, 3) := by decide +kernel
theorem d_Mo_choir_30 : decode M_Mo_choir.1 30 = .ok (.iload_n 1, 1) := by decide +kernel
theorem d_Mo_choir_31 : decode M_Mo_choir.1 31 = .ok (.invokevirtual 133, 3) := by decide +kernel
theorem d_Mo_choir_34 : decode M_Mo_choir.1 34 = .ok (.istore_n 2, 1) := by decide +kernel
theorem d_Mo_choir_35 : decode M_Mo_choir.1 35 = .ok (.iload_n 2, 1) := by decide +kernel
theorem d_Mo_choir_36 : decode M_Mo_choir.1 36 = .ok (.ifCond .ge 8, 3) := by decide +kernel
theorem d_Mo_choir_39 : decode M_Mo_choir.1 39 = .ok (.ldc 107, 2) := by decide +kernel
theorem d_Mo_choir_41 : decode M_Mo_choir.1 41 = .ok (.goto 4, 3) := by decide +kernel
theorem d_Mo_choir_44 : decode M_Mo_choir.1 44 = .ok (.iload_n 2, 1) := by decide +kernel
theorem d_Mo_choir_45 : decode M_Mo_choir.1 45 = .ok (.ireturn, 1) := by decide +kernel
theorem d_Mo_bits_0 : decode M_Mo_bits.1 0 = .ok (.iconst 0, 1) := by decide +kernel
theorem d_Mo_bits_1 : decode M_Mo_bits.1 1 = .ok (.istore_n 1, 1) := by decide +kernel
theorem d_Mo_bits_2 : decode M_Mo_bits.1 2 = .ok (.iload_n 0, 1) := by decide +kernel
theorem d_Mo_bits_3 : decode M_Mo_bits.1 3 = .ok (.istore_n 2, 1) := by decide +kernel
theorem d_Mo_bits_4 : decode M_Mo_bits.1 4 = .ok (.iload_n 2, 1) := by decide +kernel
theorem d_Mo_bits_5 : decode M_Mo_bits.1 5 = .ok (.ifCond .eq 15, 3) := by decide +kernel
theorem d_Mo_bits_8 : decode M_Mo_bits.1 8 = .ok (.iinc 1 1, 3) := by decide +kernel
theorem d_Mo_bits_11 : decode M_Mo_bits.1 11 = .ok (.iload_n 2, 1) := by decide +kernel
theorem d_Mo_bits_12 : decode M_Mo_bits.1 12 = .ok (.iload_n 2, 1) := by decide +kernel
theorem d_Mo_bits_13 : decode M_Mo_bits.1 13 = .ok (.iconst 1, 1) := by decide +kernel
theorem d_Mo_bits_14 : decode M_Mo_bits.1 14 = .ok (.isub, 1) := by decide +kernel
theorem d_Mo_bits_15 : decode M_Mo_bits.1 15 = .ok (.iand, 1) := by decide +kernel
theorem d_Mo_bits_16 : decode M_Mo_bits.1 16 = .ok (.istore_n 2, 1) := by decide +kernel
theorem d_Mo_bits_17 : decode M_Mo_bits.1 17 = .ok (.goto (-13), 3) := by decide +kernel
theorem d_Mo_bits_20 : decode M_Mo_bits.1 20 = .ok (.iload_n 1, 1) := by decide +kernel
theorem d_Mo_bits_21 : decode M_Mo_bits.1 21 = .ok (.ireturn, 1) := by decide +kernel
theorem d_Mo_knows_0 : decode M_Mo_knows.1 0 = .ok (.aload_n 0, 1) := by decide +kernel
theorem d_Mo_knows_1 : decode M_Mo_knows.1 1 = .ok (.iload_n 1, 1) := by decide +kernel
theorem d_Mo_knows_2 : decode M_Mo_knows.1 2 = .ok (.invokevirtual 102, 3) := by decide +kernel
theorem d_Mo_knows_5 : decode M_Mo_knows.1 5 = .ok (.ifCond .eq 10, 3) := by decide +kernel
theorem d_Mo_knows_8 : decode M_Mo_knows.1 8 = .ok (.iload_n 2, 1) := by decide +kernel
theorem d_Mo_knows_9 : decode M_Mo_knows.1 9 = .ok (.invokestatic 137, 3) := by decide +kernel
theorem d_Mo_knows_12 : decode M_Mo_knows.1 12 = .ok (.ifCond .ne 6, 3) := by decide +kernel
theorem d_Mo_knows_15 : decode M_Mo_knows.1 15 = .ok (.ldc 51, 2) := by decide +kernel
theorem d_Mo_knows_17 : decode M_Mo_knows.1 17 = .ok (.ireturn, 1) := by decide +kernel
theorem d_Mo_knows_18 : decode M_Mo_knows.1 18 = .ok (.aload_n 0, 1) := by decide +kernel
theorem d_Mo_knows_19 : decode M_Mo_knows.1 19 = .ok (.bipush 37, 2) := by decide +kernel
theorem d_Mo_knows_21 : decode M_Mo_knows.1 21 = .ok (.aload_n 0, 1) := by decide +kernel
theorem d_Mo_knows_22 : decode M_Mo_knows.1 22 = .ok (.getfield 7, 3) := by decide +kernel
theorem d_Mo_knows_25 : decode M_Mo_knows.1 25 = .ok (.bipush 37, 2) := by decide +kernel
theorem d_Mo_knows_27 : decode M_Mo_knows.1 27 = .ok (.iaload, 1) := by decide +kernel
theorem d_Mo_knows_28 : decode M_Mo_knows.1 28 = .ok (.iconst 1, 1) := by decide +kernel
theorem d_Mo_knows_29 : decode M_Mo_knows.1 29 = .ok (.iload_n 1, 1) := by decide +kernel
theorem d_Mo_knows_30 : decode M_Mo_knows.1 30 = .ok (.ishl, 1) := by decide +kernel
theorem d_Mo_knows_31 : decode M_Mo_knows.1 31 = .ok (.iconst (-1), 1) := by decide +kernel
theorem d_Mo_knows_32 : decode M_Mo_knows.1 32 = .ok (.ixor, 1) := by decide +kernel
theorem d_Mo_knows_33 : decode M_Mo_knows.1 33 = .ok (.iand, 1) := by decide +kernel
theorem d_Mo_knows_34 : decode M_Mo_knows.1 34 = .ok (.iload_n 2, 1) := by decide +kernel
theorem d_Mo_knows_35 : decode M_Mo_knows.1 35 = .ok (.iload_n 1, 1) := by decide +kernel
theorem d_Mo_knows_36 : decode M_Mo_knows.1 36 = .ok (.ishl, 1) := by decide +kernel
theorem d_Mo_knows_37 : decode M_Mo_knows.1 37 = .ok (.ior, 1) := by decide +kernel
theorem d_Mo_knows_38 : decode M_Mo_knows.1 38 = .ok (.invokevirtual 133, 3) := by decide +kernel
theorem d_Mo_knows_41 : decode M_Mo_knows.1 41 = .ok (.istore_n 3, 1) := by decide +kernel
theorem d_Mo_knows_42 : decode M_Mo_knows.1 42 = .ok (.aload_n 0, 1) := by decide +kernel
theorem d_Mo_knows_43 : decode M_Mo_knows.1 43 = .ok (.getfield 7, 3) := by decide +kernel
theorem d_Mo_knows_46 : decode M_Mo_knows.1 46 = .ok (.bipush 37, 2) := by decide +kernel
theorem d_Mo_knows_48 : decode M_Mo_knows.1 48 = .ok (.iaload, 1) := by decide +kernel
theorem d_Mo_knows_49 : decode M_Mo_knows.1 49 = .ok (.invokestatic 140, 3) := by decide +kernel
theorem d_Mo_knows_52 : decode M_Mo_knows.1 52 = .ok (.ireturn, 1) := by decide +kernel
theorem d_Mo_waits_0 : decode M_Mo_waits.1 0 = .ok (.iload_n 1, 1) := by decide +kernel
theorem d_Mo_waits_1 : decode M_Mo_waits.1 1 = .ok (.i2l, 1) := by decide +kernel
theorem d_Mo_waits_2 : decode M_Mo_waits.1 2 = .ok (.lconst 0, 1) := by decide +kernel
theorem d_Mo_waits_3 : decode M_Mo_waits.1 3 = .ok (.ldc2_w 144, 3) := by decide +kernel
theorem d_Mo_waits_6 : decode M_Mo_waits.1 6 = .ok (.invokestatic 45, 3) := by decide +kernel
theorem d_Mo_waits_9 : decode M_Mo_waits.1 9 = .ok (.ifCond .eq 12, 3) := by decide +kernel
theorem d_Mo_waits_12 : decode M_Mo_waits.1 12 = .ok (.aload_n 0, 1) := by decide +kernel
theorem d_Mo_waits_13 : decode M_Mo_waits.1 13 = .ok (.iconst 1, 1) := by decide +kernel
theorem d_Mo_waits_14 : decode M_Mo_waits.1 14 = .ok (.iload_n 1, 1) := by decide +kernel
theorem d_Mo_waits_15 : decode M_Mo_waits.1 15 = .ok (.invokevirtual 133, 3) := by decide +kernel
theorem d_Mo_waits_18 : decode M_Mo_waits.1 18 = .ok (.goto 5, 3) := by decide +kernel
theorem d_Mo_waits_21 : decode M_Mo_waits.1 21 = .ok (.ldc 51, 2) := by decide +kernel
theorem d_Mo_waits_23 : decode M_Mo_waits.1 23 = .ok (.ireturn, 1) := by decide +kernel
theorem d_Mo_undo_0 : decode M_Mo_undo.1 0 = .ok (.aload_n 0, 1) := by decide +kernel
theorem d_Mo_undo_1 : decode M_Mo_undo.1 1 = .ok (.getfield 96, 3) := by decide +kernel
theorem d_Mo_undo_4 : decode M_Mo_undo.1 4 = .ok (.ifCond .ne 6, 3) := by decide +kernel
theorem d_Mo_undo_7 : decode M_Mo_undo.1 7 = .ok (.ldc 120, 2) := by decide +kernel
theorem d_Mo_undo_9 : decode M_Mo_undo.1 9 = .ok (.ireturn, 1) := by decide +kernel
theorem d_Mo_undo_10 : decode M_Mo_undo.1 10 = .ok (.aload_n 0, 1) := by decide +kernel
theorem d_Mo_undo_11 : decode M_Mo_undo.1 11 = .ok (.dup, 1) := by decide +kernel
theorem d_Mo_undo_12 : decode M_Mo_undo.1 12 = .ok (.getfield 96, 3) := by decide +kernel
theorem d_Mo_undo_15 : decode M_Mo_undo.1 15 = .ok (.iconst 1, 1) := by decide +kernel
theorem d_Mo_undo_16 : decode M_Mo_undo.1 16 = .ok (.isub, 1) := by decide +kernel
theorem d_Mo_undo_17 : decode M_Mo_undo.1 17 = .ok (.putfield 96, 3) := by decide +kernel
theorem d_Mo_undo_20 : decode M_Mo_undo.1 20 = .ok (.aload_n 0, 1) := by decide +kernel
theorem d_Mo_undo_21 : decode M_Mo_undo.1 21 = .ok (.getfield 13, 3) := by decide +kernel
theorem d_Mo_undo_24 : decode M_Mo_undo.1 24 = .ok (.bipush 39, 2) := by decide +kernel
theorem d_Mo_undo_26 : decode M_Mo_undo.1 26 = .ok (.aload_n 0, 1) := by decide +kernel
theorem d_Mo_undo_27 : decode M_Mo_undo.1 27 = .ok (.getfield 96, 3) := by decide +kernel
theorem d_Mo_undo_30 : decode M_Mo_undo.1 30 = .ok (.imul, 1) := by decide +kernel
theorem d_Mo_undo_31 : decode M_Mo_undo.1 31 = .ok (.aload_n 0, 1) := by decide +kernel
theorem d_Mo_undo_32 : decode M_Mo_undo.1 32 = .ok (.getfield 7, 3) := by decide +kernel
theorem d_Mo_undo_35 : decode M_Mo_undo.1 35 = .ok (.iconst 0, 1) := by decide +kernel
theorem d_Mo_undo_36 : decode M_Mo_undo.1 36 = .ok (.invokestatic 92, 3) := by decide +kernel
theorem d_Mo_undo_39 : decode M_Mo_undo.1 39 = .ok (.aload_n 0, 1) := by decide +kernel
theorem d_Mo_undo_40 : decode M_Mo_undo.1 40 = .ok (.getfield 96, 3) := by decide +kernel
theorem d_Mo_undo_43 : decode M_Mo_undo.1 43 = .ok (.ireturn, 1) := by decide +kernel
theorem d_Mo_asNow_0 : decode M_Mo_asNow.1 0 = .ok (.aload_n 0, 1) := by decide +kernel
theorem d_Mo_asNow_1 : decode M_Mo_asNow.1 1 = .ok (.getfield 7, 3) := by decide +kernel
theorem d_Mo_asNow_4 : decode M_Mo_asNow.1 4 = .ok (.iconst 0, 1) := by decide +kernel
theorem d_Mo_asNow_5 : decode M_Mo_asNow.1 5 = .ok (.aload_n 0, 1) := by decide +kernel
theorem d_Mo_asNow_6 : decode M_Mo_asNow.1 6 = .ok (.getfield 35, 3) := by decide +kernel
theorem d_Mo_asNow_9 : decode M_Mo_asNow.1 9 = .ok (.iconst 0, 1) := by decide +kernel
theorem d_Mo_asNow_10 : decode M_Mo_asNow.1 10 = .ok (.invokestatic 92, 3) := by decide +kernel
theorem d_Mo_asNow_13 : decode M_Mo_asNow.1 13 = .ok (.return_, 1) := by decide +kernel
theorem d_Mo_go_0 : decode M_Mo_go.1 0 = .ok (.iconst 0, 1) := by decide +kernel
theorem d_Mo_go_1 : decode M_Mo_go.1 1 = .ok (.istore_n 2, 1) := by decide +kernel
theorem d_Mo_go_2 : decode M_Mo_go.1 2 = .ok (.iload_n 2, 1) := by decide +kernel
theorem d_Mo_go_3 : decode M_Mo_go.1 3 = .ok (.iload_n 1, 1) := by decide +kernel
theorem d_Mo_go_4 : decode M_Mo_go.1 4 = .ok (.if_icmp .ge 17, 3) := by decide +kernel
theorem d_Mo_go_7 : decode M_Mo_go.1 7 = .ok (.aload_n 0, 1) := by decide +kernel
theorem d_Mo_go_8 : decode M_Mo_go.1 8 = .ok (.aload_n 0, 1) := by decide +kernel
theorem d_Mo_go_9 : decode M_Mo_go.1 9 = .ok (.getfield 35, 3) := by decide +kernel
theorem d_Mo_go_12 : decode M_Mo_go.1 12 = .ok (.invokevirtual 124, 3) := by decide +kernel
theorem d_Mo_go_15 : decode M_Mo_go.1 15 = .ok (.iinc 2 1, 3) := by decide +kernel
theorem d_Mo_go_18 : decode M_Mo_go.1 18 = .ok (.goto (-16), 3) := by decide +kernel
theorem d_Mo_go_21 : decode M_Mo_go.1 21 = .ok (.return_, 1) := by decide +kernel
theorem d_Mo_behind_0 : decode M_Mo_behind.1 0 = .ok (.iload_n 1, 1) := by decide +kernel
theorem d_Mo_behind_1 : decode M_Mo_behind.1 1 = .ok (.i2l, 1) := by decide +kernel
theorem d_Mo_behind_2 : decode M_Mo_behind.1 2 = .ok (.lconst 0, 1) := by decide +kernel
theorem d_Mo_behind_3 : decode M_Mo_behind.1 3 = .ok (.ldc2_w 146, 3) := by decide +kernel
theorem d_Mo_behind_6 : decode M_Mo_behind.1 6 = .ok (.invokestatic 45, 3) := by decide +kernel
theorem d_Mo_behind_9 : decode M_Mo_behind.1 9 = .ok (.ifCond .eq 22, 3) := by decide +kernel
theorem d_Mo_behind_12 : decode M_Mo_behind.1 12 = .ok (.aload_n 0, 1) := by decide +kernel
theorem d_Mo_behind_13 : decode M_Mo_behind.1 13 = .ok (.iload_n 2, 1) := by decide +kernel
theorem d_Mo_behind_14 : decode M_Mo_behind.1 14 = .ok (.invokevirtual 102, 3) := by decide +kernel
theorem d_Mo_behind_17 : decode M_Mo_behind.1 17 = .ok (.ifCond .ne 17, 3) := by decide +kernel
theorem d_Mo_behind_20 : decode M_Mo_behind.1 20 = .ok (.iload_n 2, 1) := by decide +kernel
theorem d_Mo_behind_21 : decode M_Mo_behind.1 21 = .ok (.iconst (-1), 1) := by decide +kernel
theorem d_Mo_behind_22 : decode M_Mo_behind.1 22 = .ok (.if_icmp .eq 12, 3) := by decide +kernel
theorem d_Mo_behind_25 : decode M_Mo_behind.1 25 = .ok (.iload_n 2, 1) := by decide +kernel
theorem d_Mo_behind_26 : decode M_Mo_behind.1 26 = .ok (.bipush (-2), 2) := by decide +kernel
theorem d_Mo_behind_28 : decode M_Mo_behind.1 28 = .ok (.if_icmp .eq 6, 3) := by decide +kernel
theorem d_Mo_behind_31 : decode M_Mo_behind.1 31 = .ok (.ldc 51, 2) := by decide +kernel
theorem d_Mo_behind_33 : decode M_Mo_behind.1 33 = .ok (.ireturn, 1) := by decide +kernel
theorem d_Mo_behind_34 : decode M_Mo_behind.1 34 = .ok (.aload_n 0, 1) := by decide +kernel
theorem d_Mo_behind_35 : decode M_Mo_behind.1 35 = .ok (.invokevirtual 148, 3) := by decide +kernel
theorem d_Mo_behind_38 : decode M_Mo_behind.1 38 = .ok (.aload_n 0, 1) := by decide +kernel
theorem d_Mo_behind_39 : decode M_Mo_behind.1 39 = .ok (.iload_n 1, 1) := by decide +kernel
theorem d_Mo_behind_40 : decode M_Mo_behind.1 40 = .ok (.invokevirtual 151, 3) := by decide +kernel
theorem d_Mo_behind_43 : decode M_Mo_behind.1 43 = .ok (.iload_n 2, 1) := by decide +kernel
theorem d_Mo_behind_44 : decode M_Mo_behind.1 44 = .ok (.iconst (-1), 1) := by decide +kernel
theorem d_Mo_behind_45 : decode M_Mo_behind.1 45 = .ok (.if_icmp .ne 13, 3) := by decide +kernel
theorem d_Mo_behind_48 : decode M_Mo_behind.1 48 = .ok (.aload_n 0, 1) := by decide +kernel
theorem d_Mo_behind_49 : decode M_Mo_behind.1 49 = .ok (.getfield 35, 3) := by decide +kernel
theorem d_Mo_behind_52 : decode M_Mo_behind.1 52 = .ok (.bipush 34, 2) := by decide +kernel
theorem d_Mo_behind_54 : decode M_Mo_behind.1 54 = .ok (.iaload, 1) := by decide +kernel
theorem d_Mo_behind_55 : decode M_Mo_behind.1 55 = .ok (.goto 28, 3) := by decide +kernel
theorem d_Mo_behind_58 : decode M_Mo_behind.1 58 = .ok (.iload_n 2, 1) := by decide +kernel
theorem d_Mo_behind_59 : decode M_Mo_behind.1 59 = .ok (.bipush (-2), 2) := by decide +kernel
theorem d_Mo_behind_61 : decode M_Mo_behind.1 61 = .ok (.if_icmp .ne 13, 3) := by decide +kernel
theorem d_Mo_behind_64 : decode M_Mo_behind.1 64 = .ok (.aload_n 0, 1) := by decide +kernel
theorem d_Mo_behind_65 : decode M_Mo_behind.1 65 = .ok (.getfield 35, 3) := by decide +kernel
theorem d_Mo_behind_68 : decode M_Mo_behind.1 68 = .ok (.invokestatic 108, 3) := by decide +kernel
theorem d_Mo_behind_71 : decode M_Mo_behind.1 71 = .ok (.goto 12, 3) := by decide +kernel
theorem d_Mo_behind_74 : decode M_Mo_behind.1 74 = .ok (.aload_n 0, 1) := by decide +kernel
theorem d_Mo_behind_75 : decode M_Mo_behind.1 75 = .ok (.getfield 35, 3) := by decide +kernel
theorem d_Mo_behind_78 : decode M_Mo_behind.1 78 = .ok (.bipush 28, 2) := by decide +kernel
theorem d_Mo_behind_80 : decode M_Mo_behind.1 80 = .ok (.iload_n 2, 1) := by decide +kernel
theorem d_Mo_behind_81 : decode M_Mo_behind.1 81 = .ok (.iadd, 1) := by decide +kernel
theorem d_Mo_behind_82 : decode M_Mo_behind.1 82 = .ok (.iaload, 1) := by decide +kernel
theorem d_Mo_behind_83 : decode M_Mo_behind.1 83 = .ok (.ireturn, 1) := by decide +kernel
theorem d_Mo_asleep_0 : decode M_Mo_asleep.1 0 = .ok (.iload_n 1, 1) := by decide +kernel
theorem d_Mo_asleep_1 : decode M_Mo_asleep.1 1 = .ok (.i2l, 1) := by decide +kernel
theorem d_Mo_asleep_2 : decode M_Mo_asleep.1 2 = .ok (.lconst 1, 1) := by decide +kernel
theorem d_Mo_asleep_3 : decode M_Mo_asleep.1 3 = .ok (.ldc2_w 155, 3) := by decide +kernel
theorem d_Mo_asleep_6 : decode M_Mo_asleep.1 6 = .ok (.invokestatic 45, 3) := by decide +kernel
theorem d_Mo_asleep_9 : decode M_Mo_asleep.1 9 = .ok (.ifCond .ne 6, 3) := by decide +kernel
theorem d_Mo_asleep_12 : decode M_Mo_asleep.1 12 = .ok (.ldc 51, 2) := by decide +kernel
theorem d_Mo_asleep_14 : decode M_Mo_asleep.1 14 = .ok (.ireturn, 1) := by decide +kernel
theorem d_Mo_asleep_15 : decode M_Mo_asleep.1 15 = .ok (.aload_n 0, 1) := by decide +kernel
theorem d_Mo_asleep_16 : decode M_Mo_asleep.1 16 = .ok (.invokevirtual 148, 3) := by decide +kernel
theorem d_Mo_asleep_19 : decode M_Mo_asleep.1 19 = .ok (.iconst 0, 1) := by decide +kernel
theorem d_Mo_asleep_20 : decode M_Mo_asleep.1 20 = .ok (.istore_n 2, 1) := by decide +kernel
theorem d_Mo_asleep_21 : decode M_Mo_asleep.1 21 = .ok (.iload_n 2, 1) := by decide +kernel
theorem d_Mo_asleep_22 : decode M_Mo_asleep.1 22 = .ok (.bipush 60, 2) := by decide +kernel
theorem d_Mo_asleep_24 : decode M_Mo_asleep.1 24 = .ok (.if_icmp .gt 27, 3) := by decide +kernel
theorem d_Mo_asleep_27 : decode M_Mo_asleep.1 27 = .ok (.aload_n 0, 1) := by decide +kernel
theorem d_Mo_asleep_28 : decode M_Mo_asleep.1 28 = .ok (.getfield 35, 3) := by decide +kernel
theorem d_Mo_asleep_31 : decode M_Mo_asleep.1 31 = .ok (.bipush 34, 2) := by decide +kernel
theorem d_Mo_asleep_33 : decode M_Mo_asleep.1 33 = .ok (.iaload, 1) := by decide +kernel
theorem d_Mo_asleep_34 : decode M_Mo_asleep.1 34 = .ok (.iload_n 1, 1) := by decide +kernel
theorem d_Mo_asleep_35 : decode M_Mo_asleep.1 35 = .ok (.if_icmp .lt 5, 3) := by decide +kernel
theorem d_Mo_asleep_38 : decode M_Mo_asleep.1 38 = .ok (.iload_n 2, 1) := by decide +kernel
theorem d_Mo_asleep_39 : decode M_Mo_asleep.1 39 = .ok (.ireturn, 1) := by decide +kernel
theorem d_Mo_asleep_40 : decode M_Mo_asleep.1 40 = .ok (.aload_n 0, 1) := by decide +kernel
theorem d_Mo_asleep_41 : decode M_Mo_asleep.1 41 = .ok (.iconst 1, 1) := by decide +kernel
theorem d_Mo_asleep_42 : decode M_Mo_asleep.1 42 = .ok (.invokevirtual 151, 3) := by decide +kernel
theorem d_Mo_asleep_45 : decode M_Mo_asleep.1 45 = .ok (.iinc 2 1, 3) := by decide +kernel
theorem d_Mo_asleep_48 : decode M_Mo_asleep.1 48 = .ok (.goto (-27), 3) := by decide +kernel
theorem d_Mo_asleep_51 : decode M_Mo_asleep.1 51 = .ok (.ldc 107, 2) := by decide +kernel
theorem d_Mo_asleep_53 : decode M_Mo_asleep.1 53 = .ok (.ireturn, 1) := by decide +kernel
theorem d_Mo_rest_0 : decode M_Mo_rest.1 0 = .ok (.aload_n 0, 1) := by decide +kernel
theorem d_Mo_rest_1 : decode M_Mo_rest.1 1 = .ok (.invokevirtual 148, 3) := by decide +kernel
theorem d_Mo_rest_4 : decode M_Mo_rest.1 4 = .ok (.iconst 0, 1) := by decide +kernel
theorem d_Mo_rest_5 : decode M_Mo_rest.1 5 = .ok (.istore_n 1, 1) := by decide +kernel
theorem d_Mo_rest_6 : decode M_Mo_rest.1 6 = .ok (.iload_n 1, 1) := by decide +kernel
theorem d_Mo_rest_7 : decode M_Mo_rest.1 7 = .ok (.bipush 60, 2) := by decide +kernel
theorem d_Mo_rest_9 : decode M_Mo_rest.1 9 = .ok (.if_icmp .gt 97, 3) := by decide +kernel
theorem d_Mo_rest_12 : decode M_Mo_rest.1 12 = .ok (.iconst 0, 1) := by decide +kernel
theorem d_Mo_rest_13 : decode M_Mo_rest.1 13 = .ok (.istore_n 2, 1) := by decide +kernel
theorem d_Mo_rest_14 : decode M_Mo_rest.1 14 = .ok (.iload_n 2, 1) := by decide +kernel
theorem d_Mo_rest_15 : decode M_Mo_rest.1 15 = .ok (.bipush 6, 2) := by decide +kernel
theorem d_Mo_rest_17 : decode M_Mo_rest.1 17 = .ok (.if_icmp .ge 24, 3) := by decide +kernel
theorem d_Mo_rest_20 : decode M_Mo_rest.1 20 = .ok (.aload_n 0, 1) := by decide +kernel
theorem d_Mo_rest_21 : decode M_Mo_rest.1 21 = .ok (.getfield 38, 3) := by decide +kernel
theorem d_Mo_rest_24 : decode M_Mo_rest.1 24 = .ok (.iload_n 2, 1) := by decide +kernel
theorem d_Mo_rest_25 : decode M_Mo_rest.1 25 = .ok (.aload_n 0, 1) := by decide +kernel
theorem d_Mo_rest_26 : decode M_Mo_rest.1 26 = .ok (.getfield 35, 3) := by decide +kernel
theorem d_Mo_rest_29 : decode M_Mo_rest.1 29 = .ok (.bipush 28, 2) := by decide +kernel
theorem d_Mo_rest_31 : decode M_Mo_rest.1 31 = .ok (.iload_n 2, 1) := by decide +kernel
theorem d_Mo_rest_32 : decode M_Mo_rest.1 32 = .ok (.iadd, 1) := by decide +kernel
theorem d_Mo_rest_33 : decode M_Mo_rest.1 33 = .ok (.iaload, 1) := by decide +kernel
theorem d_Mo_rest_34 : decode M_Mo_rest.1 34 = .ok (.iastore, 1) := by decide +kernel
theorem d_Mo_rest_35 : decode M_Mo_rest.1 35 = .ok (.iinc 2 1, 3) := by decide +kernel
theorem d_Mo_rest_38 : decode M_Mo_rest.1 38 = .ok (.goto (-24), 3) := by decide +kernel
theorem d_Mo_rest_41 : decode M_Mo_rest.1 41 = .ok (.aload_n 0, 1) := by decide +kernel
theorem d_Mo_rest_42 : decode M_Mo_rest.1 42 = .ok (.iconst 1, 1) := by decide +kernel
theorem d_Mo_rest_43 : decode M_Mo_rest.1 43 = .ok (.invokevirtual 151, 3) := by decide +kernel
theorem d_Mo_rest_46 : decode M_Mo_rest.1 46 = .ok (.iconst 1, 1) := by decide +kernel
theorem d_Mo_rest_47 : decode M_Mo_rest.1 47 = .ok (.istore_n 2, 1) := by decide +kernel
theorem d_Mo_rest_48 : decode M_Mo_rest.1 48 = .ok (.iconst 0, 1) := by decide +kernel
theorem d_Mo_rest_49 : decode M_Mo_rest.1 49 = .ok (.istore_n 3, 1) := by decide +kernel
theorem d_Mo_rest_50 : decode M_Mo_rest.1 50 = .ok (.iload_n 3, 1) := by decide +kernel
theorem d_Mo_rest_51 : decode M_Mo_rest.1 51 = .ok (.aload_n 0, 1) := by decide +kernel
theorem d_Mo_rest_52 : decode M_Mo_rest.1 52 = .ok (.getfield 7, 3) := by decide +kernel
theorem d_Mo_rest_55 : decode M_Mo_rest.1 55 = .ok (.iconst 0, 1) := by decide +kernel
theorem d_Mo_rest_56 : decode M_Mo_rest.1 56 = .ok (.iaload, 1) := by decide +kernel
theorem d_Mo_rest_57 : decode M_Mo_rest.1 57 = .ok (.if_icmp .ge 37, 3) := by decide +kernel
theorem d_Mo_rest_60 : decode M_Mo_rest.1 60 = .ok (.iload_n 2, 1) := by decide +kernel
theorem d_Mo_rest_61 : decode M_Mo_rest.1 61 = .ok (.ifCond .eq 25, 3) := by decide +kernel
theorem d_Mo_rest_64 : decode M_Mo_rest.1 64 = .ok (.aload_n 0, 1) := by decide +kernel
theorem d_Mo_rest_65 : decode M_Mo_rest.1 65 = .ok (.getfield 38, 3) := by decide +kernel
theorem d_Mo_rest_68 : decode M_Mo_rest.1 68 = .ok (.iload_n 3, 1) := by decide +kernel
theorem d_Mo_rest_69 : decode M_Mo_rest.1 69 = .ok (.iaload, 1) := by decide +kernel
theorem d_Mo_rest_70 : decode M_Mo_rest.1 70 = .ok (.aload_n 0, 1) := by decide +kernel
theorem d_Mo_rest_71 : decode M_Mo_rest.1 71 = .ok (.getfield 35, 3) := by decide +kernel
theorem d_Mo_rest_74 : decode M_Mo_rest.1 74 = .ok (.bipush 28, 2) := by decide +kernel
theorem d_Mo_rest_76 : decode M_Mo_rest.1 76 = .ok (.iload_n 3, 1) := by decide +kernel
theorem d_Mo_rest_77 : decode M_Mo_rest.1 77 = .ok (.iadd, 1) := by decide +kernel
theorem d_Mo_rest_78 : decode M_Mo_rest.1 78 = .ok (.iaload, 1) := by decide +kernel
theorem d_Mo_rest_79 : decode M_Mo_rest.1 79 = .ok (.if_icmp .ne 7, 3) := by decide +kernel
theorem d_Mo_rest_82 : decode M_Mo_rest.1 82 = .ok (.iconst 1, 1) := by decide +kernel
theorem d_Mo_rest_83 : decode M_Mo_rest.1 83 = .ok (.goto 4, 3) := by decide +kernel
theorem d_Mo_rest_86 : decode M_Mo_rest.1 86 = .ok (.iconst 0, 1) := by decide +kernel
theorem d_Mo_rest_87 : decode M_Mo_rest.1 87 = .ok (.istore_n 2, 1) := by decide +kernel
theorem d_Mo_rest_88 : decode M_Mo_rest.1 88 = .ok (.iinc 3 1, 3) := by decide +kernel
theorem d_Mo_rest_91 : decode M_Mo_rest.1 91 = .ok (.goto (-41), 3) := by decide +kernel
theorem d_Mo_rest_94 : decode M_Mo_rest.1 94 = .ok (.iload_n 2, 1) := by decide +kernel
theorem d_Mo_rest_95 : decode M_Mo_rest.1 95 = .ok (.ifCond .eq 5, 3) := by decide +kernel
theorem d_Mo_rest_98 : decode M_Mo_rest.1 98 = .ok (.iload_n 1, 1) := by decide +kernel
theorem d_Mo_rest_99 : decode M_Mo_rest.1 99 = .ok (.ireturn, 1) := by decide +kernel
theorem d_Mo_rest_100 : decode M_Mo_rest.1 100 = .ok (.iinc 1 1, 3) := by decide +kernel
theorem d_Mo_rest_103 : decode M_Mo_rest.1 103 = .ok (.goto (-97), 3) := by decide +kernel
theorem d_Mo_rest_106 : decode M_Mo_rest.1 106 = .ok (.ldc 107, 2) := by decide +kernel
theorem d_Mo_rest_108 : decode M_Mo_rest.1 108 = .ok (.ireturn, 1) := by decide +kernel
theorem d_Mo_isSpan_0 : decode M_Mo_isSpan.1 0 = .ok (.iload_n 0, 1) := by decide +kernel
theorem d_Mo_isSpan_1 : decode M_Mo_isSpan.1 1 = .ok (.i2l, 1) := by decide +kernel
theorem d_Mo_isSpan_2 : decode M_Mo_isSpan.1 2 = .ok (.lconst 1, 1) := by decide +kernel
theorem d_Mo_isSpan_3 : decode M_Mo_isSpan.1 3 = .ok (.ldc2_w 157, 3) := by decide +kernel
theorem d_Mo_isSpan_6 : decode M_Mo_isSpan.1 6 = .ok (.invokestatic 45, 3) := by decide +kernel
theorem d_Mo_isSpan_9 : decode M_Mo_isSpan.1 9 = .ok (.ireturn, 1) := by decide +kernel
theorem d_Mo_greatest_0 : decode M_Mo_greatest.1 0 = .ok (.iconst 0, 1) := by decide +kernel
theorem d_Mo_greatest_1 : decode M_Mo_greatest.1 1 = .ok (.istore_n 1, 1) := by decide +kernel
theorem d_Mo_greatest_2 : decode M_Mo_greatest.1 2 = .ok (.iconst 0, 1) := by decide +kernel
theorem d_Mo_greatest_3 : decode M_Mo_greatest.1 3 = .ok (.istore_n 2, 1) := by decide +kernel
theorem d_Mo_greatest_4 : decode M_Mo_greatest.1 4 = .ok (.iload_n 2, 1) := by decide +kernel
theorem d_Mo_greatest_5 : decode M_Mo_greatest.1 5 = .ok (.aload_n 0, 1) := by decide +kernel
theorem d_Mo_greatest_6 : decode M_Mo_greatest.1 6 = .ok (.iconst 0, 1) := by decide +kernel
theorem d_Mo_greatest_7 : decode M_Mo_greatest.1 7 = .ok (.iaload, 1) := by decide +kernel
theorem d_Mo_greatest_8 : decode M_Mo_greatest.1 8 = .ok (.if_icmp .ge 46, 3) := by decide +kernel
theorem d_Mo_greatest_11 : decode M_Mo_greatest.1 11 = .ok (.aload_n 0, 1) := by decide +kernel
theorem d_Mo_greatest_12 : decode M_Mo_greatest.1 12 = .ok (.bipush 28, 2) := by decide +kernel
theorem d_Mo_greatest_14 : decode M_Mo_greatest.1 14 = .ok (.iload_n 2, 1) := by decide +kernel
theorem d_Mo_greatest_15 : decode M_Mo_greatest.1 15 = .ok (.iadd, 1) := by decide +kernel
theorem d_Mo_greatest_16 : decode M_Mo_greatest.1 16 = .ok (.iaload, 1) := by decide +kernel
theorem d_Mo_greatest_17 : decode M_Mo_greatest.1 17 = .ok (.ifCond .ge 13, 3) := by decide +kernel
theorem d_Mo_greatest_20 : decode M_Mo_greatest.1 20 = .ok (.aload_n 0, 1) := by decide +kernel
theorem d_Mo_greatest_21 : decode M_Mo_greatest.1 21 = .ok (.bipush 28, 2) := by decide +kernel
theorem d_Mo_greatest_23 : decode M_Mo_greatest.1 23 = .ok (.iload_n 2, 1) := by decide +kernel
theorem d_Mo_greatest_24 : decode M_Mo_greatest.1 24 = .ok (.iadd, 1) := by decide +kernel
theorem d_Mo_greatest_25 : decode M_Mo_greatest.1 25 = .ok (.iaload, 1) := by decide +kernel
theorem d_Mo_greatest_26 : decode M_Mo_greatest.1 26 = .ok (.ineg, 1) := by decide +kernel
theorem d_Mo_greatest_27 : decode M_Mo_greatest.1 27 = .ok (.goto 9, 3) := by decide +kernel
theorem d_Mo_greatest_30 : decode M_Mo_greatest.1 30 = .ok (.aload_n 0, 1) := by decide +kernel
theorem d_Mo_greatest_31 : decode M_Mo_greatest.1 31 = .ok (.bipush 28, 2) := by decide +kernel
theorem d_Mo_greatest_33 : decode M_Mo_greatest.1 33 = .ok (.iload_n 2, 1) := by decide +kernel
theorem d_Mo_greatest_34 : decode M_Mo_greatest.1 34 = .ok (.iadd, 1) := by decide +kernel
theorem d_Mo_greatest_35 : decode M_Mo_greatest.1 35 = .ok (.iaload, 1) := by decide +kernel
theorem d_Mo_greatest_36 : decode M_Mo_greatest.1 36 = .ok (.istore_n 3, 1) := by decide +kernel
theorem d_Mo_greatest_37 : decode M_Mo_greatest.1 37 = .ok (.iload_n 3, 1) := by decide +kernel
theorem d_Mo_greatest_38 : decode M_Mo_greatest.1 38 = .ok (.iload_n 1, 1) := by decide +kernel
theorem d_Mo_greatest_39 : decode M_Mo_greatest.1 39 = .ok (.if_icmp .le 7, 3) := by decide +kernel
theorem d_Mo_greatest_42 : decode M_Mo_greatest.1 42 = .ok (.iload_n 3, 1) := by decide +kernel
theorem d_Mo_greatest_43 : decode M_Mo_greatest.1 43 = .ok (.goto 4, 3) := by decide +kernel
theorem d_Mo_greatest_46 : decode M_Mo_greatest.1 46 = .ok (.iload_n 1, 1) := by decide +kernel
theorem d_Mo_greatest_47 : decode M_Mo_greatest.1 47 = .ok (.istore_n 1, 1) := by decide +kernel
theorem d_Mo_greatest_48 : decode M_Mo_greatest.1 48 = .ok (.iinc 2 1, 3) := by decide +kernel
theorem d_Mo_greatest_51 : decode M_Mo_greatest.1 51 = .ok (.goto (-47), 3) := by decide +kernel
theorem d_Mo_greatest_54 : decode M_Mo_greatest.1 54 = .ok (.iload_n 1, 1) := by decide +kernel
theorem d_Mo_greatest_55 : decode M_Mo_greatest.1 55 = .ok (.ireturn, 1) := by decide +kernel
theorem d_Mo_playAhead_0 : decode M_Mo_playAhead.1 0 = .ok (.iload_n 1, 1) := by decide +kernel
theorem d_Mo_playAhead_1 : decode M_Mo_playAhead.1 1 = .ok (.invokestatic 159, 3) := by decide +kernel
theorem d_Mo_playAhead_4 : decode M_Mo_playAhead.1 4 = .ok (.ifCond .eq 10, 3) := by decide +kernel
theorem d_Mo_playAhead_7 : decode M_Mo_playAhead.1 7 = .ok (.iload_n 2, 1) := by decide +kernel
theorem d_Mo_playAhead_8 : decode M_Mo_playAhead.1 8 = .ok (.invokestatic 137, 3) := by decide +kernel
theorem d_Mo_playAhead_11 : decode M_Mo_playAhead.1 11 = .ok (.ifCond .ne 6, 3) := by decide +kernel
theorem d_Mo_playAhead_14 : decode M_Mo_playAhead.1 14 = .ok (.ldc 51, 2) := by decide +kernel
theorem d_Mo_playAhead_16 : decode M_Mo_playAhead.1 16 = .ok (.ireturn, 1) := by decide +kernel
theorem d_Mo_playAhead_17 : decode M_Mo_playAhead.1 17 = .ok (.iconst 0, 1) := by decide +kernel
theorem d_Mo_playAhead_18 : decode M_Mo_playAhead.1 18 = .ok (.istore_n 3, 1) := by decide +kernel
theorem d_Mo_playAhead_19 : decode M_Mo_playAhead.1 19 = .ok (.ldc 162, 2) := by decide +kernel
theorem d_Mo_playAhead_21 : decode M_Mo_playAhead.1 21 = .ok (.istore 4, 2) := by decide +kernel
theorem d_Mo_playAhead_23 : decode M_Mo_playAhead.1 23 = .ok (.iconst 0, 1) := by decide +kernel
theorem d_Mo_playAhead_24 : decode M_Mo_playAhead.1 24 = .ok (.istore 5, 2) := by decide +kernel
theorem d_Mo_playAhead_26 : decode M_Mo_playAhead.1 26 = .ok (.iload 5, 2) := by decide +kernel
theorem d_Mo_playAhead_28 : decode M_Mo_playAhead.1 28 = .ok (.bipush 20, 2) := by decide +kernel
theorem d_Mo_playAhead_30 : decode M_Mo_playAhead.1 30 = .ok (.if_icmp .gt 66, 3) := by decide +kernel
theorem d_Mo_playAhead_33 : decode M_Mo_playAhead.1 33 = .ok (.aload_n 0, 1) := by decide +kernel
theorem d_Mo_playAhead_34 : decode M_Mo_playAhead.1 34 = .ok (.invokevirtual 148, 3) := by decide +kernel
theorem d_Mo_playAhead_37 : decode M_Mo_playAhead.1 37 = .ok (.aload_n 0, 1) := by decide +kernel
theorem d_Mo_playAhead_38 : decode M_Mo_playAhead.1 38 = .ok (.getfield 35, 3) := by decide +kernel
theorem d_Mo_playAhead_41 : decode M_Mo_playAhead.1 41 = .ok (.bipush 35, 2) := by decide +kernel
theorem d_Mo_playAhead_43 : decode M_Mo_playAhead.1 43 = .ok (.iload 5, 2) := by decide +kernel
theorem d_Mo_playAhead_45 : decode M_Mo_playAhead.1 45 = .ok (.iastore, 1) := by decide +kernel
theorem d_Mo_playAhead_46 : decode M_Mo_playAhead.1 46 = .ok (.aload_n 0, 1) := by decide +kernel
theorem d_Mo_playAhead_47 : decode M_Mo_playAhead.1 47 = .ok (.iload_n 1, 1) := by decide +kernel
theorem d_Mo_playAhead_48 : decode M_Mo_playAhead.1 48 = .ok (.invokevirtual 151, 3) := by decide +kernel
theorem d_Mo_playAhead_51 : decode M_Mo_playAhead.1 51 = .ok (.aload_n 0, 1) := by decide +kernel
theorem d_Mo_playAhead_52 : decode M_Mo_playAhead.1 52 = .ok (.getfield 35, 3) := by decide +kernel
theorem d_Mo_playAhead_55 : decode M_Mo_playAhead.1 55 = .ok (.invokestatic 163, 3) := by decide +kernel
theorem d_Mo_playAhead_58 : decode M_Mo_playAhead.1 58 = .ok (.istore 6, 2) := by decide +kernel
theorem d_Mo_playAhead_60 : decode M_Mo_playAhead.1 60 = .ok (.iload 6, 2) := by decide +kernel
theorem d_Mo_playAhead_62 : decode M_Mo_playAhead.1 62 = .ok (.iload 4, 2) := by decide +kernel
theorem d_Mo_playAhead_64 : decode M_Mo_playAhead.1 64 = .ok (.if_icmp .ge 8, 3) := by decide +kernel
theorem d_Mo_playAhead_67 : decode M_Mo_playAhead.1 67 = .ok (.iload 5, 2) := by decide +kernel
theorem d_Mo_playAhead_69 : decode M_Mo_playAhead.1 69 = .ok (.goto 4, 3) := by decide +kernel
theorem d_Mo_playAhead_72 : decode M_Mo_playAhead.1 72 = .ok (.iload_n 3, 1) := by decide +kernel
theorem d_Mo_playAhead_73 : decode M_Mo_playAhead.1 73 = .ok (.istore_n 3, 1) := by decide +kernel
theorem d_Mo_playAhead_74 : decode M_Mo_playAhead.1 74 = .ok (.iload 6, 2) := by decide +kernel
theorem d_Mo_playAhead_76 : decode M_Mo_playAhead.1 76 = .ok (.iload 4, 2) := by decide +kernel
theorem d_Mo_playAhead_78 : decode M_Mo_playAhead.1 78 = .ok (.if_icmp .ge 8, 3) := by decide +kernel
theorem d_Mo_playAhead_81 : decode M_Mo_playAhead.1 81 = .ok (.iload 6, 2) := by decide +kernel
theorem d_Mo_playAhead_83 : decode M_Mo_playAhead.1 83 = .ok (.goto 5, 3) := by decide +kernel
theorem d_Mo_playAhead_86 : decode M_Mo_playAhead.1 86 = .ok (.iload 4, 2) := by decide +kernel
theorem d_Mo_playAhead_88 : decode M_Mo_playAhead.1 88 = .ok (.istore 4, 2) := by decide +kernel
theorem d_Mo_playAhead_90 : decode M_Mo_playAhead.1 90 = .ok (.iinc 5 1, 3) := by decide +kernel
theorem d_Mo_playAhead_93 : decode M_Mo_playAhead.1 93 = .ok (.goto (-67), 3) := by decide +kernel
theorem d_Mo_playAhead_96 : decode M_Mo_playAhead.1 96 = .ok (.iload_n 2, 1) := by decide +kernel
theorem d_Mo_playAhead_97 : decode M_Mo_playAhead.1 97 = .ok (.ifCond .ne 7, 3) := by decide +kernel
theorem d_Mo_playAhead_100 : decode M_Mo_playAhead.1 100 = .ok (.iload_n 3, 1) := by decide +kernel
theorem d_Mo_playAhead_101 : decode M_Mo_playAhead.1 101 = .ok (.goto 5, 3) := by decide +kernel
theorem d_Mo_playAhead_104 : decode M_Mo_playAhead.1 104 = .ok (.iload 4, 2) := by decide +kernel
theorem d_Mo_playAhead_106 : decode M_Mo_playAhead.1 106 = .ok (.ireturn, 1) := by decide +kernel
theorem d_Mo_seat_0 : decode M_Mo_seat.1 0 = .ok (.iload_n 1, 1) := by decide +kernel
theorem d_Mo_seat_1 : decode M_Mo_seat.1 1 = .ok (.invokestatic 159, 3) := by decide +kernel
theorem d_Mo_seat_4 : decode M_Mo_seat.1 4 = .ok (.ifCond .eq 10, 3) := by decide +kernel
theorem d_Mo_seat_7 : decode M_Mo_seat.1 7 = .ok (.iload_n 2, 1) := by decide +kernel
theorem d_Mo_seat_8 : decode M_Mo_seat.1 8 = .ok (.invokestatic 137, 3) := by decide +kernel
theorem d_Mo_seat_11 : decode M_Mo_seat.1 11 = .ok (.ifCond .ne 6, 3) := by decide +kernel
theorem d_Mo_seat_14 : decode M_Mo_seat.1 14 = .ok (.ldc 51, 2) := by decide +kernel
theorem d_Mo_seat_16 : decode M_Mo_seat.1 16 = .ok (.ireturn, 1) := by decide +kernel
theorem d_Mo_seat_17 : decode M_Mo_seat.1 17 = .ok (.ldc 107, 2) := by decide +kernel
theorem d_Mo_seat_19 : decode M_Mo_seat.1 19 = .ok (.istore_n 3, 1) := by decide +kernel
theorem d_Mo_seat_20 : decode M_Mo_seat.1 20 = .ok (.ldc 162, 2) := by decide +kernel
theorem d_Mo_seat_22 : decode M_Mo_seat.1 22 = .ok (.istore 4, 2) := by decide +kernel
theorem d_Mo_seat_24 : decode M_Mo_seat.1 24 = .ok (.iconst 0, 1) := by decide +kernel
theorem d_Mo_seat_25 : decode M_Mo_seat.1 25 = .ok (.istore 5, 2) := by decide +kernel
theorem d_Mo_seat_27 : decode M_Mo_seat.1 27 = .ok (.iload 5, 2) := by decide +kernel
theorem d_Mo_seat_29 : decode M_Mo_seat.1 29 = .ok (.aload_n 0, 1) := by decide +kernel
theorem d_Mo_seat_30 : decode M_Mo_seat.1 30 = .ok (.getfield 7, 3) := by decide +kernel
theorem d_Mo_seat_33 : decode M_Mo_seat.1 33 = .ok (.iconst 0, 1) := by decide +kernel
theorem d_Mo_seat_34 : decode M_Mo_seat.1 34 = .ok (.iaload, 1) := by decide +kernel
theorem d_Mo_seat_35 : decode M_Mo_seat.1 35 = .ok (.if_icmp .gt 97, 3) := by decide +kernel
theorem d_Mo_seat_38 : decode M_Mo_seat.1 38 = .ok (.aload_n 0, 1) := by decide +kernel
theorem d_Mo_seat_39 : decode M_Mo_seat.1 39 = .ok (.invokevirtual 148, 3) := by decide +kernel
theorem d_Mo_seat_42 : decode M_Mo_seat.1 42 = .ok (.aload_n 0, 1) := by decide +kernel
theorem d_Mo_seat_43 : decode M_Mo_seat.1 43 = .ok (.getfield 35, 3) := by decide +kernel
theorem d_Mo_seat_46 : decode M_Mo_seat.1 46 = .ok (.bipush 36, 2) := by decide +kernel
theorem d_Mo_seat_48 : decode M_Mo_seat.1 48 = .ok (.iload 5, 2) := by decide +kernel
theorem d_Mo_seat_50 : decode M_Mo_seat.1 50 = .ok (.aload_n 0, 1) := by decide +kernel
theorem d_Mo_seat_51 : decode M_Mo_seat.1 51 = .ok (.getfield 7, 3) := by decide +kernel
theorem d_Mo_seat_54 : decode M_Mo_seat.1 54 = .ok (.iconst 0, 1) := by decide +kernel
theorem d_Mo_seat_55 : decode M_Mo_seat.1 55 = .ok (.iaload, 1) := by decide +kernel
theorem d_Mo_seat_56 : decode M_Mo_seat.1 56 = .ok (.if_icmp .ge 8, 3) := by decide +kernel
theorem d_Mo_seat_59 : decode M_Mo_seat.1 59 = .ok (.iload 5, 2) := by decide +kernel
theorem d_Mo_seat_61 : decode M_Mo_seat.1 61 = .ok (.goto 4, 3) := by decide +kernel
theorem d_Mo_seat_64 : decode M_Mo_seat.1 64 = .ok (.iconst (-1), 1) := by decide +kernel
theorem d_Mo_seat_65 : decode M_Mo_seat.1 65 = .ok (.iastore, 1) := by decide +kernel
theorem d_Mo_seat_66 : decode M_Mo_seat.1 66 = .ok (.aload_n 0, 1) := by decide +kernel
theorem d_Mo_seat_67 : decode M_Mo_seat.1 67 = .ok (.iload_n 1, 1) := by decide +kernel
theorem d_Mo_seat_68 : decode M_Mo_seat.1 68 = .ok (.invokevirtual 151, 3) := by decide +kernel
theorem d_Mo_seat_71 : decode M_Mo_seat.1 71 = .ok (.aload_n 0, 1) := by decide +kernel
theorem d_Mo_seat_72 : decode M_Mo_seat.1 72 = .ok (.getfield 35, 3) := by decide +kernel
theorem d_Mo_seat_75 : decode M_Mo_seat.1 75 = .ok (.invokestatic 108, 3) := by decide +kernel
theorem d_Mo_seat_78 : decode M_Mo_seat.1 78 = .ok (.istore 6, 2) := by decide +kernel
theorem d_Mo_seat_80 : decode M_Mo_seat.1 80 = .ok (.iload 6, 2) := by decide +kernel
theorem d_Mo_seat_82 : decode M_Mo_seat.1 82 = .ok (.iload 4, 2) := by decide +kernel
theorem d_Mo_seat_84 : decode M_Mo_seat.1 84 = .ok (.if_icmp .ge 24, 3) := by decide +kernel
theorem d_Mo_seat_87 : decode M_Mo_seat.1 87 = .ok (.iload 5, 2) := by decide +kernel
theorem d_Mo_seat_89 : decode M_Mo_seat.1 89 = .ok (.aload_n 0, 1) := by decide +kernel
theorem d_Mo_seat_90 : decode M_Mo_seat.1 90 = .ok (.getfield 7, 3) := by decide +kernel
theorem d_Mo_seat_93 : decode M_Mo_seat.1 93 = .ok (.iconst 0, 1) := by decide +kernel
theorem d_Mo_seat_94 : decode M_Mo_seat.1 94 = .ok (.iaload, 1) := by decide +kernel
theorem d_Mo_seat_95 : decode M_Mo_seat.1 95 = .ok (.if_icmp .ge 8, 3) := by decide +kernel
theorem d_Mo_seat_98 : decode M_Mo_seat.1 98 = .ok (.iload 5, 2) := by decide +kernel
theorem d_Mo_seat_100 : decode M_Mo_seat.1 100 = .ok (.goto 9, 3) := by decide +kernel
theorem d_Mo_seat_103 : decode M_Mo_seat.1 103 = .ok (.ldc 107, 2) := by decide +kernel
theorem d_Mo_seat_105 : decode M_Mo_seat.1 105 = .ok (.goto 4, 3) := by decide +kernel
theorem d_Mo_seat_108 : decode M_Mo_seat.1 108 = .ok (.iload_n 3, 1) := by decide +kernel
theorem d_Mo_seat_109 : decode M_Mo_seat.1 109 = .ok (.istore_n 3, 1) := by decide +kernel
theorem d_Mo_seat_110 : decode M_Mo_seat.1 110 = .ok (.iload 6, 2) := by decide +kernel
theorem d_Mo_seat_112 : decode M_Mo_seat.1 112 = .ok (.iload 4, 2) := by decide +kernel
theorem d_Mo_seat_114 : decode M_Mo_seat.1 114 = .ok (.if_icmp .ge 8, 3) := by decide +kernel
theorem d_Mo_seat_117 : decode M_Mo_seat.1 117 = .ok (.iload 6, 2) := by decide +kernel
theorem d_Mo_seat_119 : decode M_Mo_seat.1 119 = .ok (.goto 5, 3) := by decide +kernel
theorem d_Mo_seat_122 : decode M_Mo_seat.1 122 = .ok (.iload 4, 2) := by decide +kernel
theorem d_Mo_seat_124 : decode M_Mo_seat.1 124 = .ok (.istore 4, 2) := by decide +kernel
theorem d_Mo_seat_126 : decode M_Mo_seat.1 126 = .ok (.iinc 5 1, 3) := by decide +kernel
theorem d_Mo_seat_129 : decode M_Mo_seat.1 129 = .ok (.goto (-102), 3) := by decide +kernel
theorem d_Mo_seat_132 : decode M_Mo_seat.1 132 = .ok (.iload_n 2, 1) := by decide +kernel
theorem d_Mo_seat_133 : decode M_Mo_seat.1 133 = .ok (.ifCond .ne 7, 3) := by decide +kernel
theorem d_Mo_seat_136 : decode M_Mo_seat.1 136 = .ok (.iload_n 3, 1) := by decide +kernel
theorem d_Mo_seat_137 : decode M_Mo_seat.1 137 = .ok (.goto 5, 3) := by decide +kernel
theorem d_Mo_seat_140 : decode M_Mo_seat.1 140 = .ok (.iload 4, 2) := by decide +kernel
theorem d_Mo_seat_142 : decode M_Mo_seat.1 142 = .ok (.ireturn, 1) := by decide +kernel
theorem d_Mo_knowers_0 : decode M_Mo_knowers.1 0 = .ok (.iload_n 1, 1) := by decide +kernel
theorem d_Mo_knowers_1 : decode M_Mo_knowers.1 1 = .ok (.invokestatic 159, 3) := by decide +kernel
theorem d_Mo_knowers_4 : decode M_Mo_knowers.1 4 = .ok (.ifCond .eq 15, 3) := by decide +kernel
theorem d_Mo_knowers_7 : decode M_Mo_knowers.1 7 = .ok (.iload_n 2, 1) := by decide +kernel
theorem d_Mo_knowers_8 : decode M_Mo_knowers.1 8 = .ok (.i2l, 1) := by decide +kernel
theorem d_Mo_knowers_9 : decode M_Mo_knowers.1 9 = .ok (.lconst 0, 1) := by decide +kernel
theorem d_Mo_knowers_10 : decode M_Mo_knowers.1 10 = .ok (.ldc2_w 166, 3) := by decide +kernel
theorem d_Mo_knowers_13 : decode M_Mo_knowers.1 13 = .ok (.invokestatic 45, 3) := by decide +kernel
theorem d_Mo_knowers_16 : decode M_Mo_knowers.1 16 = .ok (.ifCond .ne 6, 3) := by decide +kernel
theorem d_Mo_knowers_19 : decode M_Mo_knowers.1 19 = .ok (.ldc 51, 2) := by decide +kernel
theorem d_Mo_knowers_21 : decode M_Mo_knowers.1 21 = .ok (.ireturn, 1) := by decide +kernel
theorem d_Mo_knowers_22 : decode M_Mo_knowers.1 22 = .ok (.ldc 107, 2) := by decide +kernel
theorem d_Mo_knowers_24 : decode M_Mo_knowers.1 24 = .ok (.istore_n 3, 1) := by decide +kernel
theorem d_Mo_knowers_25 : decode M_Mo_knowers.1 25 = .ok (.iconst 0, 1) := by decide +kernel
theorem d_Mo_knowers_26 : decode M_Mo_knowers.1 26 = .ok (.istore 4, 2) := by decide +kernel
theorem d_Mo_knowers_28 : decode M_Mo_knowers.1 28 = .ok (.iload 4, 2) := by decide +kernel
theorem d_Mo_knowers_30 : decode M_Mo_knowers.1 30 = .ok (.iconst 1, 1) := by decide +kernel
theorem d_Mo_knowers_31 : decode M_Mo_knowers.1 31 = .ok (.aload_n 0, 1) := by decide +kernel
theorem d_Mo_knowers_32 : decode M_Mo_knowers.1 32 = .ok (.getfield 7, 3) := by decide +kernel
theorem d_Mo_knowers_35 : decode M_Mo_knowers.1 35 = .ok (.iconst 0, 1) := by decide +kernel
theorem d_Mo_knowers_36 : decode M_Mo_knowers.1 36 = .ok (.iaload, 1) := by decide +kernel
theorem d_Mo_knowers_37 : decode M_Mo_knowers.1 37 = .ok (.ishl, 1) := by decide +kernel
theorem d_Mo_knowers_38 : decode M_Mo_knowers.1 38 = .ok (.if_icmp .ge 91, 3) := by decide +kernel
theorem d_Mo_knowers_41 : decode M_Mo_knowers.1 41 = .ok (.iload_n 3, 1) := by decide +kernel
theorem d_Mo_knowers_42 : decode M_Mo_knowers.1 42 = .ok (.ldc 107, 2) := by decide +kernel
theorem d_Mo_knowers_44 : decode M_Mo_knowers.1 44 = .ok (.if_icmp .eq 15, 3) := by decide +kernel
theorem d_Mo_knowers_47 : decode M_Mo_knowers.1 47 = .ok (.iload 4, 2) := by decide +kernel
theorem d_Mo_knowers_49 : decode M_Mo_knowers.1 49 = .ok (.invokestatic 140, 3) := by decide +kernel
theorem d_Mo_knowers_52 : decode M_Mo_knowers.1 52 = .ok (.iload_n 3, 1) := by decide +kernel
theorem d_Mo_knowers_53 : decode M_Mo_knowers.1 53 = .ok (.invokestatic 140, 3) := by decide +kernel
theorem d_Mo_knowers_56 : decode M_Mo_knowers.1 56 = .ok (.if_icmp .ge 7, 3) := by decide +kernel
theorem d_Mo_knowers_59 : decode M_Mo_knowers.1 59 = .ok (.iconst 1, 1) := by decide +kernel
theorem d_Mo_knowers_60 : decode M_Mo_knowers.1 60 = .ok (.goto 4, 3) := by decide +kernel
theorem d_Mo_knowers_63 : decode M_Mo_knowers.1 63 = .ok (.iconst 0, 1) := by decide +kernel
theorem d_Mo_knowers_64 : decode M_Mo_knowers.1 64 = .ok (.istore 5, 2) := by decide +kernel
theorem d_Mo_knowers_66 : decode M_Mo_knowers.1 66 = .ok (.iload 4, 2) := by decide +kernel
theorem d_Mo_knowers_68 : decode M_Mo_knowers.1 68 = .ok (.aload_n 0, 1) := by decide +kernel
theorem d_Mo_knowers_69 : decode M_Mo_knowers.1 69 = .ok (.getfield 7, 3) := by decide +kernel
theorem d_Mo_knowers_72 : decode M_Mo_knowers.1 72 = .ok (.bipush 37, 2) := by decide +kernel
theorem d_Mo_knowers_74 : decode M_Mo_knowers.1 74 = .ok (.iaload, 1) := by decide +kernel
theorem d_Mo_knowers_75 : decode M_Mo_knowers.1 75 = .ok (.iand, 1) := by decide +kernel
theorem d_Mo_knowers_76 : decode M_Mo_knowers.1 76 = .ok (.ifCond .ne 47, 3) := by decide +kernel
theorem d_Mo_knowers_79 : decode M_Mo_knowers.1 79 = .ok (.iload 5, 2) := by decide +kernel
theorem d_Mo_knowers_81 : decode M_Mo_knowers.1 81 = .ok (.ifCond .eq 42, 3) := by decide +kernel
theorem d_Mo_knowers_84 : decode M_Mo_knowers.1 84 = .ok (.aload_n 0, 1) := by decide +kernel
theorem d_Mo_knowers_85 : decode M_Mo_knowers.1 85 = .ok (.invokevirtual 148, 3) := by decide +kernel
theorem d_Mo_knowers_88 : decode M_Mo_knowers.1 88 = .ok (.aload_n 0, 1) := by decide +kernel
theorem d_Mo_knowers_89 : decode M_Mo_knowers.1 89 = .ok (.getfield 35, 3) := by decide +kernel
theorem d_Mo_knowers_92 : decode M_Mo_knowers.1 92 = .ok (.bipush 37, 2) := by decide +kernel
theorem d_Mo_knowers_94 : decode M_Mo_knowers.1 94 = .ok (.dup2, 1) := by decide +kernel
theorem d_Mo_knowers_95 : decode M_Mo_knowers.1 95 = .ok (.iaload, 1) := by decide +kernel
theorem d_Mo_knowers_96 : decode M_Mo_knowers.1 96 = .ok (.iload 4, 2) := by decide +kernel
theorem d_Mo_knowers_98 : decode M_Mo_knowers.1 98 = .ok (.ior, 1) := by decide +kernel
theorem d_Mo_knowers_99 : decode M_Mo_knowers.1 99 = .ok (.iastore, 1) := by decide +kernel
theorem d_Mo_knowers_100 : decode M_Mo_knowers.1 100 = .ok (.aload_n 0, 1) := by decide +kernel
theorem d_Mo_knowers_101 : decode M_Mo_knowers.1 101 = .ok (.iload_n 1, 1) := by decide +kernel
theorem d_Mo_knowers_102 : decode M_Mo_knowers.1 102 = .ok (.invokevirtual 151, 3) := by decide +kernel
theorem d_Mo_knowers_105 : decode M_Mo_knowers.1 105 = .ok (.aload_n 0, 1) := by decide +kernel
theorem d_Mo_knowers_106 : decode M_Mo_knowers.1 106 = .ok (.getfield 35, 3) := by decide +kernel
theorem d_Mo_knowers_109 : decode M_Mo_knowers.1 109 = .ok (.invokestatic 108, 3) := by decide +kernel
theorem d_Mo_knowers_112 : decode M_Mo_knowers.1 112 = .ok (.iload_n 2, 1) := by decide +kernel
theorem d_Mo_knowers_113 : decode M_Mo_knowers.1 113 = .ok (.if_icmp .gt 8, 3) := by decide +kernel
theorem d_Mo_knowers_116 : decode M_Mo_knowers.1 116 = .ok (.iload 4, 2) := by decide +kernel
theorem d_Mo_knowers_118 : decode M_Mo_knowers.1 118 = .ok (.goto 4, 3) := by decide +kernel
theorem d_Mo_knowers_121 : decode M_Mo_knowers.1 121 = .ok (.iload_n 3, 1) := by decide +kernel
theorem d_Mo_knowers_122 : decode M_Mo_knowers.1 122 = .ok (.istore_n 3, 1) := by decide +kernel
theorem d_Mo_knowers_123 : decode M_Mo_knowers.1 123 = .ok (.iinc 4 1, 3) := by decide +kernel
theorem d_Mo_knowers_126 : decode M_Mo_knowers.1 126 = .ok (.goto (-98), 3) := by decide +kernel
theorem d_Mo_knowers_129 : decode M_Mo_knowers.1 129 = .ok (.iload_n 3, 1) := by decide +kernel
theorem d_Mo_knowers_130 : decode M_Mo_knowers.1 130 = .ok (.ireturn, 1) := by decide +kernel
theorem d_Mo_without_0 : decode M_Mo_without.1 0 = .ok (.aload_n 0, 1) := by decide +kernel
theorem d_Mo_without_1 : decode M_Mo_without.1 1 = .ok (.invokevirtual 148, 3) := by decide +kernel
theorem d_Mo_without_4 : decode M_Mo_without.1 4 = .ok (.iload_n 1, 1) := by decide +kernel
theorem d_Mo_without_5 : decode M_Mo_without.1 5 = .ok (.istore_n 2, 1) := by decide +kernel
theorem d_Mo_without_6 : decode M_Mo_without.1 6 = .ok (.iload_n 2, 1) := by decide +kernel
theorem d_Mo_without_7 : decode M_Mo_without.1 7 = .ok (.aload_n 0, 1) := by decide +kernel
theorem d_Mo_without_8 : decode M_Mo_without.1 8 = .ok (.getfield 7, 3) := by decide +kernel
theorem d_Mo_without_11 : decode M_Mo_without.1 11 = .ok (.iconst 0, 1) := by decide +kernel
theorem d_Mo_without_12 : decode M_Mo_without.1 12 = .ok (.iaload, 1) := by decide +kernel
theorem d_Mo_without_13 : decode M_Mo_without.1 13 = .ok (.iconst 1, 1) := by decide +kernel
theorem d_Mo_without_14 : decode M_Mo_without.1 14 = .ok (.isub, 1) := by decide +kernel
theorem d_Mo_without_15 : decode M_Mo_without.1 15 = .ok (.if_icmp .ge 50, 3) := by decide +kernel
theorem d_Mo_without_18 : decode M_Mo_without.1 18 = .ok (.iconst 0, 1) := by decide +kernel
theorem d_Mo_without_19 : decode M_Mo_without.1 19 = .ok (.istore_n 3, 1) := by decide +kernel
theorem d_Mo_without_20 : decode M_Mo_without.1 20 = .ok (.iload_n 3, 1) := by decide +kernel
theorem d_Mo_without_21 : decode M_Mo_without.1 21 = .ok (.iconst 5, 1) := by decide +kernel
theorem d_Mo_without_22 : decode M_Mo_without.1 22 = .ok (.if_icmp .ge 37, 3) := by decide +kernel
theorem d_Mo_without_25 : decode M_Mo_without.1 25 = .ok (.aload_n 0, 1) := by decide +kernel
theorem d_Mo_without_26 : decode M_Mo_without.1 26 = .ok (.getfield 35, 3) := by decide +kernel
theorem d_Mo_without_29 : decode M_Mo_without.1 29 = .ok (.iconst 4, 1) := by decide +kernel
theorem d_Mo_without_30 : decode M_Mo_without.1 30 = .ok (.bipush 6, 2) := by decide +kernel
theorem d_Mo_without_32 : decode M_Mo_without.1 32 = .ok (.iload_n 3, 1) := by decide +kernel
theorem d_Mo_without_33 : decode M_Mo_without.1 33 = .ok (.imul, 1) := by decide +kernel
theorem d_Mo_without_34 : decode M_Mo_without.1 34 = .ok (.iadd, 1) := by decide +kernel
theorem d_Mo_without_35 : decode M_Mo_without.1 35 = .ok (.iload_n 2, 1) := by decide +kernel
theorem d_Mo_without_36 : decode M_Mo_without.1 36 = .ok (.iadd, 1) := by decide +kernel
theorem d_Mo_without_37 : decode M_Mo_without.1 37 = .ok (.aload_n 0, 1) := by decide +kernel
theorem d_Mo_without_38 : decode M_Mo_without.1 38 = .ok (.getfield 35, 3) := by decide +kernel
theorem d_Mo_without_41 : decode M_Mo_without.1 41 = .ok (.iconst 4, 1) := by decide +kernel
theorem d_Mo_without_42 : decode M_Mo_without.1 42 = .ok (.bipush 6, 2) := by decide +kernel
theorem d_Mo_without_44 : decode M_Mo_without.1 44 = .ok (.iload_n 3, 1) := by decide +kernel
theorem d_Mo_without_45 : decode M_Mo_without.1 45 = .ok (.imul, 1) := by decide +kernel
theorem d_Mo_without_46 : decode M_Mo_without.1 46 = .ok (.iadd, 1) := by decide +kernel
theorem d_Mo_without_47 : decode M_Mo_without.1 47 = .ok (.iload_n 2, 1) := by decide +kernel
theorem d_Mo_without_48 : decode M_Mo_without.1 48 = .ok (.iadd, 1) := by decide +kernel
theorem d_Mo_without_49 : decode M_Mo_without.1 49 = .ok (.iconst 1, 1) := by decide +kernel
theorem d_Mo_without_50 : decode M_Mo_without.1 50 = .ok (.iadd, 1) := by decide +kernel
theorem d_Mo_without_51 : decode M_Mo_without.1 51 = .ok (.iaload, 1) := by decide +kernel
theorem d_Mo_without_52 : decode M_Mo_without.1 52 = .ok (.iastore, 1) := by decide +kernel
theorem d_Mo_without_53 : decode M_Mo_without.1 53 = .ok (.iinc 3 1, 3) := by decide +kernel
theorem d_Mo_without_56 : decode M_Mo_without.1 56 = .ok (.goto (-36), 3) := by decide +kernel
theorem d_Mo_without_59 : decode M_Mo_without.1 59 = .ok (.iinc 2 1, 3) := by decide +kernel
theorem d_Mo_without_62 : decode M_Mo_without.1 62 = .ok (.goto (-56), 3) := by decide +kernel
theorem d_Mo_without_65 : decode M_Mo_without.1 65 = .ok (.iconst 1, 1) := by decide +kernel
theorem d_Mo_without_66 : decode M_Mo_without.1 66 = .ok (.iload_n 1, 1) := by decide +kernel
theorem d_Mo_without_67 : decode M_Mo_without.1 67 = .ok (.ishl, 1) := by decide +kernel
theorem d_Mo_without_68 : decode M_Mo_without.1 68 = .ok (.iconst 1, 1) := by decide +kernel
theorem d_Mo_without_69 : decode M_Mo_without.1 69 = .ok (.isub, 1) := by decide +kernel
theorem d_Mo_without_70 : decode M_Mo_without.1 70 = .ok (.istore_n 2, 1) := by decide +kernel
theorem d_Mo_without_71 : decode M_Mo_without.1 71 = .ok (.aload_n 0, 1) := by decide +kernel
theorem d_Mo_without_72 : decode M_Mo_without.1 72 = .ok (.getfield 35, 3) := by decide +kernel
theorem d_Mo_without_75 : decode M_Mo_without.1 75 = .ok (.bipush 37, 2) := by decide +kernel
theorem d_Mo_without_77 : decode M_Mo_without.1 77 = .ok (.aload_n 0, 1) := by decide +kernel
theorem d_Mo_without_78 : decode M_Mo_without.1 78 = .ok (.getfield 7, 3) := by decide +kernel
theorem d_Mo_without_81 : decode M_Mo_without.1 81 = .ok (.bipush 37, 2) := by decide +kernel
theorem d_Mo_without_83 : decode M_Mo_without.1 83 = .ok (.iaload, 1) := by decide +kernel
theorem d_Mo_without_84 : decode M_Mo_without.1 84 = .ok (.iload_n 2, 1) := by decide +kernel
theorem d_Mo_without_85 : decode M_Mo_without.1 85 = .ok (.iand, 1) := by decide +kernel
theorem d_Mo_without_86 : decode M_Mo_without.1 86 = .ok (.aload_n 0, 1) := by decide +kernel
theorem d_Mo_without_87 : decode M_Mo_without.1 87 = .ok (.getfield 7, 3) := by decide +kernel
theorem d_Mo_without_90 : decode M_Mo_without.1 90 = .ok (.bipush 37, 2) := by decide +kernel
theorem d_Mo_without_92 : decode M_Mo_without.1 92 = .ok (.iaload, 1) := by decide +kernel
theorem d_Mo_without_93 : decode M_Mo_without.1 93 = .ok (.iconst 1, 1) := by decide +kernel
theorem d_Mo_without_94 : decode M_Mo_without.1 94 = .ok (.ishr, 1) := by decide +kernel
theorem d_Mo_without_95 : decode M_Mo_without.1 95 = .ok (.iload_n 2, 1) := by decide +kernel
theorem d_Mo_without_96 : decode M_Mo_without.1 96 = .ok (.iconst (-1), 1) := by decide +kernel
theorem d_Mo_without_97 : decode M_Mo_without.1 97 = .ok (.ixor, 1) := by decide +kernel
theorem d_Mo_without_98 : decode M_Mo_without.1 98 = .ok (.iand, 1) := by decide +kernel
theorem d_Mo_without_99 : decode M_Mo_without.1 99 = .ok (.ior, 1) := by decide +kernel
theorem d_Mo_without_100 : decode M_Mo_without.1 100 = .ok (.iastore, 1) := by decide +kernel
theorem d_Mo_without_101 : decode M_Mo_without.1 101 = .ok (.aload_n 0, 1) := by decide +kernel
theorem d_Mo_without_102 : decode M_Mo_without.1 102 = .ok (.getfield 35, 3) := by decide +kernel
theorem d_Mo_without_105 : decode M_Mo_without.1 105 = .ok (.bipush 36, 2) := by decide +kernel
theorem d_Mo_without_107 : decode M_Mo_without.1 107 = .ok (.aload_n 0, 1) := by decide +kernel
theorem d_Mo_without_108 : decode M_Mo_without.1 108 = .ok (.getfield 7, 3) := by decide +kernel
theorem d_Mo_without_111 : decode M_Mo_without.1 111 = .ok (.bipush 36, 2) := by decide +kernel
theorem d_Mo_without_113 : decode M_Mo_without.1 113 = .ok (.iaload, 1) := by decide +kernel
theorem d_Mo_without_114 : decode M_Mo_without.1 114 = .ok (.iload_n 1, 1) := by decide +kernel
theorem d_Mo_without_115 : decode M_Mo_without.1 115 = .ok (.if_icmp .ne 7, 3) := by decide +kernel
theorem d_Mo_without_118 : decode M_Mo_without.1 118 = .ok (.iconst (-1), 1) := by decide +kernel
theorem d_Mo_without_119 : decode M_Mo_without.1 119 = .ok (.goto 33, 3) := by decide +kernel
theorem d_Mo_without_122 : decode M_Mo_without.1 122 = .ok (.aload_n 0, 1) := by decide +kernel
theorem d_Mo_without_123 : decode M_Mo_without.1 123 = .ok (.getfield 7, 3) := by decide +kernel
theorem d_Mo_without_126 : decode M_Mo_without.1 126 = .ok (.bipush 36, 2) := by decide +kernel
theorem d_Mo_without_128 : decode M_Mo_without.1 128 = .ok (.iaload, 1) := by decide +kernel
theorem d_Mo_without_129 : decode M_Mo_without.1 129 = .ok (.iload_n 1, 1) := by decide +kernel
theorem d_Mo_without_130 : decode M_Mo_without.1 130 = .ok (.if_icmp .le 15, 3) := by decide +kernel
theorem d_Mo_without_133 : decode M_Mo_without.1 133 = .ok (.aload_n 0, 1) := by decide +kernel
theorem d_Mo_without_134 : decode M_Mo_without.1 134 = .ok (.getfield 7, 3) := by decide +kernel
theorem d_Mo_without_137 : decode M_Mo_without.1 137 = .ok (.bipush 36, 2) := by decide +kernel
theorem d_Mo_without_139 : decode M_Mo_without.1 139 = .ok (.iaload, 1) := by decide +kernel
theorem d_Mo_without_140 : decode M_Mo_without.1 140 = .ok (.iconst 1, 1) := by decide +kernel
theorem d_Mo_without_141 : decode M_Mo_without.1 141 = .ok (.isub, 1) := by decide +kernel
theorem d_Mo_without_142 : decode M_Mo_without.1 142 = .ok (.goto 10, 3) := by decide +kernel
theorem d_Mo_without_145 : decode M_Mo_without.1 145 = .ok (.aload_n 0, 1) := by decide +kernel
theorem d_Mo_without_146 : decode M_Mo_without.1 146 = .ok (.getfield 7, 3) := by decide +kernel
theorem d_Mo_without_149 : decode M_Mo_without.1 149 = .ok (.bipush 36, 2) := by decide +kernel
theorem d_Mo_without_151 : decode M_Mo_without.1 151 = .ok (.iaload, 1) := by decide +kernel
theorem d_Mo_without_152 : decode M_Mo_without.1 152 = .ok (.iastore, 1) := by decide +kernel
theorem d_Mo_without_153 : decode M_Mo_without.1 153 = .ok (.aload_n 0, 1) := by decide +kernel
theorem d_Mo_without_154 : decode M_Mo_without.1 154 = .ok (.getfield 35, 3) := by decide +kernel
theorem d_Mo_without_157 : decode M_Mo_without.1 157 = .ok (.iconst 0, 1) := by decide +kernel
theorem d_Mo_without_158 : decode M_Mo_without.1 158 = .ok (.dup2, 1) := by decide +kernel
theorem d_Mo_without_159 : decode M_Mo_without.1 159 = .ok (.iaload, 1) := by decide +kernel
theorem d_Mo_without_160 : decode M_Mo_without.1 160 = .ok (.iconst 1, 1) := by decide +kernel
theorem d_Mo_without_161 : decode M_Mo_without.1 161 = .ok (.isub, 1) := by decide +kernel
theorem d_Mo_without_162 : decode M_Mo_without.1 162 = .ok (.iastore, 1) := by decide +kernel
theorem d_Mo_without_163 : decode M_Mo_without.1 163 = .ok (.return_, 1) := by decide +kernel
theorem d_Mo_pulls_0 : decode M_Mo_pulls.1 0 = .ok (.iload_n 1, 1) := by decide +kernel
theorem d_Mo_pulls_1 : decode M_Mo_pulls.1 1 = .ok (.invokestatic 159, 3) := by decide +kernel
theorem d_Mo_pulls_4 : decode M_Mo_pulls.1 4 = .ok (.ifCond .ne 6, 3) := by decide +kernel
theorem d_Mo_pulls_7 : decode M_Mo_pulls.1 7 = .ok (.ldc 51, 2) := by decide +kernel
theorem d_Mo_pulls_9 : decode M_Mo_pulls.1 9 = .ok (.ireturn, 1) := by decide +kernel
theorem d_Mo_pulls_10 : decode M_Mo_pulls.1 10 = .ok (.aload_n 0, 1) := by decide +kernel
theorem d_Mo_pulls_11 : decode M_Mo_pulls.1 11 = .ok (.invokevirtual 148, 3) := by decide +kernel
theorem d_Mo_pulls_14 : decode M_Mo_pulls.1 14 = .ok (.aload_n 0, 1) := by decide +kernel
theorem d_Mo_pulls_15 : decode M_Mo_pulls.1 15 = .ok (.iload_n 1, 1) := by decide +kernel
theorem d_Mo_pulls_16 : decode M_Mo_pulls.1 16 = .ok (.invokevirtual 151, 3) := by decide +kernel
theorem d_Mo_pulls_19 : decode M_Mo_pulls.1 19 = .ok (.aload_n 0, 1) := by decide +kernel
theorem d_Mo_pulls_20 : decode M_Mo_pulls.1 20 = .ok (.getfield 35, 3) := by decide +kernel
theorem d_Mo_pulls_23 : decode M_Mo_pulls.1 23 = .ok (.bipush 34, 2) := by decide +kernel
theorem d_Mo_pulls_25 : decode M_Mo_pulls.1 25 = .ok (.iaload, 1) := by decide +kernel
theorem d_Mo_pulls_26 : decode M_Mo_pulls.1 26 = .ok (.istore_n 2, 1) := by decide +kernel
theorem d_Mo_pulls_27 : decode M_Mo_pulls.1 27 = .ok (.ldc 107, 2) := by decide +kernel
theorem d_Mo_pulls_29 : decode M_Mo_pulls.1 29 = .ok (.istore_n 3, 1) := by decide +kernel
theorem d_Mo_pulls_30 : decode M_Mo_pulls.1 30 = .ok (.iconst 0, 1) := by decide +kernel
theorem d_Mo_pulls_31 : decode M_Mo_pulls.1 31 = .ok (.istore 4, 2) := by decide +kernel
theorem d_Mo_pulls_33 : decode M_Mo_pulls.1 33 = .ok (.iload 4, 2) := by decide +kernel
theorem d_Mo_pulls_35 : decode M_Mo_pulls.1 35 = .ok (.aload_n 0, 1) := by decide +kernel
theorem d_Mo_pulls_36 : decode M_Mo_pulls.1 36 = .ok (.getfield 7, 3) := by decide +kernel
theorem d_Mo_pulls_39 : decode M_Mo_pulls.1 39 = .ok (.iconst 0, 1) := by decide +kernel
theorem d_Mo_pulls_40 : decode M_Mo_pulls.1 40 = .ok (.iaload, 1) := by decide +kernel
theorem d_Mo_pulls_41 : decode M_Mo_pulls.1 41 = .ok (.if_icmp .ge 61, 3) := by decide +kernel
theorem d_Mo_pulls_44 : decode M_Mo_pulls.1 44 = .ok (.aload_n 0, 1) := by decide +kernel
theorem d_Mo_pulls_45 : decode M_Mo_pulls.1 45 = .ok (.iload 4, 2) := by decide +kernel
theorem d_Mo_pulls_47 : decode M_Mo_pulls.1 47 = .ok (.invokevirtual 168, 3) := by decide +kernel
theorem d_Mo_pulls_50 : decode M_Mo_pulls.1 50 = .ok (.aload_n 0, 1) := by decide +kernel
theorem d_Mo_pulls_51 : decode M_Mo_pulls.1 51 = .ok (.iload_n 1, 1) := by decide +kernel
theorem d_Mo_pulls_52 : decode M_Mo_pulls.1 52 = .ok (.invokevirtual 151, 3) := by decide +kernel
theorem d_Mo_pulls_55 : decode M_Mo_pulls.1 55 = .ok (.aload_n 0, 1) := by decide +kernel
theorem d_Mo_pulls_56 : decode M_Mo_pulls.1 56 = .ok (.getfield 35, 3) := by decide +kernel
theorem d_Mo_pulls_59 : decode M_Mo_pulls.1 59 = .ok (.bipush 34, 2) := by decide +kernel
theorem d_Mo_pulls_61 : decode M_Mo_pulls.1 61 = .ok (.iaload, 1) := by decide +kernel
theorem d_Mo_pulls_62 : decode M_Mo_pulls.1 62 = .ok (.iload_n 2, 1) := by decide +kernel
theorem d_Mo_pulls_63 : decode M_Mo_pulls.1 63 = .ok (.if_icmp .ge 8, 3) := by decide +kernel
theorem d_Mo_pulls_66 : decode M_Mo_pulls.1 66 = .ok (.iload 4, 2) := by decide +kernel
theorem d_Mo_pulls_68 : decode M_Mo_pulls.1 68 = .ok (.goto 4, 3) := by decide +kernel
theorem d_Mo_pulls_71 : decode M_Mo_pulls.1 71 = .ok (.iload_n 3, 1) := by decide +kernel
theorem d_Mo_pulls_72 : decode M_Mo_pulls.1 72 = .ok (.istore_n 3, 1) := by decide +kernel
theorem d_Mo_pulls_73 : decode M_Mo_pulls.1 73 = .ok (.aload_n 0, 1) := by decide +kernel
theorem d_Mo_pulls_74 : decode M_Mo_pulls.1 74 = .ok (.getfield 35, 3) := by decide +kernel
theorem d_Mo_pulls_77 : decode M_Mo_pulls.1 77 = .ok (.bipush 34, 2) := by decide +kernel
theorem d_Mo_pulls_79 : decode M_Mo_pulls.1 79 = .ok (.iaload, 1) := by decide +kernel
theorem d_Mo_pulls_80 : decode M_Mo_pulls.1 80 = .ok (.iload_n 2, 1) := by decide +kernel
theorem d_Mo_pulls_81 : decode M_Mo_pulls.1 81 = .ok (.if_icmp .ge 13, 3) := by decide +kernel
theorem d_Mo_pulls_84 : decode M_Mo_pulls.1 84 = .ok (.aload_n 0, 1) := by decide +kernel
theorem d_Mo_pulls_85 : decode M_Mo_pulls.1 85 = .ok (.getfield 35, 3) := by decide +kernel
theorem d_Mo_pulls_88 : decode M_Mo_pulls.1 88 = .ok (.bipush 34, 2) := by decide +kernel
theorem d_Mo_pulls_90 : decode M_Mo_pulls.1 90 = .ok (.iaload, 1) := by decide +kernel
theorem d_Mo_pulls_91 : decode M_Mo_pulls.1 91 = .ok (.goto 4, 3) := by decide +kernel
theorem d_Mo_pulls_94 : decode M_Mo_pulls.1 94 = .ok (.iload_n 2, 1) := by decide +kernel
theorem d_Mo_pulls_95 : decode M_Mo_pulls.1 95 = .ok (.istore_n 2, 1) := by decide +kernel
theorem d_Mo_pulls_96 : decode M_Mo_pulls.1 96 = .ok (.iinc 4 1, 3) := by decide +kernel
theorem d_Mo_pulls_99 : decode M_Mo_pulls.1 99 = .ok (.goto (-66), 3) := by decide +kernel
theorem d_Mo_pulls_102 : decode M_Mo_pulls.1 102 = .ok (.iload_n 3, 1) := by decide +kernel
theorem d_Mo_pulls_103 : decode M_Mo_pulls.1 103 = .ok (.ireturn, 1) := by decide +kernel
theorem d_Mo_change_0 : decode M_Mo_change.1 0 = .ok (.iload_n 1, 1) := by decide +kernel
theorem d_Mo_change_1 : decode M_Mo_change.1 1 = .ok (.invokestatic 159, 3) := by decide +kernel
theorem d_Mo_change_4 : decode M_Mo_change.1 4 = .ok (.ifCond .ne 6, 3) := by decide +kernel
theorem d_Mo_change_7 : decode M_Mo_change.1 7 = .ok (.ldc 51, 2) := by decide +kernel
theorem d_Mo_change_9 : decode M_Mo_change.1 9 = .ok (.ireturn, 1) := by decide +kernel
theorem d_Mo_change_10 : decode M_Mo_change.1 10 = .ok (.aload_n 0, 1) := by decide +kernel
theorem d_Mo_change_11 : decode M_Mo_change.1 11 = .ok (.invokevirtual 148, 3) := by decide +kernel
theorem d_Mo_change_14 : decode M_Mo_change.1 14 = .ok (.aload_n 0, 1) := by decide +kernel
theorem d_Mo_change_15 : decode M_Mo_change.1 15 = .ok (.iload_n 1, 1) := by decide +kernel
theorem d_Mo_change_16 : decode M_Mo_change.1 16 = .ok (.invokevirtual 151, 3) := by decide +kernel
theorem d_Mo_change_19 : decode M_Mo_change.1 19 = .ok (.aload_n 0, 1) := by decide +kernel
theorem d_Mo_change_20 : decode M_Mo_change.1 20 = .ok (.getfield 35, 3) := by decide +kernel
theorem d_Mo_change_23 : decode M_Mo_change.1 23 = .ok (.invokestatic 108, 3) := by decide +kernel
theorem d_Mo_change_26 : decode M_Mo_change.1 26 = .ok (.istore_n 2, 1) := by decide +kernel
theorem d_Mo_change_27 : decode M_Mo_change.1 27 = .ok (.ldc 107, 2) := by decide +kernel
theorem d_Mo_change_29 : decode M_Mo_change.1 29 = .ok (.istore_n 3, 1) := by decide +kernel
theorem d_Mo_change_30 : decode M_Mo_change.1 30 = .ok (.iconst 0, 1) := by decide +kernel
theorem d_Mo_change_31 : decode M_Mo_change.1 31 = .ok (.istore 4, 2) := by decide +kernel
theorem d_Mo_change_33 : decode M_Mo_change.1 33 = .ok (.iload 4, 2) := by decide +kernel
theorem d_Mo_change_35 : decode M_Mo_change.1 35 = .ok (.aload_n 0, 1) := by decide +kernel
theorem d_Mo_change_36 : decode M_Mo_change.1 36 = .ok (.getfield 7, 3) := by decide +kernel
theorem d_Mo_change_39 : decode M_Mo_change.1 39 = .ok (.iconst 0, 1) := by decide +kernel
theorem d_Mo_change_40 : decode M_Mo_change.1 40 = .ok (.iaload, 1) := by decide +kernel
theorem d_Mo_change_41 : decode M_Mo_change.1 41 = .ok (.if_icmp .ge 118, 3) := by decide +kernel
theorem d_Mo_change_44 : decode M_Mo_change.1 44 = .ok (.iload 4, 2) := by decide +kernel
theorem d_Mo_change_46 : decode M_Mo_change.1 46 = .ok (.iconst 1, 1) := by decide +kernel
theorem d_Mo_change_47 : decode M_Mo_change.1 47 = .ok (.iadd, 1) := by decide +kernel
theorem d_Mo_change_48 : decode M_Mo_change.1 48 = .ok (.istore 5, 2) := by decide +kernel
theorem d_Mo_change_50 : decode M_Mo_change.1 50 = .ok (.iload 5, 2) := by decide +kernel
theorem d_Mo_change_52 : decode M_Mo_change.1 52 = .ok (.aload_n 0, 1) := by decide +kernel
theorem d_Mo_change_53 : decode M_Mo_change.1 53 = .ok (.getfield 7, 3) := by decide +kernel
theorem d_Mo_change_56 : decode M_Mo_change.1 56 = .ok (.iconst 0, 1) := by decide +kernel
theorem d_Mo_change_57 : decode M_Mo_change.1 57 = .ok (.iaload, 1) := by decide +kernel
theorem d_Mo_change_58 : decode M_Mo_change.1 58 = .ok (.if_icmp .ge 95, 3) := by decide +kernel
theorem d_Mo_change_61 : decode M_Mo_change.1 61 = .ok (.aload_n 0, 1) := by decide +kernel
theorem d_Mo_change_62 : decode M_Mo_change.1 62 = .ok (.invokevirtual 148, 3) := by decide +kernel
theorem d_Mo_change_65 : decode M_Mo_change.1 65 = .ok (.aload_n 0, 1) := by decide +kernel
theorem d_Mo_change_66 : decode M_Mo_change.1 66 = .ok (.getfield 35, 3) := by decide +kernel
theorem d_Mo_change_69 : decode M_Mo_change.1 69 = .ok (.iconst 4, 1) := by decide +kernel
theorem d_Mo_change_70 : decode M_Mo_change.1 70 = .ok (.iload 4, 2) := by decide +kernel
theorem d_Mo_change_72 : decode M_Mo_change.1 72 = .ok (.iadd, 1) := by decide +kernel
theorem d_Mo_change_73 : decode M_Mo_change.1 73 = .ok (.aload_n 0, 1) := by decide +kernel
theorem d_Mo_change_74 : decode M_Mo_change.1 74 = .ok (.getfield 7, 3) := by decide +kernel
theorem d_Mo_change_77 : decode M_Mo_change.1 77 = .ok (.iconst 4, 1) := by decide +kernel
theorem d_Mo_change_78 : decode M_Mo_change.1 78 = .ok (.iload 5, 2) := by decide +kernel
theorem d_Mo_change_80 : decode M_Mo_change.1 80 = .ok (.iadd, 1) := by decide +kernel
theorem d_Mo_change_81 : decode M_Mo_change.1 81 = .ok (.iaload, 1) := by decide +kernel
theorem d_Mo_change_82 : decode M_Mo_change.1 82 = .ok (.iastore, 1) := by decide +kernel
theorem d_Mo_change_83 : decode M_Mo_change.1 83 = .ok (.aload_n 0, 1) := by decide +kernel
theorem d_Mo_change_84 : decode M_Mo_change.1 84 = .ok (.getfield 35, 3) := by decide +kernel
theorem d_Mo_change_87 : decode M_Mo_change.1 87 = .ok (.iconst 4, 1) := by decide +kernel
theorem d_Mo_change_88 : decode M_Mo_change.1 88 = .ok (.iload 5, 2) := by decide +kernel
theorem d_Mo_change_90 : decode M_Mo_change.1 90 = .ok (.iadd, 1) := by decide +kernel
theorem d_Mo_change_91 : decode M_Mo_change.1 91 = .ok (.aload_n 0, 1) := by decide +kernel
theorem d_Mo_change_92 : decode M_Mo_change.1 92 = .ok (.getfield 7, 3) := by decide +kernel
theorem d_Mo_change_95 : decode M_Mo_change.1 95 = .ok (.iconst 4, 1) := by decide +kernel
theorem d_Mo_change_96 : decode M_Mo_change.1 96 = .ok (.iload 4, 2) := by decide +kernel
theorem d_Mo_change_98 : decode M_Mo_change.1 98 = .ok (.iadd, 1) := by decide +kernel
theorem d_Mo_change_99 : decode M_Mo_change.1 99 = .ok (.iaload, 1) := by decide +kernel
theorem d_Mo_change_100 : decode M_Mo_change.1 100 = .ok (.iastore, 1) := by decide +kernel
theorem d_Mo_change_101 : decode M_Mo_change.1 101 = .ok (.aload_n 0, 1) := by decide +kernel
theorem d_Mo_change_102 : decode M_Mo_change.1 102 = .ok (.iload_n 1, 1) := by decide +kernel
theorem d_Mo_change_103 : decode M_Mo_change.1 103 = .ok (.invokevirtual 151, 3) := by decide +kernel
theorem d_Mo_change_106 : decode M_Mo_change.1 106 = .ok (.aload_n 0, 1) := by decide +kernel
theorem d_Mo_change_107 : decode M_Mo_change.1 107 = .ok (.getfield 35, 3) := by decide +kernel
theorem d_Mo_change_110 : decode M_Mo_change.1 110 = .ok (.invokestatic 108, 3) := by decide +kernel
theorem d_Mo_change_113 : decode M_Mo_change.1 113 = .ok (.istore 6, 2) := by decide +kernel
theorem d_Mo_change_115 : decode M_Mo_change.1 115 = .ok (.iload 6, 2) := by decide +kernel
theorem d_Mo_change_117 : decode M_Mo_change.1 117 = .ok (.iload_n 2, 1) := by decide +kernel
theorem d_Mo_change_118 : decode M_Mo_change.1 118 = .ok (.if_icmp .ge 14, 3) := by decide +kernel
theorem d_Mo_change_121 : decode M_Mo_change.1 121 = .ok (.bipush 10, 2) := by decide +kernel
theorem d_Mo_change_123 : decode M_Mo_change.1 123 = .ok (.iload 4, 2) := by decide +kernel
theorem d_Mo_change_125 : decode M_Mo_change.1 125 = .ok (.imul, 1) := by decide +kernel
theorem d_Mo_change_126 : decode M_Mo_change.1 126 = .ok (.iload 5, 2) := by decide +kernel
theorem d_Mo_change_128 : decode M_Mo_change.1 128 = .ok (.iadd, 1) := by decide +kernel
theorem d_Mo_change_129 : decode M_Mo_change.1 129 = .ok (.goto 4, 3) := by decide +kernel
theorem d_Mo_change_132 : decode M_Mo_change.1 132 = .ok (.iload_n 3, 1) := by decide +kernel
theorem d_Mo_change_133 : decode M_Mo_change.1 133 = .ok (.istore_n 3, 1) := by decide +kernel
theorem d_Mo_change_134 : decode M_Mo_change.1 134 = .ok (.iload 6, 2) := by decide +kernel
theorem d_Mo_change_136 : decode M_Mo_change.1 136 = .ok (.iload_n 2, 1) := by decide +kernel
theorem d_Mo_change_137 : decode M_Mo_change.1 137 = .ok (.if_icmp .ge 8, 3) := by decide +kernel
theorem d_Mo_change_140 : decode M_Mo_change.1 140 = .ok (.iload 6, 2) := by decide +kernel
theorem d_Mo_change_142 : decode M_Mo_change.1 142 = .ok (.goto 4, 3) := by decide +kernel
theorem d_Mo_change_145 : decode M_Mo_change.1 145 = .ok (.iload_n 2, 1) := by decide +kernel
theorem d_Mo_change_146 : decode M_Mo_change.1 146 = .ok (.istore_n 2, 1) := by decide +kernel
theorem d_Mo_change_147 : decode M_Mo_change.1 147 = .ok (.iinc 5 1, 3) := by decide +kernel
theorem d_Mo_change_150 : decode M_Mo_change.1 150 = .ok (.goto (-100), 3) := by decide +kernel
theorem d_Mo_change_153 : decode M_Mo_change.1 153 = .ok (.iinc 4 1, 3) := by decide +kernel
theorem d_Mo_change_156 : decode M_Mo_change.1 156 = .ok (.goto (-123), 3) := by decide +kernel
theorem d_Mo_change_159 : decode M_Mo_change.1 159 = .ok (.iload_n 3, 1) := by decide +kernel
theorem d_Mo_change_160 : decode M_Mo_change.1 160 = .ok (.ireturn, 1) := by decide +kernel
theorem d_Mo_gaps_0 : decode M_Mo_gaps.1 0 = .ok (.iload_n 1, 1) := by decide +kernel
theorem d_Mo_gaps_1 : decode M_Mo_gaps.1 1 = .ok (.i2l, 1) := by decide +kernel
theorem d_Mo_gaps_2 : decode M_Mo_gaps.1 2 = .ok (.lconst 0, 1) := by decide +kernel
theorem d_Mo_gaps_3 : decode M_Mo_gaps.1 3 = .ok (.ldc2_w 166, 3) := by decide +kernel
theorem d_Mo_gaps_6 : decode M_Mo_gaps.1 6 = .ok (.invokestatic 45, 3) := by decide +kernel
theorem d_Mo_gaps_9 : decode M_Mo_gaps.1 9 = .ok (.ifCond .ne 6, 3) := by decide +kernel
theorem d_Mo_gaps_12 : decode M_Mo_gaps.1 12 = .ok (.ldc 51, 2) := by decide +kernel
theorem d_Mo_gaps_14 : decode M_Mo_gaps.1 14 = .ok (.ireturn, 1) := by decide +kernel
theorem d_Mo_gaps_15 : decode M_Mo_gaps.1 15 = .ok (.iconst 0, 1) := by decide +kernel
theorem d_Mo_gaps_16 : decode M_Mo_gaps.1 16 = .ok (.istore_n 2, 1) := by decide +kernel
theorem d_Mo_gaps_17 : decode M_Mo_gaps.1 17 = .ok (.iload_n 2, 1) := by decide +kernel
theorem d_Mo_gaps_18 : decode M_Mo_gaps.1 18 = .ok (.bipush 10, 2) := by decide +kernel
theorem d_Mo_gaps_20 : decode M_Mo_gaps.1 20 = .ok (.if_icmp .ge 44, 3) := by decide +kernel
theorem d_Mo_gaps_23 : decode M_Mo_gaps.1 23 = .ok (.aload_n 0, 1) := by decide +kernel
theorem d_Mo_gaps_24 : decode M_Mo_gaps.1 24 = .ok (.invokevirtual 148, 3) := by decide +kernel
theorem d_Mo_gaps_27 : decode M_Mo_gaps.1 27 = .ok (.aload_n 0, 1) := by decide +kernel
theorem d_Mo_gaps_28 : decode M_Mo_gaps.1 28 = .ok (.aload_n 0, 1) := by decide +kernel
theorem d_Mo_gaps_29 : decode M_Mo_gaps.1 29 = .ok (.getfield 7, 3) := by decide +kernel
theorem d_Mo_gaps_32 : decode M_Mo_gaps.1 32 = .ok (.iconst 2, 1) := by decide +kernel
theorem d_Mo_gaps_33 : decode M_Mo_gaps.1 33 = .ok (.iaload, 1) := by decide +kernel
theorem d_Mo_gaps_34 : decode M_Mo_gaps.1 34 = .ok (.invokevirtual 151, 3) := by decide +kernel
theorem d_Mo_gaps_37 : decode M_Mo_gaps.1 37 = .ok (.aload_n 0, 1) := by decide +kernel
theorem d_Mo_gaps_38 : decode M_Mo_gaps.1 38 = .ok (.getfield 35, 3) := by decide +kernel
theorem d_Mo_gaps_41 : decode M_Mo_gaps.1 41 = .ok (.iload_n 2, 1) := by decide +kernel
theorem d_Mo_gaps_42 : decode M_Mo_gaps.1 42 = .ok (.invokestatic 127, 3) := by decide +kernel
theorem d_Mo_gaps_45 : decode M_Mo_gaps.1 45 = .ok (.aload_n 0, 1) := by decide +kernel
theorem d_Mo_gaps_46 : decode M_Mo_gaps.1 46 = .ok (.getfield 35, 3) := by decide +kernel
theorem d_Mo_gaps_49 : decode M_Mo_gaps.1 49 = .ok (.invokestatic 163, 3) := by decide +kernel
theorem d_Mo_gaps_52 : decode M_Mo_gaps.1 52 = .ok (.iload_n 1, 1) := by decide +kernel
theorem d_Mo_gaps_53 : decode M_Mo_gaps.1 53 = .ok (.if_icmp .gt 5, 3) := by decide +kernel
theorem d_Mo_gaps_56 : decode M_Mo_gaps.1 56 = .ok (.iload_n 2, 1) := by decide +kernel
theorem d_Mo_gaps_57 : decode M_Mo_gaps.1 57 = .ok (.ireturn, 1) := by decide +kernel
theorem d_Mo_gaps_58 : decode M_Mo_gaps.1 58 = .ok (.iinc 2 1, 3) := by decide +kernel
theorem d_Mo_gaps_61 : decode M_Mo_gaps.1 61 = .ok (.goto (-44), 3) := by decide +kernel
theorem d_Mo_gaps_64 : decode M_Mo_gaps.1 64 = .ok (.ldc 107, 2) := by decide +kernel
theorem d_Mo_gaps_66 : decode M_Mo_gaps.1 66 = .ok (.ireturn, 1) := by decide +kernel
theorem d_Mo_hear_0 : decode M_Mo_hear.1 0 = .ok (.iload_n 1, 1) := by decide +kernel
theorem d_Mo_hear_1 : decode M_Mo_hear.1 1 = .ok (.i2l, 1) := by decide +kernel
theorem d_Mo_hear_2 : decode M_Mo_hear.1 2 = .ok (.lconst 1, 1) := by decide +kernel
theorem d_Mo_hear_3 : decode M_Mo_hear.1 3 = .ok (.ldc2_w 131, 3) := by decide +kernel
theorem d_Mo_hear_6 : decode M_Mo_hear.1 6 = .ok (.invokestatic 45, 3) := by decide +kernel
theorem d_Mo_hear_9 : decode M_Mo_hear.1 9 = .ok (.ifCond .eq 25, 3) := by decide +kernel
theorem d_Mo_hear_12 : decode M_Mo_hear.1 12 = .ok (.aload_n 0, 1) := by decide +kernel
theorem d_Mo_hear_13 : decode M_Mo_hear.1 13 = .ok (.iload_n 2, 1) := by decide +kernel
theorem d_Mo_hear_14 : decode M_Mo_hear.1 14 = .ok (.invokevirtual 102, 3) := by decide +kernel
theorem d_Mo_hear_17 : decode M_Mo_hear.1 17 = .ok (.ifCond .eq 17, 3) := by decide +kernel
theorem d_Mo_hear_20 : decode M_Mo_hear.1 20 = .ok (.iload_n 3, 1) := by decide +kernel
theorem d_Mo_hear_21 : decode M_Mo_hear.1 21 = .ok (.i2l, 1) := by decide +kernel
theorem d_Mo_hear_22 : decode M_Mo_hear.1 22 = .ok (.ldc2_w 171, 3) := by decide +kernel
theorem d_Mo_hear_25 : decode M_Mo_hear.1 25 = .ok (.ldc2_w 173, 3) := by decide +kernel
theorem d_Mo_hear_28 : decode M_Mo_hear.1 28 = .ok (.invokestatic 45, 3) := by decide +kernel
theorem d_Mo_hear_31 : decode M_Mo_hear.1 31 = .ok (.ifCond .ne 6, 3) := by decide +kernel
theorem d_Mo_hear_34 : decode M_Mo_hear.1 34 = .ok (.ldc 51, 2) := by decide +kernel
theorem d_Mo_hear_36 : decode M_Mo_hear.1 36 = .ok (.ireturn, 1) := by decide +kernel
theorem d_Mo_hear_37 : decode M_Mo_hear.1 37 = .ok (.aload_n 0, 1) := by decide +kernel
theorem d_Mo_hear_38 : decode M_Mo_hear.1 38 = .ok (.getfield 99, 3) := by decide +kernel
theorem d_Mo_hear_41 : decode M_Mo_hear.1 41 = .ok (.bipush 6, 2) := by decide +kernel
theorem d_Mo_hear_43 : decode M_Mo_hear.1 43 = .ok (.if_icmp .ne 6, 3) := by decide +kernel
theorem d_Mo_hear_46 : decode M_Mo_hear.1 46 = .ok (.ldc 56, 2) := by decide +kernel
theorem d_Mo_hear_48 : decode M_Mo_hear.1 48 = .ok (.ireturn, 1) := by decide +kernel
theorem d_Mo_hear_49 : decode M_Mo_hear.1 49 = .ok (.aload_n 0, 1) := by decide +kernel
theorem d_Mo_hear_50 : decode M_Mo_hear.1 50 = .ok (.getfield 26, 3) := by decide +kernel
theorem d_Mo_hear_53 : decode M_Mo_hear.1 53 = .ok (.iconst 3, 1) := by decide +kernel
theorem d_Mo_hear_54 : decode M_Mo_hear.1 54 = .ok (.aload_n 0, 1) := by decide +kernel
theorem d_Mo_hear_55 : decode M_Mo_hear.1 55 = .ok (.getfield 99, 3) := by decide +kernel
theorem d_Mo_hear_58 : decode M_Mo_hear.1 58 = .ok (.imul, 1) := by decide +kernel
theorem d_Mo_hear_59 : decode M_Mo_hear.1 59 = .ok (.iload_n 1, 1) := by decide +kernel
theorem d_Mo_hear_60 : decode M_Mo_hear.1 60 = .ok (.iastore, 1) := by decide +kernel
theorem d_Mo_hear_61 : decode M_Mo_hear.1 61 = .ok (.aload_n 0, 1) := by decide +kernel
theorem d_Mo_hear_62 : decode M_Mo_hear.1 62 = .ok (.getfield 26, 3) := by decide +kernel
theorem d_Mo_hear_65 : decode M_Mo_hear.1 65 = .ok (.iconst 3, 1) := by decide +kernel
theorem d_Mo_hear_66 : decode M_Mo_hear.1 66 = .ok (.aload_n 0, 1) := by decide +kernel
theorem d_Mo_hear_67 : decode M_Mo_hear.1 67 = .ok (.getfield 99, 3) := by decide +kernel
theorem d_Mo_hear_70 : decode M_Mo_hear.1 70 = .ok (.imul, 1) := by decide +kernel
theorem d_Mo_hear_71 : decode M_Mo_hear.1 71 = .ok (.iconst 1, 1) := by decide +kernel
theorem d_Mo_hear_72 : decode M_Mo_hear.1 72 = .ok (.iadd, 1) := by decide +kernel
theorem d_Mo_hear_73 : decode M_Mo_hear.1 73 = .ok (.iload_n 2, 1) := by decide +kernel
theorem d_Mo_hear_74 : decode M_Mo_hear.1 74 = .ok (.iastore, 1) := by decide +kernel
theorem d_Mo_hear_75 : decode M_Mo_hear.1 75 = .ok (.aload_n 0, 1) := by decide +kernel
theorem d_Mo_hear_76 : decode M_Mo_hear.1 76 = .ok (.getfield 26, 3) := by decide +kernel
theorem d_Mo_hear_79 : decode M_Mo_hear.1 79 = .ok (.iconst 3, 1) := by decide +kernel
theorem d_Mo_hear_80 : decode M_Mo_hear.1 80 = .ok (.aload_n 0, 1) := by decide +kernel
theorem d_Mo_hear_81 : decode M_Mo_hear.1 81 = .ok (.getfield 99, 3) := by decide +kernel
theorem d_Mo_hear_84 : decode M_Mo_hear.1 84 = .ok (.imul, 1) := by decide +kernel
theorem d_Mo_hear_85 : decode M_Mo_hear.1 85 = .ok (.iconst 2, 1) := by decide +kernel
theorem d_Mo_hear_86 : decode M_Mo_hear.1 86 = .ok (.iadd, 1) := by decide +kernel
theorem d_Mo_hear_87 : decode M_Mo_hear.1 87 = .ok (.iload_n 3, 1) := by decide +kernel
theorem d_Mo_hear_88 : decode M_Mo_hear.1 88 = .ok (.iastore, 1) := by decide +kernel
theorem d_Mo_hear_89 : decode M_Mo_hear.1 89 = .ok (.aload_n 0, 1) := by decide +kernel
theorem d_Mo_hear_90 : decode M_Mo_hear.1 90 = .ok (.dup, 1) := by decide +kernel
theorem d_Mo_hear_91 : decode M_Mo_hear.1 91 = .ok (.getfield 99, 3) := by decide +kernel
theorem d_Mo_hear_94 : decode M_Mo_hear.1 94 = .ok (.iconst 1, 1) := by decide +kernel
theorem d_Mo_hear_95 : decode M_Mo_hear.1 95 = .ok (.iadd, 1) := by decide +kernel
theorem d_Mo_hear_96 : decode M_Mo_hear.1 96 = .ok (.putfield 99, 3) := by decide +kernel
theorem d_Mo_hear_99 : decode M_Mo_hear.1 99 = .ok (.aload_n 0, 1) := by decide +kernel
theorem d_Mo_hear_100 : decode M_Mo_hear.1 100 = .ok (.getfield 99, 3) := by decide +kernel
theorem d_Mo_hear_103 : decode M_Mo_hear.1 103 = .ok (.ireturn, 1) := by decide +kernel
theorem d_Mo_forget_0 : decode M_Mo_forget.1 0 = .ok (.aload_n 0, 1) := by decide +kernel
theorem d_Mo_forget_1 : decode M_Mo_forget.1 1 = .ok (.getfield 99, 3) := by decide +kernel
theorem d_Mo_forget_4 : decode M_Mo_forget.1 4 = .ok (.istore_n 1, 1) := by decide +kernel
theorem d_Mo_forget_5 : decode M_Mo_forget.1 5 = .ok (.aload_n 0, 1) := by decide +kernel
theorem d_Mo_forget_6 : decode M_Mo_forget.1 6 = .ok (.iconst 0, 1) := by decide +kernel
theorem d_Mo_forget_7 : decode M_Mo_forget.1 7 = .ok (.putfield 99, 3) := by decide +kernel
theorem d_Mo_forget_10 : decode M_Mo_forget.1 10 = .ok (.iload_n 1, 1) := by decide +kernel
theorem d_Mo_forget_11 : decode M_Mo_forget.1 11 = .ok (.ireturn, 1) := by decide +kernel
theorem d_Mo_isSo_0 : decode M_Mo_isSo.1 0 = .ok (.aload_n 0, 1) := by decide +kernel
theorem d_Mo_isSo_1 : decode M_Mo_isSo.1 1 = .ok (.invokevirtual 148, 3) := by decide +kernel
theorem d_Mo_isSo_4 : decode M_Mo_isSo.1 4 = .ok (.iconst 0, 1) := by decide +kernel
theorem d_Mo_isSo_5 : decode M_Mo_isSo.1 5 = .ok (.istore_n 2, 1) := by decide +kernel
theorem d_Mo_isSo_6 : decode M_Mo_isSo.1 6 = .ok (.iload_n 2, 1) := by decide +kernel
theorem d_Mo_isSo_7 : decode M_Mo_isSo.1 7 = .ok (.bipush 6, 2) := by decide +kernel
theorem d_Mo_isSo_9 : decode M_Mo_isSo.1 9 = .ok (.if_icmp .ge 19, 3) := by decide +kernel
theorem d_Mo_isSo_12 : decode M_Mo_isSo.1 12 = .ok (.aload_n 0, 1) := by decide +kernel
theorem d_Mo_isSo_13 : decode M_Mo_isSo.1 13 = .ok (.getfield 35, 3) := by decide +kernel
theorem d_Mo_isSo_16 : decode M_Mo_isSo.1 16 = .ok (.bipush 28, 2) := by decide +kernel
theorem d_Mo_isSo_18 : decode M_Mo_isSo.1 18 = .ok (.iload_n 2, 1) := by decide +kernel
theorem d_Mo_isSo_19 : decode M_Mo_isSo.1 19 = .ok (.iadd, 1) := by decide +kernel
theorem d_Mo_isSo_20 : decode M_Mo_isSo.1 20 = .ok (.iconst 0, 1) := by decide +kernel
theorem d_Mo_isSo_21 : decode M_Mo_isSo.1 21 = .ok (.iastore, 1) := by decide +kernel
theorem d_Mo_isSo_22 : decode M_Mo_isSo.1 22 = .ok (.iinc 2 1, 3) := by decide +kernel
theorem d_Mo_isSo_25 : decode M_Mo_isSo.1 25 = .ok (.goto (-19), 3) := by decide +kernel
theorem d_Mo_isSo_28 : decode M_Mo_isSo.1 28 = .ok (.aload_n 0, 1) := by decide +kernel
theorem d_Mo_isSo_29 : decode M_Mo_isSo.1 29 = .ok (.getfield 35, 3) := by decide +kernel
theorem d_Mo_isSo_32 : decode M_Mo_isSo.1 32 = .ok (.bipush 34, 2) := by decide +kernel
theorem d_Mo_isSo_34 : decode M_Mo_isSo.1 34 = .ok (.iconst 0, 1) := by decide +kernel
theorem d_Mo_isSo_35 : decode M_Mo_isSo.1 35 = .ok (.iastore, 1) := by decide +kernel
theorem d_Mo_isSo_36 : decode M_Mo_isSo.1 36 = .ok (.aload_n 0, 1) := by decide +kernel
theorem d_Mo_isSo_37 : decode M_Mo_isSo.1 37 = .ok (.getfield 35, 3) := by decide +kernel
theorem d_Mo_isSo_40 : decode M_Mo_isSo.1 40 = .ok (.bipush 35, 2) := by decide +kernel
theorem d_Mo_isSo_42 : decode M_Mo_isSo.1 42 = .ok (.iconst 0, 1) := by decide +kernel
theorem d_Mo_isSo_43 : decode M_Mo_isSo.1 43 = .ok (.iastore, 1) := by decide +kernel
theorem d_Mo_isSo_44 : decode M_Mo_isSo.1 44 = .ok (.aload_n 0, 1) := by decide +kernel
theorem d_Mo_isSo_45 : decode M_Mo_isSo.1 45 = .ok (.getfield 35, 3) := by decide +kernel
theorem d_Mo_isSo_48 : decode M_Mo_isSo.1 48 = .ok (.bipush 36, 2) := by decide +kernel
theorem d_Mo_isSo_50 : decode M_Mo_isSo.1 50 = .ok (.iconst (-1), 1) := by decide +kernel
theorem d_Mo_isSo_51 : decode M_Mo_isSo.1 51 = .ok (.iastore, 1) := by decide +kernel
theorem d_Mo_isSo_52 : decode M_Mo_isSo.1 52 = .ok (.aload_n 0, 1) := by decide +kernel
theorem d_Mo_isSo_53 : decode M_Mo_isSo.1 53 = .ok (.getfield 35, 3) := by decide +kernel
theorem d_Mo_isSo_56 : decode M_Mo_isSo.1 56 = .ok (.bipush 37, 2) := by decide +kernel
theorem d_Mo_isSo_58 : decode M_Mo_isSo.1 58 = .ok (.iconst 0, 1) := by decide +kernel
theorem d_Mo_isSo_59 : decode M_Mo_isSo.1 59 = .ok (.iastore, 1) := by decide +kernel
theorem d_Mo_isSo_60 : decode M_Mo_isSo.1 60 = .ok (.aload_n 0, 1) := by decide +kernel
theorem d_Mo_isSo_61 : decode M_Mo_isSo.1 61 = .ok (.getfield 35, 3) := by decide +kernel
theorem d_Mo_isSo_64 : decode M_Mo_isSo.1 64 = .ok (.iconst 1, 1) := by decide +kernel
theorem d_Mo_isSo_65 : decode M_Mo_isSo.1 65 = .ok (.iload_n 1, 1) := by decide +kernel
theorem d_Mo_isSo_66 : decode M_Mo_isSo.1 66 = .ok (.iastore, 1) := by decide +kernel
theorem d_Mo_isSo_67 : decode M_Mo_isSo.1 67 = .ok (.iconst 1, 1) := by decide +kernel
theorem d_Mo_isSo_68 : decode M_Mo_isSo.1 68 = .ok (.istore_n 2, 1) := by decide +kernel
theorem d_Mo_isSo_69 : decode M_Mo_isSo.1 69 = .ok (.iload_n 2, 1) := by decide +kernel
theorem d_Mo_isSo_70 : decode M_Mo_isSo.1 70 = .ok (.bipush 20, 2) := by decide +kernel
theorem d_Mo_isSo_72 : decode M_Mo_isSo.1 72 = .ok (.if_icmp .gt 75, 3) := by decide +kernel
theorem d_Mo_isSo_75 : decode M_Mo_isSo.1 75 = .ok (.aload_n 0, 1) := by decide +kernel
theorem d_Mo_isSo_76 : decode M_Mo_isSo.1 76 = .ok (.iconst 1, 1) := by decide +kernel
theorem d_Mo_isSo_77 : decode M_Mo_isSo.1 77 = .ok (.invokevirtual 151, 3) := by decide +kernel
theorem d_Mo_isSo_80 : decode M_Mo_isSo.1 80 = .ok (.iconst 0, 1) := by decide +kernel
theorem d_Mo_isSo_81 : decode M_Mo_isSo.1 81 = .ok (.istore_n 3, 1) := by decide +kernel
theorem d_Mo_isSo_82 : decode M_Mo_isSo.1 82 = .ok (.iload_n 3, 1) := by decide +kernel
theorem d_Mo_isSo_83 : decode M_Mo_isSo.1 83 = .ok (.aload_n 0, 1) := by decide +kernel
theorem d_Mo_isSo_84 : decode M_Mo_isSo.1 84 = .ok (.getfield 99, 3) := by decide +kernel
theorem d_Mo_isSo_87 : decode M_Mo_isSo.1 87 = .ok (.if_icmp .ge 54, 3) := by decide +kernel
theorem d_Mo_isSo_90 : decode M_Mo_isSo.1 90 = .ok (.aload_n 0, 1) := by decide +kernel
theorem d_Mo_isSo_91 : decode M_Mo_isSo.1 91 = .ok (.getfield 26, 3) := by decide +kernel
theorem d_Mo_isSo_94 : decode M_Mo_isSo.1 94 = .ok (.iconst 3, 1) := by decide +kernel
theorem d_Mo_isSo_95 : decode M_Mo_isSo.1 95 = .ok (.iload_n 3, 1) := by decide +kernel
theorem d_Mo_isSo_96 : decode M_Mo_isSo.1 96 = .ok (.imul, 1) := by decide +kernel
theorem d_Mo_isSo_97 : decode M_Mo_isSo.1 97 = .ok (.iaload, 1) := by decide +kernel
theorem d_Mo_isSo_98 : decode M_Mo_isSo.1 98 = .ok (.iload_n 2, 1) := by decide +kernel
theorem d_Mo_isSo_99 : decode M_Mo_isSo.1 99 = .ok (.if_icmp .ne 36, 3) := by decide +kernel
theorem d_Mo_isSo_102 : decode M_Mo_isSo.1 102 = .ok (.aload_n 0, 1) := by decide +kernel
theorem d_Mo_isSo_103 : decode M_Mo_isSo.1 103 = .ok (.getfield 35, 3) := by decide +kernel
theorem d_Mo_isSo_106 : decode M_Mo_isSo.1 106 = .ok (.bipush 28, 2) := by decide +kernel
theorem d_Mo_isSo_108 : decode M_Mo_isSo.1 108 = .ok (.aload_n 0, 1) := by decide +kernel
theorem d_Mo_isSo_109 : decode M_Mo_isSo.1 109 = .ok (.getfield 26, 3) := by decide +kernel
theorem d_Mo_isSo_112 : decode M_Mo_isSo.1 112 = .ok (.iconst 3, 1) := by decide +kernel
theorem d_Mo_isSo_113 : decode M_Mo_isSo.1 113 = .ok (.iload_n 3, 1) := by decide +kernel
theorem d_Mo_isSo_114 : decode M_Mo_isSo.1 114 = .ok (.imul, 1) := by decide +kernel
theorem d_Mo_isSo_115 : decode M_Mo_isSo.1 115 = .ok (.iconst 1, 1) := by decide +kernel
theorem d_Mo_isSo_116 : decode M_Mo_isSo.1 116 = .ok (.iadd, 1) := by decide +kernel
theorem d_Mo_isSo_117 : decode M_Mo_isSo.1 117 = .ok (.iaload, 1) := by decide +kernel
theorem d_Mo_isSo_118 : decode M_Mo_isSo.1 118 = .ok (.iadd, 1) := by decide +kernel
theorem d_Mo_isSo_119 : decode M_Mo_isSo.1 119 = .ok (.iaload, 1) := by decide +kernel
theorem d_Mo_isSo_120 : decode M_Mo_isSo.1 120 = .ok (.aload_n 0, 1) := by decide +kernel
theorem d_Mo_isSo_121 : decode M_Mo_isSo.1 121 = .ok (.getfield 26, 3) := by decide +kernel
theorem d_Mo_isSo_124 : decode M_Mo_isSo.1 124 = .ok (.iconst 3, 1) := by decide +kernel
theorem d_Mo_isSo_125 : decode M_Mo_isSo.1 125 = .ok (.iload_n 3, 1) := by decide +kernel
theorem d_Mo_isSo_126 : decode M_Mo_isSo.1 126 = .ok (.imul, 1) := by decide +kernel
theorem d_Mo_isSo_127 : decode M_Mo_isSo.1 127 = .ok (.iconst 2, 1) := by decide +kernel
theorem d_Mo_isSo_128 : decode M_Mo_isSo.1 128 = .ok (.iadd, 1) := by decide +kernel
theorem d_Mo_isSo_129 : decode M_Mo_isSo.1 129 = .ok (.iaload, 1) := by decide +kernel
theorem d_Mo_isSo_130 : decode M_Mo_isSo.1 130 = .ok (.if_icmp .eq 5, 3) := by decide +kernel
theorem d_Mo_isSo_133 : decode M_Mo_isSo.1 133 = .ok (.iconst 0, 1) := by decide +kernel
theorem d_Mo_isSo_134 : decode M_Mo_isSo.1 134 = .ok (.ireturn, 1) := by decide +kernel
theorem d_Mo_isSo_135 : decode M_Mo_isSo.1 135 = .ok (.iinc 3 1, 3) := by decide +kernel
theorem d_Mo_isSo_138 : decode M_Mo_isSo.1 138 = .ok (.goto (-56), 3) := by decide +kernel
theorem d_Mo_isSo_141 : decode M_Mo_isSo.1 141 = .ok (.iinc 2 1, 3) := by decide +kernel
theorem d_Mo_isSo_144 : decode M_Mo_isSo.1 144 = .ok (.goto (-75), 3) := by decide +kernel
theorem d_Mo_isSo_147 : decode M_Mo_isSo.1 147 = .ok (.iconst 1, 1) := by decide +kernel
theorem d_Mo_isSo_148 : decode M_Mo_isSo.1 148 = .ok (.ireturn, 1) := by decide +kernel
theorem d_Mo_waited_0 : decode M_Mo_waited.1 0 = .ok (.iconst 0, 1) := by decide +kernel
theorem d_Mo_waited_1 : decode M_Mo_waited.1 1 = .ok (.istore_n 1, 1) := by decide +kernel
theorem d_Mo_waited_2 : decode M_Mo_waited.1 2 = .ok (.iconst 0, 1) := by decide +kernel
theorem d_Mo_waited_3 : decode M_Mo_waited.1 3 = .ok (.istore_n 2, 1) := by decide +kernel
theorem d_Mo_waited_4 : decode M_Mo_waited.1 4 = .ok (.iload_n 2, 1) := by decide +kernel
theorem d_Mo_waited_5 : decode M_Mo_waited.1 5 = .ok (.bipush 10, 2) := by decide +kernel
theorem d_Mo_waited_7 : decode M_Mo_waited.1 7 = .ok (.if_icmp .gt 27, 3) := by decide +kernel
theorem d_Mo_waited_10 : decode M_Mo_waited.1 10 = .ok (.iload_n 1, 1) := by decide +kernel
theorem d_Mo_waited_11 : decode M_Mo_waited.1 11 = .ok (.aload_n 0, 1) := by decide +kernel
theorem d_Mo_waited_12 : decode M_Mo_waited.1 12 = .ok (.iload_n 2, 1) := by decide +kernel
theorem d_Mo_waited_13 : decode M_Mo_waited.1 13 = .ok (.invokevirtual 175, 3) := by decide +kernel
theorem d_Mo_waited_16 : decode M_Mo_waited.1 16 = .ok (.ifCond .eq 9, 3) := by decide +kernel
theorem d_Mo_waited_19 : decode M_Mo_waited.1 19 = .ok (.iconst 1, 1) := by decide +kernel
theorem d_Mo_waited_20 : decode M_Mo_waited.1 20 = .ok (.iload_n 2, 1) := by decide +kernel
theorem d_Mo_waited_21 : decode M_Mo_waited.1 21 = .ok (.ishl, 1) := by decide +kernel
theorem d_Mo_waited_22 : decode M_Mo_waited.1 22 = .ok (.goto 4, 3) := by decide +kernel
theorem d_Mo_waited_25 : decode M_Mo_waited.1 25 = .ok (.iconst 0, 1) := by decide +kernel
theorem d_Mo_waited_26 : decode M_Mo_waited.1 26 = .ok (.ior, 1) := by decide +kernel
theorem d_Mo_waited_27 : decode M_Mo_waited.1 27 = .ok (.istore_n 1, 1) := by decide +kernel
theorem d_Mo_waited_28 : decode M_Mo_waited.1 28 = .ok (.iinc 2 1, 3) := by decide +kernel
theorem d_Mo_waited_31 : decode M_Mo_waited.1 31 = .ok (.goto (-27), 3) := by decide +kernel
theorem d_Mo_waited_34 : decode M_Mo_waited.1 34 = .ok (.iload_n 1, 1) := by decide +kernel
theorem d_Mo_waited_35 : decode M_Mo_waited.1 35 = .ok (.ireturn, 1) := by decide +kernel
theorem d_Mo_odds_0 : decode M_Mo_odds.1 0 = .ok (.iload_n 1, 1) := by decide +kernel
theorem d_Mo_odds_1 : decode M_Mo_odds.1 1 = .ok (.i2l, 1) := by decide +kernel
theorem d_Mo_odds_2 : decode M_Mo_odds.1 2 = .ok (.lconst 0, 1) := by decide +kernel
theorem d_Mo_odds_3 : decode M_Mo_odds.1 3 = .ok (.ldc2_w 131, 3) := by decide +kernel
theorem d_Mo_odds_6 : decode M_Mo_odds.1 6 = .ok (.invokestatic 45, 3) := by decide +kernel
theorem d_Mo_odds_9 : decode M_Mo_odds.1 9 = .ok (.ifCond .eq 48, 3) := by decide +kernel
theorem d_Mo_odds_12 : decode M_Mo_odds.1 12 = .ok (.iload_n 2, 1) := by decide +kernel
theorem d_Mo_odds_13 : decode M_Mo_odds.1 13 = .ok (.i2l, 1) := by decide +kernel
theorem d_Mo_odds_14 : decode M_Mo_odds.1 14 = .ok (.lconst 0, 1) := by decide +kernel
theorem d_Mo_odds_15 : decode M_Mo_odds.1 15 = .ok (.ldc2_w 144, 3) := by decide +kernel
theorem d_Mo_odds_18 : decode M_Mo_odds.1 18 = .ok (.invokestatic 45, 3) := by decide +kernel
theorem d_Mo_odds_21 : decode M_Mo_odds.1 21 = .ok (.ifCond .eq 36, 3) := by decide +kernel
theorem d_Mo_odds_24 : decode M_Mo_odds.1 24 = .ok (.iload_n 3, 1) := by decide +kernel
theorem d_Mo_odds_25 : decode M_Mo_odds.1 25 = .ok (.i2l, 1) := by decide +kernel
theorem d_Mo_odds_26 : decode M_Mo_odds.1 26 = .ok (.lconst 0, 1) := by decide +kernel
theorem d_Mo_odds_27 : decode M_Mo_odds.1 27 = .ok (.ldc2_w 105, 3) := by decide +kernel
theorem d_Mo_odds_30 : decode M_Mo_odds.1 30 = .ok (.invokestatic 45, 3) := by decide +kernel
theorem d_Mo_odds_33 : decode M_Mo_odds.1 33 = .ok (.ifCond .eq 24, 3) := by decide +kernel
theorem d_Mo_odds_36 : decode M_Mo_odds.1 36 = .ok (.iload 4, 2) := by decide +kernel
theorem d_Mo_odds_38 : decode M_Mo_odds.1 38 = .ok (.i2l, 1) := by decide +kernel
theorem d_Mo_odds_39 : decode M_Mo_odds.1 39 = .ok (.lconst 0, 1) := by decide +kernel
theorem d_Mo_odds_40 : decode M_Mo_odds.1 40 = .ok (.ldc2_w 166, 3) := by decide +kernel
theorem d_Mo_odds_43 : decode M_Mo_odds.1 43 = .ok (.invokestatic 45, 3) := by decide +kernel
theorem d_Mo_odds_46 : decode M_Mo_odds.1 46 = .ok (.ifCond .eq 11, 3) := by decide +kernel
theorem d_Mo_odds_49 : decode M_Mo_odds.1 49 = .ok (.iload 5, 2) := by decide +kernel
theorem d_Mo_odds_51 : decode M_Mo_odds.1 51 = .ok (.invokestatic 137, 3) := by decide +kernel
theorem d_Mo_odds_54 : decode M_Mo_odds.1 54 = .ok (.ifCond .ne 7, 3) := by decide +kernel
theorem d_Mo_odds_57 : decode M_Mo_odds.1 57 = .ok (.ldc2_w 178, 3) := by decide +kernel
theorem d_Mo_odds_60 : decode M_Mo_odds.1 60 = .ok (.lreturn, 1) := by decide +kernel
theorem d_Mo_odds_61 : decode M_Mo_odds.1 61 = .ok (.lconst 0, 1) := by decide +kernel
theorem d_Mo_odds_62 : decode M_Mo_odds.1 62 = .ok (.lstore 6, 2) := by decide +kernel
theorem d_Mo_odds_64 : decode M_Mo_odds.1 64 = .ok (.lconst 1, 1) := by decide +kernel
theorem d_Mo_odds_65 : decode M_Mo_odds.1 65 = .ok (.lstore 8, 2) := by decide +kernel
theorem d_Mo_odds_67 : decode M_Mo_odds.1 67 = .ok (.iconst 0, 1) := by decide +kernel
theorem d_Mo_odds_68 : decode M_Mo_odds.1 68 = .ok (.istore 10, 2) := by decide +kernel
theorem d_Mo_odds_70 : decode M_Mo_odds.1 70 = .ok (.iload 10, 2) := by decide +kernel
theorem d_Mo_odds_72 : decode M_Mo_odds.1 72 = .ok (.iload_n 3, 1) := by decide +kernel
theorem d_Mo_odds_73 : decode M_Mo_odds.1 73 = .ok (.if_icmp .ge 17, 3) := by decide +kernel
theorem d_Mo_odds_76 : decode M_Mo_odds.1 76 = .ok (.lload 8, 2) := by decide +kernel
theorem d_Mo_odds_78 : decode M_Mo_odds.1 78 = .ok (.ldc2_w 144, 3) := by decide +kernel
theorem d_Mo_odds_81 : decode M_Mo_odds.1 81 = .ok (.lmul, 1) := by decide +kernel
theorem d_Mo_odds_82 : decode M_Mo_odds.1 82 = .ok (.lstore 8, 2) := by decide +kernel
theorem d_Mo_odds_84 : decode M_Mo_odds.1 84 = .ok (.iinc 10 1, 3) := by decide +kernel
theorem d_Mo_odds_87 : decode M_Mo_odds.1 87 = .ok (.goto (-17), 3) := by decide +kernel
theorem d_Mo_odds_90 : decode M_Mo_odds.1 90 = .ok (.iconst 0, 1) := by decide +kernel
theorem d_Mo_odds_91 : decode M_Mo_odds.1 91 = .ok (.istore 10, 2) := by decide +kernel
theorem d_Mo_odds_93 : decode M_Mo_odds.1 93 = .ok (.iload 10, 2) := by decide +kernel
theorem d_Mo_odds_95 : decode M_Mo_odds.1 95 = .ok (.iconst 1, 1) := by decide +kernel
theorem d_Mo_odds_96 : decode M_Mo_odds.1 96 = .ok (.iload_n 3, 1) := by decide +kernel
theorem d_Mo_odds_97 : decode M_Mo_odds.1 97 = .ok (.ishl, 1) := by decide +kernel
theorem d_Mo_odds_98 : decode M_Mo_odds.1 98 = .ok (.if_icmp .ge 114, 3) := by decide +kernel
theorem d_Mo_odds_101 : decode M_Mo_odds.1 101 = .ok (.aload_n 0, 1) := by decide +kernel
theorem d_Mo_odds_102 : decode M_Mo_odds.1 102 = .ok (.invokevirtual 148, 3) := by decide +kernel
theorem d_Mo_odds_105 : decode M_Mo_odds.1 105 = .ok (.lconst 1, 1) := by decide +kernel
theorem d_Mo_odds_106 : decode M_Mo_odds.1 106 = .ok (.lstore 11, 2) := by decide +kernel
theorem d_Mo_odds_108 : decode M_Mo_odds.1 108 = .ok (.iconst 0, 1) := by decide +kernel
theorem d_Mo_odds_109 : decode M_Mo_odds.1 109 = .ok (.istore 13, 2) := by decide +kernel
theorem d_Mo_odds_111 : decode M_Mo_odds.1 111 = .ok (.iload 13, 2) := by decide +kernel
theorem d_Mo_odds_113 : decode M_Mo_odds.1 113 = .ok (.iload_n 3, 1) := by decide +kernel
theorem d_Mo_odds_114 : decode M_Mo_odds.1 114 = .ok (.if_icmp .ge 69, 3) := by decide +kernel
theorem d_Mo_odds_117 : decode M_Mo_odds.1 117 = .ok (.iload 10, 2) := by decide +kernel
theorem d_Mo_odds_119 : decode M_Mo_odds.1 119 = .ok (.iload 13, 2) := by decide +kernel
theorem d_Mo_odds_121 : decode M_Mo_odds.1 121 = .ok (.ishr, 1) := by decide +kernel
theorem d_Mo_odds_122 : decode M_Mo_odds.1 122 = .ok (.iconst 1, 1) := by decide +kernel
theorem d_Mo_odds_123 : decode M_Mo_odds.1 123 = .ok (.iand, 1) := by decide +kernel
theorem d_Mo_odds_124 : decode M_Mo_odds.1 124 = .ok (.iconst 1, 1) := by decide +kernel
theorem d_Mo_odds_125 : decode M_Mo_odds.1 125 = .ok (.if_icmp .ne 7, 3) := by decide +kernel
theorem d_Mo_odds_128 : decode M_Mo_odds.1 128 = .ok (.iconst 1, 1) := by decide +kernel
theorem d_Mo_odds_129 : decode M_Mo_odds.1 129 = .ok (.goto 4, 3) := by decide +kernel
theorem d_Mo_odds_132 : decode M_Mo_odds.1 132 = .ok (.iconst 0, 1) := by decide +kernel
theorem d_Mo_odds_133 : decode M_Mo_odds.1 133 = .ok (.istore 14, 2) := by decide +kernel
theorem d_Mo_odds_135 : decode M_Mo_odds.1 135 = .ok (.aload_n 0, 1) := by decide +kernel
theorem d_Mo_odds_136 : decode M_Mo_odds.1 136 = .ok (.getfield 35, 3) := by decide +kernel
theorem d_Mo_odds_139 : decode M_Mo_odds.1 139 = .ok (.bipush 35, 2) := by decide +kernel
theorem d_Mo_odds_141 : decode M_Mo_odds.1 141 = .ok (.iload 14, 2) := by decide +kernel
theorem d_Mo_odds_143 : decode M_Mo_odds.1 143 = .ok (.ifCond .eq 7, 3) := by decide +kernel
theorem d_Mo_odds_146 : decode M_Mo_odds.1 146 = .ok (.iload_n 1, 1) := by decide +kernel
theorem d_Mo_odds_147 : decode M_Mo_odds.1 147 = .ok (.goto 4, 3) := by decide +kernel
theorem d_Mo_odds_150 : decode M_Mo_odds.1 150 = .ok (.iconst 0, 1) := by decide +kernel
theorem d_Mo_odds_151 : decode M_Mo_odds.1 151 = .ok (.iastore, 1) := by decide +kernel
theorem d_Mo_odds_152 : decode M_Mo_odds.1 152 = .ok (.lload 11, 2) := by decide +kernel
theorem d_Mo_odds_154 : decode M_Mo_odds.1 154 = .ok (.iload 14, 2) := by decide +kernel
theorem d_Mo_odds_156 : decode M_Mo_odds.1 156 = .ok (.ifCond .eq 8, 3) := by decide +kernel
theorem d_Mo_odds_159 : decode M_Mo_odds.1 159 = .ok (.iload_n 2, 1) := by decide +kernel
theorem d_Mo_odds_160 : decode M_Mo_odds.1 160 = .ok (.i2l, 1) := by decide +kernel
theorem d_Mo_odds_161 : decode M_Mo_odds.1 161 = .ok (.goto 8, 3) := by decide +kernel
theorem d_Mo_odds_164 : decode M_Mo_odds.1 164 = .ok (.bipush 10, 2) := by decide +kernel
theorem d_Mo_odds_166 : decode M_Mo_odds.1 166 = .ok (.iload_n 2, 1) := by decide +kernel
theorem d_Mo_odds_167 : decode M_Mo_odds.1 167 = .ok (.isub, 1) := by decide +kernel
theorem d_Mo_odds_168 : decode M_Mo_odds.1 168 = .ok (.i2l, 1) := by decide +kernel
theorem d_Mo_odds_169 : decode M_Mo_odds.1 169 = .ok (.lmul, 1) := by decide +kernel
theorem d_Mo_odds_170 : decode M_Mo_odds.1 170 = .ok (.lstore 11, 2) := by decide +kernel
theorem d_Mo_odds_172 : decode M_Mo_odds.1 172 = .ok (.aload_n 0, 1) := by decide +kernel
theorem d_Mo_odds_173 : decode M_Mo_odds.1 173 = .ok (.iconst 1, 1) := by decide +kernel
theorem d_Mo_odds_174 : decode M_Mo_odds.1 174 = .ok (.invokevirtual 151, 3) := by decide +kernel
theorem d_Mo_odds_177 : decode M_Mo_odds.1 177 = .ok (.iinc 13 1, 3) := by decide +kernel
theorem d_Mo_odds_180 : decode M_Mo_odds.1 180 = .ok (.goto (-69), 3) := by decide +kernel
theorem d_Mo_odds_183 : decode M_Mo_odds.1 183 = .ok (.lload 6, 2) := by decide +kernel
theorem d_Mo_odds_185 : decode M_Mo_odds.1 185 = .ok (.aload_n 0, 1) := by decide +kernel
theorem d_Mo_odds_186 : decode M_Mo_odds.1 186 = .ok (.getfield 35, 3) := by decide +kernel
theorem d_Mo_odds_189 : decode M_Mo_odds.1 189 = .ok (.invokestatic 108, 3) := by decide +kernel
theorem d_Mo_odds_192 : decode M_Mo_odds.1 192 = .ok (.iload 4, 2) := by decide +kernel
theorem d_Mo_odds_194 : decode M_Mo_odds.1 194 = .ok (.if_icmp .gt 8, 3) := by decide +kernel
theorem d_Mo_odds_197 : decode M_Mo_odds.1 197 = .ok (.lload 11, 2) := by decide +kernel
theorem d_Mo_odds_199 : decode M_Mo_odds.1 199 = .ok (.goto 4, 3) := by decide +kernel
theorem d_Mo_odds_202 : decode M_Mo_odds.1 202 = .ok (.lconst 0, 1) := by decide +kernel
theorem d_Mo_odds_203 : decode M_Mo_odds.1 203 = .ok (.ladd, 1) := by decide +kernel
theorem d_Mo_odds_204 : decode M_Mo_odds.1 204 = .ok (.lstore 6, 2) := by decide +kernel
theorem d_Mo_odds_206 : decode M_Mo_odds.1 206 = .ok (.iinc 10 1, 3) := by decide +kernel
theorem d_Mo_odds_209 : decode M_Mo_odds.1 209 = .ok (.goto (-116), 3) := by decide +kernel
theorem d_Mo_odds_212 : decode M_Mo_odds.1 212 = .ok (.lload 6, 2) := by decide +kernel
theorem d_Mo_odds_214 : decode M_Mo_odds.1 214 = .ok (.lstore 10, 2) := by decide +kernel
theorem d_Mo_odds_216 : decode M_Mo_odds.1 216 = .ok (.lload 8, 2) := by decide +kernel
theorem d_Mo_odds_218 : decode M_Mo_odds.1 218 = .ok (.lstore 12, 2) := by decide +kernel
theorem d_Mo_odds_220 : decode M_Mo_odds.1 220 = .ok (.lload 12, 2) := by decide +kernel
theorem d_Mo_odds_222 : decode M_Mo_odds.1 222 = .ok (.lconst 0, 1) := by decide +kernel
theorem d_Mo_odds_223 : decode M_Mo_odds.1 223 = .ok (.lcmp, 1) := by decide +kernel
theorem d_Mo_odds_224 : decode M_Mo_odds.1 224 = .ok (.ifCond .eq 21, 3) := by decide +kernel
theorem d_Mo_odds_227 : decode M_Mo_odds.1 227 = .ok (.lload 10, 2) := by decide +kernel
theorem d_Mo_odds_229 : decode M_Mo_odds.1 229 = .ok (.lload 12, 2) := by decide +kernel
theorem d_Mo_odds_231 : decode M_Mo_odds.1 231 = .ok (.lrem, 1) := by decide +kernel
theorem d_Mo_odds_232 : decode M_Mo_odds.1 232 = .ok (.lstore 14, 2) := by decide +kernel
theorem d_Mo_odds_234 : decode M_Mo_odds.1 234 = .ok (.lload 12, 2) := by decide +kernel
theorem d_Mo_odds_236 : decode M_Mo_odds.1 236 = .ok (.lstore 10, 2) := by decide +kernel
theorem d_Mo_odds_238 : decode M_Mo_odds.1 238 = .ok (.lload 14, 2) := by decide +kernel
theorem d_Mo_odds_240 : decode M_Mo_odds.1 240 = .ok (.lstore 12, 2) := by decide +kernel
theorem d_Mo_odds_242 : decode M_Mo_odds.1 242 = .ok (.goto (-22), 3) := by decide +kernel
theorem d_Mo_odds_245 : decode M_Mo_odds.1 245 = .ok (.iload 5, 2) := by decide +kernel
theorem d_Mo_odds_247 : decode M_Mo_odds.1 247 = .ok (.ifCond .ne 11, 3) := by decide +kernel
theorem d_Mo_odds_250 : decode M_Mo_odds.1 250 = .ok (.lload 6, 2) := by decide +kernel
theorem d_Mo_odds_252 : decode M_Mo_odds.1 252 = .ok (.lload 10, 2) := by decide +kernel
theorem d_Mo_odds_254 : decode M_Mo_odds.1 254 = .ok (.ldiv, 1) := by decide +kernel
theorem d_Mo_odds_255 : decode M_Mo_odds.1 255 = .ok (.goto 8, 3) := by decide +kernel
theorem d_Mo_odds_258 : decode M_Mo_odds.1 258 = .ok (.lload 8, 2) := by decide +kernel
theorem d_Mo_odds_260 : decode M_Mo_odds.1 260 = .ok (.lload 10, 2) := by decide +kernel
theorem d_Mo_odds_262 : decode M_Mo_odds.1 262 = .ok (.ldiv, 1) := by decide +kernel
theorem d_Mo_odds_263 : decode M_Mo_odds.1 263 = .ok (.lreturn, 1) := by decide +kernel
theorem d_Mo_rate_0 : decode M_Mo_rate.1 0 = .ok (.iload_n 1, 1) := by decide +kernel
theorem d_Mo_rate_1 : decode M_Mo_rate.1 1 = .ok (.i2l, 1) := by decide +kernel
theorem d_Mo_rate_2 : decode M_Mo_rate.1 2 = .ok (.lconst 0, 1) := by decide +kernel
theorem d_Mo_rate_3 : decode M_Mo_rate.1 3 = .ok (.ldc2_w 180, 3) := by decide +kernel
theorem d_Mo_rate_6 : decode M_Mo_rate.1 6 = .ok (.invokestatic 45, 3) := by decide +kernel
theorem d_Mo_rate_9 : decode M_Mo_rate.1 9 = .ok (.ifCond .eq 11, 3) := by decide +kernel
theorem d_Mo_rate_12 : decode M_Mo_rate.1 12 = .ok (.aload_n 0, 1) := by decide +kernel
theorem d_Mo_rate_13 : decode M_Mo_rate.1 13 = .ok (.iload_n 2, 1) := by decide +kernel
theorem d_Mo_rate_14 : decode M_Mo_rate.1 14 = .ok (.invokevirtual 102, 3) := by decide +kernel
theorem d_Mo_rate_17 : decode M_Mo_rate.1 17 = .ok (.ifCond .ne 6, 3) := by decide +kernel
theorem d_Mo_rate_20 : decode M_Mo_rate.1 20 = .ok (.ldc 51, 2) := by decide +kernel
theorem d_Mo_rate_22 : decode M_Mo_rate.1 22 = .ok (.ireturn, 1) := by decide +kernel
theorem d_Mo_rate_23 : decode M_Mo_rate.1 23 = .ok (.aload_n 0, 1) := by decide +kernel
theorem d_Mo_rate_24 : decode M_Mo_rate.1 24 = .ok (.getfield 7, 3) := by decide +kernel
theorem d_Mo_rate_27 : decode M_Mo_rate.1 27 = .ok (.bipush 28, 2) := by decide +kernel
theorem d_Mo_rate_29 : decode M_Mo_rate.1 29 = .ok (.iload_n 2, 1) := by decide +kernel
theorem d_Mo_rate_30 : decode M_Mo_rate.1 30 = .ok (.iadd, 1) := by decide +kernel
theorem d_Mo_rate_31 : decode M_Mo_rate.1 31 = .ok (.iaload, 1) := by decide +kernel
theorem d_Mo_rate_32 : decode M_Mo_rate.1 32 = .ok (.istore_n 3, 1) := by decide +kernel
theorem d_Mo_rate_33 : decode M_Mo_rate.1 33 = .ok (.aload_n 0, 1) := by decide +kernel
theorem d_Mo_rate_34 : decode M_Mo_rate.1 34 = .ok (.dup, 1) := by decide +kernel
theorem d_Mo_rate_35 : decode M_Mo_rate.1 35 = .ok (.getfield 182, 3) := by decide +kernel
theorem d_Mo_rate_38 : decode M_Mo_rate.1 38 = .ok (.lconst 1, 1) := by decide +kernel
theorem d_Mo_rate_39 : decode M_Mo_rate.1 39 = .ok (.ladd, 1) := by decide +kernel
theorem d_Mo_rate_40 : decode M_Mo_rate.1 40 = .ok (.putfield 182, 3) := by decide +kernel
theorem d_Mo_rate_43 : decode M_Mo_rate.1 43 = .ok (.iload_n 1, 1) := by decide +kernel
theorem d_Mo_rate_44 : decode M_Mo_rate.1 44 = .ok (.tableswitch 162 1 5 #[36, 62, 86, 114, 140], 36) := by decide +kernel
theorem d_Mo_rate_80 : decode M_Mo_rate.1 80 = .ok (.aload_n 0, 1) := by decide +kernel
theorem d_Mo_rate_81 : decode M_Mo_rate.1 81 = .ok (.dup, 1) := by decide +kernel
theorem d_Mo_rate_82 : decode M_Mo_rate.1 82 = .ok (.getfield 182, 3) := by decide +kernel
theorem d_Mo_rate_85 : decode M_Mo_rate.1 85 = .ok (.ldc2_w 144, 3) := by decide +kernel
theorem d_Mo_rate_88 : decode M_Mo_rate.1 88 = .ok (.ladd, 1) := by decide +kernel
theorem d_Mo_rate_89 : decode M_Mo_rate.1 89 = .ok (.putfield 182, 3) := by decide +kernel
theorem d_Mo_rate_92 : decode M_Mo_rate.1 92 = .ok (.iload_n 3, 1) := by decide +kernel
theorem d_Mo_rate_93 : decode M_Mo_rate.1 93 = .ok (.aload_n 0, 1) := by decide +kernel
theorem d_Mo_rate_94 : decode M_Mo_rate.1 94 = .ok (.getfield 7, 3) := by decide +kernel
theorem d_Mo_rate_97 : decode M_Mo_rate.1 97 = .ok (.iconst 4, 1) := by decide +kernel
theorem d_Mo_rate_98 : decode M_Mo_rate.1 98 = .ok (.iload_n 2, 1) := by decide +kernel
theorem d_Mo_rate_99 : decode M_Mo_rate.1 99 = .ok (.iadd, 1) := by decide +kernel
theorem d_Mo_rate_100 : decode M_Mo_rate.1 100 = .ok (.iaload, 1) := by decide +kernel
theorem d_Mo_rate_101 : decode M_Mo_rate.1 101 = .ok (.bipush 6, 2) := by decide +kernel
theorem d_Mo_rate_103 : decode M_Mo_rate.1 103 = .ok (.idiv, 1) := by decide +kernel
theorem d_Mo_rate_104 : decode M_Mo_rate.1 104 = .ok (.iadd, 1) := by decide +kernel
theorem d_Mo_rate_105 : decode M_Mo_rate.1 105 = .ok (.ireturn, 1) := by decide +kernel
theorem d_Mo_rate_106 : decode M_Mo_rate.1 106 = .ok (.aload_n 0, 1) := by decide +kernel
theorem d_Mo_rate_107 : decode M_Mo_rate.1 107 = .ok (.dup, 1) := by decide +kernel
theorem d_Mo_rate_108 : decode M_Mo_rate.1 108 = .ok (.getfield 182, 3) := by decide +kernel
theorem d_Mo_rate_111 : decode M_Mo_rate.1 111 = .ok (.ldc2_w 186, 3) := by decide +kernel
theorem d_Mo_rate_114 : decode M_Mo_rate.1 114 = .ok (.ladd, 1) := by decide +kernel
theorem d_Mo_rate_115 : decode M_Mo_rate.1 115 = .ok (.putfield 182, 3) := by decide +kernel
theorem d_Mo_rate_118 : decode M_Mo_rate.1 118 = .ok (.iload_n 3, 1) := by decide +kernel
theorem d_Mo_rate_119 : decode M_Mo_rate.1 119 = .ok (.aload_n 0, 1) := by decide +kernel
theorem d_Mo_rate_120 : decode M_Mo_rate.1 120 = .ok (.getfield 7, 3) := by decide +kernel
theorem d_Mo_rate_123 : decode M_Mo_rate.1 123 = .ok (.bipush 22, 2) := by decide +kernel
theorem d_Mo_rate_125 : decode M_Mo_rate.1 125 = .ok (.iload_n 2, 1) := by decide +kernel
theorem d_Mo_rate_126 : decode M_Mo_rate.1 126 = .ok (.iadd, 1) := by decide +kernel
theorem d_Mo_rate_127 : decode M_Mo_rate.1 127 = .ok (.iaload, 1) := by decide +kernel
theorem d_Mo_rate_128 : decode M_Mo_rate.1 128 = .ok (.isub, 1) := by decide +kernel
theorem d_Mo_rate_129 : decode M_Mo_rate.1 129 = .ok (.ireturn, 1) := by decide +kernel
theorem d_Mo_rate_130 : decode M_Mo_rate.1 130 = .ok (.aload_n 0, 1) := by decide +kernel
theorem d_Mo_rate_131 : decode M_Mo_rate.1 131 = .ok (.dup, 1) := by decide +kernel
theorem d_Mo_rate_132 : decode M_Mo_rate.1 132 = .ok (.getfield 182, 3) := by decide +kernel
theorem d_Mo_rate_135 : decode M_Mo_rate.1 135 = .ok (.ldc2_w 188, 3) := by decide +kernel
theorem d_Mo_rate_138 : decode M_Mo_rate.1 138 = .ok (.ladd, 1) := by decide +kernel
theorem d_Mo_rate_139 : decode M_Mo_rate.1 139 = .ok (.putfield 182, 3) := by decide +kernel
theorem d_Mo_rate_142 : decode M_Mo_rate.1 142 = .ok (.iconst 2, 1) := by decide +kernel
theorem d_Mo_rate_143 : decode M_Mo_rate.1 143 = .ok (.iload_n 3, 1) := by decide +kernel
theorem d_Mo_rate_144 : decode M_Mo_rate.1 144 = .ok (.aload_n 0, 1) := by decide +kernel
theorem d_Mo_rate_145 : decode M_Mo_rate.1 145 = .ok (.getfield 7, 3) := by decide +kernel
theorem d_Mo_rate_148 : decode M_Mo_rate.1 148 = .ok (.iconst 4, 1) := by decide +kernel
theorem d_Mo_rate_149 : decode M_Mo_rate.1 149 = .ok (.iload_n 2, 1) := by decide +kernel
theorem d_Mo_rate_150 : decode M_Mo_rate.1 150 = .ok (.iadd, 1) := by decide +kernel
theorem d_Mo_rate_151 : decode M_Mo_rate.1 151 = .ok (.iaload, 1) := by decide +kernel
theorem d_Mo_rate_152 : decode M_Mo_rate.1 152 = .ok (.bipush 6, 2) := by decide +kernel
theorem d_Mo_rate_154 : decode M_Mo_rate.1 154 = .ok (.idiv, 1) := by decide +kernel
theorem d_Mo_rate_155 : decode M_Mo_rate.1 155 = .ok (.iadd, 1) := by decide +kernel
theorem d_Mo_rate_156 : decode M_Mo_rate.1 156 = .ok (.imul, 1) := by decide +kernel
theorem d_Mo_rate_157 : decode M_Mo_rate.1 157 = .ok (.ireturn, 1) := by decide +kernel
theorem d_Mo_rate_158 : decode M_Mo_rate.1 158 = .ok (.aload_n 0, 1) := by decide +kernel
theorem d_Mo_rate_159 : decode M_Mo_rate.1 159 = .ok (.dup, 1) := by decide +kernel
theorem d_Mo_rate_160 : decode M_Mo_rate.1 160 = .ok (.getfield 182, 3) := by decide +kernel
theorem d_Mo_rate_163 : decode M_Mo_rate.1 163 = .ok (.ldc2_w 190, 3) := by decide +kernel
theorem d_Mo_rate_166 : decode M_Mo_rate.1 166 = .ok (.ladd, 1) := by decide +kernel
theorem d_Mo_rate_167 : decode M_Mo_rate.1 167 = .ok (.putfield 182, 3) := by decide +kernel
theorem d_Mo_rate_170 : decode M_Mo_rate.1 170 = .ok (.iload_n 3, 1) := by decide +kernel
theorem d_Mo_rate_171 : decode M_Mo_rate.1 171 = .ok (.aload_n 0, 1) := by decide +kernel
theorem d_Mo_rate_172 : decode M_Mo_rate.1 172 = .ok (.getfield 7, 3) := by decide +kernel
theorem d_Mo_rate_175 : decode M_Mo_rate.1 175 = .ok (.bipush 22, 2) := by decide +kernel
theorem d_Mo_rate_177 : decode M_Mo_rate.1 177 = .ok (.iload_n 2, 1) := by decide +kernel
theorem d_Mo_rate_178 : decode M_Mo_rate.1 178 = .ok (.iadd, 1) := by decide +kernel
theorem d_Mo_rate_179 : decode M_Mo_rate.1 179 = .ok (.iaload, 1) := by decide +kernel
theorem d_Mo_rate_180 : decode M_Mo_rate.1 180 = .ok (.isub, 1) := by decide +kernel
theorem d_Mo_rate_181 : decode M_Mo_rate.1 181 = .ok (.iload_n 2, 1) := by decide +kernel
theorem d_Mo_rate_182 : decode M_Mo_rate.1 182 = .ok (.iadd, 1) := by decide +kernel
theorem d_Mo_rate_183 : decode M_Mo_rate.1 183 = .ok (.ireturn, 1) := by decide +kernel
theorem d_Mo_rate_184 : decode M_Mo_rate.1 184 = .ok (.aload_n 0, 1) := by decide +kernel
theorem d_Mo_rate_185 : decode M_Mo_rate.1 185 = .ok (.dup, 1) := by decide +kernel
theorem d_Mo_rate_186 : decode M_Mo_rate.1 186 = .ok (.getfield 182, 3) := by decide +kernel
theorem d_Mo_rate_189 : decode M_Mo_rate.1 189 = .ok (.ldc2_w 192, 3) := by decide +kernel
theorem d_Mo_rate_192 : decode M_Mo_rate.1 192 = .ok (.ladd, 1) := by decide +kernel
theorem d_Mo_rate_193 : decode M_Mo_rate.1 193 = .ok (.putfield 182, 3) := by decide +kernel
theorem d_Mo_rate_196 : decode M_Mo_rate.1 196 = .ok (.iload_n 3, 1) := by decide +kernel
theorem d_Mo_rate_197 : decode M_Mo_rate.1 197 = .ok (.aload_n 0, 1) := by decide +kernel
theorem d_Mo_rate_198 : decode M_Mo_rate.1 198 = .ok (.getfield 7, 3) := by decide +kernel
theorem d_Mo_rate_201 : decode M_Mo_rate.1 201 = .ok (.bipush 34, 2) := by decide +kernel
theorem d_Mo_rate_203 : decode M_Mo_rate.1 203 = .ok (.iaload, 1) := by decide +kernel
theorem d_Mo_rate_204 : decode M_Mo_rate.1 204 = .ok (.iadd, 1) := by decide +kernel
theorem d_Mo_rate_205 : decode M_Mo_rate.1 205 = .ok (.ireturn, 1) := by decide +kernel
theorem d_Mo_rate_206 : decode M_Mo_rate.1 206 = .ok (.iload_n 3, 1) := by decide +kernel
theorem d_Mo_rate_207 : decode M_Mo_rate.1 207 = .ok (.ireturn, 1) := by decide +kernel
theorem d_Mo_keep_0 : decode M_Mo_keep.1 0 = .ok (.iload_n 1, 1) := by decide +kernel
theorem d_Mo_keep_1 : decode M_Mo_keep.1 1 = .ok (.invokestatic 137, 3) := by decide +kernel
theorem d_Mo_keep_4 : decode M_Mo_keep.1 4 = .ok (.ifCond .ne 6, 3) := by decide +kernel
theorem d_Mo_keep_7 : decode M_Mo_keep.1 7 = .ok (.ldc 51, 2) := by decide +kernel
theorem d_Mo_keep_9 : decode M_Mo_keep.1 9 = .ok (.ireturn, 1) := by decide +kernel
theorem d_Mo_keep_10 : decode M_Mo_keep.1 10 = .ok (.aload_n 0, 1) := by decide +kernel
theorem d_Mo_keep_11 : decode M_Mo_keep.1 11 = .ok (.getfield 7, 3) := by decide +kernel
theorem d_Mo_keep_14 : decode M_Mo_keep.1 14 = .ok (.iconst 0, 1) := by decide +kernel
theorem d_Mo_keep_15 : decode M_Mo_keep.1 15 = .ok (.aload_n 0, 1) := by decide +kernel
theorem d_Mo_keep_16 : decode M_Mo_keep.1 16 = .ok (.getfield 16, 3) := by decide +kernel
theorem d_Mo_keep_19 : decode M_Mo_keep.1 19 = .ok (.bipush 39, 2) := by decide +kernel
theorem d_Mo_keep_21 : decode M_Mo_keep.1 21 = .ok (.iload_n 1, 1) := by decide +kernel
theorem d_Mo_keep_22 : decode M_Mo_keep.1 22 = .ok (.imul, 1) := by decide +kernel
theorem d_Mo_keep_23 : decode M_Mo_keep.1 23 = .ok (.invokestatic 92, 3) := by decide +kernel
theorem d_Mo_keep_26 : decode M_Mo_keep.1 26 = .ok (.aload_n 0, 1) := by decide +kernel
theorem d_Mo_keep_27 : decode M_Mo_keep.1 27 = .ok (.getfield 19, 3) := by decide +kernel
theorem d_Mo_keep_30 : decode M_Mo_keep.1 30 = .ok (.iload_n 1, 1) := by decide +kernel
theorem d_Mo_keep_31 : decode M_Mo_keep.1 31 = .ok (.iconst 1, 1) := by decide +kernel
theorem d_Mo_keep_32 : decode M_Mo_keep.1 32 = .ok (.bastore, 1) := by decide +kernel
theorem d_Mo_keep_33 : decode M_Mo_keep.1 33 = .ok (.aload_n 0, 1) := by decide +kernel
theorem d_Mo_keep_34 : decode M_Mo_keep.1 34 = .ok (.getfield 7, 3) := by decide +kernel
theorem d_Mo_keep_37 : decode M_Mo_keep.1 37 = .ok (.bipush 38, 2) := by decide +kernel
theorem d_Mo_keep_39 : decode M_Mo_keep.1 39 = .ok (.iaload, 1) := by decide +kernel
theorem d_Mo_keep_40 : decode M_Mo_keep.1 40 = .ok (.ireturn, 1) := by decide +kernel
theorem d_Mo_back_0 : decode M_Mo_back.1 0 = .ok (.iload_n 1, 1) := by decide +kernel
theorem d_Mo_back_1 : decode M_Mo_back.1 1 = .ok (.invokestatic 137, 3) := by decide +kernel
theorem d_Mo_back_4 : decode M_Mo_back.1 4 = .ok (.ifCond .ne 6, 3) := by decide +kernel
theorem d_Mo_back_7 : decode M_Mo_back.1 7 = .ok (.ldc 51, 2) := by decide +kernel
theorem d_Mo_back_9 : decode M_Mo_back.1 9 = .ok (.ireturn, 1) := by decide +kernel
theorem d_Mo_back_10 : decode M_Mo_back.1 10 = .ok (.aload_n 0, 1) := by decide +kernel
theorem d_Mo_back_11 : decode M_Mo_back.1 11 = .ok (.getfield 19, 3) := by decide +kernel
theorem d_Mo_back_14 : decode M_Mo_back.1 14 = .ok (.iload_n 1, 1) := by decide +kernel
theorem d_Mo_back_15 : decode M_Mo_back.1 15 = .ok (.baload, 1) := by decide +kernel
theorem d_Mo_back_16 : decode M_Mo_back.1 16 = .ok (.ifCond .ne 6, 3) := by decide +kernel
theorem d_Mo_back_19 : decode M_Mo_back.1 19 = .ok (.ldc 120, 2) := by decide +kernel
theorem d_Mo_back_21 : decode M_Mo_back.1 21 = .ok (.ireturn, 1) := by decide +kernel
theorem d_Mo_back_22 : decode M_Mo_back.1 22 = .ok (.aload_n 0, 1) := by decide +kernel
theorem d_Mo_back_23 : decode M_Mo_back.1 23 = .ok (.getfield 16, 3) := by decide +kernel
theorem d_Mo_back_26 : decode M_Mo_back.1 26 = .ok (.bipush 39, 2) := by decide +kernel
theorem d_Mo_back_28 : decode M_Mo_back.1 28 = .ok (.iload_n 1, 1) := by decide +kernel
theorem d_Mo_back_29 : decode M_Mo_back.1 29 = .ok (.imul, 1) := by decide +kernel
theorem d_Mo_back_30 : decode M_Mo_back.1 30 = .ok (.aload_n 0, 1) := by decide +kernel
theorem d_Mo_back_31 : decode M_Mo_back.1 31 = .ok (.getfield 7, 3) := by decide +kernel
theorem d_Mo_back_34 : decode M_Mo_back.1 34 = .ok (.iconst 0, 1) := by decide +kernel
theorem d_Mo_back_35 : decode M_Mo_back.1 35 = .ok (.invokestatic 92, 3) := by decide +kernel
theorem d_Mo_back_38 : decode M_Mo_back.1 38 = .ok (.aload_n 0, 1) := by decide +kernel
theorem d_Mo_back_39 : decode M_Mo_back.1 39 = .ok (.iconst 0, 1) := by decide +kernel
theorem d_Mo_back_40 : decode M_Mo_back.1 40 = .ok (.putfield 96, 3) := by decide +kernel
theorem d_Mo_back_43 : decode M_Mo_back.1 43 = .ok (.aload_n 0, 1) := by decide +kernel
theorem d_Mo_back_44 : decode M_Mo_back.1 44 = .ok (.getfield 7, 3) := by decide +kernel
theorem d_Mo_back_47 : decode M_Mo_back.1 47 = .ok (.bipush 38, 2) := by decide +kernel
theorem d_Mo_back_49 : decode M_Mo_back.1 49 = .ok (.iaload, 1) := by decide +kernel
theorem d_Mo_back_50 : decode M_Mo_back.1 50 = .ok (.ireturn, 1) := by decide +kernel
theorem d_Mo_count_0 : decode M_Mo_count.1 0 = .ok (.iload_n 1, 1) := by decide +kernel
theorem d_Mo_count_1 : decode M_Mo_count.1 1 = .ok (.tableswitch 66 0 4 #[35, 42, 49, 56, 61], 35) := by decide +kernel
theorem d_Mo_count_36 : decode M_Mo_count.1 36 = .ok (.aload_n 0, 1) := by decide +kernel
theorem d_Mo_count_37 : decode M_Mo_count.1 37 = .ok (.getfield 7, 3) := by decide +kernel
theorem d_Mo_count_40 : decode M_Mo_count.1 40 = .ok (.iconst 0, 1) := by decide +kernel
theorem d_Mo_count_41 : decode M_Mo_count.1 41 = .ok (.iaload, 1) := by decide +kernel
theorem d_Mo_count_42 : decode M_Mo_count.1 42 = .ok (.ireturn, 1) := by decide +kernel
theorem d_Mo_count_43 : decode M_Mo_count.1 43 = .ok (.aload_n 0, 1) := by decide +kernel
theorem d_Mo_count_44 : decode M_Mo_count.1 44 = .ok (.getfield 7, 3) := by decide +kernel
theorem d_Mo_count_47 : decode M_Mo_count.1 47 = .ok (.iconst 2, 1) := by decide +kernel
theorem d_Mo_count_48 : decode M_Mo_count.1 48 = .ok (.iaload, 1) := by decide +kernel
theorem d_Mo_count_49 : decode M_Mo_count.1 49 = .ok (.ireturn, 1) := by decide +kernel
theorem d_Mo_count_50 : decode M_Mo_count.1 50 = .ok (.aload_n 0, 1) := by decide +kernel
theorem d_Mo_count_51 : decode M_Mo_count.1 51 = .ok (.getfield 7, 3) := by decide +kernel
theorem d_Mo_count_54 : decode M_Mo_count.1 54 = .ok (.iconst 3, 1) := by decide +kernel
theorem d_Mo_count_55 : decode M_Mo_count.1 55 = .ok (.iaload, 1) := by decide +kernel
theorem d_Mo_count_56 : decode M_Mo_count.1 56 = .ok (.ireturn, 1) := by decide +kernel
theorem d_Mo_count_57 : decode M_Mo_count.1 57 = .ok (.aload_n 0, 1) := by decide +kernel
theorem d_Mo_count_58 : decode M_Mo_count.1 58 = .ok (.getfield 99, 3) := by decide +kernel
theorem d_Mo_count_61 : decode M_Mo_count.1 61 = .ok (.ireturn, 1) := by decide +kernel
theorem d_Mo_count_62 : decode M_Mo_count.1 62 = .ok (.aload_n 0, 1) := by decide +kernel
theorem d_Mo_count_63 : decode M_Mo_count.1 63 = .ok (.getfield 52, 3) := by decide +kernel
theorem d_Mo_count_66 : decode M_Mo_count.1 66 = .ok (.ireturn, 1) := by decide +kernel
theorem d_Mo_count_67 : decode M_Mo_count.1 67 = .ok (.ldc 51, 2) := by decide +kernel
theorem d_Mo_count_69 : decode M_Mo_count.1 69 = .ok (.ireturn, 1) := by decide +kernel
theorem d_Mo_trace_0 : decode M_Mo_trace.1 0 = .ok (.aload_n 0, 1) := by decide +kernel
theorem d_Mo_trace_1 : decode M_Mo_trace.1 1 = .ok (.getfield 182, 3) := by decide +kernel
theorem d_Mo_trace_4 : decode M_Mo_trace.1 4 = .ok (.lreturn, 1) := by decide +kernel
theorem d_In_bitCount_0 : decode M_In_bitCount.1 0 = .ok (.iload_n 0, 1) := by decide +kernel
theorem d_In_bitCount_1 : decode M_In_bitCount.1 1 = .ok (.iload_n 0, 1) := by decide +kernel
theorem d_In_bitCount_2 : decode M_In_bitCount.1 2 = .ok (.iconst 1, 1) := by decide +kernel
theorem d_In_bitCount_3 : decode M_In_bitCount.1 3 = .ok (.iushr, 1) := by decide +kernel
theorem d_In_bitCount_4 : decode M_In_bitCount.1 4 = .ok (.ldc_w 265, 3) := by decide +kernel
theorem d_In_bitCount_7 : decode M_In_bitCount.1 7 = .ok (.iand, 1) := by decide +kernel
theorem d_In_bitCount_8 : decode M_In_bitCount.1 8 = .ok (.isub, 1) := by decide +kernel
theorem d_In_bitCount_9 : decode M_In_bitCount.1 9 = .ok (.istore_n 0, 1) := by decide +kernel
theorem d_In_bitCount_10 : decode M_In_bitCount.1 10 = .ok (.iload_n 0, 1) := by decide +kernel
theorem d_In_bitCount_11 : decode M_In_bitCount.1 11 = .ok (.ldc_w 266, 3) := by decide +kernel
theorem d_In_bitCount_14 : decode M_In_bitCount.1 14 = .ok (.iand, 1) := by decide +kernel
theorem d_In_bitCount_15 : decode M_In_bitCount.1 15 = .ok (.iload_n 0, 1) := by decide +kernel
theorem d_In_bitCount_16 : decode M_In_bitCount.1 16 = .ok (.iconst 2, 1) := by decide +kernel
theorem d_In_bitCount_17 : decode M_In_bitCount.1 17 = .ok (.iushr, 1) := by decide +kernel
theorem d_In_bitCount_18 : decode M_In_bitCount.1 18 = .ok (.ldc_w 266, 3) := by decide +kernel
theorem d_In_bitCount_21 : decode M_In_bitCount.1 21 = .ok (.iand, 1) := by decide +kernel
theorem d_In_bitCount_22 : decode M_In_bitCount.1 22 = .ok (.iadd, 1) := by decide +kernel
theorem d_In_bitCount_23 : decode M_In_bitCount.1 23 = .ok (.istore_n 0, 1) := by decide +kernel
theorem d_In_bitCount_24 : decode M_In_bitCount.1 24 = .ok (.iload_n 0, 1) := by decide +kernel
theorem d_In_bitCount_25 : decode M_In_bitCount.1 25 = .ok (.iload_n 0, 1) := by decide +kernel
theorem d_In_bitCount_26 : decode M_In_bitCount.1 26 = .ok (.iconst 4, 1) := by decide +kernel
theorem d_In_bitCount_27 : decode M_In_bitCount.1 27 = .ok (.iushr, 1) := by decide +kernel
theorem d_In_bitCount_28 : decode M_In_bitCount.1 28 = .ok (.iadd, 1) := by decide +kernel
theorem d_In_bitCount_29 : decode M_In_bitCount.1 29 = .ok (.ldc_w 267, 3) := by decide +kernel
theorem d_In_bitCount_32 : decode M_In_bitCount.1 32 = .ok (.iand, 1) := by decide +kernel
theorem d_In_bitCount_33 : decode M_In_bitCount.1 33 = .ok (.istore_n 0, 1) := by decide +kernel
theorem d_In_bitCount_34 : decode M_In_bitCount.1 34 = .ok (.iload_n 0, 1) := by decide +kernel
theorem d_In_bitCount_35 : decode M_In_bitCount.1 35 = .ok (.iload_n 0, 1) := by decide +kernel
theorem d_In_bitCount_36 : decode M_In_bitCount.1 36 = .ok (.bipush 8, 2) := by decide +kernel
theorem d_In_bitCount_38 : decode M_In_bitCount.1 38 = .ok (.iushr, 1) := by decide +kernel
theorem d_In_bitCount_39 : decode M_In_bitCount.1 39 = .ok (.iadd, 1) := by decide +kernel
theorem d_In_bitCount_40 : decode M_In_bitCount.1 40 = .ok (.istore_n 0, 1) := by decide +kernel
theorem d_In_bitCount_41 : decode M_In_bitCount.1 41 = .ok (.iload_n 0, 1) := by decide +kernel
theorem d_In_bitCount_42 : decode M_In_bitCount.1 42 = .ok (.iload_n 0, 1) := by decide +kernel
theorem d_In_bitCount_43 : decode M_In_bitCount.1 43 = .ok (.bipush 16, 2) := by decide +kernel
theorem d_In_bitCount_45 : decode M_In_bitCount.1 45 = .ok (.iushr, 1) := by decide +kernel
theorem d_In_bitCount_46 : decode M_In_bitCount.1 46 = .ok (.iadd, 1) := by decide +kernel
theorem d_In_bitCount_47 : decode M_In_bitCount.1 47 = .ok (.istore_n 0, 1) := by decide +kernel
theorem d_In_bitCount_48 : decode M_In_bitCount.1 48 = .ok (.iload_n 0, 1) := by decide +kernel
theorem d_In_bitCount_49 : decode M_In_bitCount.1 49 = .ok (.bipush 63, 2) := by decide +kernel
theorem d_In_bitCount_51 : decode M_In_bitCount.1 51 = .ok (.iand, 1) := by decide +kernel
theorem d_In_bitCount_52 : decode M_In_bitCount.1 52 = .ok (.ireturn, 1) := by decide +kernel
theorem d_Ma_abs_0 : decode M_Ma_abs.1 0 = .ok (.iload_n 0, 1) := by decide +kernel
theorem d_Ma_abs_1 : decode M_Ma_abs.1 1 = .ok (.ifCond .ge 8, 3) := by decide +kernel
theorem d_Ma_abs_4 : decode M_Ma_abs.1 4 = .ok (.iload_n 0, 1) := by decide +kernel
theorem d_Ma_abs_5 : decode M_Ma_abs.1 5 = .ok (.ineg, 1) := by decide +kernel
theorem d_Ma_abs_6 : decode M_Ma_abs.1 6 = .ok (.goto 4, 3) := by decide +kernel
theorem d_Ma_abs_9 : decode M_Ma_abs.1 9 = .ok (.iload_n 0, 1) := by decide +kernel
theorem d_Ma_abs_10 : decode M_Ma_abs.1 10 = .ok (.ireturn, 1) := by decide +kernel
theorem d_Ma_max_0 : decode M_Ma_max.1 0 = .ok (.iload_n 0, 1) := by decide +kernel
theorem d_Ma_max_1 : decode M_Ma_max.1 1 = .ok (.iload_n 1, 1) := by decide +kernel
theorem d_Ma_max_2 : decode M_Ma_max.1 2 = .ok (.if_icmp .lt 7, 3) := by decide +kernel
theorem d_Ma_max_5 : decode M_Ma_max.1 5 = .ok (.iload_n 0, 1) := by decide +kernel
theorem d_Ma_max_6 : decode M_Ma_max.1 6 = .ok (.goto 4, 3) := by decide +kernel
theorem d_Ma_max_9 : decode M_Ma_max.1 9 = .ok (.iload_n 1, 1) := by decide +kernel
theorem d_Ma_max_10 : decode M_Ma_max.1 10 = .ok (.ireturn, 1) := by decide +kernel
theorem d_Ma_min_0 : decode M_Ma_min.1 0 = .ok (.iload_n 0, 1) := by decide +kernel
theorem d_Ma_min_1 : decode M_Ma_min.1 1 = .ok (.iload_n 1, 1) := by decide +kernel
theorem d_Ma_min_2 : decode M_Ma_min.1 2 = .ok (.if_icmp .gt 7, 3) := by decide +kernel
theorem d_Ma_min_5 : decode M_Ma_min.1 5 = .ok (.iload_n 0, 1) := by decide +kernel
theorem d_Ma_min_6 : decode M_Ma_min.1 6 = .ok (.goto 4, 3) := by decide +kernel
theorem d_Ma_min_9 : decode M_Ma_min.1 9 = .ok (.iload_n 1, 1) := by decide +kernel
theorem d_Ma_min_10 : decode M_Ma_min.1 10 = .ok (.ireturn, 1) := by decide +kernel
theorem d_La_law_0 : decode M_La_law.1 0 = .ok (.new 7, 3) := by decide +kernel
theorem d_La_law_3 : decode M_La_law.1 3 = .ok (.dup, 1) := by decide +kernel
theorem d_La_law_4 : decode M_La_law.1 4 = .ok (.invokespecial 9, 3) := by decide +kernel
theorem d_La_law_7 : decode M_La_law.1 7 = .ok (.astore_n 1, 1) := by decide +kernel
theorem d_La_law_8 : decode M_La_law.1 8 = .ok (.new 10, 3) := by decide +kernel
theorem d_La_law_11 : decode M_La_law.1 11 = .ok (.dup, 1) := by decide +kernel
theorem d_La_law_12 : decode M_La_law.1 12 = .ok (.invokespecial 12, 3) := by decide +kernel
theorem d_La_law_15 : decode M_La_law.1 15 = .ok (.astore_n 2, 1) := by decide +kernel
theorem d_La_law_16 : decode M_La_law.1 16 = .ok (.iconst 0, 1) := by decide +kernel
theorem d_La_law_17 : decode M_La_law.1 17 = .ok (.istore_n 3, 1) := by decide +kernel
theorem d_La_law_18 : decode M_La_law.1 18 = .ok (.iload_n 3, 1) := by decide +kernel
theorem d_La_law_19 : decode M_La_law.1 19 = .ok (.aload_n 0, 1) := by decide +kernel
theorem d_La_law_20 : decode M_La_law.1 20 = .ok (.arraylength, 1) := by decide +kernel
theorem d_La_law_21 : decode M_La_law.1 21 = .ok (.bipush 6, 2) := by decide +kernel
theorem d_La_law_23 : decode M_La_law.1 23 = .ok (.isub, 1) := by decide +kernel
theorem d_La_law_24 : decode M_La_law.1 24 = .ok (.if_icmp .gt 882, 3) := by decide +kernel
theorem d_La_law_27 : decode M_La_law.1 27 = .ok (.aload_n 0, 1) := by decide +kernel
theorem d_La_law_28 : decode M_La_law.1 28 = .ok (.iload_n 3, 1) := by decide +kernel
theorem d_La_law_29 : decode M_La_law.1 29 = .ok (.iaload, 1) := by decide +kernel
theorem d_La_law_30 : decode M_La_law.1 30 = .ok (.bipush 31, 2) := by decide +kernel
theorem d_La_law_32 : decode M_La_law.1 32 = .ok (.iand, 1) := by decide +kernel
theorem d_La_law_33 : decode M_La_law.1 33 = .ok (.tableswitch 867 0 29 #[135, 158, 171, 184, 217, 240, 253, 266, 289, 312, 345, 368, 381, 414, 437, 450, 483, 516, 549, 572, 595, 618, 661, 674, 687, 751, 784, 807, 830, 853], 135) := by decide +kernel
theorem d_La_law_168 : decode M_La_law.1 168 = .ok (.aload_n 1, 1) := by decide +kernel
theorem d_La_law_169 : decode M_La_law.1 169 = .ok (.aload_n 0, 1) := by decide +kernel
theorem d_La_law_170 : decode M_La_law.1 170 = .ok (.iload_n 3, 1) := by decide +kernel
theorem d_La_law_171 : decode M_La_law.1 171 = .ok (.iconst 1, 1) := by decide +kernel
theorem d_La_law_172 : decode M_La_law.1 172 = .ok (.iadd, 1) := by decide +kernel
theorem d_La_law_173 : decode M_La_law.1 173 = .ok (.iaload, 1) := by decide +kernel
theorem d_La_law_174 : decode M_La_law.1 174 = .ok (.invokevirtual 13, 3) := by decide +kernel
theorem d_La_law_177 : decode M_La_law.1 177 = .ok (.aload_n 2, 1) := by decide +kernel
theorem d_La_law_178 : decode M_La_law.1 178 = .ok (.aload_n 0, 1) := by decide +kernel
theorem d_La_law_179 : decode M_La_law.1 179 = .ok (.iload_n 3, 1) := by decide +kernel
theorem d_La_law_180 : decode M_La_law.1 180 = .ok (.iconst 1, 1) := by decide +kernel
theorem d_La_law_181 : decode M_La_law.1 181 = .ok (.iadd, 1) := by decide +kernel
theorem d_La_law_182 : decode M_La_law.1 182 = .ok (.iaload, 1) := by decide +kernel
theorem d_La_law_183 : decode M_La_law.1 183 = .ok (.invokevirtual 17, 3) := by decide +kernel
theorem d_La_law_186 : decode M_La_law.1 186 = .ok (.if_icmp .eq 714, 3) := by decide +kernel
theorem d_La_law_189 : decode M_La_law.1 189 = .ok (.iconst 0, 1) := by decide +kernel
theorem d_La_law_190 : decode M_La_law.1 190 = .ok (.ireturn, 1) := by decide +kernel
theorem d_La_law_191 : decode M_La_law.1 191 = .ok (.aload_n 1, 1) := by decide +kernel
theorem d_La_law_192 : decode M_La_law.1 192 = .ok (.invokevirtual 18, 3) := by decide +kernel
theorem d_La_law_195 : decode M_La_law.1 195 = .ok (.aload_n 2, 1) := by decide +kernel
theorem d_La_law_196 : decode M_La_law.1 196 = .ok (.invokevirtual 22, 3) := by decide +kernel
theorem d_La_law_199 : decode M_La_law.1 199 = .ok (.if_icmp .eq 701, 3) := by decide +kernel
theorem d_La_law_202 : decode M_La_law.1 202 = .ok (.iconst 0, 1) := by decide +kernel
theorem d_La_law_203 : decode M_La_law.1 203 = .ok (.ireturn, 1) := by decide +kernel
theorem d_La_law_204 : decode M_La_law.1 204 = .ok (.aload_n 1, 1) := by decide +kernel
theorem d_La_law_205 : decode M_La_law.1 205 = .ok (.invokevirtual 23, 3) := by decide +kernel
theorem d_La_law_208 : decode M_La_law.1 208 = .ok (.aload_n 2, 1) := by decide +kernel
theorem d_La_law_209 : decode M_La_law.1 209 = .ok (.invokevirtual 26, 3) := by decide +kernel
theorem d_La_law_212 : decode M_La_law.1 212 = .ok (.if_icmp .eq 688, 3) := by decide +kernel
theorem d_La_law_215 : decode M_La_law.1 215 = .ok (.iconst 0, 1) := by decide +kernel
theorem d_La_law_216 : decode M_La_law.1 216 = .ok (.ireturn, 1) := by decide +kernel
theorem d_La_law_217 : decode M_La_law.1 217 = .ok (.aload_n 1, 1) := by decide +kernel
theorem d_La_law_218 : decode M_La_law.1 218 = .ok (.aload_n 0, 1) := by decide +kernel
theorem d_La_law_219 : decode M_La_law.1 219 = .ok (.iload_n 3, 1) := by decide +kernel
theorem d_La_law_220 : decode M_La_law.1 220 = .ok (.iconst 1, 1) := by decide +kernel
theorem d_La_law_221 : decode M_La_law.1 221 = .ok (.iadd, 1) := by decide +kernel
theorem d_La_law_222 : decode M_La_law.1 222 = .ok (.iaload, 1) := by decide +kernel
theorem d_La_law_223 : decode M_La_law.1 223 = .ok (.aload_n 0, 1) := by decide +kernel
theorem d_La_law_224 : decode M_La_law.1 224 = .ok (.iload_n 3, 1) := by decide +kernel
theorem d_La_law_225 : decode M_La_law.1 225 = .ok (.iconst 2, 1) := by decide +kernel
theorem d_La_law_226 : decode M_La_law.1 226 = .ok (.iadd, 1) := by decide +kernel
theorem d_La_law_227 : decode M_La_law.1 227 = .ok (.iaload, 1) := by decide +kernel
theorem d_La_law_228 : decode M_La_law.1 228 = .ok (.invokevirtual 27, 3) := by decide +kernel
theorem d_La_law_231 : decode M_La_law.1 231 = .ok (.aload_n 2, 1) := by decide +kernel
theorem d_La_law_232 : decode M_La_law.1 232 = .ok (.aload_n 0, 1) := by decide +kernel
theorem d_La_law_233 : decode M_La_law.1 233 = .ok (.iload_n 3, 1) := by decide +kernel
theorem d_La_law_234 : decode M_La_law.1 234 = .ok (.iconst 1, 1) := by decide +kernel
theorem d_La_law_235 : decode M_La_law.1 235 = .ok (.iadd, 1) := by decide +kernel
theorem d_La_law_236 : decode M_La_law.1 236 = .ok (.iaload, 1) := by decide +kernel
theorem d_La_law_237 : decode M_La_law.1 237 = .ok (.aload_n 0, 1) := by decide +kernel
theorem d_La_law_238 : decode M_La_law.1 238 = .ok (.iload_n 3, 1) := by decide +kernel
theorem d_La_law_239 : decode M_La_law.1 239 = .ok (.iconst 2, 1) := by decide +kernel
theorem d_La_law_240 : decode M_La_law.1 240 = .ok (.iadd, 1) := by decide +kernel
theorem d_La_law_241 : decode M_La_law.1 241 = .ok (.iaload, 1) := by decide +kernel
theorem d_La_law_242 : decode M_La_law.1 242 = .ok (.invokevirtual 31, 3) := by decide +kernel
theorem d_La_law_245 : decode M_La_law.1 245 = .ok (.if_icmp .eq 655, 3) := by decide +kernel
theorem d_La_law_248 : decode M_La_law.1 248 = .ok (.iconst 0, 1) := by decide +kernel
theorem d_La_law_249 : decode M_La_law.1 249 = .ok (.ireturn, 1) := by decide +kernel
theorem d_La_law_250 : decode M_La_law.1 250 = .ok (.aload_n 1, 1) := by decide +kernel
theorem d_La_law_251 : decode M_La_law.1 251 = .ok (.aload_n 0, 1) := by decide +kernel
theorem d_La_law_252 : decode M_La_law.1 252 = .ok (.iload_n 3, 1) := by decide +kernel
theorem d_La_law_253 : decode M_La_law.1 253 = .ok (.iconst 1, 1) := by decide +kernel
theorem d_La_law_254 : decode M_La_law.1 254 = .ok (.iadd, 1) := by decide +kernel
theorem d_La_law_255 : decode M_La_law.1 255 = .ok (.iaload, 1) := by decide +kernel
theorem d_La_law_256 : decode M_La_law.1 256 = .ok (.invokevirtual 32, 3) := by decide +kernel
theorem d_La_law_259 : decode M_La_law.1 259 = .ok (.aload_n 2, 1) := by decide +kernel
theorem d_La_law_260 : decode M_La_law.1 260 = .ok (.aload_n 0, 1) := by decide +kernel
theorem d_La_law_261 : decode M_La_law.1 261 = .ok (.iload_n 3, 1) := by decide +kernel
theorem d_La_law_262 : decode M_La_law.1 262 = .ok (.iconst 1, 1) := by decide +kernel
theorem d_La_law_263 : decode M_La_law.1 263 = .ok (.iadd, 1) := by decide +kernel
theorem d_La_law_264 : decode M_La_law.1 264 = .ok (.iaload, 1) := by decide +kernel
theorem d_La_law_265 : decode M_La_law.1 265 = .ok (.invokevirtual 35, 3) := by decide +kernel
theorem d_La_law_268 : decode M_La_law.1 268 = .ok (.if_icmp .eq 632, 3) := by decide +kernel
theorem d_La_law_271 : decode M_La_law.1 271 = .ok (.iconst 0, 1) := by decide +kernel
theorem d_La_law_272 : decode M_La_law.1 272 = .ok (.ireturn, 1) := by decide +kernel
theorem d_La_law_273 : decode M_La_law.1 273 = .ok (.aload_n 1, 1) := by decide +kernel
theorem d_La_law_274 : decode M_La_law.1 274 = .ok (.invokevirtual 36, 3) := by decide +kernel
theorem d_La_law_277 : decode M_La_law.1 277 = .ok (.aload_n 2, 1) := by decide +kernel
theorem d_La_law_278 : decode M_La_law.1 278 = .ok (.invokevirtual 39, 3) := by decide +kernel
theorem d_La_law_281 : decode M_La_law.1 281 = .ok (.if_icmp .eq 619, 3) := by decide +kernel
theorem d_La_law_284 : decode M_La_law.1 284 = .ok (.iconst 0, 1) := by decide +kernel
theorem d_La_law_285 : decode M_La_law.1 285 = .ok (.ireturn, 1) := by decide +kernel
theorem d_La_law_286 : decode M_La_law.1 286 = .ok (.aload_n 1, 1) := by decide +kernel
theorem d_La_law_287 : decode M_La_law.1 287 = .ok (.invokevirtual 40, 3) := by decide +kernel
theorem d_La_law_290 : decode M_La_law.1 290 = .ok (.aload_n 2, 1) := by decide +kernel
theorem d_La_law_291 : decode M_La_law.1 291 = .ok (.invokevirtual 43, 3) := by decide +kernel
theorem d_La_law_294 : decode M_La_law.1 294 = .ok (.if_icmp .eq 606, 3) := by decide +kernel
theorem d_La_law_297 : decode M_La_law.1 297 = .ok (.iconst 0, 1) := by decide +kernel
theorem d_La_law_298 : decode M_La_law.1 298 = .ok (.ireturn, 1) := by decide +kernel
theorem d_La_law_299 : decode M_La_law.1 299 = .ok (.aload_n 1, 1) := by decide +kernel
theorem d_La_law_300 : decode M_La_law.1 300 = .ok (.aload_n 0, 1) := by decide +kernel
theorem d_La_law_301 : decode M_La_law.1 301 = .ok (.iload_n 3, 1) := by decide +kernel
theorem d_La_law_302 : decode M_La_law.1 302 = .ok (.iconst 1, 1) := by decide +kernel
theorem d_La_law_303 : decode M_La_law.1 303 = .ok (.iadd, 1) := by decide +kernel
theorem d_La_law_304 : decode M_La_law.1 304 = .ok (.iaload, 1) := by decide +kernel
theorem d_La_law_305 : decode M_La_law.1 305 = .ok (.invokevirtual 44, 3) := by decide +kernel
theorem d_La_law_308 : decode M_La_law.1 308 = .ok (.aload_n 2, 1) := by decide +kernel
theorem d_La_law_309 : decode M_La_law.1 309 = .ok (.aload_n 0, 1) := by decide +kernel
theorem d_La_law_310 : decode M_La_law.1 310 = .ok (.iload_n 3, 1) := by decide +kernel
theorem d_La_law_311 : decode M_La_law.1 311 = .ok (.iconst 1, 1) := by decide +kernel
theorem d_La_law_312 : decode M_La_law.1 312 = .ok (.iadd, 1) := by decide +kernel
theorem d_La_law_313 : decode M_La_law.1 313 = .ok (.iaload, 1) := by decide +kernel
theorem d_La_law_314 : decode M_La_law.1 314 = .ok (.invokevirtual 47, 3) := by decide +kernel
theorem d_La_law_317 : decode M_La_law.1 317 = .ok (.if_icmp .eq 583, 3) := by decide +kernel
theorem d_La_law_320 : decode M_La_law.1 320 = .ok (.iconst 0, 1) := by decide +kernel
theorem d_La_law_321 : decode M_La_law.1 321 = .ok (.ireturn, 1) := by decide +kernel
theorem d_La_law_322 : decode M_La_law.1 322 = .ok (.aload_n 1, 1) := by decide +kernel
theorem d_La_law_323 : decode M_La_law.1 323 = .ok (.aload_n 0, 1) := by decide +kernel
theorem d_La_law_324 : decode M_La_law.1 324 = .ok (.iload_n 3, 1) := by decide +kernel
theorem d_La_law_325 : decode M_La_law.1 325 = .ok (.iconst 1, 1) := by decide +kernel
theorem d_La_law_326 : decode M_La_law.1 326 = .ok (.iadd, 1) := by decide +kernel
theorem d_La_law_327 : decode M_La_law.1 327 = .ok (.iaload, 1) := by decide +kernel
theorem d_La_law_328 : decode M_La_law.1 328 = .ok (.invokevirtual 48, 3) := by decide +kernel
theorem d_La_law_331 : decode M_La_law.1 331 = .ok (.aload_n 2, 1) := by decide +kernel
theorem d_La_law_332 : decode M_La_law.1 332 = .ok (.aload_n 0, 1) := by decide +kernel
theorem d_La_law_333 : decode M_La_law.1 333 = .ok (.iload_n 3, 1) := by decide +kernel
theorem d_La_law_334 : decode M_La_law.1 334 = .ok (.iconst 1, 1) := by decide +kernel
theorem d_La_law_335 : decode M_La_law.1 335 = .ok (.iadd, 1) := by decide +kernel
theorem d_La_law_336 : decode M_La_law.1 336 = .ok (.iaload, 1) := by decide +kernel
theorem d_La_law_337 : decode M_La_law.1 337 = .ok (.invokevirtual 51, 3) := by decide +kernel
theorem d_La_law_340 : decode M_La_law.1 340 = .ok (.if_icmp .eq 560, 3) := by decide +kernel
theorem d_La_law_343 : decode M_La_law.1 343 = .ok (.iconst 0, 1) := by decide +kernel
theorem d_La_law_344 : decode M_La_law.1 344 = .ok (.ireturn, 1) := by decide +kernel
theorem d_La_law_345 : decode M_La_law.1 345 = .ok (.aload_n 1, 1) := by decide +kernel
theorem d_La_law_346 : decode M_La_law.1 346 = .ok (.aload_n 0, 1) := by decide +kernel
theorem d_La_law_347 : decode M_La_law.1 347 = .ok (.iload_n 3, 1) := by decide +kernel
theorem d_La_law_348 : decode M_La_law.1 348 = .ok (.iconst 1, 1) := by decide +kernel
theorem d_La_law_349 : decode M_La_law.1 349 = .ok (.iadd, 1) := by decide +kernel
theorem d_La_law_350 : decode M_La_law.1 350 = .ok (.iaload, 1) := by decide +kernel
theorem d_La_law_351 : decode M_La_law.1 351 = .ok (.aload_n 0, 1) := by decide +kernel
theorem d_La_law_352 : decode M_La_law.1 352 = .ok (.iload_n 3, 1) := by decide +kernel
theorem d_La_law_353 : decode M_La_law.1 353 = .ok (.iconst 2, 1) := by decide +kernel
theorem d_La_law_354 : decode M_La_law.1 354 = .ok (.iadd, 1) := by decide +kernel
theorem d_La_law_355 : decode M_La_law.1 355 = .ok (.iaload, 1) := by decide +kernel
theorem d_La_law_356 : decode M_La_law.1 356 = .ok (.invokevirtual 52, 3) := by decide +kernel
theorem d_La_law_359 : decode M_La_law.1 359 = .ok (.aload_n 2, 1) := by decide +kernel
theorem d_La_law_360 : decode M_La_law.1 360 = .ok (.aload_n 0, 1) := by decide +kernel
theorem d_La_law_361 : decode M_La_law.1 361 = .ok (.iload_n 3, 1) := by decide +kernel
theorem d_La_law_362 : decode M_La_law.1 362 = .ok (.iconst 1, 1) := by decide +kernel
theorem d_La_law_363 : decode M_La_law.1 363 = .ok (.iadd, 1) := by decide +kernel
theorem d_La_law_364 : decode M_La_law.1 364 = .ok (.iaload, 1) := by decide +kernel
theorem d_La_law_365 : decode M_La_law.1 365 = .ok (.aload_n 0, 1) := by decide +kernel
theorem d_La_law_366 : decode M_La_law.1 366 = .ok (.iload_n 3, 1) := by decide +kernel
theorem d_La_law_367 : decode M_La_law.1 367 = .ok (.iconst 2, 1) := by decide +kernel
theorem d_La_law_368 : decode M_La_law.1 368 = .ok (.iadd, 1) := by decide +kernel
theorem d_La_law_369 : decode M_La_law.1 369 = .ok (.iaload, 1) := by decide +kernel
theorem d_La_law_370 : decode M_La_law.1 370 = .ok (.invokevirtual 55, 3) := by decide +kernel
theorem d_La_law_373 : decode M_La_law.1 373 = .ok (.if_icmp .eq 527, 3) := by decide +kernel
theorem d_La_law_376 : decode M_La_law.1 376 = .ok (.iconst 0, 1) := by decide +kernel
theorem d_La_law_377 : decode M_La_law.1 377 = .ok (.ireturn, 1) := by decide +kernel
theorem d_La_law_378 : decode M_La_law.1 378 = .ok (.aload_n 1, 1) := by decide +kernel
theorem d_La_law_379 : decode M_La_law.1 379 = .ok (.aload_n 0, 1) := by decide +kernel
theorem d_La_law_380 : decode M_La_law.1 380 = .ok (.iload_n 3, 1) := by decide +kernel
theorem d_La_law_381 : decode M_La_law.1 381 = .ok (.iconst 1, 1) := by decide +kernel
theorem d_La_law_382 : decode M_La_law.1 382 = .ok (.iadd, 1) := by decide +kernel
theorem d_La_law_383 : decode M_La_law.1 383 = .ok (.iaload, 1) := by decide +kernel
theorem d_La_law_384 : decode M_La_law.1 384 = .ok (.invokevirtual 56, 3) := by decide +kernel
theorem d_La_law_387 : decode M_La_law.1 387 = .ok (.aload_n 2, 1) := by decide +kernel
theorem d_La_law_388 : decode M_La_law.1 388 = .ok (.aload_n 0, 1) := by decide +kernel
theorem d_La_law_389 : decode M_La_law.1 389 = .ok (.iload_n 3, 1) := by decide +kernel
theorem d_La_law_390 : decode M_La_law.1 390 = .ok (.iconst 1, 1) := by decide +kernel
theorem d_La_law_391 : decode M_La_law.1 391 = .ok (.iadd, 1) := by decide +kernel
theorem d_La_law_392 : decode M_La_law.1 392 = .ok (.iaload, 1) := by decide +kernel
theorem d_La_law_393 : decode M_La_law.1 393 = .ok (.invokevirtual 59, 3) := by decide +kernel
theorem d_La_law_396 : decode M_La_law.1 396 = .ok (.if_icmp .eq 504, 3) := by decide +kernel
theorem d_La_law_399 : decode M_La_law.1 399 = .ok (.iconst 0, 1) := by decide +kernel
theorem d_La_law_400 : decode M_La_law.1 400 = .ok (.ireturn, 1) := by decide +kernel
theorem d_La_law_401 : decode M_La_law.1 401 = .ok (.aload_n 1, 1) := by decide +kernel
theorem d_La_law_402 : decode M_La_law.1 402 = .ok (.invokevirtual 60, 3) := by decide +kernel
theorem d_La_law_405 : decode M_La_law.1 405 = .ok (.aload_n 2, 1) := by decide +kernel
theorem d_La_law_406 : decode M_La_law.1 406 = .ok (.invokevirtual 63, 3) := by decide +kernel
theorem d_La_law_409 : decode M_La_law.1 409 = .ok (.if_icmp .eq 491, 3) := by decide +kernel
theorem d_La_law_412 : decode M_La_law.1 412 = .ok (.iconst 0, 1) := by decide +kernel
theorem d_La_law_413 : decode M_La_law.1 413 = .ok (.ireturn, 1) := by decide +kernel
theorem d_La_law_414 : decode M_La_law.1 414 = .ok (.aload_n 1, 1) := by decide +kernel
theorem d_La_law_415 : decode M_La_law.1 415 = .ok (.aload_n 0, 1) := by decide +kernel
theorem d_La_law_416 : decode M_La_law.1 416 = .ok (.iload_n 3, 1) := by decide +kernel
theorem d_La_law_417 : decode M_La_law.1 417 = .ok (.iconst 1, 1) := by decide +kernel
theorem d_La_law_418 : decode M_La_law.1 418 = .ok (.iadd, 1) := by decide +kernel
theorem d_La_law_419 : decode M_La_law.1 419 = .ok (.iaload, 1) := by decide +kernel
theorem d_La_law_420 : decode M_La_law.1 420 = .ok (.aload_n 0, 1) := by decide +kernel
theorem d_La_law_421 : decode M_La_law.1 421 = .ok (.iload_n 3, 1) := by decide +kernel
theorem d_La_law_422 : decode M_La_law.1 422 = .ok (.iconst 2, 1) := by decide +kernel
theorem d_La_law_423 : decode M_La_law.1 423 = .ok (.iadd, 1) := by decide +kernel
theorem d_La_law_424 : decode M_La_law.1 424 = .ok (.iaload, 1) := by decide +kernel
theorem d_La_law_425 : decode M_La_law.1 425 = .ok (.invokevirtual 64, 3) := by decide +kernel
theorem d_La_law_428 : decode M_La_law.1 428 = .ok (.aload_n 2, 1) := by decide +kernel
theorem d_La_law_429 : decode M_La_law.1 429 = .ok (.aload_n 0, 1) := by decide +kernel
theorem d_La_law_430 : decode M_La_law.1 430 = .ok (.iload_n 3, 1) := by decide +kernel
theorem d_La_law_431 : decode M_La_law.1 431 = .ok (.iconst 1, 1) := by decide +kernel
theorem d_La_law_432 : decode M_La_law.1 432 = .ok (.iadd, 1) := by decide +kernel
theorem d_La_law_433 : decode M_La_law.1 433 = .ok (.iaload, 1) := by decide +kernel
theorem d_La_law_434 : decode M_La_law.1 434 = .ok (.aload_n 0, 1) := by decide +kernel
theorem d_La_law_435 : decode M_La_law.1 435 = .ok (.iload_n 3, 1) := by decide +kernel
theorem d_La_law_436 : decode M_La_law.1 436 = .ok (.iconst 2, 1) := by decide +kernel
theorem d_La_law_437 : decode M_La_law.1 437 = .ok (.iadd, 1) := by decide +kernel
theorem d_La_law_438 : decode M_La_law.1 438 = .ok (.iaload, 1) := by decide +kernel
theorem d_La_law_439 : decode M_La_law.1 439 = .ok (.invokevirtual 67, 3) := by decide +kernel
theorem d_La_law_442 : decode M_La_law.1 442 = .ok (.if_icmp .eq 458, 3) := by decide +kernel
theorem d_La_law_445 : decode M_La_law.1 445 = .ok (.iconst 0, 1) := by decide +kernel
theorem d_La_law_446 : decode M_La_law.1 446 = .ok (.ireturn, 1) := by decide +kernel
theorem d_La_law_447 : decode M_La_law.1 447 = .ok (.aload_n 1, 1) := by decide +kernel
theorem d_La_law_448 : decode M_La_law.1 448 = .ok (.aload_n 0, 1) := by decide +kernel
theorem d_La_law_449 : decode M_La_law.1 449 = .ok (.iload_n 3, 1) := by decide +kernel
theorem d_La_law_450 : decode M_La_law.1 450 = .ok (.iconst 1, 1) := by decide +kernel
theorem d_La_law_451 : decode M_La_law.1 451 = .ok (.iadd, 1) := by decide +kernel
theorem d_La_law_452 : decode M_La_law.1 452 = .ok (.iaload, 1) := by decide +kernel
theorem d_La_law_453 : decode M_La_law.1 453 = .ok (.invokevirtual 68, 3) := by decide +kernel
theorem d_La_law_456 : decode M_La_law.1 456 = .ok (.aload_n 2, 1) := by decide +kernel
theorem d_La_law_457 : decode M_La_law.1 457 = .ok (.aload_n 0, 1) := by decide +kernel
theorem d_La_law_458 : decode M_La_law.1 458 = .ok (.iload_n 3, 1) := by decide +kernel
theorem d_La_law_459 : decode M_La_law.1 459 = .ok (.iconst 1, 1) := by decide +kernel
theorem d_La_law_460 : decode M_La_law.1 460 = .ok (.iadd, 1) := by decide +kernel
theorem d_La_law_461 : decode M_La_law.1 461 = .ok (.iaload, 1) := by decide +kernel
theorem d_La_law_462 : decode M_La_law.1 462 = .ok (.invokevirtual 71, 3) := by decide +kernel
theorem d_La_law_465 : decode M_La_law.1 465 = .ok (.if_icmp .eq 435, 3) := by decide +kernel
theorem d_La_law_468 : decode M_La_law.1 468 = .ok (.iconst 0, 1) := by decide +kernel
theorem d_La_law_469 : decode M_La_law.1 469 = .ok (.ireturn, 1) := by decide +kernel
theorem d_La_law_470 : decode M_La_law.1 470 = .ok (.aload_n 1, 1) := by decide +kernel
theorem d_La_law_471 : decode M_La_law.1 471 = .ok (.invokevirtual 72, 3) := by decide +kernel
theorem d_La_law_474 : decode M_La_law.1 474 = .ok (.aload_n 2, 1) := by decide +kernel
theorem d_La_law_475 : decode M_La_law.1 475 = .ok (.invokevirtual 75, 3) := by decide +kernel
theorem d_La_law_478 : decode M_La_law.1 478 = .ok (.if_icmp .eq 422, 3) := by decide +kernel
theorem d_La_law_481 : decode M_La_law.1 481 = .ok (.iconst 0, 1) := by decide +kernel
theorem d_La_law_482 : decode M_La_law.1 482 = .ok (.ireturn, 1) := by decide +kernel
theorem d_La_law_483 : decode M_La_law.1 483 = .ok (.aload_n 1, 1) := by decide +kernel
theorem d_La_law_484 : decode M_La_law.1 484 = .ok (.aload_n 0, 1) := by decide +kernel
theorem d_La_law_485 : decode M_La_law.1 485 = .ok (.iload_n 3, 1) := by decide +kernel
theorem d_La_law_486 : decode M_La_law.1 486 = .ok (.iconst 1, 1) := by decide +kernel
theorem d_La_law_487 : decode M_La_law.1 487 = .ok (.iadd, 1) := by decide +kernel
theorem d_La_law_488 : decode M_La_law.1 488 = .ok (.iaload, 1) := by decide +kernel
theorem d_La_law_489 : decode M_La_law.1 489 = .ok (.aload_n 0, 1) := by decide +kernel
theorem d_La_law_490 : decode M_La_law.1 490 = .ok (.iload_n 3, 1) := by decide +kernel
theorem d_La_law_491 : decode M_La_law.1 491 = .ok (.iconst 2, 1) := by decide +kernel
theorem d_La_law_492 : decode M_La_law.1 492 = .ok (.iadd, 1) := by decide +kernel
theorem d_La_law_493 : decode M_La_law.1 493 = .ok (.iaload, 1) := by decide +kernel
theorem d_La_law_494 : decode M_La_law.1 494 = .ok (.invokevirtual 76, 3) := by decide +kernel
theorem d_La_law_497 : decode M_La_law.1 497 = .ok (.aload_n 2, 1) := by decide +kernel
theorem d_La_law_498 : decode M_La_law.1 498 = .ok (.aload_n 0, 1) := by decide +kernel
theorem d_La_law_499 : decode M_La_law.1 499 = .ok (.iload_n 3, 1) := by decide +kernel
theorem d_La_law_500 : decode M_La_law.1 500 = .ok (.iconst 1, 1) := by decide +kernel
theorem d_La_law_501 : decode M_La_law.1 501 = .ok (.iadd, 1) := by decide +kernel
theorem d_La_law_502 : decode M_La_law.1 502 = .ok (.iaload, 1) := by decide +kernel
theorem d_La_law_503 : decode M_La_law.1 503 = .ok (.aload_n 0, 1) := by decide +kernel
theorem d_La_law_504 : decode M_La_law.1 504 = .ok (.iload_n 3, 1) := by decide +kernel
theorem d_La_law_505 : decode M_La_law.1 505 = .ok (.iconst 2, 1) := by decide +kernel
theorem d_La_law_506 : decode M_La_law.1 506 = .ok (.iadd, 1) := by decide +kernel
theorem d_La_law_507 : decode M_La_law.1 507 = .ok (.iaload, 1) := by decide +kernel
theorem d_La_law_508 : decode M_La_law.1 508 = .ok (.invokevirtual 79, 3) := by decide +kernel
theorem d_La_law_511 : decode M_La_law.1 511 = .ok (.if_icmp .eq 389, 3) := by decide +kernel
theorem d_La_law_514 : decode M_La_law.1 514 = .ok (.iconst 0, 1) := by decide +kernel
theorem d_La_law_515 : decode M_La_law.1 515 = .ok (.ireturn, 1) := by decide +kernel
theorem d_La_law_516 : decode M_La_law.1 516 = .ok (.aload_n 1, 1) := by decide +kernel
theorem d_La_law_517 : decode M_La_law.1 517 = .ok (.aload_n 0, 1) := by decide +kernel
theorem d_La_law_518 : decode M_La_law.1 518 = .ok (.iload_n 3, 1) := by decide +kernel
theorem d_La_law_519 : decode M_La_law.1 519 = .ok (.iconst 1, 1) := by decide +kernel
theorem d_La_law_520 : decode M_La_law.1 520 = .ok (.iadd, 1) := by decide +kernel
theorem d_La_law_521 : decode M_La_law.1 521 = .ok (.iaload, 1) := by decide +kernel
theorem d_La_law_522 : decode M_La_law.1 522 = .ok (.aload_n 0, 1) := by decide +kernel
theorem d_La_law_523 : decode M_La_law.1 523 = .ok (.iload_n 3, 1) := by decide +kernel
theorem d_La_law_524 : decode M_La_law.1 524 = .ok (.iconst 2, 1) := by decide +kernel
theorem d_La_law_525 : decode M_La_law.1 525 = .ok (.iadd, 1) := by decide +kernel
theorem d_La_law_526 : decode M_La_law.1 526 = .ok (.iaload, 1) := by decide +kernel
theorem d_La_law_527 : decode M_La_law.1 527 = .ok (.invokevirtual 80, 3) := by decide +kernel
theorem d_La_law_530 : decode M_La_law.1 530 = .ok (.aload_n 2, 1) := by decide +kernel
theorem d_La_law_531 : decode M_La_law.1 531 = .ok (.aload_n 0, 1) := by decide +kernel
theorem d_La_law_532 : decode M_La_law.1 532 = .ok (.iload_n 3, 1) := by decide +kernel
theorem d_La_law_533 : decode M_La_law.1 533 = .ok (.iconst 1, 1) := by decide +kernel
theorem d_La_law_534 : decode M_La_law.1 534 = .ok (.iadd, 1) := by decide +kernel
theorem d_La_law_535 : decode M_La_law.1 535 = .ok (.iaload, 1) := by decide +kernel
theorem d_La_law_536 : decode M_La_law.1 536 = .ok (.aload_n 0, 1) := by decide +kernel
theorem d_La_law_537 : decode M_La_law.1 537 = .ok (.iload_n 3, 1) := by decide +kernel
theorem d_La_law_538 : decode M_La_law.1 538 = .ok (.iconst 2, 1) := by decide +kernel
theorem d_La_law_539 : decode M_La_law.1 539 = .ok (.iadd, 1) := by decide +kernel
theorem d_La_law_540 : decode M_La_law.1 540 = .ok (.iaload, 1) := by decide +kernel
theorem d_La_law_541 : decode M_La_law.1 541 = .ok (.invokevirtual 83, 3) := by decide +kernel
theorem d_La_law_544 : decode M_La_law.1 544 = .ok (.if_icmp .eq 356, 3) := by decide +kernel
theorem d_La_law_547 : decode M_La_law.1 547 = .ok (.iconst 0, 1) := by decide +kernel
theorem d_La_law_548 : decode M_La_law.1 548 = .ok (.ireturn, 1) := by decide +kernel
theorem d_La_law_549 : decode M_La_law.1 549 = .ok (.aload_n 1, 1) := by decide +kernel
theorem d_La_law_550 : decode M_La_law.1 550 = .ok (.aload_n 0, 1) := by decide +kernel
theorem d_La_law_551 : decode M_La_law.1 551 = .ok (.iload_n 3, 1) := by decide +kernel
theorem d_La_law_552 : decode M_La_law.1 552 = .ok (.iconst 1, 1) := by decide +kernel
theorem d_La_law_553 : decode M_La_law.1 553 = .ok (.iadd, 1) := by decide +kernel
theorem d_La_law_554 : decode M_La_law.1 554 = .ok (.iaload, 1) := by decide +kernel
theorem d_La_law_555 : decode M_La_law.1 555 = .ok (.aload_n 0, 1) := by decide +kernel
theorem d_La_law_556 : decode M_La_law.1 556 = .ok (.iload_n 3, 1) := by decide +kernel
theorem d_La_law_557 : decode M_La_law.1 557 = .ok (.iconst 2, 1) := by decide +kernel
theorem d_La_law_558 : decode M_La_law.1 558 = .ok (.iadd, 1) := by decide +kernel
theorem d_La_law_559 : decode M_La_law.1 559 = .ok (.iaload, 1) := by decide +kernel
theorem d_La_law_560 : decode M_La_law.1 560 = .ok (.invokevirtual 84, 3) := by decide +kernel
theorem d_La_law_563 : decode M_La_law.1 563 = .ok (.aload_n 2, 1) := by decide +kernel
theorem d_La_law_564 : decode M_La_law.1 564 = .ok (.aload_n 0, 1) := by decide +kernel
theorem d_La_law_565 : decode M_La_law.1 565 = .ok (.iload_n 3, 1) := by decide +kernel
theorem d_La_law_566 : decode M_La_law.1 566 = .ok (.iconst 1, 1) := by decide +kernel
theorem d_La_law_567 : decode M_La_law.1 567 = .ok (.iadd, 1) := by decide +kernel
theorem d_La_law_568 : decode M_La_law.1 568 = .ok (.iaload, 1) := by decide +kernel
theorem d_La_law_569 : decode M_La_law.1 569 = .ok (.aload_n 0, 1) := by decide +kernel
theorem d_La_law_570 : decode M_La_law.1 570 = .ok (.iload_n 3, 1) := by decide +kernel
theorem d_La_law_571 : decode M_La_law.1 571 = .ok (.iconst 2, 1) := by decide +kernel
theorem d_La_law_572 : decode M_La_law.1 572 = .ok (.iadd, 1) := by decide +kernel
theorem d_La_law_573 : decode M_La_law.1 573 = .ok (.iaload, 1) := by decide +kernel
theorem d_La_law_574 : decode M_La_law.1 574 = .ok (.invokevirtual 87, 3) := by decide +kernel
theorem d_La_law_577 : decode M_La_law.1 577 = .ok (.if_icmp .eq 323, 3) := by decide +kernel
theorem d_La_law_580 : decode M_La_law.1 580 = .ok (.iconst 0, 1) := by decide +kernel
theorem d_La_law_581 : decode M_La_law.1 581 = .ok (.ireturn, 1) := by decide +kernel
theorem d_La_law_582 : decode M_La_law.1 582 = .ok (.aload_n 1, 1) := by decide +kernel
theorem d_La_law_583 : decode M_La_law.1 583 = .ok (.aload_n 0, 1) := by decide +kernel
theorem d_La_law_584 : decode M_La_law.1 584 = .ok (.iload_n 3, 1) := by decide +kernel
theorem d_La_law_585 : decode M_La_law.1 585 = .ok (.iconst 1, 1) := by decide +kernel
theorem d_La_law_586 : decode M_La_law.1 586 = .ok (.iadd, 1) := by decide +kernel
theorem d_La_law_587 : decode M_La_law.1 587 = .ok (.iaload, 1) := by decide +kernel
theorem d_La_law_588 : decode M_La_law.1 588 = .ok (.invokevirtual 88, 3) := by decide +kernel
theorem d_La_law_591 : decode M_La_law.1 591 = .ok (.aload_n 2, 1) := by decide +kernel
theorem d_La_law_592 : decode M_La_law.1 592 = .ok (.aload_n 0, 1) := by decide +kernel
theorem d_La_law_593 : decode M_La_law.1 593 = .ok (.iload_n 3, 1) := by decide +kernel
theorem d_La_law_594 : decode M_La_law.1 594 = .ok (.iconst 1, 1) := by decide +kernel
theorem d_La_law_595 : decode M_La_law.1 595 = .ok (.iadd, 1) := by decide +kernel
theorem d_La_law_596 : decode M_La_law.1 596 = .ok (.iaload, 1) := by decide +kernel
theorem d_La_law_597 : decode M_La_law.1 597 = .ok (.invokevirtual 91, 3) := by decide +kernel
theorem d_La_law_600 : decode M_La_law.1 600 = .ok (.if_icmp .eq 300, 3) := by decide +kernel
theorem d_La_law_603 : decode M_La_law.1 603 = .ok (.iconst 0, 1) := by decide +kernel
theorem d_La_law_604 : decode M_La_law.1 604 = .ok (.ireturn, 1) := by decide +kernel
theorem d_La_law_605 : decode M_La_law.1 605 = .ok (.aload_n 1, 1) := by decide +kernel
theorem d_La_law_606 : decode M_La_law.1 606 = .ok (.aload_n 0, 1) := by decide +kernel
theorem d_La_law_607 : decode M_La_law.1 607 = .ok (.iload_n 3, 1) := by decide +kernel
theorem d_La_law_608 : decode M_La_law.1 608 = .ok (.iconst 1, 1) := by decide +kernel
theorem d_La_law_609 : decode M_La_law.1 609 = .ok (.iadd, 1) := by decide +kernel
theorem d_La_law_610 : decode M_La_law.1 610 = .ok (.iaload, 1) := by decide +kernel
theorem d_La_law_611 : decode M_La_law.1 611 = .ok (.invokevirtual 92, 3) := by decide +kernel
theorem d_La_law_614 : decode M_La_law.1 614 = .ok (.aload_n 2, 1) := by decide +kernel
theorem d_La_law_615 : decode M_La_law.1 615 = .ok (.aload_n 0, 1) := by decide +kernel
theorem d_La_law_616 : decode M_La_law.1 616 = .ok (.iload_n 3, 1) := by decide +kernel
theorem d_La_law_617 : decode M_La_law.1 617 = .ok (.iconst 1, 1) := by decide +kernel
theorem d_La_law_618 : decode M_La_law.1 618 = .ok (.iadd, 1) := by decide +kernel
theorem d_La_law_619 : decode M_La_law.1 619 = .ok (.iaload, 1) := by decide +kernel
theorem d_La_law_620 : decode M_La_law.1 620 = .ok (.invokevirtual 95, 3) := by decide +kernel
theorem d_La_law_623 : decode M_La_law.1 623 = .ok (.if_icmp .eq 277, 3) := by decide +kernel
theorem d_La_law_626 : decode M_La_law.1 626 = .ok (.iconst 0, 1) := by decide +kernel
theorem d_La_law_627 : decode M_La_law.1 627 = .ok (.ireturn, 1) := by decide +kernel
theorem d_La_law_628 : decode M_La_law.1 628 = .ok (.aload_n 1, 1) := by decide +kernel
theorem d_La_law_629 : decode M_La_law.1 629 = .ok (.aload_n 0, 1) := by decide +kernel
theorem d_La_law_630 : decode M_La_law.1 630 = .ok (.iload_n 3, 1) := by decide +kernel
theorem d_La_law_631 : decode M_La_law.1 631 = .ok (.iconst 1, 1) := by decide +kernel
theorem d_La_law_632 : decode M_La_law.1 632 = .ok (.iadd, 1) := by decide +kernel
theorem d_La_law_633 : decode M_La_law.1 633 = .ok (.iaload, 1) := by decide +kernel
theorem d_La_law_634 : decode M_La_law.1 634 = .ok (.invokevirtual 96, 3) := by decide +kernel
theorem d_La_law_637 : decode M_La_law.1 637 = .ok (.aload_n 2, 1) := by decide +kernel
theorem d_La_law_638 : decode M_La_law.1 638 = .ok (.aload_n 0, 1) := by decide +kernel
theorem d_La_law_639 : decode M_La_law.1 639 = .ok (.iload_n 3, 1) := by decide +kernel
theorem d_La_law_640 : decode M_La_law.1 640 = .ok (.iconst 1, 1) := by decide +kernel
theorem d_La_law_641 : decode M_La_law.1 641 = .ok (.iadd, 1) := by decide +kernel
theorem d_La_law_642 : decode M_La_law.1 642 = .ok (.iaload, 1) := by decide +kernel
theorem d_La_law_643 : decode M_La_law.1 643 = .ok (.invokevirtual 99, 3) := by decide +kernel
theorem d_La_law_646 : decode M_La_law.1 646 = .ok (.if_icmp .eq 254, 3) := by decide +kernel
theorem d_La_law_649 : decode M_La_law.1 649 = .ok (.iconst 0, 1) := by decide +kernel
theorem d_La_law_650 : decode M_La_law.1 650 = .ok (.ireturn, 1) := by decide +kernel
theorem d_La_law_651 : decode M_La_law.1 651 = .ok (.aload_n 1, 1) := by decide +kernel
theorem d_La_law_652 : decode M_La_law.1 652 = .ok (.aload_n 0, 1) := by decide +kernel
theorem d_La_law_653 : decode M_La_law.1 653 = .ok (.iload_n 3, 1) := by decide +kernel
theorem d_La_law_654 : decode M_La_law.1 654 = .ok (.iconst 1, 1) := by decide +kernel
theorem d_La_law_655 : decode M_La_law.1 655 = .ok (.iadd, 1) := by decide +kernel
theorem d_La_law_656 : decode M_La_law.1 656 = .ok (.iaload, 1) := by decide +kernel
theorem d_La_law_657 : decode M_La_law.1 657 = .ok (.aload_n 0, 1) := by decide +kernel
theorem d_La_law_658 : decode M_La_law.1 658 = .ok (.iload_n 3, 1) := by decide +kernel
theorem d_La_law_659 : decode M_La_law.1 659 = .ok (.iconst 2, 1) := by decide +kernel
theorem d_La_law_660 : decode M_La_law.1 660 = .ok (.iadd, 1) := by decide +kernel
theorem d_La_law_661 : decode M_La_law.1 661 = .ok (.iaload, 1) := by decide +kernel
theorem d_La_law_662 : decode M_La_law.1 662 = .ok (.aload_n 0, 1) := by decide +kernel
theorem d_La_law_663 : decode M_La_law.1 663 = .ok (.iload_n 3, 1) := by decide +kernel
theorem d_La_law_664 : decode M_La_law.1 664 = .ok (.iconst 3, 1) := by decide +kernel
theorem d_La_law_665 : decode M_La_law.1 665 = .ok (.iadd, 1) := by decide +kernel
theorem d_La_law_666 : decode M_La_law.1 666 = .ok (.iaload, 1) := by decide +kernel
theorem d_La_law_667 : decode M_La_law.1 667 = .ok (.invokevirtual 100, 3) := by decide +kernel
theorem d_La_law_670 : decode M_La_law.1 670 = .ok (.aload_n 2, 1) := by decide +kernel
theorem d_La_law_671 : decode M_La_law.1 671 = .ok (.aload_n 0, 1) := by decide +kernel
theorem d_La_law_672 : decode M_La_law.1 672 = .ok (.iload_n 3, 1) := by decide +kernel
theorem d_La_law_673 : decode M_La_law.1 673 = .ok (.iconst 1, 1) := by decide +kernel
theorem d_La_law_674 : decode M_La_law.1 674 = .ok (.iadd, 1) := by decide +kernel
theorem d_La_law_675 : decode M_La_law.1 675 = .ok (.iaload, 1) := by decide +kernel
theorem d_La_law_676 : decode M_La_law.1 676 = .ok (.aload_n 0, 1) := by decide +kernel
theorem d_La_law_677 : decode M_La_law.1 677 = .ok (.iload_n 3, 1) := by decide +kernel
theorem d_La_law_678 : decode M_La_law.1 678 = .ok (.iconst 2, 1) := by decide +kernel
theorem d_La_law_679 : decode M_La_law.1 679 = .ok (.iadd, 1) := by decide +kernel
theorem d_La_law_680 : decode M_La_law.1 680 = .ok (.iaload, 1) := by decide +kernel
theorem d_La_law_681 : decode M_La_law.1 681 = .ok (.aload_n 0, 1) := by decide +kernel
theorem d_La_law_682 : decode M_La_law.1 682 = .ok (.iload_n 3, 1) := by decide +kernel
theorem d_La_law_683 : decode M_La_law.1 683 = .ok (.iconst 3, 1) := by decide +kernel
theorem d_La_law_684 : decode M_La_law.1 684 = .ok (.iadd, 1) := by decide +kernel
theorem d_La_law_685 : decode M_La_law.1 685 = .ok (.iaload, 1) := by decide +kernel
theorem d_La_law_686 : decode M_La_law.1 686 = .ok (.invokevirtual 104, 3) := by decide +kernel
theorem d_La_law_689 : decode M_La_law.1 689 = .ok (.if_icmp .eq 211, 3) := by decide +kernel
theorem d_La_law_692 : decode M_La_law.1 692 = .ok (.iconst 0, 1) := by decide +kernel
theorem d_La_law_693 : decode M_La_law.1 693 = .ok (.ireturn, 1) := by decide +kernel
theorem d_La_law_694 : decode M_La_law.1 694 = .ok (.aload_n 1, 1) := by decide +kernel
theorem d_La_law_695 : decode M_La_law.1 695 = .ok (.invokevirtual 105, 3) := by decide +kernel
theorem d_La_law_698 : decode M_La_law.1 698 = .ok (.aload_n 2, 1) := by decide +kernel
theorem d_La_law_699 : decode M_La_law.1 699 = .ok (.invokevirtual 108, 3) := by decide +kernel
theorem d_La_law_702 : decode M_La_law.1 702 = .ok (.if_icmp .eq 198, 3) := by decide +kernel
theorem d_La_law_705 : decode M_La_law.1 705 = .ok (.iconst 0, 1) := by decide +kernel
theorem d_La_law_706 : decode M_La_law.1 706 = .ok (.ireturn, 1) := by decide +kernel
theorem d_La_law_707 : decode M_La_law.1 707 = .ok (.aload_n 1, 1) := by decide +kernel
theorem d_La_law_708 : decode M_La_law.1 708 = .ok (.invokevirtual 109, 3) := by decide +kernel
theorem d_La_law_711 : decode M_La_law.1 711 = .ok (.aload_n 2, 1) := by decide +kernel
theorem d_La_law_712 : decode M_La_law.1 712 = .ok (.invokevirtual 112, 3) := by decide +kernel
theorem d_La_law_715 : decode M_La_law.1 715 = .ok (.if_icmp .eq 185, 3) := by decide +kernel
theorem d_La_law_718 : decode M_La_law.1 718 = .ok (.iconst 0, 1) := by decide +kernel
theorem d_La_law_719 : decode M_La_law.1 719 = .ok (.ireturn, 1) := by decide +kernel
theorem d_La_law_720 : decode M_La_law.1 720 = .ok (.aload_n 1, 1) := by decide +kernel
theorem d_La_law_721 : decode M_La_law.1 721 = .ok (.aload_n 0, 1) := by decide +kernel
theorem d_La_law_722 : decode M_La_law.1 722 = .ok (.iload_n 3, 1) := by decide +kernel
theorem d_La_law_723 : decode M_La_law.1 723 = .ok (.iconst 1, 1) := by decide +kernel
theorem d_La_law_724 : decode M_La_law.1 724 = .ok (.iadd, 1) := by decide +kernel
theorem d_La_law_725 : decode M_La_law.1 725 = .ok (.iaload, 1) := by decide +kernel
theorem d_La_law_726 : decode M_La_law.1 726 = .ok (.aload_n 0, 1) := by decide +kernel
theorem d_La_law_727 : decode M_La_law.1 727 = .ok (.iload_n 3, 1) := by decide +kernel
theorem d_La_law_728 : decode M_La_law.1 728 = .ok (.iconst 2, 1) := by decide +kernel
theorem d_La_law_729 : decode M_La_law.1 729 = .ok (.iadd, 1) := by decide +kernel
theorem d_La_law_730 : decode M_La_law.1 730 = .ok (.iaload, 1) := by decide +kernel
theorem d_La_law_731 : decode M_La_law.1 731 = .ok (.aload_n 0, 1) := by decide +kernel
theorem d_La_law_732 : decode M_La_law.1 732 = .ok (.iload_n 3, 1) := by decide +kernel
theorem d_La_law_733 : decode M_La_law.1 733 = .ok (.iconst 3, 1) := by decide +kernel
theorem d_La_law_734 : decode M_La_law.1 734 = .ok (.iadd, 1) := by decide +kernel
theorem d_La_law_735 : decode M_La_law.1 735 = .ok (.iaload, 1) := by decide +kernel
theorem d_La_law_736 : decode M_La_law.1 736 = .ok (.aload_n 0, 1) := by decide +kernel
theorem d_La_law_737 : decode M_La_law.1 737 = .ok (.iload_n 3, 1) := by decide +kernel
theorem d_La_law_738 : decode M_La_law.1 738 = .ok (.iconst 4, 1) := by decide +kernel
theorem d_La_law_739 : decode M_La_law.1 739 = .ok (.iadd, 1) := by decide +kernel
theorem d_La_law_740 : decode M_La_law.1 740 = .ok (.iaload, 1) := by decide +kernel
theorem d_La_law_741 : decode M_La_law.1 741 = .ok (.aload_n 0, 1) := by decide +kernel
theorem d_La_law_742 : decode M_La_law.1 742 = .ok (.iload_n 3, 1) := by decide +kernel
theorem d_La_law_743 : decode M_La_law.1 743 = .ok (.iconst 5, 1) := by decide +kernel
theorem d_La_law_744 : decode M_La_law.1 744 = .ok (.iadd, 1) := by decide +kernel
theorem d_La_law_745 : decode M_La_law.1 745 = .ok (.iaload, 1) := by decide +kernel
theorem d_La_law_746 : decode M_La_law.1 746 = .ok (.invokevirtual 113, 3) := by decide +kernel
theorem d_La_law_749 : decode M_La_law.1 749 = .ok (.aload_n 2, 1) := by decide +kernel
theorem d_La_law_750 : decode M_La_law.1 750 = .ok (.aload_n 0, 1) := by decide +kernel
theorem d_La_law_751 : decode M_La_law.1 751 = .ok (.iload_n 3, 1) := by decide +kernel
theorem d_La_law_752 : decode M_La_law.1 752 = .ok (.iconst 1, 1) := by decide +kernel
theorem d_La_law_753 : decode M_La_law.1 753 = .ok (.iadd, 1) := by decide +kernel
theorem d_La_law_754 : decode M_La_law.1 754 = .ok (.iaload, 1) := by decide +kernel
theorem d_La_law_755 : decode M_La_law.1 755 = .ok (.aload_n 0, 1) := by decide +kernel
theorem d_La_law_756 : decode M_La_law.1 756 = .ok (.iload_n 3, 1) := by decide +kernel
theorem d_La_law_757 : decode M_La_law.1 757 = .ok (.iconst 2, 1) := by decide +kernel
theorem d_La_law_758 : decode M_La_law.1 758 = .ok (.iadd, 1) := by decide +kernel
theorem d_La_law_759 : decode M_La_law.1 759 = .ok (.iaload, 1) := by decide +kernel
theorem d_La_law_760 : decode M_La_law.1 760 = .ok (.aload_n 0, 1) := by decide +kernel
theorem d_La_law_761 : decode M_La_law.1 761 = .ok (.iload_n 3, 1) := by decide +kernel
theorem d_La_law_762 : decode M_La_law.1 762 = .ok (.iconst 3, 1) := by decide +kernel
theorem d_La_law_763 : decode M_La_law.1 763 = .ok (.iadd, 1) := by decide +kernel
theorem d_La_law_764 : decode M_La_law.1 764 = .ok (.iaload, 1) := by decide +kernel
theorem d_La_law_765 : decode M_La_law.1 765 = .ok (.aload_n 0, 1) := by decide +kernel
theorem d_La_law_766 : decode M_La_law.1 766 = .ok (.iload_n 3, 1) := by decide +kernel
theorem d_La_law_767 : decode M_La_law.1 767 = .ok (.iconst 4, 1) := by decide +kernel
theorem d_La_law_768 : decode M_La_law.1 768 = .ok (.iadd, 1) := by decide +kernel
theorem d_La_law_769 : decode M_La_law.1 769 = .ok (.iaload, 1) := by decide +kernel
theorem d_La_law_770 : decode M_La_law.1 770 = .ok (.aload_n 0, 1) := by decide +kernel
theorem d_La_law_771 : decode M_La_law.1 771 = .ok (.iload_n 3, 1) := by decide +kernel
theorem d_La_law_772 : decode M_La_law.1 772 = .ok (.iconst 5, 1) := by decide +kernel
theorem d_La_law_773 : decode M_La_law.1 773 = .ok (.iadd, 1) := by decide +kernel
theorem d_La_law_774 : decode M_La_law.1 774 = .ok (.iaload, 1) := by decide +kernel
theorem d_La_law_775 : decode M_La_law.1 775 = .ok (.invokevirtual 117, 3) := by decide +kernel
theorem d_La_law_778 : decode M_La_law.1 778 = .ok (.lcmp, 1) := by decide +kernel
theorem d_La_law_779 : decode M_La_law.1 779 = .ok (.ifCond .eq 121, 3) := by decide +kernel
theorem d_La_law_782 : decode M_La_law.1 782 = .ok (.iconst 0, 1) := by decide +kernel
theorem d_La_law_783 : decode M_La_law.1 783 = .ok (.ireturn, 1) := by decide +kernel
theorem d_La_law_784 : decode M_La_law.1 784 = .ok (.aload_n 1, 1) := by decide +kernel
theorem d_La_law_785 : decode M_La_law.1 785 = .ok (.aload_n 0, 1) := by decide +kernel
theorem d_La_law_786 : decode M_La_law.1 786 = .ok (.iload_n 3, 1) := by decide +kernel
theorem d_La_law_787 : decode M_La_law.1 787 = .ok (.iconst 1, 1) := by decide +kernel
theorem d_La_law_788 : decode M_La_law.1 788 = .ok (.iadd, 1) := by decide +kernel
theorem d_La_law_789 : decode M_La_law.1 789 = .ok (.iaload, 1) := by decide +kernel
theorem d_La_law_790 : decode M_La_law.1 790 = .ok (.aload_n 0, 1) := by decide +kernel
theorem d_La_law_791 : decode M_La_law.1 791 = .ok (.iload_n 3, 1) := by decide +kernel
theorem d_La_law_792 : decode M_La_law.1 792 = .ok (.iconst 2, 1) := by decide +kernel
theorem d_La_law_793 : decode M_La_law.1 793 = .ok (.iadd, 1) := by decide +kernel
theorem d_La_law_794 : decode M_La_law.1 794 = .ok (.iaload, 1) := by decide +kernel
theorem d_La_law_795 : decode M_La_law.1 795 = .ok (.invokevirtual 118, 3) := by decide +kernel
theorem d_La_law_798 : decode M_La_law.1 798 = .ok (.aload_n 2, 1) := by decide +kernel
theorem d_La_law_799 : decode M_La_law.1 799 = .ok (.aload_n 0, 1) := by decide +kernel
theorem d_La_law_800 : decode M_La_law.1 800 = .ok (.iload_n 3, 1) := by decide +kernel
theorem d_La_law_801 : decode M_La_law.1 801 = .ok (.iconst 1, 1) := by decide +kernel
theorem d_La_law_802 : decode M_La_law.1 802 = .ok (.iadd, 1) := by decide +kernel
theorem d_La_law_803 : decode M_La_law.1 803 = .ok (.iaload, 1) := by decide +kernel
theorem d_La_law_804 : decode M_La_law.1 804 = .ok (.aload_n 0, 1) := by decide +kernel
theorem d_La_law_805 : decode M_La_law.1 805 = .ok (.iload_n 3, 1) := by decide +kernel
theorem d_La_law_806 : decode M_La_law.1 806 = .ok (.iconst 2, 1) := by decide +kernel
theorem d_La_law_807 : decode M_La_law.1 807 = .ok (.iadd, 1) := by decide +kernel
theorem d_La_law_808 : decode M_La_law.1 808 = .ok (.iaload, 1) := by decide +kernel
theorem d_La_law_809 : decode M_La_law.1 809 = .ok (.invokevirtual 121, 3) := by decide +kernel
theorem d_La_law_812 : decode M_La_law.1 812 = .ok (.if_icmp .eq 88, 3) := by decide +kernel
theorem d_La_law_815 : decode M_La_law.1 815 = .ok (.iconst 0, 1) := by decide +kernel
theorem d_La_law_816 : decode M_La_law.1 816 = .ok (.ireturn, 1) := by decide +kernel
theorem d_La_law_817 : decode M_La_law.1 817 = .ok (.aload_n 1, 1) := by decide +kernel
theorem d_La_law_818 : decode M_La_law.1 818 = .ok (.aload_n 0, 1) := by decide +kernel
theorem d_La_law_819 : decode M_La_law.1 819 = .ok (.iload_n 3, 1) := by decide +kernel
theorem d_La_law_820 : decode M_La_law.1 820 = .ok (.iconst 1, 1) := by decide +kernel
theorem d_La_law_821 : decode M_La_law.1 821 = .ok (.iadd, 1) := by decide +kernel
theorem d_La_law_822 : decode M_La_law.1 822 = .ok (.iaload, 1) := by decide +kernel
theorem d_La_law_823 : decode M_La_law.1 823 = .ok (.invokevirtual 122, 3) := by decide +kernel
theorem d_La_law_826 : decode M_La_law.1 826 = .ok (.aload_n 2, 1) := by decide +kernel
theorem d_La_law_827 : decode M_La_law.1 827 = .ok (.aload_n 0, 1) := by decide +kernel
theorem d_La_law_828 : decode M_La_law.1 828 = .ok (.iload_n 3, 1) := by decide +kernel
theorem d_La_law_829 : decode M_La_law.1 829 = .ok (.iconst 1, 1) := by decide +kernel
theorem d_La_law_830 : decode M_La_law.1 830 = .ok (.iadd, 1) := by decide +kernel
theorem d_La_law_831 : decode M_La_law.1 831 = .ok (.iaload, 1) := by decide +kernel
theorem d_La_law_832 : decode M_La_law.1 832 = .ok (.invokevirtual 125, 3) := by decide +kernel
theorem d_La_law_835 : decode M_La_law.1 835 = .ok (.if_icmp .eq 65, 3) := by decide +kernel
theorem d_La_law_838 : decode M_La_law.1 838 = .ok (.iconst 0, 1) := by decide +kernel
theorem d_La_law_839 : decode M_La_law.1 839 = .ok (.ireturn, 1) := by decide +kernel
theorem d_La_law_840 : decode M_La_law.1 840 = .ok (.aload_n 1, 1) := by decide +kernel
theorem d_La_law_841 : decode M_La_law.1 841 = .ok (.aload_n 0, 1) := by decide +kernel
theorem d_La_law_842 : decode M_La_law.1 842 = .ok (.iload_n 3, 1) := by decide +kernel
theorem d_La_law_843 : decode M_La_law.1 843 = .ok (.iconst 1, 1) := by decide +kernel
theorem d_La_law_844 : decode M_La_law.1 844 = .ok (.iadd, 1) := by decide +kernel
theorem d_La_law_845 : decode M_La_law.1 845 = .ok (.iaload, 1) := by decide +kernel
theorem d_La_law_846 : decode M_La_law.1 846 = .ok (.invokevirtual 126, 3) := by decide +kernel
theorem d_La_law_849 : decode M_La_law.1 849 = .ok (.aload_n 2, 1) := by decide +kernel
theorem d_La_law_850 : decode M_La_law.1 850 = .ok (.aload_n 0, 1) := by decide +kernel
theorem d_La_law_851 : decode M_La_law.1 851 = .ok (.iload_n 3, 1) := by decide +kernel
theorem d_La_law_852 : decode M_La_law.1 852 = .ok (.iconst 1, 1) := by decide +kernel
theorem d_La_law_853 : decode M_La_law.1 853 = .ok (.iadd, 1) := by decide +kernel
theorem d_La_law_854 : decode M_La_law.1 854 = .ok (.iaload, 1) := by decide +kernel
theorem d_La_law_855 : decode M_La_law.1 855 = .ok (.invokevirtual 129, 3) := by decide +kernel
theorem d_La_law_858 : decode M_La_law.1 858 = .ok (.if_icmp .eq 42, 3) := by decide +kernel
theorem d_La_law_861 : decode M_La_law.1 861 = .ok (.iconst 0, 1) := by decide +kernel
theorem d_La_law_862 : decode M_La_law.1 862 = .ok (.ireturn, 1) := by decide +kernel
theorem d_La_law_863 : decode M_La_law.1 863 = .ok (.aload_n 1, 1) := by decide +kernel
theorem d_La_law_864 : decode M_La_law.1 864 = .ok (.aload_n 0, 1) := by decide +kernel
theorem d_La_law_865 : decode M_La_law.1 865 = .ok (.iload_n 3, 1) := by decide +kernel
theorem d_La_law_866 : decode M_La_law.1 866 = .ok (.iconst 1, 1) := by decide +kernel
theorem d_La_law_867 : decode M_La_law.1 867 = .ok (.iadd, 1) := by decide +kernel
theorem d_La_law_868 : decode M_La_law.1 868 = .ok (.iaload, 1) := by decide +kernel
theorem d_La_law_869 : decode M_La_law.1 869 = .ok (.invokevirtual 130, 3) := by decide +kernel
theorem d_La_law_872 : decode M_La_law.1 872 = .ok (.aload_n 2, 1) := by decide +kernel
theorem d_La_law_873 : decode M_La_law.1 873 = .ok (.aload_n 0, 1) := by decide +kernel
theorem d_La_law_874 : decode M_La_law.1 874 = .ok (.iload_n 3, 1) := by decide +kernel
theorem d_La_law_875 : decode M_La_law.1 875 = .ok (.iconst 1, 1) := by decide +kernel
theorem d_La_law_876 : decode M_La_law.1 876 = .ok (.iadd, 1) := by decide +kernel
theorem d_La_law_877 : decode M_La_law.1 877 = .ok (.iaload, 1) := by decide +kernel
theorem d_La_law_878 : decode M_La_law.1 878 = .ok (.invokevirtual 133, 3) := by decide +kernel
theorem d_La_law_881 : decode M_La_law.1 881 = .ok (.if_icmp .eq 19, 3) := by decide +kernel
theorem d_La_law_884 : decode M_La_law.1 884 = .ok (.iconst 0, 1) := by decide +kernel
theorem d_La_law_885 : decode M_La_law.1 885 = .ok (.ireturn, 1) := by decide +kernel
theorem d_La_law_886 : decode M_La_law.1 886 = .ok (.aload_n 1, 1) := by decide +kernel
theorem d_La_law_887 : decode M_La_law.1 887 = .ok (.invokevirtual 134, 3) := by decide +kernel
theorem d_La_law_890 : decode M_La_law.1 890 = .ok (.aload_n 2, 1) := by decide +kernel
theorem d_La_law_891 : decode M_La_law.1 891 = .ok (.invokevirtual 138, 3) := by decide +kernel
theorem d_La_law_894 : decode M_La_law.1 894 = .ok (.lcmp, 1) := by decide +kernel
theorem d_La_law_895 : decode M_La_law.1 895 = .ok (.ifCond .eq 5, 3) := by decide +kernel
theorem d_La_law_898 : decode M_La_law.1 898 = .ok (.iconst 0, 1) := by decide +kernel
theorem d_La_law_899 : decode M_La_law.1 899 = .ok (.ireturn, 1) := by decide +kernel
theorem d_La_law_900 : decode M_La_law.1 900 = .ok (.iinc 3 6, 3) := by decide +kernel
theorem d_La_law_903 : decode M_La_law.1 903 = .ok (.goto (-885), 3) := by decide +kernel
theorem d_La_law_906 : decode M_La_law.1 906 = .ok (.iconst 1, 1) := by decide +kernel
theorem d_La_law_907 : decode M_La_law.1 907 = .ok (.ireturn, 1) := by decide +kernel
end
section
/-! ===== what an abstract state is, and how a heap holds it ===== -/
/-- the launch, the script's address, where new cells begin; the script; where classes and fields lie; the array classes -/
abbrev Cx : Type := (Launch × Nat × Nat) × (Nat × (Nat → Int32)) × va_G × (ClassId × ClassId × ClassId)
/-- how many cells, their kinds and lengths, their references -/
abbrev Sh : Type := Nat × (Nat → Nat × Nat) × (Nat → Nat → Option Nat)
abbrev MemI : Type := Nat → Nat → Int32
abbrev MemJ : Type := Nat → Nat → Int64
abbrev PQ : Type := Option Value → Sh → MemI → MemJ → Prop
def ad (Γ : Cx) (i : Nat) : Nat := match i with
  | 0 => Γ.1.2.1
  | i + 1 => Γ.1.2.2 + i
def cv (Γ : Cx) (v : Value) : Value := match v with
  | .ref i => .ref (ad Γ i)
  | w => w
def tyC (ci : Nat) : Nat → FieldType := match ci with
  | 0 => tyX0
  | 1 => tyX1
  | 2 => tyX2
  | 3 => tyX3
  | 4 => tyX4
  | _ => tyX5
def nC (ci : Nat) : Nat := match ci with
  | 0 => 9
  | 1 => 3
  | 2 => 9
  | 3 => 7
  | 4 => 14
  | _ => 17
def fv (Γ : Cx) (ty : FieldType) (i : Int32) (j : Int64) (r : Option Nat) : Value := match ty with
  | .long => .long j
  | .object _ => va_rf (r.map (ad Γ))
  | .array _ => va_rf (r.map (ad Γ))
  | _ => .int i
def fsOf (Γ : Cx) (S : Sh) (I : MemI) (J : MemJ) (ci a : Nat) : List Value := (List.range (nC ci)).map fun k => fv Γ (tyC ci k) (I a k) (J a k) (S.2.2 a k)
def cE (Γ : Cx) (S : Sh) (I : MemI) (J : MemJ) (a : Nat) : va_E :=
  if (S.2.1 a).1 = 10 then .inl (Γ.2.2.2.1, (S.2.1 a).2, .inl (I a))
  else if (S.2.1 a).1 = 11 then .inl (Γ.2.2.2.2.1, (S.2.1 a).2, .inl (I a))
  else if (S.2.1 a).1 = 12 then .inl (Γ.2.2.2.2.2, (S.2.1 a).2, .inr (.inr (.inr (.inr (fun k => (S.2.2 a k).map (ad Γ))))))
  else .inr ((S.2.1 a).1, fsOf Γ S I J (S.2.1 a).1 a)
def wsOf (Γ : Cx) (S : Sh) (I : MemI) (J : MemJ) : va_W := (List.range S.1).map fun i => (Γ.1.2.2 + i, cE Γ S I J (i + 1))
def Rel (Γ : Cx) (S : Sh) (I : MemI) (J : MemJ) (H : Heap) : Prop := H.size = Γ.1.2.2 + S.1 ∧ va_P Γ.2.2.1 vwCl (wsOf Γ S I J) H
def AF (Γ : Cx) : Nat → Prop := fun q => Γ.1.2.2 ≤ q
/-- a cell of a kind; an array of a kind and a length -/
def kd (S : Sh) (a c : Nat) : Prop := 0 < a ∧ a ≤ S.1 ∧ (S.2.1 a).1 = c
def ar (S : Sh) (a c n : Nat) : Prop := 0 < a ∧ a ≤ S.1 ∧ S.2.1 a = (c, n)
def up2 (I : MemI) (a k : Nat) (v : Int32) : MemI := fun x y => if x = a ∧ y = k then v else I x y
def upJ (J : MemJ) (a k : Nat) (v : Int64) : MemJ := fun x y => if x = a ∧ y = k then v else J x y
def upP (S : Sh) (a k b : Nat) : Sh := (S.1, S.2.1, fun x y => if x = a ∧ y = k then some b else S.2.2 x y)
/-- a new cell -/
def nwS (S : Sh) (c n : Nat) : Sh := (S.1 + 1, (fun x => if x = S.1 + 1 then (c, n) else S.2.1 x), fun x y => if x = S.1 + 1 then none else S.2.2 x y)
def nwI (S : Sh) (I : MemI) : MemI := fun x y => if x = S.1 + 1 then 0 else I x y
def nwJ (S : Sh) (J : MemJ) : MemJ := fun x y => if x = S.1 + 1 then 0 else J x y
theorem ad_s (Γ : Cx) (i : Nat) : ad Γ (i + 1) = Γ.1.2.2 + i := rfl
theorem wsOf_get {Γ : Cx} {S : Sh} {I : MemI} {J : MemJ} {i : Nat} (h : i < S.1) : (wsOf Γ S I J)[i]? = some (ad Γ (i + 1), cE Γ S I J (i + 1)) := by
  simp [wsOf, ad, h]
theorem wsOf_len {Γ : Cx} {S : Sh} {I : MemI} {J : MemJ} : (wsOf Γ S I J).length = S.1 := by simp [wsOf]
theorem wsOf_some {Γ : Cx} {S : Sh} {I : MemI} {J : MemJ} {i : Nat} {q : Nat × va_E} (h : (wsOf Γ S I J)[i]? = some q) : i < S.1 ∧ q = (ad Γ (i + 1), cE Γ S I J (i + 1)) := by
  have hl : i < S.1 := by
    have := (List.getElem?_eq_some_iff.mp h).1
    rwa [wsOf_len] at this
  rw [wsOf_get hl] at h
  exact ⟨hl, (Option.some.inj h).symm⟩
theorem wsOf_D {Γ : Cx} {S : Sh} {I : MemI} {J : MemJ} : va_D (AF Γ) (wsOf Γ S I J) := by
  refine ⟨fun i j p q hp hq he => ?_, fun k q hq => ?_⟩
  · obtain ⟨-, rfl⟩ := wsOf_some hp
    obtain ⟨-, rfl⟩ := wsOf_some hq
    simp only [ad_s] at he
    omega
  · obtain ⟨-, rfl⟩ := wsOf_some hq
    simp only [ad_s, AF]
    omega
theorem wsOf_set {Γ : Cx} {S S' : Sh} {I I' : MemI} {J J' : MemJ} {i : Nat} {E : va_E} (h1 : S'.1 = S.1) (hE : cE Γ S' I' J' (i + 1) = E) (ho : ∀ b, b ≠ i + 1 → cE Γ S' I' J' b = cE Γ S I J b) : (wsOf Γ S I J).set i (ad Γ (i + 1), E) = wsOf Γ S' I' J' := by
  apply List.ext_getElem?
  intro j
  by_cases hj : j < S.1
  · rw [wsOf_get (by rw [h1]; exact hj)]
    by_cases hi : i = j
    · subst hi
      rw [List.getElem?_set_self (by rw [wsOf_len]; exact hj), hE]
    · rw [List.getElem?_set_ne hi, wsOf_get hj, ho (j + 1) (by omega)]
  · rw [List.getElem?_eq_none (by rw [List.length_set, wsOf_len]; omega), List.getElem?_eq_none (by rw [wsOf_len]; omega)]
theorem fsOf_get {Γ : Cx} {S : Sh} {I : MemI} {J : MemJ} {ci a k : Nat} (h : k < nC ci) : (fsOf Γ S I J ci a)[k]? = some (fv Γ (tyC ci k) (I a k) (J a k) (S.2.2 a k)) := by
  simp [fsOf, h]
theorem fsOf_len {Γ : Cx} {S : Sh} {I : MemI} {J : MemJ} {ci a : Nat} : (fsOf Γ S I J ci a).length = nC ci := by simp [fsOf]
theorem fsOf_set {Γ : Cx} {S S' : Sh} {I I' : MemI} {J J' : MemJ} {ci a k : Nat} {v : Value} (hv : fv Γ (tyC ci k) (I' a k) (J' a k) (S'.2.2 a k) = v)
    (ho : ∀ y, y ≠ k → I' a y = I a y ∧ J' a y = J a y ∧ S'.2.2 a y = S.2.2 a y) : (fsOf Γ S I J ci a).set k v = fsOf Γ S' I' J' ci a := by
  apply List.ext_getElem?
  intro j
  by_cases hj : j < nC ci
  · rw [fsOf_get hj]
    by_cases hi : k = j
    · subst hi
      rw [List.getElem?_set_self (by rw [fsOf_len]; exact hj), hv]
    · obtain ⟨e1, e2, e3⟩ := ho j (fun q => hi q.symm)
      rw [List.getElem?_set_ne hi, fsOf_get hj, e1, e2, e3]
  · rw [List.getElem?_eq_none (by rw [List.length_set, fsOf_len]; omega), List.getElem?_eq_none (by rw [fsOf_len]; omega)]
theorem fsOf_congr {Γ : Cx} {S S' : Sh} {I I' : MemI} {J J' : MemJ} {ci a : Nat} (ho : ∀ y, I' a y = I a y ∧ J' a y = J a y ∧ S'.2.2 a y = S.2.2 a y) : fsOf Γ S' I' J' ci a = fsOf Γ S I J ci a := by
  unfold fsOf
  congr 1
  funext k
  obtain ⟨e1, e2, e3⟩ := ho k
  rw [e1, e2, e3]
theorem cE_congr {Γ : Cx} {S S' : Sh} {I I' : MemI} {J J' : MemJ} {a : Nat} (hk : S'.2.1 a = S.2.1 a) (ho : ∀ y, I' a y = I a y ∧ J' a y = J a y ∧ S'.2.2 a y = S.2.2 a y) : cE Γ S' I' J' a = cE Γ S I J a := by
  unfold cE
  rw [hk, fsOf_congr ho]
  have e1 : I' a = I a := funext fun y => (ho y).1
  have e2 : (fun k => (S'.2.2 a k).map (ad Γ)) = (fun k => (S.2.2 a k).map (ad Γ)) := funext fun y => by rw [(ho y).2.2]
  rw [e1, e2]
theorem cE_int {Γ : Cx} {S : Sh} {I : MemI} {J : MemJ} {a n : Nat} (h : S.2.1 a = (10, n)) : cE Γ S I J a = .inl (Γ.2.2.2.1, n, .inl (I a)) := by simp [cE, h]
theorem cE_bool {Γ : Cx} {S : Sh} {I : MemI} {J : MemJ} {a n : Nat} (h : S.2.1 a = (11, n)) : cE Γ S I J a = .inl (Γ.2.2.2.2.1, n, .inl (I a)) := by simp [cE, h]
theorem cE_ref {Γ : Cx} {S : Sh} {I : MemI} {J : MemJ} {a n : Nat} (h : S.2.1 a = (12, n)) : cE Γ S I J a = .inl (Γ.2.2.2.2.2, n, .inr (.inr (.inr (.inr (fun k => (S.2.2 a k).map (ad Γ)))))) := by simp [cE, h]
theorem cE_obj {Γ : Cx} {S : Sh} {I : MemI} {J : MemJ} {a ci : Nat} (h : (S.2.1 a).1 = ci) (hc : ci < 6) : cE Γ S I J a = .inr (ci, fsOf Γ S I J ci a) := by
  unfold cE
  rw [h, if_neg (by omega), if_neg (by omega), if_neg (by omega)]
theorem ci_lt {ci : Nat} {q : vw_C} (h : vwCl[ci]? = some q) : ci < 6 := (List.getElem?_eq_some_iff.mp h).1
set_option maxRecDepth 100000 in
theorem clOK : ∀ (ci : Nat) (q : vw_C), vwCl[ci]? = some q → (∀ w ∈ u_ws q.1 q.2.1 q.2.2, w ∈ WS) ∧ q.2.2 = nC ci ∧ (∀ k, k < q.2.2 → parseFieldDescriptor (q.2.1 k).2.2.1 = some (tyC ci k)) ∧ (∀ a, a < q.2.2 → ∀ b, b < q.2.2 → a ≠ b → (q.2.1 a).2.1 ≠ (q.2.1 b).2.1) := by
  intro ci q h
  match ci, h with
  | 0, h => cases h; exact ⟨by decide +kernel, rfl, tyX0_ok, nmX0⟩
  | 1, h => cases h; exact ⟨by decide +kernel, rfl, tyX1_ok, nmX1⟩
  | 2, h => cases h; exact ⟨by decide +kernel, rfl, tyX2_ok, nmX2⟩
  | 3, h => cases h; exact ⟨by decide +kernel, rfl, tyX3_ok, nmX3⟩
  | 4, h => cases h; exact ⟨by decide +kernel, rfl, tyX4_ok, nmX4⟩
  | 5, h => cases h; exact ⟨by decide +kernel, rfl, tyX5_ok, nmX5⟩
  | ci + 6, h => exact absurd (ci_lt h) (by omega)
def okTy (t : FieldType) : Bool := match t with
  | .int => true
  | .boolean => true
  | .long => true
  | .object _ => true
  | .array _ => true
  | _ => false
theorem tyC_ok : ∀ ci, ci < 6 → ∀ k, k < nC ci → okTy (tyC ci k) = true := by decide +kernel
theorem fv_def {Γ : Cx} {t : FieldType} (h : okTy t = true) : defaultValue t = fv Γ t 0 0 none := by
  cases t <;> first | rfl | simp [okTy] at h
theorem Rel.at {Γ : Cx} {S : Sh} {I : MemI} {J : MemJ} {H : Heap} (h : Rel Γ S I J H) {i : Nat} (hi : i < S.1) : va_at Γ.2.2.1 vwCl (ad Γ (i + 1), cE Γ S I J (i + 1)) H := h.2 i _ (wsOf_get hi)
theorem Rel.push {Γ : Cx} {S S' : Sh} {I I' : MemI} {J J' : MemJ} {H H1 : Heap} (h : Rel Γ S I J H) (hs : S'.1 = S.1 + 1) (hz : H1.size = H.size + 1) (hk : ∀ q, q < H.size → H1[q]? = H[q]?)
    (ho : ∀ b, b ≠ S.1 + 1 → cE Γ S' I' J' b = cE Γ S I J b) (hn : va_at Γ.2.2.1 vwCl (H.size, cE Γ S' I' J' (S.1 + 1)) H1) : Rel Γ S' I' J' H1 := by
  refine ⟨by rw [hz, h.1, hs]; omega, fun k q hq => ?_⟩
  obtain ⟨hl, rfl⟩ := wsOf_some hq
  by_cases e : k = S.1
  · subst e
    rw [ad_s, ← h.1]
    exact hn
  · have hl' : k < S.1 := by omega
    rw [ho (k + 1) (by omega)]
    refine (h.at hl').kept (hk _ ?_)
    show ad Γ (k + 1) < H.size
    rw [ad_s, h.1]
    omega
/-- another way to say the same heap -/
theorem Rel.conv {Γ : Cx} {S S' : Sh} {I I' : MemI} {J J' : MemJ} {H : Heap} (h : Rel Γ S I J H) (hs : S'.1 = S.1) (ho : ∀ b, 0 < b → b ≤ S.1 → cE Γ S' I' J' b = cE Γ S I J b) : Rel Γ S' I' J' H := by
  refine ⟨by rw [h.1, hs], fun k q hq => ?_⟩
  obtain ⟨hl, rfl⟩ := wsOf_some hq
  rw [ho (k + 1) (by omega) (by omega)]
  exact h.at (by omega)
end
section
/-! ===== the judgement: from an abstract state in a method's body the machine comes to the method's end, with Q ===== -/
def NS (U : State) : Prop := ∀ (a : String) (i : Nat) (x : MethodName) (h : String), Cond.methodLinkNest a i x h ∈ tables_1 → va_Nw (.methodLinkNest a i x h) U
def tysOf (Γ : Cx) : List (ClassId × FieldType) := [(Γ.2.2.2.1, .int), (Γ.2.2.2.2.1, .boolean), (Γ.2.2.2.2.2, .object RX3)]
def SR (Γ : Cx) (U : State) : Prop := va_K Γ.2.2.1 vwCl (tysOf Γ) U ∧ NS U ∧ va_AO RX3 U ∧ va_X Γ.1.2.1 Γ.2.1.1 Γ.2.1.2 U U.heap ∧ Γ.1.2.1 < Γ.1.2.2 ∧ Γ.1.2.2 ≤ U.heap.size
def CT (Γ : Cx) (M : MI) (p : Program) (s : State) (m : MethodId) (args : Array Value) (meth : Method) (c : Code) : Prop :=
  p.tables.exec = Jvm.exec ∧ c.code = M.1 ∧ c.maxLocals = M.2.2.1 ∧ s.vm.findClass M.2.1 = some m.cls ∧ (∀ w ∈ WS, w.before args s = true) ∧ SR Γ s ∧ (M.2.2.2.2.2.name = "<init>" → meth.name = "<init>")
def RT (M : MI) (r : Option Value) (pc : Nat) : Prop := match r with
  | none => decode M.1 pc = .ok (.return_, 1) ∧ M.2.2.2.1 = none
  | some (.int v) => decode M.1 pc = .ok (.ireturn, 1) ∧ ∃ ty, M.2.2.2.1 = some ty ∧ narrow ty (.int v) = .int v
  | some (.long _) => decode M.1 pc = .ok (.lreturn, 1) ∧ M.2.2.2.1 = some .long
  | _ => False
def EN (Γ : Cx) (M : MI) (p : Program) (e : Env) (s : State) (m : MethodId) (args : Array Value) (below : List Frame) (meth : Method) (c : Code) (Q : PQ) (Z : State → Prop) : Prop :=
  ∀ (r : Option Value) (S : Sh) (I : MemI) (J : MemJ), Q r S I J → ∀ (H : Heap) (locs : List Loc) (cells slots : Nat) (lr : Array Slot) (pc : Nat), Rel Γ S I J H → va_S (AF Γ) s.heap H locs → cells ≤ M.2.2.2.2.1.cells → slots ≤ M.2.2.2.2.1.slots → RT M r pc →
    W p Γ.1.1 e M.2.2.2.2.1 s m args below meth c H locs cells slots Z (F0 m pc lr (r.toList.map (cv Γ)))
def LR (Γ : Cx) (lr : Array Slot) (n : Nat) (ls : List Value) : Prop := ∃ l, lv_has lr n l ∧ ∀ (i : Nat) (v : Value), ls[i]? = some v → v ≠ .null → (i, cv Γ v) ∈ l
def WP (Γ : Cx) (M : MI) (B : Nat × Nat) (S : Sh) (I : MemI) (J : MemJ) (pc : Nat) (ls st : List Value) (Q : PQ) : Prop :=
  ∀ (p : Program) (e : Env) (s : State) (m : MethodId) (args : Array Value) (below : List Frame) (meth : Method) (c : Code) (Z : State → Prop), CT Γ M p s m args meth c → EN Γ M p e s m args below meth c Q Z →
    ∀ (H : Heap) (locs : List Loc) (cells slots : Nat) (lr : Array Slot), Rel Γ S I J H → va_S (AF Γ) s.heap H locs → cells + B.1 ≤ M.2.2.2.2.1.cells → slots + B.2 ≤ M.2.2.2.2.1.slots → LR Γ lr M.2.2.1 ls →
    W p Γ.1.1 e M.2.2.2.2.1 s m args below meth c H locs cells slots Z (F0 m pc lr (st.map (cv Γ)))
theorem LR.get {Γ : Cx} {lr : Array Slot} {n i : Nat} {ls : List Value} {v : Value} (h : LR Γ lr n ls) (hi : ls[i]? = some v) (hv : v ≠ .null) : lr[i]? = some (.val (cv Γ v)) := by
  obtain ⟨l, h1, h2⟩ := h
  exact h1.2.2 (i, cv Γ v) (h2 i v hi hv)
theorem LR.size {Γ : Cx} {lr : Array Slot} {n : Nat} {ls : List Value} (h : LR Γ lr n ls) : lr.size = n := by
  obtain ⟨l, h1, -⟩ := h
  exact h1.1
theorem cv_cat (Γ : Cx) (v : Value) : (cv Γ v).category = v.category := by cases v <;> rfl
section RU
variable {Γ : Cx} {M : MI} {B : Nat × Nat} {S : Sh} {I : MemI} {J : MemJ} {pc : Nat} {ls st : List Value} {Q : PQ}
theorem p_post {Q' : PQ} (hQ : ∀ r S I J, Q' r S I J → Q r S I J) (k : WP Γ M B S I J pc ls st Q') : WP Γ M B S I J pc ls st Q :=
  fun p e s m args below meth c Z C E => k p e s m args below meth c Z C (fun r S I J h => E r S I J (hQ r S I J h))
theorem p_conv {S' : Sh} {I' : MemI} {J' : MemJ} (hs : S'.1 = S.1) (ho : ∀ Γ : Cx, ∀ b, 0 < b → b ≤ S.1 → cE Γ S' I' J' b = cE Γ S I J b) (k : WP Γ M B S' I' J' pc ls st Q) : WP Γ M B S I J pc ls st Q :=
  fun p e s m args below meth c Z C E H locs cells slots lr hR => k p e s m args below meth c Z C E H locs cells slots lr (hR.conv hs (ho Γ))
theorem p_B {B' : Nat × Nat} (h1 : B'.1 ≤ B.1) (h2 : B'.2 ≤ B.2) (k : WP Γ M B' S I J pc ls st Q) : WP Γ M B S I J pc ls st Q :=
  fun p e s m args below meth c Z C E H locs cells slots lr hR hS hc hs => k p e s m args below meth c Z C E H locs cells slots lr hR hS (by omega) (by omega)
/-- the end -/
theorem p_iret {v : Int32} {ty : FieldType} (hd : decode M.1 pc = .ok (.ireturn, 1)) (ht : M.2.2.2.1 = some ty) (hn : narrow ty (.int v) = .int v) (hQ : Q (some (.int v)) S I J) : WP Γ M B S I J pc ls [.int v] Q :=
  fun _ _ _ _ _ _ _ _ _ _ E H locs cells slots lr hR hS hc hs _ => E _ _ _ _ hQ H locs cells slots lr pc hR hS (by omega) (by omega) ⟨hd, ty, ht, hn⟩
theorem p_lret {v : Int64} (hd : decode M.1 pc = .ok (.lreturn, 1)) (ht : M.2.2.2.1 = some .long) (hQ : Q (some (.long v)) S I J) : WP Γ M B S I J pc ls [.long v] Q :=
  fun _ _ _ _ _ _ _ _ _ _ E H locs cells slots lr hR hS hc hs _ => E _ _ _ _ hQ H locs cells slots lr pc hR hS (by omega) (by omega) ⟨hd, ht⟩
theorem p_ret (hd : decode M.1 pc = .ok (.return_, 1)) (ht : M.2.2.2.1 = none) (hQ : Q none S I J) : WP Γ M B S I J pc ls [] Q :=
  fun _ _ _ _ _ _ _ _ _ _ E H locs cells slots lr hR hS hc hs _ => E _ _ _ _ hQ H locs cells slots lr pc hR hS (by omega) (by omega) ⟨hd, ht⟩
/-- constants -/
theorem p_iconst {n : Int} {v : Int32} (hd : decode M.1 pc = .ok (.iconst n, 1)) (hv : Int32.ofInt n = v) (k : WP Γ M B S I J (pc + 1) ls (.int v :: st) Q) : WP Γ M B S I J pc ls st Q :=
  fun p e s m args below meth c Z C E H locs cells slots lr hR hS hc hs hl => lv_iconst C.1 C.2.1 hd hv (k p e s m args below meth c Z C E H locs cells slots lr hR hS hc hs hl)
theorem p_bipush {n : Int} {v : Int32} (hd : decode M.1 pc = .ok (.bipush n, 2)) (hv : (Int8.ofInt n).toInt32 = v) (k : WP Γ M B S I J (pc + 2) ls (.int v :: st) Q) : WP Γ M B S I J pc ls st Q :=
  fun p e s m args below meth c Z C E H locs cells slots lr hR hS hc hs hl => lv_bipush C.1 C.2.1 hd hv (k p e s m args below meth c Z C E H locs cells slots lr hR hS hc hs hl)
theorem p_sipush {n : Int} {v : Int32} (hd : decode M.1 pc = .ok (.sipush n, 3)) (hv : (Int16.ofInt n).toInt32 = v) (k : WP Γ M B S I J (pc + 3) ls (.int v :: st) Q) : WP Γ M B S I J pc ls st Q :=
  fun p e s m args below meth c Z C E H locs cells slots lr hR hS hc hs hl => lv_sipush C.1 C.2.1 hd hv (k p e s m args below meth c Z C E H locs cells slots lr hR hS hc hs hl)
theorem p_lconst {n : Fin 2} {v : Int64} (hd : decode M.1 pc = .ok (.lconst n, 1)) (hv : Int64.ofNat (n : Nat) = v) (k : WP Γ M B S I J (pc + 1) ls (.long v :: st) Q) : WP Γ M B S I J pc ls st Q :=
  fun p e s m args below meth c Z C E H locs cells slots lr hR hS hc hs hl => lv_lconst C.1 C.2.1 hd hv (k p e s m args below meth c Z C E H locs cells slots lr hR hS hc hs hl)
theorem p_ldc {i : Nat} {v : Int32} (hd : decode M.1 pc = .ok (.ldc i, 2)) (hk : Cond.constant M.2.1 i v ∈ WS) (k : WP Γ M B S I J (pc + 2) ls (.int v :: st) Q) : WP Γ M B S I J pc ls st Q :=
  fun p e s m args below meth c Z C E H locs cells slots lr hR hS hc hs hl => lv_ldc C.1 C.2.1 C.2.2.2.1 (C.2.2.2.2.1 _ hk) hd (k p e s m args below meth c Z C E H locs cells slots lr hR hS hc hs hl)
theorem p_ldcw {i : Nat} {v : Int32} (hd : decode M.1 pc = .ok (.ldc_w i, 3)) (hk : Cond.constant M.2.1 i v ∈ WS) (k : WP Γ M B S I J (pc + 3) ls (.int v :: st) Q) : WP Γ M B S I J pc ls st Q :=
  fun p e s m args below meth c Z C E H locs cells slots lr hR hS hc hs hl => lv_ldcw C.1 C.2.1 C.2.2.2.1 (C.2.2.2.2.1 _ hk) hd (k p e s m args below meth c Z C E H locs cells slots lr hR hS hc hs hl)
theorem p_ldc2 {i : Nat} {v : Int64} (hd : decode M.1 pc = .ok (.ldc2_w i, 3)) (hk : Cond.constantLong M.2.1 i v ∈ WS) (k : WP Γ M B S I J (pc + 3) ls (.long v :: st) Q) : WP Γ M B S I J pc ls st Q :=
  fun p e s m args below meth c Z C E H locs cells slots lr hR hS hc hs hl => lv_ldc2 C.1 C.2.1 C.2.2.2.1 (C.2.2.2.2.1 _ hk) hd (k p e s m args below meth c Z C E H locs cells slots lr hR hS hc hs hl)
/-- loads -/
theorem p_iload_n {i : Fin 4} {x : Int32} (hd : decode M.1 pc = .ok (.iload_n i, 1)) (h : ls[(i : Nat)]? = some (.int x)) (k : WP Γ M B S I J (pc + 1) ls (.int x :: st) Q) : WP Γ M B S I J pc ls st Q :=
  fun p e s m args below meth c Z C E H locs cells slots lr hR hS hc hs hl => lv_iload_n C.1 C.2.1 hd rfl (hl.get h (fun q => by cases q)) (k p e s m args below meth c Z C E H locs cells slots lr hR hS hc hs hl)
theorem p_iload {i : Nat} {x : Int32} (hd : decode M.1 pc = .ok (.iload i, 2)) (h : ls[i]? = some (.int x)) (k : WP Γ M B S I J (pc + 2) ls (.int x :: st) Q) : WP Γ M B S I J pc ls st Q :=
  fun p e s m args below meth c Z C E H locs cells slots lr hR hS hc hs hl => lv_iload C.1 C.2.1 hd (hl.get h (fun q => by cases q)) (k p e s m args below meth c Z C E H locs cells slots lr hR hS hc hs hl)
theorem p_lload_n {i : Fin 4} {x : Int64} (hd : decode M.1 pc = .ok (.lload_n i, 1)) (h : ls[(i : Nat)]? = some (.long x)) (k : WP Γ M B S I J (pc + 1) ls (.long x :: st) Q) : WP Γ M B S I J pc ls st Q :=
  fun p e s m args below meth c Z C E H locs cells slots lr hR hS hc hs hl => lv_lload_n C.1 C.2.1 hd rfl (hl.get h (fun q => by cases q)) (k p e s m args below meth c Z C E H locs cells slots lr hR hS hc hs hl)
theorem p_lload {i : Nat} {x : Int64} (hd : decode M.1 pc = .ok (.lload i, 2)) (h : ls[i]? = some (.long x)) (k : WP Γ M B S I J (pc + 2) ls (.long x :: st) Q) : WP Γ M B S I J pc ls st Q :=
  fun p e s m args below meth c Z C E H locs cells slots lr hR hS hc hs hl => lv_lload C.1 C.2.1 hd (hl.get h (fun q => by cases q)) (k p e s m args below meth c Z C E H locs cells slots lr hR hS hc hs hl)
theorem p_aload_n {i : Fin 4} {x : Nat} (hd : decode M.1 pc = .ok (.aload_n i, 1)) (h : ls[(i : Nat)]? = some (.ref x)) (k : WP Γ M B S I J (pc + 1) ls (.ref x :: st) Q) : WP Γ M B S I J pc ls st Q :=
  fun p e s m args below meth c Z C E H locs cells slots lr hR hS hc hs hl => lv_aload_n C.1 C.2.1 hd rfl (hl.get h (fun q => by cases q)) (k p e s m args below meth c Z C E H locs cells slots lr hR hS hc hs hl)
theorem p_aload {i : Nat} {x : Nat} (hd : decode M.1 pc = .ok (.aload i, 2)) (h : ls[i]? = some (.ref x)) (k : WP Γ M B S I J (pc + 2) ls (.ref x :: st) Q) : WP Γ M B S I J pc ls st Q :=
  fun p e s m args below meth c Z C E H locs cells slots lr hR hS hc hs hl => lv_aload C.1 C.2.1 hd (hl.get h (fun q => by cases q)) (k p e s m args below meth c Z C E H locs cells slots lr hR hS hc hs hl)
/-- stores: the slot ahead holds no long -/
def clr (ls : List Value) (i : Nat) : Prop := ∀ v, ls[i - 1]? = some v → 0 < i → v.category = 1
theorem LR.set1 {Γ : Cx} {lr lr' : Array Slot} {n i : Nat} {ls : List Value} {v : Value} {l : List (Nat × Value)} (hc : clr ls i) (h2 : ∀ (j : Nat) (w : Value), ls[j]? = some w → w ≠ .null → (j, cv Γ w) ∈ l)
    (h : lv_has lr' n ((i, cv Γ v) :: l.filter (fun q => !(q.1 == i) && !(q.1 + 1 == i && q.2.category == 2)))) : LR Γ lr' n (ls.set i v) := by
  refine ⟨_, h, fun j w hj hw => ?_⟩
  by_cases e : i = j
  · subst e
    have hl : i < ls.length := by
      have := (List.getElem?_eq_some_iff.mp hj).1
      rwa [List.length_set] at this
    rw [List.getElem?_set_self hl] at hj
    cases hj
    exact List.mem_cons_self
  · rw [List.getElem?_set_ne e] at hj
    refine List.mem_cons_of_mem _ (List.mem_filter.mpr ⟨h2 j w hj hw, ?_⟩)
    have e1 : (j == i) = false := by simp; omega
    by_cases e2 : j + 1 = i
    · have := hc w (by rw [show i - 1 = j by omega]; exact hj) (by omega)
      simp [e1, cv_cat, this]
    · have e3 : (j + 1 == i) = false := by simp; omega
      simp [e1, e3]
theorem LR.set2 {Γ : Cx} {lr lr' : Array Slot} {n i : Nat} {ls : List Value} {v : Value} {l : List (Nat × Value)} (hc : clr ls i) (h2 : ∀ (j : Nat) (w : Value), ls[j]? = some w → w ≠ .null → (j, cv Γ w) ∈ l)
    (h : lv_has lr' n ((i, cv Γ v) :: l.filter (fun q => !(q.1 == i) && (!(q.1 == i + 1) && !(q.1 + 1 == i && q.2.category == 2))))) : LR Γ lr' n ((ls.set i v).set (i + 1) .null) := by
  refine ⟨_, h, fun j w hj hw => ?_⟩
  by_cases e0 : i + 1 = j
  · subst e0
    have hl : i + 1 < (ls.set i v).length := by
      have := (List.getElem?_eq_some_iff.mp hj).1
      rwa [List.length_set] at this
    rw [List.getElem?_set_self hl] at hj
    cases hj
    exact absurd rfl hw
  rw [List.getElem?_set_ne e0] at hj
  by_cases e : i = j
  · subst e
    have hl : i < ls.length := by
      have := (List.getElem?_eq_some_iff.mp hj).1
      rwa [List.length_set] at this
    rw [List.getElem?_set_self hl] at hj
    cases hj
    exact List.mem_cons_self
  · rw [List.getElem?_set_ne e] at hj
    refine List.mem_cons_of_mem _ (List.mem_filter.mpr ⟨h2 j w hj hw, ?_⟩)
    have e1 : (j == i) = false := by simp; omega
    have e4 : (j == i + 1) = false := by simp; omega
    by_cases e2 : j + 1 = i
    · have := hc w (by rw [show i - 1 = j by omega]; exact hj) (by omega)
      simp [e1, e4, cv_cat, this]
    · have e3 : (j + 1 == i) = false := by simp; omega
      simp [e1, e4, e3]
theorem p_istore_n {i : Fin 4} {x : Int32} (hd : decode M.1 pc = .ok (.istore_n i, 1)) (hn : (i : Nat) < M.2.2.1) (hc : clr ls i) (k : WP Γ M B S I J (pc + 1) (ls.set i (.int x)) st Q) : WP Γ M B S I J pc ls (.int x :: st) Q :=
  fun p e s m args below meth c Z C E H locs cells slots lr hR hS hc1 hs hl => by
    obtain ⟨l, h1, h2⟩ := hl
    exact lv_istore_n C.1 C.2.1 hd rfl h1 hn rfl (fun lr' hl' => k p e s m args below meth c Z C E H locs cells slots lr' hR hS hc1 hs (LR.set1 (lr := lr) (v := .int x) hc h2 hl'))
theorem p_istore {i : Nat} {x : Int32} (hd : decode M.1 pc = .ok (.istore i, 2)) (hn : i < M.2.2.1) (hc : clr ls i) (k : WP Γ M B S I J (pc + 2) (ls.set i (.int x)) st Q) : WP Γ M B S I J pc ls (.int x :: st) Q :=
  fun p e s m args below meth c Z C E H locs cells slots lr hR hS hc1 hs hl => by
    obtain ⟨l, h1, h2⟩ := hl
    exact lv_istore C.1 C.2.1 hd h1 hn rfl (fun lr' hl' => k p e s m args below meth c Z C E H locs cells slots lr' hR hS hc1 hs (LR.set1 (lr := lr) (v := .int x) hc h2 hl'))
theorem p_astore_n {i : Fin 4} {x : Nat} (hd : decode M.1 pc = .ok (.astore_n i, 1)) (hn : (i : Nat) < M.2.2.1) (hc : clr ls i) (k : WP Γ M B S I J (pc + 1) (ls.set i (.ref x)) st Q) : WP Γ M B S I J pc ls (.ref x :: st) Q :=
  fun p e s m args below meth c Z C E H locs cells slots lr hR hS hc1 hs hl => by
    obtain ⟨l, h1, h2⟩ := hl
    exact lv_astore_n C.1 C.2.1 hd rfl h1 hn rfl (fun lr' hl' => k p e s m args below meth c Z C E H locs cells slots lr' hR hS hc1 hs (LR.set1 (lr := lr) (v := .ref x) hc h2 hl'))
theorem p_lstore_n {i : Fin 4} {x : Int64} (hd : decode M.1 pc = .ok (.lstore_n i, 1)) (hn : (i : Nat) + 1 < M.2.2.1) (hc : clr ls i) (k : WP Γ M B S I J (pc + 1) ((ls.set i (.long x)).set (i + 1) .null) st Q) : WP Γ M B S I J pc ls (.long x :: st) Q :=
  fun p e s m args below meth c Z C E H locs cells slots lr hR hS hc1 hs hl => by
    obtain ⟨l, h1, h2⟩ := hl
    exact lv_lstore_n C.1 C.2.1 hd rfl h1 hn rfl (fun lr' hl' => k p e s m args below meth c Z C E H locs cells slots lr' hR hS hc1 hs (LR.set2 (lr := lr) (v := .long x) hc h2 hl'))
theorem p_lstore {i : Nat} {x : Int64} (hd : decode M.1 pc = .ok (.lstore i, 2)) (hn : i + 1 < M.2.2.1) (hc : clr ls i) (k : WP Γ M B S I J (pc + 2) ((ls.set i (.long x)).set (i + 1) .null) st Q) : WP Γ M B S I J pc ls (.long x :: st) Q :=
  fun p e s m args below meth c Z C E H locs cells slots lr hR hS hc1 hs hl => by
    obtain ⟨l, h1, h2⟩ := hl
    exact lv_lstore C.1 C.2.1 hd h1 hn rfl (fun lr' hl' => k p e s m args below meth c Z C E H locs cells slots lr' hR hS hc1 hs (LR.set2 (lr := lr) (v := .long x) hc h2 hl'))
theorem p_iinc {i : Nat} {n : Int} {x v : Int32} (hd : decode M.1 pc = .ok (.iinc i n, 3)) (hx : ls[i]? = some (.int x)) (hv : x + Int32.ofInt n = v) (hn : i < M.2.2.1) (hc : clr ls i) (k : WP Γ M B S I J (pc + 3) (ls.set i (.int v)) st Q) : WP Γ M B S I J pc ls st Q :=
  fun p e s m args below meth c Z C E H locs cells slots lr hR hS hc1 hs hl => by
    obtain ⟨l, h1, h2⟩ := hl
    obtain ⟨j, hj⟩ := List.getElem?_of_mem (h2 i _ hx (fun q => by cases q))
    exact lv_iinc C.1 C.2.1 hd h1 hj hv hn rfl (fun lr' hl' => k p e s m args below meth c Z C E H locs cells slots lr' hR hS hc1 hs (LR.set1 (lr := lr) (v := .int v) hc h2 hl'))
/-- arithmetic -/
theorem p_iadd {x y : Int32} (hd : decode M.1 pc = .ok (.iadd, 1)) (k : WP Γ M B S I J (pc + 1) ls (.int (x + y) :: st) Q) : WP Γ M B S I J pc ls (.int y :: .int x :: st) Q :=
  fun p e s m args below meth c Z C E H locs cells slots lr hR hS hc hs hl => lv_iadd C.1 C.2.1 hd (k p e s m args below meth c Z C E H locs cells slots lr hR hS hc hs hl)
theorem p_isub {x y : Int32} (hd : decode M.1 pc = .ok (.isub, 1)) (k : WP Γ M B S I J (pc + 1) ls (.int (x - y) :: st) Q) : WP Γ M B S I J pc ls (.int y :: .int x :: st) Q :=
  fun p e s m args below meth c Z C E H locs cells slots lr hR hS hc hs hl => lv_isub C.1 C.2.1 hd (k p e s m args below meth c Z C E H locs cells slots lr hR hS hc hs hl)
theorem p_imul {x y : Int32} (hd : decode M.1 pc = .ok (.imul, 1)) (k : WP Γ M B S I J (pc + 1) ls (.int (x * y) :: st) Q) : WP Γ M B S I J pc ls (.int y :: .int x :: st) Q :=
  fun p e s m args below meth c Z C E H locs cells slots lr hR hS hc hs hl => lv_imul C.1 C.2.1 hd (k p e s m args below meth c Z C E H locs cells slots lr hR hS hc hs hl)
theorem p_iand {x y : Int32} (hd : decode M.1 pc = .ok (.iand, 1)) (k : WP Γ M B S I J (pc + 1) ls (.int (x &&& y) :: st) Q) : WP Γ M B S I J pc ls (.int y :: .int x :: st) Q :=
  fun p e s m args below meth c Z C E H locs cells slots lr hR hS hc hs hl => lv_iand C.1 C.2.1 hd (k p e s m args below meth c Z C E H locs cells slots lr hR hS hc hs hl)
theorem p_ior {x y : Int32} (hd : decode M.1 pc = .ok (.ior, 1)) (k : WP Γ M B S I J (pc + 1) ls (.int (x ||| y) :: st) Q) : WP Γ M B S I J pc ls (.int y :: .int x :: st) Q :=
  fun p e s m args below meth c Z C E H locs cells slots lr hR hS hc hs hl => lv_ior C.1 C.2.1 hd (k p e s m args below meth c Z C E H locs cells slots lr hR hS hc hs hl)
theorem p_ixor {x y : Int32} (hd : decode M.1 pc = .ok (.ixor, 1)) (k : WP Γ M B S I J (pc + 1) ls (.int (x ^^^ y) :: st) Q) : WP Γ M B S I J pc ls (.int y :: .int x :: st) Q :=
  fun p e s m args below meth c Z C E H locs cells slots lr hR hS hc hs hl => lv_ixor C.1 C.2.1 hd (k p e s m args below meth c Z C E H locs cells slots lr hR hS hc hs hl)
theorem p_idiv {x y : Int32} (hd : decode M.1 pc = .ok (.idiv, 1)) (hy : ¬ y = 0) (k : WP Γ M B S I J (pc + 1) ls (.int (x / y) :: st) Q) : WP Γ M B S I J pc ls (.int y :: .int x :: st) Q :=
  fun p e s m args below meth c Z C E H locs cells slots lr hR hS hc hs hl => lv_idiv C.1 C.2.1 hd hy (k p e s m args below meth c Z C E H locs cells slots lr hR hS hc hs hl)
theorem p_irem {x y : Int32} (hd : decode M.1 pc = .ok (.irem, 1)) (hy : ¬ y = 0) (k : WP Γ M B S I J (pc + 1) ls (.int (x - x / y * y) :: st) Q) : WP Γ M B S I J pc ls (.int y :: .int x :: st) Q :=
  fun p e s m args below meth c Z C E H locs cells slots lr hR hS hc hs hl => lv_irem C.1 C.2.1 hd hy (k p e s m args below meth c Z C E H locs cells slots lr hR hS hc hs hl)
theorem p_ineg {x : Int32} (hd : decode M.1 pc = .ok (.ineg, 1)) (k : WP Γ M B S I J (pc + 1) ls (.int (-x) :: st) Q) : WP Γ M B S I J pc ls (.int x :: st) Q :=
  fun p e s m args below meth c Z C E H locs cells slots lr hR hS hc hs hl => lv_ineg C.1 C.2.1 hd (k p e s m args below meth c Z C E H locs cells slots lr hR hS hc hs hl)
theorem p_ishl {x y : Int32} (hd : decode M.1 pc = .ok (.ishl, 1)) (k : WP Γ M B S I J (pc + 1) ls (.int (x <<< (y &&& 31)) :: st) Q) : WP Γ M B S I J pc ls (.int y :: .int x :: st) Q :=
  fun p e s m args below meth c Z C E H locs cells slots lr hR hS hc hs hl => lv_ishl C.1 C.2.1 hd (k p e s m args below meth c Z C E H locs cells slots lr hR hS hc hs hl)
theorem p_ishr {x y : Int32} (hd : decode M.1 pc = .ok (.ishr, 1)) (k : WP Γ M B S I J (pc + 1) ls (.int (x >>> (y &&& 31)) :: st) Q) : WP Γ M B S I J pc ls (.int y :: .int x :: st) Q :=
  fun p e s m args below meth c Z C E H locs cells slots lr hR hS hc hs hl => lv_ishr C.1 C.2.1 hd (k p e s m args below meth c Z C E H locs cells slots lr hR hS hc hs hl)
theorem p_iushr {x y : Int32} (hd : decode M.1 pc = .ok (.iushr, 1)) (k : WP Γ M B S I J (pc + 1) ls (.int ((x.toUInt32 >>> (y.toUInt32 &&& Int32.toUInt32 31)).toInt32) :: st) Q) : WP Γ M B S I J pc ls (.int y :: .int x :: st) Q :=
  fun p e s m args below meth c Z C E H locs cells slots lr hR hS hc hs hl => lv_iushr C.1 C.2.1 hd rfl (k p e s m args below meth c Z C E H locs cells slots lr hR hS hc hs hl)
theorem p_i2l {x : Int32} (hd : decode M.1 pc = .ok (.i2l, 1)) (k : WP Γ M B S I J (pc + 1) ls (.long x.toInt64 :: st) Q) : WP Γ M B S I J pc ls (.int x :: st) Q :=
  fun p e s m args below meth c Z C E H locs cells slots lr hR hS hc hs hl => lv_i2l C.1 C.2.1 hd rfl (k p e s m args below meth c Z C E H locs cells slots lr hR hS hc hs hl)
theorem p_ladd {x y : Int64} (hd : decode M.1 pc = .ok (.ladd, 1)) (k : WP Γ M B S I J (pc + 1) ls (.long (x + y) :: st) Q) : WP Γ M B S I J pc ls (.long y :: .long x :: st) Q :=
  fun p e s m args below meth c Z C E H locs cells slots lr hR hS hc hs hl => lv_ladd C.1 C.2.1 hd (k p e s m args below meth c Z C E H locs cells slots lr hR hS hc hs hl)
theorem p_lmul {x y : Int64} (hd : decode M.1 pc = .ok (.lmul, 1)) (k : WP Γ M B S I J (pc + 1) ls (.long (x * y) :: st) Q) : WP Γ M B S I J pc ls (.long y :: .long x :: st) Q :=
  fun p e s m args below meth c Z C E H locs cells slots lr hR hS hc hs hl => lv_lmul C.1 C.2.1 hd (k p e s m args below meth c Z C E H locs cells slots lr hR hS hc hs hl)
theorem p_ldiv {x y : Int64} (hd : decode M.1 pc = .ok (.ldiv, 1)) (hy : ¬ y = 0) (k : WP Γ M B S I J (pc + 1) ls (.long (x / y) :: st) Q) : WP Γ M B S I J pc ls (.long y :: .long x :: st) Q :=
  fun p e s m args below meth c Z C E H locs cells slots lr hR hS hc hs hl => lv_ldiv C.1 C.2.1 hd hy (k p e s m args below meth c Z C E H locs cells slots lr hR hS hc hs hl)
theorem p_lrem {x y : Int64} (hd : decode M.1 pc = .ok (.lrem, 1)) (hy : ¬ y = 0) (k : WP Γ M B S I J (pc + 1) ls (.long (x - x / y * y) :: st) Q) : WP Γ M B S I J pc ls (.long y :: .long x :: st) Q :=
  fun p e s m args below meth c Z C E H locs cells slots lr hR hS hc hs hl => lv_lrem C.1 C.2.1 hd hy (k p e s m args below meth c Z C E H locs cells slots lr hR hS hc hs hl)
theorem p_lcmp {x y : Int64} (hd : decode M.1 pc = .ok (.lcmp, 1)) (k : WP Γ M B S I J (pc + 1) ls (.int (lg_cmp x y) :: st) Q) : WP Γ M B S I J pc ls (.long y :: .long x :: st) Q :=
  fun p e s m args below meth c Z C E H locs cells slots lr hR hS hc hs hl => W.lcmp C.1 C.2.1 hd (k p e s m args below meth c Z C E H locs cells slots lr hR hS hc hs hl)
/-- the stack -/
theorem p_dup {v : Value} (hd : decode M.1 pc = .ok (.dup, 1)) (hv : v.category = 1) (k : WP Γ M B S I J (pc + 1) ls (v :: v :: st) Q) : WP Γ M B S I J pc ls (v :: st) Q :=
  fun p e s m args below meth c Z C E H locs cells slots lr hR hS hc hs hl => lv_dup C.1 C.2.1 hd (by rw [cv_cat]; exact hv) (k p e s m args below meth c Z C E H locs cells slots lr hR hS hc hs hl)
theorem p_pop {v : Value} (hd : decode M.1 pc = .ok (.pop, 1)) (hv : v.category = 1) (k : WP Γ M B S I J (pc + 1) ls st Q) : WP Γ M B S I J pc ls (v :: st) Q :=
  fun p e s m args below meth c Z C E H locs cells slots lr hR hS hc hs hl => lv_pop C.1 C.2.1 hd (va := cv Γ v) (by rw [cv_cat]; exact hv) (k p e s m args below meth c Z C E H locs cells slots lr hR hS hc hs hl)
theorem p_dup2 {v w : Value} (hd : decode M.1 pc = .ok (.dup2, 1)) (hv : v.category = 1) (hw : w.category = 1) (k : WP Γ M B S I J (pc + 1) ls (v :: w :: v :: w :: st) Q) : WP Γ M B S I J pc ls (v :: w :: st) Q :=
  fun p e s m args below meth c Z C E H locs cells slots lr hR hS hc hs hl => lv_dup2_11 C.1 C.2.1 hd (by rw [cv_cat]; exact hv) (by rw [cv_cat]; exact hw) (k p e s m args below meth c Z C E H locs cells slots lr hR hS hc hs hl)
theorem p_goto {off : Int} {tgt : Nat} (hd : decode M.1 pc = .ok (.goto off, 3)) (ht : (pc : Int) + off = (tgt : Int)) (k : WP Γ M B S I J tgt ls st Q) : WP Γ M B S I J pc ls st Q :=
  fun p e s m args below meth c Z C E H locs cells slots lr hR hS hc hs hl => lv_goto C.1 C.2.1 hd ht (k p e s m args below meth c Z C E H locs cells slots lr hR hS hc hs hl)
theorem p_ifeq {x : Int32} {off : Int} {tgt : Nat} (hd : decode M.1 pc = .ok (.ifCond .eq off, 3)) (ht : (pc : Int) + off = (tgt : Int)) (kt : x = 0 → WP Γ M B S I J tgt ls st Q) (kf : ¬ x = 0 → WP Γ M B S I J (pc + 3) ls st Q) : WP Γ M B S I J pc ls (.int x :: st) Q :=
  fun p e s m args below meth c Z C E H locs cells slots lr hR hS hc hs hl => lv_if_eq C.1 C.2.1 hd ht (fun q => kt q p e s m args below meth c Z C E H locs cells slots lr hR hS hc hs hl) (fun q => kf q p e s m args below meth c Z C E H locs cells slots lr hR hS hc hs hl)
theorem p_icmpeq {x y : Int32} {off : Int} {tgt : Nat} (hd : decode M.1 pc = .ok (.if_icmp .eq off, 3)) (ht : (pc : Int) + off = (tgt : Int)) (kt : x = y → WP Γ M B S I J tgt ls st Q) (kf : ¬ x = y → WP Γ M B S I J (pc + 3) ls st Q) : WP Γ M B S I J pc ls (.int y :: .int x :: st) Q :=
  fun p e s m args below meth c Z C E H locs cells slots lr hR hS hc hs hl => lv_icmp_eq C.1 C.2.1 hd ht (fun q => kt q p e s m args below meth c Z C E H locs cells slots lr hR hS hc hs hl) (fun q => kf q p e s m args below meth c Z C E H locs cells slots lr hR hS hc hs hl)
theorem p_ifne {x : Int32} {off : Int} {tgt : Nat} (hd : decode M.1 pc = .ok (.ifCond .ne off, 3)) (ht : (pc : Int) + off = (tgt : Int)) (kt : ¬ x = 0 → WP Γ M B S I J tgt ls st Q) (kf : x = 0 → WP Γ M B S I J (pc + 3) ls st Q) : WP Γ M B S I J pc ls (.int x :: st) Q :=
  fun p e s m args below meth c Z C E H locs cells slots lr hR hS hc hs hl => lv_if_ne C.1 C.2.1 hd ht (fun q => kt q p e s m args below meth c Z C E H locs cells slots lr hR hS hc hs hl) (fun q => kf q p e s m args below meth c Z C E H locs cells slots lr hR hS hc hs hl)
theorem p_icmpne {x y : Int32} {off : Int} {tgt : Nat} (hd : decode M.1 pc = .ok (.if_icmp .ne off, 3)) (ht : (pc : Int) + off = (tgt : Int)) (kt : ¬ x = y → WP Γ M B S I J tgt ls st Q) (kf : x = y → WP Γ M B S I J (pc + 3) ls st Q) : WP Γ M B S I J pc ls (.int y :: .int x :: st) Q :=
  fun p e s m args below meth c Z C E H locs cells slots lr hR hS hc hs hl => lv_icmp_ne C.1 C.2.1 hd ht (fun q => kt q p e s m args below meth c Z C E H locs cells slots lr hR hS hc hs hl) (fun q => kf q p e s m args below meth c Z C E H locs cells slots lr hR hS hc hs hl)
theorem p_iflt {x : Int32} {off : Int} {tgt : Nat} (hd : decode M.1 pc = .ok (.ifCond .lt off, 3)) (ht : (pc : Int) + off = (tgt : Int)) (kt : x < 0 → WP Γ M B S I J tgt ls st Q) (kf : ¬ x < 0 → WP Γ M B S I J (pc + 3) ls st Q) : WP Γ M B S I J pc ls (.int x :: st) Q :=
  fun p e s m args below meth c Z C E H locs cells slots lr hR hS hc hs hl => lv_if_lt C.1 C.2.1 hd ht (fun q => kt q p e s m args below meth c Z C E H locs cells slots lr hR hS hc hs hl) (fun q => kf q p e s m args below meth c Z C E H locs cells slots lr hR hS hc hs hl)
theorem p_icmplt {x y : Int32} {off : Int} {tgt : Nat} (hd : decode M.1 pc = .ok (.if_icmp .lt off, 3)) (ht : (pc : Int) + off = (tgt : Int)) (kt : x < y → WP Γ M B S I J tgt ls st Q) (kf : ¬ x < y → WP Γ M B S I J (pc + 3) ls st Q) : WP Γ M B S I J pc ls (.int y :: .int x :: st) Q :=
  fun p e s m args below meth c Z C E H locs cells slots lr hR hS hc hs hl => lv_icmp_lt C.1 C.2.1 hd ht (fun q => kt q p e s m args below meth c Z C E H locs cells slots lr hR hS hc hs hl) (fun q => kf q p e s m args below meth c Z C E H locs cells slots lr hR hS hc hs hl)
theorem p_ifge {x : Int32} {off : Int} {tgt : Nat} (hd : decode M.1 pc = .ok (.ifCond .ge off, 3)) (ht : (pc : Int) + off = (tgt : Int)) (kt : 0 ≤ x → WP Γ M B S I J tgt ls st Q) (kf : ¬ 0 ≤ x → WP Γ M B S I J (pc + 3) ls st Q) : WP Γ M B S I J pc ls (.int x :: st) Q :=
  fun p e s m args below meth c Z C E H locs cells slots lr hR hS hc hs hl => lv_if_ge C.1 C.2.1 hd ht (fun q => kt q p e s m args below meth c Z C E H locs cells slots lr hR hS hc hs hl) (fun q => kf q p e s m args below meth c Z C E H locs cells slots lr hR hS hc hs hl)
theorem p_icmpge {x y : Int32} {off : Int} {tgt : Nat} (hd : decode M.1 pc = .ok (.if_icmp .ge off, 3)) (ht : (pc : Int) + off = (tgt : Int)) (kt : y ≤ x → WP Γ M B S I J tgt ls st Q) (kf : ¬ y ≤ x → WP Γ M B S I J (pc + 3) ls st Q) : WP Γ M B S I J pc ls (.int y :: .int x :: st) Q :=
  fun p e s m args below meth c Z C E H locs cells slots lr hR hS hc hs hl => lv_icmp_ge C.1 C.2.1 hd ht (fun q => kt q p e s m args below meth c Z C E H locs cells slots lr hR hS hc hs hl) (fun q => kf q p e s m args below meth c Z C E H locs cells slots lr hR hS hc hs hl)
theorem p_ifgt {x : Int32} {off : Int} {tgt : Nat} (hd : decode M.1 pc = .ok (.ifCond .gt off, 3)) (ht : (pc : Int) + off = (tgt : Int)) (kt : 0 < x → WP Γ M B S I J tgt ls st Q) (kf : ¬ 0 < x → WP Γ M B S I J (pc + 3) ls st Q) : WP Γ M B S I J pc ls (.int x :: st) Q :=
  fun p e s m args below meth c Z C E H locs cells slots lr hR hS hc hs hl => lv_if_gt C.1 C.2.1 hd ht (fun q => kt q p e s m args below meth c Z C E H locs cells slots lr hR hS hc hs hl) (fun q => kf q p e s m args below meth c Z C E H locs cells slots lr hR hS hc hs hl)
theorem p_icmpgt {x y : Int32} {off : Int} {tgt : Nat} (hd : decode M.1 pc = .ok (.if_icmp .gt off, 3)) (ht : (pc : Int) + off = (tgt : Int)) (kt : y < x → WP Γ M B S I J tgt ls st Q) (kf : ¬ y < x → WP Γ M B S I J (pc + 3) ls st Q) : WP Γ M B S I J pc ls (.int y :: .int x :: st) Q :=
  fun p e s m args below meth c Z C E H locs cells slots lr hR hS hc hs hl => lv_icmp_gt C.1 C.2.1 hd ht (fun q => kt q p e s m args below meth c Z C E H locs cells slots lr hR hS hc hs hl) (fun q => kf q p e s m args below meth c Z C E H locs cells slots lr hR hS hc hs hl)
theorem p_ifle {x : Int32} {off : Int} {tgt : Nat} (hd : decode M.1 pc = .ok (.ifCond .le off, 3)) (ht : (pc : Int) + off = (tgt : Int)) (kt : x ≤ 0 → WP Γ M B S I J tgt ls st Q) (kf : ¬ x ≤ 0 → WP Γ M B S I J (pc + 3) ls st Q) : WP Γ M B S I J pc ls (.int x :: st) Q :=
  fun p e s m args below meth c Z C E H locs cells slots lr hR hS hc hs hl => lv_if_le C.1 C.2.1 hd ht (fun q => kt q p e s m args below meth c Z C E H locs cells slots lr hR hS hc hs hl) (fun q => kf q p e s m args below meth c Z C E H locs cells slots lr hR hS hc hs hl)
theorem p_icmple {x y : Int32} {off : Int} {tgt : Nat} (hd : decode M.1 pc = .ok (.if_icmp .le off, 3)) (ht : (pc : Int) + off = (tgt : Int)) (kt : x ≤ y → WP Γ M B S I J tgt ls st Q) (kf : ¬ x ≤ y → WP Γ M B S I J (pc + 3) ls st Q) : WP Γ M B S I J pc ls (.int y :: .int x :: st) Q :=
  fun p e s m args below meth c Z C E H locs cells slots lr hR hS hc hs hl => lv_icmp_le C.1 C.2.1 hd ht (fun q => kt q p e s m args below meth c Z C E H locs cells slots lr hR hS hc hs hl) (fun q => kf q p e s m args below meth c Z C E H locs cells slots lr hR hS hc hs hl)
theorem p_lookup {dflt : Int} {ps : Array (Int × Int)} {len : Nat} {x : Int32} {off : Int} {tgt : Nat} (hd : decode M.1 pc = .ok (.lookupswitch dflt ps, len)) (hp : (ps.toList.zip (ps.toList.drop 1)).all (fun (a, next) => a.1 < next.1) = true) (ho : Op.lookupswitch.offset ps.toList dflt x.toInt = off) (ht : (pc : Int) + off = (tgt : Int)) (k : WP Γ M B S I J tgt ls st Q) : WP Γ M B S I J pc ls (.int x :: st) Q :=
  fun p e s m args below meth c Z C E H locs cells slots lr hR hS hc hs hl => lv_lookup C.1 C.2.1 hd hp ho ht (k p e s m args below meth c Z C E H locs cells slots lr hR hS hc hs hl)
theorem p_tabOut {dflt lo hi : Int} {offs : Array Int} {len : Nat} {x : Int32} {tgt : Nat} (hd : decode M.1 pc = .ok (.tableswitch dflt lo hi offs, len)) (h : x.toInt < lo ∨ hi < x.toInt) (ht : (pc : Int) + dflt = (tgt : Int)) (k : WP Γ M B S I J tgt ls st Q) : WP Γ M B S I J pc ls (.int x :: st) Q :=
  fun p e s m args below meth c Z C E H locs cells slots lr hR hS hc hs hl => lv_tableOut C.1 C.2.1 hd h ht (k p e s m args below meth c Z C E H locs cells slots lr hR hS hc hs hl)
theorem p_tabIn {dflt lo hi : Int} {offs : Array Int} {len : Nat} {x : Int32} {off : Int} {tgt : Nat} (hd : decode M.1 pc = .ok (.tableswitch dflt lo hi offs, len)) (h1 : ¬ x.toInt < lo) (h2 : ¬ hi < x.toInt) (ho : offs[(x.toInt - lo).toNat]? = some off) (ht : (pc : Int) + off = (tgt : Int)) (k : WP Γ M B S I J tgt ls st Q) : WP Γ M B S I J pc ls (.int x :: st) Q :=
  fun p e s m args below meth c Z C E H locs cells slots lr hR hS hc hs hl => lv_tableIn C.1 C.2.1 hd h1 h2 ho ht (k p e s m args below meth c Z C E H locs cells slots lr hR hS hc hs hl)
/-- Math -/
theorem p_max {i : Nat} {x y : Int32} (hd : decode M.1 pc = .ok (.invokestatic i, 3)) (hl0 : Cond.methodLink M.2.1 i M_Ma_max.2.2.2.2.2 ∈ WS) (hf : 1 ≤ M.2.2.2.2.1.frames) (hw : (st.map fun v => v.category).sum + 13 ≤ M.2.2.2.2.1.locals) (k : WP Γ M B S I J (pc + 3) ls (.int (if x < y then y else x) :: st) Q) : WP Γ M B S I J pc ls (.int y :: .int x :: st) Q :=
  fun p e s m args below meth c Z C E H locs cells slots lr hR hS hc hs hl => va_mmax C.1 C.2.1 (by rw [C.2.2.1, hl.size]) C.2.2.2.1 (C.2.2.2.2.1 _ hl0) (C.2.2.2.2.1 _ st_Ma_max) (C.2.2.2.2.1 _ ii_Ma) (C.2.2.2.2.1 _ ok_Ma_max.1) hf (by rw [List.map_map]; simpa [Function.comp_def, cv_cat] using hw) (by omega) (by omega) hd (k p e s m args below meth c Z C E H locs cells slots lr hR hS hc hs hl)
theorem p_min {i : Nat} {x y : Int32} (hd : decode M.1 pc = .ok (.invokestatic i, 3)) (hl0 : Cond.methodLink M.2.1 i M_Ma_min.2.2.2.2.2 ∈ WS) (hf : 1 ≤ M.2.2.2.2.1.frames) (hw : (st.map fun v => v.category).sum + 13 ≤ M.2.2.2.2.1.locals) (k : WP Γ M B S I J (pc + 3) ls (.int (if y < x then y else x) :: st) Q) : WP Γ M B S I J pc ls (.int y :: .int x :: st) Q :=
  fun p e s m args below meth c Z C E H locs cells slots lr hR hS hc hs hl => va_mmin C.1 C.2.1 (by rw [C.2.2.1, hl.size]) C.2.2.2.1 (C.2.2.2.2.1 _ hl0) (C.2.2.2.2.1 _ st_Ma_min) (C.2.2.2.2.1 _ ii_Ma) (C.2.2.2.2.1 _ ok_Ma_min.1) hf (by rw [List.map_map]; simpa [Function.comp_def, cv_cat] using hw) (by omega) (by omega) hd (k p e s m args below meth c Z C E H locs cells slots lr hR hS hc hs hl)
theorem p_abs {i : Nat} {x : Int32} (hd : decode M.1 pc = .ok (.invokestatic i, 3)) (hl0 : Cond.methodLink M.2.1 i M_Ma_abs.2.2.2.2.2 ∈ WS) (hf : 1 ≤ M.2.2.2.2.1.frames) (hw : (st.map fun v => v.category).sum + 13 ≤ M.2.2.2.2.1.locals) (k : WP Γ M B S I J (pc + 3) ls (.int (if 0 ≤ x then x else 0 - x) :: st) Q) : WP Γ M B S I J pc ls (.int x :: st) Q :=
  fun p e s m args below meth c Z C E H locs cells slots lr hR hS hc hs hl => va_mabs C.1 C.2.1 (by rw [C.2.2.1, hl.size]) C.2.2.2.1 (C.2.2.2.2.1 _ hl0) (C.2.2.2.2.1 _ st_Ma_abs) (C.2.2.2.2.1 _ ii_Ma) (C.2.2.2.2.1 _ ok_Ma_abs.1) hf (by rw [List.map_map]; simpa [Function.comp_def, cv_cat] using hw) (by omega) (by omega) hd (k p e s m args below meth c Z C E H locs cells slots lr hR hS hc hs hl)
end RU
end
section
/-! ===== the rules that read and write cells ===== -/
theorem bs_map {a n : Nat} (h1 : 0 < a) (h2 : a ≤ n) : ∃ i, a = i + 1 ∧ i < n := ⟨a - 1, by omega, by omega⟩
theorem fsOf_V {Γ : Cx} {S : Sh} {I : MemI} {J : MemJ} {ci a k : Nat} (h : k < nC ci) : vp_V (fsOf Γ S I J ci a) k = fv Γ (tyC ci k) (I a k) (J a k) (S.2.2 a k) := by
  simp [vp_V, List.getD, fsOf_get h]
theorem Rel.write {Γ : Cx} {S S' : Sh} {I I' : MemI} {J J' : MemJ} {H H1 : Heap} {i : Nat} (h : Rel Γ S I J H) (hz : H1.size = H.size) (oq : ∀ q, q ≠ ad Γ (i + 1) → H1[q]? = H[q]?) (hs : S'.1 = S.1)
    (ho : ∀ b, b ≠ i + 1 → cE Γ S' I' J' b = cE Γ S I J b) (hn : va_at Γ.2.2.1 vwCl (ad Γ (i + 1), cE Γ S' I' J' (i + 1)) H1) : Rel Γ S' I' J' H1 := by
  refine ⟨by rw [hz, h.1, hs], fun k q hq => ?_⟩
  obtain ⟨hl, rfl⟩ := wsOf_some hq
  by_cases e : k = i
  · subst e
    exact hn
  · rw [ho (k + 1) (by omega)]
    refine (h.at (by omega)).kept (oq _ ?_)
    show ad Γ (k + 1) ≠ ad Γ (i + 1)
    rw [ad_s, ad_s]
    omega
def isRefTy (t : FieldType) : Bool := match t with
  | .object _ => true
  | .array _ => true
  | _ => false
theorem fv_ref {Γ : Cx} {t : FieldType} {i : Int32} {j : Int64} {b : Nat} (h : isRefTy t = true) : fv Γ t i j (some b) = .ref (ad Γ b) := by
  cases t <;> first | rfl | simp [isRefTy] at h
section RH
variable {Γ : Cx} {M : MI} {B : Nat × Nat} {S : Sh} {I : MemI} {J : MemJ} {pc : Nat} {ls st : List Value} {Q : PQ}
/-- fields -/
theorem p_getV {idx ci k a : Nat} {v : Value} (hd : decode M.1 pc = .ok (.getfield idx, 3)) (hf : FL M.2.1 idx ci k) (hk : kd S a ci) (hv : ∀ Γ : Cx, fv Γ (tyC ci k) (I a k) (J a k) (S.2.2 a k) = cv Γ v) (kk : WP Γ M B S I J (pc + 3) ls (v :: st) Q) : WP Γ M B S I J pc ls (.ref a :: st) Q := by
  intro p e s m args below meth c Z C E H locs cells slots lr hR hS hc hs hl
  obtain ⟨q, hq, hkq, hfl⟩ := hf
  obtain ⟨h0, h1, h2⟩ := hk
  obtain ⟨i, rfl, hi⟩ := bs_map h0 h1
  obtain ⟨c1, c2, c3, c4⟩ := clOK ci q hq
  have he : (wsOf Γ S I J)[i]? = some (ad Γ (i + 1), .inr (ci, fsOf Γ S I J ci (i + 1))) := by rw [wsOf_get hi, cE_obj h2 (ci_lt hq)]
  exact va_get (C := q.1) (T := q.2.1) (N := q.2.2) (v := cv Γ v) C.1 C.2.1 C.2.2.2.2.1 c1 C.2.2.2.1 C.2.2.2.2.2.1.1 hR.2 i he hq k hkq (C.2.2.2.2.1 _ hfl) (fun _ h => h) (by rw [fsOf_get (by rw [← c2]; exact hkq), hv Γ]) hd (kk p e s m args below meth c Z C E H locs cells slots lr hR hS hc hs hl)
theorem p_getI {idx ci k a : Nat} (hd : decode M.1 pc = .ok (.getfield idx, 3)) (hf : FL M.2.1 idx ci k) (hk : kd S a ci) (ht : tyC ci k = .int ∨ tyC ci k = .boolean) (kk : WP Γ M B S I J (pc + 3) ls (.int (I a k) :: st) Q) : WP Γ M B S I J pc ls (.ref a :: st) Q :=
  p_getV hd hf hk (fun Γ => by rcases ht with h | h <;> rw [h] <;> rfl) kk
theorem p_getJ {idx ci k a : Nat} (hd : decode M.1 pc = .ok (.getfield idx, 3)) (hf : FL M.2.1 idx ci k) (hk : kd S a ci) (ht : tyC ci k = .long) (kk : WP Γ M B S I J (pc + 3) ls (.long (J a k) :: st) Q) : WP Γ M B S I J pc ls (.ref a :: st) Q :=
  p_getV hd hf hk (fun Γ => by rw [ht]; rfl) kk
theorem p_getR {idx ci k a b : Nat} (hd : decode M.1 pc = .ok (.getfield idx, 3)) (hf : FL M.2.1 idx ci k) (hk : kd S a ci) (ht : isRefTy (tyC ci k) = true) (hb : S.2.2 a k = some b) (kk : WP Γ M B S I J (pc + 3) ls (.ref b :: st) Q) : WP Γ M B S I J pc ls (.ref a :: st) Q :=
  p_getV hd hf hk (fun Γ => by rw [hb]; exact fv_ref ht) kk
/-- a field takes a value: what is the same of every put -/
theorem gx_put {ci k i : Nat} {v : Value} {S' : Sh} {I' : MemI} {J' : MemJ} {H H1 : Heap} {s : State} {args : Array Value} {q : vw_C} {cell : Cell} (hR : Rel Γ S I J H) (hts : ∀ w ∈ WS, w.before args s = true) (hK : va_K Γ.2.2.1 vwCl (tysOf Γ) s) (hq : vwCl[ci]? = some q) (hkq : k < q.2.2) (h2 : (S.2.1 (i + 1)).1 = ci)
    (q2 : cell.cls = Γ.2.2.1.1 ci) (q3 : cell.vm = .none) (q4 : ∀ k, k < q.2.2 → cell.slots[Γ.2.2.1.2 ci k]? = some (vp_V (fsOf Γ S I J ci (i + 1)) k))
    (e1 : S'.1 = S.1) (e2 : S'.2.1 = S.2.1) (e3 : fv Γ (tyC ci k) (I' (i + 1) k) (J' (i + 1) k) (S'.2.2 (i + 1) k) = cv Γ v) (e4 : ∀ x y, ¬ (x = i + 1 ∧ y = k) → I' x y = I x y ∧ J' x y = J x y ∧ S'.2.2 x y = S.2.2 x y)
    (g1 : H1[ad Γ (i + 1)]? = some (cell.setSlot (Γ.2.2.1.2 ci k) (cv Γ v))) (g2 : H1.size = H.size) (g3 : ∀ q, q ≠ ad Γ (i + 1) → H1[q]? = H[q]?) : Rel Γ S' I' J' H1 := by
  obtain ⟨c1, c2, c3, c4⟩ := clOK ci q hq
  have hap := va_apart (own := q.1) hts c1 (tyC ci) c3 c4 hK hq
  refine hR.write g2 g3 e1 (fun b hb => cE_congr (by rw [e2]) (fun y => e4 b y (fun z => hb z.1))) ?_
  rw [cE_obj (by rw [e2]; exact h2) (ci_lt hq)]
  refine ⟨q, hq, _, g1, q2, q3, fun j hj => ?_⟩
  rw [t_set q4 hap hkq (cv Γ v) j hj]
  congr 1
  rw [fsOf_V (by rw [← c2]; exact hj)]
  by_cases e : j = k
  · subst e
    simp [updV, e3]
  · obtain ⟨a1, a2, a3⟩ := e4 (i + 1) j (fun z => e z.2)
    simp only [updV, e, if_false]
    rw [fsOf_V (by rw [← c2]; exact hj), a1, a2, a3]
theorem p_putV {idx ci k a : Nat} {v : Value} {S' : Sh} {I' : MemI} {J' : MemJ} (hd : decode M.1 pc = .ok (.putfield idx, 3)) (hf : FL M.2.1 idx ci k) (hk : kd S a ci) (hfin : ∀ q : vw_C, vwCl[ci]? = some q → (q.2.1 k).2.2.2 = false) (hn : ∀ Γ : Cx, narrow (tyC ci k) (cv Γ v) = cv Γ v) (hfit : ∀ Γ : Cx, fits (tyC ci k) (cv Γ v) = true)
    (e1 : S'.1 = S.1) (e2 : S'.2.1 = S.2.1) (e3 : ∀ Γ : Cx, fv Γ (tyC ci k) (I' a k) (J' a k) (S'.2.2 a k) = cv Γ v) (e4 : ∀ x y, ¬ (x = a ∧ y = k) → I' x y = I x y ∧ J' x y = J x y ∧ S'.2.2 x y = S.2.2 x y)
    (kk : WP Γ M B S' I' J' (pc + 3) ls st Q) : WP Γ M B S I J pc ls (v :: .ref a :: st) Q := by
  intro p e s m args below meth c Z C E H locs cells slots lr hR hS hc hs hl
  obtain ⟨q, hq, hkq, hfl⟩ := hf
  obtain ⟨h0, h1, h2⟩ := hk
  obtain ⟨i, rfl, hi⟩ := bs_map h0 h1
  obtain ⟨c1, c2, c3, c4⟩ := clOK ci q hq
  have hat := hR.at hi
  rw [cE_obj h2 (ci_lt hq)] at hat
  obtain ⟨r, hr, cell, q1, q2, q3, q4⟩ := hat
  cases hr.symm.trans hq
  have hK := C.2.2.2.2.2.1.1
  obtain ⟨hSl, hfc, kC, hkC, hkind⟩ := hK.1 ci _ hq
  obtain ⟨cf, kf, fi, f, hif, hsl⟩ := hSl k hkq
  have hlay := C.2.2.2.2.1 _ (c1 _ (u_in_lay hkq))
  unfold u_lay at hlay
  rw [if_neg (by rw [hfin q hq]; decide)] at hlay
  have hst := (u_facts hfc hkC (u_lays C.2.2.2.2.1 c1 hkq) hif).1
  have h6 := u_store hfc hkC hkind hlay hif (c3 k hkq) (hn Γ) (hfit Γ)
  refine W.putK C.1 C.2.1 (f := f) (v := cv Γ v) ⟨C.2.2.2.1, C.2.2.2.2.1 _ hfl, ⟨_, _, _, hif⟩, hst⟩ (by rw [q2]; exact h6) q1 q3 (by rw [hsl]; exact k2_hasslot (q4 k hkq)) rfl rfl hd fun H1 g1 g2 g3 => ?_
  rw [hsl] at g1 ⊢
  exact kk p e s m args below meth c Z C E H1 _ cells slots lr (gx_put hR C.2.2.2.2.1 hK hq hkq h2 q2 q3 q4 e1 e2 (e3 Γ) e4 g1 g2 g3) (hS.put g2 g3 (by show Γ.1.2.2 ≤ ad Γ (i + 1); rw [ad_s]; omega)) hc hs hl
theorem p_putFV {idx ci k a : Nat} {v : Value} {S' : Sh} {I' : MemI} {J' : MemJ} (hd : decode M.1 pc = .ok (.putfield idx, 3)) (hf : FL M.2.1 idx ci k) (hk : kd S a ci) (hfin : ∀ q : vw_C, vwCl[ci]? = some q → (q.2.1 k).2.2.2 = true ∧ (q.2.1 k).1 = M.2.1) (hin : M.2.2.2.2.2.name = "<init>") (hn : ∀ Γ : Cx, narrow (tyC ci k) (cv Γ v) = cv Γ v) (hfit : ∀ Γ : Cx, fits (tyC ci k) (cv Γ v) = true)
    (e1 : S'.1 = S.1) (e2 : S'.2.1 = S.2.1) (e3 : ∀ Γ : Cx, fv Γ (tyC ci k) (I' a k) (J' a k) (S'.2.2 a k) = cv Γ v) (e4 : ∀ x y, ¬ (x = a ∧ y = k) → I' x y = I x y ∧ J' x y = J x y ∧ S'.2.2 x y = S.2.2 x y)
    (kk : WP Γ M B S' I' J' (pc + 3) ls st Q) : WP Γ M B S I J pc ls (v :: .ref a :: st) Q := by
  intro p e s m args below meth c Z C E H locs cells slots lr hR hS hc hs hl
  obtain ⟨q, hq, hkq, hfl⟩ := hf
  obtain ⟨h0, h1, h2⟩ := hk
  obtain ⟨i, rfl, hi⟩ := bs_map h0 h1
  obtain ⟨c1, c2, c3, c4⟩ := clOK ci q hq
  have hat := hR.at hi
  rw [cE_obj h2 (ci_lt hq)] at hat
  obtain ⟨r, hr, cell, q1, q2, q3, q4⟩ := hat
  cases hr.symm.trans hq
  have hK := C.2.2.2.2.2.1.1
  obtain ⟨hSl, hfc, kC, hkC, hkind⟩ := hK.1 ci _ hq
  obtain ⟨cf, kf, fi, f, hif, hsl⟩ := hSl k hkq
  have hlay := C.2.2.2.2.1 _ (c1 _ (u_in_lay hkq))
  unfold u_lay at hlay
  rw [if_pos (hfin q hq).1] at hlay
  have hst := (u_facts hfc hkC (u_lays C.2.2.2.2.1 c1 hkq) hif).1
  have hcf : m.cls = cf := by
    obtain ⟨_, _, c', _, _, _, -, -, hf', -, -, -, hown2, -⟩ := Cond.laysFinal_spec hlay
    have z1 : c' = cf := by have := hif.symm.trans hf'; simp at this; exact this.1.symm
    rw [(hfin q hq).2] at hown2
    rw [← z1]
    exact Option.some.inj (C.2.2.2.1.symm.trans hown2)
  have h6 := u_fits hfc hkC hkind (Or.inr hlay) hif (c3 k hkq) (hn Γ) (hfit Γ)
  refine W.putFinK C.1 C.2.1 (v := cv Γ v) C.2.2.2.1 (C.2.2.2.2.1 _ hfl) hif hst hcf (C.2.2.2.2.2.2 hin) (by rw [q2]; exact h6) q1 q3 (by rw [hsl]; exact k2_hasslot (q4 k hkq)) rfl rfl hd fun H1 g1 g2 g3 => ?_
  rw [hsl] at g1 ⊢
  exact kk p e s m args below meth c Z C E H1 _ cells slots lr (gx_put hR C.2.2.2.2.1 hK hq hkq h2 q2 q3 q4 e1 e2 (e3 Γ) e4 g1 g2 g3) (hS.put g2 g3 (by show Γ.1.2.2 ≤ ad Γ (i + 1); rw [ad_s]; omega)) hc hs hl
theorem p_putI {idx ci k a : Nat} {x : Int32} (hd : decode M.1 pc = .ok (.putfield idx, 3)) (hf : FL M.2.1 idx ci k) (hk : kd S a ci) (ht : tyC ci k = .int) (hfin : ∀ q : vw_C, vwCl[ci]? = some q → (q.2.1 k).2.2.2 = false) (kk : WP Γ M B S (up2 I a k x) J (pc + 3) ls st Q) : WP Γ M B S I J pc ls (.int x :: .ref a :: st) Q :=
  p_putV (v := .int x) hd hf hk hfin (fun Γ => by rw [ht]; rfl) (fun Γ => by rw [ht]; rfl) rfl rfl (fun Γ => by rw [ht]; simp [up2, fv, cv]) (fun a b h => ⟨by simp only [up2, h, if_false], rfl, rfl⟩) kk
theorem p_putZ {idx ci k a : Nat} {x : Int32} (hd : decode M.1 pc = .ok (.putfield idx, 3)) (hf : FL M.2.1 idx ci k) (hk : kd S a ci) (ht : tyC ci k = .boolean) (hx : x = 0 ∨ x = 1) (hfin : ∀ q : vw_C, vwCl[ci]? = some q → (q.2.1 k).2.2.2 = false) (kk : WP Γ M B S (up2 I a k x) J (pc + 3) ls st Q) : WP Γ M B S I J pc ls (.int x :: .ref a :: st) Q :=
  p_putV (v := .int x) hd hf hk hfin (fun Γ => by rw [ht]; rcases hx with rfl | rfl <;> rfl) (fun Γ => by rw [ht]; rcases hx with rfl | rfl <;> rfl) rfl rfl (fun Γ => by rw [ht]; simp [up2, fv, cv]) (fun a b h => ⟨by simp only [up2, h, if_false], rfl, rfl⟩) kk
theorem p_putJ {idx ci k a : Nat} {x : Int64} (hd : decode M.1 pc = .ok (.putfield idx, 3)) (hf : FL M.2.1 idx ci k) (hk : kd S a ci) (ht : tyC ci k = .long) (hfin : ∀ q : vw_C, vwCl[ci]? = some q → (q.2.1 k).2.2.2 = false) (kk : WP Γ M B S I (upJ J a k x) (pc + 3) ls st Q) : WP Γ M B S I J pc ls (.long x :: .ref a :: st) Q :=
  p_putV (v := .long x) hd hf hk hfin (fun Γ => by rw [ht]; rfl) (fun Γ => by rw [ht]; rfl) rfl rfl (fun Γ => by rw [ht]; simp [upJ, fv, cv]) (fun a b h => ⟨rfl, by simp only [upJ, h, if_false], rfl⟩) kk
theorem p_putR {idx ci k a b : Nat} (hd : decode M.1 pc = .ok (.putfield idx, 3)) (hf : FL M.2.1 idx ci k) (hk : kd S a ci) (ht : isRefTy (tyC ci k) = true) (hfin : ∀ q : vw_C, vwCl[ci]? = some q → (q.2.1 k).2.2.2 = true ∧ (q.2.1 k).1 = M.2.1) (hin : M.2.2.2.2.2.name = "<init>") (kk : WP Γ M B (upP S a k b) I J (pc + 3) ls st Q) : WP Γ M B S I J pc ls (.ref b :: .ref a :: st) Q := by
  refine p_putFV (v := .ref b) (S' := upP S a k b) (I' := I) (J' := J) hd hf hk hfin hin (fun Γ => ?_) (fun Γ => ?_) rfl rfl (fun Γ => ?_) (fun a b h => ⟨rfl, rfl, by simp only [upP, h, if_false]⟩) kk
  · cases h : tyC ci k <;> first | rfl | (rw [h] at ht; simp [isRefTy] at ht)
  · cases h : tyC ci k <;> first | rfl | (rw [h] at ht; simp [isRefTy] at ht)
  · have : (upP S a k b).2.2 a k = some b := by simp [upP]
    rw [this]
    exact fv_ref ht
/-- arrays -/
theorem p_iald {a n : Nat} {i : Int32} (hd : decode M.1 pc = .ok (.iaload, 1)) (ha : ar S a 10 n) (hin : vp_in i n) (kk : WP Γ M B S I J (pc + 1) ls (.int (I a i.toNatClampNeg) :: st) Q) : WP Γ M B S I J pc ls (.int i :: .ref a :: st) Q := by
  intro p e s m args below meth c Z C E H locs cells slots lr hR hS hc hs hl
  obtain ⟨h0, h1, h2⟩ := ha
  obtain ⟨j, rfl, hj⟩ := bs_map h0 h1
  have he : (wsOf Γ S I J)[j]? = some (ad Γ (j + 1), .inl (Γ.2.2.2.1, n, .inl (I (j + 1)))) := by rw [wsOf_get hj, cE_int h2]
  exact va_iald C.1 C.2.1 C.2.2.2.2.2.1.1 hR.2 j 0 he rfl hin hd (kk p e s m args below meth c Z C E H locs cells slots lr hR hS hc hs hl)
theorem p_zald {a n : Nat} {i : Int32} (hd : decode M.1 pc = .ok (.baload, 1)) (ha : ar S a 11 n) (hin : vp_in i n) (kk : WP Γ M B S I J (pc + 1) ls (.int (I a i.toNatClampNeg) :: st) Q) : WP Γ M B S I J pc ls (.int i :: .ref a :: st) Q := by
  intro p e s m args below meth c Z C E H locs cells slots lr hR hS hc hs hl
  obtain ⟨h0, h1, h2⟩ := ha
  obtain ⟨j, rfl, hj⟩ := bs_map h0 h1
  have he : (wsOf Γ S I J)[j]? = some (ad Γ (j + 1), .inl (Γ.2.2.2.2.1, n, .inl (I (j + 1)))) := by rw [wsOf_get hj, cE_bool h2]
  exact va_zald C.1 C.2.1 C.2.2.2.2.2.1.1 hR.2 j 1 he rfl hin hd (kk p e s m args below meth c Z C E H locs cells slots lr hR hS hc hs hl)
theorem p_aald {a n b : Nat} {i : Int32} (hd : decode M.1 pc = .ok (.aaload, 1)) (ha : ar S a 12 n) (hin : vp_in i n) (hb : S.2.2 a i.toNatClampNeg = some b) (kk : WP Γ M B S I J (pc + 1) ls (.ref b :: st) Q) : WP Γ M B S I J pc ls (.int i :: .ref a :: st) Q := by
  intro p e s m args below meth c Z C E H locs cells slots lr hR hS hc hs hl
  obtain ⟨h0, h1, h2⟩ := ha
  obtain ⟨j, rfl, hj⟩ := bs_map h0 h1
  have he : (wsOf Γ S I J)[j]? = some (ad Γ (j + 1), .inl (Γ.2.2.2.2.2, n, .inr (.inr (.inr (.inr (fun k => (S.2.2 (j + 1) k).map (ad Γ))))))) := by rw [wsOf_get hj, cE_ref h2]
  refine va_aldq C.1 C.2.1 C.2.2.2.2.2.1.1 hR.2 j 2 he (C := RX3) rfl hin hd ?_
  rw [hb]
  exact kk p e s m args below meth c Z C E H locs cells slots lr hR hS hc hs hl
theorem p_sld {i : Int32} (hd : decode M.1 pc = .ok (.iaload, 1)) (hin : vp_in i Γ.2.1.1) (kk : WP Γ M B S I J (pc + 1) ls (.int (Γ.2.1.2 i.toNatClampNeg) :: st) Q) : WP Γ M B S I J pc ls (.int i :: .ref 0 :: st) Q := by
  intro p e s m args below meth c Z C E H locs cells slots lr hR hS hc hs hl
  obtain ⟨-, -, -, hX, hb1, hb2⟩ := C.2.2.2.2.2.1
  exact va_sld (b := Γ.1.2.1) C.1 C.2.1 hX (by omega) (by show ¬ Γ.1.2.2 ≤ Γ.1.2.1; omega) hS hin hd (kk p e s m args below meth c Z C E H locs cells slots lr hR hS hc hs hl)
theorem p_slen (hd : decode M.1 pc = .ok (.arraylength, 1)) (kk : WP Γ M B S I J (pc + 1) ls (.int (Int32.ofNat Γ.2.1.1) :: st) Q) : WP Γ M B S I J pc ls (.ref 0 :: st) Q := by
  intro p e s m args below meth c Z C E H locs cells slots lr hR hS hc hs hl
  obtain ⟨-, -, -, hX, hb1, hb2⟩ := C.2.2.2.2.2.1
  exact va_slen (b := Γ.1.2.1) C.1 C.2.1 hX (by omega) (by show ¬ Γ.1.2.2 ≤ Γ.1.2.1; omega) hS hd (kk p e s m args below meth c Z C E H locs cells slots lr hR hS hc hs hl)
theorem up2_row (I : MemI) (a k : Nat) (x : Int32) : up2 I a k x a = upd (I a) k x := by
  funext y
  simp [up2, upd]
theorem p_iast {a n : Nat} {i x : Int32} (hd : decode M.1 pc = .ok (.iastore, 1)) (ha : ar S a 10 n) (hin : vp_in i n) (kk : WP Γ M B S (up2 I a i.toNatClampNeg x) J (pc + 1) ls st Q) : WP Γ M B S I J pc ls (.int x :: .int i :: .ref a :: st) Q := by
  intro p e s m args below meth c Z C E H locs cells slots lr hR hS hc hs hl
  obtain ⟨h0, h1, h2⟩ := ha
  obtain ⟨j, rfl, hj⟩ := bs_map h0 h1
  have hat := hR.at hj
  rw [cE_int h2] at hat
  refine W.iast C.1 C.2.1 hat (((C.2.2.2.2.2.1.1).2 0 _ rfl).1 n _) (fun q => by cases q) (by show ¬ (i < 0 ∨ (arrV _ _ _).slots.size ≤ _); rw [arrV_size]; exact hin) rfl rfl hd fun H1 g1 g2 g3 => ?_
  refine kk p e s m args below meth c Z C E H1 _ cells slots lr (hR.write g2 g3 rfl (fun b hb => cE_congr rfl (fun y => ⟨by simp [up2, hb], rfl, rfl⟩)) ?_) (hS.put g2 g3 (by show Γ.1.2.2 ≤ ad Γ (j + 1); rw [ad_s]; omega)) hc hs hl
  rw [cE_int h2]
  show H1[ad Γ (j + 1)]? = some (vp_cell _ _)
  rw [g1, vp_cell_i, vp_cell_i, arrV_store, up2_row]
  congr 2
  funext q
  by_cases hq : q = i.toNatClampNeg
  · subst hq
    simp [updV, upd]
  · simp [updV, upd, hq]
theorem p_zast {a n : Nat} {i x : Int32} (hd : decode M.1 pc = .ok (.bastore, 1)) (ha : ar S a 11 n) (hin : vp_in i n) (hx : x = 0 ∨ x = 1) (kk : WP Γ M B S (up2 I a i.toNatClampNeg x) J (pc + 1) ls st Q) : WP Γ M B S I J pc ls (.int x :: .int i :: .ref a :: st) Q := by
  intro p e s m args below meth c Z C E H locs cells slots lr hR hS hc hs hl
  obtain ⟨h0, h1, h2⟩ := ha
  obtain ⟨j, rfl, hj⟩ := bs_map h0 h1
  have hat := hR.at hj
  rw [cE_bool h2] at hat
  refine W.zast C.1 C.2.1 hat (((C.2.2.2.2.2.1.1).2 1 _ rfl).1 n _) (fun q => by cases q) (by show ¬ (i < 0 ∨ (arrV _ _ _).slots.size ≤ _); rw [arrV_size]; exact hin) rfl rfl hd fun H1 g1 g2 g3 => ?_
  refine kk p e s m args below meth c Z C E H1 _ cells slots lr (hR.write g2 g3 rfl (fun b hb => cE_congr rfl (fun y => ⟨by simp [up2, hb], rfl, rfl⟩)) ?_) (hS.put g2 g3 (by show Γ.1.2.2 ≤ ad Γ (j + 1); rw [ad_s]; omega)) hc hs hl
  rw [cE_bool h2]
  show H1[ad Γ (j + 1)]? = some (vp_cell _ _)
  have hnx : narrow .boolean (.int x) = .int x := by rcases hx with rfl | rfl <;> rfl
  rw [g1, hnx, vp_cell_i, vp_cell_i, arrV_store, up2_row]
  congr 2
  funext q
  by_cases hq : q = i.toNatClampNeg
  · subst hq
    simp [updV, upd]
  · simp [updV, upd, hq]
theorem p_aast {a n b : Nat} {i : Int32} (hd : decode M.1 pc = .ok (.aastore, 1)) (ha : ar S a 12 n) (hin : vp_in i n) (hb : kd S b 3) (kk : WP Γ M B (upP S a i.toNatClampNeg b) I J (pc + 1) ls st Q) : WP Γ M B S I J pc ls (.ref b :: .int i :: .ref a :: st) Q := by
  intro p e s m args below meth c Z C E H locs cells slots lr hR hS hc hs hl
  obtain ⟨h0, h1, h2⟩ := ha
  obtain ⟨j, rfl, hj⟩ := bs_map h0 h1
  obtain ⟨b0, b1, b2⟩ := hb
  obtain ⟨b', rfl, hb'⟩ := bs_map b0 b1
  have hlt : i.toNatClampNeg < n := Nat.not_le.mp fun q => hin (Or.inr q)
  have hneg : ¬ i < 0 := fun q => hin (Or.inl q)
  have hat := hR.at hj
  rw [cE_ref h2] at hat
  have hbt := hR.at hb'
  rw [cE_obj b2 (by omega)] at hbt
  obtain ⟨r, hr, cellV, q1, q2, q3, -⟩ := hbt
  have hK := C.2.2.2.2.2.1.1
  have hcls := (hK.1 3 _ hr).2
  obtain ⟨kA, comp, k1, k2, k3, -⟩ := (hK.2 2 _ rfl).2
  have hr' : r = (RX3, TX3, 7) := Option.some.inj (hr.symm.trans rfl)
  subst hr'
  have hcomp : comp = Γ.2.2.1.1 3 := Option.some.inj (k3.symm.trans hcls.1)
  subst hcomp
  obtain ⟨kC, hkC, -⟩ := hcls.2
  refine W.aast C.1 C.2.1 hat (fun q h => by cases h) (fun h => by cases h) k1 k2 rfl hkC ⟨hneg, by show _ < (arrV _ _ _).slots.size; rw [arrV_size]; exact hlt⟩ q1 (fun q h => by rw [q3] at h; cases h) (by rw [q2]; exact hkC) (by rw [q2]; exact va_assign hcls) rfl rfl hd fun H1 g1 g2 g3 => ?_
  refine kk p e s m args below meth c Z C E H1 _ cells slots lr (hR.write g2 g3 rfl (fun b hb => cE_congr rfl (fun y => ⟨rfl, rfl, by simp [upP, hb]⟩)) ?_) (hS.put g2 g3 (by show Γ.1.2.2 ≤ ad Γ (j + 1); rw [ad_s]; omega)) hc hs hl
  rw [cE_ref (S := upP S (j + 1) i.toNatClampNeg (b' + 1)) h2]
  show H1[ad Γ (j + 1)]? = some (vp_cell _ _)
  rw [g1, vp_cell_q, vp_cell_q, arrV_store]
  congr 2
  funext q
  by_cases hq : q = i.toNatClampNeg
  · subst hq
    simp [updV, upP, va_rf]
  · simp [updV, upP, hq]
/-- new cells -/
theorem p_new {idx ci N : Nat} {q : vw_C} (hd : decode M.1 pc = .ok (.new idx, 3)) (hq : vwCl[ci]? = some q) (hcl : Cond.classLink M.2.1 idx q.1 ∈ WS) (hins : Cond.instantiable q.1 N ∈ WS) (hini : Cond.initialized q.1 ∈ WS) (hN : N = q.2.2) (hB : 1 ≤ B.1 ∧ N ≤ B.2)
    (kk : WP Γ M (B.1 - 1, B.2 - N) (nwS S ci 0) (nwI S I) (nwJ S J) (pc + 3) ls (.ref (S.1 + 1) :: st) Q) : WP Γ M B S I J pc ls st Q := by
  intro p e s m args below meth c Z C E H locs cells slots lr hR hS hc hs hl
  obtain ⟨c1, c2, c3, c4⟩ := clOK ci q hq
  have hK := C.2.2.2.2.2.1.1
  have hKn := hK.1 ci _ hq
  refine W.newcK C.1 C.2.1 C.2.2.2.1 (C.2.2.2.2.1 _ hcl) (C.2.2.2.2.1 _ hins) (C.2.2.2.2.1 _ hini) rfl hd (by omega) (by omega) hKn.2.1 rfl fun H1 kC hkC g1 g2 g3 => ?_
  have hR1 : Rel Γ (nwS S ci 0) (nwI S I) (nwJ S J) H1 := by
    refine hR.push rfl g2 g3 (fun b hb => cE_congr (by simp [nwS, hb]) (fun y => ⟨by simp [nwI, hb], by simp [nwJ, hb], by simp [nwS, hb]⟩)) ?_
    rw [cE_obj (S := nwS S ci 0) (ci := ci) (by simp [nwS]) (ci_lt hq)]
    refine ⟨q, hq, (u_born (tyC ci) C.2.2.2.2.1 c1 hKn hkC g1 c3).to (fun j hj => ?_)⟩
    rw [fsOf_V (by rw [← c2]; exact hj)]
    simp only [nwI, nwJ, nwS, if_true]
    exact fv_def (tyC_ok ci (ci_lt hq) j (by rw [← c2]; exact hj))
  have hz : H.size = ad Γ (S.1 + 1) := by rw [ad_s]; exact hR.1
  have h3 := kk p e s m args below meth c Z C E H1 locs (cells + 1) (slots + N) lr hR1 ⟨Nat.le_trans hS.1 (by omega), fun x a1 a2 => (g3 x (Nat.lt_of_lt_of_le a1 hS.1)).trans (hS.2.1 x a1 a2), hS.2.2⟩ (by show cells + 1 + (B.1 - 1) ≤ _; omega) (by show slots + N + (B.2 - N) ≤ _; omega) hl
  rw [hz]
  exact h3
theorem p_newI {x : Int32} {N : Nat} (hd : decode M.1 pc = .ok (.newarray .int, 2)) (ha : Cond.arrayClass .int ∈ WS) (hx : ¬ x < 0) (hN : x.toNatClampNeg = N) (hN2 : N ≤ 1000) (hB : 1 ≤ B.1 ∧ N ≤ B.2) (kk : WP Γ M (B.1 - 1, B.2 - N) (nwS S 10 N) (nwI S I) (nwJ S J) (pc + 2) ls (.ref (S.1 + 1) :: st) Q) : WP Γ M B S I J pc ls (.int x :: st) Q := by
  intro p e s m args below meth c Z C E H locs cells slots lr hR hS hc hs hl
  refine va_newaK C.1 C.2.1 (atype := .int) (C.2.2.2.2.1 _ ha) rfl hd rfl hx hN (by show N * 4 ≤ _; omega) (by omega) (by omega) rfl fun H1 cA g1 g2 g3 hAr hNm => ?_
  have hRA := ((C.2.2.2.2.2.1.1).2 0 _ rfl).2
  have hcA : cA = Γ.2.2.2.1 := Option.some.inj (hNm.symm.trans hRA)
  subst hcA
  have hR1 : Rel Γ (nwS S 10 N) (nwI S I) (nwJ S J) H1 := by
    refine hR.push rfl g2 g3 (fun b hb => cE_congr (by simp [nwS, hb]) (fun y => ⟨by simp [nwI, hb], by simp [nwJ, hb], by simp [nwS, hb]⟩)) ?_
    rw [cE_int (S := nwS S 10 N) (n := N) (by simp [nwS])]
    show H1[H.size]? = some (vp_cell _ _)
    rw [g1, vp_cell_i]
    congr 2
    funext j
    simp [nwI]
    rfl
  have hz : H.size = ad Γ (S.1 + 1) := by rw [ad_s]; exact hR.1
  have h3 := kk p e s m args below meth c Z C E H1 locs (cells + 1) (slots + N) lr hR1 ⟨Nat.le_trans hS.1 (by omega), fun x a1 a2 => (g3 x (Nat.lt_of_lt_of_le a1 hS.1)).trans (hS.2.1 x a1 a2), hS.2.2⟩ (by show cells + 1 + (B.1 - 1) ≤ _; omega) (by show slots + N + (B.2 - N) ≤ _; omega) hl
  rw [hz]
  exact h3
theorem p_newZ {x : Int32} {N : Nat} (hd : decode M.1 pc = .ok (.newarray .boolean, 2)) (ha : Cond.arrayClass .boolean ∈ WS) (hx : ¬ x < 0) (hN : x.toNatClampNeg = N) (hN2 : N ≤ 1000) (hB : 1 ≤ B.1 ∧ N ≤ B.2) (kk : WP Γ M (B.1 - 1, B.2 - N) (nwS S 11 N) (nwI S I) (nwJ S J) (pc + 2) ls (.ref (S.1 + 1) :: st) Q) : WP Γ M B S I J pc ls (.int x :: st) Q := by
  intro p e s m args below meth c Z C E H locs cells slots lr hR hS hc hs hl
  refine va_newaK C.1 C.2.1 (atype := .boolean) (C.2.2.2.2.1 _ ha) rfl hd rfl hx hN (by show N * 1 ≤ _; omega) (by omega) (by omega) rfl fun H1 cA g1 g2 g3 hAr hNm => ?_
  have hRA := ((C.2.2.2.2.2.1.1).2 1 _ rfl).2
  have hcA : cA = Γ.2.2.2.2.1 := Option.some.inj (hNm.symm.trans hRA)
  subst hcA
  have hR1 : Rel Γ (nwS S 11 N) (nwI S I) (nwJ S J) H1 := by
    refine hR.push rfl g2 g3 (fun b hb => cE_congr (by simp [nwS, hb]) (fun y => ⟨by simp [nwI, hb], by simp [nwJ, hb], by simp [nwS, hb]⟩)) ?_
    rw [cE_bool (S := nwS S 11 N) (n := N) (by simp [nwS])]
    show H1[H.size]? = some (vp_cell _ _)
    rw [g1, vp_cell_i]
    congr 2
    funext j
    simp [nwI]
    rfl
  have hz : H.size = ad Γ (S.1 + 1) := by rw [ad_s]; exact hR.1
  have h3 := kk p e s m args below meth c Z C E H1 locs (cells + 1) (slots + N) lr hR1 ⟨Nat.le_trans hS.1 (by omega), fun x a1 a2 => (g3 x (Nat.lt_of_lt_of_le a1 hS.1)).trans (hS.2.1 x a1 a2), hS.2.2⟩ (by show cells + 1 + (B.1 - 1) ≤ _; omega) (by show slots + N + (B.2 - N) ≤ _; omega) hl
  rw [hz]
  exact h3
theorem p_newR {x : Int32} {idx N : Nat} (hd : decode M.1 pc = .ok (.anewarray idx, 3)) (hcl : Cond.classLink M.2.1 idx RX3 ∈ WS) (hx : ¬ x < 0) (hN : x.toNatClampNeg = N) (hN2 : N ≤ 1000) (hB : 1 ≤ B.1 ∧ N ≤ B.2) (kk : WP Γ M (B.1 - 1, B.2 - N) (nwS S 12 N) (nwI S I) (nwJ S J) (pc + 3) ls (.ref (S.1 + 1) :: st) Q) : WP Γ M B S I J pc ls (.int x :: st) Q := by
  intro p e s m args below meth c Z C E H locs cells slots lr hR hS hc hs hl
  subst hN
  refine W.anew C.1 C.2.1 C.2.2.2.1 (C.2.2.2.2.1 _ hcl) (va_AO.use C.2.2.2.2.2.1.2.2.1) rfl hd rfl hx (by omega) (by omega) (by omega) fun cA kA comp f1 f2 f3 f4 => ?_
  obtain ⟨kA', comp', k1, k2, k3, k4⟩ := ((C.2.2.2.2.2.1.1).2 2 _ rfl).2
  have hcA : cA = Γ.2.2.2.2.2 := Option.some.inj (f1.symm.trans k4)
  subst hcA
  generalize hH1 : H.push ({ cls := Γ.2.2.2.2.2, slots := Array.replicate x.toNatClampNeg .null, vm := .none } : Cell) = H1
  have g2 : H1.size = H.size + 1 := by rw [← hH1, Array.size_push]
  have g1 : H1[H.size]? = some (arrV Γ.2.2.2.2.2 x.toNatClampNeg (fun _ => .null)) := by rw [← hH1, Array.getElem?_push_size, ← arrV_new]
  have g3 : ∀ q : Nat, q < H.size → H1[q]? = H[q]? := fun q hq => by rw [← hH1, Array.getElem?_push, if_neg (Nat.ne_of_lt hq)]
  have hR1 : Rel Γ (nwS S 12 x.toNatClampNeg) (nwI S I) (nwJ S J) H1 := by
    refine hR.push rfl g2 g3 (fun b hb => cE_congr (by simp [nwS, hb]) (fun y => ⟨by simp [nwI, hb], by simp [nwJ, hb], by simp [nwS, hb]⟩)) ?_
    rw [cE_ref (S := nwS S 12 x.toNatClampNeg) (n := x.toNatClampNeg) (by simp [nwS])]
    show H1[H.size]? = some (vp_cell _ _)
    rw [g1, vp_cell_q]
    congr 2
    funext j
    simp [nwS, va_rf]
  have hz : H.size = ad Γ (S.1 + 1) := by rw [ad_s]; exact hR.1
  have h3 := kk p e s m args below meth c Z C E H1 locs (cells + 1) (slots + x.toNatClampNeg) lr hR1 ⟨Nat.le_trans hS.1 (by omega), fun x a1 a2 => (g3 x (Nat.lt_of_lt_of_le a1 hS.1)).trans (hS.2.1 x a1 a2), hS.2.2⟩ (by show cells + 1 + (B.1 - 1) ≤ _; omega) (by show slots + _ + (B.2 - _) ≤ _; omega) hl
  rw [hz]
  exact h3
end RH
end
section
/-! ===== contracts, calls ===== -/
def QcOf (Γ : Cx) (Q : PQ) : Array Value → State → Outcome → State → Prop := fun _ st o t => (∃ (r : Option Value) (S : Sh) (I : MemI) (J : MemJ), o = .returned (r.map (cv Γ)) ∧ Q r S I J ∧ Rel Γ S I J t.heap) ∧ va_F (AF Γ) st t
def PcOf (Γ : Cx) (av : List Value) (S : Sh) (I : MemI) (J : MemJ) : Array Value → State → Prop := va_Pc (av.map (cv Γ)) (fun U => Rel Γ S I J U.heap ∧ SR Γ U)
def wsM (M : MI) : List Cond := Cond.code M.2.2.2.2.2 M.1 M.2.2.1 M.2.2.2.1 :: WS
/-- a method's contract at these arguments, in this state -/
def Ct (Γ : Cx) (M : MI) (av : List Value) (S : Sh) (I : MemI) (J : MemJ) (Q : PQ) : Prop := Met Γ.1.1 M.2.2.2.2.2 (wsM M) M.2.2.2.2.1 (PcOf Γ av S I J) (QcOf Γ Q) M.2.2.2.2.1.cells M.2.2.2.2.1.slots (AF Γ)
/-- just one end -/
def eqQ (r : Option Value) (S : Sh) (I : MemI) (J : MemJ) : PQ := fun r' S' I' J' => r' = r ∧ S' = S ∧ I' = I ∧ J' = J
theorem SR.moved {Γ : Cx} {s U : State} {H : Heap} (h : SR Γ s) (hW : s.WarmedH U.vm) (hU : U.heap = H) {locs : List Loc} (hS : va_S (AF Γ) s.heap H locs) : SR Γ U := by
  obtain ⟨h1, h2, h3, h4, h5, h6⟩ := h
  refine ⟨va_K.moved hW.alike h1, fun a i x z hm => va_Nw.warmM hW (h2 a i x z hm), va_AO.moved hW.alike h3, ?_, h5, by rw [hU]; exact Nat.le_trans h6 hS.1⟩
  refine va_X.moved hW.alike (h4.kept ?_)
  rw [hU]
  exact hS.2.1 _ (by omega) (by show ¬ Γ.1.2.2 ≤ Γ.1.2.1; omega)
theorem SR.same {Γ : Cx} {u U : State} (h : SR Γ u) (hv : u.vm = U.vm) (hh : u.heap = U.heap) : SR Γ U := by
  obtain ⟨h1, h2, h3, h4, h5, h6⟩ := h
  have hA : u.vm.Alike U.vm := by rw [hv]; exact Vm.Alike.refl _
  refine ⟨va_K.moved hA h1, fun a i x z hm => va_Nw.same rfl hv (h2 a i x z hm), va_AO.moved hA h3, ?_, h5, by rw [← hh]; exact h6⟩
  rw [← hh]
  exact va_X.moved hA h4
theorem Pc_blind {Γ : Cx} {av : List Value} {S : Sh} {I : MemI} {J : MemJ} : FrameBlind (PcOf Γ av S I J) := by
  intro a U g mk h
  obtain ⟨h1, h2, h3⟩ := h
  exact ⟨h1, h2, h3.same rfl rfl⟩
theorem Pc_at {Γ : Cx} {av : List Value} {S : Sh} {I : MemI} {J : MemJ} {s U : State} {H : Heap} {locs : List Loc} (hR : Rel Γ S I J H) (hs : SR Γ s) (hS : va_S (AF Γ) s.heap H locs) (hU : U.heap = H) (hW : s.WarmedH U.vm) : PcOf Γ av S I J (av.map (cv Γ)).toArray U :=
  ⟨rfl, by rw [hU]; exact hR, hs.moved hW hU hS⟩
theorem wsM_good {n : Nat} {M : MI} (h : MOK n M) : GoodIn WS (wsM M) := by
  intro w hw
  rcases List.mem_cons.mp hw with rfl | hw
  · exact ws_all _ h.1
  · exact ws_all _ hw
/-- locals at a method's entry -/
def ent (av : List Value) : List Value := av.flatMap fun v => if v.category = 2 then [v, .null] else [v]
theorem ent_args {Γ : Cx} : ∀ (av : List Value) (o i : Nat) (v : Value), (ent av)[i]? = some v → v ≠ .null → (o + i, cv Γ v) ∈ lv_args o (av.map (cv Γ))
  | [], o, i, v, h, _ => by simp [ent] at h
  | w :: av, o, i, v, h, hv => by
    have ih := ent_args (Γ := Γ) av
    by_cases hc : w.category = 2
    · have e : ent (w :: av) = w :: .null :: ent av := by simp [ent, hc]
      rw [e] at h
      show _ ∈ (o, cv Γ w) :: lv_args _ _
      match i, h with
      | 0, h => cases h; exact List.mem_cons_self
      | 1, h => cases h; exact absurd rfl hv
      | i + 2, h =>
        refine List.mem_cons_of_mem _ ?_
        rw [cv_cat, if_pos hc, show o + (i + 2) = (o + 2) + i by omega]
        exact ih (o + 2) i v h hv
    · have e : ent (w :: av) = w :: ent av := by simp [ent, hc]
      rw [e] at h
      show _ ∈ (o, cv Γ w) :: lv_args _ _
      match i, h with
      | 0, h => cases h; exact List.mem_cons_self
      | i + 1, h =>
        refine List.mem_cons_of_mem _ ?_
        rw [cv_cat, if_neg hc, show o + (i + 1) = (o + 1) + i by omega]
        exact ih (o + 1) i v h hv
theorem ent_len {Γ : Cx} (av : List Value) : (lg_sl (av.map (cv Γ))).length = (ent av).length := by
  induction av with
  | nil => rfl
  | cons w av ih =>
    by_cases hc : w.category = 2
    · simp only [lg_sl, ent, List.map_cons, List.flatMap_cons, List.length_append, cv_cat, hc, if_true] at ih ⊢
      simp at ih ⊢
      exact ih
    · simp only [lg_sl, ent, List.map_cons, List.flatMap_cons, List.length_append, cv_cat, hc, if_false] at ih ⊢
      simp at ih ⊢
      exact ih
theorem LR_entry {Γ : Cx} {av : List Value} {n : Nat} {ls : List Value} (hn : (ent av).length ≤ n) (hl : ent av ++ List.replicate (n - (ent av).length) .null = ls) :
    LR Γ ((lg_sl (av.map (cv Γ)) ++ List.replicate (n - (lg_sl (av.map (cv Γ))).length) Slot.unset).toArray) n ls := by
  refine ⟨_, lv_entry (av.map (cv Γ)) (by rw [ent_len]; exact hn), fun i v hi hv => ?_⟩
  rw [← hl] at hi
  by_cases h : i < (ent av).length
  · rw [List.getElem?_append_left h] at hi
    have := ent_args (Γ := Γ) av 0 i v hi hv
    rwa [Nat.zero_add] at this
  · rw [List.getElem?_append_right (by omega), List.getElem?_replicate] at hi
    split at hi
    · cases hi; exact absurd rfl hv
    · cases hi
/-- a method's contract out of its body -/
theorem ct_of {Γ : Cx} {M : MI} {av : List Value} {S : Sh} {I : MemI} {J : MemJ} {Q : PQ} (ls : List Value) (hpl : plainName M.2.2.2.2.2.cls = true) (how : M.2.1 = M.2.2.2.2.2.cls) (hn : (ent av).length ≤ M.2.2.1) (hl : ent av ++ List.replicate (M.2.2.1 - (ent av).length) .null = ls)
    (h : WP Γ M (M.2.2.2.2.1.cells, M.2.2.2.2.1.slots) S I J 0 ls [] Q) : Ct Γ M av S I J Q := by
  refine Met.ofW (cc := M.1) (maxL := M.2.2.1) (ret := M.2.2.2.1) hpl rfl ?_
  intro p e s m args below meth c s₁ Bd hml hv
  obtain ⟨rfl, hR, hsr⟩ := hv
  have hts := atoms_spec (ws := wsM M) Bd.pre
  have hown : s.vm.findClass M.2.1 = some m.cls := by rw [how]; exact findClass_of_methodNamed Bd.named
  have hlocks := Bd.notSynchronized
  have hC : CT Γ M p s m (av.map (cv Γ)).toArray meth c := ⟨Bd.exec, Bd.bytes, hml, hown, fun w hw => hts w (List.mem_cons_of_mem _ hw), hsr, fun hi => (name_of_methodNamed Bd.named Bd.method).1.trans hi⟩
  rw [lg_entry_eq]
  refine h p e s m _ below meth c _ hC ?_ s.heap [] 0 0 _ hR va_S.rf (by simp) (by simp) (LR_entry hn hl)
  intro r S' I' J' hQ H locs cells slots lr pc hR' hS hc hs hrt
  refine W.widen hc hs ?_
  match r, hrt with
  | none, hrt => exact W.vret Bd.exec Bd.bytes (Bd.returns.trans hrt.2) (fun t ht hW => ⟨⟨none, S', I', J', rfl, hQ, by rw [ht]; exact hR'⟩, hS.F ht⟩) hS.2.2 hrt.1
  | some (.int v), hrt =>
    obtain ⟨hd, ty, hty, hnw⟩ := hrt
    exact W.zret Bd.exec Bd.bytes (Bd.returns.trans hty) hnw (fun t ht hW => ⟨⟨some (.int v), S', I', J', rfl, hQ, by rw [ht]; exact hR'⟩, hS.F ht⟩) hS.2.2 hd
  | some (.long v), hrt => exact W.lret Bd.exec Bd.bytes (Bd.returns.trans hrt.2) (fun t ht hW => ⟨⟨some (.long v), S', I', J', rfl, hQ, by rw [ht]; exact hR'⟩, hS.F ht⟩) hS.2.2 hrt.1
  | some (.null), hrt => exact hrt.elim
  | some (.ref _), hrt => exact hrt.elim
  | some (.float _), hrt => exact hrt.elim
  | some (.double _), hrt => exact hrt.elim
section RC
variable {Γ : Cx} {M N : MI} {B B' : Nat × Nat} {S : Sh} {I : MemI} {J : MemJ} {pc : Nat} {ls st rest : List Value} {Q Q1 : PQ}
theorem gx_call {p : Program} {e : Env} {R : Room} {s : State} {m : MethodId} {args a : Array Value} {below : List Frame} {meth : Method} {c : Code} {H : Heap} {locs : List Loc} {cells slots mc ms : Nat} {Z : State → Prop} {lr : Array Slot} {st0 rs : List Value}
    (hr : va_Run p Γ.1.1 e R s m args below meth c H locs cells slots mc ms (F0 m pc lr st0) rs (QcOf Γ Q1 a) (AF Γ)) (hS : va_S (AF Γ) s.heap H locs)
    (kk : ∀ (r : Option Value) (S : Sh) (I : MemI) (J : MemJ) (H1 : Heap) (locs1 : List Loc), Q1 r S I J → Rel Γ S I J H1 → va_S (AF Γ) s.heap H1 locs1 → W p Γ.1.1 e R s m args below meth c H1 locs1 (cells + mc) (slots + ms) Z (F0 m (pc + 3) lr (r.toList.map (cv Γ) ++ rs))) :
    W p Γ.1.1 e R s m args below meth c H locs cells slots Z (F0 m pc lr st0) := by
  intro T hT X
  obtain ⟨v, st₀, t, T', L, h0, X', hL, e1, e2, ⟨⟨r, S', I', J', hv, hQ, hR'⟩, hz, hk⟩, go⟩ := hr T hT X
  rw [h0] at hz hk
  have hv' : v = r.map (cv Γ) := by cases hv; rfl
  subst hv'
  obtain ⟨t2, a1, b1⟩ := kk r S' I' J' T'.heap (locs ++ L) hQ (by rw [e1]; exact hR') ⟨Nat.le_trans hS.1 (by rw [e1]; exact hz), fun q h1 h2 => by rw [e1, hk q (Nat.lt_of_lt_of_le h1 hS.1) h2]; exact hS.2.1 q h1 h2, fun q hq => by
      rcases List.mem_append.mp hq with h | h
      · exact hS.2.2 q h
      · exact hL q h⟩ T' rfl X'
  refine ⟨t2, go t2 ?_, b1⟩
  have e3 : (r.map (cv Γ)).toList ++ rs = r.toList.map (cv Γ) ++ rs := by cases r <;> rfl
  show Steps p.tables e below (T'.setTop (F0 m (pc + 3) lr ((r.map (cv Γ)).toList ++ rs))) t2
  rw [e3]
  exact a1
/-- rooms, and the stack that is left -/
def RmOK (M N : MI) : Prop := N.2.2.2.2.1.frames + 1 ≤ M.2.2.2.2.1.frames ∧ 8 + (N.2.2.1 + 11) + N.2.2.2.2.1.locals ≤ M.2.2.2.2.1.locals
def stOK (rest : List Value) : Prop := (rest.map fun v => v.category).sum ≤ 8
theorem stOK_cv (h : stOK rest) : ((rest.map (cv Γ)).map fun v => v.category).sum ≤ 8 := by
  rw [List.map_map]
  simpa [Function.comp_def, cv_cat, stOK] using h
theorem map_rev (av rest : List Value) : (av.reverse ++ rest).map (cv Γ) = (av.map (cv Γ)).reverse ++ rest.map (cv Γ) := by simp
theorem map_rev1 (v : Value) (av rest : List Value) : ((v :: av).reverse ++ rest).map (cv Γ) = (av.map (cv Γ)).reverse ++ cv Γ v :: rest.map (cv Γ) := by simp
theorem map_res (r : Option Value) (rest : List Value) : r.toList.map (cv Γ) ++ rest.map (cv Γ) = (r.toList ++ rest).map (cv Γ) := by simp
theorem p_invV {idx ci n a : Nat} {av : List Value} {q : vw_C} (hd : decode M.1 pc = .ok (.invokevirtual idx, 3)) (hl0 : Cond.methodLink M.2.1 idx N.2.2.2.2.2 ∈ WS) (hok : MOK n N) (hv : MV N) (hn : av.length = n) (hk : kd S a ci) (hq : vwCl[ci]? = some q) (hC : q.1 = N.2.2.2.2.2.cls) (hrm : RmOK M N) (hst : stOK rest)
    (hB : N.2.2.2.2.1.cells + B'.1 ≤ B.1 ∧ N.2.2.2.2.1.slots + B'.2 ≤ B.2) (hc : Ct Γ N (.ref a :: av) S I J Q1) (kk : ∀ r S' I' J', Q1 r S' I' J' → WP Γ M B' S' I' J' (pc + 3) ls (r.toList ++ rest) Q) : WP Γ M B S I J pc ls ((.ref a :: av).reverse ++ rest) Q := by
  intro p e s m args below meth c Z C E H locs cells slots lr hR hS hc1 hs1 hl
  obtain ⟨h0, h1, h2⟩ := hk
  obtain ⟨i, rfl, hi⟩ := bs_map h0 h1
  have hat := hR.at hi
  rw [cE_obj h2 (ci_lt hq)] at hat
  obtain ⟨r, hr, cell, q1, q2, q3, -⟩ := hat
  cases hr.symm.trans hq
  have hts := C.2.2.2.2.1
  rw [map_rev1]
  refine gx_call (va_runV (As := av.map (cv Γ)) (rest := rest.map (cv Γ)) (C := N.2.2.2.2.2.cls) (n := n) ⟨C.1, C.2.1, C.2.2.1, C.2.2.2.1, hts⟩ hc ⟨callB_of n hts (wsM_good hok) rfl rfl rfl (hts _ hok.2.1) (hts _ hl0) hok.2.2 hrm, hts _ hv.1, hts _ hv.2⟩ ⟨Pc_blind, ⟨cell, q1, by rw [q3]; rfl, ?_⟩, fun U hU hW => Pc_at hR C.2.2.2.2.2.1 hS hU hW⟩ rfl (by simpa using hn) hl.size rfl (lv_room (stOK_cv hst)) hd ⟨by omega, by omega⟩) hS (fun r S' I' J' H1 locs1 hQ hR1 hS1 => ?_)
  · rw [← hC, q2]
    exact ((C.2.2.2.2.2.1.1).1 ci _ hq).2.1
  · rw [map_res]
    exact kk r S' I' J' hQ p e s m args below meth c Z C E H1 locs1 _ _ lr hR1 hS1 (by omega) (by omega) hl
theorem p_invS {idx n : Nat} {av : List Value} (hd : decode M.1 pc = .ok (.invokestatic idx, 3)) (hl0 : Cond.methodLink M.2.1 idx N.2.2.2.2.2 ∈ WS) (hok : MOK n N) (hv : Cond.static N.2.2.2.2.2 ∈ WS) (hn : av.length = n) (hrm : RmOK M N) (hst : stOK rest)
    (hB : N.2.2.2.2.1.cells + B'.1 ≤ B.1 ∧ N.2.2.2.2.1.slots + B'.2 ≤ B.2) (hc : Ct Γ N av S I J Q1) (kk : ∀ r S' I' J', Q1 r S' I' J' → WP Γ M B' S' I' J' (pc + 3) ls (r.toList ++ rest) Q) : WP Γ M B S I J pc ls (av.reverse ++ rest) Q := by
  intro p e s m args below meth c Z C E H locs cells slots lr hR hS hc1 hs1 hl
  have hts := C.2.2.2.2.1
  rw [map_rev]
  refine gx_call (va_runS (As := av.map (cv Γ)) (rest := rest.map (cv Γ)) (n := n) ⟨C.1, C.2.1, C.2.2.1, C.2.2.2.1, hts⟩ hc ⟨callB_of n hts (wsM_good hok) rfl rfl rfl (hts _ hok.2.1) (hts _ hl0) hok.2.2 hrm, hts _ hv⟩ ⟨Pc_blind, fun U hU hW => Pc_at hR C.2.2.2.2.2.1 hS hU hW⟩ rfl (by simpa using hn) hl.size rfl (lv_room (stOK_cv hst)) hd ⟨by omega, by omega⟩) hS (fun r S' I' J' H1 locs1 hQ hR1 hS1 => ?_)
  rw [map_res]
  exact kk r S' I' J' hQ p e s m args below meth c Z C E H1 locs1 _ _ lr hR1 hS1 (by omega) (by omega) hl
theorem p_invSN {idx n : Nat} {av : List Value} {host : String} (hd : decode M.1 pc = .ok (.invokestatic idx, 3)) (hl0 : Cond.methodLinkNest M.2.1 idx N.2.2.2.2.2 host ∈ tables_1) (hok : MOK n N) (hv : Cond.static N.2.2.2.2.2 ∈ WS) (hn : av.length = n) (hrm : RmOK M N) (hst : stOK rest)
    (hB : N.2.2.2.2.1.cells + B'.1 ≤ B.1 ∧ N.2.2.2.2.1.slots + B'.2 ≤ B.2) (hc : Ct Γ N av S I J Q1) (kk : ∀ r S' I' J', Q1 r S' I' J' → WP Γ M B' S' I' J' (pc + 3) ls (r.toList ++ rest) Q) : WP Γ M B S I J pc ls (av.reverse ++ rest) Q := by
  intro p e s m args below meth c Z C E H locs cells slots lr hR hS hc1 hs1 hl
  have hts := C.2.2.2.2.1
  rw [map_rev]
  refine gx_call (va_runSN (As := av.map (cv Γ)) (rest := rest.map (cv Γ)) (n := n) ⟨C.1, C.2.1, C.2.2.1, C.2.2.2.1, hts⟩ hc ⟨va_cnB n hts (wsM_good hok) rfl rfl rfl (C.2.2.2.2.2.1.2.1 _ _ _ _ hl0) (hts _ hok.2.1) hok.2.2 hrm, hts _ hv, trivial⟩ ⟨Pc_blind, fun U hU hW => Pc_at hR C.2.2.2.2.2.1 hS hU hW⟩ rfl (by simpa using hn) hl.size rfl (lv_room (stOK_cv hst)) hd ⟨by omega, by omega⟩) hS (fun r S' I' J' H1 locs1 hQ hR1 hS1 => ?_)
  rw [map_res]
  exact kk r S' I' J' hQ p e s m args below meth c Z C E H1 locs1 _ _ lr hR1 hS1 (by omega) (by omega) hl
theorem p_invI {idx n a : Nat} {av : List Value} (hd : decode M.1 pc = .ok (.invokespecial idx, 3)) (hl0 : Cond.methodLink M.2.1 idx N.2.2.2.2.2 ∈ WS) (hok : MOK n N) (hv : Cond.instanceMethod N.2.2.2.2.2 ∈ WS) (hnm : N.2.2.2.2.2.name = "<init>") (hret : N.2.2.2.1 = none) (hn : av.length = n) (hrm : RmOK M N) (hst : stOK rest)
    (hB : N.2.2.2.2.1.cells + B'.1 ≤ B.1 ∧ N.2.2.2.2.1.slots + B'.2 ≤ B.2) (hc : Ct Γ N (.ref a :: av) S I J Q1) (kk : ∀ r S' I' J', Q1 r S' I' J' → WP Γ M B' S' I' J' (pc + 3) ls (r.toList ++ rest) Q) : WP Γ M B S I J pc ls ((.ref a :: av).reverse ++ rest) Q := by
  intro p e s m args below meth c Z C E H locs cells slots lr hR hS hc1 hs1 hl
  have hts := C.2.2.2.2.1
  rw [map_rev1]
  refine gx_call (va_runI (As := av.map (cv Γ)) (rest := rest.map (cv Γ)) (n := n) ⟨C.1, C.2.1, C.2.2.1, C.2.2.2.1, hts⟩ hc ⟨callB_of n hts (wsM_good hok) (by unfold wsM; rw [hret]) rfl rfl (hts _ hok.2.1) (hts _ hl0) hok.2.2 hrm, hnm, hts _ hv⟩ ⟨Pc_blind, fun U hU hW => Pc_at (av := .ref a :: av) hR C.2.2.2.2.2.1 hS hU hW⟩ rfl (by simpa using hn) hl.size rfl (lv_room (stOK_cv hst)) hd ⟨by omega, by omega⟩) hS (fun r S' I' J' H1 locs1 hQ hR1 hS1 => ?_)
  rw [map_res]
  exact kk r S' I' J' hQ p e s m args below meth c Z C E H1 locs1 _ _ lr hR1 hS1 (by omega) (by omega) hl
theorem p_invIN {idx n a : Nat} {av : List Value} {host : String} (hd : decode M.1 pc = .ok (.invokespecial idx, 3)) (hl0 : Cond.methodLinkNest M.2.1 idx N.2.2.2.2.2 host ∈ tables_1) (hok : MOK n N) (hv : Cond.instanceMethod N.2.2.2.2.2 ∈ WS) (hnm : N.2.2.2.2.2.name = "<init>") (hret : N.2.2.2.1 = none) (hn : av.length = n) (hrm : RmOK M N) (hst : stOK rest)
    (hB : N.2.2.2.2.1.cells + B'.1 ≤ B.1 ∧ N.2.2.2.2.1.slots + B'.2 ≤ B.2) (hc : Ct Γ N (.ref a :: av) S I J Q1) (kk : ∀ r S' I' J', Q1 r S' I' J' → WP Γ M B' S' I' J' (pc + 3) ls (r.toList ++ rest) Q) : WP Γ M B S I J pc ls ((.ref a :: av).reverse ++ rest) Q := by
  intro p e s m args below meth c Z C E H locs cells slots lr hR hS hc1 hs1 hl
  have hts := C.2.2.2.2.1
  rw [map_rev1]
  refine gx_call (va_runIN (As := av.map (cv Γ)) (rest := rest.map (cv Γ)) (n := n) ⟨C.1, C.2.1, C.2.2.1, C.2.2.2.1, hts⟩ hc ⟨va_cnB n hts (wsM_good hok) (by unfold wsM; rw [hret]) rfl rfl (C.2.2.2.2.2.1.2.1 _ _ _ _ hl0) (hts _ hok.2.1) hok.2.2 hrm, hnm, hts _ hv⟩ ⟨Pc_blind, fun U hU hW => Pc_at (av := .ref a :: av) hR C.2.2.2.2.2.1 hS hU hW⟩ rfl (by simpa using hn) hl.size rfl (lv_room (stOK_cv hst)) hd ⟨by omega, by omega⟩) hS (fun r S' I' J' H1 locs1 hQ hR1 hS1 => ?_)
  rw [map_res]
  exact kk r S' I' J' hQ p e s m args below meth c Z C E H1 locs1 _ _ lr hR1 hS1 (by omega) (by omega) hl
theorem p_objInit {idx a : Nat} (hd : decode M.1 pc = .ok (.invokespecial idx, 3)) (hl0 : Cond.methodLink M.2.1 idx objectInit ∈ WS) (hi : Cond.instanceMethod objectInit ∈ WS) (hcd : Cond.code objectInit ⟨#[0xb1]⟩ 1 none ∈ WS) (hf : 1 ≤ M.2.2.2.2.1.frames) (hw : (st.map fun v => v.category).sum + 12 ≤ M.2.2.2.2.1.locals)
    (kk : WP Γ M B S I J (pc + 3) ls st Q) : WP Γ M B S I J pc ls (.ref a :: st) Q := by
  intro p e s m args below meth c Z C E H locs cells slots lr hR hS hc1 hs1 hl
  have hts := C.2.2.2.2.1
  have hw' : ((st.map (cv Γ)).map fun v => v.category).sum + 12 ≤ M.2.2.2.2.1.locals := by
    rw [List.map_map]
    simpa [Function.comp_def, cv_cat] using hw
  exact W.objInit C.1 C.2.1 C.2.2.2.1 (hts _ hl0) (hts _ hi) (hts _ hcd) rfl (by rw [C.2.2.1]; exact hl.size) rfl hd hf (by show 2 * 0 + _ + 12 ≤ _; omega) (kk p e s m args below meth c Z C E H locs cells slots lr hR hS hc1 hs1 hl)
end RC
end
section
/-! ===== rules in the form in which a program lays them ===== -/
theorem leb {a b : Nat} (h : Nat.ble a b = true) : a ≤ b := Nat.le_of_ble_eq_true h
section R2
variable {Γ : Cx} {M N : MI} {B : Nat × Nat} {S : Sh} {I : MemI} {J : MemJ} {pc : Nat} {ls st rest r : List Value} {Q Q1 : PQ}
theorem p_ic_m1 (hd : decode M.1 pc = .ok (.iconst (-1), 1)) (k : WP Γ M B S I J (pc + 1) ls (.int (-1) :: st) Q) : WP Γ M B S I J pc ls st Q := p_iconst hd (by decide) k
theorem p_ic_0 (hd : decode M.1 pc = .ok (.iconst 0, 1)) (k : WP Γ M B S I J (pc + 1) ls (.int 0 :: st) Q) : WP Γ M B S I J pc ls st Q := p_iconst hd (by decide) k
theorem p_ic_1 (hd : decode M.1 pc = .ok (.iconst 1, 1)) (k : WP Γ M B S I J (pc + 1) ls (.int 1 :: st) Q) : WP Γ M B S I J pc ls st Q := p_iconst hd (by decide) k
theorem p_ic_2 (hd : decode M.1 pc = .ok (.iconst 2, 1)) (k : WP Γ M B S I J (pc + 1) ls (.int 2 :: st) Q) : WP Γ M B S I J pc ls st Q := p_iconst hd (by decide) k
theorem p_ic_3 (hd : decode M.1 pc = .ok (.iconst 3, 1)) (k : WP Γ M B S I J (pc + 1) ls (.int 3 :: st) Q) : WP Γ M B S I J pc ls st Q := p_iconst hd (by decide) k
theorem p_ic_4 (hd : decode M.1 pc = .ok (.iconst 4, 1)) (k : WP Γ M B S I J (pc + 1) ls (.int 4 :: st) Q) : WP Γ M B S I J pc ls st Q := p_iconst hd (by decide) k
theorem p_ic_5 (hd : decode M.1 pc = .ok (.iconst 5, 1)) (k : WP Γ M B S I J (pc + 1) ls (.int 5 :: st) Q) : WP Γ M B S I J pc ls st Q := p_iconst hd (by decide) k
theorem p_bi_m99 (hd : decode M.1 pc = .ok (.bipush (-99), 2)) (k : WP Γ M B S I J (pc + 2) ls (.int (-99) :: st) Q) : WP Γ M B S I J pc ls st Q := p_bipush hd (by decide) k
theorem p_bi_m10 (hd : decode M.1 pc = .ok (.bipush (-10), 2)) (k : WP Γ M B S I J (pc + 2) ls (.int (-10) :: st) Q) : WP Γ M B S I J pc ls st Q := p_bipush hd (by decide) k
theorem p_bi_m3 (hd : decode M.1 pc = .ok (.bipush (-3), 2)) (k : WP Γ M B S I J (pc + 2) ls (.int (-3) :: st) Q) : WP Γ M B S I J pc ls st Q := p_bipush hd (by decide) k
theorem p_bi_m2 (hd : decode M.1 pc = .ok (.bipush (-2), 2)) (k : WP Γ M B S I J (pc + 2) ls (.int (-2) :: st) Q) : WP Γ M B S I J pc ls st Q := p_bipush hd (by decide) k
theorem p_bi_6 (hd : decode M.1 pc = .ok (.bipush 6, 2)) (k : WP Γ M B S I J (pc + 2) ls (.int 6 :: st) Q) : WP Γ M B S I J pc ls st Q := p_bipush hd (by decide) k
theorem p_bi_8 (hd : decode M.1 pc = .ok (.bipush 8, 2)) (k : WP Γ M B S I J (pc + 2) ls (.int 8 :: st) Q) : WP Γ M B S I J pc ls st Q := p_bipush hd (by decide) k
theorem p_bi_9 (hd : decode M.1 pc = .ok (.bipush 9, 2)) (k : WP Γ M B S I J (pc + 2) ls (.int 9 :: st) Q) : WP Γ M B S I J pc ls st Q := p_bipush hd (by decide) k
theorem p_bi_10 (hd : decode M.1 pc = .ok (.bipush 10, 2)) (k : WP Γ M B S I J (pc + 2) ls (.int 10 :: st) Q) : WP Γ M B S I J pc ls st Q := p_bipush hd (by decide) k
theorem p_bi_16 (hd : decode M.1 pc = .ok (.bipush 16, 2)) (k : WP Γ M B S I J (pc + 2) ls (.int 16 :: st) Q) : WP Γ M B S I J pc ls st Q := p_bipush hd (by decide) k
theorem p_bi_18 (hd : decode M.1 pc = .ok (.bipush 18, 2)) (k : WP Γ M B S I J (pc + 2) ls (.int 18 :: st) Q) : WP Γ M B S I J pc ls st Q := p_bipush hd (by decide) k
theorem p_bi_20 (hd : decode M.1 pc = .ok (.bipush 20, 2)) (k : WP Γ M B S I J (pc + 2) ls (.int 20 :: st) Q) : WP Γ M B S I J pc ls st Q := p_bipush hd (by decide) k
theorem p_bi_22 (hd : decode M.1 pc = .ok (.bipush 22, 2)) (k : WP Γ M B S I J (pc + 2) ls (.int 22 :: st) Q) : WP Γ M B S I J pc ls st Q := p_bipush hd (by decide) k
theorem p_bi_28 (hd : decode M.1 pc = .ok (.bipush 28, 2)) (k : WP Γ M B S I J (pc + 2) ls (.int 28 :: st) Q) : WP Γ M B S I J pc ls st Q := p_bipush hd (by decide) k
theorem p_bi_30 (hd : decode M.1 pc = .ok (.bipush 30, 2)) (k : WP Γ M B S I J (pc + 2) ls (.int 30 :: st) Q) : WP Γ M B S I J pc ls st Q := p_bipush hd (by decide) k
theorem p_bi_31 (hd : decode M.1 pc = .ok (.bipush 31, 2)) (k : WP Γ M B S I J (pc + 2) ls (.int 31 :: st) Q) : WP Γ M B S I J pc ls st Q := p_bipush hd (by decide) k
theorem p_bi_32 (hd : decode M.1 pc = .ok (.bipush 32, 2)) (k : WP Γ M B S I J (pc + 2) ls (.int 32 :: st) Q) : WP Γ M B S I J pc ls st Q := p_bipush hd (by decide) k
theorem p_bi_34 (hd : decode M.1 pc = .ok (.bipush 34, 2)) (k : WP Γ M B S I J (pc + 2) ls (.int 34 :: st) Q) : WP Γ M B S I J pc ls st Q := p_bipush hd (by decide) k
theorem p_bi_35 (hd : decode M.1 pc = .ok (.bipush 35, 2)) (k : WP Γ M B S I J (pc + 2) ls (.int 35 :: st) Q) : WP Γ M B S I J pc ls st Q := p_bipush hd (by decide) k
theorem p_bi_36 (hd : decode M.1 pc = .ok (.bipush 36, 2)) (k : WP Γ M B S I J (pc + 2) ls (.int 36 :: st) Q) : WP Γ M B S I J pc ls st Q := p_bipush hd (by decide) k
theorem p_bi_37 (hd : decode M.1 pc = .ok (.bipush 37, 2)) (k : WP Γ M B S I J (pc + 2) ls (.int 37 :: st) Q) : WP Γ M B S I J pc ls st Q := p_bipush hd (by decide) k
theorem p_bi_38 (hd : decode M.1 pc = .ok (.bipush 38, 2)) (k : WP Γ M B S I J (pc + 2) ls (.int 38 :: st) Q) : WP Γ M B S I J pc ls st Q := p_bipush hd (by decide) k
theorem p_bi_39 (hd : decode M.1 pc = .ok (.bipush 39, 2)) (k : WP Γ M B S I J (pc + 2) ls (.int 39 :: st) Q) : WP Γ M B S I J pc ls st Q := p_bipush hd (by decide) k
theorem p_bi_48 (hd : decode M.1 pc = .ok (.bipush 48, 2)) (k : WP Γ M B S I J (pc + 2) ls (.int 48 :: st) Q) : WP Γ M B S I J pc ls st Q := p_bipush hd (by decide) k
theorem p_bi_57 (hd : decode M.1 pc = .ok (.bipush 57, 2)) (k : WP Γ M B S I J (pc + 2) ls (.int 57 :: st) Q) : WP Γ M B S I J pc ls st Q := p_bipush hd (by decide) k
theorem p_bi_59 (hd : decode M.1 pc = .ok (.bipush 59, 2)) (k : WP Γ M B S I J (pc + 2) ls (.int 59 :: st) Q) : WP Γ M B S I J pc ls st Q := p_bipush hd (by decide) k
theorem p_bi_60 (hd : decode M.1 pc = .ok (.bipush 60, 2)) (k : WP Γ M B S I J (pc + 2) ls (.int 60 :: st) Q) : WP Γ M B S I J pc ls st Q := p_bipush hd (by decide) k
theorem p_bi_63 (hd : decode M.1 pc = .ok (.bipush 63, 2)) (k : WP Γ M B S I J (pc + 2) ls (.int 63 :: st) Q) : WP Γ M B S I J pc ls st Q := p_bipush hd (by decide) k
theorem p_bi_64 (hd : decode M.1 pc = .ok (.bipush 64, 2)) (k : WP Γ M B S I J (pc + 2) ls (.int 64 :: st) Q) : WP Γ M B S I J pc ls st Q := p_bipush hd (by decide) k
theorem p_bi_78 (hd : decode M.1 pc = .ok (.bipush 78, 2)) (k : WP Γ M B S I J (pc + 2) ls (.int 78 :: st) Q) : WP Γ M B S I J pc ls st Q := p_bipush hd (by decide) k
theorem p_bi_99 (hd : decode M.1 pc = .ok (.bipush 99, 2)) (k : WP Γ M B S I J (pc + 2) ls (.int 99 :: st) Q) : WP Γ M B S I J pc ls st Q := p_bipush hd (by decide) k
theorem p_si_200 (hd : decode M.1 pc = .ok (.sipush 200, 3)) (k : WP Γ M B S I J (pc + 3) ls (.int 200 :: st) Q) : WP Γ M B S I J pc ls st Q := p_sipush hd (by decide) k
theorem p_si_255 (hd : decode M.1 pc = .ok (.sipush 255, 3)) (k : WP Γ M B S I J (pc + 3) ls (.int 255 :: st) Q) : WP Γ M B S I J pc ls st Q := p_sipush hd (by decide) k
theorem p_si_351 (hd : decode M.1 pc = .ok (.sipush 351, 3)) (k : WP Γ M B S I J (pc + 3) ls (.int 351 :: st) Q) : WP Γ M B S I J pc ls st Q := p_sipush hd (by decide) k
theorem p_si_390 (hd : decode M.1 pc = .ok (.sipush 390, 3)) (k : WP Γ M B S I J (pc + 3) ls (.int 390 :: st) Q) : WP Γ M B S I J pc ls st Q := p_sipush hd (by decide) k
theorem p_si_999 (hd : decode M.1 pc = .ok (.sipush 999, 3)) (k : WP Γ M B S I J (pc + 3) ls (.int 999 :: st) Q) : WP Γ M B S I J pc ls st Q := p_sipush hd (by decide) k
theorem p_si_9999 (hd : decode M.1 pc = .ok (.sipush 9999, 3)) (k : WP Γ M B S I J (pc + 3) ls (.int 9999 :: st) Q) : WP Γ M B S I J pc ls st Q := p_sipush hd (by decide) k
theorem p_lc_0 (hd : decode M.1 pc = .ok (.lconst 0, 1)) (k : WP Γ M B S I J (pc + 1) ls (.long 0 :: st) Q) : WP Γ M B S I J pc ls st Q := p_lconst hd (by decide) k
theorem p_lc_1 (hd : decode M.1 pc = .ok (.lconst 1, 1)) (k : WP Γ M B S I J (pc + 1) ls (.long 1 :: st) Q) : WP Γ M B S I J pc ls st Q := p_lconst hd (by decide) k
theorem clr0 {ls : List Value} : clr ls 0 := fun v _ h => absurd h (by omega)
theorem clrS {ls : List Value} {i : Nat} {w : Value} (h : ls[i]? = some w) (hw : w.category = 1) : clr ls (i + 1) := fun v hv _ => by
  rw [show i + 1 - 1 = i by omega, h] at hv
  cases hv
  exact hw
theorem p_is_0 {x0 : Value} {x : Int32} (hd : decode M.1 pc = .ok (.istore_n 0, 1)) (hn : 0 < M.2.2.1) (k : WP Γ M B S I J (pc + 1) (.int x :: r) st Q) : WP Γ M B S I J pc (x0 :: r) (.int x :: st) Q := p_istore_n hd hn clr0 k
theorem p_is_1 {x0 x1 : Value} {x : Int32} (hd : decode M.1 pc = .ok (.istore_n 1, 1)) (hn : 1 < M.2.2.1) (hx : x0.category = 1) (k : WP Γ M B S I J (pc + 1) (x0 :: .int x :: r) st Q) : WP Γ M B S I J pc (x0 :: x1 :: r) (.int x :: st) Q := p_istore_n hd hn (clrS (i := 0) rfl hx) k
theorem p_is_2 {x0 x1 x2 : Value} {x : Int32} (hd : decode M.1 pc = .ok (.istore_n 2, 1)) (hn : 2 < M.2.2.1) (hx : x1.category = 1) (k : WP Γ M B S I J (pc + 1) (x0 :: x1 :: .int x :: r) st Q) : WP Γ M B S I J pc (x0 :: x1 :: x2 :: r) (.int x :: st) Q := p_istore_n hd hn (clrS (i := 1) rfl hx) k
theorem p_is_3 {x0 x1 x2 x3 : Value} {x : Int32} (hd : decode M.1 pc = .ok (.istore_n 3, 1)) (hn : 3 < M.2.2.1) (hx : x2.category = 1) (k : WP Γ M B S I J (pc + 1) (x0 :: x1 :: x2 :: .int x :: r) st Q) : WP Γ M B S I J pc (x0 :: x1 :: x2 :: x3 :: r) (.int x :: st) Q := p_istore_n hd hn (clrS (i := 2) rfl hx) k
theorem p_is_4 {x0 x1 x2 x3 x4 : Value} {x : Int32} (hd : decode M.1 pc = .ok (.istore 4, 2)) (hn : 4 < M.2.2.1) (hx : x3.category = 1) (k : WP Γ M B S I J (pc + 2) (x0 :: x1 :: x2 :: x3 :: .int x :: r) st Q) : WP Γ M B S I J pc (x0 :: x1 :: x2 :: x3 :: x4 :: r) (.int x :: st) Q := p_istore hd hn (clrS (i := 3) rfl hx) k
theorem p_is_5 {x0 x1 x2 x3 x4 x5 : Value} {x : Int32} (hd : decode M.1 pc = .ok (.istore 5, 2)) (hn : 5 < M.2.2.1) (hx : x4.category = 1) (k : WP Γ M B S I J (pc + 2) (x0 :: x1 :: x2 :: x3 :: x4 :: .int x :: r) st Q) : WP Γ M B S I J pc (x0 :: x1 :: x2 :: x3 :: x4 :: x5 :: r) (.int x :: st) Q := p_istore hd hn (clrS (i := 4) rfl hx) k
theorem p_is_6 {x0 x1 x2 x3 x4 x5 x6 : Value} {x : Int32} (hd : decode M.1 pc = .ok (.istore 6, 2)) (hn : 6 < M.2.2.1) (hx : x5.category = 1) (k : WP Γ M B S I J (pc + 2) (x0 :: x1 :: x2 :: x3 :: x4 :: x5 :: .int x :: r) st Q) : WP Γ M B S I J pc (x0 :: x1 :: x2 :: x3 :: x4 :: x5 :: x6 :: r) (.int x :: st) Q := p_istore hd hn (clrS (i := 5) rfl hx) k
theorem p_is_7 {x0 x1 x2 x3 x4 x5 x6 x7 : Value} {x : Int32} (hd : decode M.1 pc = .ok (.istore 7, 2)) (hn : 7 < M.2.2.1) (hx : x6.category = 1) (k : WP Γ M B S I J (pc + 2) (x0 :: x1 :: x2 :: x3 :: x4 :: x5 :: x6 :: .int x :: r) st Q) : WP Γ M B S I J pc (x0 :: x1 :: x2 :: x3 :: x4 :: x5 :: x6 :: x7 :: r) (.int x :: st) Q := p_istore hd hn (clrS (i := 6) rfl hx) k
theorem p_is_9 {x0 x1 x2 x3 x4 x5 x6 x7 x8 x9 : Value} {x : Int32} (hd : decode M.1 pc = .ok (.istore 9, 2)) (hn : 9 < M.2.2.1) (hx : x8.category = 1) (k : WP Γ M B S I J (pc + 2) (x0 :: x1 :: x2 :: x3 :: x4 :: x5 :: x6 :: x7 :: x8 :: .int x :: r) st Q) : WP Γ M B S I J pc (x0 :: x1 :: x2 :: x3 :: x4 :: x5 :: x6 :: x7 :: x8 :: x9 :: r) (.int x :: st) Q := p_istore hd hn (clrS (i := 8) rfl hx) k
theorem p_is_10 {x0 x1 x2 x3 x4 x5 x6 x7 x8 x9 x10 : Value} {x : Int32} (hd : decode M.1 pc = .ok (.istore 10, 2)) (hn : 10 < M.2.2.1) (hx : x9.category = 1) (k : WP Γ M B S I J (pc + 2) (x0 :: x1 :: x2 :: x3 :: x4 :: x5 :: x6 :: x7 :: x8 :: x9 :: .int x :: r) st Q) : WP Γ M B S I J pc (x0 :: x1 :: x2 :: x3 :: x4 :: x5 :: x6 :: x7 :: x8 :: x9 :: x10 :: r) (.int x :: st) Q := p_istore hd hn (clrS (i := 9) rfl hx) k
theorem p_is_13 {x0 x1 x2 x3 x4 x5 x6 x7 x8 x9 x10 x11 x12 x13 : Value} {x : Int32} (hd : decode M.1 pc = .ok (.istore 13, 2)) (hn : 13 < M.2.2.1) (hx : x12.category = 1) (k : WP Γ M B S I J (pc + 2) (x0 :: x1 :: x2 :: x3 :: x4 :: x5 :: x6 :: x7 :: x8 :: x9 :: x10 :: x11 :: x12 :: .int x :: r) st Q) : WP Γ M B S I J pc (x0 :: x1 :: x2 :: x3 :: x4 :: x5 :: x6 :: x7 :: x8 :: x9 :: x10 :: x11 :: x12 :: x13 :: r) (.int x :: st) Q := p_istore hd hn (clrS (i := 12) rfl hx) k
theorem p_is_14 {x0 x1 x2 x3 x4 x5 x6 x7 x8 x9 x10 x11 x12 x13 x14 : Value} {x : Int32} (hd : decode M.1 pc = .ok (.istore 14, 2)) (hn : 14 < M.2.2.1) (hx : x13.category = 1) (k : WP Γ M B S I J (pc + 2) (x0 :: x1 :: x2 :: x3 :: x4 :: x5 :: x6 :: x7 :: x8 :: x9 :: x10 :: x11 :: x12 :: x13 :: .int x :: r) st Q) : WP Γ M B S I J pc (x0 :: x1 :: x2 :: x3 :: x4 :: x5 :: x6 :: x7 :: x8 :: x9 :: x10 :: x11 :: x12 :: x13 :: x14 :: r) (.int x :: st) Q := p_istore hd hn (clrS (i := 13) rfl hx) k
theorem p_as_1 {x0 x1 : Value} {x : Nat} (hd : decode M.1 pc = .ok (.astore_n 1, 1)) (hn : 1 < M.2.2.1) (hx : x0.category = 1) (k : WP Γ M B S I J (pc + 1) (x0 :: .ref x :: r) st Q) : WP Γ M B S I J pc (x0 :: x1 :: r) (.ref x :: st) Q := p_astore_n hd hn (clrS (i := 0) rfl hx) k
theorem p_as_2 {x0 x1 x2 : Value} {x : Nat} (hd : decode M.1 pc = .ok (.astore_n 2, 1)) (hn : 2 < M.2.2.1) (hx : x1.category = 1) (k : WP Γ M B S I J (pc + 1) (x0 :: x1 :: .ref x :: r) st Q) : WP Γ M B S I J pc (x0 :: x1 :: x2 :: r) (.ref x :: st) Q := p_astore_n hd hn (clrS (i := 1) rfl hx) k
theorem p_ls_0 {x0 y : Value} {x : Int64} (hd : decode M.1 pc = .ok (.lstore_n 0, 1)) (hn : 0 + 1 < M.2.2.1) (k : WP Γ M B S I J (pc + 1) (.long x :: .null :: r) st Q) : WP Γ M B S I J pc (x0 :: y :: r) (.long x :: st) Q := p_lstore_n hd hn clr0 k
theorem p_ls_2 {x0 x1 x2 y : Value} {x : Int64} (hd : decode M.1 pc = .ok (.lstore_n 2, 1)) (hn : 2 + 1 < M.2.2.1) (hx : x1.category = 1) (k : WP Γ M B S I J (pc + 1) (x0 :: x1 :: .long x :: .null :: r) st Q) : WP Γ M B S I J pc (x0 :: x1 :: x2 :: y :: r) (.long x :: st) Q := p_lstore_n hd hn (clrS (i := 1) rfl hx) k
theorem p_ls_5 {x0 x1 x2 x3 x4 x5 y : Value} {x : Int64} (hd : decode M.1 pc = .ok (.lstore 5, 2)) (hn : 5 + 1 < M.2.2.1) (hx : x4.category = 1) (k : WP Γ M B S I J (pc + 2) (x0 :: x1 :: x2 :: x3 :: x4 :: .long x :: .null :: r) st Q) : WP Γ M B S I J pc (x0 :: x1 :: x2 :: x3 :: x4 :: x5 :: y :: r) (.long x :: st) Q := p_lstore hd hn (clrS (i := 4) rfl hx) k
theorem p_ls_6 {x0 x1 x2 x3 x4 x5 x6 y : Value} {x : Int64} (hd : decode M.1 pc = .ok (.lstore 6, 2)) (hn : 6 + 1 < M.2.2.1) (hx : x5.category = 1) (k : WP Γ M B S I J (pc + 2) (x0 :: x1 :: x2 :: x3 :: x4 :: x5 :: .long x :: .null :: r) st Q) : WP Γ M B S I J pc (x0 :: x1 :: x2 :: x3 :: x4 :: x5 :: x6 :: y :: r) (.long x :: st) Q := p_lstore hd hn (clrS (i := 5) rfl hx) k
theorem p_ls_7 {x0 x1 x2 x3 x4 x5 x6 x7 y : Value} {x : Int64} (hd : decode M.1 pc = .ok (.lstore 7, 2)) (hn : 7 + 1 < M.2.2.1) (hx : x6.category = 1) (k : WP Γ M B S I J (pc + 2) (x0 :: x1 :: x2 :: x3 :: x4 :: x5 :: x6 :: .long x :: .null :: r) st Q) : WP Γ M B S I J pc (x0 :: x1 :: x2 :: x3 :: x4 :: x5 :: x6 :: x7 :: y :: r) (.long x :: st) Q := p_lstore hd hn (clrS (i := 6) rfl hx) k
theorem p_ls_8 {x0 x1 x2 x3 x4 x5 x6 x7 x8 y : Value} {x : Int64} (hd : decode M.1 pc = .ok (.lstore 8, 2)) (hn : 8 + 1 < M.2.2.1) (hx : x7.category = 1) (k : WP Γ M B S I J (pc + 2) (x0 :: x1 :: x2 :: x3 :: x4 :: x5 :: x6 :: x7 :: .long x :: .null :: r) st Q) : WP Γ M B S I J pc (x0 :: x1 :: x2 :: x3 :: x4 :: x5 :: x6 :: x7 :: x8 :: y :: r) (.long x :: st) Q := p_lstore hd hn (clrS (i := 7) rfl hx) k
theorem p_ls_9 {x0 x1 x2 x3 x4 x5 x6 x7 x8 x9 y : Value} {x : Int64} (hd : decode M.1 pc = .ok (.lstore 9, 2)) (hn : 9 + 1 < M.2.2.1) (hx : x8.category = 1) (k : WP Γ M B S I J (pc + 2) (x0 :: x1 :: x2 :: x3 :: x4 :: x5 :: x6 :: x7 :: x8 :: .long x :: .null :: r) st Q) : WP Γ M B S I J pc (x0 :: x1 :: x2 :: x3 :: x4 :: x5 :: x6 :: x7 :: x8 :: x9 :: y :: r) (.long x :: st) Q := p_lstore hd hn (clrS (i := 8) rfl hx) k
theorem p_ls_10 {x0 x1 x2 x3 x4 x5 x6 x7 x8 x9 x10 y : Value} {x : Int64} (hd : decode M.1 pc = .ok (.lstore 10, 2)) (hn : 10 + 1 < M.2.2.1) (hx : x9.category = 1) (k : WP Γ M B S I J (pc + 2) (x0 :: x1 :: x2 :: x3 :: x4 :: x5 :: x6 :: x7 :: x8 :: x9 :: .long x :: .null :: r) st Q) : WP Γ M B S I J pc (x0 :: x1 :: x2 :: x3 :: x4 :: x5 :: x6 :: x7 :: x8 :: x9 :: x10 :: y :: r) (.long x :: st) Q := p_lstore hd hn (clrS (i := 9) rfl hx) k
theorem p_ls_11 {x0 x1 x2 x3 x4 x5 x6 x7 x8 x9 x10 x11 y : Value} {x : Int64} (hd : decode M.1 pc = .ok (.lstore 11, 2)) (hn : 11 + 1 < M.2.2.1) (hx : x10.category = 1) (k : WP Γ M B S I J (pc + 2) (x0 :: x1 :: x2 :: x3 :: x4 :: x5 :: x6 :: x7 :: x8 :: x9 :: x10 :: .long x :: .null :: r) st Q) : WP Γ M B S I J pc (x0 :: x1 :: x2 :: x3 :: x4 :: x5 :: x6 :: x7 :: x8 :: x9 :: x10 :: x11 :: y :: r) (.long x :: st) Q := p_lstore hd hn (clrS (i := 10) rfl hx) k
theorem p_ls_12 {x0 x1 x2 x3 x4 x5 x6 x7 x8 x9 x10 x11 x12 y : Value} {x : Int64} (hd : decode M.1 pc = .ok (.lstore 12, 2)) (hn : 12 + 1 < M.2.2.1) (hx : x11.category = 1) (k : WP Γ M B S I J (pc + 2) (x0 :: x1 :: x2 :: x3 :: x4 :: x5 :: x6 :: x7 :: x8 :: x9 :: x10 :: x11 :: .long x :: .null :: r) st Q) : WP Γ M B S I J pc (x0 :: x1 :: x2 :: x3 :: x4 :: x5 :: x6 :: x7 :: x8 :: x9 :: x10 :: x11 :: x12 :: y :: r) (.long x :: st) Q := p_lstore hd hn (clrS (i := 11) rfl hx) k
theorem p_ls_14 {x0 x1 x2 x3 x4 x5 x6 x7 x8 x9 x10 x11 x12 x13 x14 y : Value} {x : Int64} (hd : decode M.1 pc = .ok (.lstore 14, 2)) (hn : 14 + 1 < M.2.2.1) (hx : x13.category = 1) (k : WP Γ M B S I J (pc + 2) (x0 :: x1 :: x2 :: x3 :: x4 :: x5 :: x6 :: x7 :: x8 :: x9 :: x10 :: x11 :: x12 :: x13 :: .long x :: .null :: r) st Q) : WP Γ M B S I J pc (x0 :: x1 :: x2 :: x3 :: x4 :: x5 :: x6 :: x7 :: x8 :: x9 :: x10 :: x11 :: x12 :: x13 :: x14 :: y :: r) (.long x :: st) Q := p_lstore hd hn (clrS (i := 13) rfl hx) k
theorem p_inc_1_1 {x0 : Value} {x : Int32} (hd : decode M.1 pc = .ok (.iinc 1 1, 3)) (hn : 1 < M.2.2.1) (hx : x0.category = 1) (k : WP Γ M B S I J (pc + 3) (x0 :: .int (x + 1) :: r) st Q) : WP Γ M B S I J pc (x0 :: .int x :: r) st Q := p_iinc (x := x) (v := x + 1) hd rfl (by rw [show Int32.ofInt 1 = 1 by decide]) hn (clrS (i := 0) rfl hx) k
theorem p_incN_1_1 {x0 : Value} {a : Nat} (hd : decode M.1 pc = .ok (.iinc 1 1, 3)) (hn : 1 < M.2.2.1) (hx : x0.category = 1) (k : WP Γ M B S I J (pc + 3) (x0 :: .int (nI (a + 1)) :: r) st Q) : WP Γ M B S I J pc (x0 :: .int (nI a) :: r) st Q := p_iinc (x := nI a) (v := nI (a + 1)) hd rfl (by rw [show Int32.ofInt 1 = nI 1 by decide, nI_add]) hn (clrS (i := 0) rfl hx) k
theorem p_inc_2_1 {x0 x1 : Value} {x : Int32} (hd : decode M.1 pc = .ok (.iinc 2 1, 3)) (hn : 2 < M.2.2.1) (hx : x1.category = 1) (k : WP Γ M B S I J (pc + 3) (x0 :: x1 :: .int (x + 1) :: r) st Q) : WP Γ M B S I J pc (x0 :: x1 :: .int x :: r) st Q := p_iinc (x := x) (v := x + 1) hd rfl (by rw [show Int32.ofInt 1 = 1 by decide]) hn (clrS (i := 1) rfl hx) k
theorem p_incN_2_1 {x0 x1 : Value} {a : Nat} (hd : decode M.1 pc = .ok (.iinc 2 1, 3)) (hn : 2 < M.2.2.1) (hx : x1.category = 1) (k : WP Γ M B S I J (pc + 3) (x0 :: x1 :: .int (nI (a + 1)) :: r) st Q) : WP Γ M B S I J pc (x0 :: x1 :: .int (nI a) :: r) st Q := p_iinc (x := nI a) (v := nI (a + 1)) hd rfl (by rw [show Int32.ofInt 1 = nI 1 by decide, nI_add]) hn (clrS (i := 1) rfl hx) k
theorem p_inc_3_1 {x0 x1 x2 : Value} {x : Int32} (hd : decode M.1 pc = .ok (.iinc 3 1, 3)) (hn : 3 < M.2.2.1) (hx : x2.category = 1) (k : WP Γ M B S I J (pc + 3) (x0 :: x1 :: x2 :: .int (x + 1) :: r) st Q) : WP Γ M B S I J pc (x0 :: x1 :: x2 :: .int x :: r) st Q := p_iinc (x := x) (v := x + 1) hd rfl (by rw [show Int32.ofInt 1 = 1 by decide]) hn (clrS (i := 2) rfl hx) k
theorem p_incN_3_1 {x0 x1 x2 : Value} {a : Nat} (hd : decode M.1 pc = .ok (.iinc 3 1, 3)) (hn : 3 < M.2.2.1) (hx : x2.category = 1) (k : WP Γ M B S I J (pc + 3) (x0 :: x1 :: x2 :: .int (nI (a + 1)) :: r) st Q) : WP Γ M B S I J pc (x0 :: x1 :: x2 :: .int (nI a) :: r) st Q := p_iinc (x := nI a) (v := nI (a + 1)) hd rfl (by rw [show Int32.ofInt 1 = nI 1 by decide, nI_add]) hn (clrS (i := 2) rfl hx) k
theorem p_inc_3_6 {x0 x1 x2 : Value} {x : Int32} (hd : decode M.1 pc = .ok (.iinc 3 6, 3)) (hn : 3 < M.2.2.1) (hx : x2.category = 1) (k : WP Γ M B S I J (pc + 3) (x0 :: x1 :: x2 :: .int (x + 6) :: r) st Q) : WP Γ M B S I J pc (x0 :: x1 :: x2 :: .int x :: r) st Q := p_iinc (x := x) (v := x + 6) hd rfl (by rw [show Int32.ofInt 6 = 6 by decide]) hn (clrS (i := 2) rfl hx) k
theorem p_incN_3_6 {x0 x1 x2 : Value} {a : Nat} (hd : decode M.1 pc = .ok (.iinc 3 6, 3)) (hn : 3 < M.2.2.1) (hx : x2.category = 1) (k : WP Γ M B S I J (pc + 3) (x0 :: x1 :: x2 :: .int (nI (a + 6)) :: r) st Q) : WP Γ M B S I J pc (x0 :: x1 :: x2 :: .int (nI a) :: r) st Q := p_iinc (x := nI a) (v := nI (a + 6)) hd rfl (by rw [show Int32.ofInt 6 = nI 6 by decide, nI_add]) hn (clrS (i := 2) rfl hx) k
theorem p_inc_4_1 {x0 x1 x2 x3 : Value} {x : Int32} (hd : decode M.1 pc = .ok (.iinc 4 1, 3)) (hn : 4 < M.2.2.1) (hx : x3.category = 1) (k : WP Γ M B S I J (pc + 3) (x0 :: x1 :: x2 :: x3 :: .int (x + 1) :: r) st Q) : WP Γ M B S I J pc (x0 :: x1 :: x2 :: x3 :: .int x :: r) st Q := p_iinc (x := x) (v := x + 1) hd rfl (by rw [show Int32.ofInt 1 = 1 by decide]) hn (clrS (i := 3) rfl hx) k
theorem p_incN_4_1 {x0 x1 x2 x3 : Value} {a : Nat} (hd : decode M.1 pc = .ok (.iinc 4 1, 3)) (hn : 4 < M.2.2.1) (hx : x3.category = 1) (k : WP Γ M B S I J (pc + 3) (x0 :: x1 :: x2 :: x3 :: .int (nI (a + 1)) :: r) st Q) : WP Γ M B S I J pc (x0 :: x1 :: x2 :: x3 :: .int (nI a) :: r) st Q := p_iinc (x := nI a) (v := nI (a + 1)) hd rfl (by rw [show Int32.ofInt 1 = nI 1 by decide, nI_add]) hn (clrS (i := 3) rfl hx) k
theorem p_inc_4_2 {x0 x1 x2 x3 : Value} {x : Int32} (hd : decode M.1 pc = .ok (.iinc 4 2, 3)) (hn : 4 < M.2.2.1) (hx : x3.category = 1) (k : WP Γ M B S I J (pc + 3) (x0 :: x1 :: x2 :: x3 :: .int (x + 2) :: r) st Q) : WP Γ M B S I J pc (x0 :: x1 :: x2 :: x3 :: .int x :: r) st Q := p_iinc (x := x) (v := x + 2) hd rfl (by rw [show Int32.ofInt 2 = 2 by decide]) hn (clrS (i := 3) rfl hx) k
theorem p_incN_4_2 {x0 x1 x2 x3 : Value} {a : Nat} (hd : decode M.1 pc = .ok (.iinc 4 2, 3)) (hn : 4 < M.2.2.1) (hx : x3.category = 1) (k : WP Γ M B S I J (pc + 3) (x0 :: x1 :: x2 :: x3 :: .int (nI (a + 2)) :: r) st Q) : WP Γ M B S I J pc (x0 :: x1 :: x2 :: x3 :: .int (nI a) :: r) st Q := p_iinc (x := nI a) (v := nI (a + 2)) hd rfl (by rw [show Int32.ofInt 2 = nI 2 by decide, nI_add]) hn (clrS (i := 3) rfl hx) k
theorem p_inc_5_1 {x0 x1 x2 x3 x4 : Value} {x : Int32} (hd : decode M.1 pc = .ok (.iinc 5 1, 3)) (hn : 5 < M.2.2.1) (hx : x4.category = 1) (k : WP Γ M B S I J (pc + 3) (x0 :: x1 :: x2 :: x3 :: x4 :: .int (x + 1) :: r) st Q) : WP Γ M B S I J pc (x0 :: x1 :: x2 :: x3 :: x4 :: .int x :: r) st Q := p_iinc (x := x) (v := x + 1) hd rfl (by rw [show Int32.ofInt 1 = 1 by decide]) hn (clrS (i := 4) rfl hx) k
theorem p_incN_5_1 {x0 x1 x2 x3 x4 : Value} {a : Nat} (hd : decode M.1 pc = .ok (.iinc 5 1, 3)) (hn : 5 < M.2.2.1) (hx : x4.category = 1) (k : WP Γ M B S I J (pc + 3) (x0 :: x1 :: x2 :: x3 :: x4 :: .int (nI (a + 1)) :: r) st Q) : WP Γ M B S I J pc (x0 :: x1 :: x2 :: x3 :: x4 :: .int (nI a) :: r) st Q := p_iinc (x := nI a) (v := nI (a + 1)) hd rfl (by rw [show Int32.ofInt 1 = nI 1 by decide, nI_add]) hn (clrS (i := 4) rfl hx) k
theorem p_inc_9_1 {x0 x1 x2 x3 x4 x5 x6 x7 x8 : Value} {x : Int32} (hd : decode M.1 pc = .ok (.iinc 9 1, 3)) (hn : 9 < M.2.2.1) (hx : x8.category = 1) (k : WP Γ M B S I J (pc + 3) (x0 :: x1 :: x2 :: x3 :: x4 :: x5 :: x6 :: x7 :: x8 :: .int (x + 1) :: r) st Q) : WP Γ M B S I J pc (x0 :: x1 :: x2 :: x3 :: x4 :: x5 :: x6 :: x7 :: x8 :: .int x :: r) st Q := p_iinc (x := x) (v := x + 1) hd rfl (by rw [show Int32.ofInt 1 = 1 by decide]) hn (clrS (i := 8) rfl hx) k
theorem p_incN_9_1 {x0 x1 x2 x3 x4 x5 x6 x7 x8 : Value} {a : Nat} (hd : decode M.1 pc = .ok (.iinc 9 1, 3)) (hn : 9 < M.2.2.1) (hx : x8.category = 1) (k : WP Γ M B S I J (pc + 3) (x0 :: x1 :: x2 :: x3 :: x4 :: x5 :: x6 :: x7 :: x8 :: .int (nI (a + 1)) :: r) st Q) : WP Γ M B S I J pc (x0 :: x1 :: x2 :: x3 :: x4 :: x5 :: x6 :: x7 :: x8 :: .int (nI a) :: r) st Q := p_iinc (x := nI a) (v := nI (a + 1)) hd rfl (by rw [show Int32.ofInt 1 = nI 1 by decide, nI_add]) hn (clrS (i := 8) rfl hx) k
theorem p_inc_10_1 {x0 x1 x2 x3 x4 x5 x6 x7 x8 x9 : Value} {x : Int32} (hd : decode M.1 pc = .ok (.iinc 10 1, 3)) (hn : 10 < M.2.2.1) (hx : x9.category = 1) (k : WP Γ M B S I J (pc + 3) (x0 :: x1 :: x2 :: x3 :: x4 :: x5 :: x6 :: x7 :: x8 :: x9 :: .int (x + 1) :: r) st Q) : WP Γ M B S I J pc (x0 :: x1 :: x2 :: x3 :: x4 :: x5 :: x6 :: x7 :: x8 :: x9 :: .int x :: r) st Q := p_iinc (x := x) (v := x + 1) hd rfl (by rw [show Int32.ofInt 1 = 1 by decide]) hn (clrS (i := 9) rfl hx) k
theorem p_incN_10_1 {x0 x1 x2 x3 x4 x5 x6 x7 x8 x9 : Value} {a : Nat} (hd : decode M.1 pc = .ok (.iinc 10 1, 3)) (hn : 10 < M.2.2.1) (hx : x9.category = 1) (k : WP Γ M B S I J (pc + 3) (x0 :: x1 :: x2 :: x3 :: x4 :: x5 :: x6 :: x7 :: x8 :: x9 :: .int (nI (a + 1)) :: r) st Q) : WP Γ M B S I J pc (x0 :: x1 :: x2 :: x3 :: x4 :: x5 :: x6 :: x7 :: x8 :: x9 :: .int (nI a) :: r) st Q := p_iinc (x := nI a) (v := nI (a + 1)) hd rfl (by rw [show Int32.ofInt 1 = nI 1 by decide, nI_add]) hn (clrS (i := 9) rfl hx) k
theorem p_inc_13_1 {x0 x1 x2 x3 x4 x5 x6 x7 x8 x9 x10 x11 x12 : Value} {x : Int32} (hd : decode M.1 pc = .ok (.iinc 13 1, 3)) (hn : 13 < M.2.2.1) (hx : x12.category = 1) (k : WP Γ M B S I J (pc + 3) (x0 :: x1 :: x2 :: x3 :: x4 :: x5 :: x6 :: x7 :: x8 :: x9 :: x10 :: x11 :: x12 :: .int (x + 1) :: r) st Q) : WP Γ M B S I J pc (x0 :: x1 :: x2 :: x3 :: x4 :: x5 :: x6 :: x7 :: x8 :: x9 :: x10 :: x11 :: x12 :: .int x :: r) st Q := p_iinc (x := x) (v := x + 1) hd rfl (by rw [show Int32.ofInt 1 = 1 by decide]) hn (clrS (i := 12) rfl hx) k
theorem p_incN_13_1 {x0 x1 x2 x3 x4 x5 x6 x7 x8 x9 x10 x11 x12 : Value} {a : Nat} (hd : decode M.1 pc = .ok (.iinc 13 1, 3)) (hn : 13 < M.2.2.1) (hx : x12.category = 1) (k : WP Γ M B S I J (pc + 3) (x0 :: x1 :: x2 :: x3 :: x4 :: x5 :: x6 :: x7 :: x8 :: x9 :: x10 :: x11 :: x12 :: .int (nI (a + 1)) :: r) st Q) : WP Γ M B S I J pc (x0 :: x1 :: x2 :: x3 :: x4 :: x5 :: x6 :: x7 :: x8 :: x9 :: x10 :: x11 :: x12 :: .int (nI a) :: r) st Q := p_iinc (x := nI a) (v := nI (a + 1)) hd rfl (by rw [show Int32.ofInt 1 = nI 1 by decide, nI_add]) hn (clrS (i := 12) rfl hx) k
/-- a number by another name -/
theorem p_eqI {x y : Int32} (h : x = y) (k : WP Γ M B S I J pc ls (.int y :: st) Q) : WP Γ M B S I J pc ls (.int x :: st) Q := h ▸ k
theorem p_eqL {x y : Int64} (h : x = y) (k : WP Γ M B S I J pc ls (.long y :: st) Q) : WP Γ M B S I J pc ls (.long x :: st) Q := h ▸ k
theorem p_nmI {x : Int32} (k : ∀ y : Int32, y = x → WP Γ M B S I J pc ls (.int y :: st) Q) : WP Γ M B S I J pc ls (.int x :: st) Q := k x rfl
theorem p_nmM (k : ∀ I' : MemI, I' = I → WP Γ M B S I' J pc ls st Q) : WP Γ M B S I J pc ls st Q := k I rfl
theorem p_iaddN {x y : Int32} (a b : Nat) (hd : decode M.1 pc = .ok (.iadd, 1)) (hx : x = nI a) (hy : y = nI b) (k : WP Γ M B S I J (pc + 1) ls (.int (nI (a + b)) :: st) Q) : WP Γ M B S I J pc ls (.int y :: .int x :: st) Q := p_iadd hd (by rw [hx, hy, nI_add]; exact k)
theorem p_isubN {x y : Int32} (a b : Nat) (hd : decode M.1 pc = .ok (.isub, 1)) (hx : x = nI a) (hy : y = nI b) (h : b ≤ a) (k : WP Γ M B S I J (pc + 1) ls (.int (nI (a - b)) :: st) Q) : WP Γ M B S I J pc ls (.int y :: .int x :: st) Q := p_isub hd (by rw [hx, hy, pk_sub h]; exact k)
theorem p_imulN {x y : Int32} (a b : Nat) (hd : decode M.1 pc = .ok (.imul, 1)) (hx : x = nI a) (hy : y = nI b) (k : WP Γ M B S I J (pc + 1) ls (.int (nI (a * b)) :: st) Q) : WP Γ M B S I J pc ls (.int y :: .int x :: st) Q := p_imul hd (by rw [hx, hy, pk_mul]; exact k)
theorem p_ialdN {a n : Nat} {x : Int32} (i : Nat) (hd : decode M.1 pc = .ok (.iaload, 1)) (ha : ar S a 10 n) (hx : x = nI i) (hi : i < n) (hn : Nat.ble n 1000 = true) (kk : WP Γ M B S I J (pc + 1) ls (.int (I a i) :: st) Q) : WP Γ M B S I J pc ls (.int x :: .ref a :: st) Q := by
  subst hx
  have h1 := leb hn
  refine p_iald hd ha (vp_in_nI hi (by omega)) ?_
  rw [nI_clamp (by omega)]
  exact kk
theorem p_zaldN {a n : Nat} {x : Int32} (i : Nat) (hd : decode M.1 pc = .ok (.baload, 1)) (ha : ar S a 11 n) (hx : x = nI i) (hi : i < n) (hn : Nat.ble n 1000 = true) (kk : WP Γ M B S I J (pc + 1) ls (.int (I a i) :: st) Q) : WP Γ M B S I J pc ls (.int x :: .ref a :: st) Q := by
  subst hx
  have h1 := leb hn
  refine p_zald hd ha (vp_in_nI hi (by omega)) ?_
  rw [nI_clamp (by omega)]
  exact kk
theorem p_aaldN {a n b : Nat} {x : Int32} (i : Nat) (hd : decode M.1 pc = .ok (.aaload, 1)) (ha : ar S a 12 n) (hx : x = nI i) (hi : i < n) (hn : Nat.ble n 1000 = true) (hb : S.2.2 a i = some b) (kk : WP Γ M B S I J (pc + 1) ls (.ref b :: st) Q) : WP Γ M B S I J pc ls (.int x :: .ref a :: st) Q := by
  subst hx
  have h1 := leb hn
  exact p_aald hd ha (vp_in_nI hi (by omega)) (by rw [nI_clamp (by omega)]; exact hb) kk
theorem p_iastN {a n : Nat} {x v : Int32} (i : Nat) (hd : decode M.1 pc = .ok (.iastore, 1)) (ha : ar S a 10 n) (hx : x = nI i) (hi : i < n) (hn : Nat.ble n 1000 = true) (kk : WP Γ M B S (up2 I a i v) J (pc + 1) ls st Q) : WP Γ M B S I J pc ls (.int v :: .int x :: .ref a :: st) Q := by
  subst hx
  have h1 := leb hn
  refine p_iast hd ha (vp_in_nI hi (by omega)) ?_
  rw [nI_clamp (by omega)]
  exact kk
theorem p_zastN {a n : Nat} {x v : Int32} (i : Nat) (hd : decode M.1 pc = .ok (.bastore, 1)) (ha : ar S a 11 n) (hx : x = nI i) (hi : i < n) (hn : Nat.ble n 1000 = true) (hv : v = 0 ∨ v = 1) (kk : WP Γ M B S (up2 I a i v) J (pc + 1) ls st Q) : WP Γ M B S I J pc ls (.int v :: .int x :: .ref a :: st) Q := by
  subst hx
  have h1 := leb hn
  refine p_zast hd ha (vp_in_nI hi (by omega)) hv ?_
  rw [nI_clamp (by omega)]
  exact kk
theorem p_sldN {x : Int32} (i : Nat) (hd : decode M.1 pc = .ok (.iaload, 1)) (hx : x = nI i) (hi : i < Γ.2.1.1) (hn : Γ.2.1.1 ≤ 1000) (kk : WP Γ M B S I J (pc + 1) ls (.int (Γ.2.1.2 i) :: st) Q) : WP Γ M B S I J pc ls (.int x :: .ref 0 :: st) Q := by
  subst hx
  refine p_sld hd (vp_in_nI hi (by omega)) ?_
  rw [nI_clamp (by omega)]
  exact kk
theorem p_icmpeqN {x y : Int32} {off : Int} {tgt : Nat} (a b : Nat) (hd : decode M.1 pc = .ok (.if_icmp .eq off, 3)) (ht : (pc : Int) + off = (tgt : Int)) (hx : x = nI a) (hy : y = nI b) (ha : a < 2 ^ 31) (hb : b < 2 ^ 31) (kt : a = b → WP Γ M B S I J tgt ls st Q) (kf : ¬ a = b → WP Γ M B S I J (pc + 3) ls st Q) : WP Γ M B S I J pc ls (.int y :: .int x :: st) Q := by
  subst hx
  subst hy
  exact p_icmpeq hd ht (fun h => kt ((nI_eq ha hb).mp h)) (fun h => kf (fun q => h ((nI_eq ha hb).mpr q)))
theorem p_icmpltN {x y : Int32} {off : Int} {tgt : Nat} (a b : Nat) (hd : decode M.1 pc = .ok (.if_icmp .lt off, 3)) (ht : (pc : Int) + off = (tgt : Int)) (hx : x = nI a) (hy : y = nI b) (ha : a < 2 ^ 31) (hb : b < 2 ^ 31) (kt : a < b → WP Γ M B S I J tgt ls st Q) (kf : ¬ a < b → WP Γ M B S I J (pc + 3) ls st Q) : WP Γ M B S I J pc ls (.int y :: .int x :: st) Q := by
  subst hx
  subst hy
  exact p_icmplt hd ht (fun h => kt ((nI_ltI ha hb).mp h)) (fun h => kf (fun q => h ((nI_ltI ha hb).mpr q)))
theorem p_icmpgeN {x y : Int32} {off : Int} {tgt : Nat} (a b : Nat) (hd : decode M.1 pc = .ok (.if_icmp .ge off, 3)) (ht : (pc : Int) + off = (tgt : Int)) (hx : x = nI a) (hy : y = nI b) (ha : a < 2 ^ 31) (hb : b < 2 ^ 31) (kt : b ≤ a → WP Γ M B S I J tgt ls st Q) (kf : ¬ b ≤ a → WP Γ M B S I J (pc + 3) ls st Q) : WP Γ M B S I J pc ls (.int y :: .int x :: st) Q := by
  subst hx
  subst hy
  exact p_icmpge hd ht (fun h => kt ((nI_leI hb ha).mp h)) (fun h => kf (fun q => h ((nI_leI hb ha).mpr q)))
theorem p_icmpgtN {x y : Int32} {off : Int} {tgt : Nat} (a b : Nat) (hd : decode M.1 pc = .ok (.if_icmp .gt off, 3)) (ht : (pc : Int) + off = (tgt : Int)) (hx : x = nI a) (hy : y = nI b) (ha : a < 2 ^ 31) (hb : b < 2 ^ 31) (kt : b < a → WP Γ M B S I J tgt ls st Q) (kf : ¬ b < a → WP Γ M B S I J (pc + 3) ls st Q) : WP Γ M B S I J pc ls (.int y :: .int x :: st) Q := by
  subst hx
  subst hy
  exact p_icmpgt hd ht (fun h => kt ((nI_ltI hb ha).mp h)) (fun h => kf (fun q => h ((nI_ltI hb ha).mpr q)))
theorem p_icmpleN {x y : Int32} {off : Int} {tgt : Nat} (a b : Nat) (hd : decode M.1 pc = .ok (.if_icmp .le off, 3)) (ht : (pc : Int) + off = (tgt : Int)) (hx : x = nI a) (hy : y = nI b) (ha : a < 2 ^ 31) (hb : b < 2 ^ 31) (kt : a ≤ b → WP Γ M B S I J tgt ls st Q) (kf : ¬ a ≤ b → WP Γ M B S I J (pc + 3) ls st Q) : WP Γ M B S I J pc ls (.int y :: .int x :: st) Q := by
  subst hx
  subst hy
  exact p_icmple hd ht (fun h => kt ((nI_leI ha hb).mp h)) (fun h => kf (fun q => h ((nI_leI ha hb).mpr q)))
theorem p_icmpneN {x y : Int32} {off : Int} {tgt : Nat} (a b : Nat) (hd : decode M.1 pc = .ok (.if_icmp .ne off, 3)) (ht : (pc : Int) + off = (tgt : Int)) (hx : x = nI a) (hy : y = nI b) (ha : a < 2 ^ 31) (hb : b < 2 ^ 31) (kt : ¬ a = b → WP Γ M B S I J tgt ls st Q) (kf : a = b → WP Γ M B S I J (pc + 3) ls st Q) : WP Γ M B S I J pc ls (.int y :: .int x :: st) Q := by
  subst hx
  subst hy
  exact p_icmpne hd ht (fun h => kt (fun q => h ((nI_eq ha hb).mpr q))) (fun h => kf ((nI_eq ha hb).mp h))
/-- yes and no as numbers -/
def bI (P : Prop) [Decidable P] : Int32 := if P then 1 else 0
theorem bI_t {P : Prop} [Decidable P] (h : P) : bI P = 1 := by simp [bI, h]
theorem bI_f {P : Prop} [Decidable P] (h : ¬ P) : bI P = 0 := by simp [bI, h]
theorem bI_nar {P : Prop} [Decidable P] : narrow .boolean (.int (bI P)) = .int (bI P) := by
  by_cases h : P
  · rw [bI_t h]; rfl
  · rw [bI_f h]; rfl
theorem bI_01 {P : Prop} [Decidable P] : bI P = 0 ∨ bI P = 1 := by
  by_cases h : P
  · exact Or.inr (bI_t h)
  · exact Or.inl (bI_f h)
theorem p_ifeqB {P : Prop} [Decidable P] {off : Int} {tgt : Nat} (hd : decode M.1 pc = .ok (.ifCond .eq off, 3)) (ht : (pc : Int) + off = (tgt : Int)) (kt : ¬ P → WP Γ M B S I J tgt ls st Q) (kf : P → WP Γ M B S I J (pc + 3) ls st Q) : WP Γ M B S I J pc ls (.int (bI P) :: st) Q := by
  refine p_ifeq hd ht (fun h => kt (fun q => ?_)) (fun h => kf ?_)
  · rw [bI_t q] at h
    exact absurd h (by decide)
  · by_cases q : P
    · exact q
    · exact absurd (bI_f q) h
theorem p_ifneB {P : Prop} [Decidable P] {off : Int} {tgt : Nat} (hd : decode M.1 pc = .ok (.ifCond .ne off, 3)) (ht : (pc : Int) + off = (tgt : Int)) (kt : P → WP Γ M B S I J tgt ls st Q) (kf : ¬ P → WP Γ M B S I J (pc + 3) ls st Q) : WP Γ M B S I J pc ls (.int (bI P) :: st) Q := by
  refine p_ifne hd ht (fun h => kt ?_) (fun h => kf (fun q => ?_))
  · by_cases q : P
    · exact q
    · exact absurd (bI_f q) h
  · rw [bI_t q] at h
    exact absurd h (by decide)
/-- calls of methods that make nothing -/
def VB (N : MI) (n ci : Nat) : Prop := MOK n N ∧ MV N ∧ (N.2.2.2.2.1.cells = 0 ∧ N.2.2.2.2.1.slots = 0) ∧ ∃ q : vw_C, vwCl[ci]? = some q ∧ q.1 = N.2.2.2.2.2.cls
def SB (N : MI) (n : Nat) : Prop := MOK n N ∧ Cond.static N.2.2.2.2.2 ∈ WS ∧ (N.2.2.2.2.1.cells = 0 ∧ N.2.2.2.2.1.slots = 0)
theorem q_V {idx n ci a : Nat} {av : List Value} (hd : decode M.1 pc = .ok (.invokevirtual idx, 3)) (hl0 : Cond.methodLink M.2.1 idx N.2.2.2.2.2 ∈ WS) (vb : VB N n ci) (hk : kd S a ci) (hrm : RmOK M N) (hc : Ct Γ N (.ref a :: av) S I J Q1) (hst0 : st = (.ref a :: av).reverse ++ rest) (hn : av.length = n) (hst : Nat.ble ((rest.map fun v => v.category).sum) 8 = true)
    (kk : ∀ r S' I' J', Q1 r S' I' J' → WP Γ M B S' I' J' (pc + 3) ls (r.toList ++ rest) Q) : WP Γ M B S I J pc ls st Q := by
  subst hst0
  obtain ⟨hok, hv, ⟨z1, z2⟩, q, hq, hC⟩ := vb
  exact p_invV hd hl0 hok hv hn hk hq hC hrm (leb hst) ⟨by omega, by omega⟩ hc kk
theorem q_V1 {idx n ci a : Nat} {av : List Value} {I' : MemI} {J' : MemJ} {v : Value} (hd : decode M.1 pc = .ok (.invokevirtual idx, 3)) (hl0 : Cond.methodLink M.2.1 idx N.2.2.2.2.2 ∈ WS) (vb : VB N n ci) (hk : kd S a ci) (hrm : RmOK M N) (hc : Ct Γ N (.ref a :: av) S I J (eqQ (some v) S I' J')) (hst0 : st = (.ref a :: av).reverse ++ rest) (hn : av.length = n) (hst : Nat.ble ((rest.map fun v => v.category).sum) 8 = true)
    (kk : WP Γ M B S I' J' (pc + 3) ls (v :: rest) Q) : WP Γ M B S I J pc ls st Q :=
  q_V hd hl0 vb hk hrm hc hst0 hn hst (fun r S' I' J' h => by obtain ⟨rfl, rfl, rfl, rfl⟩ := h; exact kk)
theorem q_V0 {idx n ci a : Nat} {av : List Value} {I' : MemI} {J' : MemJ} (hd : decode M.1 pc = .ok (.invokevirtual idx, 3)) (hl0 : Cond.methodLink M.2.1 idx N.2.2.2.2.2 ∈ WS) (vb : VB N n ci) (hk : kd S a ci) (hrm : RmOK M N) (hc : Ct Γ N (.ref a :: av) S I J (eqQ none S I' J')) (hst0 : st = (.ref a :: av).reverse ++ rest) (hn : av.length = n) (hst : Nat.ble ((rest.map fun v => v.category).sum) 8 = true)
    (kk : WP Γ M B S I' J' (pc + 3) ls rest Q) : WP Γ M B S I J pc ls st Q :=
  q_V hd hl0 vb hk hrm hc hst0 hn hst (fun r S' I' J' h => by obtain ⟨rfl, rfl, rfl, rfl⟩ := h; exact kk)
theorem q_S {idx n : Nat} {av : List Value} (hd : decode M.1 pc = .ok (.invokestatic idx, 3)) (hl0 : Cond.methodLink M.2.1 idx N.2.2.2.2.2 ∈ WS) (sb : SB N n) (hrm : RmOK M N) (hc : Ct Γ N av S I J Q1) (hst0 : st = av.reverse ++ rest) (hn : av.length = n) (hst : Nat.ble ((rest.map fun v => v.category).sum) 8 = true)
    (kk : ∀ r S' I' J', Q1 r S' I' J' → WP Γ M B S' I' J' (pc + 3) ls (r.toList ++ rest) Q) : WP Γ M B S I J pc ls st Q := by
  subst hst0
  obtain ⟨hok, hv, ⟨z1, z2⟩⟩ := sb
  exact p_invS hd hl0 hok hv hn hrm (leb hst) ⟨by omega, by omega⟩ hc kk
theorem q_SN {idx n : Nat} {av : List Value} {host : String} (hd : decode M.1 pc = .ok (.invokestatic idx, 3)) (hl0 : Cond.methodLinkNest M.2.1 idx N.2.2.2.2.2 host ∈ tables_1) (sb : SB N n) (hrm : RmOK M N) (hc : Ct Γ N av S I J Q1) (hst0 : st = av.reverse ++ rest) (hn : av.length = n) (hst : Nat.ble ((rest.map fun v => v.category).sum) 8 = true)
    (kk : ∀ r S' I' J', Q1 r S' I' J' → WP Γ M B S' I' J' (pc + 3) ls (r.toList ++ rest) Q) : WP Γ M B S I J pc ls st Q := by
  subst hst0
  obtain ⟨hok, hv, ⟨z1, z2⟩⟩ := sb
  exact p_invSN hd hl0 hok hv hn hrm (leb hst) ⟨by omega, by omega⟩ hc kk
theorem q_S1 {idx n : Nat} {av : List Value} {I' : MemI} {J' : MemJ} {v : Value} (hd : decode M.1 pc = .ok (.invokestatic idx, 3)) (hl0 : Cond.methodLink M.2.1 idx N.2.2.2.2.2 ∈ WS) (sb : SB N n) (hrm : RmOK M N) (hc : Ct Γ N av S I J (eqQ (some v) S I' J')) (hst0 : st = av.reverse ++ rest) (hn : av.length = n) (hst : Nat.ble ((rest.map fun v => v.category).sum) 8 = true)
    (kk : WP Γ M B S I' J' (pc + 3) ls (v :: rest) Q) : WP Γ M B S I J pc ls st Q :=
  q_S hd hl0 sb hrm hc hst0 hn hst (fun r S' I' J' h => by obtain ⟨rfl, rfl, rfl, rfl⟩ := h; exact kk)
theorem q_S0 {idx n : Nat} {av : List Value} {I' : MemI} {J' : MemJ} (hd : decode M.1 pc = .ok (.invokestatic idx, 3)) (hl0 : Cond.methodLink M.2.1 idx N.2.2.2.2.2 ∈ WS) (sb : SB N n) (hrm : RmOK M N) (hc : Ct Γ N av S I J (eqQ none S I' J')) (hst0 : st = av.reverse ++ rest) (hn : av.length = n) (hst : Nat.ble ((rest.map fun v => v.category).sum) 8 = true)
    (kk : WP Γ M B S I' J' (pc + 3) ls rest Q) : WP Γ M B S I J pc ls st Q :=
  q_S hd hl0 sb hrm hc hst0 hn hst (fun r S' I' J' h => by obtain ⟨rfl, rfl, rfl, rfl⟩ := h; exact kk)
theorem q_SN1 {idx n : Nat} {av : List Value} {host : String} {I' : MemI} {J' : MemJ} {v : Value} (hd : decode M.1 pc = .ok (.invokestatic idx, 3)) (hl0 : Cond.methodLinkNest M.2.1 idx N.2.2.2.2.2 host ∈ tables_1) (sb : SB N n) (hrm : RmOK M N) (hc : Ct Γ N av S I J (eqQ (some v) S I' J')) (hst0 : st = av.reverse ++ rest) (hn : av.length = n) (hst : Nat.ble ((rest.map fun v => v.category).sum) 8 = true)
    (kk : WP Γ M B S I' J' (pc + 3) ls (v :: rest) Q) : WP Γ M B S I J pc ls st Q :=
  q_SN hd hl0 sb hrm hc hst0 hn hst (fun r S' I' J' h => by obtain ⟨rfl, rfl, rfl, rfl⟩ := h; exact kk)
end R2
theorem vb_Ch_empty : VB M_Ch_empty 0 0 := ⟨ok_Ch_empty, mv_Ch_empty, ⟨rfl, rfl⟩, (RX0, TX0, 9), rfl, rfl⟩
theorem vb_Bo_type : VB M_Bo_type 1 4 := ⟨ok_Bo_type, mv_Bo_type, ⟨rfl, rfl⟩, (RX4, TX4, 14), rfl, rfl⟩
theorem sb_Bo_within : SB M_Bo_within 3 := ⟨ok_Bo_within, st_Bo_within, rfl, rfl⟩
theorem vb_Re_add : VB M_Re_add 1 2 := ⟨ok_Re_add, mv_Re_add, ⟨rfl, rfl⟩, (RX2, TX2, 9), rfl, rfl⟩
theorem vb_Bo_clear : VB M_Bo_clear 0 4 := ⟨ok_Bo_clear, mv_Bo_clear, ⟨rfl, rfl⟩, (RX4, TX4, 14), rfl, rfl⟩
theorem vb_Re_empty : VB M_Re_empty 0 2 := ⟨ok_Re_empty, mv_Re_empty, ⟨rfl, rfl⟩, (RX2, TX2, 9), rfl, rfl⟩
theorem vb_Bo_church : VB M_Bo_church 0 4 := ⟨ok_Bo_church, mv_Bo_church, ⟨rfl, rfl⟩, (RX4, TX4, 14), rfl, rfl⟩
theorem vb_Re_readInto : VB M_Re_readInto 1 2 := ⟨ok_Re_readInto, mv_Re_readInto, ⟨rfl, rfl⟩, (RX2, TX2, 9), rfl, rfl⟩
theorem vb_Re_readToken : VB M_Re_readToken 0 2 := ⟨ok_Re_readToken, mv_Re_readToken, ⟨rfl, rfl⟩, (RX2, TX2, 9), rfl, rfl⟩
theorem sb_Re_isDigit : SB M_Re_isDigit 1 := ⟨ok_Re_isDigit, st_Re_isDigit, rfl, rfl⟩
theorem vb_Re_readDigits : VB M_Re_readDigits 0 2 := ⟨ok_Re_readDigits, mv_Re_readDigits, ⟨rfl, rfl⟩, (RX2, TX2, 9), rfl, rfl⟩
theorem vb_Re_readItem : VB M_Re_readItem 1 2 := ⟨ok_Re_readItem, mv_Re_readItem, ⟨rfl, rfl⟩, (RX2, TX2, 9), rfl, rfl⟩
theorem vb_Re_readPew : VB M_Re_readPew 1 2 := ⟨ok_Re_readPew, mv_Re_readPew, ⟨rfl, rfl⟩, (RX2, TX2, 9), rfl, rfl⟩
theorem vb_Re_readNumber : VB M_Re_readNumber 2 2 := ⟨ok_Re_readNumber, mv_Re_readNumber, ⟨rfl, rfl⟩, (RX2, TX2, 9), rfl, rfl⟩
theorem vb_Re_readItemEnd : VB M_Re_readItemEnd 0 2 := ⟨ok_Re_readItemEnd, mv_Re_readItemEnd, ⟨rfl, rfl⟩, (RX2, TX2, 9), rfl, rfl⟩
theorem vb_Re_readWait : VB M_Re_readWait 1 2 := ⟨ok_Re_readWait, mv_Re_readWait, ⟨rfl, rfl⟩, (RX2, TX2, 9), rfl, rfl⟩
theorem vb_Re_readLines : VB M_Re_readLines 1 2 := ⟨ok_Re_readLines, mv_Re_readLines, ⟨rfl, rfl⟩, (RX2, TX2, 9), rfl, rfl⟩
theorem vb_Re_readGap : VB M_Re_readGap 1 2 := ⟨ok_Re_readGap, mv_Re_readGap, ⟨rfl, rfl⟩, (RX2, TX2, 9), rfl, rfl⟩
theorem vb_Ch_copyFrom : VB M_Ch_copyFrom 1 0 := ⟨ok_Ch_copyFrom, mv_Ch_copyFrom, ⟨rfl, rfl⟩, (RX0, TX0, 9), rfl, rfl⟩
theorem vb_Ch_copyPew : VB M_Ch_copyPew 3 0 := ⟨ok_Ch_copyPew, mv_Ch_copyPew, ⟨rfl, rfl⟩, (RX0, TX0, 9), rfl, rfl⟩
theorem vb_Bo_beginAnew : VB M_Bo_beginAnew 0 4 := ⟨ok_Bo_beginAnew, mv_Bo_beginAnew, ⟨rfl, rfl⟩, (RX4, TX4, 14), rfl, rfl⟩
theorem vb_Si_begin : VB M_Si_begin 1 3 := ⟨ok_Si_begin, mv_Si_begin, ⟨rfl, rfl⟩, (RX3, TX3, 7), rfl, rfl⟩
theorem vb_Bo_pew : VB M_Bo_pew 2 4 := ⟨ok_Bo_pew, mv_Bo_pew, ⟨rfl, rfl⟩, (RX4, TX4, 14), rfl, rfl⟩
theorem vb_Ch_has : VB M_Ch_has 1 0 := ⟨ok_Ch_has, mv_Ch_has, ⟨rfl, rfl⟩, (RX0, TX0, 9), rfl, rfl⟩
theorem vb_Ch_lag : VB M_Ch_lag 1 0 := ⟨ok_Ch_lag, mv_Ch_lag, ⟨rfl, rfl⟩, (RX0, TX0, 9), rfl, rfl⟩
theorem vb_Si_isKnower : VB M_Si_isKnower 1 3 := ⟨ok_Si_isKnower, mv_Si_isKnower, ⟨rfl, rfl⟩, (RX3, TX3, 7), rfl, rfl⟩
theorem vb_Bo_now : VB M_Bo_now 1 4 := ⟨ok_Bo_now, mv_Bo_now, ⟨rfl, rfl⟩, (RX4, TX4, 14), rfl, rfl⟩
theorem vb_Si_apart : VB M_Si_apart 1 3 := ⟨ok_Si_apart, mv_Si_apart, ⟨rfl, rfl⟩, (RX3, TX3, 7), rfl, rfl⟩
theorem vb_Bo_line : VB M_Bo_line 0 4 := ⟨ok_Bo_line, mv_Bo_line, ⟨rfl, rfl⟩, (RX4, TX4, 14), rfl, rfl⟩
theorem vb_Hi_remember : VB M_Hi_remember 1 1 := ⟨ok_Hi_remember, mv_Hi_remember, ⟨rfl, rfl⟩, (RX1, TX1, 3), rfl, rfl⟩
theorem vb_Si_copyFrom : VB M_Si_copyFrom 1 3 := ⟨ok_Si_copyFrom, mv_Si_copyFrom, ⟨rfl, rfl⟩, (RX3, TX3, 7), rfl, rfl⟩
theorem vb_Ch_singLine : VB M_Ch_singLine 1 0 := ⟨ok_Ch_singLine, mv_Ch_singLine, ⟨rfl, rfl⟩, (RX0, TX0, 9), rfl, rfl⟩
theorem vb_Ch_lateBehindLine : VB M_Ch_lateBehindLine 2 0 := ⟨ok_Ch_lateBehindLine, mv_Ch_lateBehindLine, ⟨rfl, rfl⟩, (RX0, TX0, 9), rfl, rfl⟩
theorem vb_Ch_meanBeside : VB M_Ch_meanBeside 1 0 := ⟨ok_Ch_meanBeside, mv_Ch_meanBeside, ⟨rfl, rfl⟩, (RX0, TX0, 9), rfl, rfl⟩
theorem vb_Ch_between : VB M_Ch_between 2 0 := ⟨ok_Ch_between, mv_Ch_between, ⟨rfl, rfl⟩, (RX0, TX0, 9), rfl, rfl⟩
theorem sb_Bo_divided : SB M_Bo_divided 2 := ⟨ok_Bo_divided, st_Bo_divided, rfl, rfl⟩
theorem vb_Ch_waitFor : VB M_Ch_waitFor 1 0 := ⟨ok_Ch_waitFor, mv_Ch_waitFor, ⟨rfl, rfl⟩, (RX0, TX0, 9), rfl, rfl⟩
theorem vb_Bo_verse : VB M_Bo_verse 0 4 := ⟨ok_Bo_verse, mv_Bo_verse, ⟨rfl, rfl⟩, (RX4, TX4, 14), rfl, rfl⟩
theorem vb_Ch_singLines : VB M_Ch_singLines 2 0 := ⟨ok_Ch_singLines, mv_Ch_singLines, ⟨rfl, rfl⟩, (RX0, TX0, 9), rfl, rfl⟩
theorem vb_Bo_ahead : VB M_Bo_ahead 1 4 := ⟨ok_Bo_ahead, mv_Bo_ahead, ⟨rfl, rfl⟩, (RX4, TX4, 14), rfl, rfl⟩
theorem vb_Bo_choir : VB M_Bo_choir 1 4 := ⟨ok_Bo_choir, mv_Bo_choir, ⟨rfl, rfl⟩, (RX4, TX4, 14), rfl, rfl⟩
theorem vb_Bo_knows : VB M_Bo_knows 2 4 := ⟨ok_Bo_knows, mv_Bo_knows, ⟨rfl, rfl⟩, (RX4, TX4, 14), rfl, rfl⟩
theorem sb_In_bitCount : SB M_In_bitCount 1 := ⟨ok_In_bitCount, st_In_bitCount, rfl, rfl⟩
theorem vb_Bo_waits : VB M_Bo_waits 1 4 := ⟨ok_Bo_waits, mv_Bo_waits, ⟨rfl, rfl⟩, (RX4, TX4, 14), rfl, rfl⟩
theorem vb_Bo_undo : VB M_Bo_undo 0 4 := ⟨ok_Bo_undo, mv_Bo_undo, ⟨rfl, rfl⟩, (RX4, TX4, 14), rfl, rfl⟩
theorem vb_Hi_takeBack : VB M_Hi_takeBack 1 1 := ⟨ok_Hi_takeBack, mv_Hi_takeBack, ⟨rfl, rfl⟩, (RX1, TX1, 3), rfl, rfl⟩
theorem vb_Bo_behind : VB M_Bo_behind 2 4 := ⟨ok_Bo_behind, mv_Bo_behind, ⟨rfl, rfl⟩, (RX4, TX4, 14), rfl, rfl⟩
theorem vb_Bo_asleep : VB M_Bo_asleep 1 4 := ⟨ok_Bo_asleep, mv_Bo_asleep, ⟨rfl, rfl⟩, (RX4, TX4, 14), rfl, rfl⟩
theorem vb_Bo_rest : VB M_Bo_rest 0 4 := ⟨ok_Bo_rest, mv_Bo_rest, ⟨rfl, rfl⟩, (RX4, TX4, 14), rfl, rfl⟩
theorem vb_Si_isAsLateAs : VB M_Si_isAsLateAs 2 3 := ⟨ok_Si_isAsLateAs, mv_Si_isAsLateAs, ⟨rfl, rfl⟩, (RX3, TX3, 7), rfl, rfl⟩
theorem vb_Bo_playAhead : VB M_Bo_playAhead 2 4 := ⟨ok_Bo_playAhead, mv_Bo_playAhead, ⟨rfl, rfl⟩, (RX4, TX4, 14), rfl, rfl⟩
theorem vb_Si_greatest : VB M_Si_greatest 1 3 := ⟨ok_Si_greatest, mv_Si_greatest, ⟨rfl, rfl⟩, (RX3, TX3, 7), rfl, rfl⟩
theorem vb_Bo_seat : VB M_Bo_seat 2 4 := ⟨ok_Bo_seat, mv_Bo_seat, ⟨rfl, rfl⟩, (RX4, TX4, 14), rfl, rfl⟩
theorem vb_Bo_apartBySeat : VB M_Bo_apartBySeat 2 4 := ⟨ok_Bo_apartBySeat, mv_Bo_apartBySeat, ⟨rfl, rfl⟩, (RX4, TX4, 14), rfl, rfl⟩
theorem vb_Bo_knowers : VB M_Bo_knowers 2 4 := ⟨ok_Bo_knowers, mv_Bo_knowers, ⟨rfl, rfl⟩, (RX4, TX4, 14), rfl, rfl⟩
theorem vb_Bo_knowersOfSize : VB M_Bo_knowersOfSize 3 4 := ⟨ok_Bo_knowersOfSize, mv_Bo_knowersOfSize, ⟨rfl, rfl⟩, (RX4, TX4, 14), rfl, rfl⟩
theorem vb_Bo_pulls : VB M_Bo_pulls 1 4 := ⟨ok_Bo_pulls, mv_Bo_pulls, ⟨rfl, rfl⟩, (RX4, TX4, 14), rfl, rfl⟩
theorem vb_Bo_paceWithout : VB M_Bo_paceWithout 2 4 := ⟨ok_Bo_paceWithout, mv_Bo_paceWithout, ⟨rfl, rfl⟩, (RX4, TX4, 14), rfl, rfl⟩
theorem vb_Ch_leaveOut : VB M_Ch_leaveOut 1 0 := ⟨ok_Ch_leaveOut, mv_Ch_leaveOut, ⟨rfl, rfl⟩, (RX0, TX0, 9), rfl, rfl⟩
theorem vb_Si_leaveOut : VB M_Si_leaveOut 1 3 := ⟨ok_Si_leaveOut, mv_Si_leaveOut, ⟨rfl, rfl⟩, (RX3, TX3, 7), rfl, rfl⟩
theorem vb_Bo_change : VB M_Bo_change 1 4 := ⟨ok_Bo_change, mv_Bo_change, ⟨rfl, rfl⟩, (RX4, TX4, 14), rfl, rfl⟩
theorem vb_Bo_apartByChange : VB M_Bo_apartByChange 3 4 := ⟨ok_Bo_apartByChange, mv_Bo_apartByChange, ⟨rfl, rfl⟩, (RX4, TX4, 14), rfl, rfl⟩
theorem vb_Bo_gaps : VB M_Bo_gaps 1 4 := ⟨ok_Bo_gaps, mv_Bo_gaps, ⟨rfl, rfl⟩, (RX4, TX4, 14), rfl, rfl⟩
theorem vb_Bo_hear : VB M_Bo_hear 3 4 := ⟨ok_Bo_hear, mv_Bo_hear, ⟨rfl, rfl⟩, (RX4, TX4, 14), rfl, rfl⟩
theorem vb_Bo_forget : VB M_Bo_forget 0 4 := ⟨ok_Bo_forget, mv_Bo_forget, ⟨rfl, rfl⟩, (RX4, TX4, 14), rfl, rfl⟩
theorem vb_Bo_waited : VB M_Bo_waited 0 4 := ⟨ok_Bo_waited, mv_Bo_waited, ⟨rfl, rfl⟩, (RX4, TX4, 14), rfl, rfl⟩
theorem vb_Bo_isAllHeardSo : VB M_Bo_isAllHeardSo 1 4 := ⟨ok_Bo_isAllHeardSo, mv_Bo_isAllHeardSo, ⟨rfl, rfl⟩, (RX4, TX4, 14), rfl, rfl⟩
theorem vb_Bo_odds : VB M_Bo_odds 5 4 := ⟨ok_Bo_odds, mv_Bo_odds, ⟨rfl, rfl⟩, (RX4, TX4, 14), rfl, rfl⟩
theorem vb_Bo_apartByPlays : VB M_Bo_apartByPlays 3 4 := ⟨ok_Bo_apartByPlays, mv_Bo_apartByPlays, ⟨rfl, rfl⟩, (RX4, TX4, 14), rfl, rfl⟩
theorem sb_Bo_power : SB M_Bo_power 2 := ⟨ok_Bo_power, st_Bo_power, rfl, rfl⟩
theorem sb_Bo_commonDivisor : SB M_Bo_commonDivisor 2 := ⟨ok_Bo_commonDivisor, st_Bo_commonDivisor, rfl, rfl⟩
theorem vb_Bo_rate : VB M_Bo_rate 2 4 := ⟨ok_Bo_rate, mv_Bo_rate, ⟨rfl, rfl⟩, (RX4, TX4, 14), rfl, rfl⟩
theorem vb_Bo_rateFront : VB M_Bo_rateFront 1 4 := ⟨ok_Bo_rateFront, mv_Bo_rateFront, ⟨rfl, rfl⟩, (RX4, TX4, 14), rfl, rfl⟩
theorem vb_Bo_ratePew : VB M_Bo_ratePew 1 4 := ⟨ok_Bo_ratePew, mv_Bo_ratePew, ⟨rfl, rfl⟩, (RX4, TX4, 14), rfl, rfl⟩
theorem vb_Bo_rateBasses : VB M_Bo_rateBasses 1 4 := ⟨ok_Bo_rateBasses, mv_Bo_rateBasses, ⟨rfl, rfl⟩, (RX4, TX4, 14), rfl, rfl⟩
theorem vb_Bo_rateWidows : VB M_Bo_rateWidows 1 4 := ⟨ok_Bo_rateWidows, mv_Bo_rateWidows, ⟨rfl, rfl⟩, (RX4, TX4, 14), rfl, rfl⟩
theorem vb_Bo_rateBoys : VB M_Bo_rateBoys 1 4 := ⟨ok_Bo_rateBoys, mv_Bo_rateBoys, ⟨rfl, rfl⟩, (RX4, TX4, 14), rfl, rfl⟩
theorem vb_Bo_rateStrangers : VB M_Bo_rateStrangers 1 4 := ⟨ok_Bo_rateStrangers, mv_Bo_rateStrangers, ⟨rfl, rfl⟩, (RX4, TX4, 14), rfl, rfl⟩
theorem vb_Bo_keep : VB M_Bo_keep 1 4 := ⟨ok_Bo_keep, mv_Bo_keep, ⟨rfl, rfl⟩, (RX4, TX4, 14), rfl, rfl⟩
theorem vb_Bo_back : VB M_Bo_back 1 4 := ⟨ok_Bo_back, mv_Bo_back, ⟨rfl, rfl⟩, (RX4, TX4, 14), rfl, rfl⟩
theorem vb_Bo_count : VB M_Bo_count 1 4 := ⟨ok_Bo_count, mv_Bo_count, ⟨rfl, rfl⟩, (RX4, TX4, 14), rfl, rfl⟩
theorem vb_Bo_trace : VB M_Bo_trace 0 4 := ⟨ok_Bo_trace, mv_Bo_trace, ⟨rfl, rfl⟩, (RX4, TX4, 14), rfl, rfl⟩
theorem sb_Mo_clean : SB M_Mo_clean 1 := ⟨ok_Mo_clean, st_Mo_clean, rfl, rfl⟩
theorem vb_Mo_type : VB M_Mo_type 1 5 := ⟨ok_Mo_type, mv_Mo_type, ⟨rfl, rfl⟩, (RX5, TX5, 17), rfl, rfl⟩
theorem sb_Mo_in : SB M_Mo_in 3 := ⟨ok_Mo_in, st_Mo_in, rfl, rfl⟩
theorem vb_Mo_clear : VB M_Mo_clear 0 5 := ⟨ok_Mo_clear, mv_Mo_clear, ⟨rfl, rfl⟩, (RX5, TX5, 17), rfl, rfl⟩
theorem vb_Mo_church : VB M_Mo_church 0 5 := ⟨ok_Mo_church, mv_Mo_church, ⟨rfl, rfl⟩, (RX5, TX5, 17), rfl, rfl⟩
theorem vb_Mo_first : VB M_Mo_first 0 5 := ⟨ok_Mo_first, mv_Mo_first, ⟨rfl, rfl⟩, (RX5, TX5, 17), rfl, rfl⟩
theorem vb_Mo_takesItem : VB M_Mo_takesItem 1 5 := ⟨ok_Mo_takesItem, mv_Mo_takesItem, ⟨rfl, rfl⟩, (RX5, TX5, 17), rfl, rfl⟩
theorem vb_Mo_takesPew : VB M_Mo_takesPew 0 5 := ⟨ok_Mo_takesPew, mv_Mo_takesPew, ⟨rfl, rfl⟩, (RX5, TX5, 17), rfl, rfl⟩
theorem vb_Mo_number : VB M_Mo_number 3 5 := ⟨ok_Mo_number, mv_Mo_number, ⟨rfl, rfl⟩, (RX5, TX5, 17), rfl, rfl⟩
theorem vb_Mo_ends : VB M_Mo_ends 0 5 := ⟨ok_Mo_ends, mv_Mo_ends, ⟨rfl, rfl⟩, (RX5, TX5, 17), rfl, rfl⟩
theorem vb_Mo_takesOne : VB M_Mo_takesOne 3 5 := ⟨ok_Mo_takesOne, mv_Mo_takesOne, ⟨rfl, rfl⟩, (RX5, TX5, 17), rfl, rfl⟩
theorem sb_Mo_copies : SB M_Mo_copies 4 := ⟨ok_Mo_copies, st_Mo_copies, rfl, rfl⟩
theorem vb_Mo_pew : VB M_Mo_pew 2 5 := ⟨ok_Mo_pew, mv_Mo_pew, ⟨rfl, rfl⟩, (RX5, TX5, 17), rfl, rfl⟩
theorem vb_Mo_isPew : VB M_Mo_isPew 1 5 := ⟨ok_Mo_isPew, mv_Mo_isPew, ⟨rfl, rfl⟩, (RX5, TX5, 17), rfl, rfl⟩
theorem vb_Mo_now : VB M_Mo_now 1 5 := ⟨ok_Mo_now, mv_Mo_now, ⟨rfl, rfl⟩, (RX5, TX5, 17), rfl, rfl⟩
theorem sb_Mo_apart : SB M_Mo_apart 1 := ⟨ok_Mo_apart, st_Mo_apart, rfl, rfl⟩
theorem vb_Mo_line : VB M_Mo_line 0 5 := ⟨ok_Mo_line, mv_Mo_line, ⟨rfl, rfl⟩, (RX5, TX5, 17), rfl, rfl⟩
theorem vb_Mo_remember : VB M_Mo_remember 0 5 := ⟨ok_Mo_remember, mv_Mo_remember, ⟨rfl, rfl⟩, (RX5, TX5, 17), rfl, rfl⟩
theorem vb_Mo_sings : VB M_Mo_sings 1 5 := ⟨ok_Mo_sings, mv_Mo_sings, ⟨rfl, rfl⟩, (RX5, TX5, 17), rfl, rfl⟩
theorem sb_Mo_lateThen : SB M_Mo_lateThen 2 := ⟨ok_Mo_lateThen, st_Mo_lateThen, rfl, rfl⟩
theorem sb_Mo_from : SB M_Mo_from 3 := ⟨ok_Mo_from, st_Mo_from, rfl, rfl⟩
theorem vb_Mo_verse : VB M_Mo_verse 0 5 := ⟨ok_Mo_verse, mv_Mo_verse, ⟨rfl, rfl⟩, (RX5, TX5, 17), rfl, rfl⟩
theorem sb_Mo_rests : SB M_Mo_rests 2 := ⟨ok_Mo_rests, st_Mo_rests, rfl, rfl⟩
theorem vb_Mo_ahead : VB M_Mo_ahead 1 5 := ⟨ok_Mo_ahead, mv_Mo_ahead, ⟨rfl, rfl⟩, (RX5, TX5, 17), rfl, rfl⟩
theorem vb_Mo_puts : VB M_Mo_puts 2 5 := ⟨ok_Mo_puts, mv_Mo_puts, ⟨rfl, rfl⟩, (RX5, TX5, 17), rfl, rfl⟩
theorem vb_Mo_choir : VB M_Mo_choir 1 5 := ⟨ok_Mo_choir, mv_Mo_choir, ⟨rfl, rfl⟩, (RX5, TX5, 17), rfl, rfl⟩
theorem vb_Mo_knows : VB M_Mo_knows 2 5 := ⟨ok_Mo_knows, mv_Mo_knows, ⟨rfl, rfl⟩, (RX5, TX5, 17), rfl, rfl⟩
theorem sb_Mo_isTwo : SB M_Mo_isTwo 1 := ⟨ok_Mo_isTwo, st_Mo_isTwo, rfl, rfl⟩
theorem sb_Mo_bits : SB M_Mo_bits 1 := ⟨ok_Mo_bits, st_Mo_bits, rfl, rfl⟩
theorem vb_Mo_waits : VB M_Mo_waits 1 5 := ⟨ok_Mo_waits, mv_Mo_waits, ⟨rfl, rfl⟩, (RX5, TX5, 17), rfl, rfl⟩
theorem vb_Mo_undo : VB M_Mo_undo 0 5 := ⟨ok_Mo_undo, mv_Mo_undo, ⟨rfl, rfl⟩, (RX5, TX5, 17), rfl, rfl⟩
theorem vb_Mo_behind : VB M_Mo_behind 2 5 := ⟨ok_Mo_behind, mv_Mo_behind, ⟨rfl, rfl⟩, (RX5, TX5, 17), rfl, rfl⟩
theorem vb_Mo_asNow : VB M_Mo_asNow 0 5 := ⟨ok_Mo_asNow, mv_Mo_asNow, ⟨rfl, rfl⟩, (RX5, TX5, 17), rfl, rfl⟩
theorem vb_Mo_go : VB M_Mo_go 1 5 := ⟨ok_Mo_go, mv_Mo_go, ⟨rfl, rfl⟩, (RX5, TX5, 17), rfl, rfl⟩
theorem vb_Mo_asleep : VB M_Mo_asleep 1 5 := ⟨ok_Mo_asleep, mv_Mo_asleep, ⟨rfl, rfl⟩, (RX5, TX5, 17), rfl, rfl⟩
theorem vb_Mo_rest : VB M_Mo_rest 0 5 := ⟨ok_Mo_rest, mv_Mo_rest, ⟨rfl, rfl⟩, (RX5, TX5, 17), rfl, rfl⟩
theorem vb_Mo_playAhead : VB M_Mo_playAhead 2 5 := ⟨ok_Mo_playAhead, mv_Mo_playAhead, ⟨rfl, rfl⟩, (RX5, TX5, 17), rfl, rfl⟩
theorem sb_Mo_isSpan : SB M_Mo_isSpan 1 := ⟨ok_Mo_isSpan, st_Mo_isSpan, rfl, rfl⟩
theorem sb_Mo_greatest : SB M_Mo_greatest 1 := ⟨ok_Mo_greatest, st_Mo_greatest, rfl, rfl⟩
theorem vb_Mo_seat : VB M_Mo_seat 2 5 := ⟨ok_Mo_seat, mv_Mo_seat, ⟨rfl, rfl⟩, (RX5, TX5, 17), rfl, rfl⟩
theorem vb_Mo_knowers : VB M_Mo_knowers 2 5 := ⟨ok_Mo_knowers, mv_Mo_knowers, ⟨rfl, rfl⟩, (RX5, TX5, 17), rfl, rfl⟩
theorem vb_Mo_pulls : VB M_Mo_pulls 1 5 := ⟨ok_Mo_pulls, mv_Mo_pulls, ⟨rfl, rfl⟩, (RX5, TX5, 17), rfl, rfl⟩
theorem vb_Mo_without : VB M_Mo_without 1 5 := ⟨ok_Mo_without, mv_Mo_without, ⟨rfl, rfl⟩, (RX5, TX5, 17), rfl, rfl⟩
theorem vb_Mo_change : VB M_Mo_change 1 5 := ⟨ok_Mo_change, mv_Mo_change, ⟨rfl, rfl⟩, (RX5, TX5, 17), rfl, rfl⟩
theorem vb_Mo_gaps : VB M_Mo_gaps 1 5 := ⟨ok_Mo_gaps, mv_Mo_gaps, ⟨rfl, rfl⟩, (RX5, TX5, 17), rfl, rfl⟩
theorem vb_Mo_hear : VB M_Mo_hear 3 5 := ⟨ok_Mo_hear, mv_Mo_hear, ⟨rfl, rfl⟩, (RX5, TX5, 17), rfl, rfl⟩
theorem vb_Mo_forget : VB M_Mo_forget 0 5 := ⟨ok_Mo_forget, mv_Mo_forget, ⟨rfl, rfl⟩, (RX5, TX5, 17), rfl, rfl⟩
theorem vb_Mo_waited : VB M_Mo_waited 0 5 := ⟨ok_Mo_waited, mv_Mo_waited, ⟨rfl, rfl⟩, (RX5, TX5, 17), rfl, rfl⟩
theorem vb_Mo_isSo : VB M_Mo_isSo 1 5 := ⟨ok_Mo_isSo, mv_Mo_isSo, ⟨rfl, rfl⟩, (RX5, TX5, 17), rfl, rfl⟩
theorem vb_Mo_odds : VB M_Mo_odds 5 5 := ⟨ok_Mo_odds, mv_Mo_odds, ⟨rfl, rfl⟩, (RX5, TX5, 17), rfl, rfl⟩
theorem vb_Mo_rate : VB M_Mo_rate 2 5 := ⟨ok_Mo_rate, mv_Mo_rate, ⟨rfl, rfl⟩, (RX5, TX5, 17), rfl, rfl⟩
theorem vb_Mo_keep : VB M_Mo_keep 1 5 := ⟨ok_Mo_keep, mv_Mo_keep, ⟨rfl, rfl⟩, (RX5, TX5, 17), rfl, rfl⟩
theorem vb_Mo_back : VB M_Mo_back 1 5 := ⟨ok_Mo_back, mv_Mo_back, ⟨rfl, rfl⟩, (RX5, TX5, 17), rfl, rfl⟩
theorem vb_Mo_count : VB M_Mo_count 1 5 := ⟨ok_Mo_count, mv_Mo_count, ⟨rfl, rfl⟩, (RX5, TX5, 17), rfl, rfl⟩
theorem vb_Mo_trace : VB M_Mo_trace 0 5 := ⟨ok_Mo_trace, mv_Mo_trace, ⟨rfl, rfl⟩, (RX5, TX5, 17), rfl, rfl⟩
theorem ff_0_0 : ∀ q : vw_C, vwCl[0]? = some q → (q.2.1 0).2.2.2 = true ∧ (q.2.1 0).1 = RX0 := fun q h => by cases h; exact ⟨rfl, rfl⟩
theorem ff_0_1 : ∀ q : vw_C, vwCl[0]? = some q → (q.2.1 1).2.2.2 = true ∧ (q.2.1 1).1 = RX0 := fun q h => by cases h; exact ⟨rfl, rfl⟩
theorem ff_0_2 : ∀ q : vw_C, vwCl[0]? = some q → (q.2.1 2).2.2.2 = true ∧ (q.2.1 2).1 = RX0 := fun q h => by cases h; exact ⟨rfl, rfl⟩
theorem ff_0_3 : ∀ q : vw_C, vwCl[0]? = some q → (q.2.1 3).2.2.2 = true ∧ (q.2.1 3).1 = RX0 := fun q h => by cases h; exact ⟨rfl, rfl⟩
theorem nf_0_4 : ∀ q : vw_C, vwCl[0]? = some q → (q.2.1 4).2.2.2 = false := fun q h => by cases h; rfl
theorem nf_0_5 : ∀ q : vw_C, vwCl[0]? = some q → (q.2.1 5).2.2.2 = false := fun q h => by cases h; rfl
theorem nf_0_6 : ∀ q : vw_C, vwCl[0]? = some q → (q.2.1 6).2.2.2 = false := fun q h => by cases h; rfl
theorem nf_0_7 : ∀ q : vw_C, vwCl[0]? = some q → (q.2.1 7).2.2.2 = false := fun q h => by cases h; rfl
theorem ff_0_8 : ∀ q : vw_C, vwCl[0]? = some q → (q.2.1 8).2.2.2 = true ∧ (q.2.1 8).1 = RX0 := fun q h => by cases h; exact ⟨rfl, rfl⟩
theorem ff_1_0 : ∀ q : vw_C, vwCl[1]? = some q → (q.2.1 0).2.2.2 = true ∧ (q.2.1 0).1 = RX1 := fun q h => by cases h; exact ⟨rfl, rfl⟩
theorem nf_1_1 : ∀ q : vw_C, vwCl[1]? = some q → (q.2.1 1).2.2.2 = false := fun q h => by cases h; rfl
theorem nf_1_2 : ∀ q : vw_C, vwCl[1]? = some q → (q.2.1 2).2.2.2 = false := fun q h => by cases h; rfl
theorem ff_2_0 : ∀ q : vw_C, vwCl[2]? = some q → (q.2.1 0).2.2.2 = true ∧ (q.2.1 0).1 = RX2 := fun q h => by cases h; exact ⟨rfl, rfl⟩
theorem nf_2_1 : ∀ q : vw_C, vwCl[2]? = some q → (q.2.1 1).2.2.2 = false := fun q h => by cases h; rfl
theorem nf_2_2 : ∀ q : vw_C, vwCl[2]? = some q → (q.2.1 2).2.2.2 = false := fun q h => by cases h; rfl
theorem nf_2_3 : ∀ q : vw_C, vwCl[2]? = some q → (q.2.1 3).2.2.2 = false := fun q h => by cases h; rfl
theorem nf_2_4 : ∀ q : vw_C, vwCl[2]? = some q → (q.2.1 4).2.2.2 = false := fun q h => by cases h; rfl
theorem nf_2_5 : ∀ q : vw_C, vwCl[2]? = some q → (q.2.1 5).2.2.2 = false := fun q h => by cases h; rfl
theorem nf_2_6 : ∀ q : vw_C, vwCl[2]? = some q → (q.2.1 6).2.2.2 = false := fun q h => by cases h; rfl
theorem nf_2_7 : ∀ q : vw_C, vwCl[2]? = some q → (q.2.1 7).2.2.2 = false := fun q h => by cases h; rfl
theorem nf_2_8 : ∀ q : vw_C, vwCl[2]? = some q → (q.2.1 8).2.2.2 = false := fun q h => by cases h; rfl
theorem ff_3_0 : ∀ q : vw_C, vwCl[3]? = some q → (q.2.1 0).2.2.2 = true ∧ (q.2.1 0).1 = RX3 := fun q h => by cases h; exact ⟨rfl, rfl⟩
theorem nf_3_1 : ∀ q : vw_C, vwCl[3]? = some q → (q.2.1 1).2.2.2 = false := fun q h => by cases h; rfl
theorem nf_3_2 : ∀ q : vw_C, vwCl[3]? = some q → (q.2.1 2).2.2.2 = false := fun q h => by cases h; rfl
theorem nf_3_3 : ∀ q : vw_C, vwCl[3]? = some q → (q.2.1 3).2.2.2 = false := fun q h => by cases h; rfl
theorem nf_3_4 : ∀ q : vw_C, vwCl[3]? = some q → (q.2.1 4).2.2.2 = false := fun q h => by cases h; rfl
theorem nf_3_5 : ∀ q : vw_C, vwCl[3]? = some q → (q.2.1 5).2.2.2 = false := fun q h => by cases h; rfl
theorem nf_3_6 : ∀ q : vw_C, vwCl[3]? = some q → (q.2.1 6).2.2.2 = false := fun q h => by cases h; rfl
theorem ff_4_0 : ∀ q : vw_C, vwCl[4]? = some q → (q.2.1 0).2.2.2 = true ∧ (q.2.1 0).1 = RX4 := fun q h => by cases h; exact ⟨rfl, rfl⟩
theorem ff_4_1 : ∀ q : vw_C, vwCl[4]? = some q → (q.2.1 1).2.2.2 = true ∧ (q.2.1 1).1 = RX4 := fun q h => by cases h; exact ⟨rfl, rfl⟩
theorem ff_4_2 : ∀ q : vw_C, vwCl[4]? = some q → (q.2.1 2).2.2.2 = true ∧ (q.2.1 2).1 = RX4 := fun q h => by cases h; exact ⟨rfl, rfl⟩
theorem ff_4_3 : ∀ q : vw_C, vwCl[4]? = some q → (q.2.1 3).2.2.2 = true ∧ (q.2.1 3).1 = RX4 := fun q h => by cases h; exact ⟨rfl, rfl⟩
theorem ff_4_4 : ∀ q : vw_C, vwCl[4]? = some q → (q.2.1 4).2.2.2 = true ∧ (q.2.1 4).1 = RX4 := fun q h => by cases h; exact ⟨rfl, rfl⟩
theorem ff_4_5 : ∀ q : vw_C, vwCl[4]? = some q → (q.2.1 5).2.2.2 = true ∧ (q.2.1 5).1 = RX4 := fun q h => by cases h; exact ⟨rfl, rfl⟩
theorem ff_4_6 : ∀ q : vw_C, vwCl[4]? = some q → (q.2.1 6).2.2.2 = true ∧ (q.2.1 6).1 = RX4 := fun q h => by cases h; exact ⟨rfl, rfl⟩
theorem ff_4_7 : ∀ q : vw_C, vwCl[4]? = some q → (q.2.1 7).2.2.2 = true ∧ (q.2.1 7).1 = RX4 := fun q h => by cases h; exact ⟨rfl, rfl⟩
theorem ff_4_8 : ∀ q : vw_C, vwCl[4]? = some q → (q.2.1 8).2.2.2 = true ∧ (q.2.1 8).1 = RX4 := fun q h => by cases h; exact ⟨rfl, rfl⟩
theorem ff_4_9 : ∀ q : vw_C, vwCl[4]? = some q → (q.2.1 9).2.2.2 = true ∧ (q.2.1 9).1 = RX4 := fun q h => by cases h; exact ⟨rfl, rfl⟩
theorem ff_4_10 : ∀ q : vw_C, vwCl[4]? = some q → (q.2.1 10).2.2.2 = true ∧ (q.2.1 10).1 = RX4 := fun q h => by cases h; exact ⟨rfl, rfl⟩
theorem ff_4_11 : ∀ q : vw_C, vwCl[4]? = some q → (q.2.1 11).2.2.2 = true ∧ (q.2.1 11).1 = RX4 := fun q h => by cases h; exact ⟨rfl, rfl⟩
theorem nf_4_12 : ∀ q : vw_C, vwCl[4]? = some q → (q.2.1 12).2.2.2 = false := fun q h => by cases h; rfl
theorem nf_4_13 : ∀ q : vw_C, vwCl[4]? = some q → (q.2.1 13).2.2.2 = false := fun q h => by cases h; rfl
theorem ff_5_0 : ∀ q : vw_C, vwCl[5]? = some q → (q.2.1 0).2.2.2 = true ∧ (q.2.1 0).1 = RX5 := fun q h => by cases h; exact ⟨rfl, rfl⟩
theorem ff_5_1 : ∀ q : vw_C, vwCl[5]? = some q → (q.2.1 1).2.2.2 = true ∧ (q.2.1 1).1 = RX5 := fun q h => by cases h; exact ⟨rfl, rfl⟩
theorem nf_5_2 : ∀ q : vw_C, vwCl[5]? = some q → (q.2.1 2).2.2.2 = false := fun q h => by cases h; rfl
theorem ff_5_3 : ∀ q : vw_C, vwCl[5]? = some q → (q.2.1 3).2.2.2 = true ∧ (q.2.1 3).1 = RX5 := fun q h => by cases h; exact ⟨rfl, rfl⟩
theorem ff_5_4 : ∀ q : vw_C, vwCl[5]? = some q → (q.2.1 4).2.2.2 = true ∧ (q.2.1 4).1 = RX5 := fun q h => by cases h; exact ⟨rfl, rfl⟩
theorem ff_5_5 : ∀ q : vw_C, vwCl[5]? = some q → (q.2.1 5).2.2.2 = true ∧ (q.2.1 5).1 = RX5 := fun q h => by cases h; exact ⟨rfl, rfl⟩
theorem nf_5_6 : ∀ q : vw_C, vwCl[5]? = some q → (q.2.1 6).2.2.2 = false := fun q h => by cases h; rfl
theorem ff_5_7 : ∀ q : vw_C, vwCl[5]? = some q → (q.2.1 7).2.2.2 = true ∧ (q.2.1 7).1 = RX5 := fun q h => by cases h; exact ⟨rfl, rfl⟩
theorem nf_5_8 : ∀ q : vw_C, vwCl[5]? = some q → (q.2.1 8).2.2.2 = false := fun q h => by cases h; rfl
theorem nf_5_9 : ∀ q : vw_C, vwCl[5]? = some q → (q.2.1 9).2.2.2 = false := fun q h => by cases h; rfl
theorem ff_5_10 : ∀ q : vw_C, vwCl[5]? = some q → (q.2.1 10).2.2.2 = true ∧ (q.2.1 10).1 = RX5 := fun q h => by cases h; exact ⟨rfl, rfl⟩
theorem nf_5_11 : ∀ q : vw_C, vwCl[5]? = some q → (q.2.1 11).2.2.2 = false := fun q h => by cases h; rfl
theorem nf_5_12 : ∀ q : vw_C, vwCl[5]? = some q → (q.2.1 12).2.2.2 = false := fun q h => by cases h; rfl
theorem nf_5_13 : ∀ q : vw_C, vwCl[5]? = some q → (q.2.1 13).2.2.2 = false := fun q h => by cases h; rfl
theorem ff_5_14 : ∀ q : vw_C, vwCl[5]? = some q → (q.2.1 14).2.2.2 = true ∧ (q.2.1 14).1 = RX5 := fun q h => by cases h; exact ⟨rfl, rfl⟩
theorem ff_5_15 : ∀ q : vw_C, vwCl[5]? = some q → (q.2.1 15).2.2.2 = true ∧ (q.2.1 15).1 = RX5 := fun q h => by cases h; exact ⟨rfl, rfl⟩
theorem ff_5_16 : ∀ q : vw_C, vwCl[5]? = some q → (q.2.1 16).2.2.2 = true ∧ (q.2.1 16).1 = RX5 := fun q h => by cases h; exact ⟨rfl, rfl⟩
def K0L : List (Nat × Nat) := [(0, 0), (4, 0), (2, 0), (10, 200), (0, 0), (10, 6), (10, 6), (10, 6), (10, 6), (10, 6), (0, 0), (10, 6), (10, 6), (10, 6), (10, 6), (10, 6), (3, 0), (10, 6), (3, 0), (10, 6), (3, 0), (10, 6), (1, 0), (12, 10), (3, 0), (10, 6), (3, 0), (10, 6), (3, 0), (10, 6), (3, 0), (10, 6), (3, 0), (10, 6), (3, 0), (10, 6), (3, 0), (10, 6), (3, 0), (10, 6), (3, 0), (10, 6), (3, 0), (10, 6), (12, 2), (3, 0), (10, 6), (3, 0), (10, 6), (11, 2), (10, 6), (10, 6), (10, 6), (5, 0), (10, 39), (10, 390), (10, 78), (11, 2), (10, 200), (10, 18), (10, 39), (10, 6), (10, 39), (10, 6)]
def P0L : List (List (Option Nat)) := [[], [some 2, some 4, some 10, some 16, some 18, some 20, some 22, some 44, some 49, some 50, some 51, some 52], [some 3], [], [some 5, some 6, some 7, some 8, none, none, none, none, some 9], [], [], [], [], [], [some 11, some 12, some 13, some 14, none, none, none, none, some 15], [], [], [], [], [], [some 17], [], [some 19], [], [some 21], [], [some 23], [some 24, some 26, some 28, some 30, some 32, some 34, some 36, some 38, some 40, some 42], [some 25], [], [some 27], [], [some 29], [], [some 31], [], [some 33], [], [some 35], [], [some 37], [], [some 39], [], [some 41], [], [some 43], [], [some 45, some 47], [some 46], [], [some 48], [], [], [], [], [], [some 54, some 55, none, some 56, some 57, some 58, none, some 59, none, none, some 60, none, none, none, some 61, some 62, some 63], [], [], [], [], [], [], [], [], [], []]
/-- the cells behind the two constructors -/
def S0 : Sh := (63, fun a => K0L.getD a (0, 0), fun a k => (P0L.getD a []).getD k none)
theorem kd_1 : kd S0 1 4 := ⟨by decide, leb rfl, rfl⟩
theorem kd_2 : kd S0 2 2 := ⟨by decide, leb rfl, rfl⟩
theorem ar_3 : ar S0 3 10 200 := ⟨by decide, leb rfl, rfl⟩
theorem kd_4 : kd S0 4 0 := ⟨by decide, leb rfl, rfl⟩
theorem ar_5 : ar S0 5 10 6 := ⟨by decide, leb rfl, rfl⟩
theorem ar_6 : ar S0 6 10 6 := ⟨by decide, leb rfl, rfl⟩
theorem ar_7 : ar S0 7 10 6 := ⟨by decide, leb rfl, rfl⟩
theorem ar_8 : ar S0 8 10 6 := ⟨by decide, leb rfl, rfl⟩
theorem ar_9 : ar S0 9 10 6 := ⟨by decide, leb rfl, rfl⟩
theorem kd_10 : kd S0 10 0 := ⟨by decide, leb rfl, rfl⟩
theorem ar_11 : ar S0 11 10 6 := ⟨by decide, leb rfl, rfl⟩
theorem ar_12 : ar S0 12 10 6 := ⟨by decide, leb rfl, rfl⟩
theorem ar_13 : ar S0 13 10 6 := ⟨by decide, leb rfl, rfl⟩
theorem ar_14 : ar S0 14 10 6 := ⟨by decide, leb rfl, rfl⟩
theorem ar_15 : ar S0 15 10 6 := ⟨by decide, leb rfl, rfl⟩
theorem kd_16 : kd S0 16 3 := ⟨by decide, leb rfl, rfl⟩
theorem ar_17 : ar S0 17 10 6 := ⟨by decide, leb rfl, rfl⟩
theorem kd_18 : kd S0 18 3 := ⟨by decide, leb rfl, rfl⟩
theorem ar_19 : ar S0 19 10 6 := ⟨by decide, leb rfl, rfl⟩
theorem kd_20 : kd S0 20 3 := ⟨by decide, leb rfl, rfl⟩
theorem ar_21 : ar S0 21 10 6 := ⟨by decide, leb rfl, rfl⟩
theorem kd_22 : kd S0 22 1 := ⟨by decide, leb rfl, rfl⟩
theorem ar_23 : ar S0 23 12 10 := ⟨by decide, leb rfl, rfl⟩
theorem kd_24 : kd S0 24 3 := ⟨by decide, leb rfl, rfl⟩
theorem ar_25 : ar S0 25 10 6 := ⟨by decide, leb rfl, rfl⟩
theorem kd_26 : kd S0 26 3 := ⟨by decide, leb rfl, rfl⟩
theorem ar_27 : ar S0 27 10 6 := ⟨by decide, leb rfl, rfl⟩
theorem kd_28 : kd S0 28 3 := ⟨by decide, leb rfl, rfl⟩
theorem ar_29 : ar S0 29 10 6 := ⟨by decide, leb rfl, rfl⟩
theorem kd_30 : kd S0 30 3 := ⟨by decide, leb rfl, rfl⟩
theorem ar_31 : ar S0 31 10 6 := ⟨by decide, leb rfl, rfl⟩
theorem kd_32 : kd S0 32 3 := ⟨by decide, leb rfl, rfl⟩
theorem ar_33 : ar S0 33 10 6 := ⟨by decide, leb rfl, rfl⟩
theorem kd_34 : kd S0 34 3 := ⟨by decide, leb rfl, rfl⟩
theorem ar_35 : ar S0 35 10 6 := ⟨by decide, leb rfl, rfl⟩
theorem kd_36 : kd S0 36 3 := ⟨by decide, leb rfl, rfl⟩
theorem ar_37 : ar S0 37 10 6 := ⟨by decide, leb rfl, rfl⟩
theorem kd_38 : kd S0 38 3 := ⟨by decide, leb rfl, rfl⟩
theorem ar_39 : ar S0 39 10 6 := ⟨by decide, leb rfl, rfl⟩
theorem kd_40 : kd S0 40 3 := ⟨by decide, leb rfl, rfl⟩
theorem ar_41 : ar S0 41 10 6 := ⟨by decide, leb rfl, rfl⟩
theorem kd_42 : kd S0 42 3 := ⟨by decide, leb rfl, rfl⟩
theorem ar_43 : ar S0 43 10 6 := ⟨by decide, leb rfl, rfl⟩
theorem ar_44 : ar S0 44 12 2 := ⟨by decide, leb rfl, rfl⟩
theorem kd_45 : kd S0 45 3 := ⟨by decide, leb rfl, rfl⟩
theorem ar_46 : ar S0 46 10 6 := ⟨by decide, leb rfl, rfl⟩
theorem kd_47 : kd S0 47 3 := ⟨by decide, leb rfl, rfl⟩
theorem ar_48 : ar S0 48 10 6 := ⟨by decide, leb rfl, rfl⟩
theorem ar_49 : ar S0 49 11 2 := ⟨by decide, leb rfl, rfl⟩
theorem ar_50 : ar S0 50 10 6 := ⟨by decide, leb rfl, rfl⟩
theorem ar_51 : ar S0 51 10 6 := ⟨by decide, leb rfl, rfl⟩
theorem ar_52 : ar S0 52 10 6 := ⟨by decide, leb rfl, rfl⟩
theorem kd_53 : kd S0 53 5 := ⟨by decide, leb rfl, rfl⟩
theorem ar_54 : ar S0 54 10 39 := ⟨by decide, leb rfl, rfl⟩
theorem ar_55 : ar S0 55 10 390 := ⟨by decide, leb rfl, rfl⟩
theorem ar_56 : ar S0 56 10 78 := ⟨by decide, leb rfl, rfl⟩
theorem ar_57 : ar S0 57 11 2 := ⟨by decide, leb rfl, rfl⟩
theorem ar_58 : ar S0 58 10 200 := ⟨by decide, leb rfl, rfl⟩
theorem ar_59 : ar S0 59 10 18 := ⟨by decide, leb rfl, rfl⟩
theorem ar_60 : ar S0 60 10 39 := ⟨by decide, leb rfl, rfl⟩
theorem ar_61 : ar S0 61 10 6 := ⟨by decide, leb rfl, rfl⟩
theorem ar_62 : ar S0 62 10 39 := ⟨by decide, leb rfl, rfl⟩
theorem ar_63 : ar S0 63 10 6 := ⟨by decide, leb rfl, rfl⟩
theorem rf_1_0 : S0.2.2 1 0 = some 2 := rfl
theorem rf_1_1 : S0.2.2 1 1 = some 4 := rfl
theorem rf_1_2 : S0.2.2 1 2 = some 10 := rfl
theorem rf_1_3 : S0.2.2 1 3 = some 16 := rfl
theorem rf_1_4 : S0.2.2 1 4 = some 18 := rfl
theorem rf_1_5 : S0.2.2 1 5 = some 20 := rfl
theorem rf_1_6 : S0.2.2 1 6 = some 22 := rfl
theorem rf_1_7 : S0.2.2 1 7 = some 44 := rfl
theorem rf_1_8 : S0.2.2 1 8 = some 49 := rfl
theorem rf_1_9 : S0.2.2 1 9 = some 50 := rfl
theorem rf_1_10 : S0.2.2 1 10 = some 51 := rfl
theorem rf_1_11 : S0.2.2 1 11 = some 52 := rfl
theorem rf_2_0 : S0.2.2 2 0 = some 3 := rfl
theorem rf_4_0 : S0.2.2 4 0 = some 5 := rfl
theorem rf_4_1 : S0.2.2 4 1 = some 6 := rfl
theorem rf_4_2 : S0.2.2 4 2 = some 7 := rfl
theorem rf_4_3 : S0.2.2 4 3 = some 8 := rfl
theorem rf_4_8 : S0.2.2 4 8 = some 9 := rfl
theorem rf_10_0 : S0.2.2 10 0 = some 11 := rfl
theorem rf_10_1 : S0.2.2 10 1 = some 12 := rfl
theorem rf_10_2 : S0.2.2 10 2 = some 13 := rfl
theorem rf_10_3 : S0.2.2 10 3 = some 14 := rfl
theorem rf_10_8 : S0.2.2 10 8 = some 15 := rfl
theorem rf_16_0 : S0.2.2 16 0 = some 17 := rfl
theorem rf_18_0 : S0.2.2 18 0 = some 19 := rfl
theorem rf_20_0 : S0.2.2 20 0 = some 21 := rfl
theorem rf_22_0 : S0.2.2 22 0 = some 23 := rfl
theorem rf_23_0 : S0.2.2 23 0 = some 24 := rfl
theorem rf_23_1 : S0.2.2 23 1 = some 26 := rfl
theorem rf_23_2 : S0.2.2 23 2 = some 28 := rfl
theorem rf_23_3 : S0.2.2 23 3 = some 30 := rfl
theorem rf_23_4 : S0.2.2 23 4 = some 32 := rfl
theorem rf_23_5 : S0.2.2 23 5 = some 34 := rfl
theorem rf_23_6 : S0.2.2 23 6 = some 36 := rfl
theorem rf_23_7 : S0.2.2 23 7 = some 38 := rfl
theorem rf_23_8 : S0.2.2 23 8 = some 40 := rfl
theorem rf_23_9 : S0.2.2 23 9 = some 42 := rfl
theorem rf_24_0 : S0.2.2 24 0 = some 25 := rfl
theorem rf_26_0 : S0.2.2 26 0 = some 27 := rfl
theorem rf_28_0 : S0.2.2 28 0 = some 29 := rfl
theorem rf_30_0 : S0.2.2 30 0 = some 31 := rfl
theorem rf_32_0 : S0.2.2 32 0 = some 33 := rfl
theorem rf_34_0 : S0.2.2 34 0 = some 35 := rfl
theorem rf_36_0 : S0.2.2 36 0 = some 37 := rfl
theorem rf_38_0 : S0.2.2 38 0 = some 39 := rfl
theorem rf_40_0 : S0.2.2 40 0 = some 41 := rfl
theorem rf_42_0 : S0.2.2 42 0 = some 43 := rfl
theorem rf_44_0 : S0.2.2 44 0 = some 45 := rfl
theorem rf_44_1 : S0.2.2 44 1 = some 47 := rfl
theorem rf_45_0 : S0.2.2 45 0 = some 46 := rfl
theorem rf_47_0 : S0.2.2 47 0 = some 48 := rfl
theorem rf_53_0 : S0.2.2 53 0 = some 54 := rfl
theorem rf_53_1 : S0.2.2 53 1 = some 55 := rfl
theorem rf_53_3 : S0.2.2 53 3 = some 56 := rfl
theorem rf_53_4 : S0.2.2 53 4 = some 57 := rfl
theorem rf_53_5 : S0.2.2 53 5 = some 58 := rfl
theorem rf_53_7 : S0.2.2 53 7 = some 59 := rfl
theorem rf_53_10 : S0.2.2 53 10 = some 60 := rfl
theorem rf_53_14 : S0.2.2 53 14 = some 61 := rfl
theorem rf_53_15 : S0.2.2 53 15 = some 62 := rfl
theorem rf_53_16 : S0.2.2 53 16 = some 63 := rfl
/-- a Singing, with its late; a Church, with its rows -/
def isSi (a : Nat) : Prop := kd S0 a 3 ∧ S0.2.2 a 0 = some (a + 1) ∧ ar S0 (a + 1) 10 6
def isCh (a : Nat) : Prop := kd S0 a 0 ∧ (S0.2.2 a 0 = some (a + 1) ∧ S0.2.2 a 1 = some (a + 2) ∧ S0.2.2 a 2 = some (a + 3) ∧ S0.2.2 a 3 = some (a + 4) ∧ S0.2.2 a 8 = some (a + 5)) ∧ ar S0 (a + 1) 10 6 ∧ ar S0 (a + 2) 10 6 ∧ ar S0 (a + 3) 10 6 ∧ ar S0 (a + 4) 10 6 ∧ ar S0 (a + 5) 10 6
theorem si_16 : isSi 16 := ⟨kd_16, rfl, ar_17⟩
theorem si_18 : isSi 18 := ⟨kd_18, rfl, ar_19⟩
theorem si_20 : isSi 20 := ⟨kd_20, rfl, ar_21⟩
theorem si_24 : isSi 24 := ⟨kd_24, rfl, ar_25⟩
theorem si_26 : isSi 26 := ⟨kd_26, rfl, ar_27⟩
theorem si_28 : isSi 28 := ⟨kd_28, rfl, ar_29⟩
theorem si_30 : isSi 30 := ⟨kd_30, rfl, ar_31⟩
theorem si_32 : isSi 32 := ⟨kd_32, rfl, ar_33⟩
theorem si_34 : isSi 34 := ⟨kd_34, rfl, ar_35⟩
theorem si_36 : isSi 36 := ⟨kd_36, rfl, ar_37⟩
theorem si_38 : isSi 38 := ⟨kd_38, rfl, ar_39⟩
theorem si_40 : isSi 40 := ⟨kd_40, rfl, ar_41⟩
theorem si_42 : isSi 42 := ⟨kd_42, rfl, ar_43⟩
theorem si_45 : isSi 45 := ⟨kd_45, rfl, ar_46⟩
theorem si_47 : isSi 47 := ⟨kd_47, rfl, ar_48⟩
theorem ch_4 : isCh 4 := ⟨kd_4, ⟨rfl, rfl, rfl, rfl, rfl⟩, ar_5, ar_6, ar_7, ar_8, ar_9⟩
theorem ch_10 : isCh 10 := ⟨kd_10, ⟨rfl, rfl, rfl, rfl, rfl⟩, ar_11, ar_12, ar_13, ar_14, ar_15⟩
end
section
/-! ===== leaves: numbers, a Church's and a Singing's reads ===== -/
def NONE : Int32 := -1000009
def dv (x b : Int32) : Int32 := if b = 0 then 0 else x / b
def ab (x : Int32) : Int32 := if 0 ≤ x then x else 0 - x
theorem bI_c {P Q : Prop} [Decidable P] [Decidable Q] (h : P ↔ Q) : bI P = bI Q := by
  by_cases q : Q
  · rw [bI_t q, bI_t (h.mpr q)]
  · rw [bI_f q, bI_f (fun z => q (h.mp z))]
theorem eq1 {P : Prop} [Decidable P] {S : Sh} {I : MemI} {J : MemJ} (h : P) : eqQ (some (.int (bI P))) S I J (some (.int 1)) S I J := ⟨by rw [bI_t h], rfl, rfl, rfl⟩
theorem eq0 {P : Prop} [Decidable P] {S : Sh} {I : MemI} {J : MemJ} (h : ¬ P) : eqQ (some (.int (bI P))) S I J (some (.int 0)) S I J := ⟨by rw [bI_f h], rfl, rfl, rfl⟩
theorem i32_nlt {a b : Int32} : ¬ a < b ↔ b ≤ a := by
  simp only [Int32.lt_iff_toInt_lt, Int32.le_iff_toInt_le]
  omega
theorem i32_nle {a b : Int32} : ¬ a ≤ b ↔ b < a := by
  simp only [Int32.lt_iff_toInt_lt, Int32.le_iff_toInt_le]
  omega
theorem c_within (Γ : Cx) (S : Sh) (I : MemI) (J : MemJ) (x lo hi : Int32) : Ct Γ M_Bo_within [.int x, .int lo, .int hi] S I J (eqQ (some (.int (bI (lo ≤ x ∧ x ≤ hi)))) S I J) := by
  refine ct_of [.int x, .int lo, .int hi] (by decide +kernel) rfl (leb rfl) rfl ?_
  refine p_iload_n d_Bo_within_0 rfl ?_
  refine p_iload_n d_Bo_within_1 rfl ?_
  refine p_icmplt (tgt := 14) d_Bo_within_2 (by decide) (fun h2 => ?_) (fun h2 => ?_)
  · refine p_ic_0 d_Bo_within_14 ?_
    refine p_iret d_Bo_within_15 rfl rfl ?_
    first | exact eq1 ⟨i32_nlt.mp h2, i32_nlt.mp h7⟩ | exact eq0 (fun q => i32_nlt.mpr q.1 h2) | exact eq0 (fun q => i32_nlt.mpr q.2 h7)
  · refine p_iload_n d_Bo_within_5 rfl ?_
    refine p_iload_n d_Bo_within_6 rfl ?_
    refine p_icmpgt (tgt := 14) d_Bo_within_7 (by decide) (fun h7 => ?_) (fun h7 => ?_)
    · refine p_ic_0 d_Bo_within_14 ?_
      refine p_iret d_Bo_within_15 rfl rfl ?_
      first | exact eq1 ⟨i32_nlt.mp h2, i32_nlt.mp h7⟩ | exact eq0 (fun q => i32_nlt.mpr q.1 h2) | exact eq0 (fun q => i32_nlt.mpr q.2 h7)
    · refine p_ic_1 d_Bo_within_10 ?_
      refine p_goto (tgt := 15) d_Bo_within_11 (by decide) ?_
      refine p_iret d_Bo_within_15 rfl rfl ?_
      first | exact eq1 ⟨i32_nlt.mp h2, i32_nlt.mp h7⟩ | exact eq0 (fun q => i32_nlt.mpr q.1 h2) | exact eq0 (fun q => i32_nlt.mpr q.2 h7)
theorem c_divided (Γ : Cx) (S : Sh) (I : MemI) (J : MemJ) (x b : Int32) : Ct Γ M_Bo_divided [.int x, .int b] S I J (eqQ (some (.int (dv x b))) S I J) := by
  refine ct_of [.int x, .int b] (by decide +kernel) rfl (leb rfl) rfl ?_
  refine p_iload_n d_Bo_divided_0 rfl ?_
  refine p_ifne (tgt := 8) d_Bo_divided_1 (by decide) (fun h1 => ?_) (fun h1 => ?_)
  · refine p_iload_n d_Bo_divided_8 rfl ?_
    refine p_iload_n d_Bo_divided_9 rfl ?_
    refine p_idiv d_Bo_divided_10 (h1) ?_
    refine p_iret d_Bo_divided_11 rfl rfl ?_
    exact ⟨by simp [dv, h1], rfl, rfl, rfl⟩
  · refine p_ic_0 d_Bo_divided_4 ?_
    refine p_goto (tgt := 11) d_Bo_divided_5 (by decide) ?_
    refine p_iret d_Bo_divided_11 rfl rfl ?_
    exact ⟨by simp [dv, h1], rfl, rfl, rfl⟩
theorem c_isDigit (Γ : Cx) (S : Sh) (I : MemI) (J : MemJ) (x : Int32) : Ct Γ M_Re_isDigit [.int x] S I J (eqQ (some (.int (bI (48 ≤ x ∧ x ≤ 57)))) S I J) := by
  refine ct_of [.int x] (by decide +kernel) rfl (leb rfl) rfl ?_
  refine p_iload_n d_Re_isDigit_0 rfl ?_
  refine p_bi_48 d_Re_isDigit_1 ?_
  refine p_icmplt (tgt := 16) d_Re_isDigit_3 (by decide) (fun h3 => ?_) (fun h3 => ?_)
  · refine p_ic_0 d_Re_isDigit_16 ?_
    refine p_iret d_Re_isDigit_17 rfl rfl ?_
    first | exact eq1 ⟨i32_nlt.mp h3, i32_nlt.mp h9⟩ | exact eq0 (fun q => i32_nlt.mpr q.1 h3) | exact eq0 (fun q => i32_nlt.mpr q.2 h9)
  · refine p_iload_n d_Re_isDigit_6 rfl ?_
    refine p_bi_57 d_Re_isDigit_7 ?_
    refine p_icmpgt (tgt := 16) d_Re_isDigit_9 (by decide) (fun h9 => ?_) (fun h9 => ?_)
    · refine p_ic_0 d_Re_isDigit_16 ?_
      refine p_iret d_Re_isDigit_17 rfl rfl ?_
      first | exact eq1 ⟨i32_nlt.mp h3, i32_nlt.mp h9⟩ | exact eq0 (fun q => i32_nlt.mpr q.1 h3) | exact eq0 (fun q => i32_nlt.mpr q.2 h9)
    · refine p_ic_1 d_Re_isDigit_12 ?_
      refine p_goto (tgt := 17) d_Re_isDigit_13 (by decide) ?_
      refine p_iret d_Re_isDigit_17 rfl rfl ?_
      first | exact eq1 ⟨i32_nlt.mp h3, i32_nlt.mp h9⟩ | exact eq0 (fun q => i32_nlt.mpr q.1 h3) | exact eq0 (fun q => i32_nlt.mpr q.2 h9)
theorem c_has (Γ : Cx) (I : MemI) (J : MemJ) (c : Nat) (hc : isCh c) (x : Int32) : Ct Γ M_Ch_has [.ref c, .int x] S0 I J (eqQ (some (.int (bI (0 ≤ x ∧ x < I c 4)))) S0 I J) := by
  refine ct_of [.ref c, .int x] (by decide +kernel) rfl (leb rfl) rfl ?_
  refine p_iload_n d_Ch_has_0 rfl ?_
  refine p_iflt (tgt := 16) d_Ch_has_1 (by decide) (fun h1 => ?_) (fun h1 => ?_)
  · refine p_ic_0 d_Ch_has_16 ?_
    refine p_iret d_Ch_has_17 rfl rfl ?_
    first | exact eq1 ⟨i32_nlt.mp h1, i32_nle.mp h9⟩ | exact eq0 (fun q => i32_nlt.mpr q.1 h1) | exact eq0 (fun q => i32_nle.mpr q.2 h9)
  · refine p_iload_n d_Ch_has_4 rfl ?_
    refine p_aload_n d_Ch_has_5 rfl ?_
    refine p_getI d_Ch_has_6 fl_Ch_30 hc.1 (Or.inl rfl) ?_
    refine p_icmpge (tgt := 16) d_Ch_has_9 (by decide) (fun h9 => ?_) (fun h9 => ?_)
    · refine p_ic_0 d_Ch_has_16 ?_
      refine p_iret d_Ch_has_17 rfl rfl ?_
      first | exact eq1 ⟨i32_nlt.mp h1, i32_nle.mp h9⟩ | exact eq0 (fun q => i32_nlt.mpr q.1 h1) | exact eq0 (fun q => i32_nle.mpr q.2 h9)
    · refine p_ic_1 d_Ch_has_12 ?_
      refine p_goto (tgt := 17) d_Ch_has_13 (by decide) ?_
      refine p_iret d_Ch_has_17 rfl rfl ?_
      first | exact eq1 ⟨i32_nlt.mp h1, i32_nle.mp h9⟩ | exact eq0 (fun q => i32_nlt.mpr q.1 h1) | exact eq0 (fun q => i32_nle.mpr q.2 h9)
theorem c_lag (Γ : Cx) (I : MemI) (J : MemJ) (c k : Nat) (hc : isCh c) (hk : k < 6) : Ct Γ M_Ch_lag [.ref c, .int (nI k)] S0 I J (eqQ (some (.int (I (c + 1) k / 6))) S0 I J) := by
  refine ct_of [.ref c, .int (nI k)] (by decide +kernel) rfl (leb rfl) rfl ?_
  refine p_aload_n d_Ch_lag_0 rfl ?_
  refine p_getR d_Ch_lag_1 fl_Ch_9 hc.1 rfl hc.2.1.1 ?_
  refine p_iload_n d_Ch_lag_4 rfl ?_
  refine p_ialdN (k) d_Ch_lag_5 hc.2.2.1 rfl (by omega) rfl ?_
  refine p_bi_6 d_Ch_lag_6 ?_
  refine p_idiv d_Ch_lag_8 (by decide) ?_
  refine p_iret d_Ch_lag_9 rfl rfl ?_
  exact ⟨rfl, rfl, rfl, rfl⟩
theorem c_between (Γ : Cx) (I : MemI) (J : MemJ) (c i j : Nat) (hc : isCh c) (hi : i < 6) (hj : j < 6) : Ct Γ M_Ch_between [.ref c, .int (nI i), .int (nI j)] S0 I J (eqQ (some (.int (ab (I (c + 1) i - I (c + 1) j) / 6))) S0 I J) := by
  refine ct_of [.ref c, .int (nI i), .int (nI j)] (by decide +kernel) rfl (leb rfl) rfl ?_
  refine p_aload_n d_Ch_between_0 rfl ?_
  refine p_getR d_Ch_between_1 fl_Ch_9 hc.1 rfl hc.2.1.1 ?_
  refine p_iload_n d_Ch_between_4 rfl ?_
  refine p_ialdN (i) d_Ch_between_5 hc.2.2.1 rfl (by omega) rfl ?_
  refine p_aload_n d_Ch_between_6 rfl ?_
  refine p_getR d_Ch_between_7 fl_Ch_9 hc.1 rfl hc.2.1.1 ?_
  refine p_iload_n d_Ch_between_10 rfl ?_
  refine p_ialdN (j) d_Ch_between_11 hc.2.2.1 rfl (by omega) rfl ?_
  refine p_isub d_Ch_between_12 ?_
  refine p_abs d_Ch_between_13 ml_Ch_43 (leb rfl) (leb rfl) ?_
  refine p_bi_6 d_Ch_between_16 ?_
  refine p_idiv d_Ch_between_18 (by decide) ?_
  refine p_iret d_Ch_between_19 rfl rfl ?_
  exact ⟨rfl, rfl, rfl, rfl⟩
theorem c_isKnower (Γ : Cx) (I : MemI) (J : MemJ) (a : Nat) (ha : isSi a) (x : Int32) : Ct Γ M_Si_isKnower [.ref a, .int x] S0 I J (eqQ (some (.int (bI (I a 3 >>> (x &&& 31) &&& 1 = 1)))) S0 I J) := by
  refine ct_of [.ref a, .int x] (by decide +kernel) rfl (leb rfl) rfl ?_
  refine p_aload_n d_Si_isKnower_0 rfl ?_
  refine p_getI d_Si_isKnower_1 fl_Si_23 ha.1 (Or.inl rfl) ?_
  refine p_iload_n d_Si_isKnower_4 rfl ?_
  refine p_ishr d_Si_isKnower_5 ?_
  refine p_ic_1 d_Si_isKnower_6 ?_
  refine p_iand d_Si_isKnower_7 ?_
  refine p_ic_1 d_Si_isKnower_8 ?_
  refine p_icmpne (tgt := 16) d_Si_isKnower_9 (by decide) (fun h9 => ?_) (fun h9 => ?_)
  · refine p_ic_0 d_Si_isKnower_16 ?_
    refine p_iret d_Si_isKnower_17 rfl rfl ?_
    first | exact eq1 h9 | exact eq0 h9
  · refine p_ic_1 d_Si_isKnower_12 ?_
    refine p_goto (tgt := 17) d_Si_isKnower_13 (by decide) ?_
    refine p_iret d_Si_isKnower_17 rfl rfl ?_
    first | exact eq1 h9 | exact eq0 h9
theorem c_Chempty (Γ : Cx) (I : MemI) (J : MemJ) (c : Nat) (hc : isCh c) : Ct Γ M_Ch_empty [.ref c] S0 I J (eqQ none S0 (up2 (up2 (up2 (up2 I c 4 0) c 5 0) c 6 4) c 7 2) J) := by
  refine ct_of [.ref c] (by decide +kernel) rfl (leb rfl) rfl ?_
  refine p_aload_n d_Ch_empty_0 rfl ?_
  refine p_ic_0 d_Ch_empty_1 ?_
  refine p_putI d_Ch_empty_2 fl_Ch_30 hc.1 rfl nf_0_4 ?_
  refine p_aload_n d_Ch_empty_5 rfl ?_
  refine p_ic_0 d_Ch_empty_6 ?_
  refine p_putI d_Ch_empty_7 fl_Ch_34 hc.1 rfl nf_0_5 ?_
  refine p_aload_n d_Ch_empty_10 rfl ?_
  refine p_ic_4 d_Ch_empty_11 ?_
  refine p_putI d_Ch_empty_12 fl_Ch_37 hc.1 rfl nf_0_6 ?_
  refine p_aload_n d_Ch_empty_15 rfl ?_
  refine p_ic_2 d_Ch_empty_16 ?_
  refine p_putI d_Ch_empty_17 fl_Ch_40 hc.1 rfl nf_0_7 ?_
  refine p_ret d_Ch_empty_20 rfl ?_
  exact ⟨rfl, rfl, rfl, rfl⟩
theorem zc_lt {x y : Int64} : lg_cmp x y < 0 ↔ x < y := by
  unfold lg_cmp
  simp only [Int64.lt_iff_toInt_lt, ← Int64.toInt_inj]
  split
  · constructor
    · intro h; exact absurd h (by decide)
    · intro h; omega
  · split
    · constructor
      · intro h; exact absurd h (by decide)
      · intro h; omega
    · constructor
      · intro h; omega
      · intro h; decide
theorem zc_gt {x y : Int64} : 0 < lg_cmp x y ↔ y < x := by
  unfold lg_cmp
  simp only [Int64.lt_iff_toInt_lt, ← Int64.toInt_inj]
  split
  · constructor
    · intro h; omega
    · intro h; decide
  · split
    · constructor
      · intro h; exact absurd h (by decide)
      · intro h; omega
    · constructor
      · intro h; exact absurd h (by decide)
      · intro h; omega
theorem i64_nlt {a b : Int64} : ¬ a < b ↔ b ≤ a := by
  simp only [Int64.lt_iff_toInt_lt, Int64.le_iff_toInt_le]
  omega
theorem c_inL (Γ : Cx) (S : Sh) (I : MemI) (J : MemJ) (x lo hi : Int64) : Ct Γ M_Mo_in [.long x, .long lo, .long hi] S I J (eqQ (some (.int (bI (lo ≤ x ∧ x ≤ hi)))) S I J) := by
  refine ct_of [.long x, .null, .long lo, .null, .long hi, .null] (by decide +kernel) rfl (leb rfl) rfl ?_
  refine p_lload_n d_Mo_in_0 rfl ?_
  refine p_lload_n d_Mo_in_1 rfl ?_
  refine p_lcmp d_Mo_in_2 ?_
  refine p_iflt (tgt := 17) d_Mo_in_3 (by decide) (fun h3 => ?_) (fun h3 => ?_)
  · refine p_ic_0 d_Mo_in_17 ?_
    refine p_iret d_Mo_in_18 rfl rfl ?_
    first | exact eq1 ⟨i64_nlt.mp (fun q => h3 (zc_lt.mpr q)), i64_nlt.mp (fun q => h10 (zc_gt.mpr q))⟩ | exact eq0 (fun q => i64_nlt.mpr q.1 (zc_lt.mp h3)) | exact eq0 (fun q => i64_nlt.mpr q.2 (zc_gt.mp h10))
  · refine p_lload_n d_Mo_in_6 rfl ?_
    refine p_lload d_Mo_in_7 rfl ?_
    refine p_lcmp d_Mo_in_9 ?_
    refine p_ifgt (tgt := 17) d_Mo_in_10 (by decide) (fun h10 => ?_) (fun h10 => ?_)
    · refine p_ic_0 d_Mo_in_17 ?_
      refine p_iret d_Mo_in_18 rfl rfl ?_
      first | exact eq1 ⟨i64_nlt.mp (fun q => h3 (zc_lt.mpr q)), i64_nlt.mp (fun q => h10 (zc_gt.mpr q))⟩ | exact eq0 (fun q => i64_nlt.mpr q.1 (zc_lt.mp h3)) | exact eq0 (fun q => i64_nlt.mpr q.2 (zc_gt.mp h10))
    · refine p_ic_1 d_Mo_in_13 ?_
      refine p_goto (tgt := 18) d_Mo_in_14 (by decide) ?_
      refine p_iret d_Mo_in_18 rfl rfl ?_
      first | exact eq1 ⟨i64_nlt.mp (fun q => h3 (zc_lt.mpr q)), i64_nlt.mp (fun q => h10 (zc_gt.mpr q))⟩ | exact eq0 (fun q => i64_nlt.mpr q.1 (zc_lt.mp h3)) | exact eq0 (fun q => i64_nlt.mpr q.2 (zc_gt.mp h10))
theorem wide_le {a b : Int32} : a.toInt64 ≤ b.toInt64 ↔ a ≤ b := by
  simp [Int64.le_iff_toInt_le, Int32.le_iff_toInt_le]
theorem c_in (Γ : Cx) (S : Sh) (I : MemI) (J : MemJ) (x lo hi : Int32) {lo' hi' : Int64} (h1 : lo' = lo.toInt64) (h2 : hi' = hi.toInt64) : Ct Γ M_Mo_in [.long x.toInt64, .long lo', .long hi'] S I J (eqQ (some (.int (bI (lo ≤ x ∧ x ≤ hi)))) S I J) := by
  have h := c_inL Γ S I J x.toInt64 lo' hi'
  rw [bI_c (P := lo' ≤ x.toInt64 ∧ x.toInt64 ≤ hi') (Q := lo ≤ x ∧ x ≤ hi) (by rw [h1, h2, wide_le, wide_le])] at h
  exact h
theorem c_isTwo (Γ : Cx) (S : Sh) (I : MemI) (J : MemJ) (x : Int32) : Ct Γ M_Mo_isTwo [.int x] S I J (eqQ (some (.int (bI (0 ≤ x ∧ x ≤ 1)))) S I J) := by
  refine ct_of [.int x] (by decide +kernel) rfl (leb rfl) rfl ?_
  refine p_iload_n d_Mo_isTwo_0 rfl ?_
  refine p_i2l d_Mo_isTwo_1 ?_
  refine p_lc_0 d_Mo_isTwo_2 ?_
  refine p_lc_1 d_Mo_isTwo_3 ?_
  refine q_S1 d_Mo_isTwo_4 ml_Mo_45 sb_Mo_in ⟨leb rfl, leb rfl⟩ (c_in Γ _ _ _ x 0 1 (by decide) (by decide)) rfl rfl rfl ?_
  refine p_iret d_Mo_isTwo_7 rfl bI_nar ?_
  exact ⟨rfl, rfl, rfl, rfl⟩
theorem c_isSpan (Γ : Cx) (S : Sh) (I : MemI) (J : MemJ) (x : Int32) : Ct Γ M_Mo_isSpan [.int x] S I J (eqQ (some (.int (bI (1 ≤ x ∧ x ≤ 30)))) S I J) := by
  refine ct_of [.int x] (by decide +kernel) rfl (leb rfl) rfl ?_
  refine p_iload_n d_Mo_isSpan_0 rfl ?_
  refine p_i2l d_Mo_isSpan_1 ?_
  refine p_lc_1 d_Mo_isSpan_2 ?_
  refine p_ldc2 d_Mo_isSpan_3 kl_Mo_157 ?_
  refine q_S1 d_Mo_isSpan_6 ml_Mo_45 sb_Mo_in ⟨leb rfl, leb rfl⟩ (c_in Γ _ _ _ x 1 30 (by decide) (by decide)) rfl rfl rfl ?_
  refine p_iret d_Mo_isSpan_9 rfl bI_nar ?_
  exact ⟨rfl, rfl, rfl, rfl⟩
theorem c_isPew (Γ : Cx) (I : MemI) (J : MemJ) (x : Int32) : Ct Γ M_Mo_isPew [.ref 53, .int x] S0 I J (eqQ (some (.int (bI (0 ≤ x ∧ x ≤ I 54 0 - 1)))) S0 I J) := by
  refine ct_of [.ref 53, .int x] (by decide +kernel) rfl (leb rfl) rfl ?_
  refine p_iload_n d_Mo_isPew_0 rfl ?_
  refine p_i2l d_Mo_isPew_1 ?_
  refine p_lc_0 d_Mo_isPew_2 ?_
  refine p_aload_n d_Mo_isPew_3 rfl ?_
  refine p_getR d_Mo_isPew_4 fl_Mo_7 kd_53 rfl rf_53_0 ?_
  refine p_ic_0 d_Mo_isPew_7 ?_
  refine p_ialdN (0) d_Mo_isPew_8 ar_54 rfl (by omega) rfl ?_
  refine p_ic_1 d_Mo_isPew_9 ?_
  refine p_isub d_Mo_isPew_10 ?_
  refine p_i2l d_Mo_isPew_11 ?_
  refine q_S1 d_Mo_isPew_12 ml_Mo_45 sb_Mo_in ⟨leb rfl, leb rfl⟩ (c_in Γ _ _ _ x 0 (I 54 0 - 1) (by decide) (rfl)) rfl rfl rfl ?_
  refine p_iret d_Mo_isPew_15 rfl bI_nar ?_
  exact ⟨rfl, rfl, rfl, rfl⟩
end
section
/-! ===== what the two programs compute, over the reference's row of 39 numbers ===== -/
def frT (t : Nat → Int32) (k e : Nat) : Int32 := t (28 + e) + ab (t (4 + k) - t (4 + e)) / 6
def s1T (t : Nat → Int32) (k : Nat) : Int32 := if 0 < k then 0 + frT t k (k - 1) else 0
def smT (n : Nat) (t : Nat → Int32) (k : Nat) : Int32 := if k + 1 < n then s1T t k + frT t k (k + 1) else s1T t k
def myT (n k : Nat) : Nat := (if 0 < k then 1 else 0) + (if k + 1 < n then 1 else 0)
def nrT (n : Nat) (t : Nat → Int32) (k : Nat) : Int32 := if myT n k = 0 then 0 else t (16 + k)
def mnT (n : Nat) (t : Nat → Int32) (k : Nat) : Int32 := if myT n k = 0 then 0 else smT n t k / nI (myT n k)
def vT (n : Nat) (t : Nat → Int32) (k : Nat) : Int32 := (t (10 + k) * (t (4 + k) / 6 - t 35) + nrT n t k * mnT n t k + 5 * t (28 + k)) / (t (10 + k) + nrT n t k + 5) + (if t 37 >>> (nI k &&& 31) &&& 1 = 1 then 0 else t (22 + k))
def clT (v : Int32) : Int32 := if v < (-99) then (-99) else if 999 < v then 999 else v
def ltT (n : Nat) (t : Nat → Int32) (k : Nat) : Int32 := clT (vT n t k)
def thT (n : Nat) (t : Nat → Int32) (k : Nat) : Int32 := if nI k = t 36 then 0 else ltT n t k
def sumN (f : Nat → Int32) : Nat → Int32
  | 0 => 0
  | k + 1 => sumN f k + f k
def w0T (n : Nat) (t : Nat → Int32) : Int32 := if n = 0 then 0 else t 1 * (sumN (thT n t) n / nI n) / 10
def wT (n : Nat) (t : Nat → Int32) : Int32 := if 0 < w0T n t then w0T n t else 0
def capT (p : Int32) : Int32 := if 9999 < p then 9999 else p
/-- a line is sung -/
def singT (n : Nat) (t : Nat → Int32) : Nat → Int32 := fun y => if 28 ≤ y ∧ y < 28 + n then thT n t (y - 28) - wT n t else if y = 34 then capT (t 34 + wT n t) else if y = 38 then t 38 + 1 else t y
/-- so many lines -/
def itS (n : Nat) (t : Nat → Int32) : Nat → Nat → Int32
  | 0 => t
  | j + 1 => singT n (itS n t j)
def okD (n : Nat) (t : Nat → Int32) : Prop := ∀ k, k < n → ¬ (t (10 + k) + nrT n t k + 5 = 0)
theorem i32_lt {a b : Int32} : a < b ↔ a.toInt < b.toInt := Int32.lt_iff_toInt_lt
theorem i32_le {a b : Int32} : a ≤ b ↔ a.toInt ≤ b.toInt := Int32.le_iff_toInt_le
theorem i32_eq {a b : Int32} : a = b ↔ a.toInt = b.toInt := Int32.toInt_inj.symm
theorem zsub (x : Int32) : 0 - x = -x := by simp
theorem ab_neg (a b : Int32) : ab (a - b) = ab (b - a) := by
  have h : b - a = -(a - b) := by simp
  rw [h]
  generalize a - b = x
  unfold ab
  by_cases h1 : 0 ≤ x
  · by_cases h2 : 0 ≤ -x
    · rw [if_pos h1, if_pos h2]
      by_cases h3 : x = -2147483648
      · subst h3; decide
      · rw [i32_le] at h1 h2
        have h4 : (-x).toInt = -x.toInt := by
          rw [Int32.toInt_neg]
          have q1 := Int32.toInt_lt x
          have q2 := Int32.le_toInt x
          have q3 : x.toInt ≠ -2147483648 := fun q => h3 (i32_eq.mpr q)
          rw [Int.bmod_eq_of_le] <;> omega
        rw [h4] at h2
        have e0 : (0 : Int32).toInt = 0 := by decide
        rw [e0] at h1 h2
        have : x = 0 := i32_eq.mpr (by rw [e0]; omega)
        subst this
        decide
    · rw [if_pos h1, if_neg h2]
      simp
  · by_cases h2 : 0 ≤ -x
    · rw [if_neg h1, if_pos h2, zsub]
    · rw [if_neg h1, if_neg h2]
      have e0 : (0 : Int32).toInt = 0 := by decide
      rw [i32_le] at h1 h2
      rw [e0] at h1 h2
      by_cases h3 : x = -2147483648
      · subst h3; decide
      · exfalso
        have h4 : (-x).toInt = -x.toInt := by
          rw [Int32.toInt_neg]
          have q1 := Int32.toInt_lt x
          have q2 := Int32.le_toInt x
          have q3 : x.toInt ≠ -2147483648 := fun q => h3 (i32_eq.mpr q)
          rw [Int.bmod_eq_of_le] <;> omega
        rw [h4] at h2
        omega
theorem singT_off {n : Nat} {t : Nat → Int32} {y : Nat} (h1 : ¬ (28 ≤ y ∧ y < 28 + n)) (h2 : y ≠ 34) (h3 : y ≠ 38) : singT n t y = t y := by
  simp only [singT, h1, h2, h3, if_false]
end
section
/-! ===== the reference sings ===== -/
theorem m_from (Γ : Cx) (I : MemI) (J : MemJ) (tc k e : Nat) (ht : ar S0 tc 10 39) (hk : k < 6) (he : e < 6) : Ct Γ M_Mo_from [.ref tc, .int (nI k), .int (nI e)] S0 I J (eqQ (some (.int (frT (I tc) k e))) S0 I J) := by
  refine ct_of [.ref tc, .int (nI k), .int (nI e), .null] (by decide +kernel) rfl (leb rfl) rfl ?_
  refine p_aload_n d_Mo_from_0 rfl ?_
  refine p_ic_4 d_Mo_from_1 ?_
  refine p_iload_n d_Mo_from_2 rfl ?_
  refine p_iaddN (4) (k) d_Mo_from_3 rfl rfl ?_
  refine p_ialdN (4 + k) d_Mo_from_4 ht rfl (by omega) rfl ?_
  refine p_aload_n d_Mo_from_5 rfl ?_
  refine p_ic_4 d_Mo_from_6 ?_
  refine p_iload_n d_Mo_from_7 rfl ?_
  refine p_iaddN (4) (e) d_Mo_from_8 rfl rfl ?_
  refine p_ialdN (4 + e) d_Mo_from_9 ht rfl (by omega) rfl ?_
  refine p_isub d_Mo_from_10 ?_
  refine p_is_3 d_Mo_from_11 (by decide) rfl ?_
  refine p_aload_n d_Mo_from_12 rfl ?_
  refine p_bi_28 d_Mo_from_13 ?_
  refine p_iload_n d_Mo_from_15 rfl ?_
  refine p_iaddN (28) (e) d_Mo_from_16 rfl rfl ?_
  refine p_ialdN (28 + e) d_Mo_from_17 ht rfl (by omega) rfl ?_
  refine p_iload_n d_Mo_from_18 rfl ?_
  refine p_ifge (tgt := 27) d_Mo_from_19 (by decide) (fun h19 => ?_) (fun h19 => ?_)
  · refine p_iload_n d_Mo_from_27 rfl ?_
    refine p_bi_6 d_Mo_from_28 ?_
    refine p_idiv d_Mo_from_30 (by decide) ?_
    refine p_iadd d_Mo_from_31 ?_
    refine p_iret d_Mo_from_32 rfl rfl ?_
    exact ⟨by simp [frT, ab, h19], rfl, rfl, rfl⟩
  · refine p_iload_n d_Mo_from_22 rfl ?_
    refine p_ineg d_Mo_from_23 ?_
    refine p_goto (tgt := 28) d_Mo_from_24 (by decide) ?_
    refine p_bi_6 d_Mo_from_28 ?_
    refine p_idiv d_Mo_from_30 (by decide) ?_
    refine p_iadd d_Mo_from_31 ?_
    refine p_iret d_Mo_from_32 rfl rfl ?_
    exact ⟨by simp [frT, ab, h19], rfl, rfl, rfl⟩
theorem m_lateThen (Γ : Cx) (I : MemI) (J : MemJ) (tc n k : Nat) (ht : ar S0 tc 10 39) (hn : n ≤ 6) (h0 : I tc 0 = nI n) (hk : k < n) (hz : ¬ (I tc (10 + k) + nrT n (I tc) k + 5 = 0)) : Ct Γ M_Mo_lateThen [.ref tc, .int (nI k)] S0 I J (eqQ (some (.int (ltT n (I tc) k))) S0 I J) := by
  have J74 : ∀ (s m a b : Int32), a = nrT n (I tc) k → b = mnT n (I tc) k → WP Γ M_Mo_lateThen (0, 0) S0 I J 74 [.ref tc, .int (nI k), .int s, .int m, .int a, .int b, .null, .null] [] (eqQ (some (.int (ltT n (I tc) k))) S0 I J) := by
    intro s m a b ea eb
    refine p_aload_n d_Mo_lateThen_74 rfl ?_
    refine p_bi_10 d_Mo_lateThen_75 ?_
    refine p_iload_n d_Mo_lateThen_77 rfl ?_
    refine p_iaddN (10) (k) d_Mo_lateThen_78 rfl rfl ?_
    refine p_ialdN (10 + k) d_Mo_lateThen_79 ht rfl (by omega) rfl ?_
    refine p_aload_n d_Mo_lateThen_80 rfl ?_
    refine p_ic_4 d_Mo_lateThen_81 ?_
    refine p_iload_n d_Mo_lateThen_82 rfl ?_
    refine p_iaddN (4) (k) d_Mo_lateThen_83 rfl rfl ?_
    refine p_ialdN (4 + k) d_Mo_lateThen_84 ht rfl (by omega) rfl ?_
    refine p_bi_6 d_Mo_lateThen_85 ?_
    refine p_idiv d_Mo_lateThen_87 (by decide) ?_
    refine p_aload_n d_Mo_lateThen_88 rfl ?_
    refine p_bi_35 d_Mo_lateThen_89 ?_
    refine p_ialdN (35) d_Mo_lateThen_91 ht rfl (by omega) rfl ?_
    refine p_isub d_Mo_lateThen_92 ?_
    refine p_imul d_Mo_lateThen_93 ?_
    refine p_iload d_Mo_lateThen_94 rfl ?_
    refine p_iload d_Mo_lateThen_96 rfl ?_
    refine p_imul d_Mo_lateThen_98 ?_
    refine p_iadd d_Mo_lateThen_99 ?_
    refine p_ic_5 d_Mo_lateThen_100 ?_
    refine p_aload_n d_Mo_lateThen_101 rfl ?_
    refine p_bi_28 d_Mo_lateThen_102 ?_
    refine p_iload_n d_Mo_lateThen_104 rfl ?_
    refine p_iaddN (28) (k) d_Mo_lateThen_105 rfl rfl ?_
    refine p_ialdN (28 + k) d_Mo_lateThen_106 ht rfl (by omega) rfl ?_
    refine p_imul d_Mo_lateThen_107 ?_
    refine p_iadd d_Mo_lateThen_108 ?_
    refine p_is_6 d_Mo_lateThen_109 (by decide) rfl ?_
    refine p_iload d_Mo_lateThen_111 rfl ?_
    refine p_aload_n d_Mo_lateThen_113 rfl ?_
    refine p_bi_10 d_Mo_lateThen_114 ?_
    refine p_iload_n d_Mo_lateThen_116 rfl ?_
    refine p_iaddN (10) (k) d_Mo_lateThen_117 rfl rfl ?_
    refine p_ialdN (10 + k) d_Mo_lateThen_118 ht rfl (by omega) rfl ?_
    refine p_iload d_Mo_lateThen_119 rfl ?_
    refine p_iadd d_Mo_lateThen_121 ?_
    refine p_ic_5 d_Mo_lateThen_122 ?_
    refine p_iadd d_Mo_lateThen_123 ?_
    refine p_idiv d_Mo_lateThen_124 (by rw [ea]; exact hz) ?_
    refine p_aload_n d_Mo_lateThen_125 rfl ?_
    refine p_bi_37 d_Mo_lateThen_126 ?_
    refine p_ialdN (37) d_Mo_lateThen_128 ht rfl (by omega) rfl ?_
    refine p_iload_n d_Mo_lateThen_129 rfl ?_
    refine p_ishr d_Mo_lateThen_130 ?_
    refine p_ic_1 d_Mo_lateThen_131 ?_
    refine p_iand d_Mo_lateThen_132 ?_
    refine p_ic_1 d_Mo_lateThen_133 ?_
    refine p_icmpne (tgt := 141) d_Mo_lateThen_134 (by decide) (fun h134 => ?_) (fun h134 => ?_)
    · refine p_aload_n d_Mo_lateThen_141 rfl ?_
      refine p_bi_22 d_Mo_lateThen_142 ?_
      refine p_iload_n d_Mo_lateThen_144 rfl ?_
      refine p_iaddN (22) (k) d_Mo_lateThen_145 rfl rfl ?_
      refine p_ialdN (22 + k) d_Mo_lateThen_146 ht rfl (by omega) rfl ?_
      refine p_iadd d_Mo_lateThen_147 ?_
      refine p_is_7 d_Mo_lateThen_148 (by decide) rfl ?_
      refine p_iload d_Mo_lateThen_150 rfl ?_
      refine p_bi_m99 d_Mo_lateThen_152 ?_
      refine p_icmpge (tgt := 162) d_Mo_lateThen_154 (by decide) (fun h154 => ?_) (fun h154 => ?_)
      · refine p_iload d_Mo_lateThen_162 rfl ?_
        refine p_si_999 d_Mo_lateThen_164 ?_
        refine p_icmple (tgt := 176) d_Mo_lateThen_167 (by decide) (fun h167 => ?_) (fun h167 => ?_)
        · refine p_iload d_Mo_lateThen_176 rfl ?_
          refine p_iret d_Mo_lateThen_178 rfl rfl ?_
          refine ⟨?_, rfl, rfl, rfl⟩
          simp only [ltT, clT, vT, ← ea, ← eb, h134, if_true, if_false]
          first | rw [if_pos (i32_nle.mp h154)] | (rw [if_neg (i32_nlt.mpr h154)]; first | rw [if_neg (i32_nlt.mpr h167)] | rw [if_pos (i32_nle.mp h167)])
        · refine p_si_999 d_Mo_lateThen_170 ?_
          refine p_goto (tgt := 178) d_Mo_lateThen_173 (by decide) ?_
          refine p_iret d_Mo_lateThen_178 rfl rfl ?_
          refine ⟨?_, rfl, rfl, rfl⟩
          simp only [ltT, clT, vT, ← ea, ← eb, h134, if_true, if_false]
          first | rw [if_pos (i32_nle.mp h154)] | (rw [if_neg (i32_nlt.mpr h154)]; first | rw [if_neg (i32_nlt.mpr h167)] | rw [if_pos (i32_nle.mp h167)])
      · refine p_bi_m99 d_Mo_lateThen_157 ?_
        refine p_goto (tgt := 178) d_Mo_lateThen_159 (by decide) ?_
        refine p_iret d_Mo_lateThen_178 rfl rfl ?_
        refine ⟨?_, rfl, rfl, rfl⟩
        simp only [ltT, clT, vT, ← ea, ← eb, h134, if_true, if_false]
        first | rw [if_pos (i32_nle.mp h154)] | (rw [if_neg (i32_nlt.mpr h154)]; first | rw [if_neg (i32_nlt.mpr h167)] | rw [if_pos (i32_nle.mp h167)])
    · refine p_ic_0 d_Mo_lateThen_137 ?_
      refine p_goto (tgt := 147) d_Mo_lateThen_138 (by decide) ?_
      refine p_iadd d_Mo_lateThen_147 ?_
      refine p_is_7 d_Mo_lateThen_148 (by decide) rfl ?_
      refine p_iload d_Mo_lateThen_150 rfl ?_
      refine p_bi_m99 d_Mo_lateThen_152 ?_
      refine p_icmpge (tgt := 162) d_Mo_lateThen_154 (by decide) (fun h154 => ?_) (fun h154 => ?_)
      · refine p_iload d_Mo_lateThen_162 rfl ?_
        refine p_si_999 d_Mo_lateThen_164 ?_
        refine p_icmple (tgt := 176) d_Mo_lateThen_167 (by decide) (fun h167 => ?_) (fun h167 => ?_)
        · refine p_iload d_Mo_lateThen_176 rfl ?_
          refine p_iret d_Mo_lateThen_178 rfl rfl ?_
          refine ⟨?_, rfl, rfl, rfl⟩
          simp only [ltT, clT, vT, ← ea, ← eb, h134, if_true, if_false]
          first | rw [if_pos (i32_nle.mp h154)] | (rw [if_neg (i32_nlt.mpr h154)]; first | rw [if_neg (i32_nlt.mpr h167)] | rw [if_pos (i32_nle.mp h167)])
        · refine p_si_999 d_Mo_lateThen_170 ?_
          refine p_goto (tgt := 178) d_Mo_lateThen_173 (by decide) ?_
          refine p_iret d_Mo_lateThen_178 rfl rfl ?_
          refine ⟨?_, rfl, rfl, rfl⟩
          simp only [ltT, clT, vT, ← ea, ← eb, h134, if_true, if_false]
          first | rw [if_pos (i32_nle.mp h154)] | (rw [if_neg (i32_nlt.mpr h154)]; first | rw [if_neg (i32_nlt.mpr h167)] | rw [if_pos (i32_nle.mp h167)])
      · refine p_bi_m99 d_Mo_lateThen_157 ?_
        refine p_goto (tgt := 178) d_Mo_lateThen_159 (by decide) ?_
        refine p_iret d_Mo_lateThen_178 rfl rfl ?_
        refine ⟨?_, rfl, rfl, rfl⟩
        simp only [ltT, clT, vT, ← ea, ← eb, h134, if_true, if_false]
        first | rw [if_pos (i32_nle.mp h154)] | (rw [if_neg (i32_nlt.mpr h154)]; first | rw [if_neg (i32_nlt.mpr h167)] | rw [if_pos (i32_nle.mp h167)])
  have J45 : ∀ (s m : Int32), s = smT n (I tc) k → m = nI (myT n k) → WP Γ M_Mo_lateThen (0, 0) S0 I J 45 [.ref tc, .int (nI k), .int s, .int m, .null, .null, .null, .null] [] (eqQ (some (.int (ltT n (I tc) k))) S0 I J) := by
    intro s m es em
    have hm : m = 0 ↔ myT n k = 0 := by
      rw [em]
      exact nI_eq (b := 0) (by unfold myT; split <;> split <;> omega) (by omega)
    refine p_iload_n d_Mo_lateThen_45 rfl ?_
    refine p_ifne (tgt := 53) d_Mo_lateThen_46 (by decide) (fun h46 => ?_) (fun h46 => ?_)
    · refine p_aload_n d_Mo_lateThen_53 rfl ?_
      refine p_bi_16 d_Mo_lateThen_54 ?_
      refine p_iload_n d_Mo_lateThen_56 rfl ?_
      refine p_iaddN (16) (k) d_Mo_lateThen_57 rfl rfl ?_
      refine p_ialdN (16 + k) d_Mo_lateThen_58 ht rfl (by omega) rfl ?_
      refine p_is_4 d_Mo_lateThen_59 (by decide) rfl ?_
      refine p_iload_n d_Mo_lateThen_61 rfl ?_
      refine p_ifne (tgt := 69) d_Mo_lateThen_62 (by decide) (fun h62 => ?_) (fun h62 => ?_)
      · refine p_iload_n d_Mo_lateThen_69 rfl ?_
        refine p_iload_n d_Mo_lateThen_70 rfl ?_
        refine p_idiv d_Mo_lateThen_71 (h62) ?_
        refine p_is_5 d_Mo_lateThen_72 (by decide) rfl ?_
        exact J74 _ _ _ _ (by simp [nrT, ← hm, h46]) (by unfold mnT; rw [← es, ← em]; simp [← hm, h62])
      · refine p_ic_0 d_Mo_lateThen_65 ?_
        refine p_goto (tgt := 72) d_Mo_lateThen_66 (by decide) ?_
        refine p_is_5 d_Mo_lateThen_72 (by decide) rfl ?_
        exact J74 _ _ _ _ (by simp [nrT, ← hm, h46]) (by unfold mnT; rw [← es, ← em]; simp [← hm, h62])
    · refine p_ic_0 d_Mo_lateThen_49 ?_
      refine p_goto (tgt := 59) d_Mo_lateThen_50 (by decide) ?_
      refine p_is_4 d_Mo_lateThen_59 (by decide) rfl ?_
      refine p_iload_n d_Mo_lateThen_61 rfl ?_
      refine p_ifne (tgt := 69) d_Mo_lateThen_62 (by decide) (fun h62 => ?_) (fun h62 => ?_)
      · refine p_iload_n d_Mo_lateThen_69 rfl ?_
        refine p_iload_n d_Mo_lateThen_70 rfl ?_
        refine p_idiv d_Mo_lateThen_71 (h62) ?_
        refine p_is_5 d_Mo_lateThen_72 (by decide) rfl ?_
        exact J74 _ _ _ _ (by simp [nrT, ← hm, h46]) (by unfold mnT; rw [← es, ← em]; simp [← hm, h62])
      · refine p_ic_0 d_Mo_lateThen_65 ?_
        refine p_goto (tgt := 72) d_Mo_lateThen_66 (by decide) ?_
        refine p_is_5 d_Mo_lateThen_72 (by decide) rfl ?_
        exact J74 _ _ _ _ (by simp [nrT, ← hm, h46]) (by unfold mnT; rw [← es, ← em]; simp [← hm, h62])
  refine ct_of [.ref tc, .int (nI k), .null, .null, .null, .null, .null, .null] (by decide +kernel) rfl (leb rfl) rfl ?_
  refine p_ic_0 d_Mo_lateThen_0 ?_
  refine p_is_2 d_Mo_lateThen_1 (by decide) rfl ?_
  refine p_ic_0 d_Mo_lateThen_2 ?_
  refine p_is_3 d_Mo_lateThen_3 (by decide) rfl ?_
  refine p_iload_n d_Mo_lateThen_4 rfl ?_
  refine p_ifle (tgt := 22) d_Mo_lateThen_5 (by decide) (fun h5 => ?_) (fun h5 => ?_)
  · have g5 : ¬ 0 < k := fun q => i32_nlt.mpr h5 ((nI_ltI (a := 0) (by omega) (by omega)).mpr q)
    refine p_iload_n d_Mo_lateThen_22 rfl ?_
    refine p_aload_n d_Mo_lateThen_23 rfl ?_
    refine p_ic_0 d_Mo_lateThen_24 ?_
    refine p_ialdN (0) d_Mo_lateThen_25 ht rfl (by omega) rfl ?_
    refine p_eqI h0 ?_
    refine p_ic_1 d_Mo_lateThen_26 ?_
    refine p_isubN (n) (1) d_Mo_lateThen_27 rfl rfl (by omega) ?_
    refine p_icmpgeN (tgt := 45) (k) (n - 1) d_Mo_lateThen_28 (by decide) rfl rfl (by omega) (by omega) (fun h28 => ?_) (fun h28 => ?_)
    · exact J45 _ _ (by first | (simp [smT, s1T, g5, show k + 1 < n by omega]; done) | (simp [smT, s1T, g5, show ¬ k + 1 < n by omega]; done)) (by first | (simp [myT, g5, show k + 1 < n by omega, nI_0]; done) | (simp [myT, g5, show ¬ k + 1 < n by omega, nI_0]; done))
    · refine p_iload_n d_Mo_lateThen_31 rfl ?_
      refine p_aload_n d_Mo_lateThen_32 rfl ?_
      refine p_iload_n d_Mo_lateThen_33 rfl ?_
      refine p_iload_n d_Mo_lateThen_34 rfl ?_
      refine p_ic_1 d_Mo_lateThen_35 ?_
      refine p_iaddN (k) (1) d_Mo_lateThen_36 rfl rfl ?_
      refine q_S1 d_Mo_lateThen_37 ml_Mo_112 sb_Mo_from ⟨leb rfl, leb rfl⟩ (m_from Γ I J tc k (k + 1) ht (by omega) (by omega)) rfl rfl rfl ?_
      refine p_iadd d_Mo_lateThen_40 ?_
      refine p_is_2 d_Mo_lateThen_41 (by decide) rfl ?_
      refine p_incN_3_1 d_Mo_lateThen_42 (by decide) rfl ?_
      exact J45 _ _ (by first | (simp [smT, s1T, g5, show k + 1 < n by omega]; done) | (simp [smT, s1T, g5, show ¬ k + 1 < n by omega]; done)) (by first | (simp [myT, g5, show k + 1 < n by omega, nI_0]; done) | (simp [myT, g5, show ¬ k + 1 < n by omega, nI_0]; done))
  · have g5 : 0 < k := by
      rcases Nat.eq_zero_or_pos k with q | q
      · exact absurd (by rw [q]; decide) h5
      · exact q
    refine p_iload_n d_Mo_lateThen_8 rfl ?_
    refine p_aload_n d_Mo_lateThen_9 rfl ?_
    refine p_iload_n d_Mo_lateThen_10 rfl ?_
    refine p_iload_n d_Mo_lateThen_11 rfl ?_
    refine p_ic_1 d_Mo_lateThen_12 ?_
    refine p_isubN (k) (1) d_Mo_lateThen_13 rfl rfl (by omega) ?_
    refine q_S1 d_Mo_lateThen_14 ml_Mo_112 sb_Mo_from ⟨leb rfl, leb rfl⟩ (m_from Γ I J tc k (k - 1) ht (by omega) (by omega)) rfl rfl rfl ?_
    refine p_iadd d_Mo_lateThen_17 ?_
    refine p_is_2 d_Mo_lateThen_18 (by decide) rfl ?_
    refine p_incN_3_1 d_Mo_lateThen_19 (by decide) rfl ?_
    refine p_iload_n d_Mo_lateThen_22 rfl ?_
    refine p_aload_n d_Mo_lateThen_23 rfl ?_
    refine p_ic_0 d_Mo_lateThen_24 ?_
    refine p_ialdN (0) d_Mo_lateThen_25 ht rfl (by omega) rfl ?_
    refine p_eqI h0 ?_
    refine p_ic_1 d_Mo_lateThen_26 ?_
    refine p_isubN (n) (1) d_Mo_lateThen_27 rfl rfl (by omega) ?_
    refine p_icmpgeN (tgt := 45) (k) (n - 1) d_Mo_lateThen_28 (by decide) rfl rfl (by omega) (by omega) (fun h28 => ?_) (fun h28 => ?_)
    · exact J45 _ _ (by first | (simp [smT, s1T, g5, show k + 1 < n by omega]; done) | (simp [smT, s1T, g5, show ¬ k + 1 < n by omega]; done)) (by first | (simp [myT, g5, show k + 1 < n by omega, nI_0]; done) | (simp [myT, g5, show ¬ k + 1 < n by omega, nI_0]; done))
    · refine p_iload_n d_Mo_lateThen_31 rfl ?_
      refine p_aload_n d_Mo_lateThen_32 rfl ?_
      refine p_iload_n d_Mo_lateThen_33 rfl ?_
      refine p_iload_n d_Mo_lateThen_34 rfl ?_
      refine p_ic_1 d_Mo_lateThen_35 ?_
      refine p_iaddN (k) (1) d_Mo_lateThen_36 rfl rfl ?_
      refine q_S1 d_Mo_lateThen_37 ml_Mo_112 sb_Mo_from ⟨leb rfl, leb rfl⟩ (m_from Γ I J tc k (k + 1) ht (by omega) (by omega)) rfl rfl rfl ?_
      refine p_iadd d_Mo_lateThen_40 ?_
      refine p_is_2 d_Mo_lateThen_41 (by decide) rfl ?_
      refine p_incN_3_1 d_Mo_lateThen_42 (by decide) rfl ?_
      exact J45 _ _ (by first | (simp [smT, s1T, g5, show k + 1 < n by omega]; done) | (simp [smT, s1T, g5, show ¬ k + 1 < n by omega]; done)) (by first | (simp [myT, g5, show k + 1 < n by omega, nI_0]; done) | (simp [myT, g5, show ¬ k + 1 < n by omega, nI_0]; done))
theorem okD_th {n : Nat} {t : Nat → Int32} : True := trivial
/-- row tc is another one; row 61 is scratch -/
def rwQ (tc : Nat) (I : MemI) (J : MemJ) (row : Nat → Int32) : PQ := fun r S' I' J' => r = none ∧ S' = S0 ∧ J' = J ∧ I' tc = row ∧ ∀ x, x ≠ 61 → x ≠ tc → I' x = I x
theorem m_sings (Γ : Cx) (I : MemI) (J : MemJ) (tc n : Nat) (ht : ar S0 tc 10 39) (hx : tc ≠ 61) (hn : n ≤ 6) (h0 : I tc 0 = nI n) (hz : okD n (I tc)) : Ct Γ M_Mo_sings [.ref 53, .ref tc] S0 I J (rwQ tc I J (singT n (I tc))) := by
  -- behind the second loop
  have K122 : ∀ (s : Int32) (I1 : MemI), (∀ x, x ≠ 61 → x ≠ tc → I1 x = I x) → (∀ y, I1 tc y = if 28 ≤ y ∧ y < 28 + n then thT n (I tc) (y - 28) - wT n (I tc) else I tc y) → WP Γ M_Mo_sings (0, 0) S0 I1 J 122 [.ref 53, .ref tc, .int (nI n), .int s, .int (wT n (I tc)), .int (nI n)] [] (rwQ tc I J (singT n (I tc))) := by
    intro s I1 hf hr
    have e34 : I1 tc 34 = I tc 34 := by rw [hr, if_neg (by omega)]
    have e38 : I1 tc 38 = I tc 38 := by rw [hr, if_neg (by omega)]
    refine p_aload_n d_Mo_sings_122 rfl ?_
    refine p_bi_34 d_Mo_sings_123 ?_
    refine p_ialdN (34) d_Mo_sings_125 ht rfl (by omega) rfl ?_
    refine p_iload d_Mo_sings_126 rfl ?_
    refine p_iadd d_Mo_sings_128 ?_
    refine p_is_5 d_Mo_sings_129 (by decide) rfl ?_
    refine p_aload_n d_Mo_sings_131 rfl ?_
    refine p_bi_34 d_Mo_sings_132 ?_
    refine p_iload d_Mo_sings_134 rfl ?_
    refine p_si_9999 d_Mo_sings_136 ?_
    refine p_icmple (tgt := 148) d_Mo_sings_139 (by decide) (fun h139 => ?_) (fun h139 => ?_)
    · refine p_iload d_Mo_sings_148 rfl ?_
      refine p_iastN (34) d_Mo_sings_150 ht rfl (by omega) rfl ?_
      refine p_aload_n d_Mo_sings_151 rfl ?_
      refine p_bi_38 d_Mo_sings_152 ?_
      refine p_dup2 d_Mo_sings_154 rfl rfl ?_
      refine p_ialdN (38) d_Mo_sings_155 ht rfl (by omega) rfl ?_
      refine p_ic_1 d_Mo_sings_156 ?_
      refine p_iadd d_Mo_sings_157 ?_
      refine p_iastN (38) d_Mo_sings_158 ht rfl (by omega) rfl ?_
      refine p_ret d_Mo_sings_159 rfl ?_
      refine ⟨rfl, rfl, rfl, ?_, ?_⟩
      · funext y
        simp only [up2, singT, capT, e34, e38, true_and, hr y]
        by_cases q1 : 28 ≤ y ∧ y < 28 + n
        · rw [if_neg (by omega), if_neg (by omega)]
          simp [q1]
        · by_cases q2 : y = 38
          · subst q2
            rw [if_pos rfl, if_neg (by omega), if_neg (by omega)]
            simp
          · by_cases q3 : y = 34
            · subst q3
              rw [e34] at h139
              have q4 : ¬ 34 < 28 + n := by omega
              first | (simp [i32_nlt.mpr h139, q4]; done) | (simp [i32_nle.mp h139, q4]; done)
            · simp [q1, q2, q3]
      · intro x a1 a2
        funext y
        simp only [up2]
        rw [if_neg (fun q => a2 q.1), if_neg (fun q => a2 q.1), hf x a1 a2]
    · refine p_si_9999 d_Mo_sings_142 ?_
      refine p_goto (tgt := 150) d_Mo_sings_145 (by decide) ?_
      refine p_iastN (34) d_Mo_sings_150 ht rfl (by omega) rfl ?_
      refine p_aload_n d_Mo_sings_151 rfl ?_
      refine p_bi_38 d_Mo_sings_152 ?_
      refine p_dup2 d_Mo_sings_154 rfl rfl ?_
      refine p_ialdN (38) d_Mo_sings_155 ht rfl (by omega) rfl ?_
      refine p_ic_1 d_Mo_sings_156 ?_
      refine p_iadd d_Mo_sings_157 ?_
      refine p_iastN (38) d_Mo_sings_158 ht rfl (by omega) rfl ?_
      refine p_ret d_Mo_sings_159 rfl ?_
      refine ⟨rfl, rfl, rfl, ?_, ?_⟩
      · funext y
        simp only [up2, singT, capT, e34, e38, true_and, hr y]
        by_cases q1 : 28 ≤ y ∧ y < 28 + n
        · rw [if_neg (by omega), if_neg (by omega)]
          simp [q1]
        · by_cases q2 : y = 38
          · subst q2
            rw [if_pos rfl, if_neg (by omega), if_neg (by omega)]
            simp
          · by_cases q3 : y = 34
            · subst q3
              rw [e34] at h139
              have q4 : ¬ 34 < 28 + n := by omega
              first | (simp [i32_nlt.mpr h139, q4]; done) | (simp [i32_nle.mp h139, q4]; done)
            · simp [q1, q2, q3]
      · intro x a1 a2
        funext y
        simp only [up2]
        rw [if_neg (fun q => a2 q.1), if_neg (fun q => a2 q.1), hf x a1 a2]
  have L93 : ∀ (f k : Nat) (s : Int32) (I1 : MemI), k + f = n → (∀ x, x ≠ 61 → x ≠ tc → I1 x = I x) → (∀ j, j < n → I1 61 j = thT n (I tc) j) → (∀ y, I1 tc y = if 28 ≤ y ∧ y < 28 + k then thT n (I tc) (y - 28) - wT n (I tc) else I tc y) → WP Γ M_Mo_sings (0, 0) S0 I1 J 93 [.ref 53, .ref tc, .int (nI n), .int s, .int (wT n (I tc)), .int (nI k)] [] (rwQ tc I J (singT n (I tc))) := by
    intro f
    induction f with
    | zero =>
      intro k s I1 hkf hf hr ht1
      obtain rfl : k = n := by omega
      refine p_iload d_Mo_sings_93 rfl ?_
      refine p_iload_n d_Mo_sings_95 rfl ?_
      refine p_icmpgeN (tgt := 122) (k) (k) d_Mo_sings_96 (by decide) rfl rfl (by omega) (by omega) (fun h96 => ?_) (fun h96 => ?_)
      · exact K122 s I1 hf ht1
      · exact absurd (Nat.le_refl _) h96
    | succ f ih =>
      intro k s I1 hkf hf hr ht1
      refine p_iload d_Mo_sings_93 rfl ?_
      refine p_iload_n d_Mo_sings_95 rfl ?_
      refine p_icmpgeN (tgt := 122) (k) (n) d_Mo_sings_96 (by decide) rfl rfl (by omega) (by omega) (fun h96 => ?_) (fun h96 => ?_)
      · exact absurd h96 (by omega)
      · refine p_aload_n d_Mo_sings_99 rfl ?_
        refine p_bi_28 d_Mo_sings_100 ?_
        refine p_iload d_Mo_sings_102 rfl ?_
        refine p_iaddN (28) (k) d_Mo_sings_104 rfl rfl ?_
        refine p_aload_n d_Mo_sings_105 rfl ?_
        refine p_getR d_Mo_sings_106 fl_Mo_32 kd_53 rfl rf_53_14 ?_
        refine p_iload d_Mo_sings_109 rfl ?_
        refine p_ialdN (k) d_Mo_sings_111 ar_61 rfl (by omega) rfl ?_
        refine p_iload d_Mo_sings_112 rfl ?_
        refine p_isub d_Mo_sings_114 ?_
        refine p_iastN (28 + k) d_Mo_sings_115 ht rfl (by omega) rfl ?_
        refine p_incN_5_1 d_Mo_sings_116 (by decide) rfl ?_
        refine p_goto (tgt := 93) d_Mo_sings_119 (by decide) ?_
        refine ih (k + 1) s _ (by omega) (fun x a1 a2 => ?_) (fun j hj => ?_) (fun y => ?_)
        · funext y
          simp only [up2]
          rw [if_neg (fun q => a2 q.1), hf x a1 a2]
        · simp only [up2]
          rw [if_neg (fun q => hx q.1.symm), hr j hj]
        · simp only [up2, true_and, ht1 y]
          by_cases q1 : y = 28 + k
          · subst q1
            rw [if_pos rfl, if_pos (by omega), hr k (by omega), show 28 + k - 28 = k by omega]
          · rw [if_neg q1]
            by_cases q2 : 28 ≤ y ∧ y < 28 + k
            · rw [if_pos q2, if_pos (by omega)]
            · rw [if_neg q2, if_neg (by omega)]
  have L9 : ∀ (f k : Nat) (I1 : MemI), k + f = n → (∀ x, x ≠ 61 → I1 x = I x) → (∀ j, j < k → I1 61 j = thT n (I tc) j) → WP Γ M_Mo_sings (0, 0) S0 I1 J 9 [.ref 53, .ref tc, .int (nI n), .int (sumN (thT n (I tc)) k), .int (nI k), .null] [] (rwQ tc I J (singT n (I tc))) := by
    intro f
    induction f with
    | zero =>
      intro k I1 hkf hf hr
      obtain rfl : k = n := by omega
      have et : I1 tc = I tc := hf tc hx
      have J90 : ∀ w : Int32, w = wT k (I tc) → WP Γ M_Mo_sings (0, 0) S0 I1 J 90 [.ref 53, .ref tc, .int (nI k), .int (sumN (thT k (I tc)) k), .int w, .null] [] (rwQ tc I J (singT k (I tc))) := by
        intro w ew
        subst ew
        refine p_ic_0 d_Mo_sings_90 ?_
        refine p_is_5 d_Mo_sings_91 (by decide) rfl ?_
        refine L93 k 0 _ I1 (by omega) (fun x a1 a2 => hf x a1) hr (fun y => ?_)
        rw [if_neg (by omega), et]
      have J75 : ∀ w : Int32, w = w0T k (I tc) → WP Γ M_Mo_sings (0, 0) S0 I1 J 75 [.ref 53, .ref tc, .int (nI k), .int (sumN (thT k (I tc)) k), .int (nI k), .null] [.int w] (rwQ tc I J (singT k (I tc))) := by
        intro w ew
        refine p_is_4 d_Mo_sings_75 (by decide) rfl ?_
        refine p_iload d_Mo_sings_77 rfl ?_
        refine p_ifle (tgt := 87) d_Mo_sings_79 (by decide) (fun h79 => ?_) (fun h79 => ?_)
        · refine p_ic_0 d_Mo_sings_87 ?_
          refine p_is_4 d_Mo_sings_88 (by decide) rfl ?_
          exact J90 _ (by subst ew; first | (simp [wT, i32_nlt.mpr h79]; done) | (simp [wT, i32_nle.mp h79]; done))
        · refine p_iload d_Mo_sings_82 rfl ?_
          refine p_goto (tgt := 88) d_Mo_sings_84 (by decide) ?_
          refine p_is_4 d_Mo_sings_88 (by decide) rfl ?_
          exact J90 _ (by subst ew; first | (simp [wT, i32_nlt.mpr h79]; done) | (simp [wT, i32_nle.mp h79]; done))
      refine p_iload d_Mo_sings_9 rfl ?_
      refine p_iload_n d_Mo_sings_11 rfl ?_
      refine p_icmpgeN (tgt := 57) (k) (k) d_Mo_sings_12 (by decide) rfl rfl (by omega) (by omega) (fun h12 => ?_) (fun h12 => ?_)
      · refine p_iload_n d_Mo_sings_57 rfl ?_
        refine p_ifne (tgt := 65) d_Mo_sings_58 (by decide) (fun h58 => ?_) (fun h58 => ?_)
        · have g58 : ¬ k = 0 := fun q => h58 (by rw [q]; rfl)
          refine p_aload_n d_Mo_sings_65 rfl ?_
          refine p_ic_1 d_Mo_sings_66 ?_
          refine p_ialdN (1) d_Mo_sings_67 ht rfl (by omega) rfl ?_
          refine p_iload_n d_Mo_sings_68 rfl ?_
          refine p_iload_n d_Mo_sings_69 rfl ?_
          refine p_idiv d_Mo_sings_70 (h58) ?_
          refine p_imul d_Mo_sings_71 ?_
          refine p_bi_10 d_Mo_sings_72 ?_
          refine p_idiv d_Mo_sings_74 (by decide) ?_
          exact J75 _ (by simp [w0T, g58, et])
        · have g58 : k = 0 := by
            rcases Nat.eq_zero_or_pos k with q | q
            · exact q
            · exact absurd h58 (nI_ne0 q (by omega))
          refine p_ic_0 d_Mo_sings_61 ?_
          refine p_goto (tgt := 75) d_Mo_sings_62 (by decide) ?_
          exact J75 _ (by simp [w0T, g58, et])
      · exact absurd (Nat.le_refl _) h12
    | succ f ih =>
      intro k I1 hkf hf hr
      have et : I1 tc = I tc := hf tc hx
      have J40 : ∀ v : Int32, v = thT n (I tc) k → WP Γ M_Mo_sings (0, 0) S0 I1 J 40 [.ref 53, .ref tc, .int (nI n), .int (sumN (thT n (I tc)) k), .int (nI k), .null] [.int v, .int (nI k), .ref 61] (rwQ tc I J (singT n (I tc))) := by
        intro v ev
        refine p_iastN (k) d_Mo_sings_40 ar_61 rfl (by omega) rfl ?_
        refine p_iload_n d_Mo_sings_41 rfl ?_
        refine p_aload_n d_Mo_sings_42 rfl ?_
        refine p_getR d_Mo_sings_43 fl_Mo_32 kd_53 rfl rf_53_14 ?_
        refine p_iload d_Mo_sings_46 rfl ?_
        refine p_ialdN (k) d_Mo_sings_48 ar_61 rfl (by omega) rfl ?_
        refine p_iadd d_Mo_sings_49 ?_
        have e1 : up2 I1 61 k v 61 k = thT n (I tc) k := by simp [up2, ev]
        refine p_eqI (y := sumN (thT n (I tc)) (k + 1)) (by rw [e1]; rfl) ?_
        refine p_is_3 d_Mo_sings_50 (by decide) rfl ?_
        refine p_incN_4_1 d_Mo_sings_51 (by decide) rfl ?_
        refine p_goto (tgt := 9) d_Mo_sings_54 (by decide) ?_
        refine ih (k + 1) _ (by omega) (fun x a1 => ?_) (fun j hj => ?_)
        · funext y
          simp only [up2]
          rw [if_neg (fun q => a1 q.1), hf x a1]
        · simp only [up2, true_and]
          by_cases q : j = k
          · subst q
            rw [if_pos rfl, ev]
          · rw [if_neg q, hr j (by omega)]
      refine p_iload d_Mo_sings_9 rfl ?_
      refine p_iload_n d_Mo_sings_11 rfl ?_
      refine p_icmpgeN (tgt := 57) (k) (n) d_Mo_sings_12 (by decide) rfl rfl (by omega) (by omega) (fun h12 => ?_) (fun h12 => ?_)
      · exact absurd h12 (by omega)
      · refine p_aload_n d_Mo_sings_15 rfl ?_
        refine p_getR d_Mo_sings_16 fl_Mo_32 kd_53 rfl rf_53_14 ?_
        refine p_iload d_Mo_sings_19 rfl ?_
        refine p_iload d_Mo_sings_21 rfl ?_
        refine p_aload_n d_Mo_sings_23 rfl ?_
        refine p_bi_36 d_Mo_sings_24 ?_
        refine p_ialdN (36) d_Mo_sings_26 ht rfl (by omega) rfl ?_
        refine p_icmpne (tgt := 34) d_Mo_sings_27 (by decide) (fun h27 => ?_) (fun h27 => ?_)
        · refine p_aload_n d_Mo_sings_34 rfl ?_
          refine p_iload d_Mo_sings_35 rfl ?_
          refine q_S1 d_Mo_sings_37 ml_Mo_116 sb_Mo_lateThen ⟨leb rfl, leb rfl⟩ (m_lateThen Γ I1 J tc n k ht hn (by rw [et]; exact h0) (by omega) (by rw [et]; exact hz k (by omega))) rfl rfl rfl ?_
          exact J40 _ (by rw [et] at h27; simp [thT, h27, et])
        · refine p_ic_0 d_Mo_sings_30 ?_
          refine p_goto (tgt := 40) d_Mo_sings_31 (by decide) ?_
          exact J40 _ (by rw [et] at h27; simp [thT, h27, et])
  refine ct_of [.ref 53, .ref tc, .null, .null, .null, .null] (by decide +kernel) rfl (leb rfl) rfl ?_
  refine p_aload_n d_Mo_sings_0 rfl ?_
  refine p_ic_0 d_Mo_sings_1 ?_
  refine p_ialdN (0) d_Mo_sings_2 ht rfl (by omega) rfl ?_
  refine p_eqI h0 ?_
  refine p_is_2 d_Mo_sings_3 (by decide) rfl ?_
  refine p_ic_0 d_Mo_sings_4 ?_
  refine p_is_3 d_Mo_sings_5 (by decide) rfl ?_
  refine p_ic_0 d_Mo_sings_6 ?_
  refine p_is_4 d_Mo_sings_7 (by decide) rfl ?_
  exact L9 n 0 I (by omega) (fun x _ => rfl) (fun j hj => absurd hj (by omega))
end
section
/-! ===== the class sings ===== -/
def chR (x y : Int32) : Prop := (x = NONE ∧ y = -1) ∨ ∃ k, k < 6 ∧ x = nI k ∧ y = nI k
theorem chR_eq {x y : Int32} (h : chR x y) {k : Nat} (hk : k < 6) : x = nI k ↔ nI k = y := by
  rcases h with ⟨rfl, rfl⟩ | ⟨j, hj, rfl, rfl⟩
  · match k, hk with
    | 0, _ => decide
    | 1, _ => decide
    | 2, _ => decide
    | 3, _ => decide
    | 4, _ => decide
    | 5, _ => decide
  · exact eq_comm
/-- church c and singing a hold what row t says -/
def ChR (I : MemI) (c n : Nat) (t : Nat → Int32) : Prop := I c 4 = nI n ∧ ∀ k, k < n → I (c + 1) k = t (4 + k) ∧ I (c + 2) k = t (10 + k) ∧ I (c + 3) k = t (16 + k) ∧ I (c + 4) k = t (22 + k)
def SgR (I : MemI) (a n : Nat) (t : Nat → Int32) : Prop := (∀ k, k < n → I (a + 1) k = t (28 + k)) ∧ I a 1 = t 35 ∧ chR (I a 2) (t 36) ∧ I a 3 = t 37 ∧ I a 4 = t 1 ∧ I a 5 = t 34
theorem ix_of {x : Int32} {n : Nat} (hn : n ≤ 6) (h : 0 ≤ x ∧ x < nI n) : ∃ j, j < n ∧ x = nI j := by
  obtain ⟨j, hj, rfl⟩ := nI_of (i32_nlt.mpr h.1)
  exact ⟨j, (nI_ltI hj (by omega)).mp h.2, rfl⟩
theorem clT_mm (v : Int32) : (if -99 < (if v < 999 then v else 999) then (if v < 999 then v else 999) else -99) = clT v := by
  unfold clT
  have e1 : (-99 : Int32).toInt = -99 := by decide
  have e2 : (999 : Int32).toInt = 999 := by decide
  by_cases h1 : v < -99
  · rw [if_pos h1]
    have h2 : v < 999 := by rw [i32_lt] at h1 ⊢; omega
    rw [if_pos h2, if_neg (by rw [i32_lt] at h1 ⊢; omega)]
  · rw [if_neg h1]
    by_cases h2 : 999 < v
    · have h3 : ¬ v < 999 := by rw [i32_lt] at h2 ⊢; omega
      rw [if_pos h2, if_neg h3, if_pos (by decide)]
    · rw [if_neg h2]
      by_cases h3 : v < 999
      · rw [if_pos h3]
        by_cases h4 : -99 < v
        · rw [if_pos h4]
        · rw [if_neg h4]
          rw [i32_eq]
          rw [i32_lt] at h1 h4
          omega
      · rw [if_neg h3, if_pos (by decide)]
        rw [i32_eq]
        rw [i32_lt] at h2 h3
        omega
theorem c_mean (Γ : Cx) (I : MemI) (J : MemJ) (c n k : Nat) (t : Nat → Int32) (hc : isCh c) (hn : n ≤ 6) (h0 : I c 4 = nI n) (hk : k < n) (hy : ∀ k, k < n → I (c + 1) k = t (4 + k)) (hw : ∀ k, k < n → I (c + 5) k = t (28 + k)) : Ct Γ M_Ch_meanBeside [.ref c, .int (nI k)] S0 I J (eqQ (some (.int (mnT n t k))) S0 I J) := by
  have X : ∀ (s b x : Int32), nI (k + 1) < x → s = smT n t k → b = nI (myT n k) → WP Γ M_Ch_meanBeside (0, 0) S0 I J 9 [.ref c, .int (nI k), .int s, .int b, .int x] [] (eqQ (some (.int (mnT n t k))) S0 I J) := by
    intro s b x hx es eb
    refine p_iload d_Ch_meanBeside_9 rfl ?_
    refine p_iload_n d_Ch_meanBeside_11 rfl ?_
    refine p_ic_1 d_Ch_meanBeside_12 ?_
    refine p_iaddN (k) (1) d_Ch_meanBeside_13 rfl rfl ?_
    refine p_icmpgt (tgt := 53) d_Ch_meanBeside_14 (by decide) (fun h14 => ?_) (fun h14 => ?_)
    · refine p_iload_n d_Ch_meanBeside_53 rfl ?_
      refine p_iload_n d_Ch_meanBeside_54 rfl ?_
      refine q_SN1 d_Ch_meanBeside_55 nl_Ch_92 sb_Bo_divided ⟨leb rfl, leb rfl⟩ (c_divided Γ S0 I J s b) rfl rfl rfl ?_
      refine p_iret d_Ch_meanBeside_58 rfl rfl ?_
      refine ⟨?_, rfl, rfl, rfl⟩
      have hb : b = 0 ↔ myT n k = 0 := by
        rw [eb]
        exact nI_eq (b := 0) (by unfold myT; split <;> split <;> omega) (by omega)
      unfold dv mnT
      rw [← es, ← eb]
      by_cases q : b = 0
      · rw [if_pos q, if_pos (hb.mp q)]
      · rw [if_neg q, if_neg (fun z => q (hb.mpr z))]
    · exact absurd hx h14
  have Y : ∀ (s b x : Int32), ¬ nI (k + 1) < x → (∀ j, j < n → x = nI j → WP Γ M_Ch_meanBeside (0, 0) S0 I J 9 [.ref c, .int (nI k), .int (s + (t (28 + j) + ab (t (4 + j) - t (4 + k)) / 6)), .int (b + 1), .int (x + 2)] [] (eqQ (some (.int (mnT n t k))) S0 I J)) → (¬ (0 ≤ x ∧ x < nI n) → WP Γ M_Ch_meanBeside (0, 0) S0 I J 9 [.ref c, .int (nI k), .int s, .int b, .int (x + 2)] [] (eqQ (some (.int (mnT n t k))) S0 I J)) → WP Γ M_Ch_meanBeside (0, 0) S0 I J 9 [.ref c, .int (nI k), .int s, .int b, .int x] [] (eqQ (some (.int (mnT n t k))) S0 I J) := by
    intro s b x hx k1 k2
    refine p_iload d_Ch_meanBeside_9 rfl ?_
    refine p_iload_n d_Ch_meanBeside_11 rfl ?_
    refine p_ic_1 d_Ch_meanBeside_12 ?_
    refine p_iaddN (k) (1) d_Ch_meanBeside_13 rfl rfl ?_
    refine p_icmpgt (tgt := 53) d_Ch_meanBeside_14 (by decide) (fun h14 => ?_) (fun h14 => ?_)
    · exact absurd h14 hx
    · refine p_aload_n d_Ch_meanBeside_17 rfl ?_
      refine p_iload d_Ch_meanBeside_18 rfl ?_
      refine q_V1 d_Ch_meanBeside_20 ml_Ch_53 vb_Ch_has hc.1 ⟨leb rfl, leb rfl⟩ (c_has Γ I J c hc x) rfl rfl rfl ?_
      refine p_ifeqB (tgt := 47) d_Ch_meanBeside_23 (by decide) (fun h23 => ?_) (fun h23 => ?_)
      · rw [h0] at h23
        refine p_inc_4_2 d_Ch_meanBeside_47 (by decide) rfl ?_
        refine p_goto (tgt := 9) d_Ch_meanBeside_50 (by decide) ?_
        exact k2 h23
      · rw [h0] at h23
        obtain ⟨j, hj, rfl⟩ := ix_of hn h23
        refine p_iload_n d_Ch_meanBeside_26 rfl ?_
        refine p_aload_n d_Ch_meanBeside_27 rfl ?_
        refine p_getR d_Ch_meanBeside_28 fl_Ch_24 hc.1 rfl hc.2.1.2.2.2.2 ?_
        refine p_iload d_Ch_meanBeside_31 rfl ?_
        refine p_ialdN (j) d_Ch_meanBeside_33 hc.2.2.2.2.2.2 rfl (by omega) rfl ?_
        refine p_aload_n d_Ch_meanBeside_34 rfl ?_
        refine p_iload d_Ch_meanBeside_35 rfl ?_
        refine p_iload_n d_Ch_meanBeside_37 rfl ?_
        refine q_V1 d_Ch_meanBeside_38 ml_Ch_101 vb_Ch_between hc.1 ⟨leb rfl, leb rfl⟩ (c_between Γ I J c j k hc (by omega) (by omega)) rfl rfl rfl ?_
        rw [hy j hj, hy k hk, hw j hj]
        refine p_iadd d_Ch_meanBeside_41 ?_
        refine p_iadd d_Ch_meanBeside_42 ?_
        refine p_is_2 d_Ch_meanBeside_43 (by decide) rfl ?_
        refine p_inc_3_1 d_Ch_meanBeside_44 (by decide) rfl ?_
        refine p_incN_4_2 d_Ch_meanBeside_47 (by decide) rfl ?_
        refine p_goto (tgt := 9) d_Ch_meanBeside_50 (by decide) ?_
        have z := k1 j hj rfl
        rw [show nI j + 2 = nI (j + 2) from nI_add j 2] at z
        exact z
  have e2 : ∀ (a : Nat), nI a + 2 = nI (a + 2) := fun a => nI_add a 2
  have Z : ∀ (s b x : Int32), x = nI (k + 1) → s = s1T t k → b = nI (if 0 < k then 1 else 0) → WP Γ M_Ch_meanBeside (0, 0) S0 I J 9 [.ref c, .int (nI k), .int s, .int b, .int x] [] (eqQ (some (.int (mnT n t k))) S0 I J) := by
    intro s b x ex es eb
    refine Y s b x (by rw [ex, nI_ltI (by omega) (by omega)]; omega) (fun j hj exj => ?_) (fun h => ?_)
    · have ej : j = k + 1 := (nI_eq (by omega) (by omega)).mp (exj.symm.trans ex)
      subst ej
      refine X _ _ _ (by rw [ex, e2, nI_ltI (by omega) (by omega)]; omega) ?_ ?_
      · simp only [smT, hj, if_true, es, frT]
        rw [ab_neg]
      · simp only [myT, hj, if_true, eb]
        exact nI_1 _
    · have hq : ¬ k + 1 < n := fun q => h ⟨by rw [ex]; exact nI_pos' (by omega), by rw [ex, nI_ltI (by omega) (by omega)]; exact q⟩
      refine X _ _ _ (by rw [ex, e2, nI_ltI (by omega) (by omega)]; omega) ?_ ?_
      · simp only [smT, hq, if_false, es]
      · simp only [myT, hq, if_false, eb]
        rfl
  refine ct_of [.ref c, .int (nI k), .null, .null, .null] (by decide +kernel) rfl (leb rfl) rfl ?_
  refine p_ic_0 d_Ch_meanBeside_0 ?_
  refine p_is_2 d_Ch_meanBeside_1 (by decide) rfl ?_
  refine p_ic_0 d_Ch_meanBeside_2 ?_
  refine p_is_3 d_Ch_meanBeside_3 (by decide) rfl ?_
  refine p_iload_n d_Ch_meanBeside_4 rfl ?_
  refine p_ic_1 d_Ch_meanBeside_5 ?_
  refine p_isub d_Ch_meanBeside_6 ?_
  refine p_is_4 d_Ch_meanBeside_7 (by decide) rfl ?_
  rcases Nat.eq_zero_or_pos k with q | q
  · refine Y _ _ _ ?_ (fun j hj exj => ?_) (fun _ => ?_)
    · rw [q]; decide
    · exfalso
      rw [q] at exj
      have := congrArg Int32.toInt exj
      rw [nI_toInt (by omega)] at this
      have z : (nI 0 - 1).toInt = -1 := by decide
      omega
    · refine Z _ _ _ (by rw [q]; decide) (by simp [s1T, q]) (by simp [q, nI_0])
  · have ek : nI k - 1 = nI (k - 1) := by rw [show (1 : Int32) = nI 1 from rfl, pk_sub (by omega)]
    rw [ek]
    refine Y _ _ _ (by rw [nI_ltI (by omega) (by omega)]; omega) (fun j hj exj => ?_) (fun h => absurd ⟨nI_pos' (by omega), (nI_ltI (by omega) (by omega)).mpr (by omega)⟩ h)
    have ej : j = k - 1 := (nI_eq (by omega) (by omega)).mp exj.symm
    subst ej
    refine Z _ _ _ (by rw [e2]; congr 1; omega) ?_ ?_
    · simp only [s1T, q, if_true, frT]
      rw [ab_neg]
    · simp only [q, if_true]
      rfl
theorem c_late (Γ : Cx) (I : MemI) (J : MemJ) (c a n k : Nat) (t : Nat → Int32) (hc : isCh c) (ha : isSi a) (hn : n ≤ 6) (hk : k < n) (hC : ChR I c n t) (hw : ∀ k, k < n → I (c + 5) k = t (28 + k)) (h1 : I a 1 = t 35) (h3 : I a 3 = t 37) (hz : ¬ (t (10 + k) + nrT n t k + 5 = 0)) : Ct Γ M_Ch_lateBehindLine [.ref c, .int (nI k), .ref a] S0 I J (eqQ (some (.int (ltT n t k))) S0 I J) := by
  obtain ⟨h0, hr⟩ := hC
  obtain ⟨r1, r2, r3, r4⟩ := hr k hk
  have J18 : ∀ (v : Int32), v = nrT n t k → WP Γ M_Ch_lateBehindLine (0, 0) S0 I J 18 [.ref c, .int (nI k), .ref a, .null, .null, .null] [.int v] (eqQ (some (.int (ltT n t k))) S0 I J) := by
    intro v ev
    refine p_is_3 d_Ch_lateBehindLine_18 (by decide) rfl ?_
    refine p_aload_n d_Ch_lateBehindLine_19 rfl ?_
    refine p_getR d_Ch_lateBehindLine_20 fl_Ch_15 hc.1 rfl hc.2.1.2.1 ?_
    refine p_iload_n d_Ch_lateBehindLine_23 rfl ?_
    refine p_ialdN (k) d_Ch_lateBehindLine_24 hc.2.2.2.1 rfl (by omega) rfl ?_
    refine p_aload_n d_Ch_lateBehindLine_25 rfl ?_
    refine p_iload_n d_Ch_lateBehindLine_26 rfl ?_
    refine q_V1 d_Ch_lateBehindLine_27 ml_Ch_83 vb_Ch_lag hc.1 ⟨leb rfl, leb rfl⟩ (c_lag Γ I J c k hc (by omega)) rfl rfl rfl ?_
    refine p_aload_n d_Ch_lateBehindLine_30 rfl ?_
    refine p_getI d_Ch_lateBehindLine_31 fl_Ch_86 ha.1 (Or.inl rfl) ?_
    refine p_isub d_Ch_lateBehindLine_34 ?_
    refine p_imul d_Ch_lateBehindLine_35 ?_
    refine p_iload_n d_Ch_lateBehindLine_36 rfl ?_
    refine p_aload_n d_Ch_lateBehindLine_37 rfl ?_
    refine p_iload_n d_Ch_lateBehindLine_38 rfl ?_
    refine q_V1 d_Ch_lateBehindLine_39 ml_Ch_89 vb_Ch_meanBeside hc.1 ⟨leb rfl, leb rfl⟩ (c_mean Γ I J c n k t hc hn h0 hk (fun k hk => (hr k hk).1) hw) rfl rfl rfl ?_
    refine p_imul d_Ch_lateBehindLine_42 ?_
    refine p_iadd d_Ch_lateBehindLine_43 ?_
    refine p_ic_5 d_Ch_lateBehindLine_44 ?_
    refine p_aload_n d_Ch_lateBehindLine_45 rfl ?_
    refine p_getR d_Ch_lateBehindLine_46 fl_Ch_24 hc.1 rfl hc.2.1.2.2.2.2 ?_
    refine p_iload_n d_Ch_lateBehindLine_49 rfl ?_
    refine p_ialdN (k) d_Ch_lateBehindLine_50 hc.2.2.2.2.2.2 rfl (by omega) rfl ?_
    refine p_imul d_Ch_lateBehindLine_51 ?_
    refine p_iadd d_Ch_lateBehindLine_52 ?_
    refine p_is_4 d_Ch_lateBehindLine_53 (by decide) rfl ?_
    refine p_iload d_Ch_lateBehindLine_55 rfl ?_
    refine p_aload_n d_Ch_lateBehindLine_57 rfl ?_
    refine p_getR d_Ch_lateBehindLine_58 fl_Ch_15 hc.1 rfl hc.2.1.2.1 ?_
    refine p_iload_n d_Ch_lateBehindLine_61 rfl ?_
    refine p_ialdN (k) d_Ch_lateBehindLine_62 hc.2.2.2.1 rfl (by omega) rfl ?_
    refine p_iload_n d_Ch_lateBehindLine_63 rfl ?_
    refine p_iadd d_Ch_lateBehindLine_64 ?_
    refine p_ic_5 d_Ch_lateBehindLine_65 ?_
    refine p_iadd d_Ch_lateBehindLine_66 ?_
    refine q_SN1 d_Ch_lateBehindLine_67 nl_Ch_92 sb_Bo_divided ⟨leb rfl, leb rfl⟩ (c_divided Γ S0 I J _ _) rfl rfl rfl ?_
    refine p_aload_n d_Ch_lateBehindLine_70 rfl ?_
    refine p_iload_n d_Ch_lateBehindLine_71 rfl ?_
    refine q_V1 d_Ch_lateBehindLine_72 ml_Ch_95 vb_Si_isKnower ha.1 ⟨leb rfl, leb rfl⟩ (c_isKnower Γ I J a ha (nI k)) rfl rfl rfl ?_
    refine p_ifeqB (tgt := 82) d_Ch_lateBehindLine_75 (by decide) (fun h75 => ?_) (fun h75 => ?_)
    · refine p_aload_n d_Ch_lateBehindLine_82 rfl ?_
      refine p_getR d_Ch_lateBehindLine_83 fl_Ch_21 hc.1 rfl hc.2.1.2.2.2.1 ?_
      refine p_iload_n d_Ch_lateBehindLine_86 rfl ?_
      refine p_ialdN (k) d_Ch_lateBehindLine_87 hc.2.2.2.2.2.1 rfl (by omega) rfl ?_
      refine p_iadd d_Ch_lateBehindLine_88 ?_
      refine p_is_5 d_Ch_lateBehindLine_89 (by decide) rfl ?_
      refine p_bi_m99 d_Ch_lateBehindLine_91 ?_
      refine p_si_999 d_Ch_lateBehindLine_93 ?_
      refine p_iload d_Ch_lateBehindLine_96 rfl ?_
      refine p_min d_Ch_lateBehindLine_98 ml_Ch_79 (leb rfl) (leb rfl) ?_
      refine p_max d_Ch_lateBehindLine_101 ml_Ch_98 (leb rfl) (leb rfl) ?_
      refine p_iret d_Ch_lateBehindLine_104 rfl rfl ?_
      refine ⟨?_, rfl, rfl, rfl⟩
      rw [r2, r1, h1, hw k hk, ev, dv, if_neg hz, clT_mm]
      first | rw [r4] | skip
      rw [h3] at h75
      simp only [ltT, vT, h75, if_true, if_false]
    · refine p_ic_0 d_Ch_lateBehindLine_78 ?_
      refine p_goto (tgt := 88) d_Ch_lateBehindLine_79 (by decide) ?_
      refine p_iadd d_Ch_lateBehindLine_88 ?_
      refine p_is_5 d_Ch_lateBehindLine_89 (by decide) rfl ?_
      refine p_bi_m99 d_Ch_lateBehindLine_91 ?_
      refine p_si_999 d_Ch_lateBehindLine_93 ?_
      refine p_iload d_Ch_lateBehindLine_96 rfl ?_
      refine p_min d_Ch_lateBehindLine_98 ml_Ch_79 (leb rfl) (leb rfl) ?_
      refine p_max d_Ch_lateBehindLine_101 ml_Ch_98 (leb rfl) (leb rfl) ?_
      refine p_iret d_Ch_lateBehindLine_104 rfl rfl ?_
      refine ⟨?_, rfl, rfl, rfl⟩
      rw [r2, r1, h1, hw k hk, ev, dv, if_neg hz, clT_mm]
      first | rw [r4] | skip
      rw [h3] at h75
      simp only [ltT, vT, h75, if_true, if_false]
  refine ct_of [.ref c, .int (nI k), .ref a, .null, .null, .null] (by decide +kernel) rfl (leb rfl) rfl ?_
  refine p_aload_n d_Ch_lateBehindLine_0 rfl ?_
  refine p_getI d_Ch_lateBehindLine_1 fl_Ch_30 hc.1 (Or.inl rfl) ?_
  refine p_eqI h0 ?_
  refine p_ic_1 d_Ch_lateBehindLine_4 ?_
  refine p_icmpneN (tgt := 12) (n) (1) d_Ch_lateBehindLine_5 (by decide) rfl rfl (by omega) (by omega) (fun h5 => ?_) (fun h5 => ?_)
  · refine p_aload_n d_Ch_lateBehindLine_12 rfl ?_
    refine p_getR d_Ch_lateBehindLine_13 fl_Ch_18 hc.1 rfl hc.2.1.2.2.1 ?_
    refine p_iload_n d_Ch_lateBehindLine_16 rfl ?_
    refine p_ialdN (k) d_Ch_lateBehindLine_17 hc.2.2.2.2.1 rfl (by omega) rfl ?_
    exact J18 _ (by first | (rw [r3]; simp [nrT, myT, show k + 1 < n ∨ 0 < k by omega]; intro q1 q2; omega) | (simp [nrT, myT, show ¬ 0 < k by omega, show ¬ k + 1 < n by omega]; done))
  · refine p_ic_0 d_Ch_lateBehindLine_8 ?_
    refine p_goto (tgt := 18) d_Ch_lateBehindLine_9 (by decide) ?_
    exact J18 _ (by first | (rw [r3]; simp [nrT, myT, show k + 1 < n ∨ 0 < k by omega]; intro q1 q2; omega) | (simp [nrT, myT, show ¬ 0 < k by omega, show ¬ k + 1 < n by omega]; done))
def mnC (p : Int32) : Int32 := if p < 999 then p else 999
theorem cap_mn (p : Int32) : (if p < 9999 then p else 9999) = capT p := by
  unfold capT
  have e2 : (9999 : Int32).toInt = 9999 := by decide
  by_cases h1 : p < 9999
  · rw [if_pos h1, if_neg (by rw [i32_lt] at h1 ⊢; omega)]
  · rw [if_neg h1]
    by_cases h2 : 9999 < p
    · rw [if_pos h2]
    · rw [if_neg h2]
      rw [i32_eq]
      rw [i32_lt] at h1 h2
      omega
theorem sumN_c {f g : Nat → Int32} : ∀ {n : Nat}, (∀ k, k < n → f k = g k) → sumN f n = sumN g n
  | 0, _ => rfl
  | n + 1, h => by
    show sumN f n + f n = sumN g n + g n
    rw [sumN_c (fun k hk => h k (by omega)), h n (by omega)]
theorem w0_dv {n : Nat} {t : Nat → Int32} (hn : n ≤ 6) : w0T n t = t 1 * dv (sumN (thT n t) n) (nI n) / 10 := by
  unfold w0T dv
  by_cases q : n = 0
  · subst q
    rw [if_pos rfl, if_pos (show nI 0 = 0 from rfl)]
    simp
  · rw [if_neg q, if_neg (nI_ne0 (by omega) (by omega))]
/-- the organist waits by w -/
def wfQ (a n : Nat) (w : Int32) (I : MemI) (J : MemJ) : PQ := fun r S' I' J' => r = none ∧ S' = S0 ∧ J' = J ∧ (∀ k, k < n → I' (a + 1) k = I (a + 1) k - w) ∧ I' a 5 = capT (I a 5 + w) ∧ (∀ y, y ≠ 5 → I' a y = I a y) ∧ ∀ x, x ≠ a → x ≠ a + 1 → I' x = I x
theorem c_waitFor (Γ : Cx) (I : MemI) (J : MemJ) (c a n : Nat) (w0 w : Int32) (hc : isCh c) (ha : isSi a) (hca : c + 5 < a) (hn : n ≤ 6) (h0 : I c 4 = nI n) (hp : ¬ 9999 < I a 5) (ew0 : w0 = I a 4 * dv (sumN (fun k => I (a + 1) k) n) (nI n) / 10) (ew : w = if 0 < w0 then w0 else 0) : Ct Γ M_Ch_waitFor [.ref c, .ref a] S0 I J (wfQ a n w I J) := by
  have L68 : ∀ (f k : Nat) (s : Int32) (I1 : MemI), 0 < w0 → k + f = n → (∀ j, I1 (a + 1) j = if j < k then I (a + 1) j - w0 else I (a + 1) j) → I1 a 5 = capT (I a 5 + w0) → (∀ y, y ≠ 5 → I1 a y = I a y) → (∀ x, x ≠ a → x ≠ a + 1 → I1 x = I x) → WP Γ M_Ch_waitFor (0, 0) S0 I1 J 68 [.ref c, .ref a, .int s, .int w0, .int (nI k)] [] (wfQ a n w I J) := by
    intro f
    induction f with
    | zero =>
      intro k s I1 hw0 hkf hl h5 hy hx
      refine p_iload d_Ch_waitFor_68 rfl ?_
      refine p_aload_n d_Ch_waitFor_70 rfl ?_
      refine p_getI d_Ch_waitFor_71 fl_Ch_30 hc.1 (Or.inl rfl) ?_
      refine p_eqI (y := nI n) (by rw [hx c (by omega) (by omega)]; exact h0) ?_
      refine p_icmpgeN (tgt := 94) (k) (n) d_Ch_waitFor_74 (by decide) rfl rfl (by omega) (by omega) (fun h74 => ?_) (fun h74 => ?_)
      · refine p_ret d_Ch_waitFor_94 rfl ?_
        refine ⟨rfl, rfl, rfl, fun j hj => ?_, ?_, hy, hx⟩
        · rw [hl j, if_pos (by omega), ew, if_pos hw0]
        · rw [h5, ew, if_pos hw0]
      · exact absurd h74 (by omega)
    | succ f ih =>
      intro k s I1 hw0 hkf hl h5 hy hx
      refine p_iload d_Ch_waitFor_68 rfl ?_
      refine p_aload_n d_Ch_waitFor_70 rfl ?_
      refine p_getI d_Ch_waitFor_71 fl_Ch_30 hc.1 (Or.inl rfl) ?_
      refine p_eqI (y := nI n) (by rw [hx c (by omega) (by omega)]; exact h0) ?_
      refine p_icmpgeN (tgt := 94) (k) (n) d_Ch_waitFor_74 (by decide) rfl rfl (by omega) (by omega) (fun h74 => ?_) (fun h74 => ?_)
      · exact absurd h74 (by omega)
      · refine p_aload_n d_Ch_waitFor_77 rfl ?_
        refine p_getR d_Ch_waitFor_78 fl_Ch_61 ha.1 rfl ha.2.1 ?_
        refine p_iload d_Ch_waitFor_81 rfl ?_
        refine p_dup2 d_Ch_waitFor_83 rfl rfl ?_
        refine p_ialdN (k) d_Ch_waitFor_84 ha.2.2 rfl (by omega) rfl ?_
        refine p_iload_n d_Ch_waitFor_85 rfl ?_
        refine p_isub d_Ch_waitFor_86 ?_
        refine p_iastN (k) d_Ch_waitFor_87 ha.2.2 rfl (by omega) rfl ?_
        refine p_incN_4_1 d_Ch_waitFor_88 (by decide) rfl ?_
        refine p_goto (tgt := 68) d_Ch_waitFor_91 (by decide) ?_
        refine ih (k + 1) s _ hw0 (by omega) (fun j => ?_) ?_ (fun y q => ?_) (fun x q1 q2 => ?_)
        · simp only [up2, true_and]
          by_cases q : j = k
          · subst q
            rw [if_pos rfl, if_pos (by omega), hl j, if_neg (by omega)]
          · rw [if_neg q, hl j]
            by_cases q2 : j < k
            · rw [if_pos q2, if_pos (by omega)]
            · rw [if_neg q2, if_neg (by omega)]
        · simp only [up2]
          rw [if_neg (by omega), h5]
        · simp only [up2]
          rw [if_neg (by omega), hy y q]
        · funext y
          simp only [up2]
          rw [if_neg (fun z => q2 z.1), hx x q1 q2]
  have L4 : ∀ (f k : Nat), k + f = n → WP Γ M_Ch_waitFor (0, 0) S0 I J 4 [.ref c, .ref a, .int (sumN (fun k => I (a + 1) k) k), .int (nI k), .null] [] (wfQ a n w I J) := by
    intro f
    induction f with
    | zero =>
      intro k hkf
      obtain rfl : k = n := by omega
      refine p_iload_n d_Ch_waitFor_4 rfl ?_
      refine p_aload_n d_Ch_waitFor_5 rfl ?_
      refine p_getI d_Ch_waitFor_6 fl_Ch_30 hc.1 (Or.inl rfl) ?_
      refine p_eqI h0 ?_
      refine p_icmpgeN (tgt := 27) (k) (k) d_Ch_waitFor_9 (by decide) rfl rfl (by omega) (by omega) (fun h9 => ?_) (fun h9 => ?_)
      · refine p_aload_n d_Ch_waitFor_27 rfl ?_
        refine p_getI d_Ch_waitFor_28 fl_Ch_104 ha.1 (Or.inl rfl) ?_
        refine p_iload_n d_Ch_waitFor_31 rfl ?_
        refine p_aload_n d_Ch_waitFor_32 rfl ?_
        refine p_getI d_Ch_waitFor_33 fl_Ch_30 hc.1 (Or.inl rfl) ?_
        refine p_eqI h0 ?_
        refine q_SN1 d_Ch_waitFor_36 nl_Ch_92 sb_Bo_divided ⟨leb rfl, leb rfl⟩ (c_divided Γ S0 I J _ _) rfl rfl rfl ?_
        refine p_imul d_Ch_waitFor_39 ?_
        refine p_bi_10 d_Ch_waitFor_40 ?_
        refine p_idiv d_Ch_waitFor_42 (by decide) ?_
        refine p_eqI ew0.symm ?_
        refine p_is_3 d_Ch_waitFor_43 (by decide) rfl ?_
        refine p_iload_n d_Ch_waitFor_44 rfl ?_
        refine p_ifgt (tgt := 49) d_Ch_waitFor_45 (by decide) (fun h45 => ?_) (fun h45 => ?_)
        · refine p_aload_n d_Ch_waitFor_49 rfl ?_
          refine p_si_9999 d_Ch_waitFor_50 ?_
          refine p_aload_n d_Ch_waitFor_53 rfl ?_
          refine p_getI d_Ch_waitFor_54 fl_Ch_107 ha.1 (Or.inl rfl) ?_
          refine p_iload_n d_Ch_waitFor_57 rfl ?_
          refine p_iadd d_Ch_waitFor_58 ?_
          refine p_min d_Ch_waitFor_59 ml_Ch_79 (leb rfl) (leb rfl) ?_
          refine p_putI d_Ch_waitFor_62 fl_Ch_107 ha.1 rfl nf_3_5 ?_
          rw [cap_mn]
          refine p_ic_0 d_Ch_waitFor_65 ?_
          refine p_is_4 d_Ch_waitFor_66 (by decide) rfl ?_
          refine L68 k 0 _ _ h45 (by omega) (fun j => ?_) ?_ (fun y q => ?_) (fun x q1 q2 => ?_)
          · simp [up2]
          · simp [up2]
          · simp [up2, q]
          · funext y
            simp [up2, q1]
        · refine p_ret d_Ch_waitFor_48 rfl ?_
          refine ⟨rfl, rfl, rfl, fun j hj => ?_, ?_, fun y _ => rfl, fun x _ _ => rfl⟩
          · rw [ew, if_neg h45]
            simp
          · rw [ew, if_neg h45]
            simp [capT, hp]
      · exact absurd (Nat.le_refl _) h9
    | succ f ih =>
      intro k hkf
      refine p_iload_n d_Ch_waitFor_4 rfl ?_
      refine p_aload_n d_Ch_waitFor_5 rfl ?_
      refine p_getI d_Ch_waitFor_6 fl_Ch_30 hc.1 (Or.inl rfl) ?_
      refine p_eqI h0 ?_
      refine p_icmpgeN (tgt := 27) (k) (n) d_Ch_waitFor_9 (by decide) rfl rfl (by omega) (by omega) (fun h9 => ?_) (fun h9 => ?_)
      · exact absurd h9 (by omega)
      · refine p_iload_n d_Ch_waitFor_12 rfl ?_
        refine p_aload_n d_Ch_waitFor_13 rfl ?_
        refine p_getR d_Ch_waitFor_14 fl_Ch_61 ha.1 rfl ha.2.1 ?_
        refine p_iload_n d_Ch_waitFor_17 rfl ?_
        refine p_ialdN (k) d_Ch_waitFor_18 ha.2.2 rfl (by omega) rfl ?_
        refine p_iadd d_Ch_waitFor_19 ?_
        refine p_is_2 d_Ch_waitFor_20 (by decide) rfl ?_
        refine p_incN_3_1 d_Ch_waitFor_21 (by decide) rfl ?_
        refine p_goto (tgt := 4) d_Ch_waitFor_24 (by decide) ?_
        exact ih (k + 1) (by omega)
  refine ct_of [.ref c, .ref a, .null, .null, .null] (by decide +kernel) rfl (leb rfl) rfl ?_
  refine p_ic_0 d_Ch_waitFor_0 ?_
  refine p_is_2 d_Ch_waitFor_1 (by decide) rfl ?_
  refine p_ic_0 d_Ch_waitFor_2 ?_
  refine p_is_3 d_Ch_waitFor_3 (by decide) rfl ?_
  exact L4 n 0 (by omega)
def okT (n : Nat) (t : Nat → Int32) : Prop := n ≤ 6 ∧ okD n t ∧ ¬ 9999 < t 34
theorem capT_le (p : Int32) : ¬ 9999 < capT p := by
  unfold capT
  by_cases h : 9999 < p
  · rw [if_pos h]; decide
  · rw [if_neg h]; exact h
theorem okT.sing {n : Nat} {t : Nat → Int32} (h : okT n t) : okT n (singT n t) := by
  obtain ⟨h1, h2, h3⟩ := h
  refine ⟨h1, fun k hk => ?_, ?_⟩
  · have e : nrT n (singT n t) k = nrT n t k := by
      unfold nrT
      rw [singT_off (by omega) (by omega) (by omega)]
    rw [e, singT_off (by omega) (by omega) (by omega)]
    exact h2 k hk
  · have e : singT n t 34 = capT (t 34 + wT n t) := by
      unfold singT
      rw [if_neg (by omega), if_pos rfl]
    rw [e]
    exact capT_le _
/-- a line is sung -/
def slQ (c a n : Nat) (t : Nat → Int32) (x6 : Int32) (I : MemI) (J : MemJ) : PQ := fun r S' I' J' => r = none ∧ S' = S0 ∧ J' = J ∧ (∀ k, k < n → I' (a + 1) k = t (28 + k)) ∧ I' a 5 = t 34 ∧ I' a 6 = x6 ∧ (∀ y, y ≠ 5 → y ≠ 6 → I' a y = I a y) ∧ ∀ x, x ≠ a → x ≠ a + 1 → x ≠ c + 5 → I' x = I x
theorem ChR.mv {I I' : MemI} {c n : Nat} {t : Nat → Int32} (h : ChR I c n t) (h0 : I' c = I c) (h1 : I' (c + 1) = I (c + 1)) (h2 : I' (c + 2) = I (c + 2)) (h3 : I' (c + 3) = I (c + 3)) (h4 : I' (c + 4) = I (c + 4)) : ChR I' c n t := by
  unfold ChR
  rw [h0, h1, h2, h3, h4]
  exact h
theorem c_singLine (Γ : Cx) (I : MemI) (J : MemJ) (c a n : Nat) (t : Nat → Int32) (hc : isCh c) (ha : isSi a) (hca : c + 5 < a) (hC : ChR I c n t) (hG : SgR I a n t) (hok : okT n t) : Ct Γ M_Ch_singLine [.ref c, .ref a] S0 I J (slQ c a n (singT n t) (mnC (I a 6 + 1)) I J) := by
  obtain ⟨hn, hz, hp⟩ := hok
  obtain ⟨g0, g1, g2, g3, g4, g5⟩ := hG
  have h0 := hC.1
  have L30 : ∀ (f k : Nat) (I1 : MemI), k + f = n → (∀ j, j < n → I1 (c + 5) j = t (28 + j)) → (∀ j, j < k → I1 (a + 1) j = thT n t j) → (∀ x, x ≠ a + 1 → x ≠ c + 5 → I1 x = I x) → WP Γ M_Ch_singLine (0, 0) S0 I1 J 30 [.ref c, .ref a, .int (nI k)] [] (slQ c a n (singT n t) (mnC (I a 6 + 1)) I J) := by
    intro f
    induction f with
    | zero =>
      intro k I1 hkf hw hl hx
      obtain rfl : k = n := by omega
      have ea : I1 a = I a := hx a (by omega) (by omega)
      have ec : I1 c = I c := hx c (by omega) (by omega)
      have es : sumN (fun j => I1 (a + 1) j) k = sumN (thT k t) k := sumN_c hl
      refine p_iload_n d_Ch_singLine_30 rfl ?_
      refine p_aload_n d_Ch_singLine_31 rfl ?_
      refine p_getI d_Ch_singLine_32 fl_Ch_30 hc.1 (Or.inl rfl) ?_
      refine p_eqI (y := nI k) (by rw [ec]; exact h0) ?_
      refine p_icmpgeN (tgt := 68) (k) (k) d_Ch_singLine_35 (by decide) rfl rfl (by omega) (by omega) (fun h35 => ?_) (fun h35 => ?_)
      · refine p_aload_n d_Ch_singLine_68 rfl ?_
        refine p_aload_n d_Ch_singLine_69 rfl ?_
        refine q_V d_Ch_singLine_70 ml_Ch_73 vb_Ch_waitFor hc.1 ⟨leb rfl, leb rfl⟩ (c_waitFor Γ I1 J c a k (w0T k t) (wT k t) hc ha hca hn (by rw [ec]; exact h0) (by rw [ea, g5]; exact hp) (by rw [es, ea, g4]; exact w0_dv hn) rfl) rfl rfl rfl (fun r S1 I1 J1 hQ => ?_)
        obtain ⟨rfl, rfl, rfl, w1, w2, w3, w4⟩ := hQ
        refine p_aload_n d_Ch_singLine_73 rfl ?_
        refine p_si_999 d_Ch_singLine_74 ?_
        refine p_aload_n d_Ch_singLine_77 rfl ?_
        refine p_getI d_Ch_singLine_78 fl_Ch_76 ha.1 (Or.inl rfl) ?_
        refine p_ic_1 d_Ch_singLine_81 ?_
        refine p_iadd d_Ch_singLine_82 ?_
        refine p_min d_Ch_singLine_83 ml_Ch_79 (leb rfl) (leb rfl) ?_
        refine p_putI d_Ch_singLine_86 fl_Ch_76 ha.1 rfl nf_3_6 ?_
        refine p_ret d_Ch_singLine_89 rfl ?_
        refine ⟨rfl, rfl, rfl, fun j hj => ?_, ?_, ?_, fun y q1 q2 => ?_, fun x q1 q2 q3 => ?_⟩
        · simp only [up2]
          rw [if_neg (by omega), w1 j hj, hl j hj]
          unfold singT
          rw [if_pos (by omega), show 28 + j - 28 = j by omega]
        · simp only [up2]
          rw [if_neg (by omega), w2, ea, g5]
          unfold singT
          rw [if_neg (by omega), if_pos rfl]
        · simp only [up2, true_and, if_true]
          rw [w3 6 (by omega), ea]
          rfl
        · simp only [up2]
          rw [if_neg (by omega), w3 y q1, ea]
        · funext y
          simp only [up2]
          rw [if_neg (fun z => q1 z.1), w4 x q1 q2, hx x q2 q3]
      · exact absurd (Nat.le_refl _) h35
    | succ f ih =>
      intro k I1 hkf hw hl hx
      have ea : I1 a = I a := hx a (by omega) (by omega)
      have ec : I1 c = I c := hx c (by omega) (by omega)
      have J61 : ∀ v : Int32, v = thT n t k → WP Γ M_Ch_singLine (0, 0) S0 I1 J 61 [.ref c, .ref a, .int (nI k)] [.int v, .int (nI k), .ref (a + 1)] (slQ c a n (singT n t) (mnC (I a 6 + 1)) I J) := by
        intro v ev
        refine p_iastN (k) d_Ch_singLine_61 ha.2.2 rfl (by omega) rfl ?_
        refine p_incN_2_1 d_Ch_singLine_62 (by decide) rfl ?_
        refine p_goto (tgt := 30) d_Ch_singLine_65 (by decide) ?_
        refine ih (k + 1) _ (by omega) (fun j hj => ?_) (fun j hj => ?_) (fun x q1 q2 => ?_)
        · simp only [up2]
          rw [if_neg (by omega), hw j hj]
        · simp only [up2, true_and]
          by_cases q : j = k
          · subst q
            rw [if_pos rfl, ev]
          · rw [if_neg q, hl j (by omega)]
        · funext y
          simp only [up2]
          rw [if_neg (fun z => q1 z.1), hx x q1 q2]
      refine p_iload_n d_Ch_singLine_30 rfl ?_
      refine p_aload_n d_Ch_singLine_31 rfl ?_
      refine p_getI d_Ch_singLine_32 fl_Ch_30 hc.1 (Or.inl rfl) ?_
      refine p_eqI (y := nI n) (by rw [ec]; exact h0) ?_
      refine p_icmpgeN (tgt := 68) (k) (n) d_Ch_singLine_35 (by decide) rfl rfl (by omega) (by omega) (fun h35 => ?_) (fun h35 => ?_)
      · exact absurd h35 (by omega)
      · refine p_aload_n d_Ch_singLine_38 rfl ?_
        refine p_getR d_Ch_singLine_39 fl_Ch_61 ha.1 rfl ha.2.1 ?_
        refine p_iload_n d_Ch_singLine_42 rfl ?_
        refine p_aload_n d_Ch_singLine_43 rfl ?_
        refine p_getI d_Ch_singLine_44 fl_Ch_66 ha.1 (Or.inl rfl) ?_
        refine p_iload_n d_Ch_singLine_47 rfl ?_
        refine p_icmpne (tgt := 55) d_Ch_singLine_48 (by decide) (fun h48 => ?_) (fun h48 => ?_)
        · refine p_aload_n d_Ch_singLine_55 rfl ?_
          refine p_iload_n d_Ch_singLine_56 rfl ?_
          refine p_aload_n d_Ch_singLine_57 rfl ?_
          refine q_V1 d_Ch_singLine_58 ml_Ch_69 vb_Ch_lateBehindLine hc.1 ⟨leb rfl, leb rfl⟩ (c_late Γ I1 J c a n k t hc ha hn (by omega) (hC.mv ec (hx _ (by omega) (by omega)) (hx _ (by omega) (by omega)) (hx _ (by omega) (by omega)) (hx _ (by omega) (by omega))) hw (by rw [ea]; exact g1) (by rw [ea]; exact g3) (hz k (by omega))) rfl rfl rfl ?_
          rw [ea, chR_eq g2 (by omega)] at h48
          exact J61 _ (by simp [thT, h48])
        · refine p_ic_0 d_Ch_singLine_51 ?_
          refine p_goto (tgt := 61) d_Ch_singLine_52 (by decide) ?_
          rw [ea, chR_eq g2 (by omega)] at h48
          exact J61 _ (by simp [thT, h48])
  have L2 : ∀ (f k : Nat) (I1 : MemI), k + f = n → (∀ j, j < k → I1 (c + 5) j = t (28 + j)) → (∀ x, x ≠ c + 5 → I1 x = I x) → WP Γ M_Ch_singLine (0, 0) S0 I1 J 2 [.ref c, .ref a, .int (nI k)] [] (slQ c a n (singT n t) (mnC (I a 6 + 1)) I J) := by
    intro f
    induction f with
    | zero =>
      intro k I1 hkf hw hx
      obtain rfl : k = n := by omega
      refine p_iload_n d_Ch_singLine_2 rfl ?_
      refine p_aload_n d_Ch_singLine_3 rfl ?_
      refine p_getI d_Ch_singLine_4 fl_Ch_30 hc.1 (Or.inl rfl) ?_
      refine p_eqI (y := nI k) (by rw [hx c (by omega)]; exact h0) ?_
      refine p_icmpgeN (tgt := 28) (k) (k) d_Ch_singLine_7 (by decide) rfl rfl (by omega) (by omega) (fun h7 => ?_) (fun h7 => ?_)
      · refine p_ic_0 d_Ch_singLine_28 ?_
        refine p_is_2 d_Ch_singLine_29 (by decide) rfl ?_
        exact L30 k 0 I1 (by omega) hw (fun j hj => absurd hj (by omega)) (fun x _ q => hx x q)
      · exact absurd (Nat.le_refl _) h7
    | succ f ih =>
      intro k I1 hkf hw hx
      refine p_iload_n d_Ch_singLine_2 rfl ?_
      refine p_aload_n d_Ch_singLine_3 rfl ?_
      refine p_getI d_Ch_singLine_4 fl_Ch_30 hc.1 (Or.inl rfl) ?_
      refine p_eqI (y := nI n) (by rw [hx c (by omega)]; exact h0) ?_
      refine p_icmpgeN (tgt := 28) (k) (n) d_Ch_singLine_7 (by decide) rfl rfl (by omega) (by omega) (fun h7 => ?_) (fun h7 => ?_)
      · exact absurd h7 (by omega)
      · refine p_aload_n d_Ch_singLine_10 rfl ?_
        refine p_getR d_Ch_singLine_11 fl_Ch_24 hc.1 rfl hc.2.1.2.2.2.2 ?_
        refine p_iload_n d_Ch_singLine_14 rfl ?_
        refine p_aload_n d_Ch_singLine_15 rfl ?_
        refine p_getR d_Ch_singLine_16 fl_Ch_61 ha.1 rfl ha.2.1 ?_
        refine p_iload_n d_Ch_singLine_19 rfl ?_
        refine p_ialdN (k) d_Ch_singLine_20 ha.2.2 rfl (by omega) rfl ?_
        refine p_iastN (k) d_Ch_singLine_21 hc.2.2.2.2.2.2 rfl (by omega) rfl ?_
        refine p_incN_2_1 d_Ch_singLine_22 (by decide) rfl ?_
        refine p_goto (tgt := 2) d_Ch_singLine_25 (by decide) ?_
        refine ih (k + 1) _ (by omega) (fun j hj => ?_) (fun x q => ?_)
        · simp only [up2, true_and]
          by_cases q : j = k
          · subst q
            rw [if_pos rfl, hx (a + 1) (by omega), g0 j (by omega)]
          · rw [if_neg q, hw j (by omega)]
        · funext y
          simp only [up2]
          rw [if_neg (fun z => q z.1), hx x q]
  refine ct_of [.ref c, .ref a, .null] (by decide +kernel) rfl (leb rfl) rfl ?_
  refine p_ic_0 d_Ch_singLine_0 ?_
  refine p_is_2 d_Ch_singLine_1 (by decide) rfl ?_
  exact L2 n 0 I (by omega) (fun j hj => absurd hj (by omega)) (fun x _ => rfl)
def it6 (x : Int32) : Nat → Int32
  | 0 => x
  | j + 1 => mnC (it6 x j + 1)
theorem SgR.sing {I I' : MemI} {a n : Nat} {t : Nat → Int32} (h : SgR I a n t) (hk : ∀ k, k < n → I' (a + 1) k = singT n t (28 + k)) (h5 : I' a 5 = singT n t 34) (hy : ∀ y, y ≠ 5 → y ≠ 6 → I' a y = I a y) (hn : n ≤ 6) : SgR I' a n (singT n t) := by
  obtain ⟨g0, g1, g2, g3, g4, g5⟩ := h
  refine ⟨hk, ?_, ?_, ?_, ?_, h5⟩
  · rw [hy 1 (by omega) (by omega), singT_off (by omega) (by omega) (by omega)]; exact g1
  · rw [hy 2 (by omega) (by omega), singT_off (by omega) (by omega) (by omega)]; exact g2
  · rw [hy 3 (by omega) (by omega), singT_off (by omega) (by omega) (by omega)]; exact g3
  · rw [hy 4 (by omega) (by omega), singT_off (by omega) (by omega) (by omega)]; exact g4
theorem ChR.sing {I : MemI} {c n : Nat} {t : Nat → Int32} (h : ChR I c n t) (hn : n ≤ 6) : ChR I c n (singT n t) := by
  obtain ⟨h0, h1⟩ := h
  refine ⟨h0, fun k hk => ?_⟩
  rw [singT_off (by omega) (by omega) (by omega), singT_off (by omega) (by omega) (by omega), singT_off (by omega) (by omega) (by omega), singT_off (by omega) (by omega) (by omega)]
  exact h1 k hk
theorem okT.it {n : Nat} {t : Nat → Int32} (h : okT n t) : ∀ j, okT n (itS n t j)
  | 0 => h
  | j + 1 => (okT.it h j).sing
theorem c_singLines (Γ : Cx) (I : MemI) (J : MemJ) (c a n q : Nat) (t : Nat → Int32) (hc : isCh c) (ha : isSi a) (hca : c + 5 < a) (hq : q < 1000) (hC : ChR I c n t) (hG : SgR I a n t) (hok : okT n t) : Ct Γ M_Ch_singLines [.ref c, .ref a, .int (nI q)] S0 I J (slQ c a n (itS n t q) (it6 (I a 6) q) I J) := by
  have hn := hok.1
  have LP : ∀ (f k : Nat) (I1 : MemI), k + f = q → ChR I1 c n (itS n t k) → SgR I1 a n (itS n t k) → I1 a 6 = it6 (I a 6) k → (∀ y, y ≠ 5 → y ≠ 6 → I1 a y = I a y) → (∀ x, x ≠ a → x ≠ a + 1 → x ≠ c + 5 → I1 x = I x) → WP Γ M_Ch_singLines (0, 0) S0 I1 J 2 [.ref c, .ref a, .int (nI q), .int (nI k)] [] (slQ c a n (itS n t q) (it6 (I a 6) q) I J) := by
    intro f
    induction f with
    | zero =>
      intro k I1 hkf hC1 hG1 h6 hy hx
      obtain rfl : k = q := by omega
      refine p_iload_n d_Ch_singLines_2 rfl ?_
      refine p_iload_n d_Ch_singLines_3 rfl ?_
      refine p_icmpgeN (tgt := 18) (k) (k) d_Ch_singLines_4 (by decide) rfl rfl (by omega) (by omega) (fun h4 => ?_) (fun h4 => ?_)
      · refine p_ret d_Ch_singLines_18 rfl ?_
        exact ⟨rfl, rfl, rfl, hG1.1, hG1.2.2.2.2.2, h6, hy, hx⟩
      · exact absurd (Nat.le_refl _) h4
    | succ f ih =>
      intro k I1 hkf hC1 hG1 h6 hy hx
      refine p_iload_n d_Ch_singLines_2 rfl ?_
      refine p_iload_n d_Ch_singLines_3 rfl ?_
      refine p_icmpgeN (tgt := 18) (k) (q) d_Ch_singLines_4 (by decide) rfl rfl (by omega) (by omega) (fun h4 => ?_) (fun h4 => ?_)
      · exact absurd h4 (by omega)
      · refine p_aload_n d_Ch_singLines_7 rfl ?_
        refine p_aload_n d_Ch_singLines_8 rfl ?_
        refine q_V d_Ch_singLines_9 ml_Ch_57 vb_Ch_singLine hc.1 ⟨leb rfl, leb rfl⟩ (c_singLine Γ I1 J c a n (itS n t k) hc ha hca hC1 hG1 (hok.it k)) rfl rfl rfl (fun r S1 I1 J1 hQ => ?_)
        obtain ⟨rfl, rfl, rfl, w1, w2, w3, w4, w5⟩ := hQ
        refine p_incN_3_1 d_Ch_singLines_12 (by decide) rfl ?_
        refine p_goto (tgt := 2) d_Ch_singLines_15 (by decide) ?_
        refine ih (k + 1) _ (by omega) ((hC1.sing hn).mv (w5 _ (by omega) (by omega) (by omega)) (w5 _ (by omega) (by omega) (by omega)) (w5 _ (by omega) (by omega) (by omega)) (w5 _ (by omega) (by omega) (by omega)) (w5 _ (by omega) (by omega) (by omega))) (hG1.sing w1 w2 w4 hn) ?_ (fun y q1 q2 => ?_) (fun x q1 q2 q3 => ?_)
        · rw [w3, h6]
          rfl
        · rw [w4 y q1 q2, hy y q1 q2]
        · rw [w5 x q1 q2 q3, hx x q1 q2 q3]
  refine ct_of [.ref c, .ref a, .int (nI q), .null] (by decide +kernel) rfl (leb rfl) rfl ?_
  refine p_ic_0 d_Ch_singLines_0 ?_
  refine p_is_3 d_Ch_singLines_1 (by decide) rfl ?_
  exact LP q 0 I (by omega) hC hG rfl (fun y _ _ => rfl) (fun x _ _ _ => rfl)
end
section
/-! ===== the reference's smaller methods ===== -/
theorem arrV_c {c : ClassId} {n : Nat} {f g : Nat → Value} (h : ∀ j, j < n → f j = g j) : arrV c n f = arrV c n g := by
  have e : (fun j : Fin n => f j.val) = (fun j : Fin n => g j.val) := funext fun j => h j.val j.isLt
  unfold arrV
  rw [e]
/-- beyond its end a row may hold anything -/
theorem p_row {Γ : Cx} {M : MI} {B : Nat × Nat} {S : Sh} {I : MemI} {J : MemJ} {pc : Nat} {ls st : List Value} {Q : PQ} {a n : Nat} (g : Nat → Int32) (ha : ar S a 10 n) (hg : ∀ y, y < n → g y = I a y) (k : WP Γ M B S (fun x => if x = a then g else I x) J pc ls st Q) : WP Γ M B S I J pc ls st Q := by
  intro p e s m args below meth c Z C E H locs cells slots lr hR
  refine k p e s m args below meth c Z C E H locs cells slots lr ?_
  obtain ⟨h0, h1, h2⟩ := ha
  refine ⟨hR.1, fun i q hq => ?_⟩
  obtain ⟨hl, rfl⟩ := wsOf_some hq
  have hat := hR.at hl
  by_cases e1 : i + 1 = a
  · subst e1
    rw [cE_int h2] at hat ⊢
    have hat' : H[ad Γ (i + 1)]? = some (vp_cell Γ.2.2.2.1 (n, .inl (I (i + 1)))) := hat
    show H[ad Γ (i + 1)]? = some (vp_cell _ _)
    rw [hat', vp_cell_i, vp_cell_i]
    congr 1
    refine arrV_c (fun j hj => ?_)
    simp only [if_true, hg j hj]
  · rw [cE_congr (S := S) (I := I) (J := J) rfl (fun y => ⟨by simp [e1], rfl, rfl⟩)]
    exact hat
def cpR (g f : Nat → Int32) (i j : Nat) : Nat → Int32 := fun y => if j ≤ y ∧ y < j + 39 then f (i + (y - j)) else g y
/-- one row is another one -/
def r1Q (r0 : Option Value) (d : Nat) (row : Nat → Int32) (I : MemI) (J : MemJ) : PQ := fun r S' I' J' => r = r0 ∧ S' = S0 ∧ J' = J ∧ I' d = row ∧ ∀ x, x ≠ d → I' x = I x
theorem m_copies (Γ : Cx) (I : MemI) (J : MemJ) (s d i j nf nd : Nat) (hs : ar S0 s 10 nf) (hd : ar S0 d 10 nd) (hsd : s ≠ d) (hi : i + 39 ≤ nf) (hj : j + 39 ≤ nd) (bf : Nat.ble nf 1000 = true) (bd : Nat.ble nd 1000 = true) : Ct Γ M_Mo_copies [.ref s, .int (nI i), .ref d, .int (nI j)] S0 I J (r1Q none d (cpR (I d) (I s) i j) I J) := by
  have b1 := leb bf
  have b2 := leb bd
  have LP : ∀ (f k : Nat) (I1 : MemI), k + f = 39 → (∀ y, I1 d y = if j ≤ y ∧ y < j + k then I s (i + (y - j)) else I d y) → (∀ x, x ≠ d → I1 x = I x) → WP Γ M_Mo_copies (0, 0) S0 I1 J 3 [.ref s, .int (nI i), .ref d, .int (nI j), .int (nI k)] [] (r1Q none d (cpR (I d) (I s) i j) I J) := by
    intro f
    induction f with
    | zero =>
      intro k I1 hkf hd1 hx
      obtain rfl : k = 39 := by omega
      refine p_iload d_Mo_copies_3 rfl ?_
      refine p_bi_39 d_Mo_copies_5 ?_
      refine p_icmpgeN (tgt := 28) (39) (39) d_Mo_copies_7 (by decide) rfl rfl (by omega) (by omega) (fun h7 => ?_) (fun h7 => ?_)
      · refine p_ret d_Mo_copies_28 rfl ?_
        exact ⟨rfl, rfl, rfl, funext hd1, hx⟩
      · exact absurd (Nat.le_refl _) h7
    | succ f ih =>
      intro k I1 hkf hd1 hx
      refine p_iload d_Mo_copies_3 rfl ?_
      refine p_bi_39 d_Mo_copies_5 ?_
      refine p_icmpgeN (tgt := 28) (k) (39) d_Mo_copies_7 (by decide) rfl rfl (by omega) (by omega) (fun h7 => ?_) (fun h7 => ?_)
      · exact absurd h7 (by omega)
      · refine p_aload_n d_Mo_copies_10 rfl ?_
        refine p_iload_n d_Mo_copies_11 rfl ?_
        refine p_iload d_Mo_copies_12 rfl ?_
        refine p_iaddN (j) (k) d_Mo_copies_14 rfl rfl ?_
        refine p_aload_n d_Mo_copies_15 rfl ?_
        refine p_iload_n d_Mo_copies_16 rfl ?_
        refine p_iload d_Mo_copies_17 rfl ?_
        refine p_iaddN (i) (k) d_Mo_copies_19 rfl rfl ?_
        refine p_ialdN (i + k) d_Mo_copies_20 hs rfl (by omega) bf ?_
        refine p_iastN (j + k) d_Mo_copies_21 hd rfl (by omega) bd ?_
        refine p_incN_4_1 d_Mo_copies_22 (by decide) rfl ?_
        refine p_goto (tgt := 3) d_Mo_copies_25 (by decide) ?_
        refine ih (k + 1) _ (by omega) (fun y => ?_) (fun x q => ?_)
        · simp only [up2, true_and]
          by_cases q : y = j + k
          · subst q
            rw [if_pos rfl, if_pos (by omega), hx s hsd, show j + k - j = k by omega]
          · rw [if_neg q, hd1 y]
            by_cases q2 : j ≤ y ∧ y < j + k
            · rw [if_pos q2, if_pos (by omega)]
            · rw [if_neg q2, if_neg (by omega)]
        · funext y
          simp only [up2]
          rw [if_neg (fun z => q z.1), hx x q]
  refine ct_of [.ref s, .int (nI i), .ref d, .int (nI j), .null] (by decide +kernel) rfl (leb rfl) rfl ?_
  refine p_ic_0 d_Mo_copies_0 ?_
  refine p_is_4 d_Mo_copies_1 (by decide) rfl ?_
  exact LP 39 0 I (by omega) (fun y => by rw [if_neg (by omega)]) (fun x _ => rfl)
theorem m_asNow (Γ : Cx) (I : MemI) (J : MemJ) : Ct Γ M_Mo_asNow [.ref 53] S0 I J (r1Q none 62 (I 54) I J) := by
  refine ct_of [.ref 53] (by decide +kernel) rfl (leb rfl) rfl ?_
  refine p_aload_n d_Mo_asNow_0 rfl ?_
  refine p_getR d_Mo_asNow_1 fl_Mo_7 kd_53 rfl rf_53_0 ?_
  refine p_ic_0 d_Mo_asNow_4 ?_
  refine p_aload_n d_Mo_asNow_5 rfl ?_
  refine p_getR d_Mo_asNow_6 fl_Mo_35 kd_53 rfl rf_53_15 ?_
  refine p_ic_0 d_Mo_asNow_9 ?_
  refine q_S d_Mo_asNow_10 ml_Mo_92 sb_Mo_copies ⟨leb rfl, leb rfl⟩ (m_copies Γ I J 54 62 0 0 39 39 ar_54 ar_62 (by decide) (by omega) (by omega) rfl rfl) rfl rfl rfl (fun r S1 I1 J1 hQ => ?_)
  obtain ⟨rfl, rfl, rfl, w1, w2⟩ := hQ
  refine p_row (I 54) ar_62 (fun y hy => by rw [w1]; simp [cpR, hy]) ?_
  refine p_ret d_Mo_asNow_13 rfl ?_
  exact ⟨rfl, rfl, rfl, by simp, fun x q => by simp [q, w2 x q]⟩
theorem m_go (Γ : Cx) (I : MemI) (J : MemJ) (n q : Nat) (hq : q < 1000) (h0 : I 62 0 = nI n) (hok : okT n (I 62)) : Ct Γ M_Mo_go [.ref 53, .int (nI q)] S0 I J (rwQ 62 I J (itS n (I 62) q)) := by
  have hn := hok.1
  have z0 : ∀ k, itS n (I 62) k 0 = nI n := by
    intro k
    induction k with
    | zero => exact h0
    | succ k ih => show singT n _ 0 = _; rw [singT_off (by omega) (by omega) (by omega)]; exact ih
  have LP : ∀ (f k : Nat) (I1 : MemI), k + f = q → I1 62 = itS n (I 62) k → (∀ x, x ≠ 61 → x ≠ 62 → I1 x = I x) → WP Γ M_Mo_go (0, 0) S0 I1 J 2 [.ref 53, .int (nI q), .int (nI k)] [] (rwQ 62 I J (itS n (I 62) q)) := by
    intro f
    induction f with
    | zero =>
      intro k I1 hkf h62 hx
      obtain rfl : k = q := by omega
      refine p_iload_n d_Mo_go_2 rfl ?_
      refine p_iload_n d_Mo_go_3 rfl ?_
      refine p_icmpgeN (tgt := 21) (k) (k) d_Mo_go_4 (by decide) rfl rfl (by omega) (by omega) (fun h4 => ?_) (fun h4 => ?_)
      · refine p_ret d_Mo_go_21 rfl ?_
        exact ⟨rfl, rfl, rfl, h62, hx⟩
      · exact absurd (Nat.le_refl _) h4
    | succ f ih =>
      intro k I1 hkf h62 hx
      refine p_iload_n d_Mo_go_2 rfl ?_
      refine p_iload_n d_Mo_go_3 rfl ?_
      refine p_icmpgeN (tgt := 21) (k) (q) d_Mo_go_4 (by decide) rfl rfl (by omega) (by omega) (fun h4 => ?_) (fun h4 => ?_)
      · exact absurd h4 (by omega)
      · refine p_aload_n d_Mo_go_7 rfl ?_
        refine p_aload_n d_Mo_go_8 rfl ?_
        refine p_getR d_Mo_go_9 fl_Mo_35 kd_53 rfl rf_53_15 ?_
        refine q_V d_Mo_go_12 ml_Mo_124 vb_Mo_sings kd_53 ⟨leb rfl, leb rfl⟩ (m_sings Γ I1 J 62 n ar_62 (by decide) hn (by rw [h62]; exact z0 k) (by rw [h62]; exact (hok.it k).2.1)) rfl rfl rfl (fun r S1 I1 J1 hQ => ?_)
        obtain ⟨rfl, rfl, rfl, w1, w2⟩ := hQ
        refine p_incN_2_1 d_Mo_go_15 (by decide) rfl ?_
        refine p_goto (tgt := 2) d_Mo_go_18 (by decide) ?_
        refine ih (k + 1) _ (by omega) (by rw [w1, h62]; rfl) (fun x q1 q2 => ?_)
        rw [w2 x q1 q2, hx x q1 q2]
  refine ct_of [.ref 53, .int (nI q), .null] (by decide +kernel) rfl (leb rfl) rfl ?_
  refine p_ic_0 d_Mo_go_0 ?_
  refine p_is_2 d_Mo_go_1 (by decide) rfl ?_
  exact LP q 0 I (by omega) rfl (fun x _ _ => rfl)
def mxA (f : Nat → Int32) : Nat → Int32
  | 0 => 0
  | k + 1 => if k = 0 ∨ mxA f k < f k then f k else mxA f k
def mnA (f : Nat → Int32) : Nat → Int32
  | 0 => 0
  | k + 1 => if k = 0 ∨ f k < mnA f k then f k else mnA f k
def apT (n : Nat) (t : Nat → Int32) : Int32 := mxA (fun k => t (28 + k)) n - mnA (fun k => t (28 + k)) n
def grA (f : Nat → Int32) : Nat → Int32
  | 0 => 0
  | k + 1 => if grA f k < ab (f k) then ab (f k) else grA f k
def grT (n : Nat) (t : Nat → Int32) : Int32 := grA (fun k => t (28 + k)) n
theorem m_apart (Γ : Cx) (I : MemI) (J : MemJ) (tc n : Nat) (ht : ar S0 tc 10 39) (hn : n ≤ 6) (h0 : I tc 0 = nI n) : Ct Γ M_Mo_apart [.ref tc] S0 I J (eqQ (some (.int (apT n (I tc)))) S0 I J) := by
  have LP : ∀ (f k : Nat) (v : Value), v.category = 1 → k + f = n → WP Γ M_Mo_apart (0, 0) S0 I J 6 [.ref tc, .int (mxA (fun k => I tc (28 + k)) k), .int (mnA (fun k => I tc (28 + k)) k), .int (nI k), v] [] (eqQ (some (.int (apT n (I tc)))) S0 I J) := by
    intro f
    induction f with
    | zero =>
      intro k v hv hkf
      obtain rfl : k = n := by omega
      refine p_iload_n d_Mo_apart_6 rfl ?_
      refine p_aload_n d_Mo_apart_7 rfl ?_
      refine p_ic_0 d_Mo_apart_8 ?_
      refine p_ialdN (0) d_Mo_apart_9 ht rfl (by omega) rfl ?_
      refine p_eqI h0 ?_
      refine p_icmpgeN (tgt := 61) (k) (k) d_Mo_apart_10 (by decide) rfl rfl (by omega) (by omega) (fun h10 => ?_) (fun h10 => ?_)
      · refine p_iload_n d_Mo_apart_61 rfl ?_
        refine p_iload_n d_Mo_apart_62 rfl ?_
        refine p_isub d_Mo_apart_63 ?_
        refine p_iret d_Mo_apart_64 rfl rfl ?_
        exact ⟨rfl, rfl, rfl, rfl⟩
      · exact absurd (Nat.le_refl _) h10
    | succ f ih =>
      intro k v hv hkf
      have J54 : ∀ (a b : Int32), a = mxA (fun k => I tc (28 + k)) (k + 1) → b = mnA (fun k => I tc (28 + k)) (k + 1) → WP Γ M_Mo_apart (0, 0) S0 I J 54 [.ref tc, .int a, .int (mnA (fun k => I tc (28 + k)) k), .int (nI k), .int (I tc (28 + k))] [.int b] (eqQ (some (.int (apT n (I tc)))) S0 I J) := by
        intro a b e1 e2
        refine p_is_2 d_Mo_apart_54 (by decide) rfl ?_
        refine p_incN_3_1 d_Mo_apart_55 (by decide) rfl ?_
        refine p_goto (tgt := 6) d_Mo_apart_58 (by decide) ?_
        rw [e1, e2]
        exact ih (k + 1) _ rfl (by omega)
      have J37 : ∀ (a : Int32), a = mxA (fun k => I tc (28 + k)) (k + 1) → WP Γ M_Mo_apart (0, 0) S0 I J 37 [.ref tc, .int (mxA (fun k => I tc (28 + k)) k), .int (mnA (fun k => I tc (28 + k)) k), .int (nI k), .int (I tc (28 + k))] [.int a] (eqQ (some (.int (apT n (I tc)))) S0 I J) := by
        intro a e1
        refine p_is_1 d_Mo_apart_37 (by decide) rfl ?_
        refine p_iload_n d_Mo_apart_38 rfl ?_
        refine p_ifeq (tgt := 48) d_Mo_apart_39 (by decide) (fun h39 => ?_) (fun h39 => ?_)
        · have g0 : k = 0 := by
            rcases Nat.eq_zero_or_pos k with q | q
            · exact q
            · exact absurd h39 (nI_ne0 q (by omega))
          refine p_iload d_Mo_apart_48 rfl ?_
          refine p_goto (tgt := 54) d_Mo_apart_50 (by decide) ?_
          exact J54 _ _ e1 (by first | (simp [mnA, g0]; done) | (simp [mnA, g0, i32_nlt.mpr h45]; done) | (simp [mnA, g0, i32_nle.mp h45]; done))
        · have g0 : ¬ k = 0 := fun q => h39 (by rw [q]; rfl)
          refine p_iload d_Mo_apart_42 rfl ?_
          refine p_iload_n d_Mo_apart_44 rfl ?_
          refine p_icmpge (tgt := 53) d_Mo_apart_45 (by decide) (fun h45 => ?_) (fun h45 => ?_)
          · refine p_iload_n d_Mo_apart_53 rfl ?_
            exact J54 _ _ e1 (by first | (simp [mnA, g0]; done) | (simp [mnA, g0, i32_nlt.mpr h45]; done) | (simp [mnA, g0, i32_nle.mp h45]; done))
          · refine p_iload d_Mo_apart_48 rfl ?_
            refine p_goto (tgt := 54) d_Mo_apart_50 (by decide) ?_
            exact J54 _ _ e1 (by first | (simp [mnA, g0]; done) | (simp [mnA, g0, i32_nlt.mpr h45]; done) | (simp [mnA, g0, i32_nle.mp h45]; done))
      refine p_iload_n d_Mo_apart_6 rfl ?_
      refine p_aload_n d_Mo_apart_7 rfl ?_
      refine p_ic_0 d_Mo_apart_8 ?_
      refine p_ialdN (0) d_Mo_apart_9 ht rfl (by omega) rfl ?_
      refine p_eqI h0 ?_
      refine p_icmpgeN (tgt := 61) (k) (n) d_Mo_apart_10 (by decide) rfl rfl (by omega) (by omega) (fun h10 => ?_) (fun h10 => ?_)
      · exact absurd h10 (by omega)
      · refine p_aload_n d_Mo_apart_13 rfl ?_
        refine p_bi_28 d_Mo_apart_14 ?_
        refine p_iload_n d_Mo_apart_16 rfl ?_
        refine p_iaddN (28) (k) d_Mo_apart_17 rfl rfl ?_
        refine p_ialdN (28 + k) d_Mo_apart_18 ht rfl (by omega) rfl ?_
        refine p_is_4 d_Mo_apart_19 (by decide) rfl ?_
        refine p_iload_n d_Mo_apart_21 rfl ?_
        refine p_ifeq (tgt := 31) d_Mo_apart_22 (by decide) (fun h22 => ?_) (fun h22 => ?_)
        · have g0 : k = 0 := by
            rcases Nat.eq_zero_or_pos k with q | q
            · exact q
            · exact absurd h22 (nI_ne0 q (by omega))
          refine p_iload d_Mo_apart_31 rfl ?_
          refine p_goto (tgt := 37) d_Mo_apart_33 (by decide) ?_
          exact J37 _ (by first | (simp [mxA, g0]; done) | (simp [mxA, g0, i32_nlt.mpr h28]; done) | (simp [mxA, g0, i32_nle.mp h28]; done))
        · have g0 : ¬ k = 0 := fun q => h22 (by rw [q]; rfl)
          refine p_iload d_Mo_apart_25 rfl ?_
          refine p_iload_n d_Mo_apart_27 rfl ?_
          refine p_icmple (tgt := 36) d_Mo_apart_28 (by decide) (fun h28 => ?_) (fun h28 => ?_)
          · refine p_iload_n d_Mo_apart_36 rfl ?_
            exact J37 _ (by first | (simp [mxA, g0]; done) | (simp [mxA, g0, i32_nlt.mpr h28]; done) | (simp [mxA, g0, i32_nle.mp h28]; done))
          · refine p_iload d_Mo_apart_31 rfl ?_
            refine p_goto (tgt := 37) d_Mo_apart_33 (by decide) ?_
            exact J37 _ (by first | (simp [mxA, g0]; done) | (simp [mxA, g0, i32_nlt.mpr h28]; done) | (simp [mxA, g0, i32_nle.mp h28]; done))
  refine ct_of [.ref tc, .null, .null, .null, .null] (by decide +kernel) rfl (leb rfl) rfl ?_
  refine p_ic_0 d_Mo_apart_0 ?_
  refine p_is_1 d_Mo_apart_1 (by decide) rfl ?_
  refine p_ic_0 d_Mo_apart_2 ?_
  refine p_is_2 d_Mo_apart_3 (by decide) rfl ?_
  refine p_ic_0 d_Mo_apart_4 ?_
  refine p_is_3 d_Mo_apart_5 (by decide) rfl ?_
  exact LP n 0 .null rfl (by omega)
theorem m_greatest (Γ : Cx) (I : MemI) (J : MemJ) (tc n : Nat) (ht : ar S0 tc 10 39) (hn : n ≤ 6) (h0 : I tc 0 = nI n) : Ct Γ M_Mo_greatest [.ref tc] S0 I J (eqQ (some (.int (grT n (I tc)))) S0 I J) := by
  have LP : ∀ (f k : Nat) (v : Value), v.category = 1 → k + f = n → WP Γ M_Mo_greatest (0, 0) S0 I J 4 [.ref tc, .int (grA (fun k => I tc (28 + k)) k), .int (nI k), v] [] (eqQ (some (.int (grT n (I tc)))) S0 I J) := by
    intro f
    induction f with
    | zero =>
      intro k v hv hkf
      obtain rfl : k = n := by omega
      refine p_iload_n d_Mo_greatest_4 rfl ?_
      refine p_aload_n d_Mo_greatest_5 rfl ?_
      refine p_ic_0 d_Mo_greatest_6 ?_
      refine p_ialdN (0) d_Mo_greatest_7 ht rfl (by omega) rfl ?_
      refine p_eqI h0 ?_
      refine p_icmpgeN (tgt := 54) (k) (k) d_Mo_greatest_8 (by decide) rfl rfl (by omega) (by omega) (fun h8 => ?_) (fun h8 => ?_)
      · refine p_iload_n d_Mo_greatest_54 rfl ?_
        refine p_iret d_Mo_greatest_55 rfl rfl ?_
        exact ⟨rfl, rfl, rfl, rfl⟩
      · exact absurd (Nat.le_refl _) h8
    | succ f ih =>
      intro k v hv hkf
      have J36 : ∀ (a : Int32), a = ab (I tc (28 + k)) → WP Γ M_Mo_greatest (0, 0) S0 I J 36 [.ref tc, .int (grA (fun k => I tc (28 + k)) k), .int (nI k), v] [.int a] (eqQ (some (.int (grT n (I tc)))) S0 I J) := by
        intro a e1
        refine p_is_3 d_Mo_greatest_36 (by decide) rfl ?_
        refine p_iload_n d_Mo_greatest_37 rfl ?_
        refine p_iload_n d_Mo_greatest_38 rfl ?_
        refine p_icmple (tgt := 46) d_Mo_greatest_39 (by decide) (fun h39 => ?_) (fun h39 => ?_)
        · refine p_iload_n d_Mo_greatest_46 rfl ?_
          refine p_is_1 d_Mo_greatest_47 (by decide) rfl ?_
          refine p_incN_2_1 d_Mo_greatest_48 (by decide) rfl ?_
          refine p_goto (tgt := 4) d_Mo_greatest_51 (by decide) ?_
          have e2 : ∀ z : Int32, z = grA (fun k => I tc (28 + k)) (k + 1) → WP Γ M_Mo_greatest (0, 0) S0 I J 4 [.ref tc, .int z, .int (nI (k + 1)), .int a] [] (eqQ (some (.int (grT n (I tc)))) S0 I J) := by
            intro z ez
            rw [ez]
            exact ih (k + 1) _ rfl (by omega)
          exact e2 _ (by subst e1; first | (simp [grA, i32_nlt.mpr h39]; done) | (simp [grA, i32_nle.mp h39]; done))
        · refine p_iload_n d_Mo_greatest_42 rfl ?_
          refine p_goto (tgt := 47) d_Mo_greatest_43 (by decide) ?_
          refine p_is_1 d_Mo_greatest_47 (by decide) rfl ?_
          refine p_incN_2_1 d_Mo_greatest_48 (by decide) rfl ?_
          refine p_goto (tgt := 4) d_Mo_greatest_51 (by decide) ?_
          have e2 : ∀ z : Int32, z = grA (fun k => I tc (28 + k)) (k + 1) → WP Γ M_Mo_greatest (0, 0) S0 I J 4 [.ref tc, .int z, .int (nI (k + 1)), .int a] [] (eqQ (some (.int (grT n (I tc)))) S0 I J) := by
            intro z ez
            rw [ez]
            exact ih (k + 1) _ rfl (by omega)
          exact e2 _ (by subst e1; first | (simp [grA, i32_nlt.mpr h39]; done) | (simp [grA, i32_nle.mp h39]; done))
      refine p_iload_n d_Mo_greatest_4 rfl ?_
      refine p_aload_n d_Mo_greatest_5 rfl ?_
      refine p_ic_0 d_Mo_greatest_6 ?_
      refine p_ialdN (0) d_Mo_greatest_7 ht rfl (by omega) rfl ?_
      refine p_eqI h0 ?_
      refine p_icmpgeN (tgt := 54) (k) (n) d_Mo_greatest_8 (by decide) rfl rfl (by omega) (by omega) (fun h8 => ?_) (fun h8 => ?_)
      · exact absurd h8 (by omega)
      · refine p_aload_n d_Mo_greatest_11 rfl ?_
        refine p_bi_28 d_Mo_greatest_12 ?_
        refine p_iload_n d_Mo_greatest_14 rfl ?_
        refine p_iaddN (28) (k) d_Mo_greatest_15 rfl rfl ?_
        refine p_ialdN (28 + k) d_Mo_greatest_16 ht rfl (by omega) rfl ?_
        refine p_ifge (tgt := 30) d_Mo_greatest_17 (by decide) (fun h17 => ?_) (fun h17 => ?_)
        · refine p_aload_n d_Mo_greatest_30 rfl ?_
          refine p_bi_28 d_Mo_greatest_31 ?_
          refine p_iload_n d_Mo_greatest_33 rfl ?_
          refine p_iaddN (28) (k) d_Mo_greatest_34 rfl rfl ?_
          refine p_ialdN (28 + k) d_Mo_greatest_35 ht rfl (by omega) rfl ?_
          exact J36 _ (by first | (simp [ab, h17]; done) | (simp [ab, i32_nle.mp h17]; done))
        · refine p_aload_n d_Mo_greatest_20 rfl ?_
          refine p_bi_28 d_Mo_greatest_21 ?_
          refine p_iload_n d_Mo_greatest_23 rfl ?_
          refine p_iaddN (28) (k) d_Mo_greatest_24 rfl rfl ?_
          refine p_ialdN (28 + k) d_Mo_greatest_25 ht rfl (by omega) rfl ?_
          refine p_ineg d_Mo_greatest_26 ?_
          refine p_goto (tgt := 36) d_Mo_greatest_27 (by decide) ?_
          exact J36 _ (by first | (simp [ab, h17]; done) | (simp [ab, i32_nle.mp h17]; done))
  refine ct_of [.ref tc, .null, .null, .null] (by decide +kernel) rfl (leb rfl) rfl ?_
  refine p_ic_0 d_Mo_greatest_0 ?_
  refine p_is_1 d_Mo_greatest_1 (by decide) rfl ?_
  refine p_ic_0 d_Mo_greatest_2 ?_
  refine p_is_2 d_Mo_greatest_3 (by decide) rfl ?_
  exact LP n 0 .null rfl (by omega)
end
section
/-! ===== the reference's calls that only read, or change a little ===== -/
def isP (n : Nat) (x : Int32) : Prop := 0 ≤ x ∧ x < nI n
theorem isP_iff {n : Nat} (hn : n ≤ 6) {x : Int32} : (0 ≤ x ∧ x ≤ nI n - 1) ↔ (0 ≤ x ∧ x < nI n) := by
  have h : (nI n - 1).toInt = (n : Int) - 1 := by
    match n, hn with
    | 0, _ => decide
    | 1, _ => decide
    | 2, _ => decide
    | 3, _ => decide
    | 4, _ => decide
    | 5, _ => decide
    | 6, _ => decide
  rw [i32_le, i32_le, i32_lt, h, nI_toInt (by omega)]
  omega
theorem isP_nI {n k : Nat} (hn : n ≤ 6) (hk : k < n) : 0 ≤ nI k ∧ nI k < nI n := ⟨nI_pos' (by omega), (nI_ltI (by omega) (by omega)).mpr hk⟩
theorem m_isPew (Γ : Cx) (I : MemI) (J : MemJ) (n : Nat) (x : Int32) (hn : n ≤ 6) (h0 : I 54 0 = nI n) : Ct Γ M_Mo_isPew [.ref 53, .int x] S0 I J (eqQ (some (.int (bI (0 ≤ x ∧ x < nI n)))) S0 I J) := by
  have h := c_isPew Γ I J x
  rw [h0, bI_c (isP_iff hn)] at h
  exact h
theorem in_nI {lo hi : Int32} {k : Nat} (h1 : lo ≤ nI k) (h2 : nI k ≤ hi) : lo ≤ nI k ∧ nI k ≤ hi := ⟨h1, h2⟩
def pop (b : Nat) : Nat := b % 2 + b / 2 % 2 + b / 4 % 2 + b / 8 % 2 + b / 16 % 2 + b / 32 % 2
theorem pop_0 : ∀ b, b < 64 → (pop b = 0 ↔ b = 0) := by decide +kernel
theorem pop_s : ∀ b, b < 64 → b ≠ 0 → (nI b &&& (nI b - 1)) = nI (b &&& (b - 1)) ∧ (b &&& (b - 1)) < 64 ∧ pop b = pop (b &&& (b - 1)) + 1 := by decide +kernel
theorem pop_le : ∀ b, b < 64 → pop b ≤ 6 := by decide +kernel
def rsT (n g : Nat) (t : Nat → Int32) : Nat → Int32 := fun y => if 28 ≤ y ∧ y < 28 + n then t y / nI (g + 1) else t y
theorem m_rests (Γ : Cx) (I : MemI) (J : MemJ) (tc n g : Nat) (ht : ar S0 tc 10 39) (hn : n ≤ 6) (hg : g ≤ 9) (h0 : I tc 0 = nI n) : Ct Γ M_Mo_rests [.ref tc, .int (nI g)] S0 I J (r1Q none tc (rsT n g (I tc)) I J) := by
  have LP : ∀ (f k : Nat) (I1 : MemI), k + f = n → (∀ y, I1 tc y = if 28 ≤ y ∧ y < 28 + k then I tc y / nI (g + 1) else I tc y) → (∀ x, x ≠ tc → I1 x = I x) → WP Γ M_Mo_rests (0, 0) S0 I1 J 2 [.ref tc, .int (nI g), .int (nI k)] [] (r1Q none tc (rsT n g (I tc)) I J) := by
    intro f
    induction f with
    | zero =>
      intro k I1 hkf hr hx
      obtain rfl : k = n := by omega
      refine p_iload_n d_Mo_rests_2 rfl ?_
      refine p_aload_n d_Mo_rests_3 rfl ?_
      refine p_ic_0 d_Mo_rests_4 ?_
      refine p_ialdN (0) d_Mo_rests_5 ht rfl (by omega) rfl ?_
      refine p_eqI (y := nI k) (by rw [hr, if_neg (by omega)]; exact h0) ?_
      refine p_icmpgeN (tgt := 27) (k) (k) d_Mo_rests_6 (by decide) rfl rfl (by omega) (by omega) (fun h6 => ?_) (fun h6 => ?_)
      · refine p_ret d_Mo_rests_27 rfl ?_
        exact ⟨rfl, rfl, rfl, funext hr, hx⟩
      · exact absurd (Nat.le_refl _) h6
    | succ f ih =>
      intro k I1 hkf hr hx
      refine p_iload_n d_Mo_rests_2 rfl ?_
      refine p_aload_n d_Mo_rests_3 rfl ?_
      refine p_ic_0 d_Mo_rests_4 ?_
      refine p_ialdN (0) d_Mo_rests_5 ht rfl (by omega) rfl ?_
      refine p_eqI (y := nI n) (by rw [hr, if_neg (by omega)]; exact h0) ?_
      refine p_icmpgeN (tgt := 27) (k) (n) d_Mo_rests_6 (by decide) rfl rfl (by omega) (by omega) (fun h6 => ?_) (fun h6 => ?_)
      · exact absurd h6 (by omega)
      · refine p_aload_n d_Mo_rests_9 rfl ?_
        refine p_bi_28 d_Mo_rests_10 ?_
        refine p_iload_n d_Mo_rests_12 rfl ?_
        refine p_iaddN (28) (k) d_Mo_rests_13 rfl rfl ?_
        refine p_dup2 d_Mo_rests_14 rfl rfl ?_
        refine p_ialdN (28 + k) d_Mo_rests_15 ht rfl (by omega) rfl ?_
        refine p_iload_n d_Mo_rests_16 rfl ?_
        refine p_ic_1 d_Mo_rests_17 ?_
        refine p_iaddN (g) (1) d_Mo_rests_18 rfl rfl ?_
        refine p_idiv d_Mo_rests_19 (nI_ne0 (by omega) (by omega)) ?_
        refine p_iastN (28 + k) d_Mo_rests_20 ht rfl (by omega) rfl ?_
        refine p_incN_2_1 d_Mo_rests_21 (by decide) rfl ?_
        refine p_goto (tgt := 2) d_Mo_rests_24 (by decide) ?_
        refine ih (k + 1) _ (by omega) (fun y => ?_) (fun x q => ?_)
        · simp only [up2, true_and]
          by_cases q : y = 28 + k
          · subst q
            rw [if_pos rfl, if_pos (by omega), hr, if_neg (by omega)]
          · rw [if_neg q, hr y]
            by_cases q2 : 28 ≤ y ∧ y < 28 + k
            · rw [if_pos q2, if_pos (by omega)]
            · rw [if_neg q2, if_neg (by omega)]
        · funext y
          simp only [up2]
          rw [if_neg (fun z => q z.1), hx x q]
  refine ct_of [.ref tc, .int (nI g), .null] (by decide +kernel) rfl (leb rfl) rfl ?_
  refine p_ic_0 d_Mo_rests_0 ?_
  refine p_is_2 d_Mo_rests_1 (by decide) rfl ?_
  exact LP n 0 I (by omega) (fun y => by rw [if_neg (by omega)]) (fun x _ => rfl)
theorem m_bits (Γ : Cx) (S : Sh) (I : MemI) (J : MemJ) (b : Nat) (hb : b < 64) : Ct Γ M_Mo_bits [.int (nI b)] S I J (eqQ (some (.int (nI (pop b)))) S I J) := by
  have LP : ∀ (f c k : Nat), pop c = f → c < 64 → k + f = pop b → WP Γ M_Mo_bits (0, 0) S I J 4 [.int (nI b), .int (nI k), .int (nI c)] [] (eqQ (some (.int (nI (pop b)))) S I J) := by
    intro f
    have hb6 := pop_le b hb
    induction f with
    | zero =>
      intro c k hc hc2 hkf
      obtain rfl : c = 0 := (pop_0 c hc2).mp hc
      refine p_iload_n d_Mo_bits_4 rfl ?_
      refine p_ifeq (tgt := 20) d_Mo_bits_5 (by decide) (fun h5 => ?_) (fun h5 => ?_)
      · refine p_iload_n d_Mo_bits_20 rfl ?_
        refine p_iret d_Mo_bits_21 rfl rfl ?_
        exact ⟨by rw [show k = pop b by omega], rfl, rfl, rfl⟩
      · exact absurd rfl h5
    | succ f ih =>
      intro c k hc hc2 hkf
      have hc0 : c ≠ 0 := fun q => by rw [q] at hc; have z : pop 0 = 0 := rfl; omega
      obtain ⟨e1, e2, e3⟩ := pop_s c hc2 hc0
      refine p_iload_n d_Mo_bits_4 rfl ?_
      refine p_ifeq (tgt := 20) d_Mo_bits_5 (by decide) (fun h5 => ?_) (fun h5 => ?_)
      · exact absurd h5 (nI_ne0 (by omega) (by omega))
      · refine p_incN_1_1 d_Mo_bits_8 (by decide) rfl ?_
        refine p_iload_n d_Mo_bits_11 rfl ?_
        refine p_iload_n d_Mo_bits_12 rfl ?_
        refine p_ic_1 d_Mo_bits_13 ?_
        refine p_isub d_Mo_bits_14 ?_
        refine p_iand d_Mo_bits_15 ?_
        refine p_eqI e1 ?_
        refine p_is_2 d_Mo_bits_16 (by decide) rfl ?_
        refine p_goto (tgt := 4) d_Mo_bits_17 (by decide) ?_
        exact ih (c &&& (c - 1)) (k + 1) (by omega) e2 (by omega)
  refine ct_of [.int (nI b), .null, .null] (by decide +kernel) rfl (leb rfl) rfl ?_
  refine p_ic_0 d_Mo_bits_0 ?_
  refine p_is_1 d_Mo_bits_1 (by decide) rfl ?_
  refine p_iload_n d_Mo_bits_2 rfl ?_
  refine p_is_2 d_Mo_bits_3 (by decide) rfl ?_
  exact LP (pop b) b 0 rfl hb (by omega)
theorem m_type_bad (Γ : Cx) (I : MemI) (J : MemJ) (x : Int32) (hb : ¬ (0 ≤ x ∧ x ≤ 255)) : Ct Γ M_Mo_type [.ref 53, .int x] S0 I J (eqQ (some (.int (-1000001))) S0 I J) := by
  refine ct_of [.ref 53, .int x] (by decide +kernel) rfl (leb rfl) rfl ?_
  refine p_iload_n d_Mo_type_0 rfl ?_
  refine p_i2l d_Mo_type_1 ?_
  refine p_lc_0 d_Mo_type_2 ?_
  refine p_ldc2 d_Mo_type_3 kl_Mo_49 ?_
  refine q_S1 d_Mo_type_6 ml_Mo_45 sb_Mo_in ⟨leb rfl, leb rfl⟩ (c_in Γ _ _ _ x 0 255 (by decide) (by decide)) rfl rfl rfl ?_
  refine p_ifneB (tgt := 15) d_Mo_type_9 (by decide) (fun h9 => ?_) (fun h9 => ?_)
  · exact absurd h9 hb
  · refine p_ldc d_Mo_type_12 kc_Mo_51 ?_
    refine p_iret d_Mo_type_14 rfl rfl ?_
    exact ⟨rfl, rfl, rfl, rfl⟩
theorem m_type_full (Γ : Cx) (I : MemI) (J : MemJ) (x : Int32) (hb : 0 ≤ x ∧ x ≤ 255) (hl : I 53 6 = nI 200) : Ct Γ M_Mo_type [.ref 53, .int x] S0 I J (eqQ (some (.int (-1000003))) S0 I J) := by
  refine ct_of [.ref 53, .int x] (by decide +kernel) rfl (leb rfl) rfl ?_
  refine p_iload_n d_Mo_type_0 rfl ?_
  refine p_i2l d_Mo_type_1 ?_
  refine p_lc_0 d_Mo_type_2 ?_
  refine p_ldc2 d_Mo_type_3 kl_Mo_49 ?_
  refine q_S1 d_Mo_type_6 ml_Mo_45 sb_Mo_in ⟨leb rfl, leb rfl⟩ (c_in Γ _ _ _ x 0 255 (by decide) (by decide)) rfl rfl rfl ?_
  refine p_ifneB (tgt := 15) d_Mo_type_9 (by decide) (fun h9 => ?_) (fun h9 => ?_)
  · refine p_aload_n d_Mo_type_15 rfl ?_
    refine p_getI d_Mo_type_16 fl_Mo_52 kd_53 (Or.inl rfl) ?_
    refine p_eqI hl ?_
    refine p_si_200 d_Mo_type_19 ?_
    refine p_icmpneN (tgt := 28) (200) (200) d_Mo_type_22 (by decide) rfl rfl (by omega) (by omega) (fun h22 => ?_) (fun h22 => ?_)
    · exact absurd rfl h22
    · refine p_ldc d_Mo_type_25 kc_Mo_56 ?_
      refine p_iret d_Mo_type_27 rfl rfl ?_
      exact ⟨rfl, rfl, rfl, rfl⟩
  · exact absurd hb h9
theorem m_type_ok (Γ : Cx) (I : MemI) (J : MemJ) (x : Int32) (l : Nat) (hb : 0 ≤ x ∧ x ≤ 255) (hl : I 53 6 = nI l) (h2 : l < 200) : Ct Γ M_Mo_type [.ref 53, .int x] S0 I J (eqQ (some (.int (nI (l + 1)))) S0 (up2 (up2 I 58 l x) 53 6 (nI (l + 1))) J) := by
  refine ct_of [.ref 53, .int x] (by decide +kernel) rfl (leb rfl) rfl ?_
  refine p_iload_n d_Mo_type_0 rfl ?_
  refine p_i2l d_Mo_type_1 ?_
  refine p_lc_0 d_Mo_type_2 ?_
  refine p_ldc2 d_Mo_type_3 kl_Mo_49 ?_
  refine q_S1 d_Mo_type_6 ml_Mo_45 sb_Mo_in ⟨leb rfl, leb rfl⟩ (c_in Γ _ _ _ x 0 255 (by decide) (by decide)) rfl rfl rfl ?_
  refine p_ifneB (tgt := 15) d_Mo_type_9 (by decide) (fun h9 => ?_) (fun h9 => ?_)
  · refine p_aload_n d_Mo_type_15 rfl ?_
    refine p_getI d_Mo_type_16 fl_Mo_52 kd_53 (Or.inl rfl) ?_
    refine p_eqI hl ?_
    refine p_si_200 d_Mo_type_19 ?_
    refine p_icmpneN (tgt := 28) (l) (200) d_Mo_type_22 (by decide) rfl rfl (by omega) (by omega) (fun h22 => ?_) (fun h22 => ?_)
    · refine p_aload_n d_Mo_type_28 rfl ?_
      refine p_getR d_Mo_type_29 fl_Mo_23 kd_53 rfl rf_53_5 ?_
      refine p_aload_n d_Mo_type_32 rfl ?_
      refine p_getI d_Mo_type_33 fl_Mo_52 kd_53 (Or.inl rfl) ?_
      refine p_eqI hl ?_
      refine p_iload_n d_Mo_type_36 rfl ?_
      refine p_iastN (l) d_Mo_type_37 ar_58 rfl (by omega) rfl ?_
      refine p_aload_n d_Mo_type_38 rfl ?_
      refine p_dup d_Mo_type_39 rfl ?_
      refine p_getI d_Mo_type_40 fl_Mo_52 kd_53 (Or.inl rfl) ?_
      refine p_eqI (y := nI l) (by simp [up2, hl]) ?_
      refine p_ic_1 d_Mo_type_43 ?_
      refine p_iaddN (l) (1) d_Mo_type_44 rfl rfl ?_
      refine p_putI d_Mo_type_45 fl_Mo_52 kd_53 rfl nf_5_6 ?_
      refine p_aload_n d_Mo_type_48 rfl ?_
      refine p_getI d_Mo_type_49 fl_Mo_52 kd_53 (Or.inl rfl) ?_
      refine p_iret d_Mo_type_52 rfl rfl ?_
      exact ⟨by simp [up2], rfl, rfl, rfl⟩
    · exact absurd h22 (by omega)
  · exact absurd hb h9
theorem m_clear (Γ : Cx) (I : MemI) (J : MemJ) : Ct Γ M_Mo_clear [.ref 53] S0 I J (eqQ (some (.int (I 53 6))) S0 (up2 I 53 6 0) J) := by
  refine ct_of [.ref 53, .null] (by decide +kernel) rfl (leb rfl) rfl ?_
  refine p_aload_n d_Mo_clear_0 rfl ?_
  refine p_getI d_Mo_clear_1 fl_Mo_52 kd_53 (Or.inl rfl) ?_
  refine p_is_1 d_Mo_clear_4 (by decide) rfl ?_
  refine p_aload_n d_Mo_clear_5 rfl ?_
  refine p_ic_0 d_Mo_clear_6 ?_
  refine p_putI d_Mo_clear_7 fl_Mo_52 kd_53 rfl nf_5_6 ?_
  refine p_iload_n d_Mo_clear_10 rfl ?_
  refine p_iret d_Mo_clear_11 rfl rfl ?_
  exact ⟨rfl, rfl, rfl, rfl⟩
theorem m_forget (Γ : Cx) (I : MemI) (J : MemJ) : Ct Γ M_Mo_forget [.ref 53] S0 I J (eqQ (some (.int (I 53 8))) S0 (up2 I 53 8 0) J) := by
  refine ct_of [.ref 53, .null] (by decide +kernel) rfl (leb rfl) rfl ?_
  refine p_aload_n d_Mo_forget_0 rfl ?_
  refine p_getI d_Mo_forget_1 fl_Mo_99 kd_53 (Or.inl rfl) ?_
  refine p_is_1 d_Mo_forget_4 (by decide) rfl ?_
  refine p_aload_n d_Mo_forget_5 rfl ?_
  refine p_ic_0 d_Mo_forget_6 ?_
  refine p_putI d_Mo_forget_7 fl_Mo_99 kd_53 rfl nf_5_8 ?_
  refine p_iload_n d_Mo_forget_10 rfl ?_
  refine p_iret d_Mo_forget_11 rfl rfl ?_
  exact ⟨rfl, rfl, rfl, rfl⟩
theorem m_trace (Γ : Cx) (I : MemI) (J : MemJ) : Ct Γ M_Mo_trace [.ref 53] S0 I J (eqQ (some (.long (J 53 9))) S0 I J) := by
  refine ct_of [.ref 53] (by decide +kernel) rfl (leb rfl) rfl ?_
  refine p_aload_n d_Mo_trace_0 rfl ?_
  refine p_getJ d_Mo_trace_1 fl_Mo_182 kd_53 rfl ?_
  refine p_lret d_Mo_trace_4 rfl ?_
  exact ⟨rfl, rfl, rfl, rfl⟩
def pewT (t : Nat → Int32) (k q : Nat) : Int32 := if q < 5 then t (4 + 6 * q + k) else if q = 5 then t (4 + k) / 6 else t 37 >>> (nI k &&& 31) &&& 1
theorem i6 : ∀ q, q ≤ 6 → (0 : Int32) ≤ nI q ∧ nI q ≤ 6 := by decide +kernel
theorem m_pew (Γ : Cx) (I : MemI) (J : MemJ) (n k q : Nat) (hn : n ≤ 6) (h0 : I 54 0 = nI n) (hk : k < n) (hq : q ≤ 6) : Ct Γ M_Mo_pew [.ref 53, .int (nI k), .int (nI q)] S0 I J (eqQ (some (.int (pewT (I 54) k q))) S0 I J) := by
  refine ct_of [.ref 53, .int (nI k), .int (nI q)] (by decide +kernel) rfl (leb rfl) rfl ?_
  refine p_aload_n d_Mo_pew_0 rfl ?_
  refine p_iload_n d_Mo_pew_1 rfl ?_
  refine q_V1 d_Mo_pew_2 ml_Mo_102 vb_Mo_isPew kd_53 ⟨leb rfl, leb rfl⟩ (m_isPew Γ I J n (nI k) hn h0) rfl rfl rfl ?_
  refine p_ifeqB (tgt := 20) d_Mo_pew_5 (by decide) (fun h5 => ?_) (fun h5 => ?_)
  · first | exact absurd (isP_nI hn hk) h5 | exact absurd (i6 q hq) h17
  · refine p_iload_n d_Mo_pew_8 rfl ?_
    refine p_i2l d_Mo_pew_9 ?_
    refine p_lc_0 d_Mo_pew_10 ?_
    refine p_ldc2 d_Mo_pew_11 kl_Mo_105 ?_
    refine q_S1 d_Mo_pew_14 ml_Mo_45 sb_Mo_in ⟨leb rfl, leb rfl⟩ (c_in Γ _ _ _ (nI q) 0 6 (by decide) (by decide)) rfl rfl rfl ?_
    refine p_ifneB (tgt := 23) d_Mo_pew_17 (by decide) (fun h17 => ?_) (fun h17 => ?_)
    · refine p_iload_n d_Mo_pew_23 rfl ?_
      refine p_ic_5 d_Mo_pew_24 ?_
      refine p_icmpgeN (tgt := 44) (q) (5) d_Mo_pew_25 (by decide) rfl rfl (by omega) (by omega) (fun h25 => ?_) (fun h25 => ?_)
      · refine p_iload_n d_Mo_pew_44 rfl ?_
        refine p_ic_5 d_Mo_pew_45 ?_
        refine p_icmpneN (tgt := 63) (q) (5) d_Mo_pew_46 (by decide) rfl rfl (by omega) (by omega) (fun h46 => ?_) (fun h46 => ?_)
        · refine p_aload_n d_Mo_pew_63 rfl ?_
          refine p_getR d_Mo_pew_64 fl_Mo_7 kd_53 rfl rf_53_0 ?_
          refine p_bi_37 d_Mo_pew_67 ?_
          refine p_ialdN (37) d_Mo_pew_69 ar_54 rfl (by omega) rfl ?_
          refine p_iload_n d_Mo_pew_70 rfl ?_
          refine p_ishr d_Mo_pew_71 ?_
          refine p_ic_1 d_Mo_pew_72 ?_
          refine p_iand d_Mo_pew_73 ?_
          refine p_iret d_Mo_pew_74 rfl rfl ?_
          refine ⟨?_, rfl, rfl, rfl⟩
          first | (rw [pewT, if_pos (show q < 5 by omega)]; done) | (rw [pewT, if_neg (show ¬ q < 5 by omega), if_pos (show q = 5 by omega)]; done) | (rw [pewT, if_neg (show ¬ q < 5 by omega), if_neg (show ¬ q = 5 by omega)]; done)
        · refine p_aload_n d_Mo_pew_49 rfl ?_
          refine p_getR d_Mo_pew_50 fl_Mo_7 kd_53 rfl rf_53_0 ?_
          refine p_ic_4 d_Mo_pew_53 ?_
          refine p_iload_n d_Mo_pew_54 rfl ?_
          refine p_iaddN (4) (k) d_Mo_pew_55 rfl rfl ?_
          refine p_ialdN (4 + k) d_Mo_pew_56 ar_54 rfl (by omega) rfl ?_
          refine p_bi_6 d_Mo_pew_57 ?_
          refine p_idiv d_Mo_pew_59 (by decide) ?_
          refine p_goto (tgt := 74) d_Mo_pew_60 (by decide) ?_
          refine p_iret d_Mo_pew_74 rfl rfl ?_
          refine ⟨?_, rfl, rfl, rfl⟩
          first | (rw [pewT, if_pos (show q < 5 by omega)]; done) | (rw [pewT, if_neg (show ¬ q < 5 by omega), if_pos (show q = 5 by omega)]; done) | (rw [pewT, if_neg (show ¬ q < 5 by omega), if_neg (show ¬ q = 5 by omega)]; done)
      · refine p_aload_n d_Mo_pew_28 rfl ?_
        refine p_getR d_Mo_pew_29 fl_Mo_7 kd_53 rfl rf_53_0 ?_
        refine p_ic_4 d_Mo_pew_32 ?_
        refine p_bi_6 d_Mo_pew_33 ?_
        refine p_iload_n d_Mo_pew_35 rfl ?_
        refine p_imulN (6) (q) d_Mo_pew_36 rfl rfl ?_
        refine p_iaddN (4) (6 * q) d_Mo_pew_37 rfl rfl ?_
        refine p_iload_n d_Mo_pew_38 rfl ?_
        refine p_iaddN (4 + (6 * q)) (k) d_Mo_pew_39 rfl rfl ?_
        refine p_ialdN ((4 + (6 * q)) + k) d_Mo_pew_40 ar_54 rfl (by omega) rfl ?_
        refine p_goto (tgt := 74) d_Mo_pew_41 (by decide) ?_
        refine p_iret d_Mo_pew_74 rfl rfl ?_
        refine ⟨?_, rfl, rfl, rfl⟩
        first | (rw [pewT, if_pos (show q < 5 by omega)]; done) | (rw [pewT, if_neg (show ¬ q < 5 by omega), if_pos (show q = 5 by omega)]; done) | (rw [pewT, if_neg (show ¬ q < 5 by omega), if_neg (show ¬ q = 5 by omega)]; done)
    · first | exact absurd (isP_nI hn hk) h5 | exact absurd (i6 q hq) h17
theorem m_pew_bad (Γ : Cx) (I : MemI) (J : MemJ) (n : Nat) (x w : Int32) (hn : n ≤ 6) (h0 : I 54 0 = nI n) (hb : ¬ ((0 ≤ x ∧ x < nI n) ∧ (0 ≤ w ∧ w ≤ 6))) : Ct Γ M_Mo_pew [.ref 53, .int x, .int w] S0 I J (eqQ (some (.int (-1000001))) S0 I J) := by
  refine ct_of [.ref 53, .int x, .int w] (by decide +kernel) rfl (leb rfl) rfl ?_
  refine p_aload_n d_Mo_pew_0 rfl ?_
  refine p_iload_n d_Mo_pew_1 rfl ?_
  refine q_V1 d_Mo_pew_2 ml_Mo_102 vb_Mo_isPew kd_53 ⟨leb rfl, leb rfl⟩ (m_isPew Γ I J n x hn h0) rfl rfl rfl ?_
  refine p_ifeqB (tgt := 20) d_Mo_pew_5 (by decide) (fun h5 => ?_) (fun h5 => ?_)
  · refine p_ldc d_Mo_pew_20 kc_Mo_51 ?_
    refine p_iret d_Mo_pew_22 rfl rfl ?_
    exact ⟨rfl, rfl, rfl, rfl⟩
  · refine p_iload_n d_Mo_pew_8 rfl ?_
    refine p_i2l d_Mo_pew_9 ?_
    refine p_lc_0 d_Mo_pew_10 ?_
    refine p_ldc2 d_Mo_pew_11 kl_Mo_105 ?_
    refine q_S1 d_Mo_pew_14 ml_Mo_45 sb_Mo_in ⟨leb rfl, leb rfl⟩ (c_in Γ _ _ _ w 0 6 (by decide) (by decide)) rfl rfl rfl ?_
    refine p_ifneB (tgt := 23) d_Mo_pew_17 (by decide) (fun h17 => ?_) (fun h17 => ?_)
    · exact absurd ⟨h5, h17⟩ hb
    · refine p_ldc d_Mo_pew_20 kc_Mo_51 ?_
      refine p_iret d_Mo_pew_22 rfl rfl ?_
      exact ⟨rfl, rfl, rfl, rfl⟩
def choT (x : Int32) : Int32 := if x < 0 then NONE else x
def nowT (n : Nat) (t : Nat → Int32) (u w : Int32) : Int32 := if w = 0 then t 38 else if w = 1 then t 34 else if w = 2 then t 35 else if w = 3 then choT (t 36) else if w = 4 then t 1 else if w = 5 then apT n t else if w = 6 then u else (-1000001)
def cntT (t : Nat → Int32) (e l w : Int32) : Int32 := if w = 0 then t 0 else if w = 1 then t 2 else if w = 2 then t 3 else if w = 3 then e else if w = 4 then l else (-1000001)
theorem m_now (Γ : Cx) (I : MemI) (J : MemJ) (n : Nat) (w : Int32) (hn : n ≤ 6) (h0 : I 54 0 = nI n) : Ct Γ M_Mo_now [.ref 53, .int w] S0 I J (eqQ (some (.int (nowT n (I 54) (I 53 2) w))) S0 I J) := by
  refine ct_of [.ref 53, .int w] (by decide +kernel) rfl (leb rfl) rfl ?_
  refine p_iload_n d_Mo_now_0 rfl ?_
  by_cases hs0 : w = 0
  · refine p_tabIn (off := 43) (tgt := 44) d_Mo_now_1 (by rw [hs0]; decide) (by rw [hs0]; decide) (by rw [hs0]; decide) (by decide) ?_
    refine p_aload_n d_Mo_now_44 rfl ?_
    refine p_getR d_Mo_now_45 fl_Mo_7 kd_53 rfl rf_53_0 ?_
    refine p_bi_38 d_Mo_now_48 ?_
    refine p_ialdN (38) d_Mo_now_50 ar_54 rfl (by omega) rfl ?_
    refine p_iret d_Mo_now_51 rfl rfl ?_
    exact ⟨by simp [nowT, hs0], rfl, rfl, rfl⟩
  by_cases hs1 : w = 1
  · refine p_tabIn (off := 51) (tgt := 52) d_Mo_now_1 (by rw [hs1]; decide) (by rw [hs1]; decide) (by rw [hs1]; decide) (by decide) ?_
    refine p_aload_n d_Mo_now_52 rfl ?_
    refine p_getR d_Mo_now_53 fl_Mo_7 kd_53 rfl rf_53_0 ?_
    refine p_bi_34 d_Mo_now_56 ?_
    refine p_ialdN (34) d_Mo_now_58 ar_54 rfl (by omega) rfl ?_
    refine p_iret d_Mo_now_59 rfl rfl ?_
    exact ⟨by simp [nowT, hs1], rfl, rfl, rfl⟩
  by_cases hs2 : w = 2
  · refine p_tabIn (off := 59) (tgt := 60) d_Mo_now_1 (by rw [hs2]; decide) (by rw [hs2]; decide) (by rw [hs2]; decide) (by decide) ?_
    refine p_aload_n d_Mo_now_60 rfl ?_
    refine p_getR d_Mo_now_61 fl_Mo_7 kd_53 rfl rf_53_0 ?_
    refine p_bi_35 d_Mo_now_64 ?_
    refine p_ialdN (35) d_Mo_now_66 ar_54 rfl (by omega) rfl ?_
    refine p_iret d_Mo_now_67 rfl rfl ?_
    exact ⟨by simp [nowT, hs2], rfl, rfl, rfl⟩
  by_cases hs3 : w = 3
  · refine p_tabIn (off := 67) (tgt := 68) d_Mo_now_1 (by rw [hs3]; decide) (by rw [hs3]; decide) (by rw [hs3]; decide) (by decide) ?_
    refine p_aload_n d_Mo_now_68 rfl ?_
    refine p_getR d_Mo_now_69 fl_Mo_7 kd_53 rfl rf_53_0 ?_
    refine p_bi_36 d_Mo_now_72 ?_
    refine p_ialdN (36) d_Mo_now_74 ar_54 rfl (by omega) rfl ?_
    refine p_ifge (tgt := 83) d_Mo_now_75 (by decide) (fun h75 => ?_) (fun h75 => ?_)
    · refine p_aload_n d_Mo_now_83 rfl ?_
      refine p_getR d_Mo_now_84 fl_Mo_7 kd_53 rfl rf_53_0 ?_
      refine p_bi_36 d_Mo_now_87 ?_
      refine p_ialdN (36) d_Mo_now_89 ar_54 rfl (by omega) rfl ?_
      refine p_iret d_Mo_now_90 rfl rfl ?_
      refine ⟨?_, rfl, rfl, rfl⟩
      subst hs3
      unfold nowT choT
      rw [if_neg (by decide), if_neg (by decide), if_neg (by decide), if_pos rfl]
      first | rw [if_pos (i32_nle.mp h75)]; rfl | rw [if_neg (i32_nlt.mpr h75)]
    · refine p_ldc d_Mo_now_78 kc_Mo_107 ?_
      refine p_goto (tgt := 90) d_Mo_now_80 (by decide) ?_
      refine p_iret d_Mo_now_90 rfl rfl ?_
      refine ⟨?_, rfl, rfl, rfl⟩
      subst hs3
      unfold nowT choT
      rw [if_neg (by decide), if_neg (by decide), if_neg (by decide), if_pos rfl]
      first | rw [if_pos (i32_nle.mp h75)]; rfl | rw [if_neg (i32_nlt.mpr h75)]
  by_cases hs4 : w = 4
  · refine p_tabIn (off := 90) (tgt := 91) d_Mo_now_1 (by rw [hs4]; decide) (by rw [hs4]; decide) (by rw [hs4]; decide) (by decide) ?_
    refine p_aload_n d_Mo_now_91 rfl ?_
    refine p_getR d_Mo_now_92 fl_Mo_7 kd_53 rfl rf_53_0 ?_
    refine p_ic_1 d_Mo_now_95 ?_
    refine p_ialdN (1) d_Mo_now_96 ar_54 rfl (by omega) rfl ?_
    refine p_iret d_Mo_now_97 rfl rfl ?_
    exact ⟨by simp [nowT, hs4], rfl, rfl, rfl⟩
  by_cases hs5 : w = 5
  · refine p_tabIn (off := 97) (tgt := 98) d_Mo_now_1 (by rw [hs5]; decide) (by rw [hs5]; decide) (by rw [hs5]; decide) (by decide) ?_
    refine p_aload_n d_Mo_now_98 rfl ?_
    refine p_getR d_Mo_now_99 fl_Mo_7 kd_53 rfl rf_53_0 ?_
    refine q_S1 d_Mo_now_102 ml_Mo_108 sb_Mo_apart ⟨leb rfl, leb rfl⟩ (m_apart Γ I J 54 n ar_54 hn h0) rfl rfl rfl ?_
    refine p_iret d_Mo_now_105 rfl rfl ?_
    exact ⟨by simp [nowT, hs5], rfl, rfl, rfl⟩
  by_cases hs6 : w = 6
  · refine p_tabIn (off := 105) (tgt := 106) d_Mo_now_1 (by rw [hs6]; decide) (by rw [hs6]; decide) (by rw [hs6]; decide) (by decide) ?_
    refine p_aload_n d_Mo_now_106 rfl ?_
    refine p_getI d_Mo_now_107 fl_Mo_96 kd_53 (Or.inl rfl) ?_
    refine p_iret d_Mo_now_110 rfl rfl ?_
    exact ⟨by simp [nowT, hs6], rfl, rfl, rfl⟩
  refine p_tabOut (tgt := 111) d_Mo_now_1 (by have q := fun (z : Int32) (k : Int) (h : ¬ w = z) (hk : z.toInt = k) => lv_neT h hk; have q0 := lv_neT (a := 0) hs0 (by decide); have q1 := lv_neT (a := 1) hs1 (by decide); have q2 := lv_neT (a := 2) hs2 (by decide); have q3 := lv_neT (a := 3) hs3 (by decide); have q4 := lv_neT (a := 4) hs4 (by decide); have q5 := lv_neT (a := 5) hs5 (by decide); have q6 := lv_neT (a := 6) hs6 (by decide); omega) (by decide) ?_
  refine p_ldc d_Mo_now_111 kc_Mo_51 ?_
  refine p_iret d_Mo_now_113 rfl rfl ?_
  exact ⟨by simp [nowT, hs0, hs1, hs2, hs3, hs4, hs5, hs6], rfl, rfl, rfl⟩
theorem m_count (Γ : Cx) (I : MemI) (J : MemJ) (w : Int32) : Ct Γ M_Mo_count [.ref 53, .int w] S0 I J (eqQ (some (.int (cntT (I 54) (I 53 8) (I 53 6) w))) S0 I J) := by
  refine ct_of [.ref 53, .int w] (by decide +kernel) rfl (leb rfl) rfl ?_
  refine p_iload_n d_Mo_count_0 rfl ?_
  by_cases hs0 : w = 0
  · refine p_tabIn (off := 35) (tgt := 36) d_Mo_count_1 (by rw [hs0]; decide) (by rw [hs0]; decide) (by rw [hs0]; decide) (by decide) ?_
    refine p_aload_n d_Mo_count_36 rfl ?_
    refine p_getR d_Mo_count_37 fl_Mo_7 kd_53 rfl rf_53_0 ?_
    refine p_ic_0 d_Mo_count_40 ?_
    refine p_ialdN (0) d_Mo_count_41 ar_54 rfl (by omega) rfl ?_
    refine p_iret d_Mo_count_42 rfl rfl ?_
    exact ⟨by simp [cntT, hs0], rfl, rfl, rfl⟩
  by_cases hs1 : w = 1
  · refine p_tabIn (off := 42) (tgt := 43) d_Mo_count_1 (by rw [hs1]; decide) (by rw [hs1]; decide) (by rw [hs1]; decide) (by decide) ?_
    refine p_aload_n d_Mo_count_43 rfl ?_
    refine p_getR d_Mo_count_44 fl_Mo_7 kd_53 rfl rf_53_0 ?_
    refine p_ic_2 d_Mo_count_47 ?_
    refine p_ialdN (2) d_Mo_count_48 ar_54 rfl (by omega) rfl ?_
    refine p_iret d_Mo_count_49 rfl rfl ?_
    exact ⟨by simp [cntT, hs1], rfl, rfl, rfl⟩
  by_cases hs2 : w = 2
  · refine p_tabIn (off := 49) (tgt := 50) d_Mo_count_1 (by rw [hs2]; decide) (by rw [hs2]; decide) (by rw [hs2]; decide) (by decide) ?_
    refine p_aload_n d_Mo_count_50 rfl ?_
    refine p_getR d_Mo_count_51 fl_Mo_7 kd_53 rfl rf_53_0 ?_
    refine p_ic_3 d_Mo_count_54 ?_
    refine p_ialdN (3) d_Mo_count_55 ar_54 rfl (by omega) rfl ?_
    refine p_iret d_Mo_count_56 rfl rfl ?_
    exact ⟨by simp [cntT, hs2], rfl, rfl, rfl⟩
  by_cases hs3 : w = 3
  · refine p_tabIn (off := 56) (tgt := 57) d_Mo_count_1 (by rw [hs3]; decide) (by rw [hs3]; decide) (by rw [hs3]; decide) (by decide) ?_
    refine p_aload_n d_Mo_count_57 rfl ?_
    refine p_getI d_Mo_count_58 fl_Mo_99 kd_53 (Or.inl rfl) ?_
    refine p_iret d_Mo_count_61 rfl rfl ?_
    exact ⟨by simp [cntT, hs3], rfl, rfl, rfl⟩
  by_cases hs4 : w = 4
  · refine p_tabIn (off := 61) (tgt := 62) d_Mo_count_1 (by rw [hs4]; decide) (by rw [hs4]; decide) (by rw [hs4]; decide) (by decide) ?_
    refine p_aload_n d_Mo_count_62 rfl ?_
    refine p_getI d_Mo_count_63 fl_Mo_52 kd_53 (Or.inl rfl) ?_
    refine p_iret d_Mo_count_66 rfl rfl ?_
    exact ⟨by simp [cntT, hs4], rfl, rfl, rfl⟩
  refine p_tabOut (tgt := 67) d_Mo_count_1 (by have q := fun (z : Int32) (k : Int) (h : ¬ w = z) (hk : z.toInt = k) => lv_neT h hk; have q0 := lv_neT (a := 0) hs0 (by decide); have q1 := lv_neT (a := 1) hs1 (by decide); have q2 := lv_neT (a := 2) hs2 (by decide); have q3 := lv_neT (a := 3) hs3 (by decide); have q4 := lv_neT (a := 4) hs4 (by decide); omega) (by decide) ?_
  refine p_ldc d_Mo_count_67 kc_Mo_51 ?_
  refine p_iret d_Mo_count_69 rfl rfl ?_
  exact ⟨by simp [cntT, hs0, hs1, hs2, hs3, hs4], rfl, rfl, rfl⟩
theorem m_hear_bad (Γ : Cx) (I : MemI) (J : MemJ) (n : Nat) (x y z : Int32) (hn : n ≤ 6) (h0 : I 54 0 = nI n) (hb : ¬ ((1 ≤ x ∧ x ≤ 20) ∧ (0 ≤ y ∧ y < nI n) ∧ (-99 ≤ z ∧ z ≤ 999))) : Ct Γ M_Mo_hear [.ref 53, .int x, .int y, .int z] S0 I J (eqQ (some (.int (-1000001))) S0 I J) := by
  refine ct_of [.ref 53, .int x, .int y, .int z] (by decide +kernel) rfl (leb rfl) rfl ?_
  refine p_iload_n d_Mo_hear_0 rfl ?_
  refine p_i2l d_Mo_hear_1 ?_
  refine p_lc_1 d_Mo_hear_2 ?_
  refine p_ldc2 d_Mo_hear_3 kl_Mo_131 ?_
  refine q_S1 d_Mo_hear_6 ml_Mo_45 sb_Mo_in ⟨leb rfl, leb rfl⟩ (c_in Γ _ _ _ x 1 20 (by decide) (by decide)) rfl rfl rfl ?_
  refine p_ifeqB (tgt := 34) d_Mo_hear_9 (by decide) (fun h9 => ?_) (fun h9 => ?_)
  · refine p_ldc d_Mo_hear_34 kc_Mo_51 ?_
    refine p_iret d_Mo_hear_36 rfl rfl ?_
    exact ⟨rfl, rfl, rfl, rfl⟩
  · refine p_aload_n d_Mo_hear_12 rfl ?_
    refine p_iload_n d_Mo_hear_13 rfl ?_
    refine q_V1 d_Mo_hear_14 ml_Mo_102 vb_Mo_isPew kd_53 ⟨leb rfl, leb rfl⟩ (m_isPew Γ I J n y hn h0) rfl rfl rfl ?_
    refine p_ifeqB (tgt := 34) d_Mo_hear_17 (by decide) (fun h17 => ?_) (fun h17 => ?_)
    · refine p_ldc d_Mo_hear_34 kc_Mo_51 ?_
      refine p_iret d_Mo_hear_36 rfl rfl ?_
      exact ⟨rfl, rfl, rfl, rfl⟩
    · refine p_iload_n d_Mo_hear_20 rfl ?_
      refine p_i2l d_Mo_hear_21 ?_
      refine p_ldc2 d_Mo_hear_22 kl_Mo_171 ?_
      refine p_ldc2 d_Mo_hear_25 kl_Mo_173 ?_
      refine q_S1 d_Mo_hear_28 ml_Mo_45 sb_Mo_in ⟨leb rfl, leb rfl⟩ (c_in Γ _ _ _ z (-99) 999 (by decide) (by decide)) rfl rfl rfl ?_
      refine p_ifneB (tgt := 37) d_Mo_hear_31 (by decide) (fun h31 => ?_) (fun h31 => ?_)
      · exact absurd ⟨h9, h17, h31⟩ hb
      · refine p_ldc d_Mo_hear_34 kc_Mo_51 ?_
        refine p_iret d_Mo_hear_36 rfl rfl ?_
        exact ⟨rfl, rfl, rfl, rfl⟩
theorem m_hear_full (Γ : Cx) (I : MemI) (J : MemJ) (n : Nat) (x y z : Int32) (hn : n ≤ 6) (h0 : I 54 0 = nI n) (hb : ((1 ≤ x ∧ x ≤ 20) ∧ (0 ≤ y ∧ y < nI n) ∧ (-99 ≤ z ∧ z ≤ 999))) (he : I 53 8 = nI 6) : Ct Γ M_Mo_hear [.ref 53, .int x, .int y, .int z] S0 I J (eqQ (some (.int (-1000003))) S0 I J) := by
  refine ct_of [.ref 53, .int x, .int y, .int z] (by decide +kernel) rfl (leb rfl) rfl ?_
  refine p_iload_n d_Mo_hear_0 rfl ?_
  refine p_i2l d_Mo_hear_1 ?_
  refine p_lc_1 d_Mo_hear_2 ?_
  refine p_ldc2 d_Mo_hear_3 kl_Mo_131 ?_
  refine q_S1 d_Mo_hear_6 ml_Mo_45 sb_Mo_in ⟨leb rfl, leb rfl⟩ (c_in Γ _ _ _ x 1 20 (by decide) (by decide)) rfl rfl rfl ?_
  refine p_ifeqB (tgt := 34) d_Mo_hear_9 (by decide) (fun h9 => ?_) (fun h9 => ?_)
  · first | exact absurd hb.1 h9 | exact absurd hb.2.1 h17 | exact absurd hb.2.2 h31
  · refine p_aload_n d_Mo_hear_12 rfl ?_
    refine p_iload_n d_Mo_hear_13 rfl ?_
    refine q_V1 d_Mo_hear_14 ml_Mo_102 vb_Mo_isPew kd_53 ⟨leb rfl, leb rfl⟩ (m_isPew Γ I J n y hn h0) rfl rfl rfl ?_
    refine p_ifeqB (tgt := 34) d_Mo_hear_17 (by decide) (fun h17 => ?_) (fun h17 => ?_)
    · first | exact absurd hb.1 h9 | exact absurd hb.2.1 h17 | exact absurd hb.2.2 h31
    · refine p_iload_n d_Mo_hear_20 rfl ?_
      refine p_i2l d_Mo_hear_21 ?_
      refine p_ldc2 d_Mo_hear_22 kl_Mo_171 ?_
      refine p_ldc2 d_Mo_hear_25 kl_Mo_173 ?_
      refine q_S1 d_Mo_hear_28 ml_Mo_45 sb_Mo_in ⟨leb rfl, leb rfl⟩ (c_in Γ _ _ _ z (-99) 999 (by decide) (by decide)) rfl rfl rfl ?_
      refine p_ifneB (tgt := 37) d_Mo_hear_31 (by decide) (fun h31 => ?_) (fun h31 => ?_)
      · refine p_aload_n d_Mo_hear_37 rfl ?_
        refine p_getI d_Mo_hear_38 fl_Mo_99 kd_53 (Or.inl rfl) ?_
        refine p_eqI he ?_
        refine p_bi_6 d_Mo_hear_41 ?_
        refine p_icmpneN (tgt := 49) (6) (6) d_Mo_hear_43 (by decide) rfl rfl (by omega) (by omega) (fun h43 => ?_) (fun h43 => ?_)
        · exact absurd rfl h43
        · refine p_ldc d_Mo_hear_46 kc_Mo_56 ?_
          refine p_iret d_Mo_hear_48 rfl rfl ?_
          exact ⟨rfl, rfl, rfl, rfl⟩
      · first | exact absurd hb.1 h9 | exact absurd hb.2.1 h17 | exact absurd hb.2.2 h31
theorem m_hear_ok (Γ : Cx) (I : MemI) (J : MemJ) (n e : Nat) (x y z : Int32) (hn : n ≤ 6) (h0 : I 54 0 = nI n) (hb : ((1 ≤ x ∧ x ≤ 20) ∧ (0 ≤ y ∧ y < nI n) ∧ (-99 ≤ z ∧ z ≤ 999))) (he : I 53 8 = nI e) (h6 : e < 6) : Ct Γ M_Mo_hear [.ref 53, .int x, .int y, .int z] S0 I J (eqQ (some (.int (nI (e + 1)))) S0 (up2 (up2 (up2 (up2 I 59 (3 * e) x) 59 (3 * e + 1) y) 59 (3 * e + 2) z) 53 8 (nI (e + 1))) J) := by
  refine ct_of [.ref 53, .int x, .int y, .int z] (by decide +kernel) rfl (leb rfl) rfl ?_
  refine p_iload_n d_Mo_hear_0 rfl ?_
  refine p_i2l d_Mo_hear_1 ?_
  refine p_lc_1 d_Mo_hear_2 ?_
  refine p_ldc2 d_Mo_hear_3 kl_Mo_131 ?_
  refine q_S1 d_Mo_hear_6 ml_Mo_45 sb_Mo_in ⟨leb rfl, leb rfl⟩ (c_in Γ _ _ _ x 1 20 (by decide) (by decide)) rfl rfl rfl ?_
  refine p_ifeqB (tgt := 34) d_Mo_hear_9 (by decide) (fun h9 => ?_) (fun h9 => ?_)
  · first | exact absurd hb.1 h9 | exact absurd hb.2.1 h17 | exact absurd hb.2.2 h31
  · refine p_aload_n d_Mo_hear_12 rfl ?_
    refine p_iload_n d_Mo_hear_13 rfl ?_
    refine q_V1 d_Mo_hear_14 ml_Mo_102 vb_Mo_isPew kd_53 ⟨leb rfl, leb rfl⟩ (m_isPew Γ I J n y hn h0) rfl rfl rfl ?_
    refine p_ifeqB (tgt := 34) d_Mo_hear_17 (by decide) (fun h17 => ?_) (fun h17 => ?_)
    · first | exact absurd hb.1 h9 | exact absurd hb.2.1 h17 | exact absurd hb.2.2 h31
    · refine p_iload_n d_Mo_hear_20 rfl ?_
      refine p_i2l d_Mo_hear_21 ?_
      refine p_ldc2 d_Mo_hear_22 kl_Mo_171 ?_
      refine p_ldc2 d_Mo_hear_25 kl_Mo_173 ?_
      refine q_S1 d_Mo_hear_28 ml_Mo_45 sb_Mo_in ⟨leb rfl, leb rfl⟩ (c_in Γ _ _ _ z (-99) 999 (by decide) (by decide)) rfl rfl rfl ?_
      refine p_ifneB (tgt := 37) d_Mo_hear_31 (by decide) (fun h31 => ?_) (fun h31 => ?_)
      · refine p_aload_n d_Mo_hear_37 rfl ?_
        refine p_getI d_Mo_hear_38 fl_Mo_99 kd_53 (Or.inl rfl) ?_
        refine p_eqI he ?_
        refine p_bi_6 d_Mo_hear_41 ?_
        refine p_icmpneN (tgt := 49) (e) (6) d_Mo_hear_43 (by decide) rfl rfl (by omega) (by omega) (fun h43 => ?_) (fun h43 => ?_)
        · refine p_aload_n d_Mo_hear_49 rfl ?_
          refine p_getR d_Mo_hear_50 fl_Mo_26 kd_53 rfl rf_53_7 ?_
          refine p_ic_3 d_Mo_hear_53 ?_
          refine p_aload_n d_Mo_hear_54 rfl ?_
          refine p_getI d_Mo_hear_55 fl_Mo_99 kd_53 (Or.inl rfl) ?_
          refine p_eqI (y := nI e) (by simp [up2, he]) ?_
          refine p_imulN (3) (e) d_Mo_hear_58 rfl rfl ?_
          refine p_iload_n d_Mo_hear_59 rfl ?_
          refine p_iastN (3 * e) d_Mo_hear_60 ar_59 rfl (by omega) rfl ?_
          refine p_aload_n d_Mo_hear_61 rfl ?_
          refine p_getR d_Mo_hear_62 fl_Mo_26 kd_53 rfl rf_53_7 ?_
          refine p_ic_3 d_Mo_hear_65 ?_
          refine p_aload_n d_Mo_hear_66 rfl ?_
          refine p_getI d_Mo_hear_67 fl_Mo_99 kd_53 (Or.inl rfl) ?_
          refine p_eqI (y := nI e) (by simp [up2, he]) ?_
          refine p_imulN (3) (e) d_Mo_hear_70 rfl rfl ?_
          refine p_ic_1 d_Mo_hear_71 ?_
          refine p_iaddN (3 * e) (1) d_Mo_hear_72 rfl rfl ?_
          refine p_iload_n d_Mo_hear_73 rfl ?_
          refine p_iastN ((3 * e) + 1) d_Mo_hear_74 ar_59 rfl (by omega) rfl ?_
          refine p_aload_n d_Mo_hear_75 rfl ?_
          refine p_getR d_Mo_hear_76 fl_Mo_26 kd_53 rfl rf_53_7 ?_
          refine p_ic_3 d_Mo_hear_79 ?_
          refine p_aload_n d_Mo_hear_80 rfl ?_
          refine p_getI d_Mo_hear_81 fl_Mo_99 kd_53 (Or.inl rfl) ?_
          refine p_eqI (y := nI e) (by simp [up2, he]) ?_
          refine p_imulN (3) (e) d_Mo_hear_84 rfl rfl ?_
          refine p_ic_2 d_Mo_hear_85 ?_
          refine p_iaddN (3 * e) (2) d_Mo_hear_86 rfl rfl ?_
          refine p_iload_n d_Mo_hear_87 rfl ?_
          refine p_iastN ((3 * e) + 2) d_Mo_hear_88 ar_59 rfl (by omega) rfl ?_
          refine p_aload_n d_Mo_hear_89 rfl ?_
          refine p_dup d_Mo_hear_90 rfl ?_
          refine p_getI d_Mo_hear_91 fl_Mo_99 kd_53 (Or.inl rfl) ?_
          refine p_eqI (y := nI e) (by simp [up2, he]) ?_
          refine p_ic_1 d_Mo_hear_94 ?_
          refine p_iaddN (e) (1) d_Mo_hear_95 rfl rfl ?_
          refine p_putI d_Mo_hear_96 fl_Mo_99 kd_53 rfl nf_5_8 ?_
          refine p_aload_n d_Mo_hear_99 rfl ?_
          refine p_getI d_Mo_hear_100 fl_Mo_99 kd_53 (Or.inl rfl) ?_
          refine p_iret d_Mo_hear_103 rfl rfl ?_
          exact ⟨by simp [up2], rfl, rfl, rfl⟩
        · exact absurd h43 (by omega)
      · first | exact absurd hb.1 h9 | exact absurd hb.2.1 h17 | exact absurd hb.2.2 h31
def ratT (t : Nat → Int32) (k q : Nat) : Int32 := if q = 1 then t (28 + k) + t (4 + k) / 6 else if q = 2 then t (28 + k) - t (22 + k) else if q = 3 then 2 * (t (28 + k) + t (4 + k) / 6) else if q = 4 then t (28 + k) - t (22 + k) + nI k else if q = 5 then t (28 + k) + t 34 else t (28 + k)
def ratJ (q : Nat) : Int64 := if q = 1 then 11 else if q = 2 then 101 else if q = 3 then 1011 else if q = 4 then 10101 else if q = 5 then 100001 else 1
def r1J (r0 : Option Value) (v : Int64) (I : MemI) (J : MemJ) (a k : Nat) : PQ := fun r S' I' J' => r = r0 ∧ S' = S0 ∧ I' = I ∧ J' = upJ J a k v
theorem upJ2 (J : MemJ) (a k : Nat) (x y : Int64) : upJ (upJ J a k x) a k y = upJ J a k y := by
  funext b c
  simp only [upJ]
  by_cases h : b = a ∧ c = k
  · simp [h]
  · simp [h]
theorem upJ_s (J : MemJ) (a k : Nat) (x : Int64) : upJ J a k x a k = x := by simp [upJ]
theorem i5 : ∀ q, q ≤ 5 → (0 : Int32) ≤ nI q ∧ nI q ≤ 5 := by decide +kernel
theorem m_rate (Γ : Cx) (I : MemI) (J : MemJ) (n k q : Nat) (hn : n ≤ 6) (h0 : I 54 0 = nI n) (hk : k < n) (hq : q ≤ 5) : Ct Γ M_Mo_rate [.ref 53, .int (nI q), .int (nI k)] S0 I J (r1J (some (.int (ratT (I 54) k q))) (J 53 9 + ratJ q) I J 53 9) := by
  refine ct_of [.ref 53, .int (nI q), .int (nI k), .null] (by decide +kernel) rfl (leb rfl) rfl ?_
  refine p_iload_n d_Mo_rate_0 rfl ?_
  refine p_i2l d_Mo_rate_1 ?_
  refine p_lc_0 d_Mo_rate_2 ?_
  refine p_ldc2 d_Mo_rate_3 kl_Mo_180 ?_
  refine q_S1 d_Mo_rate_6 ml_Mo_45 sb_Mo_in ⟨leb rfl, leb rfl⟩ (c_in Γ _ _ _ (nI q) 0 5 (by decide) (by decide)) rfl rfl rfl ?_
  refine p_ifeqB (tgt := 20) d_Mo_rate_9 (by decide) (fun h9 => ?_) (fun h9 => ?_)
  · first | exact absurd (i5 q hq) h9 | exact absurd (isP_nI hn hk) h17
  · refine p_aload_n d_Mo_rate_12 rfl ?_
    refine p_iload_n d_Mo_rate_13 rfl ?_
    refine q_V1 d_Mo_rate_14 ml_Mo_102 vb_Mo_isPew kd_53 ⟨leb rfl, leb rfl⟩ (m_isPew Γ I J n (nI k) hn h0) rfl rfl rfl ?_
    refine p_ifneB (tgt := 23) d_Mo_rate_17 (by decide) (fun h17 => ?_) (fun h17 => ?_)
    · refine p_aload_n d_Mo_rate_23 rfl ?_
      refine p_getR d_Mo_rate_24 fl_Mo_7 kd_53 rfl rf_53_0 ?_
      refine p_bi_28 d_Mo_rate_27 ?_
      refine p_iload_n d_Mo_rate_29 rfl ?_
      refine p_iaddN (28) (k) d_Mo_rate_30 rfl rfl ?_
      refine p_ialdN (28 + k) d_Mo_rate_31 ar_54 rfl (by omega) rfl ?_
      refine p_is_3 d_Mo_rate_32 (by decide) rfl ?_
      refine p_aload_n d_Mo_rate_33 rfl ?_
      refine p_dup d_Mo_rate_34 rfl ?_
      refine p_getJ d_Mo_rate_35 fl_Mo_182 kd_53 rfl ?_
      refine p_lc_1 d_Mo_rate_38 ?_
      refine p_ladd d_Mo_rate_39 ?_
      refine p_putJ d_Mo_rate_40 fl_Mo_182 kd_53 rfl nf_5_9 ?_
      refine p_iload_n d_Mo_rate_43 rfl ?_
      by_cases hs1 : (nI q) = 1
      · refine p_tabIn (off := 36) (tgt := 80) d_Mo_rate_44 (by rw [hs1]; decide) (by rw [hs1]; decide) (by rw [hs1]; decide) (by decide) ?_
        refine p_aload_n d_Mo_rate_80 rfl ?_
        refine p_dup d_Mo_rate_81 rfl ?_
        refine p_getJ d_Mo_rate_82 fl_Mo_182 kd_53 rfl ?_
        refine p_ldc2 d_Mo_rate_85 kl_Mo_144 ?_
        refine p_ladd d_Mo_rate_88 ?_
        refine p_putJ d_Mo_rate_89 fl_Mo_182 kd_53 rfl nf_5_9 ?_
        refine p_iload_n d_Mo_rate_92 rfl ?_
        refine p_aload_n d_Mo_rate_93 rfl ?_
        refine p_getR d_Mo_rate_94 fl_Mo_7 kd_53 rfl rf_53_0 ?_
        refine p_ic_4 d_Mo_rate_97 ?_
        refine p_iload_n d_Mo_rate_98 rfl ?_
        refine p_iaddN (4) (k) d_Mo_rate_99 rfl rfl ?_
        refine p_ialdN (4 + k) d_Mo_rate_100 ar_54 rfl (by omega) rfl ?_
        refine p_bi_6 d_Mo_rate_101 ?_
        refine p_idiv d_Mo_rate_103 (by decide) ?_
        refine p_iadd d_Mo_rate_104 ?_
        refine p_iret d_Mo_rate_105 rfl rfl ?_
        have gq : q = 1 := (nI_eq (a := q) (b := 1) (by omega) (by omega)).mp hs1
        subst gq
        refine ⟨rfl, rfl, rfl, ?_⟩
        rw [upJ_s, upJ2, Int64.add_assoc]
        rfl
      by_cases hs2 : (nI q) = 2
      · refine p_tabIn (off := 62) (tgt := 106) d_Mo_rate_44 (by rw [hs2]; decide) (by rw [hs2]; decide) (by rw [hs2]; decide) (by decide) ?_
        refine p_aload_n d_Mo_rate_106 rfl ?_
        refine p_dup d_Mo_rate_107 rfl ?_
        refine p_getJ d_Mo_rate_108 fl_Mo_182 kd_53 rfl ?_
        refine p_ldc2 d_Mo_rate_111 kl_Mo_186 ?_
        refine p_ladd d_Mo_rate_114 ?_
        refine p_putJ d_Mo_rate_115 fl_Mo_182 kd_53 rfl nf_5_9 ?_
        refine p_iload_n d_Mo_rate_118 rfl ?_
        refine p_aload_n d_Mo_rate_119 rfl ?_
        refine p_getR d_Mo_rate_120 fl_Mo_7 kd_53 rfl rf_53_0 ?_
        refine p_bi_22 d_Mo_rate_123 ?_
        refine p_iload_n d_Mo_rate_125 rfl ?_
        refine p_iaddN (22) (k) d_Mo_rate_126 rfl rfl ?_
        refine p_ialdN (22 + k) d_Mo_rate_127 ar_54 rfl (by omega) rfl ?_
        refine p_isub d_Mo_rate_128 ?_
        refine p_iret d_Mo_rate_129 rfl rfl ?_
        have gq : q = 2 := (nI_eq (a := q) (b := 2) (by omega) (by omega)).mp hs2
        subst gq
        refine ⟨rfl, rfl, rfl, ?_⟩
        rw [upJ_s, upJ2, Int64.add_assoc]
        rfl
      by_cases hs3 : (nI q) = 3
      · refine p_tabIn (off := 86) (tgt := 130) d_Mo_rate_44 (by rw [hs3]; decide) (by rw [hs3]; decide) (by rw [hs3]; decide) (by decide) ?_
        refine p_aload_n d_Mo_rate_130 rfl ?_
        refine p_dup d_Mo_rate_131 rfl ?_
        refine p_getJ d_Mo_rate_132 fl_Mo_182 kd_53 rfl ?_
        refine p_ldc2 d_Mo_rate_135 kl_Mo_188 ?_
        refine p_ladd d_Mo_rate_138 ?_
        refine p_putJ d_Mo_rate_139 fl_Mo_182 kd_53 rfl nf_5_9 ?_
        refine p_ic_2 d_Mo_rate_142 ?_
        refine p_iload_n d_Mo_rate_143 rfl ?_
        refine p_aload_n d_Mo_rate_144 rfl ?_
        refine p_getR d_Mo_rate_145 fl_Mo_7 kd_53 rfl rf_53_0 ?_
        refine p_ic_4 d_Mo_rate_148 ?_
        refine p_iload_n d_Mo_rate_149 rfl ?_
        refine p_iaddN (4) (k) d_Mo_rate_150 rfl rfl ?_
        refine p_ialdN (4 + k) d_Mo_rate_151 ar_54 rfl (by omega) rfl ?_
        refine p_bi_6 d_Mo_rate_152 ?_
        refine p_idiv d_Mo_rate_154 (by decide) ?_
        refine p_iadd d_Mo_rate_155 ?_
        refine p_imul d_Mo_rate_156 ?_
        refine p_iret d_Mo_rate_157 rfl rfl ?_
        have gq : q = 3 := (nI_eq (a := q) (b := 3) (by omega) (by omega)).mp hs3
        subst gq
        refine ⟨rfl, rfl, rfl, ?_⟩
        rw [upJ_s, upJ2, Int64.add_assoc]
        rfl
      by_cases hs4 : (nI q) = 4
      · refine p_tabIn (off := 114) (tgt := 158) d_Mo_rate_44 (by rw [hs4]; decide) (by rw [hs4]; decide) (by rw [hs4]; decide) (by decide) ?_
        refine p_aload_n d_Mo_rate_158 rfl ?_
        refine p_dup d_Mo_rate_159 rfl ?_
        refine p_getJ d_Mo_rate_160 fl_Mo_182 kd_53 rfl ?_
        refine p_ldc2 d_Mo_rate_163 kl_Mo_190 ?_
        refine p_ladd d_Mo_rate_166 ?_
        refine p_putJ d_Mo_rate_167 fl_Mo_182 kd_53 rfl nf_5_9 ?_
        refine p_iload_n d_Mo_rate_170 rfl ?_
        refine p_aload_n d_Mo_rate_171 rfl ?_
        refine p_getR d_Mo_rate_172 fl_Mo_7 kd_53 rfl rf_53_0 ?_
        refine p_bi_22 d_Mo_rate_175 ?_
        refine p_iload_n d_Mo_rate_177 rfl ?_
        refine p_iaddN (22) (k) d_Mo_rate_178 rfl rfl ?_
        refine p_ialdN (22 + k) d_Mo_rate_179 ar_54 rfl (by omega) rfl ?_
        refine p_isub d_Mo_rate_180 ?_
        refine p_iload_n d_Mo_rate_181 rfl ?_
        refine p_iadd d_Mo_rate_182 ?_
        refine p_iret d_Mo_rate_183 rfl rfl ?_
        have gq : q = 4 := (nI_eq (a := q) (b := 4) (by omega) (by omega)).mp hs4
        subst gq
        refine ⟨rfl, rfl, rfl, ?_⟩
        rw [upJ_s, upJ2, Int64.add_assoc]
        rfl
      by_cases hs5 : (nI q) = 5
      · refine p_tabIn (off := 140) (tgt := 184) d_Mo_rate_44 (by rw [hs5]; decide) (by rw [hs5]; decide) (by rw [hs5]; decide) (by decide) ?_
        refine p_aload_n d_Mo_rate_184 rfl ?_
        refine p_dup d_Mo_rate_185 rfl ?_
        refine p_getJ d_Mo_rate_186 fl_Mo_182 kd_53 rfl ?_
        refine p_ldc2 d_Mo_rate_189 kl_Mo_192 ?_
        refine p_ladd d_Mo_rate_192 ?_
        refine p_putJ d_Mo_rate_193 fl_Mo_182 kd_53 rfl nf_5_9 ?_
        refine p_iload_n d_Mo_rate_196 rfl ?_
        refine p_aload_n d_Mo_rate_197 rfl ?_
        refine p_getR d_Mo_rate_198 fl_Mo_7 kd_53 rfl rf_53_0 ?_
        refine p_bi_34 d_Mo_rate_201 ?_
        refine p_ialdN (34) d_Mo_rate_203 ar_54 rfl (by omega) rfl ?_
        refine p_iadd d_Mo_rate_204 ?_
        refine p_iret d_Mo_rate_205 rfl rfl ?_
        have gq : q = 5 := (nI_eq (a := q) (b := 5) (by omega) (by omega)).mp hs5
        subst gq
        refine ⟨rfl, rfl, rfl, ?_⟩
        rw [upJ_s, upJ2, Int64.add_assoc]
        rfl
      refine p_tabOut (tgt := 206) d_Mo_rate_44 (by have q := fun (z : Int32) (k : Int) (h : ¬ (nI q) = z) (hk : z.toInt = k) => lv_neT h hk; have q1 := lv_neT (a := 1) hs1 (by decide); have q2 := lv_neT (a := 2) hs2 (by decide); have q3 := lv_neT (a := 3) hs3 (by decide); have q4 := lv_neT (a := 4) hs4 (by decide); have q5 := lv_neT (a := 5) hs5 (by decide); omega) (by decide) ?_
      refine p_iload_n d_Mo_rate_206 rfl ?_
      refine p_iret d_Mo_rate_207 rfl rfl ?_
      have gq : q = 0 := by
        have z1 : q ≠ 1 := fun z => hs1 (by rw [z]; rfl)
        have z2 : q ≠ 2 := fun z => hs2 (by rw [z]; rfl)
        have z3 : q ≠ 3 := fun z => hs3 (by rw [z]; rfl)
        have z4 : q ≠ 4 := fun z => hs4 (by rw [z]; rfl)
        have z5 : q ≠ 5 := fun z => hs5 (by rw [z]; rfl)
        omega
      subst gq
      exact ⟨rfl, rfl, rfl, rfl⟩
    · first | exact absurd (i5 q hq) h9 | exact absurd (isP_nI hn hk) h17
theorem m_rate_bad (Γ : Cx) (I : MemI) (J : MemJ) (n : Nat) (w x : Int32) (hn : n ≤ 6) (h0 : I 54 0 = nI n) (hb : ¬ ((0 ≤ w ∧ w ≤ 5) ∧ (0 ≤ x ∧ x < nI n))) : Ct Γ M_Mo_rate [.ref 53, .int w, .int x] S0 I J (eqQ (some (.int (-1000001))) S0 I J) := by
  refine ct_of [.ref 53, .int w, .int x, .null] (by decide +kernel) rfl (leb rfl) rfl ?_
  refine p_iload_n d_Mo_rate_0 rfl ?_
  refine p_i2l d_Mo_rate_1 ?_
  refine p_lc_0 d_Mo_rate_2 ?_
  refine p_ldc2 d_Mo_rate_3 kl_Mo_180 ?_
  refine q_S1 d_Mo_rate_6 ml_Mo_45 sb_Mo_in ⟨leb rfl, leb rfl⟩ (c_in Γ _ _ _ w 0 5 (by decide) (by decide)) rfl rfl rfl ?_
  refine p_ifeqB (tgt := 20) d_Mo_rate_9 (by decide) (fun h9 => ?_) (fun h9 => ?_)
  · refine p_ldc d_Mo_rate_20 kc_Mo_51 ?_
    refine p_iret d_Mo_rate_22 rfl rfl ?_
    exact ⟨rfl, rfl, rfl, rfl⟩
  · refine p_aload_n d_Mo_rate_12 rfl ?_
    refine p_iload_n d_Mo_rate_13 rfl ?_
    refine q_V1 d_Mo_rate_14 ml_Mo_102 vb_Mo_isPew kd_53 ⟨leb rfl, leb rfl⟩ (m_isPew Γ I J n x hn h0) rfl rfl rfl ?_
    refine p_ifneB (tgt := 23) d_Mo_rate_17 (by decide) (fun h17 => ?_) (fun h17 => ?_)
    · exact absurd ⟨h9, h17⟩ hb
    · refine p_ldc d_Mo_rate_20 kc_Mo_51 ?_
      refine p_iret d_Mo_rate_22 rfl rfl ?_
      exact ⟨rfl, rfl, rfl, rfl⟩
end
section
/-! ===== the reference's calls that change what is sung ===== -/
def rmU (u : Nat) : Nat := if u = 10 then 10 else u + 1
def shR (p : Nat → Int32) : Nat → Int32 := fun y => if y < 351 then p (y + 39) else p y
def rmP (u : Nat) (p t : Nat → Int32) : Nat → Int32 := if u = 10 then cpR (shR p) t 0 351 else cpR p t 0 (39 * u)
def stQ (r0 : Option Value) (t' : Nat → Int32) (u' : Nat) (p' : Nat → Int32) (I : MemI) (J : MemJ) : PQ := fun r S' I' J' => r = r0 ∧ S' = S0 ∧ J' = J ∧ I' 54 = t' ∧ I' 53 2 = nI u' ∧ I' 55 = p' ∧ (∀ y, y ≠ 2 → I' 53 y = I 53 y) ∧ ∀ x, x ≠ 53 → x ≠ 54 → x ≠ 55 → x ≠ 61 → I' x = I x
theorem one_nI : (1 : Int32) = nI 1 := rfl
theorem m_remember (Γ : Cx) (I : MemI) (J : MemJ) (u : Nat) (hu : I 53 2 = nI u) (h10 : u ≤ 10) : Ct Γ M_Mo_remember [.ref 53] S0 I J (stQ none (I 54) (rmU u) (rmP u (I 55) (I 54)) I J) := by
  have K49 : ∀ (I1 : MemI) (u0 : Nat) (p0 : Nat → Int32) (v : Value), I1 53 2 = nI u0 → u0 ≤ 9 → I1 55 = p0 → (∀ y, y ≠ 2 → I1 53 y = I 53 y) → (∀ x, x ≠ 53 → x ≠ 55 → I1 x = I x) → rmU u = u0 + 1 → rmP u (I 55) (I 54) = cpR p0 (I 54) 0 (39 * u0) → WP Γ M_Mo_remember (0, 0) S0 I1 J 49 [.ref 53, v] [] (stQ none (I 54) (rmU u) (rmP u (I 55) (I 54)) I J) := by
    intro I1 u0 p0 v e2 hu9 e55 hy hx eU eP
    refine p_aload_n d_Mo_remember_49 rfl ?_
    refine p_getR d_Mo_remember_50 fl_Mo_7 kd_53 rfl rf_53_0 ?_
    refine p_ic_0 d_Mo_remember_53 ?_
    refine p_aload_n d_Mo_remember_54 rfl ?_
    refine p_getR d_Mo_remember_55 fl_Mo_13 kd_53 rfl rf_53_1 ?_
    refine p_bi_39 d_Mo_remember_58 ?_
    refine p_aload_n d_Mo_remember_60 rfl ?_
    refine p_getI d_Mo_remember_61 fl_Mo_96 kd_53 (Or.inl rfl) ?_
    refine p_eqI e2 ?_
    refine p_imulN (39) (u0) d_Mo_remember_64 rfl rfl ?_
    refine q_S d_Mo_remember_65 ml_Mo_92 sb_Mo_copies ⟨leb rfl, leb rfl⟩ (m_copies Γ I1 J 54 55 0 (39 * u0) 39 390 ar_54 ar_55 (by decide) (by omega) (by omega) rfl rfl) rfl rfl rfl (fun r S1 I1 J1 hQ => ?_)
    obtain ⟨rfl, rfl, rfl, w1, w2⟩ := hQ
    refine p_aload_n d_Mo_remember_68 rfl ?_
    refine p_dup d_Mo_remember_69 rfl ?_
    refine p_getI d_Mo_remember_70 fl_Mo_96 kd_53 (Or.inl rfl) ?_
    refine p_eqI (y := nI u0) (by rw [w2 53 (by decide)]; exact e2) ?_
    refine p_ic_1 d_Mo_remember_73 ?_
    refine p_iaddN (u0) (1) d_Mo_remember_74 rfl rfl ?_
    refine p_putI d_Mo_remember_75 fl_Mo_96 kd_53 rfl nf_5_2 ?_
    refine p_ret d_Mo_remember_78 rfl ?_
    refine ⟨rfl, rfl, rfl, ?_, ?_, ?_, fun y q => ?_, fun x q1 q2 q3 q4 => ?_⟩
    · funext y
      simp only [up2]
      rw [if_neg (by omega), w2 54 (by decide), hx 54 (by decide) (by decide)]
    · simp [up2, eU]
    · funext y
      simp only [up2]
      rw [if_neg (by omega), w1, eP, e55, hx 54 (by decide) (by decide)]
    · simp only [up2]
      rw [if_neg (fun z => q z.2), w2 53 (by decide), hy y q]
    · funext y
      simp only [up2]
      rw [if_neg (fun z => q1 z.1), w2 x q3, hx x q1 q3]
  have LP : ∀ (f k : Nat) (I1 : MemI), u = 10 → k + f = 351 → (∀ y, I1 55 y = if y < k then I 55 (y + 39) else I 55 y) → (∀ x, x ≠ 55 → I1 x = I x) → WP Γ M_Mo_remember (0, 0) S0 I1 J 11 [.ref 53, .int (nI k)] [] (stQ none (I 54) (rmU u) (rmP u (I 55) (I 54)) I J) := by
    intro f
    induction f with
    | zero =>
      intro k I1 hu10 hkf hr hx
      obtain rfl : k = 351 := by omega
      refine p_iload_n d_Mo_remember_11 rfl ?_
      refine p_si_351 d_Mo_remember_12 ?_
      refine p_icmpgeN (tgt := 39) (351) (351) d_Mo_remember_15 (by decide) rfl rfl (by omega) (by omega) (fun h15 => ?_) (fun h15 => ?_)
      · refine p_aload_n d_Mo_remember_39 rfl ?_
        refine p_dup d_Mo_remember_40 rfl ?_
        refine p_getI d_Mo_remember_41 fl_Mo_96 kd_53 (Or.inl rfl) ?_
        refine p_eqI (y := nI 10) (by rw [hx 53 (by decide), hu, hu10]) ?_
        refine p_ic_1 d_Mo_remember_44 ?_
        refine p_isubN (10) (1) d_Mo_remember_45 rfl rfl (by omega) ?_
        refine p_putI d_Mo_remember_46 fl_Mo_96 kd_53 rfl nf_5_2 ?_
        refine K49 _ 9 (shR (I 55)) _ ?_ (by omega) ?_ (fun y q => ?_) (fun x q1 q2 => ?_) (by simp [rmU, hu10]) (by simp [rmP, hu10])
        · simp [up2]
        · funext y
          simp only [up2, shR]
          rw [if_neg (by omega), hr y]
        · simp only [up2]
          rw [if_neg (fun z => q z.2), hx 53 (by decide)]
        · funext y
          simp only [up2]
          rw [if_neg (fun z => q1 z.1), hx x q2]
      · exact absurd (Nat.le_refl _) h15
    | succ f ih =>
      intro k I1 hu10 hkf hr hx
      refine p_iload_n d_Mo_remember_11 rfl ?_
      refine p_si_351 d_Mo_remember_12 ?_
      refine p_icmpgeN (tgt := 39) (k) (351) d_Mo_remember_15 (by decide) rfl rfl (by omega) (by omega) (fun h15 => ?_) (fun h15 => ?_)
      · exact absurd h15 (by omega)
      · refine p_aload_n d_Mo_remember_18 rfl ?_
        refine p_getR d_Mo_remember_19 fl_Mo_13 kd_53 rfl rf_53_1 ?_
        refine p_iload_n d_Mo_remember_22 rfl ?_
        refine p_aload_n d_Mo_remember_23 rfl ?_
        refine p_getR d_Mo_remember_24 fl_Mo_13 kd_53 rfl rf_53_1 ?_
        refine p_iload_n d_Mo_remember_27 rfl ?_
        refine p_bi_39 d_Mo_remember_28 ?_
        refine p_iaddN (k) (39) d_Mo_remember_30 rfl rfl ?_
        refine p_ialdN (k + 39) d_Mo_remember_31 ar_55 rfl (by omega) rfl ?_
        refine p_iastN (k) d_Mo_remember_32 ar_55 rfl (by omega) rfl ?_
        refine p_incN_1_1 d_Mo_remember_33 (by decide) rfl ?_
        refine p_goto (tgt := 11) d_Mo_remember_36 (by decide) ?_
        refine ih (k + 1) _ hu10 (by omega) (fun y => ?_) (fun x q => ?_)
        · simp only [up2, true_and]
          by_cases q : y = k
          · subst q
            rw [if_pos rfl, if_pos (by omega), hr, if_neg (by omega)]
          · rw [if_neg q, hr y]
            by_cases q2 : y < k
            · rw [if_pos q2, if_pos (by omega)]
            · rw [if_neg q2, if_neg (by omega)]
        · funext y
          simp only [up2]
          rw [if_neg (fun z => q z.1), hx x q]
  refine ct_of [.ref 53, .null] (by decide +kernel) rfl (leb rfl) rfl ?_
  refine p_aload_n d_Mo_remember_0 rfl ?_
  refine p_getI d_Mo_remember_1 fl_Mo_96 kd_53 (Or.inl rfl) ?_
  refine p_eqI hu ?_
  refine p_bi_10 d_Mo_remember_4 ?_
  refine p_icmpneN (tgt := 49) (u) (10) d_Mo_remember_6 (by decide) rfl rfl (by omega) (by omega) (fun h6 => ?_) (fun h6 => ?_)
  · exact K49 I u (I 55) _ hu (by omega) rfl (fun y _ => rfl) (fun x _ _ => rfl) (by simp [rmU, h6]) (by simp [rmP, h6])
  · refine p_ic_0 d_Mo_remember_9 ?_
    refine p_is_1 d_Mo_remember_10 (by decide) rfl ?_
    exact LP 351 0 I h6 (by omega) (fun y => by rw [if_neg (by omega)]) (fun x _ => rfl)
theorem m_puts (Γ : Cx) (I : MemI) (J : MemJ) (u pl : Nat) (v : Int32) (hp : pl < 39) (hu : I 53 2 = nI u) (h10 : u ≤ 10) : Ct Γ M_Mo_puts [.ref 53, .int (nI pl), .int v] S0 I J (stQ (some (.int (I 54 pl))) (upd (I 54) pl v) (rmU u) (rmP u (I 55) (I 54)) I J) := by
  refine ct_of [.ref 53, .int (nI pl), .int v, .null] (by decide +kernel) rfl (leb rfl) rfl ?_
  refine p_aload_n d_Mo_puts_0 rfl ?_
  refine q_V d_Mo_puts_1 ml_Mo_121 vb_Mo_remember kd_53 ⟨leb rfl, leb rfl⟩ (m_remember Γ I J u hu h10) rfl rfl rfl (fun r S1 I1 J1 hQ => ?_)
  obtain ⟨rfl, rfl, rfl, w1, w2, w3, w4, w5⟩ := hQ
  refine p_aload_n d_Mo_puts_4 rfl ?_
  refine p_getR d_Mo_puts_5 fl_Mo_7 kd_53 rfl rf_53_0 ?_
  refine p_iload_n d_Mo_puts_8 rfl ?_
  refine p_ialdN (pl) d_Mo_puts_9 ar_54 rfl (by omega) rfl ?_
  refine p_is_3 d_Mo_puts_10 (by decide) rfl ?_
  refine p_aload_n d_Mo_puts_11 rfl ?_
  refine p_getR d_Mo_puts_12 fl_Mo_7 kd_53 rfl rf_53_0 ?_
  refine p_iload_n d_Mo_puts_15 rfl ?_
  refine p_iload_n d_Mo_puts_16 rfl ?_
  refine p_iastN (pl) d_Mo_puts_17 ar_54 rfl (by omega) rfl ?_
  refine p_iload_n d_Mo_puts_18 rfl ?_
  refine p_iret d_Mo_puts_19 rfl rfl ?_
  refine ⟨by rw [w1], rfl, rfl, ?_, ?_, ?_, fun y q => ?_, fun x q1 q2 q3 q4 => ?_⟩
  · rw [up2_row, w1]
  · simp [up2, w2]
  · funext y
    simp [up2, w3]
  · simp [up2, w4 y q]
  · funext y
    simp [up2, q2, w5 x q1 q2 q3 q4]
theorem m_ahead (Γ : Cx) (I : MemI) (J : MemJ) (x : Int32) (hb : 0 ≤ x ∧ x ≤ 20) (u : Nat) (hu : I 53 2 = nI u) (h10 : u ≤ 10) : Ct Γ M_Mo_ahead [.ref 53, .int x] S0 I J (stQ (some (.int (I 54 35))) (upd (I 54) 35 x) (rmU u) (rmP u (I 55) (I 54)) I J) := by
  refine ct_of [.ref 53, .int x] (by decide +kernel) rfl (leb rfl) rfl ?_
  refine p_iload_n d_Mo_ahead_0 rfl ?_
  refine p_i2l d_Mo_ahead_1 ?_
  refine p_lc_0 d_Mo_ahead_2 ?_
  refine p_ldc2 d_Mo_ahead_3 kl_Mo_131 ?_
  refine q_S1 d_Mo_ahead_6 ml_Mo_45 sb_Mo_in ⟨leb rfl, leb rfl⟩ (c_in Γ _ _ _ x 0 20 (by decide) (by decide)) rfl rfl rfl ?_
  refine p_ifeqB (tgt := 22) d_Mo_ahead_9 (by decide) (fun h9 => ?_) (fun h9 => ?_)
  · exact absurd hb h9
  · refine p_aload_n d_Mo_ahead_12 rfl ?_
    refine p_bi_35 d_Mo_ahead_13 ?_
    refine p_iload_n d_Mo_ahead_15 rfl ?_
    refine q_V d_Mo_ahead_16 ml_Mo_133 vb_Mo_puts kd_53 ⟨leb rfl, leb rfl⟩ (m_puts Γ I J u 35 x (by omega) hu h10) rfl rfl rfl (fun r S1 I1 J1 hQ => ?_)
    obtain ⟨rfl, rfl, rfl, w1, w2, w3, w4, w5⟩ := hQ
    refine p_goto (tgt := 24) d_Mo_ahead_19 (by decide) ?_
    refine p_iret d_Mo_ahead_24 rfl rfl ?_
    exact ⟨rfl, rfl, rfl, w1, w2, w3, w4, w5⟩
theorem m_ahead_bad (Γ : Cx) (I : MemI) (J : MemJ) (x : Int32) (hb : ¬ (0 ≤ x ∧ x ≤ 20)) : Ct Γ M_Mo_ahead [.ref 53, .int x] S0 I J (eqQ (some (.int (-1000001))) S0 I J) := by
  refine ct_of [.ref 53, .int x] (by decide +kernel) rfl (leb rfl) rfl ?_
  refine p_iload_n d_Mo_ahead_0 rfl ?_
  refine p_i2l d_Mo_ahead_1 ?_
  refine p_lc_0 d_Mo_ahead_2 ?_
  refine p_ldc2 d_Mo_ahead_3 kl_Mo_131 ?_
  refine q_S1 d_Mo_ahead_6 ml_Mo_45 sb_Mo_in ⟨leb rfl, leb rfl⟩ (c_in Γ _ _ _ x 0 20 (by decide) (by decide)) rfl rfl rfl ?_
  refine p_ifeqB (tgt := 22) d_Mo_ahead_9 (by decide) (fun h9 => ?_) (fun h9 => ?_)
  · refine p_ldc d_Mo_ahead_22 kc_Mo_51 ?_
    refine p_iret d_Mo_ahead_24 rfl rfl ?_
    exact ⟨rfl, rfl, rfl, rfl⟩
  · exact absurd h9 hb
theorem m_waits (Γ : Cx) (I : MemI) (J : MemJ) (x : Int32) (hb : 0 ≤ x ∧ x ≤ 10) (u : Nat) (hu : I 53 2 = nI u) (h10 : u ≤ 10) : Ct Γ M_Mo_waits [.ref 53, .int x] S0 I J (stQ (some (.int (I 54 1))) (upd (I 54) 1 x) (rmU u) (rmP u (I 55) (I 54)) I J) := by
  refine ct_of [.ref 53, .int x] (by decide +kernel) rfl (leb rfl) rfl ?_
  refine p_iload_n d_Mo_waits_0 rfl ?_
  refine p_i2l d_Mo_waits_1 ?_
  refine p_lc_0 d_Mo_waits_2 ?_
  refine p_ldc2 d_Mo_waits_3 kl_Mo_144 ?_
  refine q_S1 d_Mo_waits_6 ml_Mo_45 sb_Mo_in ⟨leb rfl, leb rfl⟩ (c_in Γ _ _ _ x 0 10 (by decide) (by decide)) rfl rfl rfl ?_
  refine p_ifeqB (tgt := 21) d_Mo_waits_9 (by decide) (fun h9 => ?_) (fun h9 => ?_)
  · exact absurd hb h9
  · refine p_aload_n d_Mo_waits_12 rfl ?_
    refine p_ic_1 d_Mo_waits_13 ?_
    refine p_iload_n d_Mo_waits_14 rfl ?_
    refine q_V d_Mo_waits_15 ml_Mo_133 vb_Mo_puts kd_53 ⟨leb rfl, leb rfl⟩ (m_puts Γ I J u 1 x (by omega) hu h10) rfl rfl rfl (fun r S1 I1 J1 hQ => ?_)
    obtain ⟨rfl, rfl, rfl, w1, w2, w3, w4, w5⟩ := hQ
    refine p_goto (tgt := 23) d_Mo_waits_18 (by decide) ?_
    refine p_iret d_Mo_waits_23 rfl rfl ?_
    exact ⟨rfl, rfl, rfl, w1, w2, w3, w4, w5⟩
theorem m_waits_bad (Γ : Cx) (I : MemI) (J : MemJ) (x : Int32) (hb : ¬ (0 ≤ x ∧ x ≤ 10)) : Ct Γ M_Mo_waits [.ref 53, .int x] S0 I J (eqQ (some (.int (-1000001))) S0 I J) := by
  refine ct_of [.ref 53, .int x] (by decide +kernel) rfl (leb rfl) rfl ?_
  refine p_iload_n d_Mo_waits_0 rfl ?_
  refine p_i2l d_Mo_waits_1 ?_
  refine p_lc_0 d_Mo_waits_2 ?_
  refine p_ldc2 d_Mo_waits_3 kl_Mo_144 ?_
  refine q_S1 d_Mo_waits_6 ml_Mo_45 sb_Mo_in ⟨leb rfl, leb rfl⟩ (c_in Γ _ _ _ x 0 10 (by decide) (by decide)) rfl rfl rfl ?_
  refine p_ifeqB (tgt := 21) d_Mo_waits_9 (by decide) (fun h9 => ?_) (fun h9 => ?_)
  · refine p_ldc d_Mo_waits_21 kc_Mo_51 ?_
    refine p_iret d_Mo_waits_23 rfl rfl ?_
    exact ⟨rfl, rfl, rfl, rfl⟩
  · exact absurd h9 hb
theorem nI_NONE : ∀ k, k < 6 → ¬ nI k = -1000009 := by decide +kernel
theorem isP_NONE : ∀ n, n ≤ 6 → ¬ ((0 : Int32) ≤ -1000009 ∧ (-1000009 : Int32) < nI n) := by decide +kernel
theorem m_choir (Γ : Cx) (I : MemI) (J : MemJ) (n : Nat) (hn : n ≤ 6) (h0 : I 54 0 = nI n) (k : Nat) (hk : k < n) (u : Nat) (hu : I 53 2 = nI u) (h10 : u ≤ 10) : Ct Γ M_Mo_choir [.ref 53, .int (nI k)] S0 I J (stQ (some (.int (choT (I 54 36)))) (upd (I 54) 36 (nI k)) (rmU u) (rmP u (I 55) (I 54)) I J) := by
  refine ct_of [.ref 53, .int (nI k), .null] (by decide +kernel) rfl (leb rfl) rfl ?_
  refine p_aload_n d_Mo_choir_0 rfl ?_
  refine p_iload_n d_Mo_choir_1 rfl ?_
  refine q_V1 d_Mo_choir_2 ml_Mo_102 vb_Mo_isPew kd_53 ⟨leb rfl, leb rfl⟩ (m_isPew Γ I J n (nI k) hn h0) rfl rfl rfl ?_
  refine p_ifneB (tgt := 17) d_Mo_choir_5 (by decide) (fun h5 => ?_) (fun h5 => ?_)
  · refine p_aload_n d_Mo_choir_17 rfl ?_
    refine p_bi_36 d_Mo_choir_18 ?_
    refine p_iload_n d_Mo_choir_20 rfl ?_
    refine p_ldc d_Mo_choir_21 kc_Mo_107 ?_
    refine p_icmpne (tgt := 30) d_Mo_choir_23 (by decide) (fun h23 => ?_) (fun h23 => ?_)
    · refine p_iload_n d_Mo_choir_30 rfl ?_
      refine q_V d_Mo_choir_31 ml_Mo_133 vb_Mo_puts kd_53 ⟨leb rfl, leb rfl⟩ (m_puts Γ I J u 36 (nI k) (by omega) hu h10) rfl rfl rfl (fun r S1 I1 J1 hQ => ?_)
      obtain ⟨rfl, rfl, rfl, w1, w2, w3, w4, w5⟩ := hQ
      refine p_is_2 d_Mo_choir_34 (by decide) rfl ?_
      refine p_iload_n d_Mo_choir_35 rfl ?_
      refine p_ifge (tgt := 44) d_Mo_choir_36 (by decide) (fun h36 => ?_) (fun h36 => ?_)
      · refine p_iload_n d_Mo_choir_44 rfl ?_
        refine p_iret d_Mo_choir_45 rfl rfl ?_
        refine ⟨?_, rfl, rfl, w1, w2, w3, w4, w5⟩
        unfold choT
        first | (rw [if_pos (i32_nle.mp h36)]; done) | (rw [if_neg (i32_nlt.mpr h36)]; done) | (rw [if_pos (i32_nle.mp h36)]; rfl)
      · refine p_ldc d_Mo_choir_39 kc_Mo_107 ?_
        refine p_goto (tgt := 45) d_Mo_choir_41 (by decide) ?_
        refine p_iret d_Mo_choir_45 rfl rfl ?_
        refine ⟨?_, rfl, rfl, w1, w2, w3, w4, w5⟩
        unfold choT
        first | (rw [if_pos (i32_nle.mp h36)]; done) | (rw [if_neg (i32_nlt.mpr h36)]; done) | (rw [if_pos (i32_nle.mp h36)]; rfl)
    · exact absurd h23 (nI_NONE k (by omega))
  · exact absurd (isP_nI hn hk) h5
theorem m_choir_none (Γ : Cx) (I : MemI) (J : MemJ) (n : Nat) (hn : n ≤ 6) (h0 : I 54 0 = nI n) (u : Nat) (hu : I 53 2 = nI u) (h10 : u ≤ 10) : Ct Γ M_Mo_choir [.ref 53, .int (-1000009)] S0 I J (stQ (some (.int (choT (I 54 36)))) (upd (I 54) 36 (-1)) (rmU u) (rmP u (I 55) (I 54)) I J) := by
  refine ct_of [.ref 53, .int (-1000009), .null] (by decide +kernel) rfl (leb rfl) rfl ?_
  refine p_aload_n d_Mo_choir_0 rfl ?_
  refine p_iload_n d_Mo_choir_1 rfl ?_
  refine q_V1 d_Mo_choir_2 ml_Mo_102 vb_Mo_isPew kd_53 ⟨leb rfl, leb rfl⟩ (m_isPew Γ I J n (-1000009) hn h0) rfl rfl rfl ?_
  refine p_ifneB (tgt := 17) d_Mo_choir_5 (by decide) (fun h5 => ?_) (fun h5 => ?_)
  · exact absurd h5 (isP_NONE n hn)
  · refine p_iload_n d_Mo_choir_8 rfl ?_
    refine p_ldc d_Mo_choir_9 kc_Mo_107 ?_
    refine p_icmpeq (tgt := 17) d_Mo_choir_11 (by decide) (fun h11 => ?_) (fun h11 => ?_)
    · refine p_aload_n d_Mo_choir_17 rfl ?_
      refine p_bi_36 d_Mo_choir_18 ?_
      refine p_iload_n d_Mo_choir_20 rfl ?_
      refine p_ldc d_Mo_choir_21 kc_Mo_107 ?_
      refine p_icmpne (tgt := 30) d_Mo_choir_23 (by decide) (fun h23 => ?_) (fun h23 => ?_)
      · exact absurd rfl h23
      · refine p_ic_m1 d_Mo_choir_26 ?_
        refine p_goto (tgt := 31) d_Mo_choir_27 (by decide) ?_
        refine q_V d_Mo_choir_31 ml_Mo_133 vb_Mo_puts kd_53 ⟨leb rfl, leb rfl⟩ (m_puts Γ I J u 36 (-1) (by omega) hu h10) rfl rfl rfl (fun r S1 I1 J1 hQ => ?_)
        obtain ⟨rfl, rfl, rfl, w1, w2, w3, w4, w5⟩ := hQ
        refine p_is_2 d_Mo_choir_34 (by decide) rfl ?_
        refine p_iload_n d_Mo_choir_35 rfl ?_
        refine p_ifge (tgt := 44) d_Mo_choir_36 (by decide) (fun h36 => ?_) (fun h36 => ?_)
        · refine p_iload_n d_Mo_choir_44 rfl ?_
          refine p_iret d_Mo_choir_45 rfl rfl ?_
          refine ⟨?_, rfl, rfl, w1, w2, w3, w4, w5⟩
          unfold choT
          first | (rw [if_pos (i32_nle.mp h36)]; done) | (rw [if_neg (i32_nlt.mpr h36)]; done) | (rw [if_pos (i32_nle.mp h36)]; rfl)
        · refine p_ldc d_Mo_choir_39 kc_Mo_107 ?_
          refine p_goto (tgt := 45) d_Mo_choir_41 (by decide) ?_
          refine p_iret d_Mo_choir_45 rfl rfl ?_
          refine ⟨?_, rfl, rfl, w1, w2, w3, w4, w5⟩
          unfold choT
          first | (rw [if_pos (i32_nle.mp h36)]; done) | (rw [if_neg (i32_nlt.mpr h36)]; done) | (rw [if_pos (i32_nle.mp h36)]; rfl)
    · exact absurd rfl h11
theorem m_choir_bad (Γ : Cx) (I : MemI) (J : MemJ) (n : Nat) (hn : n ≤ 6) (h0 : I 54 0 = nI n) (x : Int32) (hb : ¬ (0 ≤ x ∧ x < nI n)) (hb2 : ¬ x = -1000009) : Ct Γ M_Mo_choir [.ref 53, .int x] S0 I J (eqQ (some (.int (-1000001))) S0 I J) := by
  refine ct_of [.ref 53, .int x, .null] (by decide +kernel) rfl (leb rfl) rfl ?_
  refine p_aload_n d_Mo_choir_0 rfl ?_
  refine p_iload_n d_Mo_choir_1 rfl ?_
  refine q_V1 d_Mo_choir_2 ml_Mo_102 vb_Mo_isPew kd_53 ⟨leb rfl, leb rfl⟩ (m_isPew Γ I J n x hn h0) rfl rfl rfl ?_
  refine p_ifneB (tgt := 17) d_Mo_choir_5 (by decide) (fun h5 => ?_) (fun h5 => ?_)
  · exact absurd h5 hb
  · refine p_iload_n d_Mo_choir_8 rfl ?_
    refine p_ldc d_Mo_choir_9 kc_Mo_107 ?_
    refine p_icmpeq (tgt := 17) d_Mo_choir_11 (by decide) (fun h11 => ?_) (fun h11 => ?_)
    · exact absurd h11 hb2
    · refine p_ldc d_Mo_choir_14 kc_Mo_51 ?_
      refine p_iret d_Mo_choir_16 rfl rfl ?_
      exact ⟨rfl, rfl, rfl, rfl⟩
def knS (b k i : Nat) : Nat := if i = 1 then (if b / 2 ^ k % 2 = 1 then b else b + 2 ^ k) else (if b / 2 ^ k % 2 = 1 then b - 2 ^ k else b)
theorem knS_m : ∀ b, b < 64 → ∀ k, k < 6 → ∀ i, i < 2 → (nI b &&& ((1 <<< (nI k &&& 31)) ^^^ (-1)) ||| (nI i <<< (nI k &&& 31))) = nI (knS b k i) ∧ knS b k i < 64 := by decide +kernel
theorem i1 : ∀ q, q < 2 → (0 : Int32) ≤ nI q ∧ nI q ≤ 1 := by decide +kernel
theorem m_knows (Γ : Cx) (I : MemI) (J : MemJ) (n : Nat) (hn : n ≤ 6) (h0 : I 54 0 = nI n) (k i b : Nat) (hk : k < n) (hi : i < 2) (hb : b < 64) (hkn : I 54 37 = nI b) (u : Nat) (hu : I 53 2 = nI u) (h10 : u ≤ 10) : Ct Γ M_Mo_knows [.ref 53, .int (nI k), .int (nI i)] S0 I J (stQ (some (.int (nI (pop (knS b k i))))) (upd (I 54) 37 (nI (knS b k i))) (rmU u) (rmP u (I 55) (I 54)) I J) := by
  refine ct_of [.ref 53, .int (nI k), .int (nI i), .null] (by decide +kernel) rfl (leb rfl) rfl ?_
  refine p_aload_n d_Mo_knows_0 rfl ?_
  refine p_iload_n d_Mo_knows_1 rfl ?_
  refine q_V1 d_Mo_knows_2 ml_Mo_102 vb_Mo_isPew kd_53 ⟨leb rfl, leb rfl⟩ (m_isPew Γ I J n (nI k) hn h0) rfl rfl rfl ?_
  refine p_ifeqB (tgt := 15) d_Mo_knows_5 (by decide) (fun h5 => ?_) (fun h5 => ?_)
  · first | exact absurd (isP_nI hn hk) h5 | exact absurd (i1 i hi) h12
  · refine p_iload_n d_Mo_knows_8 rfl ?_
    refine q_S1 d_Mo_knows_9 ml_Mo_137 sb_Mo_isTwo ⟨leb rfl, leb rfl⟩ (c_isTwo Γ S0 I J (nI i)) rfl rfl rfl ?_
    refine p_ifneB (tgt := 18) d_Mo_knows_12 (by decide) (fun h12 => ?_) (fun h12 => ?_)
    · refine p_aload_n d_Mo_knows_18 rfl ?_
      refine p_bi_37 d_Mo_knows_19 ?_
      refine p_aload_n d_Mo_knows_21 rfl ?_
      refine p_getR d_Mo_knows_22 fl_Mo_7 kd_53 rfl rf_53_0 ?_
      refine p_bi_37 d_Mo_knows_25 ?_
      refine p_ialdN (37) d_Mo_knows_27 ar_54 rfl (by omega) rfl ?_
      refine p_eqI hkn ?_
      refine p_ic_1 d_Mo_knows_28 ?_
      refine p_iload_n d_Mo_knows_29 rfl ?_
      refine p_ishl d_Mo_knows_30 ?_
      refine p_ic_m1 d_Mo_knows_31 ?_
      refine p_ixor d_Mo_knows_32 ?_
      refine p_iand d_Mo_knows_33 ?_
      refine p_iload_n d_Mo_knows_34 rfl ?_
      refine p_iload_n d_Mo_knows_35 rfl ?_
      refine p_ishl d_Mo_knows_36 ?_
      refine p_ior d_Mo_knows_37 ?_
      refine p_eqI (knS_m b hb k (by omega) i hi).1 ?_
      refine q_V d_Mo_knows_38 ml_Mo_133 vb_Mo_puts kd_53 ⟨leb rfl, leb rfl⟩ (m_puts Γ I J u 37 (nI (knS b k i)) (by omega) hu h10) rfl rfl rfl (fun r S1 I1 J1 hQ => ?_)
      obtain ⟨rfl, rfl, rfl, w1, w2, w3, w4, w5⟩ := hQ
      refine p_is_3 d_Mo_knows_41 (by decide) rfl ?_
      refine p_aload_n d_Mo_knows_42 rfl ?_
      refine p_getR d_Mo_knows_43 fl_Mo_7 kd_53 rfl rf_53_0 ?_
      refine p_bi_37 d_Mo_knows_46 ?_
      refine p_ialdN (37) d_Mo_knows_48 ar_54 rfl (by omega) rfl ?_
      refine p_eqI (y := nI (knS b k i)) (by rw [w1]; rfl) ?_
      refine q_S1 d_Mo_knows_49 ml_Mo_140 sb_Mo_bits ⟨leb rfl, leb rfl⟩ (m_bits Γ S0 _ _ (knS b k i) (knS_m b hb k (by omega) i hi).2) rfl rfl rfl ?_
      refine p_iret d_Mo_knows_52 rfl rfl ?_
      exact ⟨rfl, rfl, rfl, w1, w2, w3, w4, w5⟩
    · first | exact absurd (isP_nI hn hk) h5 | exact absurd (i1 i hi) h12
theorem m_knows_bad (Γ : Cx) (I : MemI) (J : MemJ) (n : Nat) (hn : n ≤ 6) (h0 : I 54 0 = nI n) (x y : Int32) (hb : ¬ ((0 ≤ x ∧ x < nI n) ∧ (0 ≤ y ∧ y ≤ 1))) : Ct Γ M_Mo_knows [.ref 53, .int x, .int y] S0 I J (eqQ (some (.int (-1000001))) S0 I J) := by
  refine ct_of [.ref 53, .int x, .int y, .null] (by decide +kernel) rfl (leb rfl) rfl ?_
  refine p_aload_n d_Mo_knows_0 rfl ?_
  refine p_iload_n d_Mo_knows_1 rfl ?_
  refine q_V1 d_Mo_knows_2 ml_Mo_102 vb_Mo_isPew kd_53 ⟨leb rfl, leb rfl⟩ (m_isPew Γ I J n x hn h0) rfl rfl rfl ?_
  refine p_ifeqB (tgt := 15) d_Mo_knows_5 (by decide) (fun h5 => ?_) (fun h5 => ?_)
  · refine p_ldc d_Mo_knows_15 kc_Mo_51 ?_
    refine p_iret d_Mo_knows_17 rfl rfl ?_
    exact ⟨rfl, rfl, rfl, rfl⟩
  · refine p_iload_n d_Mo_knows_8 rfl ?_
    refine q_S1 d_Mo_knows_9 ml_Mo_137 sb_Mo_isTwo ⟨leb rfl, leb rfl⟩ (c_isTwo Γ S0 I J y) rfl rfl rfl ?_
    refine p_ifneB (tgt := 18) d_Mo_knows_12 (by decide) (fun h12 => ?_) (fun h12 => ?_)
    · exact absurd ⟨h5, h12⟩ hb
    · refine p_ldc d_Mo_knows_15 kc_Mo_51 ?_
      refine p_iret d_Mo_knows_17 rfl rfl ?_
      exact ⟨rfl, rfl, rfl, rfl⟩
theorem m_line (Γ : Cx) (I : MemI) (J : MemJ) (n : Nat) (hn : n ≤ 6) (h0 : I 54 0 = nI n) (hok : okT n (I 54)) (hs : I 54 38 < 999) (u : Nat) (hu : I 53 2 = nI u) (h10 : u ≤ 10) : Ct Γ M_Mo_line [.ref 53] S0 I J (stQ (some (.int (singT n (I 54) 34))) (singT n (I 54)) (rmU u) (rmP u (I 55) (I 54)) I J) := by
  refine ct_of [.ref 53] (by decide +kernel) rfl (leb rfl) rfl ?_
  refine p_aload_n d_Mo_line_0 rfl ?_
  refine p_getR d_Mo_line_1 fl_Mo_7 kd_53 rfl rf_53_0 ?_
  refine p_bi_38 d_Mo_line_4 ?_
  refine p_ialdN (38) d_Mo_line_6 ar_54 rfl (by omega) rfl ?_
  refine p_si_999 d_Mo_line_7 ?_
  refine p_icmplt (tgt := 16) d_Mo_line_10 (by decide) (fun hq => ?_) (fun hq => ?_)
  · refine p_aload_n d_Mo_line_16 rfl ?_
    refine q_V d_Mo_line_17 ml_Mo_121 vb_Mo_remember kd_53 ⟨leb rfl, leb rfl⟩ (m_remember Γ I J u hu h10) rfl rfl rfl (fun r S1 I1 J1 hQ => ?_)
    obtain ⟨rfl, rfl, rfl, w1, w2, w3, w4, w5⟩ := hQ
    refine p_aload_n d_Mo_line_20 rfl ?_
    refine p_aload_n d_Mo_line_21 rfl ?_
    refine p_getR d_Mo_line_22 fl_Mo_7 kd_53 rfl rf_53_0 ?_
    refine q_V d_Mo_line_25 ml_Mo_124 vb_Mo_sings kd_53 ⟨leb rfl, leb rfl⟩ (m_sings Γ I1 J1 54 n ar_54 (by decide) hn (by rw [w1]; exact h0) (by rw [w1]; exact hok.2.1)) rfl rfl rfl (fun r S1 I1 J1 hQ => ?_)
    obtain ⟨rfl, rfl, rfl, v1, v2⟩ := hQ
    refine p_aload_n d_Mo_line_28 rfl ?_
    refine p_getR d_Mo_line_29 fl_Mo_7 kd_53 rfl rf_53_0 ?_
    refine p_bi_34 d_Mo_line_32 ?_
    refine p_ialdN (34) d_Mo_line_34 ar_54 rfl (by omega) rfl ?_
    refine p_iret d_Mo_line_35 rfl rfl ?_
    rename_i I2
    refine ⟨by rw [v1, w1], rfl, rfl, by rw [v1, w1], ?_, ?_, fun y q => ?_, fun x q1 q2 q3 q4 => ?_⟩
    · rw [v2 53 (by decide) (by decide)]; exact w2
    · rw [v2 55 (by decide) (by decide)]; exact w3
    · rw [v2 53 (by decide) (by decide)]; exact w4 y q
    · rw [v2 x q4 q2]; exact w5 x q1 q2 q3 q4
  · exact absurd hs hq
theorem m_line_st (Γ : Cx) (I : MemI) (J : MemJ) (hs : ¬ I 54 38 < 999) : Ct Γ M_Mo_line [.ref 53] S0 I J (eqQ (some (.int (-1000002))) S0 I J) := by
  refine ct_of [.ref 53] (by decide +kernel) rfl (leb rfl) rfl ?_
  refine p_aload_n d_Mo_line_0 rfl ?_
  refine p_getR d_Mo_line_1 fl_Mo_7 kd_53 rfl rf_53_0 ?_
  refine p_bi_38 d_Mo_line_4 ?_
  refine p_ialdN (38) d_Mo_line_6 ar_54 rfl (by omega) rfl ?_
  refine p_si_999 d_Mo_line_7 ?_
  refine p_icmplt (tgt := 16) d_Mo_line_10 (by decide) (fun h10 => ?_) (fun h10 => ?_)
  · exact absurd h10 hs
  · refine p_ldc d_Mo_line_13 kc_Mo_120 ?_
    refine p_iret d_Mo_line_15 rfl rfl ?_
    exact ⟨rfl, rfl, rfl, rfl⟩
theorem m_verse (Γ : Cx) (I : MemI) (J : MemJ) (n : Nat) (hn : n ≤ 6) (h0 : I 54 0 = nI n) (hok : okT n (I 54)) (ln g : Nat) (hln : I 54 2 = nI ln) (hl9 : ln ≤ 9) (hg : I 54 3 = nI g) (hg9 : g ≤ 9) (hs : ¬ 999 < I 54 38 + I 54 2) (u : Nat) (hu : I 53 2 = nI u) (h10 : u ≤ 10) : Ct Γ M_Mo_verse [.ref 53] S0 I J (stQ (some (.int (itS n (I 54) ln 34))) (rsT n g (itS n (I 54) ln)) (rmU u) (rmP u (I 55) (I 54)) I J) := by
  have z : ∀ k y, y < 4 → itS n (I 54) k y = I 54 y := by
    intro k y hy
    induction k with
    | zero => rfl
    | succ k ih => show singT n _ y = _; rw [singT_off (by omega) (by omega) (by omega)]; exact ih
  have LP : ∀ (f k : Nat) (I1 : MemI), k + f = ln → I1 54 = itS n (I 54) k → I1 53 2 = nI (rmU u) → I1 55 = rmP u (I 55) (I 54) → (∀ y, y ≠ 2 → I1 53 y = I 53 y) → (∀ x, x ≠ 53 → x ≠ 54 → x ≠ 55 → x ≠ 61 → I1 x = I x) → WP Γ M_Mo_verse (0, 0) S0 I1 J 29 [.ref 53, .int (nI k)] [] (stQ (some (.int (itS n (I 54) ln 34))) (rsT n g (itS n (I 54) ln)) (rmU u) (rmP u (I 55) (I 54)) I J) := by
    intro f
    induction f with
    | zero =>
      intro k I1 hkf w1 w2 w3 w4 w5
      obtain rfl : k = ln := by omega
      refine p_iload_n d_Mo_verse_29 rfl ?_
      refine p_aload_n d_Mo_verse_30 rfl ?_
      refine p_getR d_Mo_verse_31 fl_Mo_7 kd_53 rfl rf_53_0 ?_
      refine p_ic_2 d_Mo_verse_34 ?_
      refine p_ialdN (2) d_Mo_verse_35 ar_54 rfl (by omega) rfl ?_
      refine p_eqI (y := nI k) (by rw [w1, z k 2 (by omega)]; exact hln) ?_
      refine p_icmpgeN (tgt := 53) (k) (k) d_Mo_verse_36 (by decide) rfl rfl (by omega) (by omega) (fun h36 => ?_) (fun h36 => ?_)
      · refine p_aload_n d_Mo_verse_53 rfl ?_
        refine p_getR d_Mo_verse_54 fl_Mo_7 kd_53 rfl rf_53_0 ?_
        refine p_aload_n d_Mo_verse_57 rfl ?_
        refine p_getR d_Mo_verse_58 fl_Mo_7 kd_53 rfl rf_53_0 ?_
        refine p_ic_3 d_Mo_verse_61 ?_
        refine p_ialdN (3) d_Mo_verse_62 ar_54 rfl (by omega) rfl ?_
        refine p_eqI (y := nI g) (by rw [w1, z k 3 (by omega)]; exact hg) ?_
        refine q_S d_Mo_verse_63 ml_Mo_127 sb_Mo_rests ⟨leb rfl, leb rfl⟩ (m_rests Γ I1 J 54 n g ar_54 hn hg9 (by rw [w1, z k 0 (by omega)]; exact h0)) rfl rfl rfl (fun r S1 I1 J1 hQ => ?_)
        obtain ⟨rfl, rfl, rfl, v1, v2⟩ := hQ
        refine p_aload_n d_Mo_verse_66 rfl ?_
        refine p_getR d_Mo_verse_67 fl_Mo_7 kd_53 rfl rf_53_0 ?_
        refine p_bi_34 d_Mo_verse_70 ?_
        refine p_ialdN (34) d_Mo_verse_72 ar_54 rfl (by omega) rfl ?_
        refine p_iret d_Mo_verse_73 rfl rfl ?_
        refine ⟨?_, rfl, rfl, by rw [v1, w1], ?_, ?_, fun y q => ?_, fun x q1 q2 q3 q4 => ?_⟩
        · rw [v1, w1]
          unfold rsT
          rw [if_neg (by omega)]
        · rw [v2 53 (by decide)]; exact w2
        · rw [v2 55 (by decide)]; exact w3
        · rw [v2 53 (by decide)]; exact w4 y q
        · rw [v2 x q2]; exact w5 x q1 q2 q3 q4
      · exact absurd (Nat.le_refl _) h36
    | succ f ih =>
      intro k I1 hkf w1 w2 w3 w4 w5
      refine p_iload_n d_Mo_verse_29 rfl ?_
      refine p_aload_n d_Mo_verse_30 rfl ?_
      refine p_getR d_Mo_verse_31 fl_Mo_7 kd_53 rfl rf_53_0 ?_
      refine p_ic_2 d_Mo_verse_34 ?_
      refine p_ialdN (2) d_Mo_verse_35 ar_54 rfl (by omega) rfl ?_
      refine p_eqI (y := nI ln) (by rw [w1, z k 2 (by omega)]; exact hln) ?_
      refine p_icmpgeN (tgt := 53) (k) (ln) d_Mo_verse_36 (by decide) rfl rfl (by omega) (by omega) (fun h36 => ?_) (fun h36 => ?_)
      · exact absurd h36 (by omega)
      · refine p_aload_n d_Mo_verse_39 rfl ?_
        refine p_aload_n d_Mo_verse_40 rfl ?_
        refine p_getR d_Mo_verse_41 fl_Mo_7 kd_53 rfl rf_53_0 ?_
        refine q_V d_Mo_verse_44 ml_Mo_124 vb_Mo_sings kd_53 ⟨leb rfl, leb rfl⟩ (m_sings Γ I1 J 54 n ar_54 (by decide) hn (by rw [w1, z k 0 (by omega)]; exact h0) (by rw [w1]; exact (hok.it k).2.1)) rfl rfl rfl (fun r S1 I1 J1 hQ => ?_)
        obtain ⟨rfl, rfl, rfl, v1, v2⟩ := hQ
        refine p_incN_1_1 d_Mo_verse_47 (by decide) rfl ?_
        refine p_goto (tgt := 29) d_Mo_verse_50 (by decide) ?_
        refine ih (k + 1) _ (by omega) (by rw [v1, w1]; rfl) ?_ ?_ (fun y q => ?_) (fun x q1 q2 q3 q4 => ?_)
        · rw [v2 53 (by decide) (by decide)]; exact w2
        · rw [v2 55 (by decide) (by decide)]; exact w3
        · rw [v2 53 (by decide) (by decide)]; exact w4 y q
        · rw [v2 x q4 q2]; exact w5 x q1 q2 q3 q4
  refine ct_of [.ref 53, .null] (by decide +kernel) rfl (leb rfl) rfl ?_
  refine p_aload_n d_Mo_verse_0 rfl ?_
  refine p_getR d_Mo_verse_1 fl_Mo_7 kd_53 rfl rf_53_0 ?_
  refine p_bi_38 d_Mo_verse_4 ?_
  refine p_ialdN (38) d_Mo_verse_6 ar_54 rfl (by omega) rfl ?_
  refine p_aload_n d_Mo_verse_7 rfl ?_
  refine p_getR d_Mo_verse_8 fl_Mo_7 kd_53 rfl rf_53_0 ?_
  refine p_ic_2 d_Mo_verse_11 ?_
  refine p_ialdN (2) d_Mo_verse_12 ar_54 rfl (by omega) rfl ?_
  refine p_iadd d_Mo_verse_13 ?_
  refine p_si_999 d_Mo_verse_14 ?_
  refine p_icmple (tgt := 23) d_Mo_verse_17 (by decide) (fun h17 => ?_) (fun h17 => ?_)
  · refine p_aload_n d_Mo_verse_23 rfl ?_
    refine q_V d_Mo_verse_24 ml_Mo_121 vb_Mo_remember kd_53 ⟨leb rfl, leb rfl⟩ (m_remember Γ I J u hu h10) rfl rfl rfl (fun r S1 I1 J1 hQ => ?_)
    obtain ⟨rfl, rfl, rfl, w1, w2, w3, w4, w5⟩ := hQ
    refine p_ic_0 d_Mo_verse_27 ?_
    refine p_is_1 d_Mo_verse_28 (by decide) rfl ?_
    exact LP ln 0 _ (by omega) w1 w2 w3 w4 w5
  · exact absurd (i32_nle.mp h17) hs
theorem m_verse_st (Γ : Cx) (I : MemI) (J : MemJ) (hs : 999 < I 54 38 + I 54 2) : Ct Γ M_Mo_verse [.ref 53] S0 I J (eqQ (some (.int (-1000002))) S0 I J) := by
  refine ct_of [.ref 53, .null] (by decide +kernel) rfl (leb rfl) rfl ?_
  refine p_aload_n d_Mo_verse_0 rfl ?_
  refine p_getR d_Mo_verse_1 fl_Mo_7 kd_53 rfl rf_53_0 ?_
  refine p_bi_38 d_Mo_verse_4 ?_
  refine p_ialdN (38) d_Mo_verse_6 ar_54 rfl (by omega) rfl ?_
  refine p_aload_n d_Mo_verse_7 rfl ?_
  refine p_getR d_Mo_verse_8 fl_Mo_7 kd_53 rfl rf_53_0 ?_
  refine p_ic_2 d_Mo_verse_11 ?_
  refine p_ialdN (2) d_Mo_verse_12 ar_54 rfl (by omega) rfl ?_
  refine p_iadd d_Mo_verse_13 ?_
  refine p_si_999 d_Mo_verse_14 ?_
  refine p_icmple (tgt := 23) d_Mo_verse_17 (by decide) (fun h17 => ?_) (fun h17 => ?_)
  · exact absurd hs (i32_nlt.mpr h17)
  · refine p_ldc d_Mo_verse_20 kc_Mo_120 ?_
    refine p_iret d_Mo_verse_22 rfl rfl ?_
    exact ⟨rfl, rfl, rfl, rfl⟩
theorem m_undo (Γ : Cx) (I : MemI) (J : MemJ) (u : Nat) (hu : I 53 2 = nI (u + 1)) (h10 : u + 1 ≤ 10) : Ct Γ M_Mo_undo [.ref 53] S0 I J (stQ (some (.int (nI u))) (fun y => I 55 (39 * u + y)) u (I 55) I J) := by
  refine ct_of [.ref 53] (by decide +kernel) rfl (leb rfl) rfl ?_
  refine p_aload_n d_Mo_undo_0 rfl ?_
  refine p_getI d_Mo_undo_1 fl_Mo_96 kd_53 (Or.inl rfl) ?_
  refine p_eqI hu ?_
  refine p_ifne (tgt := 10) d_Mo_undo_4 (by decide) (fun h4 => ?_) (fun h4 => ?_)
  · refine p_aload_n d_Mo_undo_10 rfl ?_
    refine p_dup d_Mo_undo_11 rfl ?_
    refine p_getI d_Mo_undo_12 fl_Mo_96 kd_53 (Or.inl rfl) ?_
    refine p_eqI hu ?_
    refine p_ic_1 d_Mo_undo_15 ?_
    refine p_isubN (u + 1) (1) d_Mo_undo_16 rfl rfl (by omega) ?_
    refine p_eqI (y := nI u) (by rw [Nat.add_sub_cancel]) ?_
    refine p_putI d_Mo_undo_17 fl_Mo_96 kd_53 rfl nf_5_2 ?_
    refine p_aload_n d_Mo_undo_20 rfl ?_
    refine p_getR d_Mo_undo_21 fl_Mo_13 kd_53 rfl rf_53_1 ?_
    refine p_bi_39 d_Mo_undo_24 ?_
    refine p_aload_n d_Mo_undo_26 rfl ?_
    refine p_getI d_Mo_undo_27 fl_Mo_96 kd_53 (Or.inl rfl) ?_
    refine p_eqI (y := nI u) (by simp [up2]) ?_
    refine p_imulN (39) (u) d_Mo_undo_30 rfl rfl ?_
    refine p_aload_n d_Mo_undo_31 rfl ?_
    refine p_getR d_Mo_undo_32 fl_Mo_7 kd_53 rfl rf_53_0 ?_
    refine p_ic_0 d_Mo_undo_35 ?_
    refine q_S d_Mo_undo_36 ml_Mo_92 sb_Mo_copies ⟨leb rfl, leb rfl⟩ (m_copies Γ _ J 55 54 (39 * u) 0 390 39 ar_55 ar_54 (by decide) (by omega) (by omega) rfl rfl) rfl rfl rfl (fun r S1 I1 J1 hQ => ?_)
    obtain ⟨rfl, rfl, rfl, v1, v2⟩ := hQ
    refine p_row (fun y => I 55 (39 * u + y)) ar_54 (fun y hy => by rw [v1]; simp [cpR, hy, up2]) ?_
    refine p_aload_n d_Mo_undo_39 rfl ?_
    refine p_getI d_Mo_undo_40 fl_Mo_96 kd_53 (Or.inl rfl) ?_
    refine p_iret d_Mo_undo_43 rfl rfl ?_
    refine ⟨by simp [v2, up2], rfl, rfl, by simp, by simp [v2, up2], ?_, fun y q => ?_, fun x q1 q2 q3 q4 => ?_⟩
    · funext y
      simp [v2, up2]
    · simp [v2, up2, q]
    · funext y
      simp [q2, v2 x q2, up2, q1]
  · exact absurd h4 (nI_ne0 (by omega) (by omega))
theorem m_undo_st (Γ : Cx) (I : MemI) (J : MemJ) (hu : I 53 2 = 0) : Ct Γ M_Mo_undo [.ref 53] S0 I J (eqQ (some (.int (-1000002))) S0 I J) := by
  refine ct_of [.ref 53] (by decide +kernel) rfl (leb rfl) rfl ?_
  refine p_aload_n d_Mo_undo_0 rfl ?_
  refine p_getI d_Mo_undo_1 fl_Mo_96 kd_53 (Or.inl rfl) ?_
  refine p_ifne (tgt := 10) d_Mo_undo_4 (by decide) (fun h4 => ?_) (fun h4 => ?_)
  · exact absurd hu h4
  · refine p_ldc d_Mo_undo_7 kc_Mo_120 ?_
    refine p_iret d_Mo_undo_9 rfl rfl ?_
    exact ⟨rfl, rfl, rfl, rfl⟩
def kpQ (r0 : Option Value) (i : Nat) (row : Nat → Int32) (I : MemI) (J : MemJ) : PQ := fun r S' I' J' => r = r0 ∧ S' = S0 ∧ J' = J ∧ I' 56 = row ∧ (∀ y, I' 57 y = if y = i then 1 else I 57 y) ∧ ∀ x, x ≠ 56 → x ≠ 57 → I' x = I x
theorem m_keep (Γ : Cx) (I : MemI) (J : MemJ) (i : Nat) (hi : i < 2) : Ct Γ M_Mo_keep [.ref 53, .int (nI i)] S0 I J (kpQ (some (.int (I 54 38))) i (cpR (I 56) (I 54) 0 (39 * i)) I J) := by
  refine ct_of [.ref 53, .int (nI i)] (by decide +kernel) rfl (leb rfl) rfl ?_
  refine p_iload_n d_Mo_keep_0 rfl ?_
  refine q_S1 d_Mo_keep_1 ml_Mo_137 sb_Mo_isTwo ⟨leb rfl, leb rfl⟩ (c_isTwo Γ S0 I J (nI i)) rfl rfl rfl ?_
  refine p_ifneB (tgt := 10) d_Mo_keep_4 (by decide) (fun h4 => ?_) (fun h4 => ?_)
  · refine p_aload_n d_Mo_keep_10 rfl ?_
    refine p_getR d_Mo_keep_11 fl_Mo_7 kd_53 rfl rf_53_0 ?_
    refine p_ic_0 d_Mo_keep_14 ?_
    refine p_aload_n d_Mo_keep_15 rfl ?_
    refine p_getR d_Mo_keep_16 fl_Mo_16 kd_53 rfl rf_53_3 ?_
    refine p_bi_39 d_Mo_keep_19 ?_
    refine p_iload_n d_Mo_keep_21 rfl ?_
    refine p_imulN (39) (i) d_Mo_keep_22 rfl rfl ?_
    refine q_S d_Mo_keep_23 ml_Mo_92 sb_Mo_copies ⟨leb rfl, leb rfl⟩ (m_copies Γ I J 54 56 0 (39 * i) 39 78 ar_54 ar_56 (by decide) (by omega) (by omega) rfl rfl) rfl rfl rfl (fun r S1 I1 J1 hQ => ?_)
    obtain ⟨rfl, rfl, rfl, v1, v2⟩ := hQ
    refine p_aload_n d_Mo_keep_26 rfl ?_
    refine p_getR d_Mo_keep_27 fl_Mo_19 kd_53 rfl rf_53_4 ?_
    refine p_iload_n d_Mo_keep_30 rfl ?_
    refine p_ic_1 d_Mo_keep_31 ?_
    refine p_zastN (i) d_Mo_keep_32 ar_57 rfl (by omega) rfl (Or.inr rfl) ?_
    refine p_aload_n d_Mo_keep_33 rfl ?_
    refine p_getR d_Mo_keep_34 fl_Mo_7 kd_53 rfl rf_53_0 ?_
    refine p_bi_38 d_Mo_keep_37 ?_
    refine p_ialdN (38) d_Mo_keep_39 ar_54 rfl (by omega) rfl ?_
    refine p_iret d_Mo_keep_40 rfl rfl ?_
    refine ⟨?_, rfl, rfl, ?_, fun y => ?_, fun x q1 q2 => ?_⟩
    · simp [up2, v2]
    · funext y
      simp [up2, v1]
    · simp [up2, v2]
    · funext y
      simp [up2, q2, v2 x q1]
  · exact absurd (i1 i hi) h4
theorem m_keep_bad (Γ : Cx) (I : MemI) (J : MemJ) (x : Int32) (hb : ¬ (0 ≤ x ∧ x ≤ 1)) : Ct Γ M_Mo_keep [.ref 53, .int x] S0 I J (eqQ (some (.int (-1000001))) S0 I J) := by
  refine ct_of [.ref 53, .int x] (by decide +kernel) rfl (leb rfl) rfl ?_
  refine p_iload_n d_Mo_keep_0 rfl ?_
  refine q_S1 d_Mo_keep_1 ml_Mo_137 sb_Mo_isTwo ⟨leb rfl, leb rfl⟩ (c_isTwo Γ S0 I J x) rfl rfl rfl ?_
  refine p_ifneB (tgt := 10) d_Mo_keep_4 (by decide) (fun h4 => ?_) (fun h4 => ?_)
  · exact absurd h4 hb
  · refine p_ldc d_Mo_keep_7 kc_Mo_51 ?_
    refine p_iret d_Mo_keep_9 rfl rfl ?_
    exact ⟨rfl, rfl, rfl, rfl⟩
theorem m_back (Γ : Cx) (I : MemI) (J : MemJ) (i : Nat) (hi : i < 2) (hk : ¬ I 57 i = 0) : Ct Γ M_Mo_back [.ref 53, .int (nI i)] S0 I J (stQ (some (.int (I 56 (39 * i + 38)))) (fun y => I 56 (39 * i + y)) 0 (I 55) I J) := by
  refine ct_of [.ref 53, .int (nI i)] (by decide +kernel) rfl (leb rfl) rfl ?_
  refine p_iload_n d_Mo_back_0 rfl ?_
  refine q_S1 d_Mo_back_1 ml_Mo_137 sb_Mo_isTwo ⟨leb rfl, leb rfl⟩ (c_isTwo Γ S0 I J (nI i)) rfl rfl rfl ?_
  refine p_ifneB (tgt := 10) d_Mo_back_4 (by decide) (fun h4 => ?_) (fun h4 => ?_)
  · refine p_aload_n d_Mo_back_10 rfl ?_
    refine p_getR d_Mo_back_11 fl_Mo_19 kd_53 rfl rf_53_4 ?_
    refine p_iload_n d_Mo_back_14 rfl ?_
    refine p_zaldN (i) d_Mo_back_15 ar_57 rfl (by omega) rfl ?_
    refine p_ifne (tgt := 22) d_Mo_back_16 (by decide) (fun h16 => ?_) (fun h16 => ?_)
    · refine p_aload_n d_Mo_back_22 rfl ?_
      refine p_getR d_Mo_back_23 fl_Mo_16 kd_53 rfl rf_53_3 ?_
      refine p_bi_39 d_Mo_back_26 ?_
      refine p_iload_n d_Mo_back_28 rfl ?_
      refine p_imulN (39) (i) d_Mo_back_29 rfl rfl ?_
      refine p_aload_n d_Mo_back_30 rfl ?_
      refine p_getR d_Mo_back_31 fl_Mo_7 kd_53 rfl rf_53_0 ?_
      refine p_ic_0 d_Mo_back_34 ?_
      refine q_S d_Mo_back_35 ml_Mo_92 sb_Mo_copies ⟨leb rfl, leb rfl⟩ (m_copies Γ I J 56 54 (39 * i) 0 78 39 ar_56 ar_54 (by decide) (by omega) (by omega) rfl rfl) rfl rfl rfl (fun r S1 I1 J1 hQ => ?_)
      obtain ⟨rfl, rfl, rfl, v1, v2⟩ := hQ
      refine p_row (fun y => I 56 (39 * i + y)) ar_54 (fun y hy => by rw [v1]; simp [cpR, hy]) ?_
      refine p_aload_n d_Mo_back_38 rfl ?_
      refine p_ic_0 d_Mo_back_39 ?_
      refine p_putI d_Mo_back_40 fl_Mo_96 kd_53 rfl nf_5_2 ?_
      refine p_aload_n d_Mo_back_43 rfl ?_
      refine p_getR d_Mo_back_44 fl_Mo_7 kd_53 rfl rf_53_0 ?_
      refine p_bi_38 d_Mo_back_47 ?_
      refine p_ialdN (38) d_Mo_back_49 ar_54 rfl (by omega) rfl ?_
      refine p_iret d_Mo_back_50 rfl rfl ?_
      refine ⟨by simp [up2], rfl, rfl, ?_, by simp [up2, nI_0], ?_, fun y q => ?_, fun x q1 q2 q3 q4 => ?_⟩
      · funext y
        simp [up2]
      · funext y
        simp [up2, v2]
      · simp [up2, v2, q]
      · funext y
        simp [up2, q1, q2, v2 x q2]
    · exact absurd h16 hk
  · exact absurd (i1 i hi) h4
theorem m_back_st (Γ : Cx) (I : MemI) (J : MemJ) (i : Nat) (hi : i < 2) (hk : I 57 i = 0) : Ct Γ M_Mo_back [.ref 53, .int (nI i)] S0 I J (eqQ (some (.int (-1000002))) S0 I J) := by
  refine ct_of [.ref 53, .int (nI i)] (by decide +kernel) rfl (leb rfl) rfl ?_
  refine p_iload_n d_Mo_back_0 rfl ?_
  refine q_S1 d_Mo_back_1 ml_Mo_137 sb_Mo_isTwo ⟨leb rfl, leb rfl⟩ (c_isTwo Γ S0 I J (nI i)) rfl rfl rfl ?_
  refine p_ifneB (tgt := 10) d_Mo_back_4 (by decide) (fun h4 => ?_) (fun h4 => ?_)
  · refine p_aload_n d_Mo_back_10 rfl ?_
    refine p_getR d_Mo_back_11 fl_Mo_19 kd_53 rfl rf_53_4 ?_
    refine p_iload_n d_Mo_back_14 rfl ?_
    refine p_zaldN (i) d_Mo_back_15 ar_57 rfl (by omega) rfl ?_
    refine p_ifne (tgt := 22) d_Mo_back_16 (by decide) (fun h16 => ?_) (fun h16 => ?_)
    · exact absurd hk h16
    · refine p_ldc d_Mo_back_19 kc_Mo_120 ?_
      refine p_iret d_Mo_back_21 rfl rfl ?_
      exact ⟨rfl, rfl, rfl, rfl⟩
  · exact absurd (i1 i hi) h4
theorem m_back_bad (Γ : Cx) (I : MemI) (J : MemJ) (x : Int32) (hb : ¬ (0 ≤ x ∧ x ≤ 1)) : Ct Γ M_Mo_back [.ref 53, .int x] S0 I J (eqQ (some (.int (-1000001))) S0 I J) := by
  refine ct_of [.ref 53, .int x] (by decide +kernel) rfl (leb rfl) rfl ?_
  refine p_iload_n d_Mo_back_0 rfl ?_
  refine q_S1 d_Mo_back_1 ml_Mo_137 sb_Mo_isTwo ⟨leb rfl, leb rfl⟩ (c_isTwo Γ S0 I J x) rfl rfl rfl ?_
  refine p_ifneB (tgt := 10) d_Mo_back_4 (by decide) (fun h4 => ?_) (fun h4 => ?_)
  · exact absurd h4 hb
  · refine p_ldc d_Mo_back_7 kc_Mo_51 ?_
    refine p_iret d_Mo_back_9 rfl rfl ?_
    exact ⟨rfl, rfl, rfl, rfl⟩
end
section
/-! ===== the reference's questions ===== -/
def scQ (r0 : Option Value) (I : MemI) (J : MemJ) : PQ := fun r S' I' J' => r = r0 ∧ S' = S0 ∧ J' = J ∧ ∀ x, x ≠ 61 → x ≠ 62 → x ≠ 63 → I' x = I x
theorem it_low {n : Nat} {t : Nat → Int32} (y : Nat) (h1 : y < 28 ∨ 34 < y ∧ y ≠ 38) : ∀ q, n ≤ 6 → itS n t q y = t y
  | 0, _ => rfl
  | q + 1, hn => by
    show singT n _ y = _
    rw [singT_off (by omega) (by omega) (by omega)]
    exact it_low y h1 q hn
theorem okT_c {n : Nat} {t t' : Nat → Int32} (h : okT n t) (h1 : ∀ k, k < n → t' (10 + k) = t (10 + k) ∧ t' (16 + k) = t (16 + k)) (h2 : t' 34 = t 34) : okT n t' := by
  obtain ⟨a, b, c⟩ := h
  refine ⟨a, fun k hk => ?_, by rw [h2]; exact c⟩
  have e : nrT n t' k = nrT n t k := by unfold nrT; rw [(h1 k hk).2]
  rw [e, (h1 k hk).1]
  exact b k hk
theorem upd_ne {f : Nat → Int32} {k y : Nat} {x : Int32} (h : y ≠ k) : upd f k x y = f y := by simp [upd, h]
theorem upd_s {f : Nat → Int32} {k : Nat} {x : Int32} : upd f k x k = x := by simp [upd]
theorem okT_upd {n : Nat} {t : Nat → Int32} {y : Nat} {v : Int32} (h : okT n t) (hy : y = 1 ∨ 34 < y) : okT n (upd t y v) := by
  have hn := h.1
  refine okT_c h (fun k hk => ⟨upd_ne (by omega), upd_ne (by omega)⟩) (upd_ne (by omega))
theorem m_asNow' (Γ : Cx) (I1 I : MemI) (J : MemJ) (h : I1 54 = I 54) : Ct Γ M_Mo_asNow [.ref 53] S0 I1 J (r1Q none 62 (I 54) I1 J) := h ▸ m_asNow Γ I1 J
theorem nI_m1 : ∀ k, k < 6 → ¬ nI k = -1 := by decide +kernel
theorem nI_m2 : ∀ k, k < 6 → ¬ nI k = -2 := by decide +kernel
theorem isP_m1 : ∀ n, n ≤ 6 → ¬ ((0 : Int32) ≤ -1 ∧ (-1 : Int32) < nI n) := by decide +kernel
theorem isP_m2 : ∀ n, n ≤ 6 → ¬ ((0 : Int32) ≤ -2 ∧ (-2 : Int32) < nI n) := by decide +kernel
theorem i60 : ∀ q, q ≤ 60 → (0 : Int32) ≤ nI q ∧ nI q ≤ 60 := by decide +kernel
theorem i30 : ∀ q, 1 ≤ q → q ≤ 30 → (1 : Int32) ≤ nI q ∧ nI q ≤ 30 := by
  intro q h1 h2
  rw [show (1 : Int32) = nI 1 from rfl, show (30 : Int32) = nI 30 from rfl]
  exact ⟨nI_le h1 (by omega), nI_le h2 (by omega)⟩
theorem m_behind_p (Γ : Cx) (I : MemI) (J : MemJ) (n : Nat) (hn : n ≤ 6) (h0 : I 54 0 = nI n) (hok : okT n (I 54)) (q : Nat) (hq : q ≤ 60) (k : Nat) (hk : k < n) : Ct Γ M_Mo_behind [.ref 53, .int (nI q), .int (nI k)] S0 I J (scQ (some (.int (itS n (I 54) q (28 + k)))) I J) := by
  refine ct_of [.ref 53, .int (nI q), .int (nI k)] (by decide +kernel) rfl (leb rfl) rfl ?_
  refine p_iload_n d_Mo_behind_0 rfl ?_
  refine p_i2l d_Mo_behind_1 ?_
  refine p_lc_0 d_Mo_behind_2 ?_
  refine p_ldc2 d_Mo_behind_3 kl_Mo_146 ?_
  refine q_S1 d_Mo_behind_6 ml_Mo_45 sb_Mo_in ⟨leb rfl, leb rfl⟩ (c_in Γ _ _ _ (nI q) 0 60 (by decide) (by decide)) rfl rfl rfl ?_
  refine p_ifeqB (tgt := 31) d_Mo_behind_9 (by decide) (fun h9 => ?_) (fun h9 => ?_)
  · exact absurd (i60 q hq) h9
  · refine p_aload_n d_Mo_behind_12 rfl ?_
    refine p_iload_n d_Mo_behind_13 rfl ?_
    refine q_V1 d_Mo_behind_14 ml_Mo_102 vb_Mo_isPew kd_53 ⟨leb rfl, leb rfl⟩ (m_isPew Γ I J n (nI k) hn h0) rfl rfl rfl ?_
    refine p_ifneB (tgt := 34) d_Mo_behind_17 (by decide) (fun h17 => ?_) (fun h17 => ?_)
    · refine p_aload_n d_Mo_behind_34 rfl ?_
      refine q_V d_Mo_behind_35 ml_Mo_148 vb_Mo_asNow kd_53 ⟨leb rfl, leb rfl⟩ (m_asNow' Γ I I J (rfl)) rfl rfl rfl (fun r S1 IA J1 hQ => ?_)
      obtain ⟨rfl, rfl, hJ, a1, a2⟩ := hQ
      obtain rfl := hJ.symm
      refine p_aload_n d_Mo_behind_38 rfl ?_
      refine p_iload_n d_Mo_behind_39 rfl ?_
      refine q_V d_Mo_behind_40 ml_Mo_151 vb_Mo_go kd_53 ⟨leb rfl, leb rfl⟩ (m_go Γ _ J n (q) (by omega) (by rw [a1]; exact h0) (by rw [a1]; exact hok)) rfl rfl rfl (fun r S1 IG J1 hQ => ?_)
      obtain ⟨rfl, rfl, hJ, g1, g2⟩ := hQ
      obtain rfl := hJ.symm
      refine p_iload_n d_Mo_behind_43 rfl ?_
      refine p_ic_m1 d_Mo_behind_44 ?_
      refine p_icmpne (tgt := 58) d_Mo_behind_45 (by decide) (fun h45 => ?_) (fun h45 => ?_)
      · refine p_iload_n d_Mo_behind_58 rfl ?_
        refine p_bi_m2 d_Mo_behind_59 ?_
        refine p_icmpne (tgt := 74) d_Mo_behind_61 (by decide) (fun h61 => ?_) (fun h61 => ?_)
        · refine p_aload_n d_Mo_behind_74 rfl ?_
          refine p_getR d_Mo_behind_75 fl_Mo_35 kd_53 rfl rf_53_15 ?_
          refine p_bi_28 d_Mo_behind_78 ?_
          refine p_iload_n d_Mo_behind_80 rfl ?_
          refine p_iaddN (28) (k) d_Mo_behind_81 rfl rfl ?_
          refine p_ialdN (28 + k) d_Mo_behind_82 ar_62 rfl (by omega) rfl ?_
          refine p_iret d_Mo_behind_83 rfl rfl ?_
          exact ⟨by rw [g1, a1], rfl, rfl, fun x q1 q2 q3 => by rw [g2 x q1 q2, a2 x q2]⟩
        · exact absurd h61 (nI_m2 k (by omega))
      · exact absurd h45 (nI_m1 k (by omega))
    · exact absurd (isP_nI hn hk) h17
theorem m_behind_1 (Γ : Cx) (I : MemI) (J : MemJ) (n : Nat) (hn : n ≤ 6) (h0 : I 54 0 = nI n) (hok : okT n (I 54)) (q : Nat) (hq : q ≤ 60) : Ct Γ M_Mo_behind [.ref 53, .int (nI q), .int (-1)] S0 I J (scQ (some (.int (itS n (I 54) q 34))) I J) := by
  refine ct_of [.ref 53, .int (nI q), .int (-1)] (by decide +kernel) rfl (leb rfl) rfl ?_
  refine p_iload_n d_Mo_behind_0 rfl ?_
  refine p_i2l d_Mo_behind_1 ?_
  refine p_lc_0 d_Mo_behind_2 ?_
  refine p_ldc2 d_Mo_behind_3 kl_Mo_146 ?_
  refine q_S1 d_Mo_behind_6 ml_Mo_45 sb_Mo_in ⟨leb rfl, leb rfl⟩ (c_in Γ _ _ _ (nI q) 0 60 (by decide) (by decide)) rfl rfl rfl ?_
  refine p_ifeqB (tgt := 31) d_Mo_behind_9 (by decide) (fun h9 => ?_) (fun h9 => ?_)
  · exact absurd (i60 q hq) h9
  · refine p_aload_n d_Mo_behind_12 rfl ?_
    refine p_iload_n d_Mo_behind_13 rfl ?_
    refine q_V1 d_Mo_behind_14 ml_Mo_102 vb_Mo_isPew kd_53 ⟨leb rfl, leb rfl⟩ (m_isPew Γ I J n (-1) hn h0) rfl rfl rfl ?_
    refine p_ifneB (tgt := 34) d_Mo_behind_17 (by decide) (fun h17 => ?_) (fun h17 => ?_)
    · exact absurd h17 (isP_m1 n hn)
    · refine p_iload_n d_Mo_behind_20 rfl ?_
      refine p_ic_m1 d_Mo_behind_21 ?_
      refine p_icmpeq (tgt := 34) d_Mo_behind_22 (by decide) (fun h22 => ?_) (fun h22 => ?_)
      · refine p_aload_n d_Mo_behind_34 rfl ?_
        refine q_V d_Mo_behind_35 ml_Mo_148 vb_Mo_asNow kd_53 ⟨leb rfl, leb rfl⟩ (m_asNow' Γ I I J (rfl)) rfl rfl rfl (fun r S1 IA J1 hQ => ?_)
        obtain ⟨rfl, rfl, hJ, a1, a2⟩ := hQ
        obtain rfl := hJ.symm
        refine p_aload_n d_Mo_behind_38 rfl ?_
        refine p_iload_n d_Mo_behind_39 rfl ?_
        refine q_V d_Mo_behind_40 ml_Mo_151 vb_Mo_go kd_53 ⟨leb rfl, leb rfl⟩ (m_go Γ _ J n (q) (by omega) (by rw [a1]; exact h0) (by rw [a1]; exact hok)) rfl rfl rfl (fun r S1 IG J1 hQ => ?_)
        obtain ⟨rfl, rfl, hJ, g1, g2⟩ := hQ
        obtain rfl := hJ.symm
        refine p_iload_n d_Mo_behind_43 rfl ?_
        refine p_ic_m1 d_Mo_behind_44 ?_
        refine p_icmpne (tgt := 58) d_Mo_behind_45 (by decide) (fun h45 => ?_) (fun h45 => ?_)
        · exact absurd rfl h45
        · refine p_aload_n d_Mo_behind_48 rfl ?_
          refine p_getR d_Mo_behind_49 fl_Mo_35 kd_53 rfl rf_53_15 ?_
          refine p_bi_34 d_Mo_behind_52 ?_
          refine p_ialdN (34) d_Mo_behind_54 ar_62 rfl (by omega) rfl ?_
          refine p_goto (tgt := 83) d_Mo_behind_55 (by decide) ?_
          refine p_iret d_Mo_behind_83 rfl rfl ?_
          exact ⟨by rw [g1, a1], rfl, rfl, fun x q1 q2 q3 => by rw [g2 x q1 q2, a2 x q2]⟩
      · exact absurd rfl h22
theorem m_behind_2 (Γ : Cx) (I : MemI) (J : MemJ) (n : Nat) (hn : n ≤ 6) (h0 : I 54 0 = nI n) (hok : okT n (I 54)) (q : Nat) (hq : q ≤ 60) : Ct Γ M_Mo_behind [.ref 53, .int (nI q), .int (-2)] S0 I J (scQ (some (.int (apT n (itS n (I 54) q)))) I J) := by
  refine ct_of [.ref 53, .int (nI q), .int (-2)] (by decide +kernel) rfl (leb rfl) rfl ?_
  refine p_iload_n d_Mo_behind_0 rfl ?_
  refine p_i2l d_Mo_behind_1 ?_
  refine p_lc_0 d_Mo_behind_2 ?_
  refine p_ldc2 d_Mo_behind_3 kl_Mo_146 ?_
  refine q_S1 d_Mo_behind_6 ml_Mo_45 sb_Mo_in ⟨leb rfl, leb rfl⟩ (c_in Γ _ _ _ (nI q) 0 60 (by decide) (by decide)) rfl rfl rfl ?_
  refine p_ifeqB (tgt := 31) d_Mo_behind_9 (by decide) (fun h9 => ?_) (fun h9 => ?_)
  · exact absurd (i60 q hq) h9
  · refine p_aload_n d_Mo_behind_12 rfl ?_
    refine p_iload_n d_Mo_behind_13 rfl ?_
    refine q_V1 d_Mo_behind_14 ml_Mo_102 vb_Mo_isPew kd_53 ⟨leb rfl, leb rfl⟩ (m_isPew Γ I J n (-2) hn h0) rfl rfl rfl ?_
    refine p_ifneB (tgt := 34) d_Mo_behind_17 (by decide) (fun h17 => ?_) (fun h17 => ?_)
    · exact absurd h17 (isP_m2 n hn)
    · refine p_iload_n d_Mo_behind_20 rfl ?_
      refine p_ic_m1 d_Mo_behind_21 ?_
      refine p_icmpeq (tgt := 34) d_Mo_behind_22 (by decide) (fun h22 => ?_) (fun h22 => ?_)
      · exact absurd h22 (by decide)
      · refine p_iload_n d_Mo_behind_25 rfl ?_
        refine p_bi_m2 d_Mo_behind_26 ?_
        refine p_icmpeq (tgt := 34) d_Mo_behind_28 (by decide) (fun h28 => ?_) (fun h28 => ?_)
        · refine p_aload_n d_Mo_behind_34 rfl ?_
          refine q_V d_Mo_behind_35 ml_Mo_148 vb_Mo_asNow kd_53 ⟨leb rfl, leb rfl⟩ (m_asNow' Γ I I J (rfl)) rfl rfl rfl (fun r S1 IA J1 hQ => ?_)
          obtain ⟨rfl, rfl, hJ, a1, a2⟩ := hQ
          obtain rfl := hJ.symm
          refine p_aload_n d_Mo_behind_38 rfl ?_
          refine p_iload_n d_Mo_behind_39 rfl ?_
          refine q_V d_Mo_behind_40 ml_Mo_151 vb_Mo_go kd_53 ⟨leb rfl, leb rfl⟩ (m_go Γ _ J n (q) (by omega) (by rw [a1]; exact h0) (by rw [a1]; exact hok)) rfl rfl rfl (fun r S1 IG J1 hQ => ?_)
          obtain ⟨rfl, rfl, hJ, g1, g2⟩ := hQ
          obtain rfl := hJ.symm
          refine p_iload_n d_Mo_behind_43 rfl ?_
          refine p_ic_m1 d_Mo_behind_44 ?_
          refine p_icmpne (tgt := 58) d_Mo_behind_45 (by decide) (fun h45 => ?_) (fun h45 => ?_)
          · refine p_iload_n d_Mo_behind_58 rfl ?_
            refine p_bi_m2 d_Mo_behind_59 ?_
            refine p_icmpne (tgt := 74) d_Mo_behind_61 (by decide) (fun h61 => ?_) (fun h61 => ?_)
            · exact absurd rfl h61
            · refine p_aload_n d_Mo_behind_64 rfl ?_
              refine p_getR d_Mo_behind_65 fl_Mo_35 kd_53 rfl rf_53_15 ?_
              refine q_S1 d_Mo_behind_68 ml_Mo_108 sb_Mo_apart ⟨leb rfl, leb rfl⟩ (m_apart Γ _ J 62 n ar_62 hn (by rw [g1, a1, it_low 0 (by omega) q hn]; exact h0)) rfl rfl rfl ?_
              refine p_goto (tgt := 83) d_Mo_behind_71 (by decide) ?_
              refine p_iret d_Mo_behind_83 rfl rfl ?_
              exact ⟨by rw [g1, a1], rfl, rfl, fun x q1 q2 q3 => by rw [g2 x q1 q2, a2 x q2]⟩
          · exact absurd h45 (by decide)
        · exact absurd rfl h28
theorem m_behind_bad (Γ : Cx) (I : MemI) (J : MemJ) (n : Nat) (hn : n ≤ 6) (h0 : I 54 0 = nI n) (x y : Int32) (hb : ¬ ((0 ≤ x ∧ x ≤ 60) ∧ ((0 ≤ y ∧ y < nI n) ∨ y = -1 ∨ y = -2))) : Ct Γ M_Mo_behind [.ref 53, .int x, .int y] S0 I J (eqQ (some (.int (-1000001))) S0 I J) := by
  refine ct_of [.ref 53, .int x, .int y] (by decide +kernel) rfl (leb rfl) rfl ?_
  refine p_iload_n d_Mo_behind_0 rfl ?_
  refine p_i2l d_Mo_behind_1 ?_
  refine p_lc_0 d_Mo_behind_2 ?_
  refine p_ldc2 d_Mo_behind_3 kl_Mo_146 ?_
  refine q_S1 d_Mo_behind_6 ml_Mo_45 sb_Mo_in ⟨leb rfl, leb rfl⟩ (c_in Γ _ _ _ x 0 60 (by decide) (by decide)) rfl rfl rfl ?_
  refine p_ifeqB (tgt := 31) d_Mo_behind_9 (by decide) (fun h9 => ?_) (fun h9 => ?_)
  · refine p_ldc d_Mo_behind_31 kc_Mo_51 ?_
    refine p_iret d_Mo_behind_33 rfl rfl ?_
    exact ⟨rfl, rfl, rfl, rfl⟩
  · refine p_aload_n d_Mo_behind_12 rfl ?_
    refine p_iload_n d_Mo_behind_13 rfl ?_
    refine q_V1 d_Mo_behind_14 ml_Mo_102 vb_Mo_isPew kd_53 ⟨leb rfl, leb rfl⟩ (m_isPew Γ I J n y hn h0) rfl rfl rfl ?_
    refine p_ifneB (tgt := 34) d_Mo_behind_17 (by decide) (fun h17 => ?_) (fun h17 => ?_)
    · exact absurd ⟨h9, Or.inl h17⟩ hb
    · refine p_iload_n d_Mo_behind_20 rfl ?_
      refine p_ic_m1 d_Mo_behind_21 ?_
      refine p_icmpeq (tgt := 34) d_Mo_behind_22 (by decide) (fun h22 => ?_) (fun h22 => ?_)
      · exact absurd ⟨h9, Or.inr (Or.inl h22)⟩ hb
      · refine p_iload_n d_Mo_behind_25 rfl ?_
        refine p_bi_m2 d_Mo_behind_26 ?_
        refine p_icmpeq (tgt := 34) d_Mo_behind_28 (by decide) (fun h28 => ?_) (fun h28 => ?_)
        · exact absurd ⟨h9, Or.inr (Or.inr h28)⟩ hb
        · refine p_ldc d_Mo_behind_31 kc_Mo_51 ?_
          refine p_iret d_Mo_behind_33 rfl rfl ?_
          exact ⟨rfl, rfl, rfl, rfl⟩
def aslF (n : Nat) (p : Int32) : Nat → (Nat → Int32) → Nat → Int32
  | 0, _, _ => (-1000009)
  | f + 1, t, j => if p ≤ t 34 then nI j else aslF n p f (singT n t) (j + 1)
theorem i60' {k : Nat} : nI 60 < nI k ↔ True ∧ nI 60 < nI k := by simp
theorem m_asleep (Γ : Cx) (I : MemI) (J : MemJ) (n : Nat) (hn : n ≤ 6) (h0 : I 54 0 = nI n) (hok : okT n (I 54)) (p : Int32) (hp : 1 ≤ p ∧ p ≤ 9999) : Ct Γ M_Mo_asleep [.ref 53, .int p] S0 I J (scQ (some (.int (aslF n p 61 (I 54) 0))) I J) := by
  have LP : ∀ (f j : Nat) (I1 : MemI) (t : Nat → Int32), j + f = 61 → I1 62 = t → t 0 = nI n → okT n t → (∀ x, x ≠ 61 → x ≠ 62 → x ≠ 63 → I1 x = I x) → aslF n p 61 (I 54) 0 = aslF n p f t j → WP Γ M_Mo_asleep (0, 0) S0 I1 J 21 [.ref 53, .int p, .int (nI j)] [] (scQ (some (.int (aslF n p 61 (I 54) 0))) I J) := by
    intro f
    induction f with
    | zero =>
      intro j I1 t hjf h62 ht0 hokt hx hF
      obtain rfl : j = 61 := by omega
      refine p_iload_n d_Mo_asleep_21 rfl ?_
      refine p_bi_60 d_Mo_asleep_22 ?_
      refine p_icmpgtN (tgt := 51) (61) (60) d_Mo_asleep_24 (by decide) rfl rfl (by omega) (by omega) (fun h24 => ?_) (fun h24 => ?_)
      · refine p_ldc d_Mo_asleep_51 kc_Mo_107 ?_
        refine p_iret d_Mo_asleep_53 rfl rfl ?_
        exact ⟨by rw [hF]; rfl, rfl, rfl, hx⟩
      · exact absurd (by omega) h24
    | succ f ih =>
      intro j I1 t hjf h62 ht0 hokt hx hF
      refine p_iload_n d_Mo_asleep_21 rfl ?_
      refine p_bi_60 d_Mo_asleep_22 ?_
      refine p_icmpgtN (tgt := 51) (j) (60) d_Mo_asleep_24 (by decide) rfl rfl (by omega) (by omega) (fun h24 => ?_) (fun h24 => ?_)
      · exact absurd h24 (by omega)
      · refine p_aload_n d_Mo_asleep_27 rfl ?_
        refine p_getR d_Mo_asleep_28 fl_Mo_35 kd_53 rfl rf_53_15 ?_
        refine p_bi_34 d_Mo_asleep_31 ?_
        refine p_ialdN (34) d_Mo_asleep_33 ar_62 rfl (by omega) rfl ?_
        refine p_iload_n d_Mo_asleep_34 rfl ?_
        refine p_icmplt (tgt := 40) d_Mo_asleep_35 (by decide) (fun h35 => ?_) (fun h35 => ?_)
        · refine p_aload_n d_Mo_asleep_40 rfl ?_
          refine p_ic_1 d_Mo_asleep_41 ?_
          refine q_V d_Mo_asleep_42 ml_Mo_151 vb_Mo_go kd_53 ⟨leb rfl, leb rfl⟩ (m_go Γ _ J n (1) (by omega) (by rw [h62]; exact ht0) (by rw [h62]; exact hokt)) rfl rfl rfl (fun r S1 IG J1 hQ => ?_)
          obtain ⟨rfl, rfl, hJ, g1, g2⟩ := hQ
          obtain rfl := hJ.symm
          refine p_incN_2_1 d_Mo_asleep_45 (by decide) rfl ?_
          refine p_goto (tgt := 21) d_Mo_asleep_48 (by decide) ?_
          rw [h62] at h35
          refine ih (j + 1) _ (singT n t) (by omega) (by rw [g1, h62]; rfl) (by rw [singT_off (by omega) (by omega) (by omega)]; exact ht0) hokt.sing (fun x q1 q2 q3 => by rw [g2 x q1 q2, hx x q1 q2 q3]) ?_
          rw [hF]
          show (if p ≤ t 34 then nI j else aslF n p f (singT n t) (j + 1)) = _
          rw [if_neg (i32_nle.mpr h35)]
        · refine p_iload_n d_Mo_asleep_38 rfl ?_
          refine p_iret d_Mo_asleep_39 rfl rfl ?_
          refine ⟨?_, rfl, rfl, hx⟩
          rw [hF]
          rw [h62] at h35
          unfold aslF
          rw [if_pos (i32_nlt.mp h35)]
  refine ct_of [.ref 53, .int p, .null] (by decide +kernel) rfl (leb rfl) rfl ?_
  refine p_iload_n d_Mo_asleep_0 rfl ?_
  refine p_i2l d_Mo_asleep_1 ?_
  refine p_lc_1 d_Mo_asleep_2 ?_
  refine p_ldc2 d_Mo_asleep_3 kl_Mo_155 ?_
  refine q_S1 d_Mo_asleep_6 ml_Mo_45 sb_Mo_in ⟨leb rfl, leb rfl⟩ (c_in Γ _ _ _ p 1 9999 (by decide) (by decide)) rfl rfl rfl ?_
  refine p_ifneB (tgt := 15) d_Mo_asleep_9 (by decide) (fun h9 => ?_) (fun h9 => ?_)
  · refine p_aload_n d_Mo_asleep_15 rfl ?_
    refine q_V d_Mo_asleep_16 ml_Mo_148 vb_Mo_asNow kd_53 ⟨leb rfl, leb rfl⟩ (m_asNow' Γ I I J (rfl)) rfl rfl rfl (fun r S1 IA J1 hQ => ?_)
    obtain ⟨rfl, rfl, hJ, a1, a2⟩ := hQ
    obtain rfl := hJ.symm
    refine p_ic_0 d_Mo_asleep_19 ?_
    refine p_is_2 d_Mo_asleep_20 (by decide) rfl ?_
    exact LP 61 0 IA (I 54) (by omega) a1 h0 hok (fun x q1 q2 q3 => a2 x q2) rfl
  · exact absurd hp h9
theorem m_asleep_bad (Γ : Cx) (I : MemI) (J : MemJ) (p : Int32) (hb : ¬ (1 ≤ p ∧ p ≤ 9999)) : Ct Γ M_Mo_asleep [.ref 53, .int p] S0 I J (eqQ (some (.int (-1000001))) S0 I J) := by
  refine ct_of [.ref 53, .int p, .null] (by decide +kernel) rfl (leb rfl) rfl ?_
  refine p_iload_n d_Mo_asleep_0 rfl ?_
  refine p_i2l d_Mo_asleep_1 ?_
  refine p_lc_1 d_Mo_asleep_2 ?_
  refine p_ldc2 d_Mo_asleep_3 kl_Mo_155 ?_
  refine q_S1 d_Mo_asleep_6 ml_Mo_45 sb_Mo_in ⟨leb rfl, leb rfl⟩ (c_in Γ _ _ _ p 1 9999 (by decide) (by decide)) rfl rfl rfl ?_
  refine p_ifneB (tgt := 15) d_Mo_asleep_9 (by decide) (fun h9 => ?_) (fun h9 => ?_)
  · exact absurd h9 hb
  · refine p_ldc d_Mo_asleep_12 kc_Mo_51 ?_
    refine p_iret d_Mo_asleep_14 rfl rfl ?_
    exact ⟨rfl, rfl, rfl, rfl⟩
def rstF (n : Nat) : Nat → (Nat → Int32) → Nat → Int32
  | 0, _, _ => (-1000009)
  | f + 1, t, j => if ∀ k, k < n → t (28 + k) = singT n t (28 + k) then nI j else rstF n f (singT n t) (j + 1)
theorem m_rest (Γ : Cx) (I : MemI) (J : MemJ) (n : Nat) (hn : n ≤ 6) (h0 : I 54 0 = nI n) (hok : okT n (I 54)) : Ct Γ M_Mo_rest [.ref 53] S0 I J (scQ (some (.int (rstF n 61 (I 54) 0))) I J) := by
  have LP : ∀ (f j : Nat) (I1 : MemI) (t : Nat → Int32) (v w : Value), v.category = 1 → w.category = 1 → j + f = 61 → I1 62 = t → t 0 = nI n → okT n t → (∀ x, x ≠ 61 → x ≠ 62 → x ≠ 63 → I1 x = I x) → rstF n 61 (I 54) 0 = rstF n f t j → WP Γ M_Mo_rest (0, 0) S0 I1 J 6 [.ref 53, .int (nI j), v, w] [] (scQ (some (.int (rstF n 61 (I 54) 0))) I J) := by
    intro f
    induction f with
    | zero =>
      intro j I1 t v w hv hw hjf h62 ht0 hokt hx hF
      obtain rfl : j = 61 := by omega
      refine p_iload_n d_Mo_rest_6 rfl ?_
      refine p_bi_60 d_Mo_rest_7 ?_
      refine p_icmpgtN (tgt := 106) (61) (60) d_Mo_rest_9 (by decide) rfl rfl (by omega) (by omega) (fun h9 => ?_) (fun h9 => ?_)
      · refine p_ldc d_Mo_rest_106 kc_Mo_107 ?_
        refine p_iret d_Mo_rest_108 rfl rfl ?_
        exact ⟨by rw [hF]; rfl, rfl, rfl, hx⟩
      · exact absurd (by omega) h9
    | succ f ih =>
      intro j I1 t v w hv hw hjf h62 ht0 hokt hx hF
      have C50 : ∀ (e k : Nat) (b : Int32) (I2 : MemI), k + e = n → I2 62 = singT n t → (∀ i, i < 6 → I2 63 i = t (28 + i)) → (∀ x, x ≠ 61 → x ≠ 62 → x ≠ 63 → I2 x = I x) → b = bI (∀ i, i < k → t (28 + i) = singT n t (28 + i)) → WP Γ M_Mo_rest (0, 0) S0 I2 J 50 [.ref 53, .int (nI j), .int b, .int (nI k)] [] (scQ (some (.int (rstF n 61 (I 54) 0))) I J) := by
        intro e
        induction e with
        | zero =>
          intro k b I2 hke e62 e63 ex eb
          obtain rfl : k = n := by omega
          refine p_iload_n d_Mo_rest_50 rfl ?_
          refine p_aload_n d_Mo_rest_51 rfl ?_
          refine p_getR d_Mo_rest_52 fl_Mo_7 kd_53 rfl rf_53_0 ?_
          refine p_ic_0 d_Mo_rest_55 ?_
          refine p_ialdN (0) d_Mo_rest_56 ar_54 rfl (by omega) rfl ?_
          refine p_eqI (y := nI k) (by rw [ex 54 (by decide) (by decide) (by decide)]; exact h0) ?_
          refine p_icmpgeN (tgt := 94) (k) (k) d_Mo_rest_57 (by decide) rfl rfl (by omega) (by omega) (fun h57 => ?_) (fun h57 => ?_)
          · refine p_iload_n d_Mo_rest_94 rfl ?_
            refine p_ifeq (tgt := 100) d_Mo_rest_95 (by decide) (fun h95 => ?_) (fun h95 => ?_)
            · refine p_incN_1_1 d_Mo_rest_100 (by decide) rfl ?_
              refine p_goto (tgt := 6) d_Mo_rest_103 (by decide) ?_
              refine ih (j + 1) _ (singT k t) _ _ rfl rfl (by omega) e62 (by rw [singT_off (by omega) (by omega) (by omega)]; exact ht0) hokt.sing ex ?_
              rw [hF]
              have g : ¬ (∀ i, i < k → t (28 + i) = singT k t (28 + i)) := by
                intro q
                rw [eb] at h95
                unfold bI at h95
                have q2 : ∀ i, i < k → t (28 + i) = singT k t (28 + i) := q
                rw [if_pos q2] at h95
                exact absurd h95 (by decide)
              show (if ∀ i, i < k → t (28 + i) = singT k t (28 + i) then nI j else rstF k f (singT k t) (j + 1)) = _
              rw [if_neg g]
            · refine p_iload_n d_Mo_rest_98 rfl ?_
              refine p_iret d_Mo_rest_99 rfl rfl ?_
              refine ⟨?_, rfl, rfl, ex⟩
              rw [hF]
              have g : (∀ i, i < k → t (28 + i) = singT k t (28 + i)) := by
                rcases Classical.em (∀ i, i < k → t (28 + i) = singT k t (28 + i)) with q | q
                · exact q
                · exact absurd (by rw [eb]; unfold bI; rw [if_neg q]) h95
              unfold rstF
              rw [if_pos g]
          · exact absurd (Nat.le_refl _) h57
        | succ e ihe =>
          intro k b I2 hke e62 e63 ex eb
          have J87 : ∀ b2 : Int32, b2 = bI (∀ i, i < k + 1 → t (28 + i) = singT n t (28 + i)) → WP Γ M_Mo_rest (0, 0) S0 I2 J 87 [.ref 53, .int (nI j), .int b, .int (nI k)] [.int b2] (scQ (some (.int (rstF n 61 (I 54) 0))) I J) := by
            intro b2 eb2
            refine p_is_2 d_Mo_rest_87 (by decide) rfl ?_
            refine p_incN_3_1 d_Mo_rest_88 (by decide) rfl ?_
            refine p_goto (tgt := 50) d_Mo_rest_91 (by decide) ?_
            exact ihe (k + 1) b2 I2 (by omega) e62 e63 ex eb2
          have K1 : b = 0 → ¬ (∀ i, i < k + 1 → t (28 + i) = singT n t (28 + i)) := by
            intro h q
            rw [eb, bI_t (fun i hi => q i (by omega))] at h
            exact absurd h (by decide)
          have K2 : ¬ t (28 + k) = singT n t (28 + k) → ¬ (∀ i, i < k + 1 → t (28 + i) = singT n t (28 + i)) := fun h q => h (q k (by omega))
          have K3 : ¬ b = 0 → t (28 + k) = singT n t (28 + k) → ∀ i, i < k + 1 → t (28 + i) = singT n t (28 + i) := by
            intro h h2 i hi
            rcases Classical.em (∀ i, i < k → t (28 + i) = singT n t (28 + i)) with z | z
            · rcases Nat.lt_or_ge i k with q | q
              · exact z i q
              · rw [show i = k by omega]
                exact h2
            · exact absurd (by rw [eb, bI_f z]) h
          refine p_iload_n d_Mo_rest_50 rfl ?_
          refine p_aload_n d_Mo_rest_51 rfl ?_
          refine p_getR d_Mo_rest_52 fl_Mo_7 kd_53 rfl rf_53_0 ?_
          refine p_ic_0 d_Mo_rest_55 ?_
          refine p_ialdN (0) d_Mo_rest_56 ar_54 rfl (by omega) rfl ?_
          refine p_eqI (y := nI n) (by rw [ex 54 (by decide) (by decide) (by decide)]; exact h0) ?_
          refine p_icmpgeN (tgt := 94) (k) (n) d_Mo_rest_57 (by decide) rfl rfl (by omega) (by omega) (fun h57 => ?_) (fun h57 => ?_)
          · exact absurd h57 (by omega)
          · refine p_iload_n d_Mo_rest_60 rfl ?_
            refine p_ifeq (tgt := 86) d_Mo_rest_61 (by decide) (fun h61 => ?_) (fun h61 => ?_)
            · refine p_ic_0 d_Mo_rest_86 ?_
              first | exact J87 _ (bI_f (K1 h61)).symm | (rw [e63 k (by omega), e62] at h79; exact J87 _ (bI_f (K2 h79)).symm) | (rw [e63 k (by omega), e62] at h79; exact J87 _ (bI_t (K3 h61 h79)).symm)
            · refine p_aload_n d_Mo_rest_64 rfl ?_
              refine p_getR d_Mo_rest_65 fl_Mo_38 kd_53 rfl rf_53_16 ?_
              refine p_iload_n d_Mo_rest_68 rfl ?_
              refine p_ialdN (k) d_Mo_rest_69 ar_63 rfl (by omega) rfl ?_
              refine p_aload_n d_Mo_rest_70 rfl ?_
              refine p_getR d_Mo_rest_71 fl_Mo_35 kd_53 rfl rf_53_15 ?_
              refine p_bi_28 d_Mo_rest_74 ?_
              refine p_iload_n d_Mo_rest_76 rfl ?_
              refine p_iaddN (28) (k) d_Mo_rest_77 rfl rfl ?_
              refine p_ialdN (28 + k) d_Mo_rest_78 ar_62 rfl (by omega) rfl ?_
              refine p_icmpne (tgt := 86) d_Mo_rest_79 (by decide) (fun h79 => ?_) (fun h79 => ?_)
              · refine p_ic_0 d_Mo_rest_86 ?_
                first | exact J87 _ (bI_f (K1 h61)).symm | (rw [e63 k (by omega), e62] at h79; exact J87 _ (bI_f (K2 h79)).symm) | (rw [e63 k (by omega), e62] at h79; exact J87 _ (bI_t (K3 h61 h79)).symm)
              · refine p_ic_1 d_Mo_rest_82 ?_
                refine p_goto (tgt := 87) d_Mo_rest_83 (by decide) ?_
                first | exact J87 _ (bI_f (K1 h61)).symm | (rw [e63 k (by omega), e62] at h79; exact J87 _ (bI_f (K2 h79)).symm) | (rw [e63 k (by omega), e62] at h79; exact J87 _ (bI_t (K3 h61 h79)).symm)
      have C14 : ∀ (e k : Nat) (I2 : MemI), k + e = 6 → I2 62 = t → (∀ i, i < k → I2 63 i = t (28 + i)) → (∀ x, x ≠ 61 → x ≠ 62 → x ≠ 63 → I2 x = I x) → WP Γ M_Mo_rest (0, 0) S0 I2 J 14 [.ref 53, .int (nI j), .int (nI k), w] [] (scQ (some (.int (rstF n 61 (I 54) 0))) I J) := by
        intro e
        induction e with
        | zero =>
          intro k I2 hke e62 e63 ex
          obtain rfl : k = 6 := by omega
          refine p_iload_n d_Mo_rest_14 rfl ?_
          refine p_bi_6 d_Mo_rest_15 ?_
          refine p_icmpgeN (tgt := 41) (6) (6) d_Mo_rest_17 (by decide) rfl rfl (by omega) (by omega) (fun h17 => ?_) (fun h17 => ?_)
          · refine p_aload_n d_Mo_rest_41 rfl ?_
            refine p_ic_1 d_Mo_rest_42 ?_
            refine q_V d_Mo_rest_43 ml_Mo_151 vb_Mo_go kd_53 ⟨leb rfl, leb rfl⟩ (m_go Γ _ J n (1) (by omega) (by rw [e62]; exact ht0) (by rw [e62]; exact hokt)) rfl rfl rfl (fun r S1 IG J1 hQ => ?_)
            obtain ⟨rfl, rfl, hJ, g1, g2⟩ := hQ
            obtain rfl := hJ.symm
            refine p_ic_1 d_Mo_rest_46 ?_
            refine p_is_2 d_Mo_rest_47 (by decide) rfl ?_
            refine p_ic_0 d_Mo_rest_48 ?_
            refine p_is_3 d_Mo_rest_49 (by decide) rfl ?_
            exact C50 n 0 1 IG (by omega) (by rw [g1, e62]; rfl) (fun i hi => by rw [g2 63 (by decide) (by decide)]; exact e63 i hi) (fun x q1 q2 q3 => by rw [g2 x q1 q2, ex x q1 q2 q3]) (by unfold bI; rw [if_pos (fun i hi => absurd hi (by omega))])
          · exact absurd (Nat.le_refl _) h17
        | succ e ihe =>
          intro k I2 hke e62 e63 ex
          refine p_iload_n d_Mo_rest_14 rfl ?_
          refine p_bi_6 d_Mo_rest_15 ?_
          refine p_icmpgeN (tgt := 41) (k) (6) d_Mo_rest_17 (by decide) rfl rfl (by omega) (by omega) (fun h17 => ?_) (fun h17 => ?_)
          · exact absurd h17 (by omega)
          · refine p_aload_n d_Mo_rest_20 rfl ?_
            refine p_getR d_Mo_rest_21 fl_Mo_38 kd_53 rfl rf_53_16 ?_
            refine p_iload_n d_Mo_rest_24 rfl ?_
            refine p_aload_n d_Mo_rest_25 rfl ?_
            refine p_getR d_Mo_rest_26 fl_Mo_35 kd_53 rfl rf_53_15 ?_
            refine p_bi_28 d_Mo_rest_29 ?_
            refine p_iload_n d_Mo_rest_31 rfl ?_
            refine p_iaddN (28) (k) d_Mo_rest_32 rfl rfl ?_
            refine p_ialdN (28 + k) d_Mo_rest_33 ar_62 rfl (by omega) rfl ?_
            refine p_iastN (k) d_Mo_rest_34 ar_63 rfl (by omega) rfl ?_
            refine p_incN_2_1 d_Mo_rest_35 (by decide) rfl ?_
            refine p_goto (tgt := 14) d_Mo_rest_38 (by decide) ?_
            refine ihe (k + 1) _ (by omega) (by funext y; simp only [up2]; rw [if_neg (by omega), e62]) (fun i hi => ?_) (fun x q1 q2 q3 => ?_)
            · simp only [up2, true_and]
              by_cases q : i = k
              · subst q
                rw [if_pos rfl, e62]
              · rw [if_neg q, e63 i (by omega)]
            · funext y
              simp only [up2]
              rw [if_neg (fun z => q3 z.1), ex x q1 q2 q3]
      refine p_iload_n d_Mo_rest_6 rfl ?_
      refine p_bi_60 d_Mo_rest_7 ?_
      refine p_icmpgtN (tgt := 106) (j) (60) d_Mo_rest_9 (by decide) rfl rfl (by omega) (by omega) (fun h9 => ?_) (fun h9 => ?_)
      · exact absurd h9 (by omega)
      · refine p_ic_0 d_Mo_rest_12 ?_
        refine p_is_2 d_Mo_rest_13 (by decide) rfl ?_
        exact C14 6 0 I1 (by omega) h62 (fun i hi => absurd hi (by omega)) hx
  refine ct_of [.ref 53, .null, .null, .null] (by decide +kernel) rfl (leb rfl) rfl ?_
  refine p_aload_n d_Mo_rest_0 rfl ?_
  refine q_V d_Mo_rest_1 ml_Mo_148 vb_Mo_asNow kd_53 ⟨leb rfl, leb rfl⟩ (m_asNow' Γ I I J (rfl)) rfl rfl rfl (fun r S1 IA J1 hQ => ?_)
  obtain ⟨rfl, rfl, hJ, a1, a2⟩ := hQ
  obtain rfl := hJ.symm
  refine p_ic_0 d_Mo_rest_4 ?_
  refine p_is_1 d_Mo_rest_5 (by decide) rfl ?_
  exact LP 61 0 IA (I 54) _ _ rfl rfl (by omega) a1 h0 hok (fun x q1 q2 q3 => a2 x q2) rfl
end
