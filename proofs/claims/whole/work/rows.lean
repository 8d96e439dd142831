section
-- ===== PART A: goes FIRST, ahead of the names: the tables' words, and 'selects' of the private methods out of them =====
/-- a private method of a class that the tables say can be made, by its rows of tables_1 -/
def lw_okq (q : MethodName × Nat) : Prop := (q.1.cls ≠ "java/lang/invoke/MethodHandle" ∧ q.1.cls ≠ "java/lang/invoke/VarHandle") ∧ Cond.instantiable q.1.cls q.2 ∈ tables_1 ∧ Cond.privateMethod q.1 ∈ tables_1 ∧ Cond.instanceMethod q.1 ∈ tables_1
theorem lw_p0 : lw_okq (⟨"PhasorTree$Hub", "begin", "(III)V"⟩, 9) := ⟨⟨by decide +kernel, by decide +kernel⟩, List.mem_of_getElem? (i := 134) (by decide +kernel), List.mem_of_getElem? (i := 204) (by decide +kernel), List.mem_of_getElem? (i := 205) (by decide +kernel)⟩
theorem lw_p1 : lw_okq (⟨"PhasorTree$Tree", "joinError", "(IIZ)I"⟩, 12) := ⟨⟨by decide +kernel, by decide +kernel⟩, List.mem_of_getElem? (i := 60) (by decide +kernel), List.mem_of_getElem? (i := 274) (by decide +kernel), List.mem_of_getElem? (i := 275) (by decide +kernel)⟩
theorem lw_p2 : lw_okq (⟨"PhasorTree$Tree", "hasHub", "(I)Z"⟩, 12) := ⟨⟨by decide +kernel, by decide +kernel⟩, List.mem_of_getElem? (i := 60) (by decide +kernel), List.mem_of_getElem? (i := 278) (by decide +kernel), List.mem_of_getElem? (i := 279) (by decide +kernel)⟩
theorem lw_p3 : lw_okq (⟨"PhasorTree", "remember", "()V"⟩, 5) := ⟨⟨by decide +kernel, by decide +kernel⟩, List.mem_of_getElem? (i := 14) (by decide +kernel), List.mem_of_getElem? (i := 294) (by decide +kernel), List.mem_of_getElem? (i := 295) (by decide +kernel)⟩
theorem lw_p4 : lw_okq (⟨"PhasorTree$Tree", "copyFrom", "(LPhasorTree$Tree;)V"⟩, 12) := ⟨⟨by decide +kernel, by decide +kernel⟩, List.mem_of_getElem? (i := 60) (by decide +kernel), List.mem_of_getElem? (i := 298) (by decide +kernel), List.mem_of_getElem? (i := 299) (by decide +kernel)⟩
theorem lw_p5 : lw_okq (⟨"PhasorTree$Row", "copyFrom", "(LPhasorTree$Row;)V"⟩, 2) := ⟨⟨by decide +kernel, by decide +kernel⟩, List.mem_of_getElem? (i := 70) (by decide +kernel), List.mem_of_getElem? (i := 302) (by decide +kernel), List.mem_of_getElem? (i := 303) (by decide +kernel)⟩
theorem lw_p6 : lw_okq (⟨"PhasorTree$Row", "insert", "(ILPhasorTree$Frame;)V"⟩, 2) := ⟨⟨by decide +kernel, by decide +kernel⟩, List.mem_of_getElem? (i := 70) (by decide +kernel), List.mem_of_getElem? (i := 306) (by decide +kernel), List.mem_of_getElem? (i := 307) (by decide +kernel)⟩
theorem lw_p7 : lw_okq (⟨"PhasorTree$Row", "grow", "()V"⟩, 2) := ⟨⟨by decide +kernel, by decide +kernel⟩, List.mem_of_getElem? (i := 70) (by decide +kernel), List.mem_of_getElem? (i := 310) (by decide +kernel), List.mem_of_getElem? (i := 311) (by decide +kernel)⟩
theorem lw_p8 : lw_okq (⟨"PhasorTree$Frame", "copyFrom", "(LPhasorTree$Frame;)V"⟩, 8) := ⟨⟨by decide +kernel, by decide +kernel⟩, List.mem_of_getElem? (i := 90) (by decide +kernel), List.mem_of_getElem? (i := 316) (by decide +kernel), List.mem_of_getElem? (i := 317) (by decide +kernel)⟩
theorem lw_p9 : lw_okq (⟨"PhasorTree$Hub", "copyFrom", "(LPhasorTree$Hub;)V"⟩, 9) := ⟨⟨by decide +kernel, by decide +kernel⟩, List.mem_of_getElem? (i := 134) (by decide +kernel), List.mem_of_getElem? (i := 323) (by decide +kernel), List.mem_of_getElem? (i := 324) (by decide +kernel)⟩
theorem lw_p10 : lw_okq (⟨"PhasorTree$Unit", "copyFrom", "(LPhasorTree$Unit;)V"⟩, 4) := ⟨⟨by decide +kernel, by decide +kernel⟩, List.mem_of_getElem? (i := 181) (by decide +kernel), List.mem_of_getElem? (i := 330) (by decide +kernel), List.mem_of_getElem? (i := 331) (by decide +kernel)⟩
theorem lw_p11 : lw_okq (⟨"PhasorTree$Tree", "outputsKept", "()I"⟩, 12) := ⟨⟨by decide +kernel, by decide +kernel⟩, List.mem_of_getElem? (i := 60) (by decide +kernel), List.mem_of_getElem? (i := 334) (by decide +kernel), List.mem_of_getElem? (i := 335) (by decide +kernel)⟩
theorem lw_p12 : lw_okq (⟨"PhasorTree$Tree", "addHub", "(II)I"⟩, 12) := ⟨⟨by decide +kernel, by decide +kernel⟩, List.mem_of_getElem? (i := 60) (by decide +kernel), List.mem_of_getElem? (i := 342) (by decide +kernel), List.mem_of_getElem? (i := 343) (by decide +kernel)⟩
theorem lw_p13 : lw_okq (⟨"PhasorTree$Tree", "addUnit", "(II)I"⟩, 12) := ⟨⟨by decide +kernel, by decide +kernel⟩, List.mem_of_getElem? (i := 60) (by decide +kernel), List.mem_of_getElem? (i := 350) (by decide +kernel), List.mem_of_getElem? (i := 351) (by decide +kernel)⟩
theorem lw_p14 : lw_okq (⟨"PhasorTree$Unit", "begin", "(II)V"⟩, 4) := ⟨⟨by decide +kernel, by decide +kernel⟩, List.mem_of_getElem? (i := 181) (by decide +kernel), List.mem_of_getElem? (i := 354) (by decide +kernel), List.mem_of_getElem? (i := 355) (by decide +kernel)⟩
theorem lw_p15 : lw_okq (⟨"PhasorTree$Tree", "retireError", "(I)I"⟩, 12) := ⟨⟨by decide +kernel, by decide +kernel⟩, List.mem_of_getElem? (i := 60) (by decide +kernel), List.mem_of_getElem? (i := 362) (by decide +kernel), List.mem_of_getElem? (i := 363) (by decide +kernel)⟩
def lw_privs_1 : List (MethodName × Nat) := [(⟨"PhasorTree$Hub", "begin", "(III)V"⟩, 9), (⟨"PhasorTree$Tree", "joinError", "(IIZ)I"⟩, 12), (⟨"PhasorTree$Tree", "hasHub", "(I)Z"⟩, 12), (⟨"PhasorTree", "remember", "()V"⟩, 5), (⟨"PhasorTree$Tree", "copyFrom", "(LPhasorTree$Tree;)V"⟩, 12), (⟨"PhasorTree$Row", "copyFrom", "(LPhasorTree$Row;)V"⟩, 2), (⟨"PhasorTree$Row", "insert", "(ILPhasorTree$Frame;)V"⟩, 2), (⟨"PhasorTree$Row", "grow", "()V"⟩, 2), (⟨"PhasorTree$Frame", "copyFrom", "(LPhasorTree$Frame;)V"⟩, 8), (⟨"PhasorTree$Hub", "copyFrom", "(LPhasorTree$Hub;)V"⟩, 9), (⟨"PhasorTree$Unit", "copyFrom", "(LPhasorTree$Unit;)V"⟩, 4), (⟨"PhasorTree$Tree", "outputsKept", "()I"⟩, 12), (⟨"PhasorTree$Tree", "addHub", "(II)I"⟩, 12), (⟨"PhasorTree$Tree", "addUnit", "(II)I"⟩, 12), (⟨"PhasorTree$Unit", "begin", "(II)V"⟩, 4), (⟨"PhasorTree$Tree", "retireError", "(I)I"⟩, 12)]
theorem lw_r1 : ∀ q ∈ lw_privs_1, lw_okq q := List.forall_mem_cons.mpr ⟨lw_p0, List.forall_mem_cons.mpr ⟨lw_p1, List.forall_mem_cons.mpr ⟨lw_p2, List.forall_mem_cons.mpr ⟨lw_p3, List.forall_mem_cons.mpr ⟨lw_p4, List.forall_mem_cons.mpr ⟨lw_p5, List.forall_mem_cons.mpr ⟨lw_p6, List.forall_mem_cons.mpr ⟨lw_p7, List.forall_mem_cons.mpr ⟨lw_p8, List.forall_mem_cons.mpr ⟨lw_p9, List.forall_mem_cons.mpr ⟨lw_p10, List.forall_mem_cons.mpr ⟨lw_p11, List.forall_mem_cons.mpr ⟨lw_p12, List.forall_mem_cons.mpr ⟨lw_p13, List.forall_mem_cons.mpr ⟨lw_p14, List.forall_mem_cons.mpr ⟨lw_p15, fun _ h => absurd h List.not_mem_nil⟩⟩⟩⟩⟩⟩⟩⟩⟩⟩⟩⟩⟩⟩⟩⟩
theorem lw_p16 : lw_okq (⟨"PhasorTree$Tree", "hasUnit", "(I)Z"⟩, 12) := ⟨⟨by decide +kernel, by decide +kernel⟩, List.mem_of_getElem? (i := 60) (by decide +kernel), List.mem_of_getElem? (i := 366) (by decide +kernel), List.mem_of_getElem? (i := 367) (by decide +kernel)⟩
theorem lw_p17 : lw_okq (⟨"PhasorTree$Tree", "retire", "(I)V"⟩, 12) := ⟨⟨by decide +kernel, by decide +kernel⟩, List.mem_of_getElem? (i := 60) (by decide +kernel), List.mem_of_getElem? (i := 370) (by decide +kernel), List.mem_of_getElem? (i := 371) (by decide +kernel)⟩
theorem lw_p18 : lw_okq (⟨"PhasorTree$Tree", "unitsLeft", "()I"⟩, 12) := ⟨⟨by decide +kernel, by decide +kernel⟩, List.mem_of_getElem? (i := 60) (by decide +kernel), List.mem_of_getElem? (i := 374) (by decide +kernel), List.mem_of_getElem? (i := 375) (by decide +kernel)⟩
theorem lw_p19 : lw_okq (⟨"PhasorTree$Tree", "unitsUnder", "(I)I"⟩, 12) := ⟨⟨by decide +kernel, by decide +kernel⟩, List.mem_of_getElem? (i := 60) (by decide +kernel), List.mem_of_getElem? (i := 378) (by decide +kernel), List.mem_of_getElem? (i := 379) (by decide +kernel)⟩
theorem lw_p20 : lw_okq (⟨"PhasorTree$Tree", "childToward", "(II)I"⟩, 12) := ⟨⟨by decide +kernel, by decide +kernel⟩, List.mem_of_getElem? (i := 60) (by decide +kernel), List.mem_of_getElem? (i := 382) (by decide +kernel), List.mem_of_getElem? (i := 383) (by decide +kernel)⟩
theorem lw_p21 : lw_okq (⟨"PhasorTree$Tree", "settingError", "(III)I"⟩, 12) := ⟨⟨by decide +kernel, by decide +kernel⟩, List.mem_of_getElem? (i := 60) (by decide +kernel), List.mem_of_getElem? (i := 390) (by decide +kernel), List.mem_of_getElem? (i := 391) (by decide +kernel)⟩
theorem lw_p22 : lw_okq (⟨"PhasorTree$Tree", "canHavePeriod", "(II)Z"⟩, 12) := ⟨⟨by decide +kernel, by decide +kernel⟩, List.mem_of_getElem? (i := 60) (by decide +kernel), List.mem_of_getElem? (i := 398) (by decide +kernel), List.mem_of_getElem? (i := 399) (by decide +kernel)⟩
theorem lw_p23 : lw_okq (⟨"PhasorTree$Hub", "isUntouched", "()Z"⟩, 9) := ⟨⟨by decide +kernel, by decide +kernel⟩, List.mem_of_getElem? (i := 134) (by decide +kernel), List.mem_of_getElem? (i := 402) (by decide +kernel), List.mem_of_getElem? (i := 403) (by decide +kernel)⟩
theorem lw_p24 : lw_okq (⟨"PhasorTree$Tree", "isChild", "(II)Z"⟩, 12) := ⟨⟨by decide +kernel, by decide +kernel⟩, List.mem_of_getElem? (i := 60) (by decide +kernel), List.mem_of_getElem? (i := 406) (by decide +kernel), List.mem_of_getElem? (i := 407) (by decide +kernel)⟩
theorem lw_p25 : lw_okq (⟨"PhasorTree$Tree", "periodOf", "(I)I"⟩, 12) := ⟨⟨by decide +kernel, by decide +kernel⟩, List.mem_of_getElem? (i := 60) (by decide +kernel), List.mem_of_getElem? (i := 410) (by decide +kernel), List.mem_of_getElem? (i := 411) (by decide +kernel)⟩
theorem lw_p26 : lw_okq (⟨"PhasorTree$Tree", "changeSetting", "(III)I"⟩, 12) := ⟨⟨by decide +kernel, by decide +kernel⟩, List.mem_of_getElem? (i := 60) (by decide +kernel), List.mem_of_getElem? (i := 414) (by decide +kernel), List.mem_of_getElem? (i := 415) (by decide +kernel)⟩
theorem lw_p27 : lw_okq (⟨"PhasorTree$Tree", "hubFact", "(II)I"⟩, 12) := ⟨⟨by decide +kernel, by decide +kernel⟩, List.mem_of_getElem? (i := 60) (by decide +kernel), List.mem_of_getElem? (i := 425) (by decide +kernel), List.mem_of_getElem? (i := 426) (by decide +kernel)⟩
theorem lw_p28 : lw_okq (⟨"PhasorTree$Tree", "childrenOf", "(I)I"⟩, 12) := ⟨⟨by decide +kernel, by decide +kernel⟩, List.mem_of_getElem? (i := 60) (by decide +kernel), List.mem_of_getElem? (i := 430) (by decide +kernel), List.mem_of_getElem? (i := 431) (by decide +kernel)⟩
theorem lw_p29 : lw_okq (⟨"PhasorTree$Row", "slots", "()I"⟩, 2) := ⟨⟨by decide +kernel, by decide +kernel⟩, List.mem_of_getElem? (i := 70) (by decide +kernel), List.mem_of_getElem? (i := 434) (by decide +kernel), List.mem_of_getElem? (i := 435) (by decide +kernel)⟩
theorem lw_p30 : lw_okq (⟨"PhasorTree$Row", "framesFrom", "(I)I"⟩, 2) := ⟨⟨by decide +kernel, by decide +kernel⟩, List.mem_of_getElem? (i := 70) (by decide +kernel), List.mem_of_getElem? (i := 438) (by decide +kernel), List.mem_of_getElem? (i := 439) (by decide +kernel)⟩
theorem lw_p31 : lw_okq (⟨"PhasorTree$Tree", "unitFact", "(II)I"⟩, 12) := ⟨⟨by decide +kernel, by decide +kernel⟩, List.mem_of_getElem? (i := 60) (by decide +kernel), List.mem_of_getElem? (i := 447) (by decide +kernel), List.mem_of_getElem? (i := 448) (by decide +kernel)⟩
def lw_privs_2 : List (MethodName × Nat) := [(⟨"PhasorTree$Tree", "hasUnit", "(I)Z"⟩, 12), (⟨"PhasorTree$Tree", "retire", "(I)V"⟩, 12), (⟨"PhasorTree$Tree", "unitsLeft", "()I"⟩, 12), (⟨"PhasorTree$Tree", "unitsUnder", "(I)I"⟩, 12), (⟨"PhasorTree$Tree", "childToward", "(II)I"⟩, 12), (⟨"PhasorTree$Tree", "settingError", "(III)I"⟩, 12), (⟨"PhasorTree$Tree", "canHavePeriod", "(II)Z"⟩, 12), (⟨"PhasorTree$Hub", "isUntouched", "()Z"⟩, 9), (⟨"PhasorTree$Tree", "isChild", "(II)Z"⟩, 12), (⟨"PhasorTree$Tree", "periodOf", "(I)I"⟩, 12), (⟨"PhasorTree$Tree", "changeSetting", "(III)I"⟩, 12), (⟨"PhasorTree$Tree", "hubFact", "(II)I"⟩, 12), (⟨"PhasorTree$Tree", "childrenOf", "(I)I"⟩, 12), (⟨"PhasorTree$Row", "slots", "()I"⟩, 2), (⟨"PhasorTree$Row", "framesFrom", "(I)I"⟩, 2), (⟨"PhasorTree$Tree", "unitFact", "(II)I"⟩, 12)]
theorem lw_r2 : ∀ q ∈ lw_privs_2, lw_okq q := List.forall_mem_cons.mpr ⟨lw_p16, List.forall_mem_cons.mpr ⟨lw_p17, List.forall_mem_cons.mpr ⟨lw_p18, List.forall_mem_cons.mpr ⟨lw_p19, List.forall_mem_cons.mpr ⟨lw_p20, List.forall_mem_cons.mpr ⟨lw_p21, List.forall_mem_cons.mpr ⟨lw_p22, List.forall_mem_cons.mpr ⟨lw_p23, List.forall_mem_cons.mpr ⟨lw_p24, List.forall_mem_cons.mpr ⟨lw_p25, List.forall_mem_cons.mpr ⟨lw_p26, List.forall_mem_cons.mpr ⟨lw_p27, List.forall_mem_cons.mpr ⟨lw_p28, List.forall_mem_cons.mpr ⟨lw_p29, List.forall_mem_cons.mpr ⟨lw_p30, List.forall_mem_cons.mpr ⟨lw_p31, fun _ h => absurd h List.not_mem_nil⟩⟩⟩⟩⟩⟩⟩⟩⟩⟩⟩⟩⟩⟩⟩⟩
theorem lw_p32 : lw_okq (⟨"PhasorTree$Tree", "delayToRoot", "(I)I"⟩, 12) := ⟨⟨by decide +kernel, by decide +kernel⟩, List.mem_of_getElem? (i := 60) (by decide +kernel), List.mem_of_getElem? (i := 451) (by decide +kernel), List.mem_of_getElem? (i := 452) (by decide +kernel)⟩
theorem lw_p33 : lw_okq (⟨"PhasorTree$Tree", "unitOfHub", "(II)I"⟩, 12) := ⟨⟨by decide +kernel, by decide +kernel⟩, List.mem_of_getElem? (i := 60) (by decide +kernel), List.mem_of_getElem? (i := 459) (by decide +kernel), List.mem_of_getElem? (i := 460) (by decide +kernel)⟩
theorem lw_p34 : lw_okq (⟨"PhasorTree$Tree", "departError", "(IIIII)I"⟩, 12) := ⟨⟨by decide +kernel, by decide +kernel⟩, List.mem_of_getElem? (i := 60) (by decide +kernel), List.mem_of_getElem? (i := 467) (by decide +kernel), List.mem_of_getElem? (i := 468) (by decide +kernel)⟩
theorem lw_p35 : lw_okq (⟨"PhasorTree$Tree", "depart", "(IIIII)V"⟩, 12) := ⟨⟨by decide +kernel, by decide +kernel⟩, List.mem_of_getElem? (i := 60) (by decide +kernel), List.mem_of_getElem? (i := 474) (by decide +kernel), List.mem_of_getElem? (i := 475) (by decide +kernel)⟩
theorem lw_p36 : lw_okq (⟨"PhasorTree$Frame", "begin", "(II)V"⟩, 8) := ⟨⟨by decide +kernel, by decide +kernel⟩, List.mem_of_getElem? (i := 90) (by decide +kernel), List.mem_of_getElem? (i := 478) (by decide +kernel), List.mem_of_getElem? (i := 479) (by decide +kernel)⟩
theorem lw_p37 : lw_okq (⟨"PhasorTree$Frame", "put", "(III)V"⟩, 8) := ⟨⟨by decide +kernel, by decide +kernel⟩, List.mem_of_getElem? (i := 90) (by decide +kernel), List.mem_of_getElem? (i := 482) (by decide +kernel), List.mem_of_getElem? (i := 483) (by decide +kernel)⟩
theorem lw_p38 : lw_okq (⟨"PhasorTree$Tree", "elapseError", "(I)I"⟩, 12) := ⟨⟨by decide +kernel, by decide +kernel⟩, List.mem_of_getElem? (i := 60) (by decide +kernel), List.mem_of_getElem? (i := 492) (by decide +kernel), List.mem_of_getElem? (i := 493) (by decide +kernel)⟩
theorem lw_p39 : lw_okq (⟨"PhasorTree$Tree", "elapse", "(I)V"⟩, 12) := ⟨⟨by decide +kernel, by decide +kernel⟩, List.mem_of_getElem? (i := 60) (by decide +kernel), List.mem_of_getElem? (i := 496) (by decide +kernel), List.mem_of_getElem? (i := 497) (by decide +kernel)⟩
theorem lw_p40 : lw_okq (⟨"PhasorTree$Tree", "bringDueFrames", "()V"⟩, 12) := ⟨⟨by decide +kernel, by decide +kernel⟩, List.mem_of_getElem? (i := 60) (by decide +kernel), List.mem_of_getElem? (i := 500) (by decide +kernel), List.mem_of_getElem? (i := 501) (by decide +kernel)⟩
theorem lw_p41 : lw_okq (⟨"PhasorTree$Tree", "arrive", "(LPhasorTree$Frame;)V"⟩, 12) := ⟨⟨by decide +kernel, by decide +kernel⟩, List.mem_of_getElem? (i := 60) (by decide +kernel), List.mem_of_getElem? (i := 504) (by decide +kernel), List.mem_of_getElem? (i := 505) (by decide +kernel)⟩
theorem lw_p42 : lw_okq (⟨"PhasorTree$Hub", "slotFor", "(II)I"⟩, 9) := ⟨⟨by decide +kernel, by decide +kernel⟩, List.mem_of_getElem? (i := 134) (by decide +kernel), List.mem_of_getElem? (i := 508) (by decide +kernel), List.mem_of_getElem? (i := 509) (by decide +kernel)⟩
theorem lw_p43 : lw_okq (⟨"PhasorTree$Row", "hasIn", "(ILPhasorTree$Frame;)Z"⟩, 2) := ⟨⟨by decide +kernel, by decide +kernel⟩, List.mem_of_getElem? (i := 70) (by decide +kernel), List.mem_of_getElem? (i := 515) (by decide +kernel), List.mem_of_getElem? (i := 516) (by decide +kernel)⟩
theorem lw_p44 : lw_okq (⟨"PhasorTree$Row", "placeFor", "(I)I"⟩, 2) := ⟨⟨by decide +kernel, by decide +kernel⟩, List.mem_of_getElem? (i := 70) (by decide +kernel), List.mem_of_getElem? (i := 519) (by decide +kernel), List.mem_of_getElem? (i := 520) (by decide +kernel)⟩
theorem lw_p45 : lw_okq (⟨"PhasorTree$Row", "swap", "(II)V"⟩, 2) := ⟨⟨by decide +kernel, by decide +kernel⟩, List.mem_of_getElem? (i := 70) (by decide +kernel), List.mem_of_getElem? (i := 523) (by decide +kernel), List.mem_of_getElem? (i := 524) (by decide +kernel)⟩
theorem lw_p46 : lw_okq (⟨"PhasorTree$Tree", "releaseReadySlots", "(I)V"⟩, 12) := ⟨⟨by decide +kernel, by decide +kernel⟩, List.mem_of_getElem? (i := 60) (by decide +kernel), List.mem_of_getElem? (i := 527) (by decide +kernel), List.mem_of_getElem? (i := 528) (by decide +kernel)⟩
theorem lw_p47 : lw_okq (⟨"PhasorTree$Tree", "isFirstSlotReady", "(I)Z"⟩, 12) := ⟨⟨by decide +kernel, by decide +kernel⟩, List.mem_of_getElem? (i := 60) (by decide +kernel), List.mem_of_getElem? (i := 531) (by decide +kernel), List.mem_of_getElem? (i := 532) (by decide +kernel)⟩
def lw_privs_3 : List (MethodName × Nat) := [(⟨"PhasorTree$Tree", "delayToRoot", "(I)I"⟩, 12), (⟨"PhasorTree$Tree", "unitOfHub", "(II)I"⟩, 12), (⟨"PhasorTree$Tree", "departError", "(IIIII)I"⟩, 12), (⟨"PhasorTree$Tree", "depart", "(IIIII)V"⟩, 12), (⟨"PhasorTree$Frame", "begin", "(II)V"⟩, 8), (⟨"PhasorTree$Frame", "put", "(III)V"⟩, 8), (⟨"PhasorTree$Tree", "elapseError", "(I)I"⟩, 12), (⟨"PhasorTree$Tree", "elapse", "(I)V"⟩, 12), (⟨"PhasorTree$Tree", "bringDueFrames", "()V"⟩, 12), (⟨"PhasorTree$Tree", "arrive", "(LPhasorTree$Frame;)V"⟩, 12), (⟨"PhasorTree$Hub", "slotFor", "(II)I"⟩, 9), (⟨"PhasorTree$Row", "hasIn", "(ILPhasorTree$Frame;)Z"⟩, 2), (⟨"PhasorTree$Row", "placeFor", "(I)I"⟩, 2), (⟨"PhasorTree$Row", "swap", "(II)V"⟩, 2), (⟨"PhasorTree$Tree", "releaseReadySlots", "(I)V"⟩, 12), (⟨"PhasorTree$Tree", "isFirstSlotReady", "(I)Z"⟩, 12)]
theorem lw_r3 : ∀ q ∈ lw_privs_3, lw_okq q := List.forall_mem_cons.mpr ⟨lw_p32, List.forall_mem_cons.mpr ⟨lw_p33, List.forall_mem_cons.mpr ⟨lw_p34, List.forall_mem_cons.mpr ⟨lw_p35, List.forall_mem_cons.mpr ⟨lw_p36, List.forall_mem_cons.mpr ⟨lw_p37, List.forall_mem_cons.mpr ⟨lw_p38, List.forall_mem_cons.mpr ⟨lw_p39, List.forall_mem_cons.mpr ⟨lw_p40, List.forall_mem_cons.mpr ⟨lw_p41, List.forall_mem_cons.mpr ⟨lw_p42, List.forall_mem_cons.mpr ⟨lw_p43, List.forall_mem_cons.mpr ⟨lw_p44, List.forall_mem_cons.mpr ⟨lw_p45, List.forall_mem_cons.mpr ⟨lw_p46, List.forall_mem_cons.mpr ⟨lw_p47, fun _ h => absurd h List.not_mem_nil⟩⟩⟩⟩⟩⟩⟩⟩⟩⟩⟩⟩⟩⟩⟩⟩
theorem lw_p48 : lw_okq (⟨"PhasorTree$Hub", "waitLeft", "(II)I"⟩, 9) := ⟨⟨by decide +kernel, by decide +kernel⟩, List.mem_of_getElem? (i := 134) (by decide +kernel), List.mem_of_getElem? (i := 535) (by decide +kernel), List.mem_of_getElem? (i := 536) (by decide +kernel)⟩
theorem lw_p49 : lw_okq (⟨"PhasorTree$Row", "slotEnd", "(I)I"⟩, 2) := ⟨⟨by decide +kernel, by decide +kernel⟩, List.mem_of_getElem? (i := 70) (by decide +kernel), List.mem_of_getElem? (i := 542) (by decide +kernel), List.mem_of_getElem? (i := 543) (by decide +kernel)⟩
theorem lw_p50 : lw_okq (⟨"PhasorTree$Tree", "isComplete", "(III)Z"⟩, 12) := ⟨⟨by decide +kernel, by decide +kernel⟩, List.mem_of_getElem? (i := 60) (by decide +kernel), List.mem_of_getElem? (i := 546) (by decide +kernel), List.mem_of_getElem? (i := 547) (by decide +kernel)⟩
theorem lw_p51 : lw_okq (⟨"PhasorTree$Tree", "expectedOf", "(III)I"⟩, 12) := ⟨⟨by decide +kernel, by decide +kernel⟩, List.mem_of_getElem? (i := 60) (by decide +kernel), List.mem_of_getElem? (i := 551) (by decide +kernel), List.mem_of_getElem? (i := 552) (by decide +kernel)⟩
theorem lw_p52 : lw_okq (⟨"PhasorTree$Tree", "build", "(I)V"⟩, 12) := ⟨⟨by decide +kernel, by decide +kernel⟩, List.mem_of_getElem? (i := 60) (by decide +kernel), List.mem_of_getElem? (i := 556) (by decide +kernel), List.mem_of_getElem? (i := 557) (by decide +kernel)⟩
theorem lw_p53 : lw_okq (⟨"PhasorTree$Tree", "takeHeld", "(ILPhasorTree$Frame;)V"⟩, 12) := ⟨⟨by decide +kernel, by decide +kernel⟩, List.mem_of_getElem? (i := 60) (by decide +kernel), List.mem_of_getElem? (i := 560) (by decide +kernel), List.mem_of_getElem? (i := 561) (by decide +kernel)⟩
theorem lw_p54 : lw_okq (⟨"PhasorTree$Frame", "has", "(I)Z"⟩, 8) := ⟨⟨by decide +kernel, by decide +kernel⟩, List.mem_of_getElem? (i := 90) (by decide +kernel), List.mem_of_getElem? (i := 564) (by decide +kernel), List.mem_of_getElem? (i := 565) (by decide +kernel)⟩
theorem lw_p55 : lw_okq (⟨"PhasorTree$Tree", "takeFiltered", "(III)V"⟩, 12) := ⟨⟨by decide +kernel, by decide +kernel⟩, List.mem_of_getElem? (i := 60) (by decide +kernel), List.mem_of_getElem? (i := 568) (by decide +kernel), List.mem_of_getElem? (i := 569) (by decide +kernel)⟩
theorem lw_p56 : lw_okq (⟨"PhasorTree$Tree", "hasValidReading", "(IILPhasorTree$Row;I)Z"⟩, 12) := ⟨⟨by decide +kernel, by decide +kernel⟩, List.mem_of_getElem? (i := 60) (by decide +kernel), List.mem_of_getElem? (i := 572) (by decide +kernel), List.mem_of_getElem? (i := 573) (by decide +kernel)⟩
theorem lw_p57 : lw_okq (⟨"PhasorTree$Tree", "insertSorted", "(II)V"⟩, 12) := ⟨⟨by decide +kernel, by decide +kernel⟩, List.mem_of_getElem? (i := 60) (by decide +kernel), List.mem_of_getElem? (i := 576) (by decide +kernel), List.mem_of_getElem? (i := 577) (by decide +kernel)⟩
theorem lw_p58 : lw_okq (⟨"PhasorTree$Tree", "takeStamped", "(IILPhasorTree$Row;)V"⟩, 12) := ⟨⟨by decide +kernel, by decide +kernel⟩, List.mem_of_getElem? (i := 60) (by decide +kernel), List.mem_of_getElem? (i := 580) (by decide +kernel), List.mem_of_getElem? (i := 581) (by decide +kernel)⟩
theorem lw_p59 : lw_okq (⟨"PhasorTree$Row", "removeFirst", "(I)V"⟩, 2) := ⟨⟨by decide +kernel, by decide +kernel⟩, List.mem_of_getElem? (i := 70) (by decide +kernel), List.mem_of_getElem? (i := 584) (by decide +kernel), List.mem_of_getElem? (i := 585) (by decide +kernel)⟩
theorem lw_p60 : lw_okq (⟨"PhasorTree$Tree", "putOut", "()V"⟩, 12) := ⟨⟨by decide +kernel, by decide +kernel⟩, List.mem_of_getElem? (i := 60) (by decide +kernel), List.mem_of_getElem? (i := 589) (by decide +kernel), List.mem_of_getElem? (i := 590) (by decide +kernel)⟩
theorem lw_p61 : lw_okq (⟨"PhasorTree$Tree", "slotFact", "(III)I"⟩, 12) := ⟨⟨by decide +kernel, by decide +kernel⟩, List.mem_of_getElem? (i := 60) (by decide +kernel), List.mem_of_getElem? (i := 598) (by decide +kernel), List.mem_of_getElem? (i := 599) (by decide +kernel)⟩
theorem lw_p62 : lw_okq (⟨"PhasorTree$Row", "slotStart", "(I)I"⟩, 2) := ⟨⟨by decide +kernel, by decide +kernel⟩, List.mem_of_getElem? (i := 70) (by decide +kernel), List.mem_of_getElem? (i := 602) (by decide +kernel), List.mem_of_getElem? (i := 603) (by decide +kernel)⟩
theorem lw_p63 : lw_okq (⟨"PhasorTree$Tree", "expectedOfAll", "(II)I"⟩, 12) := ⟨⟨by decide +kernel, by decide +kernel⟩, List.mem_of_getElem? (i := 60) (by decide +kernel), List.mem_of_getElem? (i := 607) (by decide +kernel), List.mem_of_getElem? (i := 608) (by decide +kernel)⟩
def lw_privs_4 : List (MethodName × Nat) := [(⟨"PhasorTree$Hub", "waitLeft", "(II)I"⟩, 9), (⟨"PhasorTree$Row", "slotEnd", "(I)I"⟩, 2), (⟨"PhasorTree$Tree", "isComplete", "(III)Z"⟩, 12), (⟨"PhasorTree$Tree", "expectedOf", "(III)I"⟩, 12), (⟨"PhasorTree$Tree", "build", "(I)V"⟩, 12), (⟨"PhasorTree$Tree", "takeHeld", "(ILPhasorTree$Frame;)V"⟩, 12), (⟨"PhasorTree$Frame", "has", "(I)Z"⟩, 8), (⟨"PhasorTree$Tree", "takeFiltered", "(III)V"⟩, 12), (⟨"PhasorTree$Tree", "hasValidReading", "(IILPhasorTree$Row;I)Z"⟩, 12), (⟨"PhasorTree$Tree", "insertSorted", "(II)V"⟩, 12), (⟨"PhasorTree$Tree", "takeStamped", "(IILPhasorTree$Row;)V"⟩, 12), (⟨"PhasorTree$Row", "removeFirst", "(I)V"⟩, 2), (⟨"PhasorTree$Tree", "putOut", "()V"⟩, 12), (⟨"PhasorTree$Tree", "slotFact", "(III)I"⟩, 12), (⟨"PhasorTree$Row", "slotStart", "(I)I"⟩, 2), (⟨"PhasorTree$Tree", "expectedOfAll", "(II)I"⟩, 12)]
theorem lw_r4 : ∀ q ∈ lw_privs_4, lw_okq q := List.forall_mem_cons.mpr ⟨lw_p48, List.forall_mem_cons.mpr ⟨lw_p49, List.forall_mem_cons.mpr ⟨lw_p50, List.forall_mem_cons.mpr ⟨lw_p51, List.forall_mem_cons.mpr ⟨lw_p52, List.forall_mem_cons.mpr ⟨lw_p53, List.forall_mem_cons.mpr ⟨lw_p54, List.forall_mem_cons.mpr ⟨lw_p55, List.forall_mem_cons.mpr ⟨lw_p56, List.forall_mem_cons.mpr ⟨lw_p57, List.forall_mem_cons.mpr ⟨lw_p58, List.forall_mem_cons.mpr ⟨lw_p59, List.forall_mem_cons.mpr ⟨lw_p60, List.forall_mem_cons.mpr ⟨lw_p61, List.forall_mem_cons.mpr ⟨lw_p62, List.forall_mem_cons.mpr ⟨lw_p63, fun _ h => absurd h List.not_mem_nil⟩⟩⟩⟩⟩⟩⟩⟩⟩⟩⟩⟩⟩⟩⟩⟩
theorem lw_p64 : lw_okq (⟨"PhasorTree$Tree", "outputFact", "(II)I"⟩, 12) := ⟨⟨by decide +kernel, by decide +kernel⟩, List.mem_of_getElem? (i := 60) (by decide +kernel), List.mem_of_getElem? (i := 615) (by decide +kernel), List.mem_of_getElem? (i := 616) (by decide +kernel)⟩
theorem lw_p65 : lw_okq (⟨"PhasorTree$Tree", "output", "(I)LPhasorTree$Frame;"⟩, 12) := ⟨⟨by decide +kernel, by decide +kernel⟩, List.mem_of_getElem? (i := 60) (by decide +kernel), List.mem_of_getElem? (i := 619) (by decide +kernel), List.mem_of_getElem? (i := 620) (by decide +kernel)⟩
theorem lw_p66 : lw_okq (⟨"PhasorTree$Frame", "flagsTogether", "()I"⟩, 8) := ⟨⟨by decide +kernel, by decide +kernel⟩, List.mem_of_getElem? (i := 90) (by decide +kernel), List.mem_of_getElem? (i := 623) (by decide +kernel), List.mem_of_getElem? (i := 624) (by decide +kernel)⟩
theorem lw_p67 : lw_okq (⟨"PhasorTree$Frame", "readingFact", "(II)I"⟩, 8) := ⟨⟨by decide +kernel, by decide +kernel⟩, List.mem_of_getElem? (i := 90) (by decide +kernel), List.mem_of_getElem? (i := 640) (by decide +kernel), List.mem_of_getElem? (i := 641) (by decide +kernel)⟩
theorem lw_p68 : lw_okq (⟨"PhasorTree$Tree", "total", "(I)I"⟩, 12) := ⟨⟨by decide +kernel, by decide +kernel⟩, List.mem_of_getElem? (i := 60) (by decide +kernel), List.mem_of_getElem? (i := 661) (by decide +kernel), List.mem_of_getElem? (i := 662) (by decide +kernel)⟩
theorem lw_p69 : lw_okq (⟨"PhasorTree$Tree", "lateOfAll", "()I"⟩, 12) := ⟨⟨by decide +kernel, by decide +kernel⟩, List.mem_of_getElem? (i := 60) (by decide +kernel), List.mem_of_getElem? (i := 666) (by decide +kernel), List.mem_of_getElem? (i := 667) (by decide +kernel)⟩
theorem lw_p70 : lw_okq (⟨"PhasorTree$Tree", "doublesOfAll", "()I"⟩, 12) := ⟨⟨by decide +kernel, by decide +kernel⟩, List.mem_of_getElem? (i := 60) (by decide +kernel), List.mem_of_getElem? (i := 670) (by decide +kernel), List.mem_of_getElem? (i := 671) (by decide +kernel)⟩
theorem lw_p71 : lw_okq (⟨"PhasorTree$Orders", "append", "(C)Z"⟩, 8) := ⟨⟨by decide +kernel, by decide +kernel⟩, List.mem_of_getElem? (i := 24) (by decide +kernel), List.mem_of_getElem? (i := 683) (by decide +kernel), List.mem_of_getElem? (i := 684) (by decide +kernel)⟩
theorem lw_p72 : lw_okq (⟨"PhasorTree$Orders", "perform", "(LPhasorTree$Tree;LPhasorTree$Tree;)V"⟩, 8) := ⟨⟨by decide +kernel, by decide +kernel⟩, List.mem_of_getElem? (i := 24) (by decide +kernel), List.mem_of_getElem? (i := 696) (by decide +kernel), List.mem_of_getElem? (i := 697) (by decide +kernel)⟩
theorem lw_p73 : lw_okq (⟨"PhasorTree$Orders", "reasonAgainst", "(LPhasorTree$Tree;)I"⟩, 8) := ⟨⟨by decide +kernel, by decide +kernel⟩, List.mem_of_getElem? (i := 24) (by decide +kernel), List.mem_of_getElem? (i := 701) (by decide +kernel), List.mem_of_getElem? (i := 702) (by decide +kernel)⟩
theorem lw_p74 : lw_okq (⟨"PhasorTree$Orders", "readOrder", "()Z"⟩, 8) := ⟨⟨by decide +kernel, by decide +kernel⟩, List.mem_of_getElem? (i := 24) (by decide +kernel), List.mem_of_getElem? (i := 705) (by decide +kernel), List.mem_of_getElem? (i := 706) (by decide +kernel)⟩
theorem lw_p75 : lw_okq (⟨"PhasorTree$Orders", "readNumber", "(IC)Z"⟩, 8) := ⟨⟨by decide +kernel, by decide +kernel⟩, List.mem_of_getElem? (i := 24) (by decide +kernel), List.mem_of_getElem? (i := 709) (by decide +kernel), List.mem_of_getElem? (i := 710) (by decide +kernel)⟩
theorem lw_p76 : lw_okq (⟨"PhasorTree$Orders", "isAt", "(C)Z"⟩, 8) := ⟨⟨by decide +kernel, by decide +kernel⟩, List.mem_of_getElem? (i := 24) (by decide +kernel), List.mem_of_getElem? (i := 713) (by decide +kernel), List.mem_of_getElem? (i := 714) (by decide +kernel)⟩
theorem lw_p77 : lw_okq (⟨"PhasorTree$Orders", "orderError", "(LPhasorTree$Tree;)I"⟩, 8) := ⟨⟨by decide +kernel, by decide +kernel⟩, List.mem_of_getElem? (i := 24) (by decide +kernel), List.mem_of_getElem? (i := 719) (by decide +kernel), List.mem_of_getElem? (i := 720) (by decide +kernel)⟩
theorem lw_p78 : lw_okq (⟨"PhasorTreeModel", "isHub", "(I)Z"⟩, 14) := ⟨⟨by decide +kernel, by decide +kernel⟩, List.mem_of_getElem? (i := 733) (by decide +kernel), List.mem_of_getElem? (i := 787) (by decide +kernel), List.mem_of_getElem? (i := 788) (by decide +kernel)⟩
theorem lw_p79 : lw_okq (⟨"PhasorTreeModel", "of", "(II)I"⟩, 14) := ⟨⟨by decide +kernel, by decide +kernel⟩, List.mem_of_getElem? (i := 733) (by decide +kernel), List.mem_of_getElem? (i := 795) (by decide +kernel), List.mem_of_getElem? (i := 796) (by decide +kernel)⟩
def lw_privs_5 : List (MethodName × Nat) := [(⟨"PhasorTree$Tree", "outputFact", "(II)I"⟩, 12), (⟨"PhasorTree$Tree", "output", "(I)LPhasorTree$Frame;"⟩, 12), (⟨"PhasorTree$Frame", "flagsTogether", "()I"⟩, 8), (⟨"PhasorTree$Frame", "readingFact", "(II)I"⟩, 8), (⟨"PhasorTree$Tree", "total", "(I)I"⟩, 12), (⟨"PhasorTree$Tree", "lateOfAll", "()I"⟩, 12), (⟨"PhasorTree$Tree", "doublesOfAll", "()I"⟩, 12), (⟨"PhasorTree$Orders", "append", "(C)Z"⟩, 8), (⟨"PhasorTree$Orders", "perform", "(LPhasorTree$Tree;LPhasorTree$Tree;)V"⟩, 8), (⟨"PhasorTree$Orders", "reasonAgainst", "(LPhasorTree$Tree;)I"⟩, 8), (⟨"PhasorTree$Orders", "readOrder", "()Z"⟩, 8), (⟨"PhasorTree$Orders", "readNumber", "(IC)Z"⟩, 8), (⟨"PhasorTree$Orders", "isAt", "(C)Z"⟩, 8), (⟨"PhasorTree$Orders", "orderError", "(LPhasorTree$Tree;)I"⟩, 8), (⟨"PhasorTreeModel", "isHub", "(I)Z"⟩, 14), (⟨"PhasorTreeModel", "of", "(II)I"⟩, 14)]
theorem lw_r5 : ∀ q ∈ lw_privs_5, lw_okq q := List.forall_mem_cons.mpr ⟨lw_p64, List.forall_mem_cons.mpr ⟨lw_p65, List.forall_mem_cons.mpr ⟨lw_p66, List.forall_mem_cons.mpr ⟨lw_p67, List.forall_mem_cons.mpr ⟨lw_p68, List.forall_mem_cons.mpr ⟨lw_p69, List.forall_mem_cons.mpr ⟨lw_p70, List.forall_mem_cons.mpr ⟨lw_p71, List.forall_mem_cons.mpr ⟨lw_p72, List.forall_mem_cons.mpr ⟨lw_p73, List.forall_mem_cons.mpr ⟨lw_p74, List.forall_mem_cons.mpr ⟨lw_p75, List.forall_mem_cons.mpr ⟨lw_p76, List.forall_mem_cons.mpr ⟨lw_p77, List.forall_mem_cons.mpr ⟨lw_p78, List.forall_mem_cons.mpr ⟨lw_p79, fun _ h => absurd h List.not_mem_nil⟩⟩⟩⟩⟩⟩⟩⟩⟩⟩⟩⟩⟩⟩⟩⟩
theorem lw_p80 : lw_okq (⟨"PhasorTreeModel", "keeps", "()V"⟩, 14) := ⟨⟨by decide +kernel, by decide +kernel⟩, List.mem_of_getElem? (i := 733) (by decide +kernel), List.mem_of_getElem? (i := 804) (by decide +kernel), List.mem_of_getElem? (i := 805) (by decide +kernel)⟩
theorem lw_p81 : lw_okq (⟨"PhasorTreeModel", "acted", "(I)I"⟩, 14) := ⟨⟨by decide +kernel, by decide +kernel⟩, List.mem_of_getElem? (i := 733) (by decide +kernel), List.mem_of_getElem? (i := 808) (by decide +kernel), List.mem_of_getElem? (i := 809) (by decide +kernel)⟩
theorem lw_p82 : lw_okq (⟨"PhasorTreeModel", "takesOff", "(I)I"⟩, 14) := ⟨⟨by decide +kernel, by decide +kernel⟩, List.mem_of_getElem? (i := 733) (by decide +kernel), List.mem_of_getElem? (i := 821) (by decide +kernel), List.mem_of_getElem? (i := 822) (by decide +kernel)⟩
theorem lw_p83 : lw_okq (⟨"PhasorTreeModel", "isUnit", "(I)Z"⟩, 14) := ⟨⟨by decide +kernel, by decide +kernel⟩, List.mem_of_getElem? (i := 733) (by decide +kernel), List.mem_of_getElem? (i := 825) (by decide +kernel), List.mem_of_getElem? (i := 826) (by decide +kernel)⟩
theorem lw_p84 : lw_okq (⟨"PhasorTreeModel", "isOn", "(I)Z"⟩, 14) := ⟨⟨by decide +kernel, by decide +kernel⟩, List.mem_of_getElem? (i := 733) (by decide +kernel), List.mem_of_getElem? (i := 829) (by decide +kernel), List.mem_of_getElem? (i := 830) (by decide +kernel)⟩
theorem lw_p85 : lw_okq (⟨"PhasorTreeModel", "its", "(II)I"⟩, 14) := ⟨⟨by decide +kernel, by decide +kernel⟩, List.mem_of_getElem? (i := 733) (by decide +kernel), List.mem_of_getElem? (i := 833) (by decide +kernel), List.mem_of_getElem? (i := 834) (by decide +kernel)⟩
theorem lw_p86 : lw_okq (⟨"PhasorTreeModel", "on", "()I"⟩, 14) := ⟨⟨by decide +kernel, by decide +kernel⟩, List.mem_of_getElem? (i := 733) (by decide +kernel), List.mem_of_getElem? (i := 837) (by decide +kernel), List.mem_of_getElem? (i := 838) (by decide +kernel)⟩
theorem lw_p87 : lw_okq (⟨"PhasorTreeModel", "canHave", "(II)Z"⟩, 14) := ⟨⟨by decide +kernel, by decide +kernel⟩, List.mem_of_getElem? (i := 733) (by decide +kernel), List.mem_of_getElem? (i := 845) (by decide +kernel), List.mem_of_getElem? (i := 846) (by decide +kernel)⟩
theorem lw_p88 : lw_okq (⟨"PhasorTreeModel", "slots", "(I)I"⟩, 14) := ⟨⟨by decide +kernel, by decide +kernel⟩, List.mem_of_getElem? (i := 733) (by decide +kernel), List.mem_of_getElem? (i := 849) (by decide +kernel), List.mem_of_getElem? (i := 850) (by decide +kernel)⟩
theorem lw_p89 : lw_okq (⟨"PhasorTreeModel", "behind", "(II)I"⟩, 14) := ⟨⟨by decide +kernel, by decide +kernel⟩, List.mem_of_getElem? (i := 733) (by decide +kernel), List.mem_of_getElem? (i := 853) (by decide +kernel), List.mem_of_getElem? (i := 854) (by decide +kernel)⟩
theorem lw_p90 : lw_okq (⟨"PhasorTreeModel", "fr", "(II)I"⟩, 14) := ⟨⟨by decide +kernel, by decide +kernel⟩, List.mem_of_getElem? (i := 733) (by decide +kernel), List.mem_of_getElem? (i := 857) (by decide +kernel), List.mem_of_getElem? (i := 858) (by decide +kernel)⟩
theorem lw_p91 : lw_okq (⟨"PhasorTreeModel", "isChild", "(II)Z"⟩, 14) := ⟨⟨by decide +kernel, by decide +kernel⟩, List.mem_of_getElem? (i := 733) (by decide +kernel), List.mem_of_getElem? (i := 861) (by decide +kernel), List.mem_of_getElem? (i := 862) (by decide +kernel)⟩
theorem lw_p92 : lw_okq (⟨"PhasorTreeModel", "periodOf", "(I)I"⟩, 14) := ⟨⟨by decide +kernel, by decide +kernel⟩, List.mem_of_getElem? (i := 733) (by decide +kernel), List.mem_of_getElem? (i := 865) (by decide +kernel), List.mem_of_getElem? (i := 866) (by decide +kernel)⟩
theorem lw_p93 : lw_okq (⟨"PhasorTreeModel", "depth", "(I)I"⟩, 14) := ⟨⟨by decide +kernel, by decide +kernel⟩, List.mem_of_getElem? (i := 733) (by decide +kernel), List.mem_of_getElem? (i := 874) (by decide +kernel), List.mem_of_getElem? (i := 875) (by decide +kernel)⟩
theorem lw_p94 : lw_okq (⟨"PhasorTreeModel", "children", "(I)I"⟩, 14) := ⟨⟨by decide +kernel, by decide +kernel⟩, List.mem_of_getElem? (i := 733) (by decide +kernel), List.mem_of_getElem? (i := 878) (by decide +kernel), List.mem_of_getElem? (i := 879) (by decide +kernel)⟩
theorem lw_p95 : lw_okq (⟨"PhasorTreeModel", "unitsOf", "(I)I"⟩, 14) := ⟨⟨by decide +kernel, by decide +kernel⟩, List.mem_of_getElem? (i := 733) (by decide +kernel), List.mem_of_getElem? (i := 882) (by decide +kernel), List.mem_of_getElem? (i := 883) (by decide +kernel)⟩
def lw_privs_6 : List (MethodName × Nat) := [(⟨"PhasorTreeModel", "keeps", "()V"⟩, 14), (⟨"PhasorTreeModel", "acted", "(I)I"⟩, 14), (⟨"PhasorTreeModel", "takesOff", "(I)I"⟩, 14), (⟨"PhasorTreeModel", "isUnit", "(I)Z"⟩, 14), (⟨"PhasorTreeModel", "isOn", "(I)Z"⟩, 14), (⟨"PhasorTreeModel", "its", "(II)I"⟩, 14), (⟨"PhasorTreeModel", "on", "()I"⟩, 14), (⟨"PhasorTreeModel", "canHave", "(II)Z"⟩, 14), (⟨"PhasorTreeModel", "slots", "(I)I"⟩, 14), (⟨"PhasorTreeModel", "behind", "(II)I"⟩, 14), (⟨"PhasorTreeModel", "fr", "(II)I"⟩, 14), (⟨"PhasorTreeModel", "isChild", "(II)Z"⟩, 14), (⟨"PhasorTreeModel", "periodOf", "(I)I"⟩, 14), (⟨"PhasorTreeModel", "depth", "(I)I"⟩, 14), (⟨"PhasorTreeModel", "children", "(I)I"⟩, 14), (⟨"PhasorTreeModel", "unitsOf", "(I)I"⟩, 14)]
theorem lw_r6 : ∀ q ∈ lw_privs_6, lw_okq q := List.forall_mem_cons.mpr ⟨lw_p80, List.forall_mem_cons.mpr ⟨lw_p81, List.forall_mem_cons.mpr ⟨lw_p82, List.forall_mem_cons.mpr ⟨lw_p83, List.forall_mem_cons.mpr ⟨lw_p84, List.forall_mem_cons.mpr ⟨lw_p85, List.forall_mem_cons.mpr ⟨lw_p86, List.forall_mem_cons.mpr ⟨lw_p87, List.forall_mem_cons.mpr ⟨lw_p88, List.forall_mem_cons.mpr ⟨lw_p89, List.forall_mem_cons.mpr ⟨lw_p90, List.forall_mem_cons.mpr ⟨lw_p91, List.forall_mem_cons.mpr ⟨lw_p92, List.forall_mem_cons.mpr ⟨lw_p93, List.forall_mem_cons.mpr ⟨lw_p94, List.forall_mem_cons.mpr ⟨lw_p95, fun _ h => absurd h List.not_mem_nil⟩⟩⟩⟩⟩⟩⟩⟩⟩⟩⟩⟩⟩⟩⟩⟩
theorem lw_p96 : lw_okq (⟨"PhasorTreeModel", "isOf", "(II)Z"⟩, 14) := ⟨⟨by decide +kernel, by decide +kernel⟩, List.mem_of_getElem? (i := 733) (by decide +kernel), List.mem_of_getElem? (i := 886) (by decide +kernel), List.mem_of_getElem? (i := 887) (by decide +kernel)⟩
theorem lw_p97 : lw_okq (⟨"PhasorTreeModel", "through", "(II)I"⟩, 14) := ⟨⟨by decide +kernel, by decide +kernel⟩, List.mem_of_getElem? (i := 733) (by decide +kernel), List.mem_of_getElem? (i := 890) (by decide +kernel), List.mem_of_getElem? (i := 891) (by decide +kernel)⟩
theorem lw_p98 : lw_okq (⟨"PhasorTreeModel", "onWay", "(I)I"⟩, 14) := ⟨⟨by decide +kernel, by decide +kernel⟩, List.mem_of_getElem? (i := 733) (by decide +kernel), List.mem_of_getElem? (i := 894) (by decide +kernel), List.mem_of_getElem? (i := 895) (by decide +kernel)⟩
theorem lw_p99 : lw_okq (⟨"PhasorTreeModel", "sendsOne", "(IIIII)I"⟩, 14) := ⟨⟨by decide +kernel, by decide +kernel⟩, List.mem_of_getElem? (i := 733) (by decide +kernel), List.mem_of_getElem? (i := 910) (by decide +kernel), List.mem_of_getElem? (i := 911) (by decide +kernel)⟩
theorem lw_p100 : lw_okq (⟨"PhasorTreeModel", "allOnWay", "()I"⟩, 14) := ⟨⟨by decide +kernel, by decide +kernel⟩, List.mem_of_getElem? (i := 733) (by decide +kernel), List.mem_of_getElem? (i := 916) (by decide +kernel), List.mem_of_getElem? (i := 917) (by decide +kernel)⟩
theorem lw_p101 : lw_okq (⟨"PhasorTreeModel", "free", "()I"⟩, 14) := ⟨⟨by decide +kernel, by decide +kernel⟩, List.mem_of_getElem? (i := 733) (by decide +kernel), List.mem_of_getElem? (i := 920) (by decide +kernel), List.mem_of_getElem? (i := 921) (by decide +kernel)⟩
theorem lw_p102 : lw_okq (⟨"PhasorTreeModel", "lays", "(III)V"⟩, 14) := ⟨⟨by decide +kernel, by decide +kernel⟩, List.mem_of_getElem? (i := 733) (by decide +kernel), List.mem_of_getElem? (i := 924) (by decide +kernel), List.mem_of_getElem? (i := 925) (by decide +kernel)⟩
theorem lw_p103 : lw_okq (⟨"PhasorTreeModel", "passes", "(I)I"⟩, 14) := ⟨⟨by decide +kernel, by decide +kernel⟩, List.mem_of_getElem? (i := 733) (by decide +kernel), List.mem_of_getElem? (i := 932) (by decide +kernel), List.mem_of_getElem? (i := 933) (by decide +kernel)⟩
theorem lw_p104 : lw_okq (⟨"PhasorTreeModel", "tick", "()V"⟩, 14) := ⟨⟨by decide +kernel, by decide +kernel⟩, List.mem_of_getElem? (i := 733) (by decide +kernel), List.mem_of_getElem? (i := 936) (by decide +kernel), List.mem_of_getElem? (i := 937) (by decide +kernel)⟩
theorem lw_p105 : lw_okq (⟨"PhasorTreeModel", "nextFrame", "()I"⟩, 14) := ⟨⟨by decide +kernel, by decide +kernel⟩, List.mem_of_getElem? (i := 733) (by decide +kernel), List.mem_of_getElem? (i := 940) (by decide +kernel), List.mem_of_getElem? (i := 941) (by decide +kernel)⟩
theorem lw_p106 : lw_okq (⟨"PhasorTreeModel", "comes", "(I)V"⟩, 14) := ⟨⟨by decide +kernel, by decide +kernel⟩, List.mem_of_getElem? (i := 733) (by decide +kernel), List.mem_of_getElem? (i := 944) (by decide +kernel), List.mem_of_getElem? (i := 945) (by decide +kernel)⟩
theorem lw_p107 : lw_okq (⟨"PhasorTreeModel", "isQuick", "(II)Z"⟩, 14) := ⟨⟨by decide +kernel, by decide +kernel⟩, List.mem_of_getElem? (i := 733) (by decide +kernel), List.mem_of_getElem? (i := 948) (by decide +kernel), List.mem_of_getElem? (i := 949) (by decide +kernel)⟩
theorem lw_p108 : lw_okq (⟨"PhasorTreeModel", "isIn", "(III)Z"⟩, 14) := ⟨⟨by decide +kernel, by decide +kernel⟩, List.mem_of_getElem? (i := 733) (by decide +kernel), List.mem_of_getElem? (i := 952) (by decide +kernel), List.mem_of_getElem? (i := 953) (by decide +kernel)⟩
theorem lw_p109 : lw_okq (⟨"PhasorTreeModel", "asks", "(I)V"⟩, 14) := ⟨⟨by decide +kernel, by decide +kernel⟩, List.mem_of_getElem? (i := 733) (by decide +kernel), List.mem_of_getElem? (i := 956) (by decide +kernel), List.mem_of_getElem? (i := 957) (by decide +kernel)⟩
theorem lw_p110 : lw_okq (⟨"PhasorTreeModel", "isComplete", "(II)Z"⟩, 14) := ⟨⟨by decide +kernel, by decide +kernel⟩, List.mem_of_getElem? (i := 733) (by decide +kernel), List.mem_of_getElem? (i := 960) (by decide +kernel), List.mem_of_getElem? (i := 961) (by decide +kernel)⟩
theorem lw_p111 : lw_okq (⟨"PhasorTreeModel", "frames", "(III)I"⟩, 14) := ⟨⟨by decide +kernel, by decide +kernel⟩, List.mem_of_getElem? (i := 733) (by decide +kernel), List.mem_of_getElem? (i := 964) (by decide +kernel), List.mem_of_getElem? (i := 965) (by decide +kernel)⟩
def lw_privs_7 : List (MethodName × Nat) := [(⟨"PhasorTreeModel", "isOf", "(II)Z"⟩, 14), (⟨"PhasorTreeModel", "through", "(II)I"⟩, 14), (⟨"PhasorTreeModel", "onWay", "(I)I"⟩, 14), (⟨"PhasorTreeModel", "sendsOne", "(IIIII)I"⟩, 14), (⟨"PhasorTreeModel", "allOnWay", "()I"⟩, 14), (⟨"PhasorTreeModel", "free", "()I"⟩, 14), (⟨"PhasorTreeModel", "lays", "(III)V"⟩, 14), (⟨"PhasorTreeModel", "passes", "(I)I"⟩, 14), (⟨"PhasorTreeModel", "tick", "()V"⟩, 14), (⟨"PhasorTreeModel", "nextFrame", "()I"⟩, 14), (⟨"PhasorTreeModel", "comes", "(I)V"⟩, 14), (⟨"PhasorTreeModel", "isQuick", "(II)Z"⟩, 14), (⟨"PhasorTreeModel", "isIn", "(III)Z"⟩, 14), (⟨"PhasorTreeModel", "asks", "(I)V"⟩, 14), (⟨"PhasorTreeModel", "isComplete", "(II)Z"⟩, 14), (⟨"PhasorTreeModel", "frames", "(III)I"⟩, 14)]
theorem lw_r7 : ∀ q ∈ lw_privs_7, lw_okq q := List.forall_mem_cons.mpr ⟨lw_p96, List.forall_mem_cons.mpr ⟨lw_p97, List.forall_mem_cons.mpr ⟨lw_p98, List.forall_mem_cons.mpr ⟨lw_p99, List.forall_mem_cons.mpr ⟨lw_p100, List.forall_mem_cons.mpr ⟨lw_p101, List.forall_mem_cons.mpr ⟨lw_p102, List.forall_mem_cons.mpr ⟨lw_p103, List.forall_mem_cons.mpr ⟨lw_p104, List.forall_mem_cons.mpr ⟨lw_p105, List.forall_mem_cons.mpr ⟨lw_p106, List.forall_mem_cons.mpr ⟨lw_p107, List.forall_mem_cons.mpr ⟨lw_p108, List.forall_mem_cons.mpr ⟨lw_p109, List.forall_mem_cons.mpr ⟨lw_p110, List.forall_mem_cons.mpr ⟨lw_p111, fun _ h => absurd h List.not_mem_nil⟩⟩⟩⟩⟩⟩⟩⟩⟩⟩⟩⟩⟩⟩⟩⟩
theorem lw_p112 : lw_okq (⟨"PhasorTreeModel", "expects", "(III)I"⟩, 14) := ⟨⟨by decide +kernel, by decide +kernel⟩, List.mem_of_getElem? (i := 733) (by decide +kernel), List.mem_of_getElem? (i := 968) (by decide +kernel), List.mem_of_getElem? (i := 969) (by decide +kernel)⟩
theorem lw_p113 : lw_okq (⟨"PhasorTreeModel", "lasts", "(II)I"⟩, 14) := ⟨⟨by decide +kernel, by decide +kernel⟩, List.mem_of_getElem? (i := 733) (by decide +kernel), List.mem_of_getElem? (i := 972) (by decide +kernel), List.mem_of_getElem? (i := 973) (by decide +kernel)⟩
theorem lw_p114 : lw_okq (⟨"PhasorTreeModel", "firstCame", "(II)I"⟩, 14) := ⟨⟨by decide +kernel, by decide +kernel⟩, List.mem_of_getElem? (i := 733) (by decide +kernel), List.mem_of_getElem? (i := 976) (by decide +kernel), List.mem_of_getElem? (i := 977) (by decide +kernel)⟩
theorem lw_p115 : lw_okq (⟨"PhasorTreeModel", "releases", "(II)V"⟩, 14) := ⟨⟨by decide +kernel, by decide +kernel⟩, List.mem_of_getElem? (i := 733) (by decide +kernel), List.mem_of_getElem? (i := 980) (by decide +kernel), List.mem_of_getElem? (i := 981) (by decide +kernel)⟩
theorem lw_p116 : lw_okq (⟨"PhasorTreeModel", "reads", "(III)Z"⟩, 14) := ⟨⟨by decide +kernel, by decide +kernel⟩, List.mem_of_getElem? (i := 733) (by decide +kernel), List.mem_of_getElem? (i := 984) (by decide +kernel), List.mem_of_getElem? (i := 985) (by decide +kernel)⟩
theorem lw_p117 : lw_okq (⟨"PhasorTreeModel", "plain", "(IIII)Z"⟩, 14) := ⟨⟨by decide +kernel, by decide +kernel⟩, List.mem_of_getElem? (i := 733) (by decide +kernel), List.mem_of_getElem? (i := 988) (by decide +kernel), List.mem_of_getElem? (i := 989) (by decide +kernel)⟩
theorem lw_p118 : lw_okq (⟨"PhasorTreeModel", "held", "(II)Z"⟩, 14) := ⟨⟨by decide +kernel, by decide +kernel⟩, List.mem_of_getElem? (i := 733) (by decide +kernel), List.mem_of_getElem? (i := 992) (by decide +kernel), List.mem_of_getElem? (i := 993) (by decide +kernel)⟩
theorem lw_p119 : lw_okq (⟨"PhasorTreeModel", "filtered", "(IIII)Z"⟩, 14) := ⟨⟨by decide +kernel, by decide +kernel⟩, List.mem_of_getElem? (i := 733) (by decide +kernel), List.mem_of_getElem? (i := 996) (by decide +kernel), List.mem_of_getElem? (i := 997) (by decide +kernel)⟩
theorem lw_p120 : lw_okq (⟨"PhasorTreeModel", "gathers", "(IIIIZ)I"⟩, 14) := ⟨⟨by decide +kernel, by decide +kernel⟩, List.mem_of_getElem? (i := 733) (by decide +kernel), List.mem_of_getElem? (i := 1000) (by decide +kernel), List.mem_of_getElem? (i := 1001) (by decide +kernel)⟩
theorem lw_p121 : lw_okq (⟨"PhasorTreeModel", "outs", "(IIII)V"⟩, 14) := ⟨⟨by decide +kernel, by decide +kernel⟩, List.mem_of_getElem? (i := 733) (by decide +kernel), List.mem_of_getElem? (i := 1004) (by decide +kernel), List.mem_of_getElem? (i := 1005) (by decide +kernel)⟩
theorem lw_p122 : lw_okq (⟨"PhasorTreeModel", "sends", "(III)V"⟩, 14) := ⟨⟨by decide +kernel, by decide +kernel⟩, List.mem_of_getElem? (i := 733) (by decide +kernel), List.mem_of_getElem? (i := 1008) (by decide +kernel), List.mem_of_getElem? (i := 1009) (by decide +kernel)⟩
theorem lw_p123 : lw_okq (⟨"PhasorTreeModel", "expected", "(II)I"⟩, 14) := ⟨⟨by decide +kernel, by decide +kernel⟩, List.mem_of_getElem? (i := 733) (by decide +kernel), List.mem_of_getElem? (i := 1016) (by decide +kernel), List.mem_of_getElem? (i := 1017) (by decide +kernel)⟩
theorem lw_p124 : lw_okq (⟨"PhasorTreeModel", "puts", "()V"⟩, 14) := ⟨⟨by decide +kernel, by decide +kernel⟩, List.mem_of_getElem? (i := 733) (by decide +kernel), List.mem_of_getElem? (i := 1039) (by decide +kernel), List.mem_of_getElem? (i := 1040) (by decide +kernel)⟩
theorem lw_p125 : lw_okq (⟨"PhasorTreeModel", "restores", "()V"⟩, 14) := ⟨⟨by decide +kernel, by decide +kernel⟩, List.mem_of_getElem? (i := 733) (by decide +kernel), List.mem_of_getElem? (i := 1043) (by decide +kernel), List.mem_of_getElem? (i := 1044) (by decide +kernel)⟩
theorem lw_p126 : lw_okq (⟨"PhasorTreeModel", "sumOf", "(I)I"⟩, 14) := ⟨⟨by decide +kernel, by decide +kernel⟩, List.mem_of_getElem? (i := 733) (by decide +kernel), List.mem_of_getElem? (i := 1055) (by decide +kernel), List.mem_of_getElem? (i := 1056) (by decide +kernel)⟩
theorem lw_p127 : lw_okq (⟨"PhasorTreeModel", "faulty", "()I"⟩, 14) := ⟨⟨by decide +kernel, by decide +kernel⟩, List.mem_of_getElem? (i := 733) (by decide +kernel), List.mem_of_getElem? (i := 1075) (by decide +kernel), List.mem_of_getElem? (i := 1076) (by decide +kernel)⟩
def lw_privs_8 : List (MethodName × Nat) := [(⟨"PhasorTreeModel", "expects", "(III)I"⟩, 14), (⟨"PhasorTreeModel", "lasts", "(II)I"⟩, 14), (⟨"PhasorTreeModel", "firstCame", "(II)I"⟩, 14), (⟨"PhasorTreeModel", "releases", "(II)V"⟩, 14), (⟨"PhasorTreeModel", "reads", "(III)Z"⟩, 14), (⟨"PhasorTreeModel", "plain", "(IIII)Z"⟩, 14), (⟨"PhasorTreeModel", "held", "(II)Z"⟩, 14), (⟨"PhasorTreeModel", "filtered", "(IIII)Z"⟩, 14), (⟨"PhasorTreeModel", "gathers", "(IIIIZ)I"⟩, 14), (⟨"PhasorTreeModel", "outs", "(IIII)V"⟩, 14), (⟨"PhasorTreeModel", "sends", "(III)V"⟩, 14), (⟨"PhasorTreeModel", "expected", "(II)I"⟩, 14), (⟨"PhasorTreeModel", "puts", "()V"⟩, 14), (⟨"PhasorTreeModel", "restores", "()V"⟩, 14), (⟨"PhasorTreeModel", "sumOf", "(I)I"⟩, 14), (⟨"PhasorTreeModel", "faulty", "()I"⟩, 14)]
theorem lw_r8 : ∀ q ∈ lw_privs_8, lw_okq q := List.forall_mem_cons.mpr ⟨lw_p112, List.forall_mem_cons.mpr ⟨lw_p113, List.forall_mem_cons.mpr ⟨lw_p114, List.forall_mem_cons.mpr ⟨lw_p115, List.forall_mem_cons.mpr ⟨lw_p116, List.forall_mem_cons.mpr ⟨lw_p117, List.forall_mem_cons.mpr ⟨lw_p118, List.forall_mem_cons.mpr ⟨lw_p119, List.forall_mem_cons.mpr ⟨lw_p120, List.forall_mem_cons.mpr ⟨lw_p121, List.forall_mem_cons.mpr ⟨lw_p122, List.forall_mem_cons.mpr ⟨lw_p123, List.forall_mem_cons.mpr ⟨lw_p124, List.forall_mem_cons.mpr ⟨lw_p125, List.forall_mem_cons.mpr ⟨lw_p126, List.forall_mem_cons.mpr ⟨lw_p127, fun _ h => absurd h List.not_mem_nil⟩⟩⟩⟩⟩⟩⟩⟩⟩⟩⟩⟩⟩⟩⟩⟩
theorem lw_p128 : lw_okq (⟨"PhasorTreeModel", "doesNext", "()I"⟩, 14) := ⟨⟨by decide +kernel, by decide +kernel⟩, List.mem_of_getElem? (i := 733) (by decide +kernel), List.mem_of_getElem? (i := 1079) (by decide +kernel), List.mem_of_getElem? (i := 1080) (by decide +kernel)⟩
theorem lw_p129 : lw_okq (⟨"PhasorTreeModel", "readsForm", "(C)Z"⟩, 14) := ⟨⟨by decide +kernel, by decide +kernel⟩, List.mem_of_getElem? (i := 733) (by decide +kernel), List.mem_of_getElem? (i := 1083) (by decide +kernel), List.mem_of_getElem? (i := 1084) (by decide +kernel)⟩
theorem lw_p130 : lw_okq (⟨"PhasorTreeModel", "takes", "(I)Z"⟩, 14) := ⟨⟨by decide +kernel, by decide +kernel⟩, List.mem_of_getElem? (i := 733) (by decide +kernel), List.mem_of_getElem? (i := 1087) (by decide +kernel), List.mem_of_getElem? (i := 1088) (by decide +kernel)⟩
theorem lw_p131 : lw_okq (⟨"PhasorTreeModel", "has", "(C)Z"⟩, 14) := ⟨⟨by decide +kernel, by decide +kernel⟩, List.mem_of_getElem? (i := 733) (by decide +kernel), List.mem_of_getElem? (i := 1091) (by decide +kernel), List.mem_of_getElem? (i := 1092) (by decide +kernel)⟩
theorem lw_p132 : lw_okq (⟨"PhasorTreeModel", "does", "(C)I"⟩, 14) := ⟨⟨by decide +kernel, by decide +kernel⟩, List.mem_of_getElem? (i := 733) (by decide +kernel), List.mem_of_getElem? (i := 1095) (by decide +kernel), List.mem_of_getElem? (i := 1096) (by decide +kernel)⟩
def lw_privs_9 : List (MethodName × Nat) := [(⟨"PhasorTreeModel", "doesNext", "()I"⟩, 14), (⟨"PhasorTreeModel", "readsForm", "(C)Z"⟩, 14), (⟨"PhasorTreeModel", "takes", "(I)Z"⟩, 14), (⟨"PhasorTreeModel", "has", "(C)Z"⟩, 14), (⟨"PhasorTreeModel", "does", "(C)I"⟩, 14)]
theorem lw_r9 : ∀ q ∈ lw_privs_9, lw_okq q := List.forall_mem_cons.mpr ⟨lw_p128, List.forall_mem_cons.mpr ⟨lw_p129, List.forall_mem_cons.mpr ⟨lw_p130, List.forall_mem_cons.mpr ⟨lw_p131, List.forall_mem_cons.mpr ⟨lw_p132, fun _ h => absurd h List.not_mem_nil⟩⟩⟩⟩⟩
def lw_privs : List (MethodName × Nat) := lw_privs_1 ++ (lw_privs_2 ++ (lw_privs_3 ++ (lw_privs_4 ++ (lw_privs_5 ++ (lw_privs_6 ++ (lw_privs_7 ++ (lw_privs_8 ++ (lw_privs_9))))))))
def lw_tbl : List Cond := k2_sels lw_privs ++ tables_1
theorem lw_privs_ok : ∀ q ∈ lw_privs, lw_okq q := by
  show ∀ q ∈ lw_privs_1 ++ (lw_privs_2 ++ (lw_privs_3 ++ (lw_privs_4 ++ (lw_privs_5 ++ (lw_privs_6 ++ (lw_privs_7 ++ (lw_privs_8 ++ (lw_privs_9)))))))), lw_okq q
  exact List.forall_mem_append.mpr ⟨lw_r1, List.forall_mem_append.mpr ⟨lw_r2, List.forall_mem_append.mpr ⟨lw_r3, List.forall_mem_append.mpr ⟨lw_r4, List.forall_mem_append.mpr ⟨lw_r5, List.forall_mem_append.mpr ⟨lw_r6, List.forall_mem_append.mpr ⟨lw_r7, List.forall_mem_append.mpr ⟨lw_r8, lw_r9⟩⟩⟩⟩⟩⟩⟩⟩
end
section
def RX0 : String := "PhasorTree$Frame"
def TX0 : u_T := fun k => match k with
  | 0 => ("PhasorTree$Frame", "child", "I", false)
  | 1 => ("PhasorTree$Frame", "stamp", "I", false)
  | 2 => ("PhasorTree$Frame", "slot", "I", false)
  | 3 => ("PhasorTree$Frame", "time", "I", false)
  | 4 => ("PhasorTree$Frame", "missing", "I", false)
  | 5 => ("PhasorTree$Frame", "present", "I", false)
  | 6 => ("PhasorTree$Frame", "values", "[I", true)
  | _ => ("PhasorTree$Frame", "flags", "[I", true)
def tyX0 : Nat → FieldType := fun k => match k with
  | 0 => .int
  | 1 => .int
  | 2 => .int
  | 3 => .int
  | 4 => .int
  | 5 => .int
  | 6 => .array .int
  | _ => .array .int
abbrev wsX00 : List Cond := u_ws RX0 TX0 8
theorem nmX0 : ∀ a, a < 8 → ∀ b, b < 8 → a ≠ b → (TX0 a).2.1 ≠ (TX0 b).2.1 := by decide +kernel
theorem tyX0_ok : ∀ k, k < 8 → parseFieldDescriptor (TX0 k).2.2.1 = some (tyX0 k) := by decide +kernel
theorem inX0 : ∀ w ∈ wsX00, w ∈ lw_tbl := by decide +kernel
def RX1 : String := "PhasorTree$Hub"
def TX1 : u_T := fun k => match k with
  | 0 => ("PhasorTree$Hub", "settings", "[I", true)
  | 1 => ("PhasorTree$Hub", "kept", "LPhasorTree$Row;", true)
  | 2 => ("PhasorTree$Hub", "held", "LPhasorTree$Frame;", true)
  | 3 => ("PhasorTree$Hub", "above", "I", false)
  | 4 => ("PhasorTree$Hub", "depth", "I", false)
  | 5 => ("PhasorTree$Hub", "released", "I", false)
  | 6 => ("PhasorTree$Hub", "late", "I", false)
  | 7 => ("PhasorTree$Hub", "doubles", "I", false)
  | _ => ("PhasorTree$Hub", "latest", "I", false)
def tyX1 : Nat → FieldType := fun k => match k with
  | 0 => .array .int
  | 1 => .object "PhasorTree$Row"
  | 2 => .object "PhasorTree$Frame"
  | 3 => .int
  | 4 => .int
  | 5 => .int
  | 6 => .int
  | 7 => .int
  | _ => .int
abbrev wsX10 : List Cond := u_ws RX1 TX1 9
theorem nmX1 : ∀ a, a < 9 → ∀ b, b < 9 → a ≠ b → (TX1 a).2.1 ≠ (TX1 b).2.1 := by decide +kernel
theorem tyX1_ok : ∀ k, k < 9 → parseFieldDescriptor (TX1 k).2.2.1 = some (tyX1 k) := by decide +kernel
theorem inX1 : ∀ w ∈ wsX10, w ∈ lw_tbl := by decide +kernel
def RX2 : String := "PhasorTree$Orders"
def TX2 : u_T := fun k => match k with
  | 0 => ("PhasorTree$Orders", "text", "[C", true)
  | 1 => ("PhasorTree$Orders", "length", "I", false)
  | 2 => ("PhasorTree$Orders", "at", "I", false)
  | 3 => ("PhasorTree$Orders", "kind", "C", false)
  | 4 => ("PhasorTree$Orders", "numbers", "[I", true)
  | 5 => ("PhasorTree$Orders", "done", "I", false)
  | 6 => ("PhasorTree$Orders", "start", "I", false)
  | _ => ("PhasorTree$Orders", "reason", "I", false)
def tyX2 : Nat → FieldType := fun k => match k with
  | 0 => .array .char
  | 1 => .int
  | 2 => .int
  | 3 => .char
  | 4 => .array .int
  | 5 => .int
  | 6 => .int
  | _ => .int
abbrev wsX20 : List Cond := u_ws RX2 TX2 8
theorem nmX2 : ∀ a, a < 8 → ∀ b, b < 8 → a ≠ b → (TX2 a).2.1 ≠ (TX2 b).2.1 := by decide +kernel
theorem tyX2_ok : ∀ k, k < 8 → parseFieldDescriptor (TX2 k).2.2.1 = some (tyX2 k) := by decide +kernel
theorem inX2 : ∀ w ∈ wsX20, w ∈ lw_tbl := by decide +kernel
def RX3 : String := "PhasorTree$Row"
def TX3 : u_T := fun k => match k with
  | 0 => ("PhasorTree$Row", "frames", "[LPhasorTree$Frame;", false)
  | _ => ("PhasorTree$Row", "size", "I", false)
def tyX3 : Nat → FieldType := fun k => match k with
  | 0 => .array (.object "PhasorTree$Frame")
  | _ => .int
abbrev wsX30 : List Cond := u_ws RX3 TX3 2
theorem nmX3 : ∀ a, a < 2 → ∀ b, b < 2 → a ≠ b → (TX3 a).2.1 ≠ (TX3 b).2.1 := by decide +kernel
theorem tyX3_ok : ∀ k, k < 2 → parseFieldDescriptor (TX3 k).2.2.1 = some (tyX3 k) := by decide +kernel
theorem inX3 : ∀ w ∈ wsX30, w ∈ lw_tbl := by decide +kernel
def RX4 : String := "PhasorTree$Tree"
def TX4 : u_T := fun k => match k with
  | 0 => ("PhasorTree$Tree", "hubs", "[LPhasorTree$Hub;", true)
  | 1 => ("PhasorTree$Tree", "units", "[LPhasorTree$Unit;", true)
  | 2 => ("PhasorTree$Tree", "way", "LPhasorTree$Row;", true)
  | 3 => ("PhasorTree$Tree", "outputs", "[LPhasorTree$Frame;", true)
  | 4 => ("PhasorTree$Tree", "hubCount", "I", false)
  | 5 => ("PhasorTree$Tree", "unitCount", "I", false)
  | 6 => ("PhasorTree$Tree", "time", "I", false)
  | 7 => ("PhasorTree$Tree", "outputCount", "I", false)
  | 8 => ("PhasorTree$Tree", "mostTicks", "I", false)
  | 9 => ("PhasorTree$Tree", "built", "LPhasorTree$Frame;", true)
  | 10 => ("PhasorTree$Tree", "tally", "[I", true)
  | _ => ("PhasorTree$Tree", "taken", "[I", true)
def tyX4 : Nat → FieldType := fun k => match k with
  | 0 => .array (.object "PhasorTree$Hub")
  | 1 => .array (.object "PhasorTree$Unit")
  | 2 => .object "PhasorTree$Row"
  | 3 => .array (.object "PhasorTree$Frame")
  | 4 => .int
  | 5 => .int
  | 6 => .int
  | 7 => .int
  | 8 => .int
  | 9 => .object "PhasorTree$Frame"
  | 10 => .array .int
  | _ => .array .int
abbrev wsX40 : List Cond := u_ws RX4 TX4 12
theorem nmX4 : ∀ a, a < 12 → ∀ b, b < 12 → a ≠ b → (TX4 a).2.1 ≠ (TX4 b).2.1 := by decide +kernel
theorem tyX4_ok : ∀ k, k < 12 → parseFieldDescriptor (TX4 k).2.2.1 = some (tyX4 k) := by decide +kernel
theorem inX4 : ∀ w ∈ wsX40, w ∈ lw_tbl := by decide +kernel
def RX5 : String := "PhasorTree$Unit"
def TX5 : u_T := fun k => match k with
  | 0 => ("PhasorTree$Unit", "hub", "I", false)
  | 1 => ("PhasorTree$Unit", "period", "I", false)
  | 2 => ("PhasorTree$Unit", "isOff", "Z", false)
  | _ => ("PhasorTree$Unit", "sent", "I", false)
def tyX5 : Nat → FieldType := fun k => match k with
  | 0 => .int
  | 1 => .int
  | 2 => .boolean
  | _ => .int
abbrev wsX50 : List Cond := u_ws RX5 TX5 4
theorem nmX5 : ∀ a, a < 4 → ∀ b, b < 4 → a ≠ b → (TX5 a).2.1 ≠ (TX5 b).2.1 := by decide +kernel
theorem tyX5_ok : ∀ k, k < 4 → parseFieldDescriptor (TX5 k).2.2.1 = some (tyX5 k) := by decide +kernel
theorem inX5 : ∀ w ∈ wsX50, w ∈ lw_tbl := by decide +kernel
def RX6 : String := "PhasorTree"
def TX6 : u_T := fun k => match k with
  | 0 => ("PhasorTree", "history", "[LPhasorTree$Tree;", true)
  | 1 => ("PhasorTree", "orders", "LPhasorTree$Orders;", true)
  | 2 => ("PhasorTree", "now", "LPhasorTree$Tree;", false)
  | 3 => ("PhasorTree", "trial", "LPhasorTree$Tree;", false)
  | _ => ("PhasorTree", "states", "I", false)
def tyX6 : Nat → FieldType := fun k => match k with
  | 0 => .array (.object "PhasorTree$Tree")
  | 1 => .object "PhasorTree$Orders"
  | 2 => .object "PhasorTree$Tree"
  | 3 => .object "PhasorTree$Tree"
  | _ => .int
abbrev wsX60 : List Cond := u_ws RX6 TX6 5
theorem nmX6 : ∀ a, a < 5 → ∀ b, b < 5 → a ≠ b → (TX6 a).2.1 ≠ (TX6 b).2.1 := by decide +kernel
theorem tyX6_ok : ∀ k, k < 5 → parseFieldDescriptor (TX6 k).2.2.1 = some (tyX6 k) := by decide +kernel
theorem inX6 : ∀ w ∈ wsX60, w ∈ lw_tbl := by decide +kernel
def RX7 : String := "PhasorTreeModel"
def TX7 : u_T := fun k => match k with
  | 0 => ("PhasorTreeModel", "s", "[I", true)
  | 1 => ("PhasorTreeModel", "was", "[I", true)
  | 2 => ("PhasorTreeModel", "begun", "[I", true)
  | 3 => ("PhasorTreeModel", "aside", "[I", true)
  | 4 => ("PhasorTreeModel", "states", "I", false)
  | 5 => ("PhasorTreeModel", "text", "[C", true)
  | 6 => ("PhasorTreeModel", "typed", "I", false)
  | 7 => ("PhasorTreeModel", "at", "I", false)
  | 8 => ("PhasorTreeModel", "reason", "I", false)
  | 9 => ("PhasorTreeModel", "got", "[I", true)
  | 10 => ("PhasorTreeModel", "values", "[I", true)
  | 11 => ("PhasorTreeModel", "flags", "[I", true)
  | 12 => ("PhasorTreeModel", "sorted", "[I", true)
  | _ => ("PhasorTreeModel", "taken", "I", false)
def tyX7 : Nat → FieldType := fun k => match k with
  | 0 => .array .int
  | 1 => .array .int
  | 2 => .array .int
  | 3 => .array .int
  | 4 => .int
  | 5 => .array .char
  | 6 => .int
  | 7 => .int
  | 8 => .int
  | 9 => .array .int
  | 10 => .array .int
  | 11 => .array .int
  | 12 => .array .int
  | _ => .int
abbrev wsX70 : List Cond := u_ws RX7 TX7 14
theorem nmX7 : ∀ a, a < 14 → ∀ b, b < 14 → a ≠ b → (TX7 a).2.1 ≠ (TX7 b).2.1 := by decide +kernel
theorem tyX7_ok : ∀ k, k < 14 → parseFieldDescriptor (TX7 k).2.2.1 = some (tyX7 k) := by decide +kernel
theorem inX7 : ∀ w ∈ wsX70, w ∈ lw_tbl := by decide +kernel
abbrev ev_cl : List vw_C := [(RX0, TX0, 8), (RX1, TX1, 9), (RX2, TX2, 8), (RX3, TX3, 2), (RX4, TX4, 12), (RX5, TX5, 4), (RX6, TX6, 5), (RX7, TX7, 14)]
/-- kind of a field: 0 int, 1 reference, 2 char, 3 boolean -/
def ev_fk : List (List Nat) := [[0, 0, 0, 0, 0, 0, 1, 1], [1, 1, 1, 0, 0, 0, 0, 0, 0], [1, 0, 0, 2, 1, 0, 0, 0], [1, 0], [1, 1, 1, 1, 0, 0, 0, 0, 0, 1, 1, 1], [0, 0, 3, 0], [1, 1, 1, 1, 0], [1, 1, 1, 1, 0, 1, 0, 0, 0, 1, 1, 1, 1, 0]]
end
section
/-! THE EVALUATOR: integers, an abstract heap, tables of instructions -/
abbrev AV : Type := Int ⊕ Option Nat
abbrev HP : Type := (Nat → Nat × Nat) × (Nat → Int → Int) × (Nat → Int → Option Nat) × Nat × Nat
abbrev Ls : Type := List (Option AV)
abbrev Ins : Type := Instr × Int × Nat × Nat × Nat × List Nat
abbrev Hd : Type := MethodName × ByteArray × Nat × Option FieldType × Nat × Nat × Nat × Nat × Nat × Nat × Nat
def hTy (h : HP) : Nat → Nat × Nat := h.1
def hI (h : HP) : Nat → Int → Int := h.2.1
def hR (h : HP) : Nat → Int → Option Nat := h.2.2.1
def hZ (h : HP) : Nat := h.2.2.2.1
def hU (h : HP) : Nat := h.2.2.2.2
def sI (h : HP) (a : Nat) (k : Int) (v : Int) : HP := (hTy h, fun b j => if b = a ∧ j = k then v else hI h b j, hR h, hZ h, hU h)
def sR (h : HP) (a : Nat) (k : Int) (v : Option Nat) : HP := (hTy h, hI h, fun b j => if b = a ∧ j = k then v else hR h b j, hZ h, hU h)
def sCp (h : HP) (src : Nat) (sp : Int) (dst : Nat) (dp n : Int) : HP := (hTy h, fun b j => if b = dst ∧ dp ≤ j ∧ j < dp + n then hI h src (sp + (j - dp)) else hI h b j, hR h, hZ h, hU h)
def sNew (h : HP) (t : Nat × Nat) (n : Nat) : HP := (fun b => if b = hZ h then t else hTy h b, fun b j => if b = hZ h then 0 else hI h b j, fun b j => if b = hZ h then none else hR h b j, hZ h + 1, hU h + n)
def wr (z : Int) : Int := z.bmod 4294967296
def inR (z : Int) : Prop := -2147483648 ≤ z ∧ z ≤ 2147483647
def iS (x : Int) : Int32 := Int32.ofInt x
def oAnd (x y : Int) : Int := (iS x &&& iS y).toInt
def oOr (x y : Int) : Int := (iS x ||| iS y).toInt
def oShl (x y : Int) : Int := (iS x <<< (iS y &&& 31)).toInt
def oShr (x y : Int) : Int := (iS x >>> (iS y &&& 31)).toInt
def oUshr (x y : Int) : Int := ((iS x).toUInt32 >>> ((iS y).toUInt32 &&& Int32.toUInt32 31)).toInt32.toInt
def oI2c (x : Int) : Int := ((iS x).toUInt32 % 65536).toInt32.toInt
/-- the kind of field k of class ci -/
def fkd (ci k : Nat) : Nat := (ev_fk.getD ci []).getD k 0
def fcn (ci : Nat) : Nat := (ev_fk.getD ci []).length
def cndZ (c : ClassFile.Cond) (x y : Int) : Bool := match c with
  | .eq => decide (x = y)
  | .ne => decide (¬ x = y)
  | .lt => decide (x < y)
  | .ge => decide (y ≤ x)
  | .gt => decide (y < x)
  | .le => decide (x ≤ y)
abbrev Cf : Type := Nat × Ls × List AV × HP
def e_load (k pos : Nat) (ls : Ls) (st : List AV) (h : HP) (isI : Bool) : Option Cf := match ls[k]? with
  | some (some (.inl x)) => if isI = true then some (pos + 1, ls, .inl x :: st, h) else none
  | some (some (.inr r)) => if isI = true then none else some (pos + 1, ls, .inr r :: st, h)
  | _ => none
def e_store (k pos : Nat) (ls : Ls) (st : List AV) (h : HP) (isI : Bool) : Option Cf := match st with
  | .inl x :: r => if isI = true ∧ k < ls.length then some (pos + 1, ls.set k (some (.inl x)), r, h) else none
  | .inr x :: r => if isI = false ∧ k < ls.length then some (pos + 1, ls.set k (some (.inr x)), r, h) else none
  | _ => none
def e_psh (lo hi n : Int) (pos : Nat) (ls : Ls) (st : List AV) (h : HP) : Option Cf := if lo ≤ n ∧ n ≤ hi then some (pos + 1, ls, .inl n :: st, h) else none
def e_bin (f : Int → Int → Int) (pos : Nat) (ls : Ls) (st : List AV) (h : HP) : Option Cf := match st with
  | .inl y :: .inl x :: r => some (pos + 1, ls, .inl (f x y) :: r, h)
  | _ => none
def e_div (f : Int → Int → Int) (pos : Nat) (ls : Ls) (st : List AV) (h : HP) : Option Cf := match st with
  | .inl y :: .inl x :: r => if y = 0 then none else some (pos + 1, ls, .inl (f x y) :: r, h)
  | _ => none
def e_un (f : Int → Int) (pos : Nat) (ls : Ls) (st : List AV) (h : HP) : Option Cf := match st with
  | .inl x :: r => some (pos + 1, ls, .inl (f x) :: r, h)
  | _ => none
def e_if (c : ClassFile.Cond) (t pos : Nat) (ls : Ls) (st : List AV) (h : HP) : Option Cf := match st with
  | .inl x :: r => some (if cndZ c x 0 = true then t else pos + 1, ls, r, h)
  | _ => none
def e_icmp (c : ClassFile.Cond) (t pos : Nat) (ls : Ls) (st : List AV) (h : HP) : Option Cf := match st with
  | .inl y :: .inl x :: r => some (if cndZ c x y = true then t else pos + 1, ls, r, h)
  | _ => none
def e_nn (t pos : Nat) (ls : Ls) (st : List AV) (h : HP) : Option Cf := match st with
  | .inr o :: r => some (if o = none then pos + 1 else t, ls, r, h)
  | _ => none
def e_tsw (lo hi : Int) (sw : List Nat) (ls : Ls) (st : List AV) (h : HP) : Option Cf := match st with
  | .inl x :: r => match sw[if x < lo ∨ hi < x then 0 else (x - lo).toNat + 1]? with
    | some t => some (t, ls, r, h)
    | none => none
  | _ => none
/-- the place, from 1, of the key among the pairs; 0: none -/
def e_key (x : Int) : List (Int × Int) → Nat → Nat
  | [], _ => 0
  | p :: ps, n => if x = p.1 then n else e_key x ps (n + 1)
def e_lsw (ps : List (Int × Int)) (sw : List Nat) (ls : Ls) (st : List AV) (h : HP) : Option Cf := match st with
  | .inl x :: r => match sw[e_key x ps 1]? with
    | some t => some (t, ls, r, h)
    | none => none
  | _ => none
def e_get (ci k pos : Nat) (ls : Ls) (st : List AV) (h : HP) : Option Cf := match st with
  | .inr (some a) :: r => if (hTy h a).1 = ci + 1 ∧ k < fcn ci then some (pos + 1, ls, (if fkd ci k = 1 then .inr (hR h a k) else .inl (hI h a k)) :: r, h) else none
  | _ => none
def e_put (ci k pos : Nat) (ls : Ls) (st : List AV) (h : HP) : Option Cf := match st with
  | .inl v :: .inr (some a) :: r => if (hTy h a).1 = ci + 1 ∧ k < fcn ci ∧ 3 ≤ a ∧ fkd ci k ≠ 1 ∧ (fkd ci k = 2 → 0 ≤ v ∧ v ≤ 65535) ∧ (fkd ci k = 3 → 0 ≤ v ∧ v ≤ 1) then some (pos + 1, ls, r, sI h a k v) else none
  | .inr v :: .inr (some a) :: r => if (hTy h a).1 = ci + 1 ∧ k < fcn ci ∧ 3 ≤ a ∧ fkd ci k = 1 then some (pos + 1, ls, r, sR h a k v) else none
  | _ => none
def e_ald (t pos : Nat) (ls : Ls) (st : List AV) (h : HP) : Option Cf := match st with
  | .inl j :: .inr (some a) :: r => if (hTy h a).1 = t ∧ 0 ≤ j ∧ j < (hTy h a).2 then some (pos + 1, ls, .inl (hI h a j) :: r, h) else none
  | _ => none
/-- kinds of the arrays of references that the classes make -/
def rfO (t : Nat) : Bool := t == 200 || t == 201 || t == 204 || t == 205
def e_aldq (pos : Nat) (ls : Ls) (st : List AV) (h : HP) : Option Cf := match st with
  | .inl j :: .inr (some a) :: r => if rfO (hTy h a).1 = true ∧ 0 ≤ j ∧ j < (hTy h a).2 then some (pos + 1, ls, .inr (hR h a j) :: r, h) else none
  | _ => none
def e_ast (t : Nat) (m : Int) (pos : Nat) (ls : Ls) (st : List AV) (h : HP) : Option Cf := match st with
  | .inl x :: .inl j :: .inr (some a) :: r => if (hTy h a).1 = t ∧ 0 ≤ j ∧ j < (hTy h a).2 ∧ 3 ≤ a ∧ (m = 0 ∨ 0 ≤ x ∧ x ≤ m) then some (pos + 1, ls, r, sI h a j x) else none
  | _ => none
def e_astq (pos : Nat) (ls : Ls) (st : List AV) (h : HP) : Option Cf := match st with
  | .inr (some v) :: .inl j :: .inr (some a) :: r => if rfO (hTy h a).1 = true ∧ (hTy h v).1 + 199 = (hTy h a).1 ∧ 0 ≤ j ∧ j < (hTy h a).2 ∧ 3 ≤ a then some (pos + 1, ls, r, sR h a j (some v)) else none
  | _ => none
def e_len (pos : Nat) (ls : Ls) (st : List AV) (h : HP) : Option Cf := match st with
  | .inr (some a) :: r => if ((hTy h a).1 = 100 ∨ (hTy h a).1 = 101 ∨ rfO (hTy h a).1 = true) ∧ (hTy h a).2 < 2147483648 then some (pos + 1, ls, .inl ((hTy h a).2 : Int) :: r, h) else none
  | _ => none
def e_newa (t pos : Nat) (ls : Ls) (st : List AV) (h : HP) : Option Cf := match st with
  | .inl n :: r => if 0 ≤ n ∧ n ≤ 100000 then some (pos + 1, ls, .inr (some (hZ h)) :: r, sNew h (t, n.toNat) n.toNat) else none
  | _ => none
def e_cpy (d pos : Nat) (ls : Ls) (st : List AV) (h : HP) : Option Cf := match st with
  | .inl n :: .inl dp :: .inr (some b) :: .inl sp :: .inr (some a) :: r => if 1 ≤ d ∧ r.length ≤ 8 ∧ (hTy h a).1 = 100 ∧ (hTy h b).1 = 100 ∧ 3 ≤ b ∧ 3 ≤ a ∧ 0 ≤ sp ∧ 0 ≤ dp ∧ 0 ≤ n ∧ sp + n ≤ (hTy h a).2 ∧ dp + n ≤ (hTy h b).2 then some (pos + 1, ls, r, sCp h a sp b dp n) else none
  | _ => none
def e_mx (f : Int → Int → Int) (d pos : Nat) (ls : Ls) (st : List AV) (h : HP) : Option Cf := if 1 ≤ d ∧ st.length ≤ 8 then e_bin f pos ls st h else none
def e_obj (d pos : Nat) (ls : Ls) (st : List AV) (h : HP) : Option Cf := match st with
  | .inr (some a) :: r => if 1 ≤ d ∧ r.length ≤ 8 then some (pos + 1, ls, r, h) else none
  | _ => none
def e_dup (pos : Nat) (ls : Ls) (st : List AV) (h : HP) : Option Cf := match st with
  | v :: r => some (pos + 1, ls, v :: v :: r, h)
  | _ => none
def e_dup2 (pos : Nat) (ls : Ls) (st : List AV) (h : HP) : Option Cf := match st with
  | v :: w :: r => some (pos + 1, ls, v :: w :: v :: w :: r, h)
  | _ => none
def e_dupx1 (pos : Nat) (ls : Ls) (st : List AV) (h : HP) : Option Cf := match st with
  | v :: w :: r => some (pos + 1, ls, v :: w :: v :: r, h)
  | _ => none
def e_iinc (k : Nat) (c : Int) (pos : Nat) (ls : Ls) (st : List AV) (h : HP) : Option Cf := match ls[k]? with
  | some (some (.inl x)) => if k < ls.length then some (pos + 1, ls.set k (some (.inl (wr (x + c)))), st, h) else none
  | _ => none
def e_mxF (x y : Int) : Int := if y ≤ x then x else y
def e_mnF (x y : Int) : Int := if x ≤ y then x else y
/-- one instruction that is no call of a method with code and no return -/
def ex1 (d : Nat) (i : Ins) (pos : Nat) (ls : Ls) (st : List AV) (h : HP) : Option Cf := match i.1 with
  | .iconst n => e_psh (-1) 5 n pos ls st h
  | .bipush n => e_psh (-128) 127 n pos ls st h
  | .sipush n => e_psh (-32768) 32767 n pos ls st h
  | .ldc _ => e_psh (-2147483648) 2147483647 i.2.1 pos ls st h
  | .ldc_w _ => e_psh (-2147483648) 2147483647 i.2.1 pos ls st h
  | .aconst_null => some (pos + 1, ls, .inr none :: st, h)
  | .iload k => e_load k pos ls st h true
  | .iload_n k => e_load k pos ls st h true
  | .aload k => e_load k pos ls st h false
  | .aload_n k => e_load k pos ls st h false
  | .istore k => e_store k pos ls st h true
  | .istore_n k => e_store k pos ls st h true
  | .astore k => e_store k pos ls st h false
  | .astore_n k => e_store k pos ls st h false
  | .iinc k c => e_iinc k c pos ls st h
  | .dup => e_dup pos ls st h
  | .dup2 => e_dup2 pos ls st h
  | .dup_x1 => e_dupx1 pos ls st h
  | .iadd => e_bin (fun x y => wr (x + y)) pos ls st h
  | .isub => e_bin (fun x y => wr (x - y)) pos ls st h
  | .imul => e_bin (fun x y => wr (x * y)) pos ls st h
  | .idiv => e_div (fun x y => wr (x.tdiv y)) pos ls st h
  | .irem => e_div (fun x y => wr (x.tmod y)) pos ls st h
  | .ineg => e_un (fun x => wr (-x)) pos ls st h
  | .ishl => e_bin oShl pos ls st h
  | .ishr => e_bin oShr pos ls st h
  | .iushr => e_bin oUshr pos ls st h
  | .iand => e_bin oAnd pos ls st h
  | .ior => e_bin oOr pos ls st h
  | .i2c => e_un oI2c pos ls st h
  | .ifCond c _ => e_if c i.2.2.1 pos ls st h
  | .if_icmp c _ => e_icmp c i.2.2.1 pos ls st h
  | .goto _ => some (i.2.2.1, ls, st, h)
  | .ifnonnull _ => e_nn i.2.2.1 pos ls st h
  | .tableswitch _ lo hi _ => e_tsw lo hi i.2.2.2.2.2 ls st h
  | .lookupswitch _ ps => e_lsw ps.toList i.2.2.2.2.2 ls st h
  | .getfield _ => e_get i.2.2.1 i.2.2.2.1 pos ls st h
  | .putfield _ => e_put i.2.2.1 i.2.2.2.1 pos ls st h
  | .getstatic _ => if i.2.2.1 < 2 then some (pos + 1, ls, .inr (some i.2.2.1) :: st, h) else none
  | .iaload => e_ald 100 pos ls st h
  | .caload => e_ald 101 pos ls st h
  | .aaload => e_aldq pos ls st h
  | .iastore => e_ast 100 0 pos ls st h
  | .castore => e_ast 101 65535 pos ls st h
  | .aastore => e_astq pos ls st h
  | .arraylength => e_len pos ls st h
  | .newarray t => match t with
    | .int => e_newa 100 pos ls st h
    | .char => e_newa 101 pos ls st h
    | _ => none
  | .anewarray _ => if rfO (200 + i.2.2.1) = true then e_newa (200 + i.2.2.1) pos ls st h else none
  | .new _ => if i.2.2.1 < 8 then some (pos + 1, ls, .inr (some (hZ h)) :: st, sNew h (i.2.2.1 + 1, 0) (fcn i.2.2.1)) else none
  | .invokespecial _ => if i.2.2.2.1 = 6 then e_obj d pos ls st h else none
  | .invokestatic _ => if i.2.2.2.1 = 7 then e_cpy d pos ls st h else if i.2.2.2.1 = 8 then e_mx e_mxF d pos ls st h else if i.2.2.2.1 = 9 then e_mx e_mnF d pos ls st h else none
  | _ => none
end
section
set_option maxRecDepth 20000 in
/-- PhasorTreeLaw.law([I)Z -/
def c_L_law : List Ins := [(.new 7, 0, 6, 0, 146, []),
  (.dup, 0, 0, 0, 0, []),
  (.invokespecial 9, 0, 164, 4, 148, []),
  (.astore_n 1, 0, 0, 0, 0, []),
  (.new 10, 0, 7, 0, 865, []),
  (.dup, 0, 0, 0, 0, []),
  (.invokespecial 12, 0, 1, 4, 867, []),
  (.astore_n 2, 0, 0, 0, 0, []),
  (.iconst 0, 0, 0, 0, 0, []),
  (.istore_n 3, 0, 0, 0, 0, []),
  (.iload_n 3, 0, 0, 0, 0, []),
  (.aload_n 0, 0, 0, 0, 0, []),
  (.arraylength, 0, 0, 0, 0, []),
  (.bipush 6, 0, 0, 0, 0, []),
  (.isub, 0, 0, 0, 0, []),
  (.if_icmp .gt 737, 0, 521, 0, 0, []),
  (.aload_n 0, 0, 0, 0, 0, []),
  (.iload_n 3, 0, 0, 0, 0, []),
  (.iaload, 0, 0, 0, 0, []),
  (.bipush 31, 0, 0, 0, 0, []),
  (.iand, 0, 0, 0, 0, []),
  (.tableswitch 722 0 20 #[99, 132, 165, 188, 231, 264, 297, 330, 393, 416, 459, 492, 535, 578, 591, 614, 637, 650, 673, 686, 709], 0, 0, 0, 99, [519, 22, 49, 76, 93, 130, 157, 184, 211, 268, 285, 322, 349, 386, 423, 430, 447, 464, 471, 488, 495, 512]),
  (.aload_n 1, 0, 0, 0, 0, []),
  (.aload_n 0, 0, 0, 0, 0, []),
  (.iload_n 3, 0, 0, 0, 0, []),
  (.iconst 1, 0, 0, 0, 0, []),
  (.iadd, 0, 0, 0, 0, []),
  (.iaload, 0, 0, 0, 0, []),
  (.aload_n 0, 0, 0, 0, 0, []),
  (.iload_n 3, 0, 0, 0, 0, []),
  (.iconst 2, 0, 0, 0, 0, []),
  (.iadd, 0, 0, 0, 0, []),
  (.iaload, 0, 0, 0, 0, []),
  (.invokevirtual 13, 0, 165, 0, 402, []),
  (.aload_n 2, 0, 0, 0, 0, []),
  (.aload_n 0, 0, 0, 0, 0, []),
  (.iload_n 3, 0, 0, 0, 0, []),
  (.iconst 1, 0, 0, 0, 0, []),
  (.iadd, 0, 0, 0, 0, []),
  (.iaload, 0, 0, 0, 0, []),
  (.aload_n 0, 0, 0, 0, 0, []),
  (.iload_n 3, 0, 0, 0, 0, []),
  (.iconst 2, 0, 0, 0, 0, []),
  (.iadd, 0, 0, 0, 0, []),
  (.iaload, 0, 0, 0, 0, []),
  (.invokevirtual 17, 0, 21, 0, 915, []),
  (.if_icmp .eq 595, 0, 519, 0, 0, []),
  (.iconst 0, 0, 0, 0, 0, []),
  (.ireturn, 0, 0, 0, 0, []),
  (.aload_n 1, 0, 0, 0, 0, []),
  (.aload_n 0, 0, 0, 0, 0, []),
  (.iload_n 3, 0, 0, 0, 0, []),
  (.iconst 1, 0, 0, 0, 0, []),
  (.iadd, 0, 0, 0, 0, []),
  (.iaload, 0, 0, 0, 0, []),
  (.aload_n 0, 0, 0, 0, 0, []),
  (.iload_n 3, 0, 0, 0, 0, []),
  (.iconst 2, 0, 0, 0, 0, []),
  (.iadd, 0, 0, 0, 0, []),
  (.iaload, 0, 0, 0, 0, []),
  (.invokevirtual 18, 0, 166, 0, 478, []),
  (.aload_n 2, 0, 0, 0, 0, []),
  (.aload_n 0, 0, 0, 0, 0, []),
  (.iload_n 3, 0, 0, 0, 0, []),
  (.iconst 1, 0, 0, 0, 0, []),
  (.iadd, 0, 0, 0, 0, []),
  (.iaload, 0, 0, 0, 0, []),
  (.aload_n 0, 0, 0, 0, 0, []),
  (.iload_n 3, 0, 0, 0, 0, []),
  (.iconst 2, 0, 0, 0, 0, []),
  (.iadd, 0, 0, 0, 0, []),
  (.iaload, 0, 0, 0, 0, []),
  (.invokevirtual 21, 0, 22, 0, 945, []),
  (.if_icmp .eq 562, 0, 519, 0, 0, []),
  (.iconst 0, 0, 0, 0, 0, []),
  (.ireturn, 0, 0, 0, 0, []),
  (.aload_n 1, 0, 0, 0, 0, []),
  (.aload_n 0, 0, 0, 0, 0, []),
  (.iload_n 3, 0, 0, 0, 0, []),
  (.iconst 1, 0, 0, 0, 0, []),
  (.iadd, 0, 0, 0, 0, []),
  (.iaload, 0, 0, 0, 0, []),
  (.invokevirtual 22, 0, 167, 0, 490, []),
  (.aload_n 2, 0, 0, 0, 0, []),
  (.aload_n 0, 0, 0, 0, 0, []),
  (.iload_n 3, 0, 0, 0, 0, []),
  (.iconst 1, 0, 0, 0, 0, []),
  (.iadd, 0, 0, 0, 0, []),
  (.iaload, 0, 0, 0, 0, []),
  (.invokevirtual 26, 0, 24, 0, 949, []),
  (.if_icmp .eq 539, 0, 519, 0, 0, []),
  (.iconst 0, 0, 0, 0, 0, []),
  (.ireturn, 0, 0, 0, 0, []),
  (.aload_n 1, 0, 0, 0, 0, []),
  (.aload_n 0, 0, 0, 0, 0, []),
  (.iload_n 3, 0, 0, 0, 0, []),
  (.iconst 1, 0, 0, 0, 0, []),
  (.iadd, 0, 0, 0, 0, []),
  (.iaload, 0, 0, 0, 0, []),
  (.aload_n 0, 0, 0, 0, 0, []),
  (.iload_n 3, 0, 0, 0, 0, []),
  (.iconst 2, 0, 0, 0, 0, []),
  (.iadd, 0, 0, 0, 0, []),
  (.iaload, 0, 0, 0, 0, []),
  (.aload_n 0, 0, 0, 0, 0, []),
  (.iload_n 3, 0, 0, 0, 0, []),
  (.iconst 3, 0, 0, 0, 0, []),
  (.iadd, 0, 0, 0, 0, []),
  (.iaload, 0, 0, 0, 0, []),
  (.invokevirtual 27, 0, 168, 0, 518, []),
  (.aload_n 2, 0, 0, 0, 0, []),
  (.aload_n 0, 0, 0, 0, 0, []),
  (.iload_n 3, 0, 0, 0, 0, []),
  (.iconst 1, 0, 0, 0, 0, []),
  (.iadd, 0, 0, 0, 0, []),
  (.iaload, 0, 0, 0, 0, []),
  (.aload_n 0, 0, 0, 0, 0, []),
  (.iload_n 3, 0, 0, 0, 0, []),
  (.iconst 2, 0, 0, 0, 0, []),
  (.iadd, 0, 0, 0, 0, []),
  (.iaload, 0, 0, 0, 0, []),
  (.aload_n 0, 0, 0, 0, 0, []),
  (.iload_n 3, 0, 0, 0, 0, []),
  (.iconst 3, 0, 0, 0, 0, []),
  (.iadd, 0, 0, 0, 0, []),
  (.iaload, 0, 0, 0, 0, []),
  (.invokevirtual 31, 0, 26, 0, 973, []),
  (.if_icmp .eq 496, 0, 519, 0, 0, []),
  (.iconst 0, 0, 0, 0, 0, []),
  (.ireturn, 0, 0, 0, 0, []),
  (.aload_n 1, 0, 0, 0, 0, []),
  (.aload_n 0, 0, 0, 0, 0, []),
  (.iload_n 3, 0, 0, 0, 0, []),
  (.iconst 1, 0, 0, 0, 0, []),
  (.iadd, 0, 0, 0, 0, []),
  (.iaload, 0, 0, 0, 0, []),
  (.aload_n 0, 0, 0, 0, 0, []),
  (.iload_n 3, 0, 0, 0, 0, []),
  (.iconst 2, 0, 0, 0, 0, []),
  (.iadd, 0, 0, 0, 0, []),
  (.iaload, 0, 0, 0, 0, []),
  (.invokevirtual 32, 0, 169, 0, 550, []),
  (.aload_n 2, 0, 0, 0, 0, []),
  (.aload_n 0, 0, 0, 0, 0, []),
  (.iload_n 3, 0, 0, 0, 0, []),
  (.iconst 1, 0, 0, 0, 0, []),
  (.iadd, 0, 0, 0, 0, []),
  (.iaload, 0, 0, 0, 0, []),
  (.aload_n 0, 0, 0, 0, 0, []),
  (.iload_n 3, 0, 0, 0, 0, []),
  (.iconst 2, 0, 0, 0, 0, []),
  (.iadd, 0, 0, 0, 0, []),
  (.iaload, 0, 0, 0, 0, []),
  (.invokevirtual 35, 0, 30, 0, 1001, []),
  (.if_icmp .eq 463, 0, 519, 0, 0, []),
  (.iconst 0, 0, 0, 0, 0, []),
  (.ireturn, 0, 0, 0, 0, []),
  (.aload_n 1, 0, 0, 0, 0, []),
  (.aload_n 0, 0, 0, 0, 0, []),
  (.iload_n 3, 0, 0, 0, 0, []),
  (.iconst 1, 0, 0, 0, 0, []),
  (.iadd, 0, 0, 0, 0, []),
  (.iaload, 0, 0, 0, 0, []),
  (.aload_n 0, 0, 0, 0, 0, []),
  (.iload_n 3, 0, 0, 0, 0, []),
  (.iconst 2, 0, 0, 0, 0, []),
  (.iadd, 0, 0, 0, 0, []),
  (.iaload, 0, 0, 0, 0, []),
  (.invokevirtual 36, 0, 170, 0, 574, []),
  (.aload_n 2, 0, 0, 0, 0, []),
  (.aload_n 0, 0, 0, 0, 0, []),
  (.iload_n 3, 0, 0, 0, 0, []),
  (.iconst 1, 0, 0, 0, 0, []),
  (.iadd, 0, 0, 0, 0, []),
  (.iaload, 0, 0, 0, 0, []),
  (.aload_n 0, 0, 0, 0, 0, []),
  (.iload_n 3, 0, 0, 0, 0, []),
  (.iconst 2, 0, 0, 0, 0, []),
  (.iadd, 0, 0, 0, 0, []),
  (.iaload, 0, 0, 0, 0, []),
  (.invokevirtual 39, 0, 31, 0, 1030, []),
  (.if_icmp .eq 430, 0, 519, 0, 0, []),
  (.iconst 0, 0, 0, 0, 0, []),
  (.ireturn, 0, 0, 0, 0, []),
  (.aload_n 1, 0, 0, 0, 0, []),
  (.aload_n 0, 0, 0, 0, 0, []),
  (.iload_n 3, 0, 0, 0, 0, []),
  (.iconst 1, 0, 0, 0, 0, []),
  (.iadd, 0, 0, 0, 0, []),
  (.iaload, 0, 0, 0, 0, []),
  (.aload_n 0, 0, 0, 0, 0, []),
  (.iload_n 3, 0, 0, 0, 0, []),
  (.iconst 2, 0, 0, 0, 0, []),
  (.iadd, 0, 0, 0, 0, []),
  (.iaload, 0, 0, 0, 0, []),
  (.invokevirtual 40, 0, 171, 0, 587, []),
  (.aload_n 2, 0, 0, 0, 0, []),
  (.aload_n 0, 0, 0, 0, 0, []),
  (.iload_n 3, 0, 0, 0, 0, []),
  (.iconst 1, 0, 0, 0, 0, []),
  (.iadd, 0, 0, 0, 0, []),
  (.iaload, 0, 0, 0, 0, []),
  (.aload_n 0, 0, 0, 0, 0, []),
  (.iload_n 3, 0, 0, 0, 0, []),
  (.iconst 2, 0, 0, 0, 0, []),
  (.iadd, 0, 0, 0, 0, []),
  (.iaload, 0, 0, 0, 0, []),
  (.invokevirtual 43, 0, 32, 0, 1034, []),
  (.if_icmp .eq 397, 0, 519, 0, 0, []),
  (.iconst 0, 0, 0, 0, 0, []),
  (.ireturn, 0, 0, 0, 0, []),
  (.aload_n 1, 0, 0, 0, 0, []),
  (.aload_n 0, 0, 0, 0, 0, []),
  (.iload_n 3, 0, 0, 0, 0, []),
  (.iconst 1, 0, 0, 0, 0, []),
  (.iadd, 0, 0, 0, 0, []),
  (.iaload, 0, 0, 0, 0, []),
  (.aload_n 0, 0, 0, 0, 0, []),
  (.iload_n 3, 0, 0, 0, 0, []),
  (.iconst 2, 0, 0, 0, 0, []),
  (.iadd, 0, 0, 0, 0, []),
  (.iaload, 0, 0, 0, 0, []),
  (.aload_n 0, 0, 0, 0, 0, []),
  (.iload_n 3, 0, 0, 0, 0, []),
  (.iconst 3, 0, 0, 0, 0, []),
  (.iadd, 0, 0, 0, 0, []),
  (.iaload, 0, 0, 0, 0, []),
  (.aload_n 0, 0, 0, 0, 0, []),
  (.iload_n 3, 0, 0, 0, 0, []),
  (.iconst 4, 0, 0, 0, 0, []),
  (.iadd, 0, 0, 0, 0, []),
  (.iaload, 0, 0, 0, 0, []),
  (.aload_n 0, 0, 0, 0, 0, []),
  (.iload_n 3, 0, 0, 0, 0, []),
  (.iconst 5, 0, 0, 0, 0, []),
  (.iadd, 0, 0, 0, 0, []),
  (.iaload, 0, 0, 0, 0, []),
  (.invokevirtual 44, 0, 172, 0, 595, []),
  (.aload_n 2, 0, 0, 0, 0, []),
  (.aload_n 0, 0, 0, 0, 0, []),
  (.iload_n 3, 0, 0, 0, 0, []),
  (.iconst 1, 0, 0, 0, 0, []),
  (.iadd, 0, 0, 0, 0, []),
  (.iaload, 0, 0, 0, 0, []),
  (.aload_n 0, 0, 0, 0, 0, []),
  (.iload_n 3, 0, 0, 0, 0, []),
  (.iconst 2, 0, 0, 0, 0, []),
  (.iadd, 0, 0, 0, 0, []),
  (.iaload, 0, 0, 0, 0, []),
  (.aload_n 0, 0, 0, 0, 0, []),
  (.iload_n 3, 0, 0, 0, 0, []),
  (.iconst 3, 0, 0, 0, 0, []),
  (.iadd, 0, 0, 0, 0, []),
  (.iaload, 0, 0, 0, 0, []),
  (.aload_n 0, 0, 0, 0, 0, []),
  (.iload_n 3, 0, 0, 0, 0, []),
  (.iconst 4, 0, 0, 0, 0, []),
  (.iadd, 0, 0, 0, 0, []),
  (.iaload, 0, 0, 0, 0, []),
  (.aload_n 0, 0, 0, 0, 0, []),
  (.iload_n 3, 0, 0, 0, 0, []),
  (.iconst 5, 0, 0, 0, 0, []),
  (.iadd, 0, 0, 0, 0, []),
  (.iaload, 0, 0, 0, 0, []),
  (.invokevirtual 48, 0, 58, 0, 1038, []),
  (.if_icmp .eq 334, 0, 519, 0, 0, []),
  (.iconst 0, 0, 0, 0, 0, []),
  (.ireturn, 0, 0, 0, 0, []),
  (.aload_n 1, 0, 0, 0, 0, []),
  (.aload_n 0, 0, 0, 0, 0, []),
  (.iload_n 3, 0, 0, 0, 0, []),
  (.iconst 1, 0, 0, 0, 0, []),
  (.iadd, 0, 0, 0, 0, []),
  (.iaload, 0, 0, 0, 0, []),
  (.invokevirtual 49, 0, 173, 0, 620, []),
  (.aload_n 2, 0, 0, 0, 0, []),
  (.aload_n 0, 0, 0, 0, 0, []),
  (.iload_n 3, 0, 0, 0, 0, []),
  (.iconst 1, 0, 0, 0, 0, []),
  (.iadd, 0, 0, 0, 0, []),
  (.iaload, 0, 0, 0, 0, []),
  (.invokevirtual 52, 0, 60, 0, 1060, []),
  (.if_icmp .eq 311, 0, 519, 0, 0, []),
  (.iconst 0, 0, 0, 0, 0, []),
  (.ireturn, 0, 0, 0, 0, []),
  (.aload_n 1, 0, 0, 0, 0, []),
  (.aload_n 0, 0, 0, 0, 0, []),
  (.iload_n 3, 0, 0, 0, 0, []),
  (.iconst 1, 0, 0, 0, 0, []),
  (.iadd, 0, 0, 0, 0, []),
  (.iaload, 0, 0, 0, 0, []),
  (.aload_n 0, 0, 0, 0, 0, []),
  (.iload_n 3, 0, 0, 0, 0, []),
  (.iconst 2, 0, 0, 0, 0, []),
  (.iadd, 0, 0, 0, 0, []),
  (.iaload, 0, 0, 0, 0, []),
  (.aload_n 0, 0, 0, 0, 0, []),
  (.iload_n 3, 0, 0, 0, 0, []),
  (.iconst 3, 0, 0, 0, 0, []),
  (.iadd, 0, 0, 0, 0, []),
  (.iaload, 0, 0, 0, 0, []),
  (.invokevirtual 53, 0, 174, 0, 726, []),
  (.aload_n 2, 0, 0, 0, 0, []),
  (.aload_n 0, 0, 0, 0, 0, []),
  (.iload_n 3, 0, 0, 0, 0, []),
  (.iconst 1, 0, 0, 0, 0, []),
  (.iadd, 0, 0, 0, 0, []),
  (.iaload, 0, 0, 0, 0, []),
  (.aload_n 0, 0, 0, 0, 0, []),
  (.iload_n 3, 0, 0, 0, 0, []),
  (.iconst 2, 0, 0, 0, 0, []),
  (.iadd, 0, 0, 0, 0, []),
  (.iaload, 0, 0, 0, 0, []),
  (.aload_n 0, 0, 0, 0, 0, []),
  (.iload_n 3, 0, 0, 0, 0, []),
  (.iconst 3, 0, 0, 0, 0, []),
  (.iadd, 0, 0, 0, 0, []),
  (.iaload, 0, 0, 0, 0, []),
  (.invokevirtual 56, 0, 61, 0, 1144, []),
  (.if_icmp .eq 268, 0, 519, 0, 0, []),
  (.iconst 0, 0, 0, 0, 0, []),
  (.ireturn, 0, 0, 0, 0, []),
  (.aload_n 1, 0, 0, 0, 0, []),
  (.aload_n 0, 0, 0, 0, 0, []),
  (.iload_n 3, 0, 0, 0, 0, []),
  (.iconst 1, 0, 0, 0, 0, []),
  (.iadd, 0, 0, 0, 0, []),
  (.iaload, 0, 0, 0, 0, []),
  (.aload_n 0, 0, 0, 0, 0, []),
  (.iload_n 3, 0, 0, 0, 0, []),
  (.iconst 2, 0, 0, 0, 0, []),
  (.iadd, 0, 0, 0, 0, []),
  (.iaload, 0, 0, 0, 0, []),
  (.invokevirtual 57, 0, 175, 0, 743, []),
  (.aload_n 2, 0, 0, 0, 0, []),
  (.aload_n 0, 0, 0, 0, 0, []),
  (.iload_n 3, 0, 0, 0, 0, []),
  (.iconst 1, 0, 0, 0, 0, []),
  (.iadd, 0, 0, 0, 0, []),
  (.iaload, 0, 0, 0, 0, []),
  (.aload_n 0, 0, 0, 0, 0, []),
  (.iload_n 3, 0, 0, 0, 0, []),
  (.iconst 2, 0, 0, 0, 0, []),
  (.iadd, 0, 0, 0, 0, []),
  (.iaload, 0, 0, 0, 0, []),
  (.invokevirtual 60, 0, 63, 0, 1152, []),
  (.if_icmp .eq 235, 0, 519, 0, 0, []),
  (.iconst 0, 0, 0, 0, 0, []),
  (.ireturn, 0, 0, 0, 0, []),
  (.aload_n 1, 0, 0, 0, 0, []),
  (.aload_n 0, 0, 0, 0, 0, []),
  (.iload_n 3, 0, 0, 0, 0, []),
  (.iconst 1, 0, 0, 0, 0, []),
  (.iadd, 0, 0, 0, 0, []),
  (.iaload, 0, 0, 0, 0, []),
  (.aload_n 0, 0, 0, 0, 0, []),
  (.iload_n 3, 0, 0, 0, 0, []),
  (.iconst 2, 0, 0, 0, 0, []),
  (.iadd, 0, 0, 0, 0, []),
  (.iaload, 0, 0, 0, 0, []),
  (.aload_n 0, 0, 0, 0, 0, []),
  (.iload_n 3, 0, 0, 0, 0, []),
  (.iconst 3, 0, 0, 0, 0, []),
  (.iadd, 0, 0, 0, 0, []),
  (.iaload, 0, 0, 0, 0, []),
  (.invokevirtual 61, 0, 176, 0, 766, []),
  (.aload_n 2, 0, 0, 0, 0, []),
  (.aload_n 0, 0, 0, 0, 0, []),
  (.iload_n 3, 0, 0, 0, 0, []),
  (.iconst 1, 0, 0, 0, 0, []),
  (.iadd, 0, 0, 0, 0, []),
  (.iaload, 0, 0, 0, 0, []),
  (.aload_n 0, 0, 0, 0, 0, []),
  (.iload_n 3, 0, 0, 0, 0, []),
  (.iconst 2, 0, 0, 0, 0, []),
  (.iadd, 0, 0, 0, 0, []),
  (.iaload, 0, 0, 0, 0, []),
  (.aload_n 0, 0, 0, 0, 0, []),
  (.iload_n 3, 0, 0, 0, 0, []),
  (.iconst 3, 0, 0, 0, 0, []),
  (.iadd, 0, 0, 0, 0, []),
  (.iaload, 0, 0, 0, 0, []),
  (.invokevirtual 64, 0, 64, 0, 1159, []),
  (.if_icmp .eq 192, 0, 519, 0, 0, []),
  (.iconst 0, 0, 0, 0, 0, []),
  (.ireturn, 0, 0, 0, 0, []),
  (.aload_n 1, 0, 0, 0, 0, []),
  (.aload_n 0, 0, 0, 0, 0, []),
  (.iload_n 3, 0, 0, 0, 0, []),
  (.iconst 1, 0, 0, 0, 0, []),
  (.iadd, 0, 0, 0, 0, []),
  (.iaload, 0, 0, 0, 0, []),
  (.aload_n 0, 0, 0, 0, 0, []),
  (.iload_n 3, 0, 0, 0, 0, []),
  (.iconst 2, 0, 0, 0, 0, []),
  (.iadd, 0, 0, 0, 0, []),
  (.iaload, 0, 0, 0, 0, []),
  (.aload_n 0, 0, 0, 0, 0, []),
  (.iload_n 3, 0, 0, 0, 0, []),
  (.iconst 3, 0, 0, 0, 0, []),
  (.iadd, 0, 0, 0, 0, []),
  (.iaload, 0, 0, 0, 0, []),
  (.invokevirtual 65, 0, 177, 0, 777, []),
  (.aload_n 2, 0, 0, 0, 0, []),
  (.aload_n 0, 0, 0, 0, 0, []),
  (.iload_n 3, 0, 0, 0, 0, []),
  (.iconst 1, 0, 0, 0, 0, []),
  (.iadd, 0, 0, 0, 0, []),
  (.iaload, 0, 0, 0, 0, []),
  (.aload_n 0, 0, 0, 0, 0, []),
  (.iload_n 3, 0, 0, 0, 0, []),
  (.iconst 2, 0, 0, 0, 0, []),
  (.iadd, 0, 0, 0, 0, []),
  (.iaload, 0, 0, 0, 0, []),
  (.aload_n 0, 0, 0, 0, 0, []),
  (.iload_n 3, 0, 0, 0, 0, []),
  (.iconst 3, 0, 0, 0, 0, []),
  (.iadd, 0, 0, 0, 0, []),
  (.iaload, 0, 0, 0, 0, []),
  (.invokevirtual 68, 0, 65, 0, 1163, []),
  (.if_icmp .eq 149, 0, 519, 0, 0, []),
  (.iconst 0, 0, 0, 0, 0, []),
  (.ireturn, 0, 0, 0, 0, []),
  (.aload_n 1, 0, 0, 0, 0, []),
  (.invokevirtual 69, 0, 178, 0, 781, []),
  (.aload_n 2, 0, 0, 0, 0, []),
  (.invokevirtual 73, 0, 66, 0, 1167, []),
  (.if_icmp .eq 136, 0, 519, 0, 0, []),
  (.iconst 0, 0, 0, 0, 0, []),
  (.ireturn, 0, 0, 0, 0, []),
  (.aload_n 1, 0, 0, 0, 0, []),
  (.aload_n 0, 0, 0, 0, 0, []),
  (.iload_n 3, 0, 0, 0, 0, []),
  (.iconst 1, 0, 0, 0, 0, []),
  (.iadd, 0, 0, 0, 0, []),
  (.iaload, 0, 0, 0, 0, []),
  (.invokevirtual 74, 0, 179, 0, 785, []),
  (.aload_n 2, 0, 0, 0, 0, []),
  (.aload_n 0, 0, 0, 0, 0, []),
  (.iload_n 3, 0, 0, 0, 0, []),
  (.iconst 1, 0, 0, 0, 0, []),
  (.iadd, 0, 0, 0, 0, []),
  (.iaload, 0, 0, 0, 0, []),
  (.invokevirtual 77, 0, 67, 0, 1179, []),
  (.if_icmp .eq 113, 0, 519, 0, 0, []),
  (.iconst 0, 0, 0, 0, 0, []),
  (.ireturn, 0, 0, 0, 0, []),
  (.aload_n 1, 0, 0, 0, 0, []),
  (.aload_n 0, 0, 0, 0, 0, []),
  (.iload_n 3, 0, 0, 0, 0, []),
  (.iconst 1, 0, 0, 0, 0, []),
  (.iadd, 0, 0, 0, 0, []),
  (.iaload, 0, 0, 0, 0, []),
  (.invokevirtual 78, 0, 180, 0, 789, []),
  (.aload_n 2, 0, 0, 0, 0, []),
  (.aload_n 0, 0, 0, 0, 0, []),
  (.iload_n 3, 0, 0, 0, 0, []),
  (.iconst 1, 0, 0, 0, 0, []),
  (.iadd, 0, 0, 0, 0, []),
  (.iaload, 0, 0, 0, 0, []),
  (.invokevirtual 81, 0, 69, 0, 1183, []),
  (.if_icmp .eq 90, 0, 519, 0, 0, []),
  (.iconst 0, 0, 0, 0, 0, []),
  (.ireturn, 0, 0, 0, 0, []),
  (.aload_n 1, 0, 0, 0, 0, []),
  (.invokevirtual 82, 0, 181, 0, 806, []),
  (.aload_n 2, 0, 0, 0, 0, []),
  (.invokevirtual 85, 0, 70, 0, 1191, []),
  (.if_icmp .eq 77, 0, 519, 0, 0, []),
  (.iconst 0, 0, 0, 0, 0, []),
  (.ireturn, 0, 0, 0, 0, []),
  (.aload_n 1, 0, 0, 0, 0, []),
  (.aload_n 0, 0, 0, 0, 0, []),
  (.iload_n 3, 0, 0, 0, 0, []),
  (.iconst 1, 0, 0, 0, 0, []),
  (.iadd, 0, 0, 0, 0, []),
  (.iaload, 0, 0, 0, 0, []),
  (.invokevirtual 86, 0, 182, 0, 811, []),
  (.aload_n 2, 0, 0, 0, 0, []),
  (.aload_n 0, 0, 0, 0, 0, []),
  (.iload_n 3, 0, 0, 0, 0, []),
  (.iconst 1, 0, 0, 0, 0, []),
  (.iadd, 0, 0, 0, 0, []),
  (.iaload, 0, 0, 0, 0, []),
  (.invokevirtual 89, 0, 71, 0, 1195, []),
  (.if_icmp .eq 54, 0, 519, 0, 0, []),
  (.iconst 0, 0, 0, 0, 0, []),
  (.ireturn, 0, 0, 0, 0, []),
  (.aload_n 1, 0, 0, 0, 0, []),
  (.invokevirtual 90, 0, 183, 0, 820, []),
  (.aload_n 2, 0, 0, 0, 0, []),
  (.invokevirtual 93, 0, 72, 0, 1199, []),
  (.if_icmp .eq 41, 0, 519, 0, 0, []),
  (.iconst 0, 0, 0, 0, 0, []),
  (.ireturn, 0, 0, 0, 0, []),
  (.aload_n 1, 0, 0, 0, 0, []),
  (.aload_n 0, 0, 0, 0, 0, []),
  (.iload_n 3, 0, 0, 0, 0, []),
  (.iconst 1, 0, 0, 0, 0, []),
  (.iadd, 0, 0, 0, 0, []),
  (.iaload, 0, 0, 0, 0, []),
  (.invokevirtual 94, 0, 184, 0, 824, []),
  (.aload_n 2, 0, 0, 0, 0, []),
  (.aload_n 0, 0, 0, 0, 0, []),
  (.iload_n 3, 0, 0, 0, 0, []),
  (.iconst 1, 0, 0, 0, 0, []),
  (.iadd, 0, 0, 0, 0, []),
  (.iaload, 0, 0, 0, 0, []),
  (.invokevirtual 97, 0, 79, 0, 1203, []),
  (.if_icmp .eq 18, 0, 519, 0, 0, []),
  (.iconst 0, 0, 0, 0, 0, []),
  (.ireturn, 0, 0, 0, 0, []),
  (.aload_n 1, 0, 0, 0, 0, []),
  (.invokevirtual 98, 0, 185, 0, 861, []),
  (.aload_n 2, 0, 0, 0, 0, []),
  (.invokevirtual 101, 0, 80, 0, 1231, []),
  (.if_icmp .eq 5, 0, 519, 0, 0, []),
  (.iconst 0, 0, 0, 0, 0, []),
  (.ireturn, 0, 0, 0, 0, []),
  (.iinc 3 6, 0, 0, 0, 0, []),
  (.goto (-740), 0, 10, 0, 0, []),
  (.iconst 1, 0, 0, 0, 0, []),
  (.ireturn, 0, 0, 0, 0, [])]
set_option maxRecDepth 20000 in
/-- PhasorTreeModel.<init>()V -/
def c_m_init : List Ins := [(.aload_n 0, 0, 0, 0, 0, []),
  (.invokespecial 1, 0, 0, 6, 870, []),
  (.aload_n 0, 0, 0, 0, 0, []),
  (.sipush 15568, 0, 0, 0, 0, []),
  (.newarray .int, 0, 0, 0, 0, []),
  (.putfield 7, 0, 7, 0, 872, []),
  (.aload_n 0, 0, 0, 0, 0, []),
  (.ldc 13, 62272, 0, 0, 871, []),
  (.newarray .int, 0, 0, 0, 0, []),
  (.putfield 14, 0, 7, 1, 873, []),
  (.aload_n 0, 0, 0, 0, 0, []),
  (.sipush 15568, 0, 0, 0, 0, []),
  (.newarray .int, 0, 0, 0, 0, []),
  (.putfield 17, 0, 7, 2, 874, []),
  (.aload_n 0, 0, 0, 0, 0, []),
  (.sipush 15568, 0, 0, 0, 0, []),
  (.newarray .int, 0, 0, 0, 0, []),
  (.putfield 20, 0, 7, 3, 875, []),
  (.aload_n 0, 0, 0, 0, 0, []),
  (.bipush 60, 0, 0, 0, 0, []),
  (.newarray .char, 0, 0, 0, 0, []),
  (.putfield 23, 0, 7, 5, 877, []),
  (.aload_n 0, 0, 0, 0, 0, []),
  (.iconst 3, 0, 0, 0, 0, []),
  (.newarray .int, 0, 0, 0, 0, []),
  (.putfield 27, 0, 7, 9, 881, []),
  (.aload_n 0, 0, 0, 0, 0, []),
  (.bipush 10, 0, 0, 0, 0, []),
  (.newarray .int, 0, 0, 0, 0, []),
  (.putfield 30, 0, 7, 10, 882, []),
  (.aload_n 0, 0, 0, 0, 0, []),
  (.bipush 10, 0, 0, 0, 0, []),
  (.newarray .int, 0, 0, 0, 0, []),
  (.putfield 33, 0, 7, 11, 883, []),
  (.aload_n 0, 0, 0, 0, 0, []),
  (.sipush 560, 0, 0, 0, 0, []),
  (.newarray .int, 0, 0, 0, 0, []),
  (.putfield 36, 0, 7, 12, 884, []),
  (.aload_n 0, 0, 0, 0, 0, []),
  (.getfield 7, 0, 7, 0, 872, []),
  (.iconst 0, 0, 0, 0, 0, []),
  (.iconst 1, 0, 0, 0, 0, []),
  (.iastore, 0, 0, 0, 0, []),
  (.aload_n 0, 0, 0, 0, 0, []),
  (.getfield 7, 0, 7, 0, 872, []),
  (.bipush 12, 0, 0, 0, 0, []),
  (.iconst 1, 0, 0, 0, 0, []),
  (.iastore, 0, 0, 0, 0, []),
  (.aload_n 0, 0, 0, 0, 0, []),
  (.getfield 7, 0, 7, 0, 872, []),
  (.bipush 13, 0, 0, 0, 0, []),
  (.iconst (-1), 0, 0, 0, 0, []),
  (.iastore, 0, 0, 0, 0, []),
  (.return_, 0, 0, 0, 0, [])]
set_option maxRecDepth 20000 in
/-- PhasorTreeModel.in(III)Z -/
def c_m_in : List Ins := [(.iload_n 0, 0, 0, 0, 0, []),
  (.iload_n 1, 0, 0, 0, 0, []),
  (.if_icmp .lt 12, 0, 8, 0, 0, []),
  (.iload_n 0, 0, 0, 0, 0, []),
  (.iload_n 2, 0, 0, 0, 0, []),
  (.if_icmp .gt 7, 0, 8, 0, 0, []),
  (.iconst 1, 0, 0, 0, 0, []),
  (.goto 4, 0, 9, 0, 0, []),
  (.iconst 0, 0, 0, 0, 0, []),
  (.ireturn, 0, 0, 0, 0, [])]
set_option maxRecDepth 20000 in
/-- PhasorTreeModel.of(II)I -/
def c_m_of : List Ins := [(.aload_n 0, 0, 0, 0, 0, []),
  (.getfield 7, 0, 7, 0, 872, []),
  (.bipush 8, 0, 0, 0, 0, []),
  (.bipush 10, 0, 0, 0, 0, []),
  (.iload_n 1, 0, 0, 0, 0, []),
  (.imul, 0, 0, 0, 0, []),
  (.iadd, 0, 0, 0, 0, []),
  (.iload_n 2, 0, 0, 0, 0, []),
  (.iadd, 0, 0, 0, 0, []),
  (.iaload, 0, 0, 0, 0, []),
  (.ireturn, 0, 0, 0, 0, [])]
set_option maxRecDepth 20000 in
/-- PhasorTreeModel.its(II)I -/
def c_m_its : List Ins := [(.aload_n 0, 0, 0, 0, 0, []),
  (.getfield 7, 0, 7, 0, 872, []),
  (.bipush 58, 0, 0, 0, 0, []),
  (.iconst 4, 0, 0, 0, 0, []),
  (.iload_n 1, 0, 0, 0, 0, []),
  (.imul, 0, 0, 0, 0, []),
  (.iadd, 0, 0, 0, 0, []),
  (.iload_n 2, 0, 0, 0, 0, []),
  (.iadd, 0, 0, 0, 0, []),
  (.iaload, 0, 0, 0, 0, []),
  (.ireturn, 0, 0, 0, 0, [])]
set_option maxRecDepth 20000 in
/-- PhasorTreeModel.fr(II)I -/
def c_m_fr : List Ins := [(.aload_n 0, 0, 0, 0, 0, []),
  (.getfield 7, 0, 7, 0, 872, []),
  (.sipush 448, 0, 0, 0, 0, []),
  (.bipush 27, 0, 0, 0, 0, []),
  (.iload_n 1, 0, 0, 0, 0, []),
  (.imul, 0, 0, 0, 0, []),
  (.iadd, 0, 0, 0, 0, []),
  (.iload_n 2, 0, 0, 0, 0, []),
  (.iadd, 0, 0, 0, 0, []),
  (.iaload, 0, 0, 0, 0, []),
  (.ireturn, 0, 0, 0, 0, [])]
set_option maxRecDepth 20000 in
/-- PhasorTreeModel.lays(III)V -/
def c_m_lays : List Ins := [(.aload_n 0, 0, 0, 0, 0, []),
  (.getfield 7, 0, 7, 0, 872, []),
  (.sipush 448, 0, 0, 0, 0, []),
  (.bipush 27, 0, 0, 0, 0, []),
  (.iload_n 1, 0, 0, 0, 0, []),
  (.imul, 0, 0, 0, 0, []),
  (.iadd, 0, 0, 0, 0, []),
  (.iload_n 2, 0, 0, 0, 0, []),
  (.iadd, 0, 0, 0, 0, []),
  (.iload_n 3, 0, 0, 0, 0, []),
  (.iastore, 0, 0, 0, 0, []),
  (.return_, 0, 0, 0, 0, [])]
set_option maxRecDepth 20000 in
/-- PhasorTreeModel.isHub(I)Z -/
def c_m_isHub : List Ins := [(.iload_n 1, 0, 0, 0, 0, []),
  (.iconst 0, 0, 0, 0, 0, []),
  (.aload_n 0, 0, 0, 0, 0, []),
  (.getfield 7, 0, 7, 0, 872, []),
  (.iconst 0, 0, 0, 0, 0, []),
  (.iaload, 0, 0, 0, 0, []),
  (.iconst 1, 0, 0, 0, 0, []),
  (.isub, 0, 0, 0, 0, []),
  (.invokestatic 39, 0, 2, 2, 923, []),
  (.ireturn, 0, 0, 0, 0, [])]
set_option maxRecDepth 20000 in
/-- PhasorTreeModel.isUnit(I)Z -/
def c_m_isUnit : List Ins := [(.iload_n 1, 0, 0, 0, 0, []),
  (.iconst 0, 0, 0, 0, 0, []),
  (.aload_n 0, 0, 0, 0, 0, []),
  (.getfield 7, 0, 7, 0, 872, []),
  (.iconst 1, 0, 0, 0, 0, []),
  (.iaload, 0, 0, 0, 0, []),
  (.iconst 1, 0, 0, 0, 0, []),
  (.isub, 0, 0, 0, 0, []),
  (.invokestatic 39, 0, 2, 2, 923, []),
  (.ireturn, 0, 0, 0, 0, [])]
set_option maxRecDepth 20000 in
/-- PhasorTreeModel.isOn(I)Z -/
def c_m_isOn : List Ins := [(.aload_n 0, 0, 0, 0, 0, []),
  (.iload_n 1, 0, 0, 0, 0, []),
  (.iconst 2, 0, 0, 0, 0, []),
  (.invokevirtual 43, 0, 4, 0, 965, []),
  (.ifCond .ne 7, 0, 7, 0, 0, []),
  (.iconst 1, 0, 0, 0, 0, []),
  (.goto 4, 0, 8, 0, 0, []),
  (.iconst 0, 0, 0, 0, 0, []),
  (.ireturn, 0, 0, 0, 0, [])]
set_option maxRecDepth 20000 in
/-- PhasorTreeModel.keeps()V -/
def c_m_keeps : List Ins := [(.iconst 0, 0, 0, 0, 0, []),
  (.istore_n 1, 0, 0, 0, 0, []),
  (.iload_n 1, 0, 0, 0, 0, []),
  (.sipush 15568, 0, 0, 0, 0, []),
  (.if_icmp .ge 21, 0, 15, 0, 0, []),
  (.aload_n 0, 0, 0, 0, 0, []),
  (.getfield 17, 0, 7, 2, 874, []),
  (.iload_n 1, 0, 0, 0, 0, []),
  (.aload_n 0, 0, 0, 0, 0, []),
  (.getfield 7, 0, 7, 0, 872, []),
  (.iload_n 1, 0, 0, 0, 0, []),
  (.iaload, 0, 0, 0, 0, []),
  (.iastore, 0, 0, 0, 0, []),
  (.iinc 1 1, 0, 0, 0, 0, []),
  (.goto (-22), 0, 2, 0, 0, []),
  (.return_, 0, 0, 0, 0, [])]
set_option maxRecDepth 20000 in
/-- PhasorTreeModel.acted(I)I -/
def c_m_acted : List Ins := [(.iload_n 1, 0, 0, 0, 0, []),
  (.ldc 47, (-1000001), 0, 0, 926, []),
  (.if_icmp .le 97, 0, 56, 0, 0, []),
  (.aload_n 0, 0, 0, 0, 0, []),
  (.getfield 48, 0, 7, 4, 876, []),
  (.iconst 4, 0, 0, 0, 0, []),
  (.if_icmp .ne 43, 0, 30, 0, 0, []),
  (.iconst 0, 0, 0, 0, 0, []),
  (.istore_n 2, 0, 0, 0, 0, []),
  (.iload_n 2, 0, 0, 0, 0, []),
  (.ldc 52, 46704, 0, 0, 944, []),
  (.if_icmp .ge 25, 0, 24, 0, 0, []),
  (.aload_n 0, 0, 0, 0, 0, []),
  (.getfield 14, 0, 7, 1, 873, []),
  (.iload_n 2, 0, 0, 0, 0, []),
  (.aload_n 0, 0, 0, 0, 0, []),
  (.getfield 14, 0, 7, 1, 873, []),
  (.iload_n 2, 0, 0, 0, 0, []),
  (.sipush 15568, 0, 0, 0, 0, []),
  (.iadd, 0, 0, 0, 0, []),
  (.iaload, 0, 0, 0, 0, []),
  (.iastore, 0, 0, 0, 0, []),
  (.iinc 2 1, 0, 0, 0, 0, []),
  (.goto (-25), 0, 9, 0, 0, []),
  (.aload_n 0, 0, 0, 0, 0, []),
  (.dup, 0, 0, 0, 0, []),
  (.getfield 48, 0, 7, 4, 876, []),
  (.iconst 1, 0, 0, 0, 0, []),
  (.isub, 0, 0, 0, 0, []),
  (.putfield 48, 0, 7, 4, 876, []),
  (.iconst 0, 0, 0, 0, 0, []),
  (.istore_n 2, 0, 0, 0, 0, []),
  (.iload_n 2, 0, 0, 0, 0, []),
  (.sipush 15568, 0, 0, 0, 0, []),
  (.if_icmp .ge 30, 0, 50, 0, 0, []),
  (.aload_n 0, 0, 0, 0, 0, []),
  (.getfield 14, 0, 7, 1, 873, []),
  (.sipush 15568, 0, 0, 0, 0, []),
  (.aload_n 0, 0, 0, 0, 0, []),
  (.getfield 48, 0, 7, 4, 876, []),
  (.imul, 0, 0, 0, 0, []),
  (.iload_n 2, 0, 0, 0, 0, []),
  (.iadd, 0, 0, 0, 0, []),
  (.aload_n 0, 0, 0, 0, 0, []),
  (.getfield 17, 0, 7, 2, 874, []),
  (.iload_n 2, 0, 0, 0, 0, []),
  (.iaload, 0, 0, 0, 0, []),
  (.iastore, 0, 0, 0, 0, []),
  (.iinc 2 1, 0, 0, 0, 0, []),
  (.goto (-31), 0, 32, 0, 0, []),
  (.aload_n 0, 0, 0, 0, 0, []),
  (.dup, 0, 0, 0, 0, []),
  (.getfield 48, 0, 7, 4, 876, []),
  (.iconst 1, 0, 0, 0, 0, []),
  (.iadd, 0, 0, 0, 0, []),
  (.putfield 48, 0, 7, 4, 876, []),
  (.iload_n 1, 0, 0, 0, 0, []),
  (.ireturn, 0, 0, 0, 0, [])]
set_option maxRecDepth 20000 in
/-- PhasorTreeModel.puts()V -/
def c_m_puts : List Ins := [(.iconst 0, 0, 0, 0, 0, []),
  (.istore_n 1, 0, 0, 0, 0, []),
  (.iload_n 1, 0, 0, 0, 0, []),
  (.sipush 15568, 0, 0, 0, 0, []),
  (.if_icmp .ge 21, 0, 15, 0, 0, []),
  (.aload_n 0, 0, 0, 0, 0, []),
  (.getfield 20, 0, 7, 3, 875, []),
  (.iload_n 1, 0, 0, 0, 0, []),
  (.aload_n 0, 0, 0, 0, 0, []),
  (.getfield 7, 0, 7, 0, 872, []),
  (.iload_n 1, 0, 0, 0, 0, []),
  (.iaload, 0, 0, 0, 0, []),
  (.iastore, 0, 0, 0, 0, []),
  (.iinc 1 1, 0, 0, 0, 0, []),
  (.goto (-22), 0, 2, 0, 0, []),
  (.return_, 0, 0, 0, 0, [])]
set_option maxRecDepth 20000 in
/-- PhasorTreeModel.restores()V -/
def c_m_restores : List Ins := [(.iconst 0, 0, 0, 0, 0, []),
  (.istore_n 1, 0, 0, 0, 0, []),
  (.iload_n 1, 0, 0, 0, 0, []),
  (.sipush 15568, 0, 0, 0, 0, []),
  (.if_icmp .ge 21, 0, 15, 0, 0, []),
  (.aload_n 0, 0, 0, 0, 0, []),
  (.getfield 7, 0, 7, 0, 872, []),
  (.iload_n 1, 0, 0, 0, 0, []),
  (.aload_n 0, 0, 0, 0, 0, []),
  (.getfield 20, 0, 7, 3, 875, []),
  (.iload_n 1, 0, 0, 0, 0, []),
  (.iaload, 0, 0, 0, 0, []),
  (.iastore, 0, 0, 0, 0, []),
  (.iinc 1 1, 0, 0, 0, 0, []),
  (.goto (-22), 0, 2, 0, 0, []),
  (.return_, 0, 0, 0, 0, [])]
set_option maxRecDepth 20000 in
/-- PhasorTreeModel.goWith(II)Z -/
def c_m_goWith : List Ins := [(.iload_n 0, 0, 0, 0, 0, []),
  (.iload_n 1, 0, 0, 0, 0, []),
  (.irem, 0, 0, 0, 0, []),
  (.ifCond .eq 9, 0, 8, 0, 0, []),
  (.iload_n 1, 0, 0, 0, 0, []),
  (.iload_n 0, 0, 0, 0, 0, []),
  (.irem, 0, 0, 0, 0, []),
  (.ifCond .ne 7, 0, 10, 0, 0, []),
  (.iconst 1, 0, 0, 0, 0, []),
  (.goto 4, 0, 11, 0, 0, []),
  (.iconst 0, 0, 0, 0, 0, []),
  (.ireturn, 0, 0, 0, 0, [])]
set_option maxRecDepth 20000 in
/-- PhasorTreeModel.isChild(II)Z -/
def c_m_isChild : List Ins := [(.iload_n 2, 0, 0, 0, 0, []),
  (.bipush 10, 0, 0, 0, 0, []),
  (.if_icmp .ge 35, 0, 21, 0, 0, []),
  (.aload_n 0, 0, 0, 0, 0, []),
  (.iload_n 2, 0, 0, 0, 0, []),
  (.invokevirtual 53, 0, 8, 0, 957, []),
  (.ifCond .eq 25, 0, 19, 0, 0, []),
  (.aload_n 0, 0, 0, 0, 0, []),
  (.iload_n 2, 0, 0, 0, 0, []),
  (.invokevirtual 57, 0, 9, 0, 961, []),
  (.ifCond .eq 17, 0, 19, 0, 0, []),
  (.aload_n 0, 0, 0, 0, 0, []),
  (.iload_n 2, 0, 0, 0, 0, []),
  (.iconst 0, 0, 0, 0, 0, []),
  (.invokevirtual 43, 0, 4, 0, 965, []),
  (.iload_n 1, 0, 0, 0, 0, []),
  (.if_icmp .ne 7, 0, 19, 0, 0, []),
  (.iconst 1, 0, 0, 0, 0, []),
  (.goto 4, 0, 20, 0, 0, []),
  (.iconst 0, 0, 0, 0, 0, []),
  (.ireturn, 0, 0, 0, 0, []),
  (.aload_n 0, 0, 0, 0, 0, []),
  (.iload_n 2, 0, 0, 0, 0, []),
  (.bipush 10, 0, 0, 0, 0, []),
  (.isub, 0, 0, 0, 0, []),
  (.invokevirtual 60, 0, 7, 0, 919, []),
  (.ifCond .eq 20, 0, 37, 0, 0, []),
  (.aload_n 0, 0, 0, 0, 0, []),
  (.iload_n 2, 0, 0, 0, 0, []),
  (.bipush 10, 0, 0, 0, 0, []),
  (.isub, 0, 0, 0, 0, []),
  (.iconst 5, 0, 0, 0, 0, []),
  (.invokevirtual 63, 0, 3, 0, 927, []),
  (.iload_n 1, 0, 0, 0, 0, []),
  (.if_icmp .ne 7, 0, 37, 0, 0, []),
  (.iconst 1, 0, 0, 0, 0, []),
  (.goto 4, 0, 38, 0, 0, []),
  (.iconst 0, 0, 0, 0, 0, []),
  (.ireturn, 0, 0, 0, 0, [])]
set_option maxRecDepth 20000 in
/-- PhasorTreeModel.periodOf(I)I -/
def c_m_periodOf : List Ins := [(.iload_n 1, 0, 0, 0, 0, []),
  (.bipush 10, 0, 0, 0, 0, []),
  (.if_icmp .ge 12, 0, 8, 0, 0, []),
  (.aload_n 0, 0, 0, 0, 0, []),
  (.iload_n 1, 0, 0, 0, 0, []),
  (.iconst 1, 0, 0, 0, 0, []),
  (.invokevirtual 43, 0, 4, 0, 965, []),
  (.goto 12, 0, 14, 0, 0, []),
  (.aload_n 0, 0, 0, 0, 0, []),
  (.iload_n 1, 0, 0, 0, 0, []),
  (.bipush 10, 0, 0, 0, 0, []),
  (.isub, 0, 0, 0, 0, []),
  (.iconst 4, 0, 0, 0, 0, []),
  (.invokevirtual 63, 0, 3, 0, 927, []),
  (.ireturn, 0, 0, 0, 0, [])]
set_option maxRecDepth 20000 in
/-- PhasorTreeModel.through(II)I -/
def c_m_through : List Ins := [(.iload_n 2, 0, 0, 0, 0, []),
  (.istore_n 3, 0, 0, 0, 0, []),
  (.aload_n 0, 0, 0, 0, 0, []),
  (.iload_n 2, 0, 0, 0, 0, []),
  (.iconst 0, 0, 0, 0, 0, []),
  (.invokevirtual 43, 0, 4, 0, 965, []),
  (.istore 4, 0, 0, 0, 0, []),
  (.iload 4, 0, 0, 0, 0, []),
  (.ifCond .lt 27, 0, 22, 0, 0, []),
  (.iload 4, 0, 0, 0, 0, []),
  (.iload_n 1, 0, 0, 0, 0, []),
  (.if_icmp .eq 21, 0, 22, 0, 0, []),
  (.bipush 10, 0, 0, 0, 0, []),
  (.iload 4, 0, 0, 0, 0, []),
  (.iadd, 0, 0, 0, 0, []),
  (.istore_n 3, 0, 0, 0, 0, []),
  (.aload_n 0, 0, 0, 0, 0, []),
  (.iload 4, 0, 0, 0, 0, []),
  (.iconst 5, 0, 0, 0, 0, []),
  (.invokevirtual 63, 0, 3, 0, 927, []),
  (.istore 4, 0, 0, 0, 0, []),
  (.goto (-26), 0, 7, 0, 0, []),
  (.iload 4, 0, 0, 0, 0, []),
  (.iload_n 1, 0, 0, 0, 0, []),
  (.if_icmp .ne 7, 0, 27, 0, 0, []),
  (.iload_n 3, 0, 0, 0, 0, []),
  (.goto 4, 0, 28, 0, 0, []),
  (.iconst (-1), 0, 0, 0, 0, []),
  (.ireturn, 0, 0, 0, 0, [])]
set_option maxRecDepth 20000 in
/-- PhasorTreeModel.isOf(II)Z -/
def c_m_isOf : List Ins := [(.aload_n 0, 0, 0, 0, 0, []),
  (.iload_n 2, 0, 0, 0, 0, []),
  (.invokevirtual 57, 0, 9, 0, 961, []),
  (.ifCond .eq 16, 0, 11, 0, 0, []),
  (.aload_n 0, 0, 0, 0, 0, []),
  (.iload_n 1, 0, 0, 0, 0, []),
  (.iload_n 2, 0, 0, 0, 0, []),
  (.invokevirtual 66, 0, 17, 0, 1022, []),
  (.ifCond .lt 7, 0, 11, 0, 0, []),
  (.iconst 1, 0, 0, 0, 0, []),
  (.goto 4, 0, 12, 0, 0, []),
  (.iconst 0, 0, 0, 0, 0, []),
  (.ireturn, 0, 0, 0, 0, [])]
set_option maxRecDepth 20000 in
/-- PhasorTreeModel.depth(I)I -/
def c_m_depth : List Ins := [(.iconst 0, 0, 0, 0, 0, []),
  (.istore_n 2, 0, 0, 0, 0, []),
  (.aload_n 0, 0, 0, 0, 0, []),
  (.iload_n 1, 0, 0, 0, 0, []),
  (.iconst 5, 0, 0, 0, 0, []),
  (.invokevirtual 63, 0, 3, 0, 927, []),
  (.istore_n 3, 0, 0, 0, 0, []),
  (.iload_n 3, 0, 0, 0, 0, []),
  (.ifCond .lt 16, 0, 16, 0, 0, []),
  (.iinc 2 1, 0, 0, 0, 0, []),
  (.aload_n 0, 0, 0, 0, 0, []),
  (.iload_n 3, 0, 0, 0, 0, []),
  (.iconst 5, 0, 0, 0, 0, []),
  (.invokevirtual 63, 0, 3, 0, 927, []),
  (.istore_n 3, 0, 0, 0, 0, []),
  (.goto (-14), 0, 7, 0, 0, []),
  (.iload_n 2, 0, 0, 0, 0, []),
  (.ireturn, 0, 0, 0, 0, [])]
set_option maxRecDepth 20000 in
/-- PhasorTreeModel.on()I -/
def c_m_on : List Ins := [(.iconst 0, 0, 0, 0, 0, []),
  (.istore_n 1, 0, 0, 0, 0, []),
  (.iconst 0, 0, 0, 0, 0, []),
  (.istore_n 2, 0, 0, 0, 0, []),
  (.iload_n 2, 0, 0, 0, 0, []),
  (.aload_n 0, 0, 0, 0, 0, []),
  (.getfield 7, 0, 7, 0, 872, []),
  (.iconst 1, 0, 0, 0, 0, []),
  (.iaload, 0, 0, 0, 0, []),
  (.if_icmp .ge 25, 0, 22, 0, 0, []),
  (.iload_n 1, 0, 0, 0, 0, []),
  (.aload_n 0, 0, 0, 0, 0, []),
  (.iload_n 2, 0, 0, 0, 0, []),
  (.invokevirtual 57, 0, 9, 0, 961, []),
  (.ifCond .eq 7, 0, 17, 0, 0, []),
  (.iconst 1, 0, 0, 0, 0, []),
  (.goto 4, 0, 18, 0, 0, []),
  (.iconst 0, 0, 0, 0, 0, []),
  (.iadd, 0, 0, 0, 0, []),
  (.istore_n 1, 0, 0, 0, 0, []),
  (.iinc 2 1, 0, 0, 0, 0, []),
  (.goto (-29), 0, 4, 0, 0, []),
  (.iload_n 1, 0, 0, 0, 0, []),
  (.ireturn, 0, 0, 0, 0, [])]
set_option maxRecDepth 20000 in
/-- PhasorTreeModel.hub(II)I -/
def c_m_hub : List Ins := [(.aload_n 0, 0, 0, 0, 0, []),
  (.iload_n 1, 0, 0, 0, 0, []),
  (.invokevirtual 60, 0, 7, 0, 919, []),
  (.ifCond .eq 13, 0, 9, 0, 0, []),
  (.iload_n 2, 0, 0, 0, 0, []),
  (.iconst 1, 0, 0, 0, 0, []),
  (.bipush 20, 0, 0, 0, 0, []),
  (.invokestatic 39, 0, 2, 2, 923, []),
  (.ifCond .ne 6, 0, 11, 0, 0, []),
  (.ldc 47, (-1000001), 0, 0, 926, []),
  (.ireturn, 0, 0, 0, 0, []),
  (.iload_n 2, 0, 0, 0, 0, []),
  (.aload_n 0, 0, 0, 0, 0, []),
  (.iload_n 1, 0, 0, 0, 0, []),
  (.iconst 4, 0, 0, 0, 0, []),
  (.invokevirtual 63, 0, 3, 0, 927, []),
  (.invokestatic 69, 0, 14, 2, 931, []),
  (.ifCond .ne 6, 0, 20, 0, 0, []),
  (.ldc 73, (-1000002), 0, 0, 934, []),
  (.ireturn, 0, 0, 0, 0, []),
  (.aload_n 0, 0, 0, 0, 0, []),
  (.getfield 7, 0, 7, 0, 872, []),
  (.iconst 0, 0, 0, 0, 0, []),
  (.iaload, 0, 0, 0, 0, []),
  (.iconst 5, 0, 0, 0, 0, []),
  (.if_icmp .ne 6, 0, 28, 0, 0, []),
  (.ldc 74, (-1000003), 0, 0, 935, []),
  (.ireturn, 0, 0, 0, 0, []),
  (.aload_n 0, 0, 0, 0, 0, []),
  (.invokevirtual 75, 0, 10, 0, 936, []),
  (.aload_n 0, 0, 0, 0, 0, []),
  (.getfield 7, 0, 7, 0, 872, []),
  (.iconst 0, 0, 0, 0, 0, []),
  (.iaload, 0, 0, 0, 0, []),
  (.istore_n 3, 0, 0, 0, 0, []),
  (.iconst 0, 0, 0, 0, 0, []),
  (.istore 4, 0, 0, 0, 0, []),
  (.iload 4, 0, 0, 0, 0, []),
  (.bipush 10, 0, 0, 0, 0, []),
  (.if_icmp .ge 45, 0, 63, 0, 0, []),
  (.aload_n 0, 0, 0, 0, 0, []),
  (.getfield 7, 0, 7, 0, 872, []),
  (.bipush 8, 0, 0, 0, 0, []),
  (.bipush 10, 0, 0, 0, 0, []),
  (.iload_n 3, 0, 0, 0, 0, []),
  (.imul, 0, 0, 0, 0, []),
  (.iadd, 0, 0, 0, 0, []),
  (.iload 4, 0, 0, 0, 0, []),
  (.iadd, 0, 0, 0, 0, []),
  (.iload 4, 0, 0, 0, 0, []),
  (.iconst 4, 0, 0, 0, 0, []),
  (.if_icmp .ne 7, 0, 54, 0, 0, []),
  (.iload_n 2, 0, 0, 0, 0, []),
  (.goto 14, 0, 60, 0, 0, []),
  (.iload 4, 0, 0, 0, 0, []),
  (.iconst 5, 0, 0, 0, 0, []),
  (.if_icmp .ne 7, 0, 59, 0, 0, []),
  (.iload_n 1, 0, 0, 0, 0, []),
  (.goto 4, 0, 60, 0, 0, []),
  (.iconst 0, 0, 0, 0, 0, []),
  (.iastore, 0, 0, 0, 0, []),
  (.iinc 4 1, 0, 0, 0, 0, []),
  (.goto (-46), 0, 37, 0, 0, []),
  (.iconst 0, 0, 0, 0, 0, []),
  (.istore 4, 0, 0, 0, 0, []),
  (.iload 4, 0, 0, 0, 0, []),
  (.bipush 30, 0, 0, 0, 0, []),
  (.if_icmp .ge 25, 0, 81, 0, 0, []),
  (.aload_n 0, 0, 0, 0, 0, []),
  (.getfield 7, 0, 7, 0, 872, []),
  (.bipush 98, 0, 0, 0, 0, []),
  (.bipush 30, 0, 0, 0, 0, []),
  (.iload_n 3, 0, 0, 0, 0, []),
  (.imul, 0, 0, 0, 0, []),
  (.iadd, 0, 0, 0, 0, []),
  (.iload 4, 0, 0, 0, 0, []),
  (.iadd, 0, 0, 0, 0, []),
  (.iconst 0, 0, 0, 0, 0, []),
  (.iastore, 0, 0, 0, 0, []),
  (.iinc 4 1, 0, 0, 0, 0, []),
  (.goto (-26), 0, 65, 0, 0, []),
  (.aload_n 0, 0, 0, 0, 0, []),
  (.getfield 7, 0, 7, 0, 872, []),
  (.iconst 0, 0, 0, 0, 0, []),
  (.dup2, 0, 0, 0, 0, []),
  (.iaload, 0, 0, 0, 0, []),
  (.iconst 1, 0, 0, 0, 0, []),
  (.iadd, 0, 0, 0, 0, []),
  (.iastore, 0, 0, 0, 0, []),
  (.aload_n 0, 0, 0, 0, 0, []),
  (.iload_n 3, 0, 0, 0, 0, []),
  (.invokevirtual 78, 0, 11, 0, 940, []),
  (.ireturn, 0, 0, 0, 0, [])]
set_option maxRecDepth 20000 in
/-- PhasorTreeModel.unit(II)I -/
def c_m_unit : List Ins := [(.aload_n 0, 0, 0, 0, 0, []),
  (.iload_n 1, 0, 0, 0, 0, []),
  (.invokevirtual 60, 0, 7, 0, 919, []),
  (.ifCond .eq 13, 0, 9, 0, 0, []),
  (.iload_n 2, 0, 0, 0, 0, []),
  (.iconst 1, 0, 0, 0, 0, []),
  (.bipush 20, 0, 0, 0, 0, []),
  (.invokestatic 39, 0, 2, 2, 923, []),
  (.ifCond .ne 6, 0, 11, 0, 0, []),
  (.ldc 47, (-1000001), 0, 0, 926, []),
  (.ireturn, 0, 0, 0, 0, []),
  (.iload_n 2, 0, 0, 0, 0, []),
  (.aload_n 0, 0, 0, 0, 0, []),
  (.iload_n 1, 0, 0, 0, 0, []),
  (.iconst 4, 0, 0, 0, 0, []),
  (.invokevirtual 63, 0, 3, 0, 927, []),
  (.invokestatic 69, 0, 14, 2, 931, []),
  (.ifCond .ne 6, 0, 20, 0, 0, []),
  (.ldc 73, (-1000002), 0, 0, 934, []),
  (.ireturn, 0, 0, 0, 0, []),
  (.aload_n 0, 0, 0, 0, 0, []),
  (.getfield 7, 0, 7, 0, 872, []),
  (.iconst 1, 0, 0, 0, 0, []),
  (.iaload, 0, 0, 0, 0, []),
  (.bipush 10, 0, 0, 0, 0, []),
  (.if_icmp .ne 6, 0, 28, 0, 0, []),
  (.ldc 74, (-1000003), 0, 0, 935, []),
  (.ireturn, 0, 0, 0, 0, []),
  (.aload_n 0, 0, 0, 0, 0, []),
  (.invokevirtual 75, 0, 10, 0, 936, []),
  (.bipush 58, 0, 0, 0, 0, []),
  (.iconst 4, 0, 0, 0, 0, []),
  (.aload_n 0, 0, 0, 0, 0, []),
  (.getfield 7, 0, 7, 0, 872, []),
  (.iconst 1, 0, 0, 0, 0, []),
  (.iaload, 0, 0, 0, 0, []),
  (.imul, 0, 0, 0, 0, []),
  (.iadd, 0, 0, 0, 0, []),
  (.istore_n 3, 0, 0, 0, 0, []),
  (.aload_n 0, 0, 0, 0, 0, []),
  (.getfield 7, 0, 7, 0, 872, []),
  (.iload_n 3, 0, 0, 0, 0, []),
  (.iload_n 1, 0, 0, 0, 0, []),
  (.iastore, 0, 0, 0, 0, []),
  (.aload_n 0, 0, 0, 0, 0, []),
  (.getfield 7, 0, 7, 0, 872, []),
  (.iload_n 3, 0, 0, 0, 0, []),
  (.iconst 1, 0, 0, 0, 0, []),
  (.iadd, 0, 0, 0, 0, []),
  (.iload_n 2, 0, 0, 0, 0, []),
  (.iastore, 0, 0, 0, 0, []),
  (.aload_n 0, 0, 0, 0, 0, []),
  (.getfield 7, 0, 7, 0, 872, []),
  (.iload_n 3, 0, 0, 0, 0, []),
  (.iconst 2, 0, 0, 0, 0, []),
  (.iadd, 0, 0, 0, 0, []),
  (.iconst 0, 0, 0, 0, 0, []),
  (.iastore, 0, 0, 0, 0, []),
  (.aload_n 0, 0, 0, 0, 0, []),
  (.getfield 7, 0, 7, 0, 872, []),
  (.iload_n 3, 0, 0, 0, 0, []),
  (.iconst 3, 0, 0, 0, 0, []),
  (.iadd, 0, 0, 0, 0, []),
  (.iconst 0, 0, 0, 0, 0, []),
  (.iastore, 0, 0, 0, 0, []),
  (.aload_n 0, 0, 0, 0, 0, []),
  (.getfield 7, 0, 7, 0, 872, []),
  (.iconst 1, 0, 0, 0, 0, []),
  (.dup2, 0, 0, 0, 0, []),
  (.iaload, 0, 0, 0, 0, []),
  (.iconst 1, 0, 0, 0, 0, []),
  (.iadd, 0, 0, 0, 0, []),
  (.iastore, 0, 0, 0, 0, []),
  (.aload_n 0, 0, 0, 0, 0, []),
  (.aload_n 0, 0, 0, 0, 0, []),
  (.getfield 7, 0, 7, 0, 872, []),
  (.iconst 1, 0, 0, 0, 0, []),
  (.iaload, 0, 0, 0, 0, []),
  (.iconst 1, 0, 0, 0, 0, []),
  (.isub, 0, 0, 0, 0, []),
  (.invokevirtual 78, 0, 11, 0, 940, []),
  (.ireturn, 0, 0, 0, 0, [])]
set_option maxRecDepth 20000 in
/-- PhasorTreeModel.takesOff(I)I -/
def c_m_takesOff : List Ins := [(.aload_n 0, 0, 0, 0, 0, []),
  (.iload_n 1, 0, 0, 0, 0, []),
  (.invokevirtual 53, 0, 8, 0, 957, []),
  (.ifCond .ne 6, 0, 6, 0, 0, []),
  (.ldc 47, (-1000001), 0, 0, 926, []),
  (.ireturn, 0, 0, 0, 0, []),
  (.aload_n 0, 0, 0, 0, 0, []),
  (.iload_n 1, 0, 0, 0, 0, []),
  (.invokevirtual 57, 0, 9, 0, 961, []),
  (.ifCond .ne 6, 0, 12, 0, 0, []),
  (.ldc 73, (-1000002), 0, 0, 934, []),
  (.ireturn, 0, 0, 0, 0, []),
  (.aload_n 0, 0, 0, 0, 0, []),
  (.getfield 7, 0, 7, 0, 872, []),
  (.bipush 58, 0, 0, 0, 0, []),
  (.iconst 4, 0, 0, 0, 0, []),
  (.iload_n 1, 0, 0, 0, 0, []),
  (.imul, 0, 0, 0, 0, []),
  (.iadd, 0, 0, 0, 0, []),
  (.iconst 2, 0, 0, 0, 0, []),
  (.iadd, 0, 0, 0, 0, []),
  (.iconst 1, 0, 0, 0, 0, []),
  (.iastore, 0, 0, 0, 0, []),
  (.aload_n 0, 0, 0, 0, 0, []),
  (.invokevirtual 82, 0, 20, 0, 969, []),
  (.ireturn, 0, 0, 0, 0, [])]
set_option maxRecDepth 20000 in
/-- PhasorTreeModel.takeOff(I)I -/
def c_m_takeOff : List Ins := [(.aload_n 0, 0, 0, 0, 0, []),
  (.invokevirtual 75, 0, 10, 0, 936, []),
  (.aload_n 0, 0, 0, 0, 0, []),
  (.aload_n 0, 0, 0, 0, 0, []),
  (.iload_n 1, 0, 0, 0, 0, []),
  (.invokevirtual 86, 0, 23, 0, 953, []),
  (.invokevirtual 78, 0, 11, 0, 940, []),
  (.ireturn, 0, 0, 0, 0, [])]
set_option maxRecDepth 20000 in
/-- PhasorTreeModel.canHave(II)Z -/
def c_m_canHave : List Ins := [(.aload_n 0, 0, 0, 0, 0, []),
  (.iload_n 1, 0, 0, 0, 0, []),
  (.invokevirtual 89, 0, 35, 0, 981, []),
  (.ifCond .ne 17, 0, 11, 0, 0, []),
  (.aload_n 0, 0, 0, 0, 0, []),
  (.iload_n 1, 0, 0, 0, 0, []),
  (.bipush 6, 0, 0, 0, 0, []),
  (.invokevirtual 63, 0, 3, 0, 927, []),
  (.ifCond .ne 7, 0, 11, 0, 0, []),
  (.iconst 1, 0, 0, 0, 0, []),
  (.goto 4, 0, 12, 0, 0, []),
  (.iconst 0, 0, 0, 0, 0, []),
  (.istore_n 3, 0, 0, 0, 0, []),
  (.aload_n 0, 0, 0, 0, 0, []),
  (.iload_n 1, 0, 0, 0, 0, []),
  (.iconst 5, 0, 0, 0, 0, []),
  (.invokevirtual 63, 0, 3, 0, 927, []),
  (.istore 4, 0, 0, 0, 0, []),
  (.iload_n 3, 0, 0, 0, 0, []),
  (.ifCond .eq 46, 0, 40, 0, 0, []),
  (.iload 4, 0, 0, 0, 0, []),
  (.ifCond .lt 37, 0, 38, 0, 0, []),
  (.iload_n 2, 0, 0, 0, 0, []),
  (.aload_n 0, 0, 0, 0, 0, []),
  (.iload 4, 0, 0, 0, 0, []),
  (.iconst 4, 0, 0, 0, 0, []),
  (.invokevirtual 63, 0, 3, 0, 927, []),
  (.invokestatic 69, 0, 14, 2, 931, []),
  (.ifCond .eq 27, 0, 40, 0, 0, []),
  (.aload_n 0, 0, 0, 0, 0, []),
  (.iload 4, 0, 0, 0, 0, []),
  (.invokevirtual 89, 0, 35, 0, 981, []),
  (.ifCond .ne 18, 0, 40, 0, 0, []),
  (.aload_n 0, 0, 0, 0, 0, []),
  (.iload 4, 0, 0, 0, 0, []),
  (.bipush 6, 0, 0, 0, 0, []),
  (.invokevirtual 63, 0, 3, 0, 927, []),
  (.ifCond .ne 7, 0, 40, 0, 0, []),
  (.iconst 1, 0, 0, 0, 0, []),
  (.goto 4, 0, 41, 0, 0, []),
  (.iconst 0, 0, 0, 0, 0, []),
  (.istore_n 3, 0, 0, 0, 0, []),
  (.iconst 0, 0, 0, 0, 0, []),
  (.istore 5, 0, 0, 0, 0, []),
  (.iload 5, 0, 0, 0, 0, []),
  (.bipush 15, 0, 0, 0, 0, []),
  (.if_icmp .ge 42, 0, 66, 0, 0, []),
  (.iload_n 3, 0, 0, 0, 0, []),
  (.ifCond .eq 38, 0, 66, 0, 0, []),
  (.aload_n 0, 0, 0, 0, 0, []),
  (.iload_n 1, 0, 0, 0, 0, []),
  (.iload 5, 0, 0, 0, 0, []),
  (.invokevirtual 92, 0, 15, 0, 993, []),
  (.ifCond .eq 16, 0, 60, 0, 0, []),
  (.iload_n 2, 0, 0, 0, 0, []),
  (.aload_n 0, 0, 0, 0, 0, []),
  (.iload 5, 0, 0, 0, 0, []),
  (.invokevirtual 95, 0, 16, 0, 997, []),
  (.invokestatic 69, 0, 14, 2, 931, []),
  (.ifCond .eq 7, 0, 62, 0, 0, []),
  (.iconst 1, 0, 0, 0, 0, []),
  (.goto 4, 0, 63, 0, 0, []),
  (.iconst 0, 0, 0, 0, 0, []),
  (.istore_n 3, 0, 0, 0, 0, []),
  (.iinc 5 1, 0, 0, 0, 0, []),
  (.goto (-43), 0, 44, 0, 0, []),
  (.iload_n 3, 0, 0, 0, 0, []),
  (.ireturn, 0, 0, 0, 0, [])]
set_option maxRecDepth 20000 in
/-- PhasorTreeModel.set(III)I -/
def c_m_set : List Ins := [(.iload_n 2, 0, 0, 0, 0, []),
  (.ifCond .ne 8, 0, 4, 0, 0, []),
  (.bipush 40, 0, 0, 0, 0, []),
  (.goto 23, 0, 15, 0, 0, []),
  (.iload_n 2, 0, 0, 0, 0, []),
  (.iconst 1, 0, 0, 0, 0, []),
  (.if_icmp .ne 7, 0, 9, 0, 0, []),
  (.iconst 1, 0, 0, 0, 0, []),
  (.goto 14, 0, 15, 0, 0, []),
  (.iload_n 2, 0, 0, 0, 0, []),
  (.iconst 2, 0, 0, 0, 0, []),
  (.if_icmp .ne 7, 0, 14, 0, 0, []),
  (.iconst 2, 0, 0, 0, 0, []),
  (.goto 5, 0, 15, 0, 0, []),
  (.bipush 20, 0, 0, 0, 0, []),
  (.istore 4, 0, 0, 0, 0, []),
  (.aload_n 0, 0, 0, 0, 0, []),
  (.iload_n 1, 0, 0, 0, 0, []),
  (.invokevirtual 60, 0, 7, 0, 919, []),
  (.ifCond .eq 31, 0, 35, 0, 0, []),
  (.iload_n 2, 0, 0, 0, 0, []),
  (.iconst 0, 0, 0, 0, 0, []),
  (.iconst 4, 0, 0, 0, 0, []),
  (.invokestatic 39, 0, 2, 2, 923, []),
  (.ifCond .eq 22, 0, 35, 0, 0, []),
  (.iload_n 3, 0, 0, 0, 0, []),
  (.iload_n 2, 0, 0, 0, 0, []),
  (.iconst 4, 0, 0, 0, 0, []),
  (.if_icmp .ne 7, 0, 31, 0, 0, []),
  (.iconst 1, 0, 0, 0, 0, []),
  (.goto 4, 0, 32, 0, 0, []),
  (.iconst 0, 0, 0, 0, 0, []),
  (.iload 4, 0, 0, 0, 0, []),
  (.invokestatic 39, 0, 2, 2, 923, []),
  (.ifCond .ne 6, 0, 37, 0, 0, []),
  (.ldc 47, (-1000001), 0, 0, 926, []),
  (.ireturn, 0, 0, 0, 0, []),
  (.iload_n 2, 0, 0, 0, 0, []),
  (.iconst 4, 0, 0, 0, 0, []),
  (.if_icmp .ne 15, 0, 47, 0, 0, []),
  (.aload_n 0, 0, 0, 0, 0, []),
  (.iload_n 1, 0, 0, 0, 0, []),
  (.iload_n 3, 0, 0, 0, 0, []),
  (.invokevirtual 98, 0, 25, 0, 977, []),
  (.ifCond .ne 6, 0, 47, 0, 0, []),
  (.ldc 73, (-1000002), 0, 0, 934, []),
  (.ireturn, 0, 0, 0, 0, []),
  (.aload_n 0, 0, 0, 0, 0, []),
  (.invokevirtual 75, 0, 10, 0, 936, []),
  (.aload_n 0, 0, 0, 0, 0, []),
  (.iload_n 1, 0, 0, 0, 0, []),
  (.iload_n 2, 0, 0, 0, 0, []),
  (.invokevirtual 63, 0, 3, 0, 927, []),
  (.istore 5, 0, 0, 0, 0, []),
  (.aload_n 0, 0, 0, 0, 0, []),
  (.getfield 7, 0, 7, 0, 872, []),
  (.bipush 8, 0, 0, 0, 0, []),
  (.bipush 10, 0, 0, 0, 0, []),
  (.iload_n 1, 0, 0, 0, 0, []),
  (.imul, 0, 0, 0, 0, []),
  (.iadd, 0, 0, 0, 0, []),
  (.iload_n 2, 0, 0, 0, 0, []),
  (.iadd, 0, 0, 0, 0, []),
  (.iload_n 3, 0, 0, 0, 0, []),
  (.iastore, 0, 0, 0, 0, []),
  (.aload_n 0, 0, 0, 0, 0, []),
  (.iload 5, 0, 0, 0, 0, []),
  (.invokevirtual 78, 0, 11, 0, 940, []),
  (.ireturn, 0, 0, 0, 0, [])]
set_option maxRecDepth 20000 in
/-- PhasorTreeModel.children(I)I -/
def c_m_children : List Ins := [(.iconst 0, 0, 0, 0, 0, []),
  (.istore_n 2, 0, 0, 0, 0, []),
  (.iconst 0, 0, 0, 0, 0, []),
  (.istore_n 3, 0, 0, 0, 0, []),
  (.iload_n 3, 0, 0, 0, 0, []),
  (.bipush 15, 0, 0, 0, 0, []),
  (.if_icmp .ge 26, 0, 20, 0, 0, []),
  (.iload_n 2, 0, 0, 0, 0, []),
  (.aload_n 0, 0, 0, 0, 0, []),
  (.iload_n 1, 0, 0, 0, 0, []),
  (.iload_n 3, 0, 0, 0, 0, []),
  (.invokevirtual 92, 0, 15, 0, 993, []),
  (.ifCond .eq 7, 0, 15, 0, 0, []),
  (.iconst 1, 0, 0, 0, 0, []),
  (.goto 4, 0, 16, 0, 0, []),
  (.iconst 0, 0, 0, 0, 0, []),
  (.iadd, 0, 0, 0, 0, []),
  (.istore_n 2, 0, 0, 0, 0, []),
  (.iinc 3 1, 0, 0, 0, 0, []),
  (.goto (-26), 0, 4, 0, 0, []),
  (.iload_n 2, 0, 0, 0, 0, []),
  (.ireturn, 0, 0, 0, 0, [])]
set_option maxRecDepth 20000 in
/-- PhasorTreeModel.unitsOf(I)I -/
def c_m_unitsOf : List Ins := [(.iconst 0, 0, 0, 0, 0, []),
  (.istore_n 2, 0, 0, 0, 0, []),
  (.iconst 0, 0, 0, 0, 0, []),
  (.istore_n 3, 0, 0, 0, 0, []),
  (.iload_n 3, 0, 0, 0, 0, []),
  (.aload_n 0, 0, 0, 0, 0, []),
  (.getfield 7, 0, 7, 0, 872, []),
  (.iconst 1, 0, 0, 0, 0, []),
  (.iaload, 0, 0, 0, 0, []),
  (.if_icmp .ge 26, 0, 23, 0, 0, []),
  (.iload_n 2, 0, 0, 0, 0, []),
  (.aload_n 0, 0, 0, 0, 0, []),
  (.iload_n 1, 0, 0, 0, 0, []),
  (.iload_n 3, 0, 0, 0, 0, []),
  (.invokevirtual 101, 0, 18, 0, 1018, []),
  (.ifCond .eq 7, 0, 18, 0, 0, []),
  (.iconst 1, 0, 0, 0, 0, []),
  (.goto 4, 0, 19, 0, 0, []),
  (.iconst 0, 0, 0, 0, 0, []),
  (.iadd, 0, 0, 0, 0, []),
  (.istore_n 2, 0, 0, 0, 0, []),
  (.iinc 3 1, 0, 0, 0, 0, []),
  (.goto (-30), 0, 4, 0, 0, []),
  (.iload_n 2, 0, 0, 0, 0, []),
  (.ireturn, 0, 0, 0, 0, [])]
set_option maxRecDepth 20000 in
/-- PhasorTreeModel.onWay(I)I -/
def c_m_onWay : List Ins := [(.iconst 0, 0, 0, 0, 0, []),
  (.istore_n 2, 0, 0, 0, 0, []),
  (.iconst 0, 0, 0, 0, 0, []),
  (.istore_n 3, 0, 0, 0, 0, []),
  (.iload_n 3, 0, 0, 0, 0, []),
  (.aload_n 0, 0, 0, 0, 0, []),
  (.getfield 7, 0, 7, 0, 872, []),
  (.bipush 7, 0, 0, 0, 0, []),
  (.iaload, 0, 0, 0, 0, []),
  (.if_icmp .ge 37, 0, 30, 0, 0, []),
  (.iload_n 2, 0, 0, 0, 0, []),
  (.aload_n 0, 0, 0, 0, 0, []),
  (.iload_n 3, 0, 0, 0, 0, []),
  (.iconst 0, 0, 0, 0, 0, []),
  (.invokevirtual 104, 0, 5, 0, 989, []),
  (.iconst 1, 0, 0, 0, 0, []),
  (.if_icmp .ne 17, 0, 25, 0, 0, []),
  (.aload_n 0, 0, 0, 0, 0, []),
  (.iload_n 3, 0, 0, 0, 0, []),
  (.iconst 2, 0, 0, 0, 0, []),
  (.invokevirtual 104, 0, 5, 0, 989, []),
  (.iload_n 1, 0, 0, 0, 0, []),
  (.if_icmp .ne 7, 0, 25, 0, 0, []),
  (.iconst 1, 0, 0, 0, 0, []),
  (.goto 4, 0, 26, 0, 0, []),
  (.iconst 0, 0, 0, 0, 0, []),
  (.iadd, 0, 0, 0, 0, []),
  (.istore_n 2, 0, 0, 0, 0, []),
  (.iinc 3 1, 0, 0, 0, 0, []),
  (.goto (-42), 0, 4, 0, 0, []),
  (.iload_n 2, 0, 0, 0, 0, []),
  (.ireturn, 0, 0, 0, 0, [])]
set_option maxRecDepth 20000 in
/-- PhasorTreeModel.hubOf(II)I -/
def c_m_hubOf : List Ins := [(.aload_n 0, 0, 0, 0, 0, []),
  (.iload_n 1, 0, 0, 0, 0, []),
  (.invokevirtual 60, 0, 7, 0, 919, []),
  (.ifCond .eq 13, 0, 9, 0, 0, []),
  (.iload_n 2, 0, 0, 0, 0, []),
  (.iconst 0, 0, 0, 0, 0, []),
  (.bipush 14, 0, 0, 0, 0, []),
  (.invokestatic 39, 0, 2, 2, 923, []),
  (.ifCond .ne 6, 0, 11, 0, 0, []),
  (.ldc 47, (-1000001), 0, 0, 926, []),
  (.ireturn, 0, 0, 0, 0, []),
  (.iload_n 2, 0, 0, 0, 0, []),
  (.tableswitch 150 5 14 #[54, 70, 76, 82, 88, 94, 102, 110, 118, 141], 0, 0, 0, 54, [71, 13, 22, 26, 30, 34, 38, 43, 48, 53, 65]),
  (.iload_n 1, 0, 0, 0, 0, []),
  (.ifCond .ne 8, 0, 17, 0, 0, []),
  (.ldc 107, (-1000004), 0, 0, 1005, []),
  (.goto 9, 0, 21, 0, 0, []),
  (.aload_n 0, 0, 0, 0, 0, []),
  (.iload_n 1, 0, 0, 0, 0, []),
  (.iconst 5, 0, 0, 0, 0, []),
  (.invokevirtual 63, 0, 3, 0, 927, []),
  (.ireturn, 0, 0, 0, 0, []),
  (.aload_n 0, 0, 0, 0, 0, []),
  (.iload_n 1, 0, 0, 0, 0, []),
  (.invokevirtual 108, 0, 19, 0, 1006, []),
  (.ireturn, 0, 0, 0, 0, []),
  (.aload_n 0, 0, 0, 0, 0, []),
  (.iload_n 1, 0, 0, 0, 0, []),
  (.invokevirtual 111, 0, 27, 0, 1010, []),
  (.ireturn, 0, 0, 0, 0, []),
  (.aload_n 0, 0, 0, 0, 0, []),
  (.iload_n 1, 0, 0, 0, 0, []),
  (.invokevirtual 114, 0, 28, 0, 1014, []),
  (.ireturn, 0, 0, 0, 0, []),
  (.aload_n 0, 0, 0, 0, 0, []),
  (.iload_n 1, 0, 0, 0, 0, []),
  (.invokevirtual 89, 0, 35, 0, 981, []),
  (.ireturn, 0, 0, 0, 0, []),
  (.aload_n 0, 0, 0, 0, 0, []),
  (.iload_n 1, 0, 0, 0, 0, []),
  (.bipush 6, 0, 0, 0, 0, []),
  (.invokevirtual 63, 0, 3, 0, 927, []),
  (.ireturn, 0, 0, 0, 0, []),
  (.aload_n 0, 0, 0, 0, 0, []),
  (.iload_n 1, 0, 0, 0, 0, []),
  (.bipush 7, 0, 0, 0, 0, []),
  (.invokevirtual 63, 0, 3, 0, 927, []),
  (.ireturn, 0, 0, 0, 0, []),
  (.aload_n 0, 0, 0, 0, 0, []),
  (.iload_n 1, 0, 0, 0, 0, []),
  (.bipush 8, 0, 0, 0, 0, []),
  (.invokevirtual 63, 0, 3, 0, 927, []),
  (.ireturn, 0, 0, 0, 0, []),
  (.aload_n 0, 0, 0, 0, 0, []),
  (.iload_n 1, 0, 0, 0, 0, []),
  (.bipush 6, 0, 0, 0, 0, []),
  (.invokevirtual 63, 0, 3, 0, 927, []),
  (.ifCond .ne 8, 0, 60, 0, 0, []),
  (.ldc 107, (-1000004), 0, 0, 1005, []),
  (.goto 10, 0, 64, 0, 0, []),
  (.aload_n 0, 0, 0, 0, 0, []),
  (.iload_n 1, 0, 0, 0, 0, []),
  (.bipush 9, 0, 0, 0, 0, []),
  (.invokevirtual 63, 0, 3, 0, 927, []),
  (.ireturn, 0, 0, 0, 0, []),
  (.aload_n 0, 0, 0, 0, 0, []),
  (.bipush 10, 0, 0, 0, 0, []),
  (.iload_n 1, 0, 0, 0, 0, []),
  (.iadd, 0, 0, 0, 0, []),
  (.invokevirtual 117, 0, 29, 0, 1026, []),
  (.ireturn, 0, 0, 0, 0, []),
  (.aload_n 0, 0, 0, 0, 0, []),
  (.iload_n 1, 0, 0, 0, 0, []),
  (.iload_n 2, 0, 0, 0, 0, []),
  (.invokevirtual 63, 0, 3, 0, 927, []),
  (.ireturn, 0, 0, 0, 0, [])]
set_option maxRecDepth 20000 in
/-- PhasorTreeModel.unitOf(II)I -/
def c_m_unitOf : List Ins := [(.aload_n 0, 0, 0, 0, 0, []),
  (.iload_n 1, 0, 0, 0, 0, []),
  (.invokevirtual 53, 0, 8, 0, 957, []),
  (.ifCond .eq 13, 0, 9, 0, 0, []),
  (.iload_n 2, 0, 0, 0, 0, []),
  (.iconst 0, 0, 0, 0, 0, []),
  (.bipush 6, 0, 0, 0, 0, []),
  (.invokestatic 39, 0, 2, 2, 923, []),
  (.ifCond .ne 6, 0, 11, 0, 0, []),
  (.ldc 47, (-1000001), 0, 0, 926, []),
  (.ireturn, 0, 0, 0, 0, []),
  (.iload_n 2, 0, 0, 0, 0, []),
  (.iconst 4, 0, 0, 0, 0, []),
  (.if_icmp .ge 10, 0, 19, 0, 0, []),
  (.aload_n 0, 0, 0, 0, 0, []),
  (.iload_n 1, 0, 0, 0, 0, []),
  (.iload_n 2, 0, 0, 0, 0, []),
  (.invokevirtual 43, 0, 4, 0, 965, []),
  (.ireturn, 0, 0, 0, 0, []),
  (.iconst 0, 0, 0, 0, 0, []),
  (.istore_n 3, 0, 0, 0, 0, []),
  (.aload_n 0, 0, 0, 0, 0, []),
  (.iload_n 1, 0, 0, 0, 0, []),
  (.iconst 0, 0, 0, 0, 0, []),
  (.invokevirtual 43, 0, 4, 0, 965, []),
  (.istore 4, 0, 0, 0, 0, []),
  (.iload 4, 0, 0, 0, 0, []),
  (.ifCond .le 25, 0, 41, 0, 0, []),
  (.iload_n 3, 0, 0, 0, 0, []),
  (.aload_n 0, 0, 0, 0, 0, []),
  (.iload 4, 0, 0, 0, 0, []),
  (.iconst 3, 0, 0, 0, 0, []),
  (.invokevirtual 63, 0, 3, 0, 927, []),
  (.iadd, 0, 0, 0, 0, []),
  (.istore_n 3, 0, 0, 0, 0, []),
  (.aload_n 0, 0, 0, 0, 0, []),
  (.iload 4, 0, 0, 0, 0, []),
  (.iconst 5, 0, 0, 0, 0, []),
  (.invokevirtual 63, 0, 3, 0, 927, []),
  (.istore 4, 0, 0, 0, 0, []),
  (.goto (-24), 0, 26, 0, 0, []),
  (.iload_n 2, 0, 0, 0, 0, []),
  (.iconst 4, 0, 0, 0, 0, []),
  (.if_icmp .ne 11, 0, 48, 0, 0, []),
  (.aload_n 0, 0, 0, 0, 0, []),
  (.iload_n 1, 0, 0, 0, 0, []),
  (.invokevirtual 117, 0, 29, 0, 1026, []),
  (.goto 24, 0, 61, 0, 0, []),
  (.iload_n 2, 0, 0, 0, 0, []),
  (.iconst 5, 0, 0, 0, 0, []),
  (.if_icmp .ne 7, 0, 53, 0, 0, []),
  (.iload_n 3, 0, 0, 0, 0, []),
  (.goto 15, 0, 61, 0, 0, []),
  (.iconst 1, 0, 0, 0, 0, []),
  (.aload_n 0, 0, 0, 0, 0, []),
  (.aload_n 0, 0, 0, 0, 0, []),
  (.iload_n 1, 0, 0, 0, 0, []),
  (.iconst 0, 0, 0, 0, 0, []),
  (.invokevirtual 43, 0, 4, 0, 965, []),
  (.invokevirtual 108, 0, 19, 0, 1006, []),
  (.iadd, 0, 0, 0, 0, []),
  (.ireturn, 0, 0, 0, 0, [])]
set_option maxRecDepth 20000 in
/-- PhasorTreeModel.unitAt(II)I -/
def c_m_unitAt : List Ins := [(.aload_n 0, 0, 0, 0, 0, []),
  (.iload_n 1, 0, 0, 0, 0, []),
  (.invokevirtual 60, 0, 7, 0, 919, []),
  (.ifCond .eq 7, 0, 6, 0, 0, []),
  (.iload_n 2, 0, 0, 0, 0, []),
  (.ifCond .ge 6, 0, 8, 0, 0, []),
  (.ldc 47, (-1000001), 0, 0, 926, []),
  (.ireturn, 0, 0, 0, 0, []),
  (.iload_n 2, 0, 0, 0, 0, []),
  (.istore_n 3, 0, 0, 0, 0, []),
  (.iconst 0, 0, 0, 0, 0, []),
  (.istore 4, 0, 0, 0, 0, []),
  (.iload 4, 0, 0, 0, 0, []),
  (.aload_n 0, 0, 0, 0, 0, []),
  (.getfield 7, 0, 7, 0, 872, []),
  (.iconst 1, 0, 0, 0, 0, []),
  (.iaload, 0, 0, 0, 0, []),
  (.if_icmp .ge 43, 0, 39, 0, 0, []),
  (.aload_n 0, 0, 0, 0, 0, []),
  (.iload_n 1, 0, 0, 0, 0, []),
  (.iload 4, 0, 0, 0, 0, []),
  (.invokevirtual 101, 0, 18, 0, 1018, []),
  (.istore 5, 0, 0, 0, 0, []),
  (.iload 5, 0, 0, 0, 0, []),
  (.ifCond .eq 10, 0, 29, 0, 0, []),
  (.iload_n 3, 0, 0, 0, 0, []),
  (.ifCond .ne 6, 0, 29, 0, 0, []),
  (.iload 4, 0, 0, 0, 0, []),
  (.ireturn, 0, 0, 0, 0, []),
  (.iload_n 3, 0, 0, 0, 0, []),
  (.iload 5, 0, 0, 0, 0, []),
  (.ifCond .eq 7, 0, 34, 0, 0, []),
  (.iconst 1, 0, 0, 0, 0, []),
  (.goto 4, 0, 35, 0, 0, []),
  (.iconst 0, 0, 0, 0, 0, []),
  (.isub, 0, 0, 0, 0, []),
  (.istore_n 3, 0, 0, 0, 0, []),
  (.iinc 4 1, 0, 0, 0, 0, []),
  (.goto (-48), 0, 12, 0, 0, []),
  (.ldc 107, (-1000004), 0, 0, 1005, []),
  (.ireturn, 0, 0, 0, 0, [])]
set_option maxRecDepth 20000 in
/-- PhasorTreeModel.isIn(III)Z -/
def c_m_isIn : List Ins := [(.aload_n 0, 0, 0, 0, 0, []),
  (.iload_n 1, 0, 0, 0, 0, []),
  (.iconst 0, 0, 0, 0, 0, []),
  (.invokevirtual 104, 0, 5, 0, 989, []),
  (.iconst 2, 0, 0, 0, 0, []),
  (.if_icmp .ne 27, 0, 20, 0, 0, []),
  (.aload_n 0, 0, 0, 0, 0, []),
  (.iload_n 1, 0, 0, 0, 0, []),
  (.iconst 1, 0, 0, 0, 0, []),
  (.invokevirtual 104, 0, 5, 0, 989, []),
  (.iload_n 2, 0, 0, 0, 0, []),
  (.if_icmp .ne 17, 0, 20, 0, 0, []),
  (.aload_n 0, 0, 0, 0, 0, []),
  (.iload_n 1, 0, 0, 0, 0, []),
  (.iconst 4, 0, 0, 0, 0, []),
  (.invokevirtual 104, 0, 5, 0, 989, []),
  (.iload_n 3, 0, 0, 0, 0, []),
  (.if_icmp .ne 7, 0, 20, 0, 0, []),
  (.iconst 1, 0, 0, 0, 0, []),
  (.goto 4, 0, 21, 0, 0, []),
  (.iconst 0, 0, 0, 0, 0, []),
  (.ireturn, 0, 0, 0, 0, [])]
set_option maxRecDepth 20000 in
/-- PhasorTreeModel.behind(II)I -/
def c_m_behind : List Ins := [(.iconst (-1), 0, 0, 0, 0, []),
  (.istore_n 3, 0, 0, 0, 0, []),
  (.iconst 0, 0, 0, 0, 0, []),
  (.istore 4, 0, 0, 0, 0, []),
  (.iload 4, 0, 0, 0, 0, []),
  (.aload_n 0, 0, 0, 0, 0, []),
  (.getfield 7, 0, 7, 0, 872, []),
  (.bipush 7, 0, 0, 0, 0, []),
  (.iaload, 0, 0, 0, 0, []),
  (.if_icmp .ge 81, 0, 51, 0, 0, []),
  (.aload_n 0, 0, 0, 0, 0, []),
  (.iload 4, 0, 0, 0, 0, []),
  (.iconst 0, 0, 0, 0, 0, []),
  (.invokevirtual 104, 0, 5, 0, 989, []),
  (.iconst 2, 0, 0, 0, 0, []),
  (.if_icmp .ne 44, 0, 38, 0, 0, []),
  (.aload_n 0, 0, 0, 0, 0, []),
  (.iload 4, 0, 0, 0, 0, []),
  (.iconst 1, 0, 0, 0, 0, []),
  (.invokevirtual 104, 0, 5, 0, 989, []),
  (.iload_n 1, 0, 0, 0, 0, []),
  (.if_icmp .ne 33, 0, 38, 0, 0, []),
  (.aload_n 0, 0, 0, 0, 0, []),
  (.iload 4, 0, 0, 0, 0, []),
  (.iconst 4, 0, 0, 0, 0, []),
  (.invokevirtual 104, 0, 5, 0, 989, []),
  (.iload_n 2, 0, 0, 0, 0, []),
  (.if_icmp .le 22, 0, 38, 0, 0, []),
  (.iload_n 3, 0, 0, 0, 0, []),
  (.ifCond .lt 14, 0, 36, 0, 0, []),
  (.aload_n 0, 0, 0, 0, 0, []),
  (.iload 4, 0, 0, 0, 0, []),
  (.iconst 4, 0, 0, 0, 0, []),
  (.invokevirtual 104, 0, 5, 0, 989, []),
  (.iload_n 3, 0, 0, 0, 0, []),
  (.if_icmp .ge 7, 0, 38, 0, 0, []),
  (.iconst 1, 0, 0, 0, 0, []),
  (.goto 4, 0, 39, 0, 0, []),
  (.iconst 0, 0, 0, 0, 0, []),
  (.istore 5, 0, 0, 0, 0, []),
  (.iload 5, 0, 0, 0, 0, []),
  (.ifCond .eq 13, 0, 47, 0, 0, []),
  (.aload_n 0, 0, 0, 0, 0, []),
  (.iload 4, 0, 0, 0, 0, []),
  (.iconst 4, 0, 0, 0, 0, []),
  (.invokevirtual 104, 0, 5, 0, 989, []),
  (.goto 4, 0, 48, 0, 0, []),
  (.iload_n 3, 0, 0, 0, 0, []),
  (.istore_n 3, 0, 0, 0, 0, []),
  (.iinc 4 1, 0, 0, 0, 0, []),
  (.goto (-87), 0, 4, 0, 0, []),
  (.iload_n 3, 0, 0, 0, 0, []),
  (.ireturn, 0, 0, 0, 0, [])]
set_option maxRecDepth 20000 in
/-- PhasorTreeModel.slots(I)I -/
def c_m_slots : List Ins := [(.iconst 0, 0, 0, 0, 0, []),
  (.istore_n 2, 0, 0, 0, 0, []),
  (.aload_n 0, 0, 0, 0, 0, []),
  (.iload_n 1, 0, 0, 0, 0, []),
  (.iconst (-1), 0, 0, 0, 0, []),
  (.invokevirtual 120, 0, 34, 0, 985, []),
  (.istore_n 3, 0, 0, 0, 0, []),
  (.iload_n 3, 0, 0, 0, 0, []),
  (.ifCond .lt 16, 0, 16, 0, 0, []),
  (.iinc 2 1, 0, 0, 0, 0, []),
  (.aload_n 0, 0, 0, 0, 0, []),
  (.iload_n 1, 0, 0, 0, 0, []),
  (.iload_n 3, 0, 0, 0, 0, []),
  (.invokevirtual 120, 0, 34, 0, 985, []),
  (.istore_n 3, 0, 0, 0, 0, []),
  (.goto (-14), 0, 7, 0, 0, []),
  (.iload_n 2, 0, 0, 0, 0, []),
  (.ireturn, 0, 0, 0, 0, [])]
set_option maxRecDepth 20000 in
/-- PhasorTreeModel.isQuick(II)Z -/
def c_m_isQuick : List Ins := [(.aload_n 0, 0, 0, 0, 0, []),
  (.iload_n 2, 0, 0, 0, 0, []),
  (.invokevirtual 95, 0, 16, 0, 997, []),
  (.aload_n 0, 0, 0, 0, 0, []),
  (.iload_n 1, 0, 0, 0, 0, []),
  (.iconst 4, 0, 0, 0, 0, []),
  (.invokevirtual 63, 0, 3, 0, 927, []),
  (.if_icmp .gt 7, 0, 10, 0, 0, []),
  (.iconst 1, 0, 0, 0, 0, []),
  (.goto 4, 0, 11, 0, 0, []),
  (.iconst 0, 0, 0, 0, 0, []),
  (.ireturn, 0, 0, 0, 0, [])]
set_option maxRecDepth 20000 in
/-- PhasorTreeModel.expects(III)I -/
def c_m_expects : List Ins := [(.aload_n 0, 0, 0, 0, 0, []),
  (.iload_n 1, 0, 0, 0, 0, []),
  (.iload_n 2, 0, 0, 0, 0, []),
  (.invokevirtual 123, 0, 36, 0, 1080, []),
  (.ifCond .eq 18, 0, 14, 0, 0, []),
  (.aload_n 0, 0, 0, 0, 0, []),
  (.iload_n 1, 0, 0, 0, 0, []),
  (.iconst 4, 0, 0, 0, 0, []),
  (.invokevirtual 63, 0, 3, 0, 927, []),
  (.aload_n 0, 0, 0, 0, 0, []),
  (.iload_n 2, 0, 0, 0, 0, []),
  (.invokevirtual 95, 0, 16, 0, 997, []),
  (.idiv, 0, 0, 0, 0, []),
  (.goto 18, 0, 23, 0, 0, []),
  (.iload_n 3, 0, 0, 0, 0, []),
  (.aload_n 0, 0, 0, 0, 0, []),
  (.iload_n 2, 0, 0, 0, 0, []),
  (.invokevirtual 95, 0, 16, 0, 997, []),
  (.irem, 0, 0, 0, 0, []),
  (.ifCond .ne 7, 0, 22, 0, 0, []),
  (.iconst 1, 0, 0, 0, 0, []),
  (.goto 4, 0, 23, 0, 0, []),
  (.iconst 0, 0, 0, 0, 0, []),
  (.ireturn, 0, 0, 0, 0, [])]
set_option maxRecDepth 20000 in
/-- PhasorTreeModel.frames(III)I -/
def c_m_frames : List Ins := [(.iconst 0, 0, 0, 0, 0, []),
  (.istore 4, 0, 0, 0, 0, []),
  (.iconst 0, 0, 0, 0, 0, []),
  (.istore 5, 0, 0, 0, 0, []),
  (.iload 5, 0, 0, 0, 0, []),
  (.aload_n 0, 0, 0, 0, 0, []),
  (.getfield 7, 0, 7, 0, 872, []),
  (.bipush 7, 0, 0, 0, 0, []),
  (.iaload, 0, 0, 0, 0, []),
  (.if_icmp .ge 45, 0, 32, 0, 0, []),
  (.iload 4, 0, 0, 0, 0, []),
  (.aload_n 0, 0, 0, 0, 0, []),
  (.iload 5, 0, 0, 0, 0, []),
  (.iload_n 1, 0, 0, 0, 0, []),
  (.iload_n 3, 0, 0, 0, 0, []),
  (.invokevirtual 126, 0, 33, 0, 1084, []),
  (.ifCond .eq 22, 0, 27, 0, 0, []),
  (.iload_n 2, 0, 0, 0, 0, []),
  (.ifCond .lt 14, 0, 25, 0, 0, []),
  (.aload_n 0, 0, 0, 0, 0, []),
  (.iload 5, 0, 0, 0, 0, []),
  (.iconst 2, 0, 0, 0, 0, []),
  (.invokevirtual 104, 0, 5, 0, 989, []),
  (.iload_n 2, 0, 0, 0, 0, []),
  (.if_icmp .ne 7, 0, 27, 0, 0, []),
  (.iconst 1, 0, 0, 0, 0, []),
  (.goto 4, 0, 28, 0, 0, []),
  (.iconst 0, 0, 0, 0, 0, []),
  (.iadd, 0, 0, 0, 0, []),
  (.istore 4, 0, 0, 0, 0, []),
  (.iinc 5 1, 0, 0, 0, 0, []),
  (.goto (-51), 0, 4, 0, 0, []),
  (.iload 4, 0, 0, 0, 0, []),
  (.ireturn, 0, 0, 0, 0, [])]
set_option maxRecDepth 20000 in
/-- PhasorTreeModel.expected(II)I -/
def c_m_expected : List Ins := [(.iconst 0, 0, 0, 0, 0, []),
  (.istore_n 3, 0, 0, 0, 0, []),
  (.iconst 0, 0, 0, 0, 0, []),
  (.istore 4, 0, 0, 0, 0, []),
  (.iload 4, 0, 0, 0, 0, []),
  (.bipush 15, 0, 0, 0, 0, []),
  (.if_icmp .ge 34, 0, 24, 0, 0, []),
  (.iload_n 3, 0, 0, 0, 0, []),
  (.aload_n 0, 0, 0, 0, 0, []),
  (.iload_n 1, 0, 0, 0, 0, []),
  (.iload 4, 0, 0, 0, 0, []),
  (.invokevirtual 92, 0, 15, 0, 993, []),
  (.ifCond .eq 14, 0, 19, 0, 0, []),
  (.aload_n 0, 0, 0, 0, 0, []),
  (.iload_n 1, 0, 0, 0, 0, []),
  (.iload 4, 0, 0, 0, 0, []),
  (.iload_n 2, 0, 0, 0, 0, []),
  (.invokevirtual 129, 0, 37, 0, 1100, []),
  (.goto 4, 0, 20, 0, 0, []),
  (.iconst 0, 0, 0, 0, 0, []),
  (.iadd, 0, 0, 0, 0, []),
  (.istore_n 3, 0, 0, 0, 0, []),
  (.iinc 4 1, 0, 0, 0, 0, []),
  (.goto (-35), 0, 4, 0, 0, []),
  (.iload_n 3, 0, 0, 0, 0, []),
  (.ireturn, 0, 0, 0, 0, [])]
set_option maxRecDepth 20000 in
/-- PhasorTreeModel.isComplete(II)Z -/
def c_m_isComplete : List Ins := [(.iconst 1, 0, 0, 0, 0, []),
  (.istore_n 3, 0, 0, 0, 0, []),
  (.iconst 0, 0, 0, 0, 0, []),
  (.istore 4, 0, 0, 0, 0, []),
  (.iload 4, 0, 0, 0, 0, []),
  (.bipush 15, 0, 0, 0, 0, []),
  (.if_icmp .ge 48, 0, 31, 0, 0, []),
  (.iload_n 3, 0, 0, 0, 0, []),
  (.ifCond .eq 44, 0, 31, 0, 0, []),
  (.aload_n 0, 0, 0, 0, 0, []),
  (.iload_n 1, 0, 0, 0, 0, []),
  (.iload 4, 0, 0, 0, 0, []),
  (.invokevirtual 92, 0, 15, 0, 993, []),
  (.ifCond .eq 22, 0, 25, 0, 0, []),
  (.aload_n 0, 0, 0, 0, 0, []),
  (.iload_n 1, 0, 0, 0, 0, []),
  (.iload 4, 0, 0, 0, 0, []),
  (.iload_n 2, 0, 0, 0, 0, []),
  (.invokevirtual 133, 0, 38, 0, 1096, []),
  (.aload_n 0, 0, 0, 0, 0, []),
  (.iload_n 1, 0, 0, 0, 0, []),
  (.iload 4, 0, 0, 0, 0, []),
  (.iload_n 2, 0, 0, 0, 0, []),
  (.invokevirtual 129, 0, 37, 0, 1100, []),
  (.if_icmp .lt 7, 0, 27, 0, 0, []),
  (.iconst 1, 0, 0, 0, 0, []),
  (.goto 4, 0, 28, 0, 0, []),
  (.iconst 0, 0, 0, 0, 0, []),
  (.istore_n 3, 0, 0, 0, 0, []),
  (.iinc 4 1, 0, 0, 0, 0, []),
  (.goto (-49), 0, 4, 0, 0, []),
  (.iload_n 3, 0, 0, 0, 0, []),
  (.ireturn, 0, 0, 0, 0, [])]
set_option maxRecDepth 20000 in
/-- PhasorTreeModel.firstCame(II)I -/
def c_m_firstCame : List Ins := [(.iconst (-1), 0, 0, 0, 0, []),
  (.istore_n 3, 0, 0, 0, 0, []),
  (.iconst 0, 0, 0, 0, 0, []),
  (.istore 4, 0, 0, 0, 0, []),
  (.iload 4, 0, 0, 0, 0, []),
  (.aload_n 0, 0, 0, 0, 0, []),
  (.getfield 7, 0, 7, 0, 872, []),
  (.bipush 7, 0, 0, 0, 0, []),
  (.iaload, 0, 0, 0, 0, []),
  (.if_icmp .ge 47, 0, 33, 0, 0, []),
  (.aload_n 0, 0, 0, 0, 0, []),
  (.iload 4, 0, 0, 0, 0, []),
  (.iload_n 1, 0, 0, 0, 0, []),
  (.iload_n 2, 0, 0, 0, 0, []),
  (.invokevirtual 126, 0, 33, 0, 1084, []),
  (.ifCond .eq 28, 0, 29, 0, 0, []),
  (.iload_n 3, 0, 0, 0, 0, []),
  (.ifCond .lt 14, 0, 24, 0, 0, []),
  (.aload_n 0, 0, 0, 0, 0, []),
  (.iload 4, 0, 0, 0, 0, []),
  (.iconst 5, 0, 0, 0, 0, []),
  (.invokevirtual 104, 0, 5, 0, 989, []),
  (.iload_n 3, 0, 0, 0, 0, []),
  (.if_icmp .ge 13, 0, 29, 0, 0, []),
  (.aload_n 0, 0, 0, 0, 0, []),
  (.iload 4, 0, 0, 0, 0, []),
  (.iconst 5, 0, 0, 0, 0, []),
  (.invokevirtual 104, 0, 5, 0, 989, []),
  (.goto 4, 0, 30, 0, 0, []),
  (.iload_n 3, 0, 0, 0, 0, []),
  (.istore_n 3, 0, 0, 0, 0, []),
  (.iinc 4 1, 0, 0, 0, 0, []),
  (.goto (-53), 0, 4, 0, 0, []),
  (.iload_n 3, 0, 0, 0, 0, []),
  (.ireturn, 0, 0, 0, 0, [])]
set_option maxRecDepth 20000 in
/-- PhasorTreeModel.lasts(II)I -/
def c_m_lasts : List Ins := [(.aload_n 0, 0, 0, 0, 0, []),
  (.iload_n 1, 0, 0, 0, 0, []),
  (.iconst 1, 0, 0, 0, 0, []),
  (.invokevirtual 63, 0, 3, 0, 927, []),
  (.ifCond .ne 7, 0, 7, 0, 0, []),
  (.iload_n 2, 0, 0, 0, 0, []),
  (.goto 9, 0, 11, 0, 0, []),
  (.aload_n 0, 0, 0, 0, 0, []),
  (.iload_n 1, 0, 0, 0, 0, []),
  (.iload_n 2, 0, 0, 0, 0, []),
  (.invokevirtual 136, 0, 41, 0, 1108, []),
  (.aload_n 0, 0, 0, 0, 0, []),
  (.iload_n 1, 0, 0, 0, 0, []),
  (.iconst 0, 0, 0, 0, 0, []),
  (.invokevirtual 63, 0, 3, 0, 927, []),
  (.iadd, 0, 0, 0, 0, []),
  (.istore_n 3, 0, 0, 0, 0, []),
  (.iload_n 3, 0, 0, 0, 0, []),
  (.aload_n 0, 0, 0, 0, 0, []),
  (.getfield 7, 0, 7, 0, 872, []),
  (.iconst 2, 0, 0, 0, 0, []),
  (.iaload, 0, 0, 0, 0, []),
  (.if_icmp .le 14, 0, 30, 0, 0, []),
  (.iload_n 3, 0, 0, 0, 0, []),
  (.aload_n 0, 0, 0, 0, 0, []),
  (.getfield 7, 0, 7, 0, 872, []),
  (.iconst 2, 0, 0, 0, 0, []),
  (.iaload, 0, 0, 0, 0, []),
  (.isub, 0, 0, 0, 0, []),
  (.goto 4, 0, 31, 0, 0, []),
  (.iconst 0, 0, 0, 0, 0, []),
  (.ireturn, 0, 0, 0, 0, [])]
set_option maxRecDepth 20000 in
/-- PhasorTreeModel.free()I -/
def c_m_free : List Ins := [(.iconst 0, 0, 0, 0, 0, []),
  (.istore_n 1, 0, 0, 0, 0, []),
  (.iload_n 1, 0, 0, 0, 0, []),
  (.aload_n 0, 0, 0, 0, 0, []),
  (.getfield 7, 0, 7, 0, 872, []),
  (.bipush 7, 0, 0, 0, 0, []),
  (.iaload, 0, 0, 0, 0, []),
  (.if_icmp .ge 18, 0, 15, 0, 0, []),
  (.aload_n 0, 0, 0, 0, 0, []),
  (.iload_n 1, 0, 0, 0, 0, []),
  (.iconst 0, 0, 0, 0, 0, []),
  (.invokevirtual 104, 0, 5, 0, 989, []),
  (.ifCond .eq 9, 0, 15, 0, 0, []),
  (.iinc 1 1, 0, 0, 0, 0, []),
  (.goto (-23), 0, 2, 0, 0, []),
  (.aload_n 0, 0, 0, 0, 0, []),
  (.getfield 7, 0, 7, 0, 872, []),
  (.bipush 7, 0, 0, 0, 0, []),
  (.dup2, 0, 0, 0, 0, []),
  (.iaload, 0, 0, 0, 0, []),
  (.iload_n 1, 0, 0, 0, 0, []),
  (.aload_n 0, 0, 0, 0, 0, []),
  (.getfield 7, 0, 7, 0, 872, []),
  (.bipush 7, 0, 0, 0, 0, []),
  (.iaload, 0, 0, 0, 0, []),
  (.if_icmp .ne 14, 0, 31, 0, 0, []),
  (.iload_n 1, 0, 0, 0, 0, []),
  (.sipush 559, 0, 0, 0, 0, []),
  (.if_icmp .ge 7, 0, 31, 0, 0, []),
  (.iconst 1, 0, 0, 0, 0, []),
  (.goto 4, 0, 32, 0, 0, []),
  (.iconst 0, 0, 0, 0, 0, []),
  (.iadd, 0, 0, 0, 0, []),
  (.iastore, 0, 0, 0, 0, []),
  (.iload_n 1, 0, 0, 0, 0, []),
  (.ireturn, 0, 0, 0, 0, [])]
set_option maxRecDepth 20000 in
/-- PhasorTreeModel.comes(I)V -/
def c_m_comes : List Ins := [(.aload_n 0, 0, 0, 0, 0, []),
  (.iload_n 1, 0, 0, 0, 0, []),
  (.iconst 1, 0, 0, 0, 0, []),
  (.invokevirtual 104, 0, 5, 0, 989, []),
  (.istore_n 2, 0, 0, 0, 0, []),
  (.aload_n 0, 0, 0, 0, 0, []),
  (.iload_n 1, 0, 0, 0, 0, []),
  (.iconst 2, 0, 0, 0, 0, []),
  (.invokevirtual 104, 0, 5, 0, 989, []),
  (.istore_n 3, 0, 0, 0, 0, []),
  (.aload_n 0, 0, 0, 0, 0, []),
  (.iload_n 2, 0, 0, 0, 0, []),
  (.iconst 4, 0, 0, 0, 0, []),
  (.invokevirtual 63, 0, 3, 0, 927, []),
  (.istore 4, 0, 0, 0, 0, []),
  (.iload_n 3, 0, 0, 0, 0, []),
  (.bipush 10, 0, 0, 0, 0, []),
  (.if_icmp .ge 11, 0, 22, 0, 0, []),
  (.aload_n 0, 0, 0, 0, 0, []),
  (.iload_n 3, 0, 0, 0, 0, []),
  (.invokevirtual 57, 0, 9, 0, 961, []),
  (.ifCond .eq 12, 0, 27, 0, 0, []),
  (.aload_n 0, 0, 0, 0, 0, []),
  (.iload_n 2, 0, 0, 0, 0, []),
  (.iload_n 3, 0, 0, 0, 0, []),
  (.invokevirtual 123, 0, 36, 0, 1080, []),
  (.ifCond .ne 12, 0, 32, 0, 0, []),
  (.aload_n 0, 0, 0, 0, 0, []),
  (.iload_n 1, 0, 0, 0, 0, []),
  (.iconst 3, 0, 0, 0, 0, []),
  (.invokevirtual 104, 0, 5, 0, 989, []),
  (.goto 20, 0, 44, 0, 0, []),
  (.aload_n 0, 0, 0, 0, 0, []),
  (.iload_n 1, 0, 0, 0, 0, []),
  (.iconst 3, 0, 0, 0, 0, []),
  (.invokevirtual 104, 0, 5, 0, 989, []),
  (.iload 4, 0, 0, 0, 0, []),
  (.iadd, 0, 0, 0, 0, []),
  (.iconst 1, 0, 0, 0, 0, []),
  (.isub, 0, 0, 0, 0, []),
  (.iload 4, 0, 0, 0, 0, []),
  (.idiv, 0, 0, 0, 0, []),
  (.iload 4, 0, 0, 0, 0, []),
  (.imul, 0, 0, 0, 0, []),
  (.istore 5, 0, 0, 0, 0, []),
  (.iload_n 3, 0, 0, 0, 0, []),
  (.bipush 10, 0, 0, 0, 0, []),
  (.if_icmp .ge 11, 0, 52, 0, 0, []),
  (.aload_n 0, 0, 0, 0, 0, []),
  (.iload_n 3, 0, 0, 0, 0, []),
  (.invokevirtual 57, 0, 9, 0, 961, []),
  (.ifCond .eq 25, 0, 63, 0, 0, []),
  (.aload_n 0, 0, 0, 0, 0, []),
  (.iload_n 2, 0, 0, 0, 0, []),
  (.bipush 6, 0, 0, 0, 0, []),
  (.invokevirtual 63, 0, 3, 0, 927, []),
  (.ifCond .le 19, 0, 65, 0, 0, []),
  (.iload 5, 0, 0, 0, 0, []),
  (.aload_n 0, 0, 0, 0, 0, []),
  (.iload_n 2, 0, 0, 0, 0, []),
  (.bipush 9, 0, 0, 0, 0, []),
  (.invokevirtual 63, 0, 3, 0, 927, []),
  (.if_icmp .gt 7, 0, 65, 0, 0, []),
  (.iconst 1, 0, 0, 0, 0, []),
  (.goto 4, 0, 66, 0, 0, []),
  (.iconst 0, 0, 0, 0, 0, []),
  (.istore 6, 0, 0, 0, 0, []),
  (.iconst 0, 0, 0, 0, 0, []),
  (.istore 7, 0, 0, 0, 0, []),
  (.iconst 0, 0, 0, 0, 0, []),
  (.istore 8, 0, 0, 0, 0, []),
  (.iload 8, 0, 0, 0, 0, []),
  (.aload_n 0, 0, 0, 0, 0, []),
  (.getfield 7, 0, 7, 0, 872, []),
  (.bipush 7, 0, 0, 0, 0, []),
  (.iaload, 0, 0, 0, 0, []),
  (.if_icmp .ge 60, 0, 106, 0, 0, []),
  (.iload 7, 0, 0, 0, 0, []),
  (.ifCond .ne 42, 0, 100, 0, 0, []),
  (.aload_n 0, 0, 0, 0, 0, []),
  (.iload 8, 0, 0, 0, 0, []),
  (.iload_n 2, 0, 0, 0, 0, []),
  (.iload 5, 0, 0, 0, 0, []),
  (.invokevirtual 126, 0, 33, 0, 1084, []),
  (.ifCond .eq 34, 0, 102, 0, 0, []),
  (.aload_n 0, 0, 0, 0, 0, []),
  (.iload 8, 0, 0, 0, 0, []),
  (.iconst 2, 0, 0, 0, 0, []),
  (.invokevirtual 104, 0, 5, 0, 989, []),
  (.iload_n 3, 0, 0, 0, 0, []),
  (.if_icmp .ne 23, 0, 102, 0, 0, []),
  (.aload_n 0, 0, 0, 0, 0, []),
  (.iload 8, 0, 0, 0, 0, []),
  (.iconst 3, 0, 0, 0, 0, []),
  (.invokevirtual 104, 0, 5, 0, 989, []),
  (.aload_n 0, 0, 0, 0, 0, []),
  (.iload_n 1, 0, 0, 0, 0, []),
  (.iconst 3, 0, 0, 0, 0, []),
  (.invokevirtual 104, 0, 5, 0, 989, []),
  (.if_icmp .ne 7, 0, 102, 0, 0, []),
  (.iconst 1, 0, 0, 0, 0, []),
  (.goto 4, 0, 103, 0, 0, []),
  (.iconst 0, 0, 0, 0, 0, []),
  (.istore 7, 0, 0, 0, 0, []),
  (.iinc 8 1, 0, 0, 0, 0, []),
  (.goto (-66), 0, 71, 0, 0, []),
  (.iload 6, 0, 0, 0, 0, []),
  (.ifCond .ne 8, 0, 110, 0, 0, []),
  (.iload 7, 0, 0, 0, 0, []),
  (.ifCond .eq 40, 0, 134, 0, 0, []),
  (.aload_n 0, 0, 0, 0, 0, []),
  (.getfield 7, 0, 7, 0, 872, []),
  (.bipush 8, 0, 0, 0, 0, []),
  (.bipush 10, 0, 0, 0, 0, []),
  (.iload_n 2, 0, 0, 0, 0, []),
  (.imul, 0, 0, 0, 0, []),
  (.iadd, 0, 0, 0, 0, []),
  (.iload 6, 0, 0, 0, 0, []),
  (.ifCond .eq 8, 0, 121, 0, 0, []),
  (.bipush 7, 0, 0, 0, 0, []),
  (.goto 5, 0, 122, 0, 0, []),
  (.bipush 8, 0, 0, 0, 0, []),
  (.iadd, 0, 0, 0, 0, []),
  (.dup2, 0, 0, 0, 0, []),
  (.iaload, 0, 0, 0, 0, []),
  (.iconst 1, 0, 0, 0, 0, []),
  (.iadd, 0, 0, 0, 0, []),
  (.iastore, 0, 0, 0, 0, []),
  (.aload_n 0, 0, 0, 0, 0, []),
  (.iload_n 1, 0, 0, 0, 0, []),
  (.iconst 0, 0, 0, 0, 0, []),
  (.iconst 0, 0, 0, 0, 0, []),
  (.invokevirtual 139, 0, 6, 0, 1056, []),
  (.return_, 0, 0, 0, 0, []),
  (.aload_n 0, 0, 0, 0, 0, []),
  (.iload_n 1, 0, 0, 0, 0, []),
  (.iconst 0, 0, 0, 0, 0, []),
  (.iconst 2, 0, 0, 0, 0, []),
  (.invokevirtual 139, 0, 6, 0, 1056, []),
  (.aload_n 0, 0, 0, 0, 0, []),
  (.iload_n 1, 0, 0, 0, 0, []),
  (.iconst 4, 0, 0, 0, 0, []),
  (.iload 5, 0, 0, 0, 0, []),
  (.invokevirtual 139, 0, 6, 0, 1056, []),
  (.aload_n 0, 0, 0, 0, 0, []),
  (.iload_n 1, 0, 0, 0, 0, []),
  (.iconst 5, 0, 0, 0, 0, []),
  (.aload_n 0, 0, 0, 0, 0, []),
  (.getfield 7, 0, 7, 0, 872, []),
  (.iconst 2, 0, 0, 0, 0, []),
  (.iaload, 0, 0, 0, 0, []),
  (.invokevirtual 139, 0, 6, 0, 1056, []),
  (.return_, 0, 0, 0, 0, [])]
set_option maxRecDepth 20000 in
/-- PhasorTreeModel.plain(IIII)Z -/
def c_m_plain : List Ins := [(.iconst 0, 0, 0, 0, 0, []),
  (.istore 5, 0, 0, 0, 0, []),
  (.iload 5, 0, 0, 0, 0, []),
  (.aload_n 0, 0, 0, 0, 0, []),
  (.getfield 7, 0, 7, 0, 872, []),
  (.bipush 7, 0, 0, 0, 0, []),
  (.iaload, 0, 0, 0, 0, []),
  (.if_icmp .ge 94, 0, 60, 0, 0, []),
  (.aload_n 0, 0, 0, 0, 0, []),
  (.iload 5, 0, 0, 0, 0, []),
  (.iload_n 1, 0, 0, 0, 0, []),
  (.iload 4, 0, 0, 0, 0, []),
  (.invokevirtual 126, 0, 33, 0, 1084, []),
  (.ifCond .eq 76, 0, 58, 0, 0, []),
  (.aload_n 0, 0, 0, 0, 0, []),
  (.iload 5, 0, 0, 0, 0, []),
  (.iconst 2, 0, 0, 0, 0, []),
  (.invokevirtual 104, 0, 5, 0, 989, []),
  (.iload_n 3, 0, 0, 0, 0, []),
  (.if_icmp .ne 65, 0, 58, 0, 0, []),
  (.aload_n 0, 0, 0, 0, 0, []),
  (.iload 5, 0, 0, 0, 0, []),
  (.iconst 3, 0, 0, 0, 0, []),
  (.invokevirtual 104, 0, 5, 0, 989, []),
  (.iload 4, 0, 0, 0, 0, []),
  (.if_icmp .ne 53, 0, 58, 0, 0, []),
  (.aload_n 0, 0, 0, 0, 0, []),
  (.iload 5, 0, 0, 0, 0, []),
  (.bipush 6, 0, 0, 0, 0, []),
  (.invokevirtual 104, 0, 5, 0, 989, []),
  (.iload_n 2, 0, 0, 0, 0, []),
  (.ishr, 0, 0, 0, 0, []),
  (.iconst 1, 0, 0, 0, 0, []),
  (.iand, 0, 0, 0, 0, []),
  (.iconst 1, 0, 0, 0, 0, []),
  (.if_icmp .ne 37, 0, 58, 0, 0, []),
  (.aload_n 0, 0, 0, 0, 0, []),
  (.getfield 30, 0, 7, 10, 882, []),
  (.iload_n 2, 0, 0, 0, 0, []),
  (.aload_n 0, 0, 0, 0, 0, []),
  (.iload 5, 0, 0, 0, 0, []),
  (.bipush 7, 0, 0, 0, 0, []),
  (.iload_n 2, 0, 0, 0, 0, []),
  (.iadd, 0, 0, 0, 0, []),
  (.invokevirtual 104, 0, 5, 0, 989, []),
  (.iastore, 0, 0, 0, 0, []),
  (.aload_n 0, 0, 0, 0, 0, []),
  (.getfield 33, 0, 7, 11, 883, []),
  (.iload_n 2, 0, 0, 0, 0, []),
  (.aload_n 0, 0, 0, 0, 0, []),
  (.iload 5, 0, 0, 0, 0, []),
  (.bipush 17, 0, 0, 0, 0, []),
  (.iload_n 2, 0, 0, 0, 0, []),
  (.iadd, 0, 0, 0, 0, []),
  (.invokevirtual 104, 0, 5, 0, 989, []),
  (.iastore, 0, 0, 0, 0, []),
  (.iconst 1, 0, 0, 0, 0, []),
  (.ireturn, 0, 0, 0, 0, []),
  (.iinc 5 1, 0, 0, 0, 0, []),
  (.goto (-100), 0, 2, 0, 0, []),
  (.iconst 0, 0, 0, 0, 0, []),
  (.ireturn, 0, 0, 0, 0, [])]
set_option maxRecDepth 20000 in
/-- PhasorTreeModel.gathers(IIIIZ)I -/
def c_m_gathers : List Ins := [(.iconst 0, 0, 0, 0, 0, []),
  (.istore 6, 0, 0, 0, 0, []),
  (.aload_n 0, 0, 0, 0, 0, []),
  (.iconst 0, 0, 0, 0, 0, []),
  (.putfield 143, 0, 7, 13, 885, []),
  (.iconst 0, 0, 0, 0, 0, []),
  (.istore 7, 0, 0, 0, 0, []),
  (.iload 7, 0, 0, 0, 0, []),
  (.aload_n 0, 0, 0, 0, 0, []),
  (.getfield 7, 0, 7, 0, 872, []),
  (.bipush 7, 0, 0, 0, 0, []),
  (.iaload, 0, 0, 0, 0, []),
  (.if_icmp .ge 177, 0, 109, 0, 0, []),
  (.aload_n 0, 0, 0, 0, 0, []),
  (.iload 7, 0, 0, 0, 0, []),
  (.iload_n 1, 0, 0, 0, 0, []),
  (.iload 4, 0, 0, 0, 0, []),
  (.invokevirtual 126, 0, 33, 0, 1084, []),
  (.ifCond .eq 34, 0, 37, 0, 0, []),
  (.aload_n 0, 0, 0, 0, 0, []),
  (.iload 7, 0, 0, 0, 0, []),
  (.iconst 2, 0, 0, 0, 0, []),
  (.invokevirtual 104, 0, 5, 0, 989, []),
  (.iload_n 3, 0, 0, 0, 0, []),
  (.if_icmp .ne 23, 0, 37, 0, 0, []),
  (.aload_n 0, 0, 0, 0, 0, []),
  (.iload 7, 0, 0, 0, 0, []),
  (.bipush 6, 0, 0, 0, 0, []),
  (.invokevirtual 104, 0, 5, 0, 989, []),
  (.iload_n 2, 0, 0, 0, 0, []),
  (.ishr, 0, 0, 0, 0, []),
  (.iconst 1, 0, 0, 0, 0, []),
  (.iand, 0, 0, 0, 0, []),
  (.iconst 1, 0, 0, 0, 0, []),
  (.if_icmp .ne 7, 0, 37, 0, 0, []),
  (.iconst 1, 0, 0, 0, 0, []),
  (.goto 4, 0, 38, 0, 0, []),
  (.iconst 0, 0, 0, 0, 0, []),
  (.istore 8, 0, 0, 0, 0, []),
  (.iload 8, 0, 0, 0, 0, []),
  (.ifCond .eq 120, 0, 107, 0, 0, []),
  (.iload 5, 0, 0, 0, 0, []),
  (.ifCond .ne 18, 0, 52, 0, 0, []),
  (.aload_n 0, 0, 0, 0, 0, []),
  (.iload 7, 0, 0, 0, 0, []),
  (.bipush 17, 0, 0, 0, 0, []),
  (.iload_n 2, 0, 0, 0, 0, []),
  (.iadd, 0, 0, 0, 0, []),
  (.invokevirtual 104, 0, 5, 0, 989, []),
  (.iconst 1, 0, 0, 0, 0, []),
  (.iand, 0, 0, 0, 0, []),
  (.ifCond .ne 100, 0, 107, 0, 0, []),
  (.aload_n 0, 0, 0, 0, 0, []),
  (.getfield 143, 0, 7, 13, 885, []),
  (.istore 9, 0, 0, 0, 0, []),
  (.iload 9, 0, 0, 0, 0, []),
  (.ifCond .le 47, 0, 82, 0, 0, []),
  (.aload_n 0, 0, 0, 0, 0, []),
  (.getfield 36, 0, 7, 12, 884, []),
  (.iload 9, 0, 0, 0, 0, []),
  (.iconst 1, 0, 0, 0, 0, []),
  (.isub, 0, 0, 0, 0, []),
  (.iaload, 0, 0, 0, 0, []),
  (.aload_n 0, 0, 0, 0, 0, []),
  (.iload 7, 0, 0, 0, 0, []),
  (.bipush 7, 0, 0, 0, 0, []),
  (.iload_n 2, 0, 0, 0, 0, []),
  (.iadd, 0, 0, 0, 0, []),
  (.invokevirtual 104, 0, 5, 0, 989, []),
  (.if_icmp .le 25, 0, 82, 0, 0, []),
  (.aload_n 0, 0, 0, 0, 0, []),
  (.getfield 36, 0, 7, 12, 884, []),
  (.iload 9, 0, 0, 0, 0, []),
  (.aload_n 0, 0, 0, 0, 0, []),
  (.getfield 36, 0, 7, 12, 884, []),
  (.iload 9, 0, 0, 0, 0, []),
  (.iconst 1, 0, 0, 0, 0, []),
  (.isub, 0, 0, 0, 0, []),
  (.iaload, 0, 0, 0, 0, []),
  (.iastore, 0, 0, 0, 0, []),
  (.iinc 9 (-1), 0, 0, 0, 0, []),
  (.goto (-46), 0, 55, 0, 0, []),
  (.aload_n 0, 0, 0, 0, 0, []),
  (.getfield 36, 0, 7, 12, 884, []),
  (.iload 9, 0, 0, 0, 0, []),
  (.aload_n 0, 0, 0, 0, 0, []),
  (.iload 7, 0, 0, 0, 0, []),
  (.bipush 7, 0, 0, 0, 0, []),
  (.iload_n 2, 0, 0, 0, 0, []),
  (.iadd, 0, 0, 0, 0, []),
  (.invokevirtual 104, 0, 5, 0, 989, []),
  (.iastore, 0, 0, 0, 0, []),
  (.iload 6, 0, 0, 0, 0, []),
  (.aload_n 0, 0, 0, 0, 0, []),
  (.iload 7, 0, 0, 0, 0, []),
  (.bipush 17, 0, 0, 0, 0, []),
  (.iload_n 2, 0, 0, 0, 0, []),
  (.iadd, 0, 0, 0, 0, []),
  (.invokevirtual 104, 0, 5, 0, 989, []),
  (.ior, 0, 0, 0, 0, []),
  (.istore 6, 0, 0, 0, 0, []),
  (.aload_n 0, 0, 0, 0, 0, []),
  (.dup, 0, 0, 0, 0, []),
  (.getfield 143, 0, 7, 13, 885, []),
  (.iconst 1, 0, 0, 0, 0, []),
  (.iadd, 0, 0, 0, 0, []),
  (.putfield 143, 0, 7, 13, 885, []),
  (.iinc 7 1, 0, 0, 0, 0, []),
  (.goto (-183), 0, 7, 0, 0, []),
  (.iload 6, 0, 0, 0, 0, []),
  (.ireturn, 0, 0, 0, 0, [])]
set_option maxRecDepth 20000 in
/-- PhasorTreeModel.filtered(IIII)Z -/
def c_m_filtered : List Ins := [(.aload_n 0, 0, 0, 0, 0, []),
  (.iload_n 1, 0, 0, 0, 0, []),
  (.iload_n 2, 0, 0, 0, 0, []),
  (.iload_n 3, 0, 0, 0, 0, []),
  (.iload 4, 0, 0, 0, 0, []),
  (.iconst 0, 0, 0, 0, 0, []),
  (.invokevirtual 146, 0, 46, 0, 1132, []),
  (.istore 5, 0, 0, 0, 0, []),
  (.aload_n 0, 0, 0, 0, 0, []),
  (.getfield 143, 0, 7, 13, 885, []),
  (.ifCond .ne 16, 0, 19, 0, 0, []),
  (.aload_n 0, 0, 0, 0, 0, []),
  (.iload_n 1, 0, 0, 0, 0, []),
  (.iload_n 2, 0, 0, 0, 0, []),
  (.iload_n 3, 0, 0, 0, 0, []),
  (.iload 4, 0, 0, 0, 0, []),
  (.iconst 1, 0, 0, 0, 0, []),
  (.invokevirtual 146, 0, 46, 0, 1132, []),
  (.goto 5, 0, 20, 0, 0, []),
  (.iload 5, 0, 0, 0, 0, []),
  (.istore 5, 0, 0, 0, 0, []),
  (.aload_n 0, 0, 0, 0, 0, []),
  (.getfield 143, 0, 7, 13, 885, []),
  (.ifCond .ne 5, 0, 26, 0, 0, []),
  (.iconst 0, 0, 0, 0, 0, []),
  (.ireturn, 0, 0, 0, 0, []),
  (.iconst 0, 0, 0, 0, 0, []),
  (.istore 6, 0, 0, 0, 0, []),
  (.iconst 0, 0, 0, 0, 0, []),
  (.istore 7, 0, 0, 0, 0, []),
  (.iload 7, 0, 0, 0, 0, []),
  (.aload_n 0, 0, 0, 0, 0, []),
  (.getfield 143, 0, 7, 13, 885, []),
  (.if_icmp .ge 21, 0, 43, 0, 0, []),
  (.iload 6, 0, 0, 0, 0, []),
  (.aload_n 0, 0, 0, 0, 0, []),
  (.getfield 36, 0, 7, 12, 884, []),
  (.iload 7, 0, 0, 0, 0, []),
  (.iaload, 0, 0, 0, 0, []),
  (.iadd, 0, 0, 0, 0, []),
  (.istore 6, 0, 0, 0, 0, []),
  (.iinc 7 1, 0, 0, 0, 0, []),
  (.goto (-24), 0, 30, 0, 0, []),
  (.aload_n 0, 0, 0, 0, 0, []),
  (.getfield 30, 0, 7, 10, 882, []),
  (.iload_n 2, 0, 0, 0, 0, []),
  (.aload_n 0, 0, 0, 0, 0, []),
  (.iload_n 1, 0, 0, 0, 0, []),
  (.iconst 2, 0, 0, 0, 0, []),
  (.invokevirtual 63, 0, 3, 0, 927, []),
  (.iconst 1, 0, 0, 0, 0, []),
  (.if_icmp .ne 13, 0, 57, 0, 0, []),
  (.iload 6, 0, 0, 0, 0, []),
  (.aload_n 0, 0, 0, 0, 0, []),
  (.getfield 143, 0, 7, 13, 885, []),
  (.idiv, 0, 0, 0, 0, []),
  (.goto 16, 0, 66, 0, 0, []),
  (.aload_n 0, 0, 0, 0, 0, []),
  (.getfield 36, 0, 7, 12, 884, []),
  (.aload_n 0, 0, 0, 0, 0, []),
  (.getfield 143, 0, 7, 13, 885, []),
  (.iconst 1, 0, 0, 0, 0, []),
  (.isub, 0, 0, 0, 0, []),
  (.iconst 2, 0, 0, 0, 0, []),
  (.idiv, 0, 0, 0, 0, []),
  (.iaload, 0, 0, 0, 0, []),
  (.iastore, 0, 0, 0, 0, []),
  (.aload_n 0, 0, 0, 0, 0, []),
  (.getfield 33, 0, 7, 11, 883, []),
  (.iload_n 2, 0, 0, 0, 0, []),
  (.iload 5, 0, 0, 0, 0, []),
  (.bipush 64, 0, 0, 0, 0, []),
  (.ior, 0, 0, 0, 0, []),
  (.aload_n 0, 0, 0, 0, 0, []),
  (.getfield 143, 0, 7, 13, 885, []),
  (.aload_n 0, 0, 0, 0, 0, []),
  (.iload_n 1, 0, 0, 0, 0, []),
  (.iload_n 3, 0, 0, 0, 0, []),
  (.iload 4, 0, 0, 0, 0, []),
  (.invokevirtual 129, 0, 37, 0, 1100, []),
  (.if_icmp .ge 8, 0, 83, 0, 0, []),
  (.bipush 32, 0, 0, 0, 0, []),
  (.goto 4, 0, 84, 0, 0, []),
  (.iconst 0, 0, 0, 0, 0, []),
  (.ior, 0, 0, 0, 0, []),
  (.iastore, 0, 0, 0, 0, []),
  (.iconst 1, 0, 0, 0, 0, []),
  (.ireturn, 0, 0, 0, 0, [])]
set_option maxRecDepth 20000 in
/-- PhasorTreeModel.held(II)Z -/
def c_m_held : List Ins := [(.bipush 98, 0, 0, 0, 0, []),
  (.bipush 30, 0, 0, 0, 0, []),
  (.iload_n 1, 0, 0, 0, 0, []),
  (.imul, 0, 0, 0, 0, []),
  (.iadd, 0, 0, 0, 0, []),
  (.iconst 3, 0, 0, 0, 0, []),
  (.iload_n 2, 0, 0, 0, 0, []),
  (.imul, 0, 0, 0, 0, []),
  (.iadd, 0, 0, 0, 0, []),
  (.istore_n 3, 0, 0, 0, 0, []),
  (.aload_n 0, 0, 0, 0, 0, []),
  (.getfield 30, 0, 7, 10, 882, []),
  (.iload_n 2, 0, 0, 0, 0, []),
  (.aload_n 0, 0, 0, 0, 0, []),
  (.getfield 7, 0, 7, 0, 872, []),
  (.iload_n 3, 0, 0, 0, 0, []),
  (.iconst 1, 0, 0, 0, 0, []),
  (.iadd, 0, 0, 0, 0, []),
  (.iaload, 0, 0, 0, 0, []),
  (.iastore, 0, 0, 0, 0, []),
  (.aload_n 0, 0, 0, 0, 0, []),
  (.getfield 33, 0, 7, 11, 883, []),
  (.iload_n 2, 0, 0, 0, 0, []),
  (.aload_n 0, 0, 0, 0, 0, []),
  (.getfield 7, 0, 7, 0, 872, []),
  (.iload_n 3, 0, 0, 0, 0, []),
  (.iconst 2, 0, 0, 0, 0, []),
  (.iadd, 0, 0, 0, 0, []),
  (.iaload, 0, 0, 0, 0, []),
  (.sipush 128, 0, 0, 0, 0, []),
  (.ior, 0, 0, 0, 0, []),
  (.iastore, 0, 0, 0, 0, []),
  (.aload_n 0, 0, 0, 0, 0, []),
  (.getfield 7, 0, 7, 0, 872, []),
  (.iload_n 3, 0, 0, 0, 0, []),
  (.iaload, 0, 0, 0, 0, []),
  (.iconst 1, 0, 0, 0, 0, []),
  (.if_icmp .ne 7, 0, 40, 0, 0, []),
  (.iconst 1, 0, 0, 0, 0, []),
  (.goto 4, 0, 41, 0, 0, []),
  (.iconst 0, 0, 0, 0, 0, []),
  (.ireturn, 0, 0, 0, 0, [])]
set_option maxRecDepth 20000 in
/-- PhasorTreeModel.reads(III)Z -/
def c_m_reads : List Ins := [(.aload_n 0, 0, 0, 0, 0, []),
  (.iload_n 1, 0, 0, 0, 0, []),
  (.iload_n 2, 0, 0, 0, 0, []),
  (.invokevirtual 66, 0, 17, 0, 1022, []),
  (.istore 4, 0, 0, 0, 0, []),
  (.aload_n 0, 0, 0, 0, 0, []),
  (.iload 4, 0, 0, 0, 0, []),
  (.invokevirtual 95, 0, 16, 0, 997, []),
  (.istore 5, 0, 0, 0, 0, []),
  (.aload_n 0, 0, 0, 0, 0, []),
  (.iload_n 1, 0, 0, 0, 0, []),
  (.iload 4, 0, 0, 0, 0, []),
  (.invokevirtual 123, 0, 36, 0, 1080, []),
  (.ifCond .ne 29, 0, 30, 0, 0, []),
  (.iload_n 3, 0, 0, 0, 0, []),
  (.iload 5, 0, 0, 0, 0, []),
  (.irem, 0, 0, 0, 0, []),
  (.ifCond .ne 15, 0, 25, 0, 0, []),
  (.aload_n 0, 0, 0, 0, 0, []),
  (.iload_n 1, 0, 0, 0, 0, []),
  (.iload_n 2, 0, 0, 0, 0, []),
  (.iload 4, 0, 0, 0, 0, []),
  (.iload_n 3, 0, 0, 0, 0, []),
  (.invokevirtual 150, 0, 45, 0, 1120, []),
  (.goto 9, 0, 29, 0, 0, []),
  (.aload_n 0, 0, 0, 0, 0, []),
  (.iload_n 1, 0, 0, 0, 0, []),
  (.iload_n 2, 0, 0, 0, 0, []),
  (.invokevirtual 154, 0, 48, 0, 1124, []),
  (.ireturn, 0, 0, 0, 0, []),
  (.aload_n 0, 0, 0, 0, 0, []),
  (.iload_n 1, 0, 0, 0, 0, []),
  (.iconst 2, 0, 0, 0, 0, []),
  (.invokevirtual 63, 0, 3, 0, 927, []),
  (.ifCond .eq 14, 0, 41, 0, 0, []),
  (.iload 5, 0, 0, 0, 0, []),
  (.aload_n 0, 0, 0, 0, 0, []),
  (.iload_n 1, 0, 0, 0, 0, []),
  (.iconst 4, 0, 0, 0, 0, []),
  (.invokevirtual 63, 0, 3, 0, 927, []),
  (.if_icmp .ne 15, 0, 48, 0, 0, []),
  (.aload_n 0, 0, 0, 0, 0, []),
  (.iload_n 1, 0, 0, 0, 0, []),
  (.iload_n 2, 0, 0, 0, 0, []),
  (.iload 4, 0, 0, 0, 0, []),
  (.iload_n 3, 0, 0, 0, 0, []),
  (.invokevirtual 150, 0, 45, 0, 1120, []),
  (.goto 12, 0, 54, 0, 0, []),
  (.aload_n 0, 0, 0, 0, 0, []),
  (.iload_n 1, 0, 0, 0, 0, []),
  (.iload_n 2, 0, 0, 0, 0, []),
  (.iload 4, 0, 0, 0, 0, []),
  (.iload_n 3, 0, 0, 0, 0, []),
  (.invokevirtual 157, 0, 47, 0, 1128, []),
  (.ireturn, 0, 0, 0, 0, [])]
set_option maxRecDepth 20000 in
/-- PhasorTreeModel.outs(IIII)V -/
def c_m_outs : List Ins := [(.aload_n 0, 0, 0, 0, 0, []),
  (.getfield 7, 0, 7, 0, 872, []),
  (.iconst 5, 0, 0, 0, 0, []),
  (.iaload, 0, 0, 0, 0, []),
  (.bipush 8, 0, 0, 0, 0, []),
  (.if_icmp .ne 53, 0, 32, 0, 0, []),
  (.iconst 0, 0, 0, 0, 0, []),
  (.istore 5, 0, 0, 0, 0, []),
  (.iload 5, 0, 0, 0, 0, []),
  (.sipush 175, 0, 0, 0, 0, []),
  (.if_icmp .ge 34, 0, 27, 0, 0, []),
  (.aload_n 0, 0, 0, 0, 0, []),
  (.getfield 7, 0, 7, 0, 872, []),
  (.sipush 248, 0, 0, 0, 0, []),
  (.iload 5, 0, 0, 0, 0, []),
  (.iadd, 0, 0, 0, 0, []),
  (.aload_n 0, 0, 0, 0, 0, []),
  (.getfield 7, 0, 7, 0, 872, []),
  (.sipush 248, 0, 0, 0, 0, []),
  (.iload 5, 0, 0, 0, 0, []),
  (.iadd, 0, 0, 0, 0, []),
  (.bipush 25, 0, 0, 0, 0, []),
  (.iadd, 0, 0, 0, 0, []),
  (.iaload, 0, 0, 0, 0, []),
  (.iastore, 0, 0, 0, 0, []),
  (.iinc 5 1, 0, 0, 0, 0, []),
  (.goto (-36), 0, 8, 0, 0, []),
  (.aload_n 0, 0, 0, 0, 0, []),
  (.getfield 7, 0, 7, 0, 872, []),
  (.iconst 5, 0, 0, 0, 0, []),
  (.bipush 7, 0, 0, 0, 0, []),
  (.iastore, 0, 0, 0, 0, []),
  (.sipush 248, 0, 0, 0, 0, []),
  (.bipush 25, 0, 0, 0, 0, []),
  (.aload_n 0, 0, 0, 0, 0, []),
  (.getfield 7, 0, 7, 0, 872, []),
  (.iconst 5, 0, 0, 0, 0, []),
  (.iaload, 0, 0, 0, 0, []),
  (.imul, 0, 0, 0, 0, []),
  (.iadd, 0, 0, 0, 0, []),
  (.istore 5, 0, 0, 0, 0, []),
  (.aload_n 0, 0, 0, 0, 0, []),
  (.getfield 7, 0, 7, 0, 872, []),
  (.iload 5, 0, 0, 0, 0, []),
  (.iload_n 1, 0, 0, 0, 0, []),
  (.iastore, 0, 0, 0, 0, []),
  (.aload_n 0, 0, 0, 0, 0, []),
  (.getfield 7, 0, 7, 0, 872, []),
  (.iload 5, 0, 0, 0, 0, []),
  (.iconst 1, 0, 0, 0, 0, []),
  (.iadd, 0, 0, 0, 0, []),
  (.aload_n 0, 0, 0, 0, 0, []),
  (.getfield 7, 0, 7, 0, 872, []),
  (.iconst 2, 0, 0, 0, 0, []),
  (.iaload, 0, 0, 0, 0, []),
  (.iastore, 0, 0, 0, 0, []),
  (.aload_n 0, 0, 0, 0, 0, []),
  (.getfield 7, 0, 7, 0, 872, []),
  (.iload 5, 0, 0, 0, 0, []),
  (.iconst 2, 0, 0, 0, 0, []),
  (.iadd, 0, 0, 0, 0, []),
  (.iload 4, 0, 0, 0, 0, []),
  (.iload_n 3, 0, 0, 0, 0, []),
  (.ifCond .le 8, 0, 66, 0, 0, []),
  (.bipush 16, 0, 0, 0, 0, []),
  (.goto 4, 0, 67, 0, 0, []),
  (.iconst 0, 0, 0, 0, 0, []),
  (.ior, 0, 0, 0, 0, []),
  (.iastore, 0, 0, 0, 0, []),
  (.aload_n 0, 0, 0, 0, 0, []),
  (.getfield 7, 0, 7, 0, 872, []),
  (.iload 5, 0, 0, 0, 0, []),
  (.iconst 3, 0, 0, 0, 0, []),
  (.iadd, 0, 0, 0, 0, []),
  (.iload_n 2, 0, 0, 0, 0, []),
  (.iastore, 0, 0, 0, 0, []),
  (.aload_n 0, 0, 0, 0, 0, []),
  (.getfield 7, 0, 7, 0, 872, []),
  (.iload 5, 0, 0, 0, 0, []),
  (.iconst 4, 0, 0, 0, 0, []),
  (.iadd, 0, 0, 0, 0, []),
  (.iload_n 3, 0, 0, 0, 0, []),
  (.iastore, 0, 0, 0, 0, []),
  (.iconst 0, 0, 0, 0, 0, []),
  (.istore 6, 0, 0, 0, 0, []),
  (.iload 6, 0, 0, 0, 0, []),
  (.bipush 10, 0, 0, 0, 0, []),
  (.if_icmp .ge 48, 0, 114, 0, 0, []),
  (.aload_n 0, 0, 0, 0, 0, []),
  (.getfield 7, 0, 7, 0, 872, []),
  (.iload 5, 0, 0, 0, 0, []),
  (.iconst 5, 0, 0, 0, 0, []),
  (.iadd, 0, 0, 0, 0, []),
  (.iload 6, 0, 0, 0, 0, []),
  (.iadd, 0, 0, 0, 0, []),
  (.aload_n 0, 0, 0, 0, 0, []),
  (.getfield 30, 0, 7, 10, 882, []),
  (.iload 6, 0, 0, 0, 0, []),
  (.iaload, 0, 0, 0, 0, []),
  (.iastore, 0, 0, 0, 0, []),
  (.aload_n 0, 0, 0, 0, 0, []),
  (.getfield 7, 0, 7, 0, 872, []),
  (.iload 5, 0, 0, 0, 0, []),
  (.bipush 15, 0, 0, 0, 0, []),
  (.iadd, 0, 0, 0, 0, []),
  (.iload 6, 0, 0, 0, 0, []),
  (.iadd, 0, 0, 0, 0, []),
  (.aload_n 0, 0, 0, 0, 0, []),
  (.getfield 33, 0, 7, 11, 883, []),
  (.iload 6, 0, 0, 0, 0, []),
  (.iaload, 0, 0, 0, 0, []),
  (.iastore, 0, 0, 0, 0, []),
  (.iinc 6 1, 0, 0, 0, 0, []),
  (.goto (-49), 0, 85, 0, 0, []),
  (.aload_n 0, 0, 0, 0, 0, []),
  (.getfield 7, 0, 7, 0, 872, []),
  (.iconst 2, 0, 0, 0, 0, []),
  (.iaload, 0, 0, 0, 0, []),
  (.iload_n 1, 0, 0, 0, 0, []),
  (.isub, 0, 0, 0, 0, []),
  (.istore 6, 0, 0, 0, 0, []),
  (.aload_n 0, 0, 0, 0, 0, []),
  (.getfield 7, 0, 7, 0, 872, []),
  (.bipush 6, 0, 0, 0, 0, []),
  (.aload_n 0, 0, 0, 0, 0, []),
  (.getfield 7, 0, 7, 0, 872, []),
  (.iconst 4, 0, 0, 0, 0, []),
  (.iaload, 0, 0, 0, 0, []),
  (.ifCond .eq 15, 0, 135, 0, 0, []),
  (.iload 6, 0, 0, 0, 0, []),
  (.aload_n 0, 0, 0, 0, 0, []),
  (.getfield 7, 0, 7, 0, 872, []),
  (.bipush 6, 0, 0, 0, 0, []),
  (.iaload, 0, 0, 0, 0, []),
  (.if_icmp .le 8, 0, 137, 0, 0, []),
  (.iload 6, 0, 0, 0, 0, []),
  (.goto 10, 0, 141, 0, 0, []),
  (.aload_n 0, 0, 0, 0, 0, []),
  (.getfield 7, 0, 7, 0, 872, []),
  (.bipush 6, 0, 0, 0, 0, []),
  (.iaload, 0, 0, 0, 0, []),
  (.iastore, 0, 0, 0, 0, []),
  (.aload_n 0, 0, 0, 0, 0, []),
  (.getfield 7, 0, 7, 0, 872, []),
  (.iconst 5, 0, 0, 0, 0, []),
  (.dup2, 0, 0, 0, 0, []),
  (.iaload, 0, 0, 0, 0, []),
  (.iconst 1, 0, 0, 0, 0, []),
  (.iadd, 0, 0, 0, 0, []),
  (.iastore, 0, 0, 0, 0, []),
  (.aload_n 0, 0, 0, 0, 0, []),
  (.getfield 7, 0, 7, 0, 872, []),
  (.iconst 4, 0, 0, 0, 0, []),
  (.dup2, 0, 0, 0, 0, []),
  (.iaload, 0, 0, 0, 0, []),
  (.iconst 1, 0, 0, 0, 0, []),
  (.iadd, 0, 0, 0, 0, []),
  (.iastore, 0, 0, 0, 0, []),
  (.return_, 0, 0, 0, 0, [])]
set_option maxRecDepth 20000 in
/-- PhasorTreeModel.sends(III)V -/
def c_m_sends : List Ins := [(.aload_n 0, 0, 0, 0, 0, []),
  (.invokevirtual 160, 0, 43, 0, 1052, []),
  (.istore 4, 0, 0, 0, 0, []),
  (.aload_n 0, 0, 0, 0, 0, []),
  (.iload 4, 0, 0, 0, 0, []),
  (.iconst 0, 0, 0, 0, 0, []),
  (.iconst 1, 0, 0, 0, 0, []),
  (.invokevirtual 139, 0, 6, 0, 1056, []),
  (.aload_n 0, 0, 0, 0, 0, []),
  (.iload 4, 0, 0, 0, 0, []),
  (.iconst 1, 0, 0, 0, 0, []),
  (.aload_n 0, 0, 0, 0, 0, []),
  (.iload_n 1, 0, 0, 0, 0, []),
  (.iconst 5, 0, 0, 0, 0, []),
  (.invokevirtual 63, 0, 3, 0, 927, []),
  (.invokevirtual 139, 0, 6, 0, 1056, []),
  (.aload_n 0, 0, 0, 0, 0, []),
  (.iload 4, 0, 0, 0, 0, []),
  (.iconst 2, 0, 0, 0, 0, []),
  (.bipush 10, 0, 0, 0, 0, []),
  (.iload_n 1, 0, 0, 0, 0, []),
  (.iadd, 0, 0, 0, 0, []),
  (.invokevirtual 139, 0, 6, 0, 1056, []),
  (.aload_n 0, 0, 0, 0, 0, []),
  (.iload 4, 0, 0, 0, 0, []),
  (.iconst 3, 0, 0, 0, 0, []),
  (.iload_n 2, 0, 0, 0, 0, []),
  (.invokevirtual 139, 0, 6, 0, 1056, []),
  (.aload_n 0, 0, 0, 0, 0, []),
  (.iload 4, 0, 0, 0, 0, []),
  (.iconst 4, 0, 0, 0, 0, []),
  (.aload_n 0, 0, 0, 0, 0, []),
  (.getfield 7, 0, 7, 0, 872, []),
  (.iconst 2, 0, 0, 0, 0, []),
  (.iaload, 0, 0, 0, 0, []),
  (.aload_n 0, 0, 0, 0, 0, []),
  (.iload_n 1, 0, 0, 0, 0, []),
  (.iconst 3, 0, 0, 0, 0, []),
  (.invokevirtual 63, 0, 3, 0, 927, []),
  (.iadd, 0, 0, 0, 0, []),
  (.invokevirtual 139, 0, 6, 0, 1056, []),
  (.aload_n 0, 0, 0, 0, 0, []),
  (.iload 4, 0, 0, 0, 0, []),
  (.iconst 5, 0, 0, 0, 0, []),
  (.aload_n 0, 0, 0, 0, 0, []),
  (.getfield 7, 0, 7, 0, 872, []),
  (.iconst 3, 0, 0, 0, 0, []),
  (.iaload, 0, 0, 0, 0, []),
  (.invokevirtual 139, 0, 6, 0, 1056, []),
  (.aload_n 0, 0, 0, 0, 0, []),
  (.iload 4, 0, 0, 0, 0, []),
  (.bipush 6, 0, 0, 0, 0, []),
  (.iload_n 3, 0, 0, 0, 0, []),
  (.invokevirtual 139, 0, 6, 0, 1056, []),
  (.iconst 0, 0, 0, 0, 0, []),
  (.istore 5, 0, 0, 0, 0, []),
  (.iload 5, 0, 0, 0, 0, []),
  (.bipush 10, 0, 0, 0, 0, []),
  (.if_icmp .ge 45, 0, 81, 0, 0, []),
  (.aload_n 0, 0, 0, 0, 0, []),
  (.iload 4, 0, 0, 0, 0, []),
  (.bipush 7, 0, 0, 0, 0, []),
  (.iload 5, 0, 0, 0, 0, []),
  (.iadd, 0, 0, 0, 0, []),
  (.aload_n 0, 0, 0, 0, 0, []),
  (.getfield 30, 0, 7, 10, 882, []),
  (.iload 5, 0, 0, 0, 0, []),
  (.iaload, 0, 0, 0, 0, []),
  (.invokevirtual 139, 0, 6, 0, 1056, []),
  (.aload_n 0, 0, 0, 0, 0, []),
  (.iload 4, 0, 0, 0, 0, []),
  (.bipush 17, 0, 0, 0, 0, []),
  (.iload 5, 0, 0, 0, 0, []),
  (.iadd, 0, 0, 0, 0, []),
  (.aload_n 0, 0, 0, 0, 0, []),
  (.getfield 33, 0, 7, 11, 883, []),
  (.iload 5, 0, 0, 0, 0, []),
  (.iaload, 0, 0, 0, 0, []),
  (.invokevirtual 139, 0, 6, 0, 1056, []),
  (.iinc 5 1, 0, 0, 0, 0, []),
  (.goto (-46), 0, 56, 0, 0, []),
  (.aload_n 0, 0, 0, 0, 0, []),
  (.getfield 7, 0, 7, 0, 872, []),
  (.iconst 3, 0, 0, 0, 0, []),
  (.dup2, 0, 0, 0, 0, []),
  (.iaload, 0, 0, 0, 0, []),
  (.iconst 1, 0, 0, 0, 0, []),
  (.iadd, 0, 0, 0, 0, []),
  (.iastore, 0, 0, 0, 0, []),
  (.aload_n 0, 0, 0, 0, 0, []),
  (.iload_n 1, 0, 0, 0, 0, []),
  (.iconst 3, 0, 0, 0, 0, []),
  (.invokevirtual 63, 0, 3, 0, 927, []),
  (.ifCond .ne 9, 0, 97, 0, 0, []),
  (.aload_n 0, 0, 0, 0, 0, []),
  (.iload 4, 0, 0, 0, 0, []),
  (.invokevirtual 163, 0, 44, 0, 1076, []),
  (.return_, 0, 0, 0, 0, [])]
set_option maxRecDepth 20000 in
/-- PhasorTreeModel.releases(II)V -/
def c_m_releases : List Ins := [(.iconst 0, 0, 0, 0, 0, []),
  (.istore_n 3, 0, 0, 0, 0, []),
  (.iconst 0, 0, 0, 0, 0, []),
  (.istore 4, 0, 0, 0, 0, []),
  (.iconst 0, 0, 0, 0, 0, []),
  (.istore 5, 0, 0, 0, 0, []),
  (.iconst 0, 0, 0, 0, 0, []),
  (.istore 6, 0, 0, 0, 0, []),
  (.iload 6, 0, 0, 0, 0, []),
  (.aload_n 0, 0, 0, 0, 0, []),
  (.getfield 7, 0, 7, 0, 872, []),
  (.iconst 1, 0, 0, 0, 0, []),
  (.iaload, 0, 0, 0, 0, []),
  (.if_icmp .ge 81, 0, 56, 0, 0, []),
  (.aload_n 0, 0, 0, 0, 0, []),
  (.iload_n 1, 0, 0, 0, 0, []),
  (.iload 6, 0, 0, 0, 0, []),
  (.invokevirtual 101, 0, 18, 0, 1018, []),
  (.ifCond .eq 65, 0, 54, 0, 0, []),
  (.aload_n 0, 0, 0, 0, 0, []),
  (.iload_n 1, 0, 0, 0, 0, []),
  (.iload 6, 0, 0, 0, 0, []),
  (.iload_n 2, 0, 0, 0, 0, []),
  (.invokevirtual 167, 0, 49, 0, 1116, []),
  (.istore 7, 0, 0, 0, 0, []),
  (.iload_n 3, 0, 0, 0, 0, []),
  (.iload 7, 0, 0, 0, 0, []),
  (.ifCond .eq 10, 0, 32, 0, 0, []),
  (.iconst 1, 0, 0, 0, 0, []),
  (.iload 6, 0, 0, 0, 0, []),
  (.ishl, 0, 0, 0, 0, []),
  (.goto 4, 0, 33, 0, 0, []),
  (.iconst 0, 0, 0, 0, 0, []),
  (.ior, 0, 0, 0, 0, []),
  (.istore_n 3, 0, 0, 0, 0, []),
  (.iload 4, 0, 0, 0, 0, []),
  (.iload 7, 0, 0, 0, 0, []),
  (.ifCond .eq 7, 0, 40, 0, 0, []),
  (.iconst 0, 0, 0, 0, 0, []),
  (.goto 4, 0, 41, 0, 0, []),
  (.iconst 1, 0, 0, 0, 0, []),
  (.iadd, 0, 0, 0, 0, []),
  (.istore 4, 0, 0, 0, 0, []),
  (.iload 5, 0, 0, 0, 0, []),
  (.iload 7, 0, 0, 0, 0, []),
  (.ifCond .eq 13, 0, 51, 0, 0, []),
  (.aload_n 0, 0, 0, 0, 0, []),
  (.getfield 33, 0, 7, 11, 883, []),
  (.iload 6, 0, 0, 0, 0, []),
  (.iaload, 0, 0, 0, 0, []),
  (.goto 4, 0, 52, 0, 0, []),
  (.iconst 0, 0, 0, 0, 0, []),
  (.ior, 0, 0, 0, 0, []),
  (.istore 5, 0, 0, 0, 0, []),
  (.iinc 6 1, 0, 0, 0, 0, []),
  (.goto (-86), 0, 8, 0, 0, []),
  (.iconst 0, 0, 0, 0, 0, []),
  (.istore 6, 0, 0, 0, 0, []),
  (.iload 6, 0, 0, 0, 0, []),
  (.aload_n 0, 0, 0, 0, 0, []),
  (.getfield 7, 0, 7, 0, 872, []),
  (.bipush 7, 0, 0, 0, 0, []),
  (.iaload, 0, 0, 0, 0, []),
  (.if_icmp .ge 28, 0, 77, 0, 0, []),
  (.aload_n 0, 0, 0, 0, 0, []),
  (.iload 6, 0, 0, 0, 0, []),
  (.iload_n 1, 0, 0, 0, 0, []),
  (.iload_n 2, 0, 0, 0, 0, []),
  (.invokevirtual 126, 0, 33, 0, 1084, []),
  (.ifCond .eq 11, 0, 75, 0, 0, []),
  (.aload_n 0, 0, 0, 0, 0, []),
  (.iload 6, 0, 0, 0, 0, []),
  (.iconst 0, 0, 0, 0, 0, []),
  (.iconst 0, 0, 0, 0, 0, []),
  (.invokevirtual 139, 0, 6, 0, 1056, []),
  (.iinc 6 1, 0, 0, 0, 0, []),
  (.goto (-34), 0, 58, 0, 0, []),
  (.iconst 0, 0, 0, 0, 0, []),
  (.istore 6, 0, 0, 0, 0, []),
  (.iload 6, 0, 0, 0, 0, []),
  (.bipush 10, 0, 0, 0, 0, []),
  (.if_icmp .ge 89, 0, 140, 0, 0, []),
  (.iload_n 3, 0, 0, 0, 0, []),
  (.iload 6, 0, 0, 0, 0, []),
  (.ishr, 0, 0, 0, 0, []),
  (.iconst 1, 0, 0, 0, 0, []),
  (.iand, 0, 0, 0, 0, []),
  (.iconst 1, 0, 0, 0, 0, []),
  (.if_icmp .ne 73, 0, 138, 0, 0, []),
  (.aload_n 0, 0, 0, 0, 0, []),
  (.getfield 7, 0, 7, 0, 872, []),
  (.bipush 98, 0, 0, 0, 0, []),
  (.bipush 30, 0, 0, 0, 0, []),
  (.iload_n 1, 0, 0, 0, 0, []),
  (.imul, 0, 0, 0, 0, []),
  (.iadd, 0, 0, 0, 0, []),
  (.iconst 3, 0, 0, 0, 0, []),
  (.iload 6, 0, 0, 0, 0, []),
  (.imul, 0, 0, 0, 0, []),
  (.iadd, 0, 0, 0, 0, []),
  (.iconst 1, 0, 0, 0, 0, []),
  (.iastore, 0, 0, 0, 0, []),
  (.aload_n 0, 0, 0, 0, 0, []),
  (.getfield 7, 0, 7, 0, 872, []),
  (.bipush 98, 0, 0, 0, 0, []),
  (.bipush 30, 0, 0, 0, 0, []),
  (.iload_n 1, 0, 0, 0, 0, []),
  (.imul, 0, 0, 0, 0, []),
  (.iadd, 0, 0, 0, 0, []),
  (.iconst 3, 0, 0, 0, 0, []),
  (.iload 6, 0, 0, 0, 0, []),
  (.imul, 0, 0, 0, 0, []),
  (.iadd, 0, 0, 0, 0, []),
  (.iconst 1, 0, 0, 0, 0, []),
  (.iadd, 0, 0, 0, 0, []),
  (.aload_n 0, 0, 0, 0, 0, []),
  (.getfield 30, 0, 7, 10, 882, []),
  (.iload 6, 0, 0, 0, 0, []),
  (.iaload, 0, 0, 0, 0, []),
  (.iastore, 0, 0, 0, 0, []),
  (.aload_n 0, 0, 0, 0, 0, []),
  (.getfield 7, 0, 7, 0, 872, []),
  (.bipush 98, 0, 0, 0, 0, []),
  (.bipush 30, 0, 0, 0, 0, []),
  (.iload_n 1, 0, 0, 0, 0, []),
  (.imul, 0, 0, 0, 0, []),
  (.iadd, 0, 0, 0, 0, []),
  (.iconst 3, 0, 0, 0, 0, []),
  (.iload 6, 0, 0, 0, 0, []),
  (.imul, 0, 0, 0, 0, []),
  (.iadd, 0, 0, 0, 0, []),
  (.iconst 2, 0, 0, 0, 0, []),
  (.iadd, 0, 0, 0, 0, []),
  (.aload_n 0, 0, 0, 0, 0, []),
  (.getfield 33, 0, 7, 11, 883, []),
  (.iload 6, 0, 0, 0, 0, []),
  (.iaload, 0, 0, 0, 0, []),
  (.iastore, 0, 0, 0, 0, []),
  (.iinc 6 1, 0, 0, 0, 0, []),
  (.goto (-90), 0, 79, 0, 0, []),
  (.aload_n 0, 0, 0, 0, 0, []),
  (.getfield 7, 0, 7, 0, 872, []),
  (.bipush 8, 0, 0, 0, 0, []),
  (.bipush 10, 0, 0, 0, 0, []),
  (.iload_n 1, 0, 0, 0, 0, []),
  (.imul, 0, 0, 0, 0, []),
  (.iadd, 0, 0, 0, 0, []),
  (.bipush 6, 0, 0, 0, 0, []),
  (.iadd, 0, 0, 0, 0, []),
  (.dup2, 0, 0, 0, 0, []),
  (.iaload, 0, 0, 0, 0, []),
  (.iconst 1, 0, 0, 0, 0, []),
  (.iadd, 0, 0, 0, 0, []),
  (.iastore, 0, 0, 0, 0, []),
  (.aload_n 0, 0, 0, 0, 0, []),
  (.getfield 7, 0, 7, 0, 872, []),
  (.bipush 8, 0, 0, 0, 0, []),
  (.bipush 10, 0, 0, 0, 0, []),
  (.iload_n 1, 0, 0, 0, 0, []),
  (.imul, 0, 0, 0, 0, []),
  (.iadd, 0, 0, 0, 0, []),
  (.bipush 9, 0, 0, 0, 0, []),
  (.iadd, 0, 0, 0, 0, []),
  (.iload_n 2, 0, 0, 0, 0, []),
  (.iastore, 0, 0, 0, 0, []),
  (.iload_n 1, 0, 0, 0, 0, []),
  (.ifCond .ne 16, 0, 174, 0, 0, []),
  (.aload_n 0, 0, 0, 0, 0, []),
  (.iload_n 2, 0, 0, 0, 0, []),
  (.iload_n 3, 0, 0, 0, 0, []),
  (.iload 4, 0, 0, 0, 0, []),
  (.iload 5, 0, 0, 0, 0, []),
  (.invokevirtual 170, 0, 50, 0, 1136, []),
  (.goto 10, 0, 179, 0, 0, []),
  (.aload_n 0, 0, 0, 0, 0, []),
  (.iload_n 1, 0, 0, 0, 0, []),
  (.iload_n 2, 0, 0, 0, 0, []),
  (.iload_n 3, 0, 0, 0, 0, []),
  (.invokevirtual 174, 0, 51, 0, 1140, []),
  (.return_, 0, 0, 0, 0, [])]
set_option maxRecDepth 20000 in
/-- PhasorTreeModel.asks(I)V -/
def c_m_asks : List Ins := [(.aload_n 0, 0, 0, 0, 0, []),
  (.iload_n 1, 0, 0, 0, 0, []),
  (.iconst (-1), 0, 0, 0, 0, []),
  (.invokevirtual 120, 0, 34, 0, 985, []),
  (.istore_n 2, 0, 0, 0, 0, []),
  (.iload_n 2, 0, 0, 0, 0, []),
  (.ifCond .lt 37, 0, 27, 0, 0, []),
  (.aload_n 0, 0, 0, 0, 0, []),
  (.iload_n 1, 0, 0, 0, 0, []),
  (.iload_n 2, 0, 0, 0, 0, []),
  (.invokevirtual 177, 0, 40, 0, 1092, []),
  (.ifCond .ne 12, 0, 17, 0, 0, []),
  (.aload_n 0, 0, 0, 0, 0, []),
  (.iload_n 1, 0, 0, 0, 0, []),
  (.iload_n 2, 0, 0, 0, 0, []),
  (.invokevirtual 180, 0, 42, 0, 1104, []),
  (.ifCond .ne 19, 0, 27, 0, 0, []),
  (.aload_n 0, 0, 0, 0, 0, []),
  (.iload_n 1, 0, 0, 0, 0, []),
  (.iload_n 2, 0, 0, 0, 0, []),
  (.invokevirtual 183, 0, 52, 0, 1112, []),
  (.aload_n 0, 0, 0, 0, 0, []),
  (.iload_n 1, 0, 0, 0, 0, []),
  (.iconst (-1), 0, 0, 0, 0, []),
  (.invokevirtual 120, 0, 34, 0, 985, []),
  (.istore_n 2, 0, 0, 0, 0, []),
  (.goto (-35), 0, 5, 0, 0, []),
  (.return_, 0, 0, 0, 0, [])]
set_option maxRecDepth 20000 in
/-- PhasorTreeModel.nextFrame()I -/
def c_m_nextFrame : List Ins := [(.iconst (-1), 0, 0, 0, 0, []),
  (.istore_n 1, 0, 0, 0, 0, []),
  (.iconst 0, 0, 0, 0, 0, []),
  (.istore_n 2, 0, 0, 0, 0, []),
  (.iload_n 2, 0, 0, 0, 0, []),
  (.aload_n 0, 0, 0, 0, 0, []),
  (.getfield 7, 0, 7, 0, 872, []),
  (.bipush 7, 0, 0, 0, 0, []),
  (.iaload, 0, 0, 0, 0, []),
  (.if_icmp .ge 111, 0, 72, 0, 0, []),
  (.aload_n 0, 0, 0, 0, 0, []),
  (.iload_n 2, 0, 0, 0, 0, []),
  (.iconst 0, 0, 0, 0, 0, []),
  (.invokevirtual 104, 0, 5, 0, 989, []),
  (.iconst 1, 0, 0, 0, 0, []),
  (.if_icmp .ne 22, 0, 27, 0, 0, []),
  (.aload_n 0, 0, 0, 0, 0, []),
  (.iload_n 2, 0, 0, 0, 0, []),
  (.iconst 4, 0, 0, 0, 0, []),
  (.invokevirtual 104, 0, 5, 0, 989, []),
  (.aload_n 0, 0, 0, 0, 0, []),
  (.getfield 7, 0, 7, 0, 872, []),
  (.iconst 2, 0, 0, 0, 0, []),
  (.iaload, 0, 0, 0, 0, []),
  (.if_icmp .gt 7, 0, 27, 0, 0, []),
  (.iconst 1, 0, 0, 0, 0, []),
  (.goto 4, 0, 28, 0, 0, []),
  (.iconst 0, 0, 0, 0, 0, []),
  (.istore_n 3, 0, 0, 0, 0, []),
  (.iload_n 1, 0, 0, 0, 0, []),
  (.ifCond .lt 48, 0, 58, 0, 0, []),
  (.aload_n 0, 0, 0, 0, 0, []),
  (.iload_n 2, 0, 0, 0, 0, []),
  (.iconst 4, 0, 0, 0, 0, []),
  (.invokevirtual 104, 0, 5, 0, 989, []),
  (.aload_n 0, 0, 0, 0, 0, []),
  (.iload_n 1, 0, 0, 0, 0, []),
  (.iconst 4, 0, 0, 0, 0, []),
  (.invokevirtual 104, 0, 5, 0, 989, []),
  (.if_icmp .lt 33, 0, 58, 0, 0, []),
  (.aload_n 0, 0, 0, 0, 0, []),
  (.iload_n 2, 0, 0, 0, 0, []),
  (.iconst 4, 0, 0, 0, 0, []),
  (.invokevirtual 104, 0, 5, 0, 989, []),
  (.aload_n 0, 0, 0, 0, 0, []),
  (.iload_n 1, 0, 0, 0, 0, []),
  (.iconst 4, 0, 0, 0, 0, []),
  (.invokevirtual 104, 0, 5, 0, 989, []),
  (.if_icmp .ne 22, 0, 60, 0, 0, []),
  (.aload_n 0, 0, 0, 0, 0, []),
  (.iload_n 2, 0, 0, 0, 0, []),
  (.iconst 5, 0, 0, 0, 0, []),
  (.invokevirtual 104, 0, 5, 0, 989, []),
  (.aload_n 0, 0, 0, 0, 0, []),
  (.iload_n 1, 0, 0, 0, 0, []),
  (.iconst 5, 0, 0, 0, 0, []),
  (.invokevirtual 104, 0, 5, 0, 989, []),
  (.if_icmp .ge 7, 0, 60, 0, 0, []),
  (.iconst 1, 0, 0, 0, 0, []),
  (.goto 4, 0, 61, 0, 0, []),
  (.iconst 0, 0, 0, 0, 0, []),
  (.istore 4, 0, 0, 0, 0, []),
  (.iload_n 3, 0, 0, 0, 0, []),
  (.ifCond .eq 12, 0, 68, 0, 0, []),
  (.iload 4, 0, 0, 0, 0, []),
  (.ifCond .eq 7, 0, 68, 0, 0, []),
  (.iload_n 2, 0, 0, 0, 0, []),
  (.goto 4, 0, 69, 0, 0, []),
  (.iload_n 1, 0, 0, 0, 0, []),
  (.istore_n 1, 0, 0, 0, 0, []),
  (.iinc 2 1, 0, 0, 0, 0, []),
  (.goto (-116), 0, 4, 0, 0, []),
  (.iload_n 1, 0, 0, 0, 0, []),
  (.ireturn, 0, 0, 0, 0, [])]
set_option maxRecDepth 20000 in
/-- PhasorTreeModel.tick()V -/
def c_m_tick : List Ins := [(.aload_n 0, 0, 0, 0, 0, []),
  (.getfield 7, 0, 7, 0, 872, []),
  (.iconst 2, 0, 0, 0, 0, []),
  (.dup2, 0, 0, 0, 0, []),
  (.iaload, 0, 0, 0, 0, []),
  (.iconst 1, 0, 0, 0, 0, []),
  (.iadd, 0, 0, 0, 0, []),
  (.iastore, 0, 0, 0, 0, []),
  (.aload_n 0, 0, 0, 0, 0, []),
  (.invokevirtual 187, 0, 54, 0, 1072, []),
  (.istore_n 1, 0, 0, 0, 0, []),
  (.iload_n 1, 0, 0, 0, 0, []),
  (.ifCond .lt 16, 0, 20, 0, 0, []),
  (.aload_n 0, 0, 0, 0, 0, []),
  (.iload_n 1, 0, 0, 0, 0, []),
  (.invokevirtual 163, 0, 44, 0, 1076, []),
  (.aload_n 0, 0, 0, 0, 0, []),
  (.invokevirtual 187, 0, 54, 0, 1072, []),
  (.istore_n 1, 0, 0, 0, 0, []),
  (.goto (-14), 0, 11, 0, 0, []),
  (.iconst 4, 0, 0, 0, 0, []),
  (.istore_n 1, 0, 0, 0, 0, []),
  (.iload_n 1, 0, 0, 0, 0, []),
  (.ifCond .lt 41, 0, 44, 0, 0, []),
  (.iconst 0, 0, 0, 0, 0, []),
  (.istore_n 2, 0, 0, 0, 0, []),
  (.iload_n 2, 0, 0, 0, 0, []),
  (.aload_n 0, 0, 0, 0, 0, []),
  (.getfield 7, 0, 7, 0, 872, []),
  (.iconst 0, 0, 0, 0, 0, []),
  (.iaload, 0, 0, 0, 0, []),
  (.if_icmp .ge 23, 0, 42, 0, 0, []),
  (.aload_n 0, 0, 0, 0, 0, []),
  (.iload_n 2, 0, 0, 0, 0, []),
  (.invokevirtual 108, 0, 19, 0, 1006, []),
  (.iload_n 1, 0, 0, 0, 0, []),
  (.if_icmp .ne 8, 0, 40, 0, 0, []),
  (.aload_n 0, 0, 0, 0, 0, []),
  (.iload_n 2, 0, 0, 0, 0, []),
  (.invokevirtual 190, 0, 53, 0, 1088, []),
  (.iinc 2 1, 0, 0, 0, 0, []),
  (.goto (-27), 0, 26, 0, 0, []),
  (.iinc 1 (-1), 0, 0, 0, 0, []),
  (.goto (-39), 0, 22, 0, 0, []),
  (.return_, 0, 0, 0, 0, [])]
set_option maxRecDepth 20000 in
/-- PhasorTreeModel.allOnWay()I -/
def c_m_allOnWay : List Ins := [(.iconst 0, 0, 0, 0, 0, []),
  (.istore_n 1, 0, 0, 0, 0, []),
  (.iconst 0, 0, 0, 0, 0, []),
  (.istore_n 2, 0, 0, 0, 0, []),
  (.iload_n 2, 0, 0, 0, 0, []),
  (.aload_n 0, 0, 0, 0, 0, []),
  (.getfield 7, 0, 7, 0, 872, []),
  (.bipush 7, 0, 0, 0, 0, []),
  (.iaload, 0, 0, 0, 0, []),
  (.if_icmp .ge 27, 0, 24, 0, 0, []),
  (.iload_n 1, 0, 0, 0, 0, []),
  (.aload_n 0, 0, 0, 0, 0, []),
  (.iload_n 2, 0, 0, 0, 0, []),
  (.iconst 0, 0, 0, 0, 0, []),
  (.invokevirtual 104, 0, 5, 0, 989, []),
  (.iconst 1, 0, 0, 0, 0, []),
  (.if_icmp .ne 7, 0, 19, 0, 0, []),
  (.iconst 1, 0, 0, 0, 0, []),
  (.goto 4, 0, 20, 0, 0, []),
  (.iconst 0, 0, 0, 0, 0, []),
  (.iadd, 0, 0, 0, 0, []),
  (.istore_n 1, 0, 0, 0, 0, []),
  (.iinc 2 1, 0, 0, 0, 0, []),
  (.goto (-32), 0, 4, 0, 0, []),
  (.iload_n 1, 0, 0, 0, 0, []),
  (.ireturn, 0, 0, 0, 0, [])]
set_option maxRecDepth 20000 in
/-- PhasorTreeModel.sendsOne(IIIII)I -/
def c_m_sendsOne : List Ins := [(.aload_n 0, 0, 0, 0, 0, []),
  (.iload_n 1, 0, 0, 0, 0, []),
  (.invokevirtual 53, 0, 8, 0, 957, []),
  (.ifCond .eq 47, 0, 24, 0, 0, []),
  (.iload_n 2, 0, 0, 0, 0, []),
  (.iconst 0, 0, 0, 0, 0, []),
  (.sipush 20000, 0, 0, 0, 0, []),
  (.invokestatic 39, 0, 2, 2, 923, []),
  (.ifCond .eq 36, 0, 24, 0, 0, []),
  (.iload_n 3, 0, 0, 0, 0, []),
  (.ldc 193, (-100000), 0, 0, 1046, []),
  (.ldc 194, 100000, 0, 0, 1047, []),
  (.invokestatic 39, 0, 2, 2, 923, []),
  (.ifCond .eq 25, 0, 24, 0, 0, []),
  (.iload 4, 0, 0, 0, 0, []),
  (.iconst 0, 0, 0, 0, 0, []),
  (.bipush 15, 0, 0, 0, 0, []),
  (.invokestatic 39, 0, 2, 2, 923, []),
  (.ifCond .eq 14, 0, 24, 0, 0, []),
  (.iload 5, 0, 0, 0, 0, []),
  (.iconst 1, 0, 0, 0, 0, []),
  (.bipush 60, 0, 0, 0, 0, []),
  (.invokestatic 39, 0, 2, 2, 923, []),
  (.ifCond .ne 6, 0, 26, 0, 0, []),
  (.ldc 47, (-1000001), 0, 0, 926, []),
  (.ireturn, 0, 0, 0, 0, []),
  (.aload_n 0, 0, 0, 0, 0, []),
  (.iload_n 1, 0, 0, 0, 0, []),
  (.invokevirtual 57, 0, 9, 0, 961, []),
  (.ifCond .eq 24, 0, 43, 0, 0, []),
  (.iload_n 2, 0, 0, 0, 0, []),
  (.aload_n 0, 0, 0, 0, 0, []),
  (.iload_n 1, 0, 0, 0, 0, []),
  (.iconst 1, 0, 0, 0, 0, []),
  (.invokevirtual 43, 0, 4, 0, 965, []),
  (.irem, 0, 0, 0, 0, []),
  (.ifCond .ne 13, 0, 43, 0, 0, []),
  (.iload_n 2, 0, 0, 0, 0, []),
  (.aload_n 0, 0, 0, 0, 0, []),
  (.getfield 7, 0, 7, 0, 872, []),
  (.iconst 2, 0, 0, 0, 0, []),
  (.iaload, 0, 0, 0, 0, []),
  (.if_icmp .le 6, 0, 45, 0, 0, []),
  (.ldc 73, (-1000002), 0, 0, 934, []),
  (.ireturn, 0, 0, 0, 0, []),
  (.aload_n 0, 0, 0, 0, 0, []),
  (.invokevirtual 195, 0, 56, 0, 1048, []),
  (.bipush 40, 0, 0, 0, 0, []),
  (.if_icmp .lt 6, 0, 51, 0, 0, []),
  (.ldc 74, (-1000003), 0, 0, 935, []),
  (.ireturn, 0, 0, 0, 0, []),
  (.aload_n 0, 0, 0, 0, 0, []),
  (.invokevirtual 160, 0, 43, 0, 1052, []),
  (.istore 6, 0, 0, 0, 0, []),
  (.aload_n 0, 0, 0, 0, 0, []),
  (.iload 6, 0, 0, 0, 0, []),
  (.iconst 0, 0, 0, 0, 0, []),
  (.iconst 1, 0, 0, 0, 0, []),
  (.invokevirtual 139, 0, 6, 0, 1056, []),
  (.aload_n 0, 0, 0, 0, 0, []),
  (.iload 6, 0, 0, 0, 0, []),
  (.iconst 1, 0, 0, 0, 0, []),
  (.aload_n 0, 0, 0, 0, 0, []),
  (.iload_n 1, 0, 0, 0, 0, []),
  (.iconst 0, 0, 0, 0, 0, []),
  (.invokevirtual 43, 0, 4, 0, 965, []),
  (.invokevirtual 139, 0, 6, 0, 1056, []),
  (.aload_n 0, 0, 0, 0, 0, []),
  (.iload 6, 0, 0, 0, 0, []),
  (.iconst 2, 0, 0, 0, 0, []),
  (.iload_n 1, 0, 0, 0, 0, []),
  (.invokevirtual 139, 0, 6, 0, 1056, []),
  (.aload_n 0, 0, 0, 0, 0, []),
  (.iload 6, 0, 0, 0, 0, []),
  (.iconst 3, 0, 0, 0, 0, []),
  (.iload_n 2, 0, 0, 0, 0, []),
  (.invokevirtual 139, 0, 6, 0, 1056, []),
  (.aload_n 0, 0, 0, 0, 0, []),
  (.iload 6, 0, 0, 0, 0, []),
  (.iconst 4, 0, 0, 0, 0, []),
  (.aload_n 0, 0, 0, 0, 0, []),
  (.getfield 7, 0, 7, 0, 872, []),
  (.iconst 2, 0, 0, 0, 0, []),
  (.iaload, 0, 0, 0, 0, []),
  (.iload 5, 0, 0, 0, 0, []),
  (.iadd, 0, 0, 0, 0, []),
  (.invokevirtual 139, 0, 6, 0, 1056, []),
  (.aload_n 0, 0, 0, 0, 0, []),
  (.iload 6, 0, 0, 0, 0, []),
  (.iconst 5, 0, 0, 0, 0, []),
  (.aload_n 0, 0, 0, 0, 0, []),
  (.getfield 7, 0, 7, 0, 872, []),
  (.iconst 3, 0, 0, 0, 0, []),
  (.iaload, 0, 0, 0, 0, []),
  (.invokevirtual 139, 0, 6, 0, 1056, []),
  (.aload_n 0, 0, 0, 0, 0, []),
  (.iload 6, 0, 0, 0, 0, []),
  (.bipush 6, 0, 0, 0, 0, []),
  (.iconst 1, 0, 0, 0, 0, []),
  (.iload_n 1, 0, 0, 0, 0, []),
  (.ishl, 0, 0, 0, 0, []),
  (.invokevirtual 139, 0, 6, 0, 1056, []),
  (.aload_n 0, 0, 0, 0, 0, []),
  (.iload 6, 0, 0, 0, 0, []),
  (.bipush 7, 0, 0, 0, 0, []),
  (.iload_n 1, 0, 0, 0, 0, []),
  (.iadd, 0, 0, 0, 0, []),
  (.iload_n 3, 0, 0, 0, 0, []),
  (.invokevirtual 139, 0, 6, 0, 1056, []),
  (.aload_n 0, 0, 0, 0, 0, []),
  (.iload 6, 0, 0, 0, 0, []),
  (.bipush 17, 0, 0, 0, 0, []),
  (.iload_n 1, 0, 0, 0, 0, []),
  (.iadd, 0, 0, 0, 0, []),
  (.iload 4, 0, 0, 0, 0, []),
  (.invokevirtual 139, 0, 6, 0, 1056, []),
  (.aload_n 0, 0, 0, 0, 0, []),
  (.getfield 7, 0, 7, 0, 872, []),
  (.iconst 3, 0, 0, 0, 0, []),
  (.dup2, 0, 0, 0, 0, []),
  (.iaload, 0, 0, 0, 0, []),
  (.iconst 1, 0, 0, 0, 0, []),
  (.iadd, 0, 0, 0, 0, []),
  (.iastore, 0, 0, 0, 0, []),
  (.aload_n 0, 0, 0, 0, 0, []),
  (.getfield 7, 0, 7, 0, 872, []),
  (.bipush 58, 0, 0, 0, 0, []),
  (.iconst 4, 0, 0, 0, 0, []),
  (.iload_n 1, 0, 0, 0, 0, []),
  (.imul, 0, 0, 0, 0, []),
  (.iadd, 0, 0, 0, 0, []),
  (.iconst 3, 0, 0, 0, 0, []),
  (.iadd, 0, 0, 0, 0, []),
  (.dup2, 0, 0, 0, 0, []),
  (.iaload, 0, 0, 0, 0, []),
  (.iconst 1, 0, 0, 0, 0, []),
  (.iadd, 0, 0, 0, 0, []),
  (.iastore, 0, 0, 0, 0, []),
  (.aload_n 0, 0, 0, 0, 0, []),
  (.invokevirtual 195, 0, 56, 0, 1048, []),
  (.ireturn, 0, 0, 0, 0, [])]
set_option maxRecDepth 20000 in
/-- PhasorTreeModel.send(IIIII)I -/
def c_m_send : List Ins := [(.aload_n 0, 0, 0, 0, 0, []),
  (.invokevirtual 75, 0, 10, 0, 936, []),
  (.aload_n 0, 0, 0, 0, 0, []),
  (.aload_n 0, 0, 0, 0, 0, []),
  (.iload_n 1, 0, 0, 0, 0, []),
  (.iload_n 2, 0, 0, 0, 0, []),
  (.iload_n 3, 0, 0, 0, 0, []),
  (.iload 4, 0, 0, 0, 0, []),
  (.iload 5, 0, 0, 0, 0, []),
  (.invokevirtual 198, 0, 57, 0, 1042, []),
  (.invokevirtual 78, 0, 11, 0, 940, []),
  (.ireturn, 0, 0, 0, 0, [])]
set_option maxRecDepth 20000 in
/-- PhasorTreeModel.passes(I)I -/
def c_m_passes : List Ins := [(.iload_n 1, 0, 0, 0, 0, []),
  (.iconst 1, 0, 0, 0, 0, []),
  (.bipush 100, 0, 0, 0, 0, []),
  (.invokestatic 39, 0, 2, 2, 923, []),
  (.ifCond .ne 6, 0, 7, 0, 0, []),
  (.ldc 47, (-1000001), 0, 0, 926, []),
  (.ireturn, 0, 0, 0, 0, []),
  (.aload_n 0, 0, 0, 0, 0, []),
  (.getfield 7, 0, 7, 0, 872, []),
  (.iconst 2, 0, 0, 0, 0, []),
  (.iaload, 0, 0, 0, 0, []),
  (.iload_n 1, 0, 0, 0, 0, []),
  (.iadd, 0, 0, 0, 0, []),
  (.sipush 20000, 0, 0, 0, 0, []),
  (.if_icmp .le 6, 0, 17, 0, 0, []),
  (.ldc 74, (-1000003), 0, 0, 935, []),
  (.ireturn, 0, 0, 0, 0, []),
  (.iconst 0, 0, 0, 0, 0, []),
  (.istore_n 2, 0, 0, 0, 0, []),
  (.iload_n 2, 0, 0, 0, 0, []),
  (.iload_n 1, 0, 0, 0, 0, []),
  (.if_icmp .ge 13, 0, 26, 0, 0, []),
  (.aload_n 0, 0, 0, 0, 0, []),
  (.invokevirtual 202, 0, 55, 0, 1068, []),
  (.iinc 2 1, 0, 0, 0, 0, []),
  (.goto (-12), 0, 19, 0, 0, []),
  (.aload_n 0, 0, 0, 0, 0, []),
  (.getfield 7, 0, 7, 0, 872, []),
  (.iconst 2, 0, 0, 0, 0, []),
  (.iaload, 0, 0, 0, 0, []),
  (.ireturn, 0, 0, 0, 0, [])]
set_option maxRecDepth 20000 in
/-- PhasorTreeModel.pass(I)I -/
def c_m_pass : List Ins := [(.aload_n 0, 0, 0, 0, 0, []),
  (.invokevirtual 75, 0, 10, 0, 936, []),
  (.aload_n 0, 0, 0, 0, 0, []),
  (.aload_n 0, 0, 0, 0, 0, []),
  (.iload_n 1, 0, 0, 0, 0, []),
  (.invokevirtual 205, 0, 59, 0, 1064, []),
  (.invokevirtual 78, 0, 11, 0, 940, []),
  (.ireturn, 0, 0, 0, 0, [])]
set_option maxRecDepth 20000 in
/-- PhasorTreeModel.slotAt(III)I -/
def c_m_slotAt : List Ins := [(.aload_n 0, 0, 0, 0, 0, []),
  (.iload_n 1, 0, 0, 0, 0, []),
  (.invokevirtual 60, 0, 7, 0, 919, []),
  (.ifCond .eq 16, 0, 11, 0, 0, []),
  (.iload_n 2, 0, 0, 0, 0, []),
  (.ifCond .lt 12, 0, 11, 0, 0, []),
  (.iload_n 3, 0, 0, 0, 0, []),
  (.iconst 0, 0, 0, 0, 0, []),
  (.iconst 5, 0, 0, 0, 0, []),
  (.invokestatic 39, 0, 2, 2, 923, []),
  (.ifCond .ne 6, 0, 13, 0, 0, []),
  (.ldc 47, (-1000001), 0, 0, 926, []),
  (.ireturn, 0, 0, 0, 0, []),
  (.aload_n 0, 0, 0, 0, 0, []),
  (.iload_n 1, 0, 0, 0, 0, []),
  (.iconst (-1), 0, 0, 0, 0, []),
  (.invokevirtual 120, 0, 34, 0, 985, []),
  (.istore 4, 0, 0, 0, 0, []),
  (.iconst 0, 0, 0, 0, 0, []),
  (.istore 5, 0, 0, 0, 0, []),
  (.iload 5, 0, 0, 0, 0, []),
  (.iload_n 2, 0, 0, 0, 0, []),
  (.if_icmp .ge 23, 0, 32, 0, 0, []),
  (.iload 4, 0, 0, 0, 0, []),
  (.ifCond .lt 18, 0, 32, 0, 0, []),
  (.aload_n 0, 0, 0, 0, 0, []),
  (.iload_n 1, 0, 0, 0, 0, []),
  (.iload 4, 0, 0, 0, 0, []),
  (.invokevirtual 120, 0, 34, 0, 985, []),
  (.istore 4, 0, 0, 0, 0, []),
  (.iinc 5 1, 0, 0, 0, 0, []),
  (.goto (-23), 0, 20, 0, 0, []),
  (.iload 4, 0, 0, 0, 0, []),
  (.ifCond .ge 6, 0, 36, 0, 0, []),
  (.ldc 107, (-1000004), 0, 0, 1005, []),
  (.ireturn, 0, 0, 0, 0, []),
  (.iload_n 3, 0, 0, 0, 0, []),
  (.tableswitch 78 0 4 #[34, 37, 45, 54, 62], 0, 0, 0, 34, [65, 38, 40, 45, 51, 56]),
  (.iload 4, 0, 0, 0, 0, []),
  (.ireturn, 0, 0, 0, 0, []),
  (.aload_n 0, 0, 0, 0, 0, []),
  (.iload_n 1, 0, 0, 0, 0, []),
  (.iload 4, 0, 0, 0, 0, []),
  (.invokevirtual 136, 0, 41, 0, 1108, []),
  (.ireturn, 0, 0, 0, 0, []),
  (.aload_n 0, 0, 0, 0, 0, []),
  (.iload_n 1, 0, 0, 0, 0, []),
  (.iconst (-1), 0, 0, 0, 0, []),
  (.iload 4, 0, 0, 0, 0, []),
  (.invokevirtual 133, 0, 38, 0, 1096, []),
  (.ireturn, 0, 0, 0, 0, []),
  (.aload_n 0, 0, 0, 0, 0, []),
  (.iload_n 1, 0, 0, 0, 0, []),
  (.iload 4, 0, 0, 0, 0, []),
  (.invokevirtual 208, 0, 39, 0, 1148, []),
  (.ireturn, 0, 0, 0, 0, []),
  (.aload_n 0, 0, 0, 0, 0, []),
  (.iload_n 1, 0, 0, 0, 0, []),
  (.iload 4, 0, 0, 0, 0, []),
  (.invokevirtual 177, 0, 40, 0, 1092, []),
  (.ifCond .eq 7, 0, 63, 0, 0, []),
  (.iconst 1, 0, 0, 0, 0, []),
  (.goto 4, 0, 64, 0, 0, []),
  (.iconst 0, 0, 0, 0, 0, []),
  (.ireturn, 0, 0, 0, 0, []),
  (.aload_n 0, 0, 0, 0, 0, []),
  (.iload_n 1, 0, 0, 0, 0, []),
  (.iload 4, 0, 0, 0, 0, []),
  (.invokevirtual 180, 0, 42, 0, 1104, []),
  (.ireturn, 0, 0, 0, 0, [])]
set_option maxRecDepth 20000 in
/-- PhasorTreeModel.ones(I)I -/
def c_m_ones : List Ins := [(.iconst 0, 0, 0, 0, 0, []),
  (.istore_n 1, 0, 0, 0, 0, []),
  (.iconst 0, 0, 0, 0, 0, []),
  (.istore_n 2, 0, 0, 0, 0, []),
  (.iload_n 2, 0, 0, 0, 0, []),
  (.bipush 10, 0, 0, 0, 0, []),
  (.if_icmp .ge 17, 0, 17, 0, 0, []),
  (.iload_n 1, 0, 0, 0, 0, []),
  (.iload_n 0, 0, 0, 0, 0, []),
  (.iload_n 2, 0, 0, 0, 0, []),
  (.ishr, 0, 0, 0, 0, []),
  (.iconst 1, 0, 0, 0, 0, []),
  (.iand, 0, 0, 0, 0, []),
  (.iadd, 0, 0, 0, 0, []),
  (.istore_n 1, 0, 0, 0, 0, []),
  (.iinc 2 1, 0, 0, 0, 0, []),
  (.goto (-17), 0, 4, 0, 0, []),
  (.iload_n 1, 0, 0, 0, 0, []),
  (.ireturn, 0, 0, 0, 0, [])]
set_option maxRecDepth 20000 in
/-- PhasorTreeModel.outAt(II)I -/
def c_m_outAt : List Ins := [(.iload_n 1, 0, 0, 0, 0, []),
  (.ifCond .lt 12, 0, 7, 0, 0, []),
  (.iload_n 2, 0, 0, 0, 0, []),
  (.iconst 0, 0, 0, 0, 0, []),
  (.iconst 4, 0, 0, 0, 0, []),
  (.invokestatic 39, 0, 2, 2, 923, []),
  (.ifCond .ne 6, 0, 9, 0, 0, []),
  (.ldc 47, (-1000001), 0, 0, 926, []),
  (.ireturn, 0, 0, 0, 0, []),
  (.iload_n 1, 0, 0, 0, 0, []),
  (.aload_n 0, 0, 0, 0, 0, []),
  (.getfield 7, 0, 7, 0, 872, []),
  (.iconst 5, 0, 0, 0, 0, []),
  (.iaload, 0, 0, 0, 0, []),
  (.if_icmp .lt 6, 0, 17, 0, 0, []),
  (.ldc 107, (-1000004), 0, 0, 1005, []),
  (.ireturn, 0, 0, 0, 0, []),
  (.sipush 248, 0, 0, 0, 0, []),
  (.bipush 25, 0, 0, 0, 0, []),
  (.aload_n 0, 0, 0, 0, 0, []),
  (.getfield 7, 0, 7, 0, 872, []),
  (.iconst 5, 0, 0, 0, 0, []),
  (.iaload, 0, 0, 0, 0, []),
  (.iconst 1, 0, 0, 0, 0, []),
  (.isub, 0, 0, 0, 0, []),
  (.iload_n 1, 0, 0, 0, 0, []),
  (.isub, 0, 0, 0, 0, []),
  (.imul, 0, 0, 0, 0, []),
  (.iadd, 0, 0, 0, 0, []),
  (.istore_n 3, 0, 0, 0, 0, []),
  (.iload_n 2, 0, 0, 0, 0, []),
  (.iconst 3, 0, 0, 0, 0, []),
  (.if_icmp .ne 17, 0, 41, 0, 0, []),
  (.aload_n 0, 0, 0, 0, 0, []),
  (.getfield 7, 0, 7, 0, 872, []),
  (.iload_n 3, 0, 0, 0, 0, []),
  (.iconst 3, 0, 0, 0, 0, []),
  (.iadd, 0, 0, 0, 0, []),
  (.iaload, 0, 0, 0, 0, []),
  (.invokestatic 211, 0, 62, 2, 1156, []),
  (.goto 11, 0, 47, 0, 0, []),
  (.aload_n 0, 0, 0, 0, 0, []),
  (.getfield 7, 0, 7, 0, 872, []),
  (.iload_n 3, 0, 0, 0, 0, []),
  (.iload_n 2, 0, 0, 0, 0, []),
  (.iadd, 0, 0, 0, 0, []),
  (.iaload, 0, 0, 0, 0, []),
  (.ireturn, 0, 0, 0, 0, [])]
set_option maxRecDepth 20000 in
/-- PhasorTreeModel.readingAt(III)I -/
def c_m_readingAt : List Ins := [(.iload_n 1, 0, 0, 0, 0, []),
  (.ifCond .lt 20, 0, 11, 0, 0, []),
  (.aload_n 0, 0, 0, 0, 0, []),
  (.iload_n 2, 0, 0, 0, 0, []),
  (.invokevirtual 53, 0, 8, 0, 957, []),
  (.ifCond .eq 12, 0, 11, 0, 0, []),
  (.iload_n 3, 0, 0, 0, 0, []),
  (.iconst 0, 0, 0, 0, 0, []),
  (.iconst 1, 0, 0, 0, 0, []),
  (.invokestatic 39, 0, 2, 2, 923, []),
  (.ifCond .ne 6, 0, 13, 0, 0, []),
  (.ldc 47, (-1000001), 0, 0, 926, []),
  (.ireturn, 0, 0, 0, 0, []),
  (.iload_n 1, 0, 0, 0, 0, []),
  (.aload_n 0, 0, 0, 0, 0, []),
  (.getfield 7, 0, 7, 0, 872, []),
  (.iconst 5, 0, 0, 0, 0, []),
  (.iaload, 0, 0, 0, 0, []),
  (.if_icmp .lt 6, 0, 21, 0, 0, []),
  (.ldc 107, (-1000004), 0, 0, 1005, []),
  (.ireturn, 0, 0, 0, 0, []),
  (.sipush 248, 0, 0, 0, 0, []),
  (.bipush 25, 0, 0, 0, 0, []),
  (.aload_n 0, 0, 0, 0, 0, []),
  (.getfield 7, 0, 7, 0, 872, []),
  (.iconst 5, 0, 0, 0, 0, []),
  (.iaload, 0, 0, 0, 0, []),
  (.iconst 1, 0, 0, 0, 0, []),
  (.isub, 0, 0, 0, 0, []),
  (.iload_n 1, 0, 0, 0, 0, []),
  (.isub, 0, 0, 0, 0, []),
  (.imul, 0, 0, 0, 0, []),
  (.iadd, 0, 0, 0, 0, []),
  (.istore 4, 0, 0, 0, 0, []),
  (.aload_n 0, 0, 0, 0, 0, []),
  (.getfield 7, 0, 7, 0, 872, []),
  (.iload 4, 0, 0, 0, 0, []),
  (.iconst 3, 0, 0, 0, 0, []),
  (.iadd, 0, 0, 0, 0, []),
  (.iaload, 0, 0, 0, 0, []),
  (.iload_n 2, 0, 0, 0, 0, []),
  (.ishr, 0, 0, 0, 0, []),
  (.iconst 1, 0, 0, 0, 0, []),
  (.iand, 0, 0, 0, 0, []),
  (.iconst 1, 0, 0, 0, 0, []),
  (.if_icmp .ne 22, 0, 59, 0, 0, []),
  (.aload_n 0, 0, 0, 0, 0, []),
  (.getfield 7, 0, 7, 0, 872, []),
  (.iload 4, 0, 0, 0, 0, []),
  (.iconst 5, 0, 0, 0, 0, []),
  (.iadd, 0, 0, 0, 0, []),
  (.bipush 10, 0, 0, 0, 0, []),
  (.iload_n 3, 0, 0, 0, 0, []),
  (.imul, 0, 0, 0, 0, []),
  (.iadd, 0, 0, 0, 0, []),
  (.iload_n 2, 0, 0, 0, 0, []),
  (.iadd, 0, 0, 0, 0, []),
  (.iaload, 0, 0, 0, 0, []),
  (.goto 5, 0, 60, 0, 0, []),
  (.ldc 107, (-1000004), 0, 0, 1005, []),
  (.ireturn, 0, 0, 0, 0, [])]
set_option maxRecDepth 20000 in
/-- PhasorTreeModel.heldBy(III)I -/
def c_m_heldBy : List Ins := [(.aload_n 0, 0, 0, 0, 0, []),
  (.iload_n 1, 0, 0, 0, 0, []),
  (.invokevirtual 60, 0, 7, 0, 919, []),
  (.ifCond .eq 20, 0, 13, 0, 0, []),
  (.aload_n 0, 0, 0, 0, 0, []),
  (.iload_n 2, 0, 0, 0, 0, []),
  (.invokevirtual 53, 0, 8, 0, 957, []),
  (.ifCond .eq 12, 0, 13, 0, 0, []),
  (.iload_n 3, 0, 0, 0, 0, []),
  (.iconst 0, 0, 0, 0, 0, []),
  (.iconst 1, 0, 0, 0, 0, []),
  (.invokestatic 39, 0, 2, 2, 923, []),
  (.ifCond .ne 6, 0, 15, 0, 0, []),
  (.ldc 47, (-1000001), 0, 0, 926, []),
  (.ireturn, 0, 0, 0, 0, []),
  (.bipush 98, 0, 0, 0, 0, []),
  (.bipush 30, 0, 0, 0, 0, []),
  (.iload_n 1, 0, 0, 0, 0, []),
  (.imul, 0, 0, 0, 0, []),
  (.iadd, 0, 0, 0, 0, []),
  (.iconst 3, 0, 0, 0, 0, []),
  (.iload_n 2, 0, 0, 0, 0, []),
  (.imul, 0, 0, 0, 0, []),
  (.iadd, 0, 0, 0, 0, []),
  (.istore 4, 0, 0, 0, 0, []),
  (.aload_n 0, 0, 0, 0, 0, []),
  (.getfield 7, 0, 7, 0, 872, []),
  (.iload 4, 0, 0, 0, 0, []),
  (.iaload, 0, 0, 0, 0, []),
  (.iconst 1, 0, 0, 0, 0, []),
  (.if_icmp .ne 17, 0, 40, 0, 0, []),
  (.aload_n 0, 0, 0, 0, 0, []),
  (.getfield 7, 0, 7, 0, 872, []),
  (.iload 4, 0, 0, 0, 0, []),
  (.iconst 1, 0, 0, 0, 0, []),
  (.iadd, 0, 0, 0, 0, []),
  (.iload_n 3, 0, 0, 0, 0, []),
  (.iadd, 0, 0, 0, 0, []),
  (.iaload, 0, 0, 0, 0, []),
  (.goto 5, 0, 41, 0, 0, []),
  (.ldc 107, (-1000004), 0, 0, 1005, []),
  (.ireturn, 0, 0, 0, 0, [])]
set_option maxRecDepth 20000 in
/-- PhasorTreeModel.nextOut()I -/
def c_m_nextOut : List Ins := [(.aload_n 0, 0, 0, 0, 0, []),
  (.invokevirtual 214, 0, 12, 0, 1171, []),
  (.aload_n 0, 0, 0, 0, 0, []),
  (.getfield 7, 0, 7, 0, 872, []),
  (.iconst 4, 0, 0, 0, 0, []),
  (.iaload, 0, 0, 0, 0, []),
  (.istore_n 1, 0, 0, 0, 0, []),
  (.iconst 0, 0, 0, 0, 0, []),
  (.istore_n 2, 0, 0, 0, 0, []),
  (.iload_n 2, 0, 0, 0, 0, []),
  (.sipush 200, 0, 0, 0, 0, []),
  (.if_icmp .ge 23, 0, 22, 0, 0, []),
  (.aload_n 0, 0, 0, 0, 0, []),
  (.getfield 7, 0, 7, 0, 872, []),
  (.iconst 4, 0, 0, 0, 0, []),
  (.iaload, 0, 0, 0, 0, []),
  (.iload_n 1, 0, 0, 0, 0, []),
  (.if_icmp .ne 13, 0, 22, 0, 0, []),
  (.aload_n 0, 0, 0, 0, 0, []),
  (.invokevirtual 202, 0, 55, 0, 1068, []),
  (.iinc 2 1, 0, 0, 0, 0, []),
  (.goto (-24), 0, 9, 0, 0, []),
  (.aload_n 0, 0, 0, 0, 0, []),
  (.getfield 7, 0, 7, 0, 872, []),
  (.iconst 4, 0, 0, 0, 0, []),
  (.iaload, 0, 0, 0, 0, []),
  (.iload_n 1, 0, 0, 0, 0, []),
  (.if_icmp .le 7, 0, 30, 0, 0, []),
  (.iconst 1, 0, 0, 0, 0, []),
  (.goto 4, 0, 31, 0, 0, []),
  (.iconst 0, 0, 0, 0, 0, []),
  (.istore_n 3, 0, 0, 0, 0, []),
  (.aload_n 0, 0, 0, 0, 0, []),
  (.invokevirtual 217, 0, 13, 0, 1175, []),
  (.iload_n 3, 0, 0, 0, 0, []),
  (.ifCond .eq 7, 0, 38, 0, 0, []),
  (.iload_n 2, 0, 0, 0, 0, []),
  (.goto 5, 0, 39, 0, 0, []),
  (.ldc 107, (-1000004), 0, 0, 1005, []),
  (.ireturn, 0, 0, 0, 0, [])]
set_option maxRecDepth 20000 in
/-- PhasorTreeModel.foresee(I)I -/
def c_m_foresee : List Ins := [(.iload_n 1, 0, 0, 0, 0, []),
  (.iconst 1, 0, 0, 0, 0, []),
  (.sipush 200, 0, 0, 0, 0, []),
  (.invokestatic 39, 0, 2, 2, 923, []),
  (.ifCond .ne 6, 0, 7, 0, 0, []),
  (.ldc 47, (-1000001), 0, 0, 926, []),
  (.ireturn, 0, 0, 0, 0, []),
  (.aload_n 0, 0, 0, 0, 0, []),
  (.invokevirtual 214, 0, 12, 0, 1171, []),
  (.iconst 0, 0, 0, 0, 0, []),
  (.istore_n 2, 0, 0, 0, 0, []),
  (.iload_n 2, 0, 0, 0, 0, []),
  (.iload_n 1, 0, 0, 0, 0, []),
  (.if_icmp .ge 13, 0, 18, 0, 0, []),
  (.aload_n 0, 0, 0, 0, 0, []),
  (.invokevirtual 202, 0, 55, 0, 1068, []),
  (.iinc 2 1, 0, 0, 0, 0, []),
  (.goto (-12), 0, 11, 0, 0, []),
  (.aload_n 0, 0, 0, 0, 0, []),
  (.getfield 7, 0, 7, 0, 872, []),
  (.iconst 4, 0, 0, 0, 0, []),
  (.iaload, 0, 0, 0, 0, []),
  (.ifCond .ne 8, 0, 25, 0, 0, []),
  (.ldc 107, (-1000004), 0, 0, 1005, []),
  (.goto 23, 0, 38, 0, 0, []),
  (.aload_n 0, 0, 0, 0, 0, []),
  (.getfield 7, 0, 7, 0, 872, []),
  (.sipush 248, 0, 0, 0, 0, []),
  (.bipush 25, 0, 0, 0, 0, []),
  (.aload_n 0, 0, 0, 0, 0, []),
  (.getfield 7, 0, 7, 0, 872, []),
  (.iconst 5, 0, 0, 0, 0, []),
  (.iaload, 0, 0, 0, 0, []),
  (.iconst 1, 0, 0, 0, 0, []),
  (.isub, 0, 0, 0, 0, []),
  (.imul, 0, 0, 0, 0, []),
  (.iadd, 0, 0, 0, 0, []),
  (.iaload, 0, 0, 0, 0, []),
  (.istore_n 2, 0, 0, 0, 0, []),
  (.aload_n 0, 0, 0, 0, 0, []),
  (.invokevirtual 217, 0, 13, 0, 1175, []),
  (.iload_n 2, 0, 0, 0, 0, []),
  (.ireturn, 0, 0, 0, 0, [])]
set_option maxRecDepth 20000 in
/-- PhasorTreeModel.sumOf(I)I -/
def c_m_sumOf : List Ins := [(.iconst 0, 0, 0, 0, 0, []),
  (.istore_n 2, 0, 0, 0, 0, []),
  (.iconst 0, 0, 0, 0, 0, []),
  (.istore_n 3, 0, 0, 0, 0, []),
  (.iload_n 3, 0, 0, 0, 0, []),
  (.aload_n 0, 0, 0, 0, 0, []),
  (.getfield 7, 0, 7, 0, 872, []),
  (.iconst 0, 0, 0, 0, 0, []),
  (.iaload, 0, 0, 0, 0, []),
  (.if_icmp .ge 18, 0, 19, 0, 0, []),
  (.iload_n 2, 0, 0, 0, 0, []),
  (.aload_n 0, 0, 0, 0, 0, []),
  (.iload_n 3, 0, 0, 0, 0, []),
  (.iload_n 1, 0, 0, 0, 0, []),
  (.invokevirtual 63, 0, 3, 0, 927, []),
  (.iadd, 0, 0, 0, 0, []),
  (.istore_n 2, 0, 0, 0, 0, []),
  (.iinc 3 1, 0, 0, 0, 0, []),
  (.goto (-22), 0, 4, 0, 0, []),
  (.iload_n 2, 0, 0, 0, 0, []),
  (.ireturn, 0, 0, 0, 0, [])]
set_option maxRecDepth 20000 in
/-- PhasorTreeModel.count(I)I -/
def c_m_count : List Ins := [(.iload_n 1, 0, 0, 0, 0, []),
  (.tableswitch 143 0 10 #[59, 66, 71, 78, 83, 90, 97, 104, 111, 133, 138], 0, 0, 0, 59, [54, 2, 7, 10, 15, 18, 23, 28, 32, 36, 48, 51]),
  (.aload_n 0, 0, 0, 0, 0, []),
  (.getfield 7, 0, 7, 0, 872, []),
  (.iconst 0, 0, 0, 0, 0, []),
  (.iaload, 0, 0, 0, 0, []),
  (.ireturn, 0, 0, 0, 0, []),
  (.aload_n 0, 0, 0, 0, 0, []),
  (.invokevirtual 82, 0, 20, 0, 969, []),
  (.ireturn, 0, 0, 0, 0, []),
  (.aload_n 0, 0, 0, 0, 0, []),
  (.getfield 7, 0, 7, 0, 872, []),
  (.iconst 2, 0, 0, 0, 0, []),
  (.iaload, 0, 0, 0, 0, []),
  (.ireturn, 0, 0, 0, 0, []),
  (.aload_n 0, 0, 0, 0, 0, []),
  (.invokevirtual 195, 0, 56, 0, 1048, []),
  (.ireturn, 0, 0, 0, 0, []),
  (.aload_n 0, 0, 0, 0, 0, []),
  (.getfield 7, 0, 7, 0, 872, []),
  (.iconst 4, 0, 0, 0, 0, []),
  (.iaload, 0, 0, 0, 0, []),
  (.ireturn, 0, 0, 0, 0, []),
  (.aload_n 0, 0, 0, 0, 0, []),
  (.getfield 7, 0, 7, 0, 872, []),
  (.iconst 5, 0, 0, 0, 0, []),
  (.iaload, 0, 0, 0, 0, []),
  (.ireturn, 0, 0, 0, 0, []),
  (.aload_n 0, 0, 0, 0, 0, []),
  (.bipush 7, 0, 0, 0, 0, []),
  (.invokevirtual 220, 0, 68, 0, 1187, []),
  (.ireturn, 0, 0, 0, 0, []),
  (.aload_n 0, 0, 0, 0, 0, []),
  (.bipush 8, 0, 0, 0, 0, []),
  (.invokevirtual 220, 0, 68, 0, 1187, []),
  (.ireturn, 0, 0, 0, 0, []),
  (.aload_n 0, 0, 0, 0, 0, []),
  (.getfield 7, 0, 7, 0, 872, []),
  (.iconst 4, 0, 0, 0, 0, []),
  (.iaload, 0, 0, 0, 0, []),
  (.ifCond .ne 8, 0, 43, 0, 0, []),
  (.ldc 107, (-1000004), 0, 0, 1005, []),
  (.goto 10, 0, 47, 0, 0, []),
  (.aload_n 0, 0, 0, 0, 0, []),
  (.getfield 7, 0, 7, 0, 872, []),
  (.bipush 6, 0, 0, 0, 0, []),
  (.iaload, 0, 0, 0, 0, []),
  (.ireturn, 0, 0, 0, 0, []),
  (.aload_n 0, 0, 0, 0, 0, []),
  (.getfield 48, 0, 7, 4, 876, []),
  (.ireturn, 0, 0, 0, 0, []),
  (.aload_n 0, 0, 0, 0, 0, []),
  (.getfield 223, 0, 7, 6, 878, []),
  (.ireturn, 0, 0, 0, 0, []),
  (.ldc 47, (-1000001), 0, 0, 926, []),
  (.ireturn, 0, 0, 0, 0, [])]
set_option maxRecDepth 20000 in
/-- PhasorTreeModel.undo()I -/
def c_m_undo : List Ins := [(.aload_n 0, 0, 0, 0, 0, []),
  (.getfield 48, 0, 7, 4, 876, []),
  (.ifCond .ne 6, 0, 5, 0, 0, []),
  (.ldc 73, (-1000002), 0, 0, 934, []),
  (.ireturn, 0, 0, 0, 0, []),
  (.aload_n 0, 0, 0, 0, 0, []),
  (.dup, 0, 0, 0, 0, []),
  (.getfield 48, 0, 7, 4, 876, []),
  (.iconst 1, 0, 0, 0, 0, []),
  (.isub, 0, 0, 0, 0, []),
  (.putfield 48, 0, 7, 4, 876, []),
  (.iconst 0, 0, 0, 0, 0, []),
  (.istore_n 1, 0, 0, 0, 0, []),
  (.iload_n 1, 0, 0, 0, 0, []),
  (.sipush 15568, 0, 0, 0, 0, []),
  (.if_icmp .ge 30, 0, 31, 0, 0, []),
  (.aload_n 0, 0, 0, 0, 0, []),
  (.getfield 7, 0, 7, 0, 872, []),
  (.iload_n 1, 0, 0, 0, 0, []),
  (.aload_n 0, 0, 0, 0, 0, []),
  (.getfield 14, 0, 7, 1, 873, []),
  (.sipush 15568, 0, 0, 0, 0, []),
  (.aload_n 0, 0, 0, 0, 0, []),
  (.getfield 48, 0, 7, 4, 876, []),
  (.imul, 0, 0, 0, 0, []),
  (.iload_n 1, 0, 0, 0, 0, []),
  (.iadd, 0, 0, 0, 0, []),
  (.iaload, 0, 0, 0, 0, []),
  (.iastore, 0, 0, 0, 0, []),
  (.iinc 1 1, 0, 0, 0, 0, []),
  (.goto (-31), 0, 13, 0, 0, []),
  (.aload_n 0, 0, 0, 0, 0, []),
  (.getfield 48, 0, 7, 4, 876, []),
  (.ireturn, 0, 0, 0, 0, [])]
set_option maxRecDepth 20000 in
/-- PhasorTreeModel.type(I)I -/
def c_m_type : List Ins := [(.iload_n 1, 0, 0, 0, 0, []),
  (.bipush 32, 0, 0, 0, 0, []),
  (.bipush 126, 0, 0, 0, 0, []),
  (.invokestatic 39, 0, 2, 2, 923, []),
  (.ifCond .ne 6, 0, 7, 0, 0, []),
  (.ldc 47, (-1000001), 0, 0, 926, []),
  (.ireturn, 0, 0, 0, 0, []),
  (.aload_n 0, 0, 0, 0, 0, []),
  (.getfield 223, 0, 7, 6, 878, []),
  (.bipush 60, 0, 0, 0, 0, []),
  (.if_icmp .ne 6, 0, 13, 0, 0, []),
  (.ldc 74, (-1000003), 0, 0, 935, []),
  (.ireturn, 0, 0, 0, 0, []),
  (.aload_n 0, 0, 0, 0, 0, []),
  (.getfield 23, 0, 7, 5, 877, []),
  (.aload_n 0, 0, 0, 0, 0, []),
  (.getfield 223, 0, 7, 6, 878, []),
  (.iload_n 1, 0, 0, 0, 0, []),
  (.i2c, 0, 0, 0, 0, []),
  (.castore, 0, 0, 0, 0, []),
  (.aload_n 0, 0, 0, 0, 0, []),
  (.dup, 0, 0, 0, 0, []),
  (.getfield 223, 0, 7, 6, 878, []),
  (.iconst 1, 0, 0, 0, 0, []),
  (.iadd, 0, 0, 0, 0, []),
  (.putfield 223, 0, 7, 6, 878, []),
  (.aload_n 0, 0, 0, 0, 0, []),
  (.getfield 223, 0, 7, 6, 878, []),
  (.ireturn, 0, 0, 0, 0, [])]
set_option maxRecDepth 20000 in
/-- PhasorTreeModel.clearText()I -/
def c_m_clearText : List Ins := [(.aload_n 0, 0, 0, 0, 0, []),
  (.getfield 223, 0, 7, 6, 878, []),
  (.istore_n 1, 0, 0, 0, 0, []),
  (.aload_n 0, 0, 0, 0, 0, []),
  (.iconst 0, 0, 0, 0, 0, []),
  (.putfield 223, 0, 7, 6, 878, []),
  (.iload_n 1, 0, 0, 0, 0, []),
  (.ireturn, 0, 0, 0, 0, [])]
set_option maxRecDepth 20000 in
/-- PhasorTreeModel.has(C)Z -/
def c_m_has : List Ins := [(.aload_n 0, 0, 0, 0, 0, []),
  (.getfield 226, 0, 7, 7, 879, []),
  (.aload_n 0, 0, 0, 0, 0, []),
  (.getfield 223, 0, 7, 6, 878, []),
  (.if_icmp .ge 20, 0, 14, 0, 0, []),
  (.aload_n 0, 0, 0, 0, 0, []),
  (.getfield 23, 0, 7, 5, 877, []),
  (.aload_n 0, 0, 0, 0, 0, []),
  (.getfield 226, 0, 7, 7, 879, []),
  (.caload, 0, 0, 0, 0, []),
  (.iload_n 1, 0, 0, 0, 0, []),
  (.if_icmp .ne 7, 0, 14, 0, 0, []),
  (.iconst 1, 0, 0, 0, 0, []),
  (.goto 4, 0, 15, 0, 0, []),
  (.iconst 0, 0, 0, 0, 0, []),
  (.istore_n 2, 0, 0, 0, 0, []),
  (.aload_n 0, 0, 0, 0, 0, []),
  (.dup, 0, 0, 0, 0, []),
  (.getfield 226, 0, 7, 7, 879, []),
  (.iload_n 2, 0, 0, 0, 0, []),
  (.ifCond .eq 7, 0, 23, 0, 0, []),
  (.iconst 1, 0, 0, 0, 0, []),
  (.goto 4, 0, 24, 0, 0, []),
  (.iconst 0, 0, 0, 0, 0, []),
  (.iadd, 0, 0, 0, 0, []),
  (.putfield 226, 0, 7, 7, 879, []),
  (.iload_n 2, 0, 0, 0, 0, []),
  (.ireturn, 0, 0, 0, 0, [])]
set_option maxRecDepth 20000 in
/-- PhasorTreeModel.takes(I)Z -/
def c_m_takes : List Ins := [(.aload_n 0, 0, 0, 0, 0, []),
  (.getfield 226, 0, 7, 7, 879, []),
  (.istore_n 2, 0, 0, 0, 0, []),
  (.aload_n 0, 0, 0, 0, 0, []),
  (.getfield 27, 0, 7, 9, 881, []),
  (.iload_n 1, 0, 0, 0, 0, []),
  (.iconst 0, 0, 0, 0, 0, []),
  (.iastore, 0, 0, 0, 0, []),
  (.aload_n 0, 0, 0, 0, 0, []),
  (.getfield 226, 0, 7, 7, 879, []),
  (.aload_n 0, 0, 0, 0, 0, []),
  (.getfield 223, 0, 7, 6, 878, []),
  (.if_icmp .ge 74, 0, 53, 0, 0, []),
  (.aload_n 0, 0, 0, 0, 0, []),
  (.getfield 226, 0, 7, 7, 879, []),
  (.iload_n 2, 0, 0, 0, 0, []),
  (.bipush 6, 0, 0, 0, 0, []),
  (.iadd, 0, 0, 0, 0, []),
  (.if_icmp .ge 63, 0, 53, 0, 0, []),
  (.aload_n 0, 0, 0, 0, 0, []),
  (.getfield 23, 0, 7, 5, 877, []),
  (.aload_n 0, 0, 0, 0, 0, []),
  (.getfield 226, 0, 7, 7, 879, []),
  (.caload, 0, 0, 0, 0, []),
  (.bipush 48, 0, 0, 0, 0, []),
  (.bipush 57, 0, 0, 0, 0, []),
  (.invokestatic 39, 0, 2, 2, 923, []),
  (.ifCond .eq 44, 0, 53, 0, 0, []),
  (.aload_n 0, 0, 0, 0, 0, []),
  (.getfield 27, 0, 7, 9, 881, []),
  (.iload_n 1, 0, 0, 0, 0, []),
  (.bipush 10, 0, 0, 0, 0, []),
  (.aload_n 0, 0, 0, 0, 0, []),
  (.getfield 27, 0, 7, 9, 881, []),
  (.iload_n 1, 0, 0, 0, 0, []),
  (.iaload, 0, 0, 0, 0, []),
  (.imul, 0, 0, 0, 0, []),
  (.aload_n 0, 0, 0, 0, 0, []),
  (.getfield 23, 0, 7, 5, 877, []),
  (.aload_n 0, 0, 0, 0, 0, []),
  (.getfield 226, 0, 7, 7, 879, []),
  (.caload, 0, 0, 0, 0, []),
  (.iadd, 0, 0, 0, 0, []),
  (.bipush 48, 0, 0, 0, 0, []),
  (.isub, 0, 0, 0, 0, []),
  (.iastore, 0, 0, 0, 0, []),
  (.aload_n 0, 0, 0, 0, 0, []),
  (.dup, 0, 0, 0, 0, []),
  (.getfield 226, 0, 7, 7, 879, []),
  (.iconst 1, 0, 0, 0, 0, []),
  (.iadd, 0, 0, 0, 0, []),
  (.putfield 226, 0, 7, 7, 879, []),
  (.goto (-79), 0, 8, 0, 0, []),
  (.aload_n 0, 0, 0, 0, 0, []),
  (.getfield 226, 0, 7, 7, 879, []),
  (.iload_n 2, 0, 0, 0, 0, []),
  (.if_icmp .le 7, 0, 59, 0, 0, []),
  (.iconst 1, 0, 0, 0, 0, []),
  (.goto 4, 0, 60, 0, 0, []),
  (.iconst 0, 0, 0, 0, 0, []),
  (.ireturn, 0, 0, 0, 0, [])]
set_option maxRecDepth 20000 in
/-- PhasorTreeModel.readsForm(C)Z -/
def c_m_readsForm : List Ins := [(.iload_n 1, 0, 0, 0, 0, []),
  (.bipush 109, 0, 0, 0, 0, []),
  (.if_icmp .eq 15, 0, 9, 0, 0, []),
  (.iload_n 1, 0, 0, 0, 0, []),
  (.bipush 112, 0, 0, 0, 0, []),
  (.if_icmp .eq 9, 0, 9, 0, 0, []),
  (.iload_n 1, 0, 0, 0, 0, []),
  (.bipush 120, 0, 0, 0, 0, []),
  (.if_icmp .ne 15, 0, 15, 0, 0, []),
  (.aload_n 0, 0, 0, 0, 0, []),
  (.iconst 0, 0, 0, 0, 0, []),
  (.invokevirtual 229, 0, 74, 0, 1219, []),
  (.ifCond .eq 7, 0, 15, 0, 0, []),
  (.iconst 1, 0, 0, 0, 0, []),
  (.goto 4, 0, 16, 0, 0, []),
  (.iconst 0, 0, 0, 0, 0, []),
  (.istore_n 2, 0, 0, 0, 0, []),
  (.iload_n 2, 0, 0, 0, 0, []),
  (.ifCond .eq 104, 0, 74, 0, 0, []),
  (.iload_n 1, 0, 0, 0, 0, []),
  (.bipush 109, 0, 0, 0, 0, []),
  (.if_icmp .ne 98, 0, 74, 0, 0, []),
  (.aload_n 0, 0, 0, 0, 0, []),
  (.bipush 44, 0, 0, 0, 0, []),
  (.invokevirtual 232, 0, 73, 0, 1223, []),
  (.ifCond .eq 24, 0, 36, 0, 0, []),
  (.aload_n 0, 0, 0, 0, 0, []),
  (.iconst 1, 0, 0, 0, 0, []),
  (.invokevirtual 229, 0, 74, 0, 1219, []),
  (.ifCond .eq 16, 0, 36, 0, 0, []),
  (.aload_n 0, 0, 0, 0, 0, []),
  (.bipush 44, 0, 0, 0, 0, []),
  (.invokevirtual 232, 0, 73, 0, 1223, []),
  (.ifCond .eq 7, 0, 36, 0, 0, []),
  (.iconst 1, 0, 0, 0, 0, []),
  (.goto 4, 0, 37, 0, 0, []),
  (.iconst 0, 0, 0, 0, 0, []),
  (.istore_n 2, 0, 0, 0, 0, []),
  (.iload_n 2, 0, 0, 0, 0, []),
  (.ifCond .eq 16, 0, 46, 0, 0, []),
  (.aload_n 0, 0, 0, 0, 0, []),
  (.bipush 45, 0, 0, 0, 0, []),
  (.invokevirtual 232, 0, 73, 0, 1223, []),
  (.ifCond .eq 7, 0, 46, 0, 0, []),
  (.iconst 1, 0, 0, 0, 0, []),
  (.goto 4, 0, 47, 0, 0, []),
  (.iconst 0, 0, 0, 0, 0, []),
  (.istore_n 3, 0, 0, 0, 0, []),
  (.iload_n 2, 0, 0, 0, 0, []),
  (.ifCond .eq 15, 0, 56, 0, 0, []),
  (.aload_n 0, 0, 0, 0, 0, []),
  (.iconst 2, 0, 0, 0, 0, []),
  (.invokevirtual 229, 0, 74, 0, 1219, []),
  (.ifCond .eq 7, 0, 56, 0, 0, []),
  (.iconst 1, 0, 0, 0, 0, []),
  (.goto 4, 0, 57, 0, 0, []),
  (.iconst 0, 0, 0, 0, 0, []),
  (.istore_n 2, 0, 0, 0, 0, []),
  (.aload_n 0, 0, 0, 0, 0, []),
  (.getfield 27, 0, 7, 9, 881, []),
  (.iconst 2, 0, 0, 0, 0, []),
  (.iload_n 3, 0, 0, 0, 0, []),
  (.ifCond .eq 13, 0, 69, 0, 0, []),
  (.aload_n 0, 0, 0, 0, 0, []),
  (.getfield 27, 0, 7, 9, 881, []),
  (.iconst 2, 0, 0, 0, 0, []),
  (.iaload, 0, 0, 0, 0, []),
  (.ineg, 0, 0, 0, 0, []),
  (.goto 9, 0, 73, 0, 0, []),
  (.aload_n 0, 0, 0, 0, 0, []),
  (.getfield 27, 0, 7, 9, 881, []),
  (.iconst 2, 0, 0, 0, 0, []),
  (.iaload, 0, 0, 0, 0, []),
  (.iastore, 0, 0, 0, 0, []),
  (.iload_n 2, 0, 0, 0, 0, []),
  (.ifCond .eq 16, 0, 82, 0, 0, []),
  (.aload_n 0, 0, 0, 0, 0, []),
  (.bipush 59, 0, 0, 0, 0, []),
  (.invokevirtual 232, 0, 73, 0, 1223, []),
  (.ifCond .eq 7, 0, 82, 0, 0, []),
  (.iconst 1, 0, 0, 0, 0, []),
  (.goto 4, 0, 83, 0, 0, []),
  (.iconst 0, 0, 0, 0, 0, []),
  (.ireturn, 0, 0, 0, 0, [])]
set_option maxRecDepth 20000 in
/-- PhasorTreeModel.does(C)I -/
def c_m_does : List Ins := [(.iload_n 1, 0, 0, 0, 0, []),
  (.bipush 109, 0, 0, 0, 0, []),
  (.if_icmp .ne 30, 0, 20, 0, 0, []),
  (.aload_n 0, 0, 0, 0, 0, []),
  (.aload_n 0, 0, 0, 0, 0, []),
  (.getfield 27, 0, 7, 9, 881, []),
  (.iconst 0, 0, 0, 0, 0, []),
  (.iaload, 0, 0, 0, 0, []),
  (.aload_n 0, 0, 0, 0, 0, []),
  (.getfield 27, 0, 7, 9, 881, []),
  (.iconst 1, 0, 0, 0, 0, []),
  (.iaload, 0, 0, 0, 0, []),
  (.aload_n 0, 0, 0, 0, 0, []),
  (.getfield 27, 0, 7, 9, 881, []),
  (.iconst 2, 0, 0, 0, 0, []),
  (.iaload, 0, 0, 0, 0, []),
  (.iconst 0, 0, 0, 0, 0, []),
  (.iconst 1, 0, 0, 0, 0, []),
  (.invokevirtual 198, 0, 57, 0, 1042, []),
  (.goto 32, 0, 36, 0, 0, []),
  (.iload_n 1, 0, 0, 0, 0, []),
  (.bipush 112, 0, 0, 0, 0, []),
  (.if_icmp .ne 16, 0, 30, 0, 0, []),
  (.aload_n 0, 0, 0, 0, 0, []),
  (.aload_n 0, 0, 0, 0, 0, []),
  (.getfield 27, 0, 7, 9, 881, []),
  (.iconst 0, 0, 0, 0, 0, []),
  (.iaload, 0, 0, 0, 0, []),
  (.invokevirtual 205, 0, 59, 0, 1064, []),
  (.goto 13, 0, 36, 0, 0, []),
  (.aload_n 0, 0, 0, 0, 0, []),
  (.aload_n 0, 0, 0, 0, 0, []),
  (.getfield 27, 0, 7, 9, 881, []),
  (.iconst 0, 0, 0, 0, 0, []),
  (.iaload, 0, 0, 0, 0, []),
  (.invokevirtual 86, 0, 23, 0, 953, []),
  (.ireturn, 0, 0, 0, 0, [])]
set_option maxRecDepth 20000 in
/-- PhasorTreeModel.doesNext()I -/
def c_m_doesNext : List Ins := [(.aload_n 0, 0, 0, 0, 0, []),
  (.getfield 23, 0, 7, 5, 877, []),
  (.aload_n 0, 0, 0, 0, 0, []),
  (.getfield 226, 0, 7, 7, 879, []),
  (.caload, 0, 0, 0, 0, []),
  (.istore_n 1, 0, 0, 0, 0, []),
  (.aload_n 0, 0, 0, 0, 0, []),
  (.dup, 0, 0, 0, 0, []),
  (.getfield 226, 0, 7, 7, 879, []),
  (.iconst 1, 0, 0, 0, 0, []),
  (.iadd, 0, 0, 0, 0, []),
  (.putfield 226, 0, 7, 7, 879, []),
  (.aload_n 0, 0, 0, 0, 0, []),
  (.iload_n 1, 0, 0, 0, 0, []),
  (.invokevirtual 236, 0, 75, 0, 1215, []),
  (.ifCond .ne 5, 0, 18, 0, 0, []),
  (.iconst 1, 0, 0, 0, 0, []),
  (.ireturn, 0, 0, 0, 0, []),
  (.iload_n 1, 0, 0, 0, 0, []),
  (.bipush 112, 0, 0, 0, 0, []),
  (.if_icmp .eq 20, 0, 30, 0, 0, []),
  (.aload_n 0, 0, 0, 0, 0, []),
  (.aload_n 0, 0, 0, 0, 0, []),
  (.getfield 27, 0, 7, 9, 881, []),
  (.iconst 0, 0, 0, 0, 0, []),
  (.iaload, 0, 0, 0, 0, []),
  (.invokevirtual 53, 0, 8, 0, 957, []),
  (.ifCond .ne 7, 0, 30, 0, 0, []),
  (.iconst 2, 0, 0, 0, 0, []),
  (.goto 18, 0, 38, 0, 0, []),
  (.aload_n 0, 0, 0, 0, 0, []),
  (.iload_n 1, 0, 0, 0, 0, []),
  (.invokevirtual 239, 0, 76, 0, 1227, []),
  (.ldc 47, (-1000001), 0, 0, 926, []),
  (.if_icmp .gt 7, 0, 37, 0, 0, []),
  (.iconst 3, 0, 0, 0, 0, []),
  (.goto 4, 0, 38, 0, 0, []),
  (.iconst 0, 0, 0, 0, 0, []),
  (.ireturn, 0, 0, 0, 0, [])]
set_option maxRecDepth 20000 in
/-- PhasorTreeModel.faulty()I -/
def c_m_faulty : List Ins := [(.aload_n 0, 0, 0, 0, 0, []),
  (.invokevirtual 214, 0, 12, 0, 1171, []),
  (.ldc 107, (-1000004), 0, 0, 1005, []),
  (.istore_n 1, 0, 0, 0, 0, []),
  (.aload_n 0, 0, 0, 0, 0, []),
  (.iconst 0, 0, 0, 0, 0, []),
  (.putfield 226, 0, 7, 7, 879, []),
  (.aload_n 0, 0, 0, 0, 0, []),
  (.getfield 226, 0, 7, 7, 879, []),
  (.aload_n 0, 0, 0, 0, 0, []),
  (.getfield 223, 0, 7, 6, 878, []),
  (.if_icmp .ge 38, 0, 30, 0, 0, []),
  (.iload_n 1, 0, 0, 0, 0, []),
  (.ldc 107, (-1000004), 0, 0, 1005, []),
  (.if_icmp .ne 32, 0, 30, 0, 0, []),
  (.aload_n 0, 0, 0, 0, 0, []),
  (.getfield 226, 0, 7, 7, 879, []),
  (.istore_n 2, 0, 0, 0, 0, []),
  (.aload_n 0, 0, 0, 0, 0, []),
  (.aload_n 0, 0, 0, 0, 0, []),
  (.invokevirtual 243, 0, 77, 0, 1211, []),
  (.putfield 246, 0, 7, 8, 880, []),
  (.aload_n 0, 0, 0, 0, 0, []),
  (.getfield 246, 0, 7, 8, 880, []),
  (.ifCond .le 7, 0, 27, 0, 0, []),
  (.iload_n 2, 0, 0, 0, 0, []),
  (.goto 4, 0, 28, 0, 0, []),
  (.iload_n 1, 0, 0, 0, 0, []),
  (.istore_n 1, 0, 0, 0, 0, []),
  (.goto (-43), 0, 7, 0, 0, []),
  (.aload_n 0, 0, 0, 0, 0, []),
  (.invokevirtual 217, 0, 13, 0, 1175, []),
  (.iload_n 1, 0, 0, 0, 0, []),
  (.ireturn, 0, 0, 0, 0, [])]
set_option maxRecDepth 20000 in
/-- PhasorTreeModel.fault(I)I -/
def c_m_fault : List Ins := [(.iload_n 1, 0, 0, 0, 0, []),
  (.iconst 0, 0, 0, 0, 0, []),
  (.iconst 1, 0, 0, 0, 0, []),
  (.invokestatic 39, 0, 2, 2, 923, []),
  (.ifCond .ne 6, 0, 7, 0, 0, []),
  (.ldc 47, (-1000001), 0, 0, 926, []),
  (.ireturn, 0, 0, 0, 0, []),
  (.aload_n 0, 0, 0, 0, 0, []),
  (.invokevirtual 249, 0, 78, 0, 1207, []),
  (.istore_n 2, 0, 0, 0, 0, []),
  (.iload_n 2, 0, 0, 0, 0, []),
  (.ldc 107, (-1000004), 0, 0, 1005, []),
  (.if_icmp .eq 7, 0, 15, 0, 0, []),
  (.iload_n 1, 0, 0, 0, 0, []),
  (.ifCond .ne 7, 0, 17, 0, 0, []),
  (.iload_n 2, 0, 0, 0, 0, []),
  (.goto 7, 0, 19, 0, 0, []),
  (.aload_n 0, 0, 0, 0, 0, []),
  (.getfield 246, 0, 7, 8, 880, []),
  (.ireturn, 0, 0, 0, 0, [])]
set_option maxRecDepth 20000 in
/-- PhasorTreeModel.play()I -/
def c_m_play : List Ins := [(.aload_n 0, 0, 0, 0, 0, []),
  (.invokevirtual 249, 0, 78, 0, 1207, []),
  (.ldc 107, (-1000004), 0, 0, 1005, []),
  (.if_icmp .eq 6, 0, 6, 0, 0, []),
  (.ldc 73, (-1000002), 0, 0, 934, []),
  (.ireturn, 0, 0, 0, 0, []),
  (.aload_n 0, 0, 0, 0, 0, []),
  (.invokevirtual 75, 0, 10, 0, 936, []),
  (.iconst 0, 0, 0, 0, 0, []),
  (.istore_n 1, 0, 0, 0, 0, []),
  (.aload_n 0, 0, 0, 0, 0, []),
  (.iconst 0, 0, 0, 0, 0, []),
  (.putfield 226, 0, 7, 7, 879, []),
  (.aload_n 0, 0, 0, 0, 0, []),
  (.getfield 226, 0, 7, 7, 879, []),
  (.aload_n 0, 0, 0, 0, 0, []),
  (.getfield 223, 0, 7, 6, 878, []),
  (.if_icmp .ge 21, 0, 28, 0, 0, []),
  (.iload_n 1, 0, 0, 0, 0, []),
  (.aload_n 0, 0, 0, 0, 0, []),
  (.invokevirtual 243, 0, 77, 0, 1211, []),
  (.ifCond .ne 7, 0, 24, 0, 0, []),
  (.iconst 1, 0, 0, 0, 0, []),
  (.goto 4, 0, 25, 0, 0, []),
  (.iconst 0, 0, 0, 0, 0, []),
  (.iadd, 0, 0, 0, 0, []),
  (.istore_n 1, 0, 0, 0, 0, []),
  (.goto (-26), 0, 13, 0, 0, []),
  (.aload_n 0, 0, 0, 0, 0, []),
  (.iload_n 1, 0, 0, 0, 0, []),
  (.invokevirtual 78, 0, 11, 0, 940, []),
  (.ireturn, 0, 0, 0, 0, [])]
set_option maxRecDepth 20000 in
/-- PhasorTree$Frame.<init>()V -/
def c_F_init : List Ins := [(.aload_n 0, 0, 0, 0, 0, []),
  (.invokespecial 3, 0, 0, 6, 227, []),
  (.aload_n 0, 0, 0, 0, 0, []),
  (.iconst (-1), 0, 0, 0, 0, []),
  (.putfield 9, 0, 0, 0, 228, []),
  (.aload_n 0, 0, 0, 0, 0, []),
  (.iconst 0, 0, 0, 0, 0, []),
  (.putfield 15, 0, 0, 1, 231, []),
  (.aload_n 0, 0, 0, 0, 0, []),
  (.iconst 0, 0, 0, 0, 0, []),
  (.putfield 18, 0, 0, 2, 234, []),
  (.aload_n 0, 0, 0, 0, 0, []),
  (.iconst 0, 0, 0, 0, 0, []),
  (.putfield 21, 0, 0, 3, 238, []),
  (.aload_n 0, 0, 0, 0, 0, []),
  (.iconst 0, 0, 0, 0, 0, []),
  (.putfield 24, 0, 0, 4, 241, []),
  (.aload_n 0, 0, 0, 0, 0, []),
  (.iconst 0, 0, 0, 0, 0, []),
  (.putfield 27, 0, 0, 5, 243, []),
  (.aload_n 0, 0, 0, 0, 0, []),
  (.bipush 10, 0, 0, 0, 0, []),
  (.newarray .int, 0, 0, 0, 0, []),
  (.putfield 30, 0, 0, 6, 246, []),
  (.aload_n 0, 0, 0, 0, 0, []),
  (.bipush 10, 0, 0, 0, 0, []),
  (.newarray .int, 0, 0, 0, 0, []),
  (.putfield 34, 0, 0, 7, 248, []),
  (.return_, 0, 0, 0, 0, [])]
set_option maxRecDepth 20000 in
/-- PhasorTree$Frame.copyFrom(LPhasorTree$Frame;)V -/
def c_F_copyFrom : List Ins := [(.aload_n 0, 0, 0, 0, 0, []),
  (.aload_n 1, 0, 0, 0, 0, []),
  (.getfield 9, 0, 0, 0, 228, []),
  (.putfield 9, 0, 0, 0, 228, []),
  (.aload_n 0, 0, 0, 0, 0, []),
  (.aload_n 1, 0, 0, 0, 0, []),
  (.getfield 15, 0, 0, 1, 231, []),
  (.putfield 15, 0, 0, 1, 231, []),
  (.aload_n 0, 0, 0, 0, 0, []),
  (.aload_n 1, 0, 0, 0, 0, []),
  (.getfield 18, 0, 0, 2, 234, []),
  (.putfield 18, 0, 0, 2, 234, []),
  (.aload_n 0, 0, 0, 0, 0, []),
  (.aload_n 1, 0, 0, 0, 0, []),
  (.getfield 21, 0, 0, 3, 238, []),
  (.putfield 21, 0, 0, 3, 238, []),
  (.aload_n 0, 0, 0, 0, 0, []),
  (.aload_n 1, 0, 0, 0, 0, []),
  (.getfield 24, 0, 0, 4, 241, []),
  (.putfield 24, 0, 0, 4, 241, []),
  (.aload_n 0, 0, 0, 0, 0, []),
  (.aload_n 1, 0, 0, 0, 0, []),
  (.getfield 27, 0, 0, 5, 243, []),
  (.putfield 27, 0, 0, 5, 243, []),
  (.aload_n 1, 0, 0, 0, 0, []),
  (.getfield 30, 0, 0, 6, 246, []),
  (.iconst 0, 0, 0, 0, 0, []),
  (.aload_n 0, 0, 0, 0, 0, []),
  (.getfield 30, 0, 0, 6, 246, []),
  (.iconst 0, 0, 0, 0, 0, []),
  (.bipush 10, 0, 0, 0, 0, []),
  (.invokestatic 37, 0, 0, 7, 452, []),
  (.aload_n 1, 0, 0, 0, 0, []),
  (.getfield 34, 0, 0, 7, 248, []),
  (.iconst 0, 0, 0, 0, 0, []),
  (.aload_n 0, 0, 0, 0, 0, []),
  (.getfield 34, 0, 0, 7, 248, []),
  (.iconst 0, 0, 0, 0, 0, []),
  (.bipush 10, 0, 0, 0, 0, []),
  (.invokestatic 37, 0, 0, 7, 452, []),
  (.return_, 0, 0, 0, 0, [])]
set_option maxRecDepth 20000 in
/-- PhasorTree$Frame.begin(II)V -/
def c_F_begin : List Ins := [(.aload_n 0, 0, 0, 0, 0, []),
  (.iload_n 1, 0, 0, 0, 0, []),
  (.putfield 9, 0, 0, 0, 228, []),
  (.aload_n 0, 0, 0, 0, 0, []),
  (.iload_n 2, 0, 0, 0, 0, []),
  (.putfield 15, 0, 0, 1, 231, []),
  (.aload_n 0, 0, 0, 0, 0, []),
  (.iconst 0, 0, 0, 0, 0, []),
  (.putfield 24, 0, 0, 4, 241, []),
  (.aload_n 0, 0, 0, 0, 0, []),
  (.iconst 0, 0, 0, 0, 0, []),
  (.putfield 27, 0, 0, 5, 243, []),
  (.return_, 0, 0, 0, 0, [])]
set_option maxRecDepth 20000 in
/-- PhasorTree$Frame.has(I)Z -/
def c_F_has : List Ins := [(.iload_n 1, 0, 0, 0, 0, []),
  (.ifCond .lt 24, 0, 14, 0, 0, []),
  (.iload_n 1, 0, 0, 0, 0, []),
  (.bipush 10, 0, 0, 0, 0, []),
  (.if_icmp .ge 18, 0, 14, 0, 0, []),
  (.aload_n 0, 0, 0, 0, 0, []),
  (.getfield 27, 0, 0, 5, 243, []),
  (.iload_n 1, 0, 0, 0, 0, []),
  (.ishr, 0, 0, 0, 0, []),
  (.iconst 1, 0, 0, 0, 0, []),
  (.iand, 0, 0, 0, 0, []),
  (.ifCond .eq 7, 0, 14, 0, 0, []),
  (.iconst 1, 0, 0, 0, 0, []),
  (.goto 4, 0, 15, 0, 0, []),
  (.iconst 0, 0, 0, 0, 0, []),
  (.ireturn, 0, 0, 0, 0, [])]
set_option maxRecDepth 20000 in
/-- PhasorTree$Frame.put(III)V -/
def c_F_put : List Ins := [(.iload_n 1, 0, 0, 0, 0, []),
  (.iconst 0, 0, 0, 0, 0, []),
  (.bipush 9, 0, 0, 0, 0, []),
  (.invokestatic 43, 0, 187, 3, 618, []),
  (.ifCond .eq 29, 0, 23, 0, 0, []),
  (.aload_n 0, 0, 0, 0, 0, []),
  (.dup, 0, 0, 0, 0, []),
  (.getfield 27, 0, 0, 5, 243, []),
  (.iconst 1, 0, 0, 0, 0, []),
  (.iload_n 1, 0, 0, 0, 0, []),
  (.ishl, 0, 0, 0, 0, []),
  (.ior, 0, 0, 0, 0, []),
  (.putfield 27, 0, 0, 5, 243, []),
  (.aload_n 0, 0, 0, 0, 0, []),
  (.getfield 30, 0, 0, 6, 246, []),
  (.iload_n 1, 0, 0, 0, 0, []),
  (.iload_n 2, 0, 0, 0, 0, []),
  (.iastore, 0, 0, 0, 0, []),
  (.aload_n 0, 0, 0, 0, 0, []),
  (.getfield 34, 0, 0, 7, 248, []),
  (.iload_n 1, 0, 0, 0, 0, []),
  (.iload_n 3, 0, 0, 0, 0, []),
  (.iastore, 0, 0, 0, 0, []),
  (.return_, 0, 0, 0, 0, [])]
set_option maxRecDepth 20000 in
/-- PhasorTree$Frame.readingFact(II)I -/
def c_F_readingFact : List Ins := [(.aload_n 0, 0, 0, 0, 0, []),
  (.iload_n 1, 0, 0, 0, 0, []),
  (.invokevirtual 47, 0, 84, 0, 759, []),
  (.ifCond .ne 6, 0, 6, 0, 0, []),
  (.ldc 51, (-1000004), 0, 0, 776, []),
  (.ireturn, 0, 0, 0, 0, []),
  (.iload_n 2, 0, 0, 0, 0, []),
  (.ifCond .ne 12, 0, 13, 0, 0, []),
  (.aload_n 0, 0, 0, 0, 0, []),
  (.getfield 30, 0, 0, 6, 246, []),
  (.iload_n 1, 0, 0, 0, 0, []),
  (.iaload, 0, 0, 0, 0, []),
  (.goto 9, 0, 17, 0, 0, []),
  (.aload_n 0, 0, 0, 0, 0, []),
  (.getfield 34, 0, 0, 7, 248, []),
  (.iload_n 1, 0, 0, 0, 0, []),
  (.iaload, 0, 0, 0, 0, []),
  (.ireturn, 0, 0, 0, 0, [])]
set_option maxRecDepth 20000 in
/-- PhasorTree$Frame.flagsTogether()I -/
def c_F_flagsTogether : List Ins := [(.aload_n 0, 0, 0, 0, 0, []),
  (.getfield 24, 0, 0, 4, 241, []),
  (.ifCond .le 8, 0, 5, 0, 0, []),
  (.bipush 16, 0, 0, 0, 0, []),
  (.goto 4, 0, 6, 0, 0, []),
  (.iconst 0, 0, 0, 0, 0, []),
  (.istore_n 1, 0, 0, 0, 0, []),
  (.iconst 0, 0, 0, 0, 0, []),
  (.istore_n 2, 0, 0, 0, 0, []),
  (.iload_n 2, 0, 0, 0, 0, []),
  (.bipush 10, 0, 0, 0, 0, []),
  (.if_icmp .ge 30, 0, 27, 0, 0, []),
  (.iload_n 1, 0, 0, 0, 0, []),
  (.aload_n 0, 0, 0, 0, 0, []),
  (.iload_n 2, 0, 0, 0, 0, []),
  (.invokevirtual 47, 0, 84, 0, 759, []),
  (.ifCond .eq 12, 0, 22, 0, 0, []),
  (.aload_n 0, 0, 0, 0, 0, []),
  (.getfield 34, 0, 0, 7, 248, []),
  (.iload_n 2, 0, 0, 0, 0, []),
  (.iaload, 0, 0, 0, 0, []),
  (.goto 4, 0, 23, 0, 0, []),
  (.iconst 0, 0, 0, 0, 0, []),
  (.ior, 0, 0, 0, 0, []),
  (.istore_n 1, 0, 0, 0, 0, []),
  (.iinc 2 1, 0, 0, 0, 0, []),
  (.goto (-30), 0, 9, 0, 0, []),
  (.iload_n 1, 0, 0, 0, 0, []),
  (.ireturn, 0, 0, 0, 0, [])]
set_option maxRecDepth 20000 in
/-- PhasorTree$Row.<init>()V -/
def c_R_init : List Ins := [(.aload_n 0, 0, 0, 0, 0, []),
  (.invokespecial 3, 0, 0, 6, 207, []),
  (.aload_n 0, 0, 0, 0, 0, []),
  (.bipush 8, 0, 0, 0, 0, []),
  (.anewarray 9, 0, 0, 0, 208, []),
  (.putfield 11, 0, 3, 0, 210, []),
  (.aload_n 0, 0, 0, 0, 0, []),
  (.iconst 0, 0, 0, 0, 0, []),
  (.putfield 17, 0, 3, 1, 213, []),
  (.return_, 0, 0, 0, 0, [])]
set_option maxRecDepth 20000 in
/-- PhasorTree$Row.copyFrom(LPhasorTree$Row;)V -/
def c_R_copyFrom : List Ins := [(.aload_n 0, 0, 0, 0, 0, []),
  (.iconst 0, 0, 0, 0, 0, []),
  (.putfield 17, 0, 3, 1, 213, []),
  (.iconst 0, 0, 0, 0, 0, []),
  (.istore_n 2, 0, 0, 0, 0, []),
  (.iload_n 2, 0, 0, 0, 0, []),
  (.aload_n 1, 0, 0, 0, 0, []),
  (.getfield 17, 0, 3, 1, 213, []),
  (.if_icmp .ge 20, 0, 18, 0, 0, []),
  (.aload_n 0, 0, 0, 0, 0, []),
  (.iload_n 2, 0, 0, 0, 0, []),
  (.aload_n 1, 0, 0, 0, 0, []),
  (.getfield 11, 0, 3, 0, 210, []),
  (.iload_n 2, 0, 0, 0, 0, []),
  (.aaload, 0, 0, 0, 0, []),
  (.invokevirtual 21, 0, 90, 0, 438, []),
  (.iinc 2 1, 0, 0, 0, 0, []),
  (.goto (-22), 0, 5, 0, 0, []),
  (.return_, 0, 0, 0, 0, [])]
set_option maxRecDepth 20000 in
/-- PhasorTree$Row.insert(ILPhasorTree$Frame;)V -/
def c_R_insert : List Ins := [(.aload_n 0, 0, 0, 0, 0, []),
  (.invokevirtual 25, 0, 91, 0, 442, []),
  (.aload_n 0, 0, 0, 0, 0, []),
  (.getfield 17, 0, 3, 1, 213, []),
  (.aload_n 0, 0, 0, 0, 0, []),
  (.getfield 11, 0, 3, 0, 210, []),
  (.arraylength, 0, 0, 0, 0, []),
  (.if_icmp .ge 15, 0, 14, 0, 0, []),
  (.iload_n 1, 0, 0, 0, 0, []),
  (.iconst 0, 0, 0, 0, 0, []),
  (.aload_n 0, 0, 0, 0, 0, []),
  (.getfield 17, 0, 3, 1, 213, []),
  (.invokestatic 28, 0, 187, 3, 446, []),
  (.ifCond .ne 4, 0, 15, 0, 0, []),
  (.return_, 0, 0, 0, 0, []),
  (.aload_n 0, 0, 0, 0, 0, []),
  (.getfield 11, 0, 3, 0, 210, []),
  (.aload_n 0, 0, 0, 0, 0, []),
  (.getfield 17, 0, 3, 1, 213, []),
  (.aaload, 0, 0, 0, 0, []),
  (.ifnonnull 13, 0, 25, 0, 0, []),
  (.new 9, 0, 0, 0, 208, []),
  (.dup, 0, 0, 0, 0, []),
  (.invokespecial 32, 0, 81, 5, 447, []),
  (.goto 12, 0, 30, 0, 0, []),
  (.aload_n 0, 0, 0, 0, 0, []),
  (.getfield 11, 0, 3, 0, 210, []),
  (.aload_n 0, 0, 0, 0, 0, []),
  (.getfield 17, 0, 3, 1, 213, []),
  (.aaload, 0, 0, 0, 0, []),
  (.astore_n 3, 0, 0, 0, 0, []),
  (.aload_n 0, 0, 0, 0, 0, []),
  (.getfield 17, 0, 3, 1, 213, []),
  (.istore 4, 0, 0, 0, 0, []),
  (.iload 4, 0, 0, 0, 0, []),
  (.iload_n 1, 0, 0, 0, 0, []),
  (.if_icmp .le 25, 0, 49, 0, 0, []),
  (.aload_n 0, 0, 0, 0, 0, []),
  (.getfield 11, 0, 3, 0, 210, []),
  (.iload 4, 0, 0, 0, 0, []),
  (.aload_n 0, 0, 0, 0, 0, []),
  (.getfield 11, 0, 3, 0, 210, []),
  (.iload 4, 0, 0, 0, 0, []),
  (.iconst 1, 0, 0, 0, 0, []),
  (.isub, 0, 0, 0, 0, []),
  (.aaload, 0, 0, 0, 0, []),
  (.aastore, 0, 0, 0, 0, []),
  (.iinc 4 (-1), 0, 0, 0, 0, []),
  (.goto (-25), 0, 34, 0, 0, []),
  (.aload_n 0, 0, 0, 0, 0, []),
  (.getfield 11, 0, 3, 0, 210, []),
  (.iload_n 1, 0, 0, 0, 0, []),
  (.aload_n 3, 0, 0, 0, 0, []),
  (.aastore, 0, 0, 0, 0, []),
  (.aload_n 3, 0, 0, 0, 0, []),
  (.aload_n 2, 0, 0, 0, 0, []),
  (.invokevirtual 33, 0, 82, 1, 448, []),
  (.aload_n 0, 0, 0, 0, 0, []),
  (.dup, 0, 0, 0, 0, []),
  (.getfield 17, 0, 3, 1, 213, []),
  (.iconst 1, 0, 0, 0, 0, []),
  (.iadd, 0, 0, 0, 0, []),
  (.putfield 17, 0, 3, 1, 213, []),
  (.return_, 0, 0, 0, 0, [])]
set_option maxRecDepth 20000 in
/-- PhasorTree$Row.grow()V -/
def c_R_grow : List Ins := [(.aload_n 0, 0, 0, 0, 0, []),
  (.getfield 17, 0, 3, 1, 213, []),
  (.aload_n 0, 0, 0, 0, 0, []),
  (.getfield 11, 0, 3, 0, 210, []),
  (.arraylength, 0, 0, 0, 0, []),
  (.if_icmp .lt 14, 0, 11, 0, 0, []),
  (.aload_n 0, 0, 0, 0, 0, []),
  (.getfield 11, 0, 3, 0, 210, []),
  (.arraylength, 0, 0, 0, 0, []),
  (.sipush 1024, 0, 0, 0, 0, []),
  (.if_icmp .lt 4, 0, 12, 0, 0, []),
  (.return_, 0, 0, 0, 0, []),
  (.iconst 2, 0, 0, 0, 0, []),
  (.aload_n 0, 0, 0, 0, 0, []),
  (.getfield 11, 0, 3, 0, 210, []),
  (.arraylength, 0, 0, 0, 0, []),
  (.imul, 0, 0, 0, 0, []),
  (.anewarray 9, 0, 0, 0, 208, []),
  (.astore_n 1, 0, 0, 0, 0, []),
  (.iconst 0, 0, 0, 0, 0, []),
  (.istore_n 2, 0, 0, 0, 0, []),
  (.iload_n 2, 0, 0, 0, 0, []),
  (.aload_n 0, 0, 0, 0, 0, []),
  (.getfield 11, 0, 3, 0, 210, []),
  (.arraylength, 0, 0, 0, 0, []),
  (.if_icmp .ge 18, 0, 35, 0, 0, []),
  (.aload_n 1, 0, 0, 0, 0, []),
  (.iload_n 2, 0, 0, 0, 0, []),
  (.aload_n 0, 0, 0, 0, 0, []),
  (.getfield 11, 0, 3, 0, 210, []),
  (.iload_n 2, 0, 0, 0, 0, []),
  (.aaload, 0, 0, 0, 0, []),
  (.aastore, 0, 0, 0, 0, []),
  (.iinc 2 1, 0, 0, 0, 0, []),
  (.goto (-21), 0, 21, 0, 0, []),
  (.aload_n 0, 0, 0, 0, 0, []),
  (.aload_n 1, 0, 0, 0, 0, []),
  (.putfield 11, 0, 3, 0, 210, []),
  (.return_, 0, 0, 0, 0, [])]
set_option maxRecDepth 20000 in
/-- PhasorTree$Row.swap(II)V -/
def c_R_swap : List Ins := [(.aload_n 0, 0, 0, 0, 0, []),
  (.getfield 11, 0, 3, 0, 210, []),
  (.iload_n 1, 0, 0, 0, 0, []),
  (.aaload, 0, 0, 0, 0, []),
  (.astore_n 3, 0, 0, 0, 0, []),
  (.aload_n 0, 0, 0, 0, 0, []),
  (.getfield 11, 0, 3, 0, 210, []),
  (.iload_n 1, 0, 0, 0, 0, []),
  (.aload_n 0, 0, 0, 0, 0, []),
  (.getfield 11, 0, 3, 0, 210, []),
  (.iload_n 2, 0, 0, 0, 0, []),
  (.aaload, 0, 0, 0, 0, []),
  (.aastore, 0, 0, 0, 0, []),
  (.aload_n 0, 0, 0, 0, 0, []),
  (.getfield 11, 0, 3, 0, 210, []),
  (.iload_n 2, 0, 0, 0, 0, []),
  (.aload_n 3, 0, 0, 0, 0, []),
  (.aastore, 0, 0, 0, 0, []),
  (.return_, 0, 0, 0, 0, [])]
set_option maxRecDepth 20000 in
/-- PhasorTree$Row.removeFirst(I)V -/
def c_R_removeFirst : List Ins := [(.iload_n 1, 0, 0, 0, 0, []),
  (.istore_n 2, 0, 0, 0, 0, []),
  (.iload_n 2, 0, 0, 0, 0, []),
  (.aload_n 0, 0, 0, 0, 0, []),
  (.getfield 17, 0, 3, 1, 213, []),
  (.if_icmp .ge 17, 0, 14, 0, 0, []),
  (.aload_n 0, 0, 0, 0, 0, []),
  (.iload_n 2, 0, 0, 0, 0, []),
  (.iload_n 1, 0, 0, 0, 0, []),
  (.isub, 0, 0, 0, 0, []),
  (.iload_n 2, 0, 0, 0, 0, []),
  (.invokevirtual 37, 0, 92, 0, 720, []),
  (.iinc 2 1, 0, 0, 0, 0, []),
  (.goto (-19), 0, 2, 0, 0, []),
  (.aload_n 0, 0, 0, 0, 0, []),
  (.dup, 0, 0, 0, 0, []),
  (.getfield 17, 0, 3, 1, 213, []),
  (.iload_n 1, 0, 0, 0, 0, []),
  (.isub, 0, 0, 0, 0, []),
  (.putfield 17, 0, 3, 1, 213, []),
  (.return_, 0, 0, 0, 0, [])]
set_option maxRecDepth 20000 in
/-- PhasorTree$Row.framesFrom(I)I -/
def c_R_framesFrom : List Ins := [(.iconst 0, 0, 0, 0, 0, []),
  (.istore_n 2, 0, 0, 0, 0, []),
  (.iconst 0, 0, 0, 0, 0, []),
  (.istore_n 3, 0, 0, 0, 0, []),
  (.iload_n 3, 0, 0, 0, 0, []),
  (.aload_n 0, 0, 0, 0, 0, []),
  (.getfield 17, 0, 3, 1, 213, []),
  (.if_icmp .ge 30, 0, 23, 0, 0, []),
  (.iload_n 2, 0, 0, 0, 0, []),
  (.aload_n 0, 0, 0, 0, 0, []),
  (.getfield 11, 0, 3, 0, 210, []),
  (.iload_n 3, 0, 0, 0, 0, []),
  (.aaload, 0, 0, 0, 0, []),
  (.getfield 41, 0, 0, 0, 229, []),
  (.iload_n 1, 0, 0, 0, 0, []),
  (.if_icmp .ne 7, 0, 18, 0, 0, []),
  (.iconst 1, 0, 0, 0, 0, []),
  (.goto 4, 0, 19, 0, 0, []),
  (.iconst 0, 0, 0, 0, 0, []),
  (.iadd, 0, 0, 0, 0, []),
  (.istore_n 2, 0, 0, 0, 0, []),
  (.iinc 3 1, 0, 0, 0, 0, []),
  (.goto (-32), 0, 4, 0, 0, []),
  (.iload_n 2, 0, 0, 0, 0, []),
  (.ireturn, 0, 0, 0, 0, [])]
set_option maxRecDepth 20000 in
/-- PhasorTree$Row.slotEnd(I)I -/
def c_R_slotEnd : List Ins := [(.iload_n 1, 0, 0, 0, 0, []),
  (.istore_n 2, 0, 0, 0, 0, []),
  (.iload_n 2, 0, 0, 0, 0, []),
  (.aload_n 0, 0, 0, 0, 0, []),
  (.getfield 17, 0, 3, 1, 213, []),
  (.if_icmp .ge 30, 0, 19, 0, 0, []),
  (.aload_n 0, 0, 0, 0, 0, []),
  (.getfield 11, 0, 3, 0, 210, []),
  (.iload_n 2, 0, 0, 0, 0, []),
  (.aaload, 0, 0, 0, 0, []),
  (.getfield 44, 0, 0, 2, 236, []),
  (.aload_n 0, 0, 0, 0, 0, []),
  (.getfield 11, 0, 3, 0, 210, []),
  (.iload_n 1, 0, 0, 0, 0, []),
  (.aaload, 0, 0, 0, 0, []),
  (.getfield 44, 0, 0, 2, 236, []),
  (.if_icmp .ne 9, 0, 19, 0, 0, []),
  (.iinc 2 1, 0, 0, 0, 0, []),
  (.goto (-32), 0, 2, 0, 0, []),
  (.iload_n 2, 0, 0, 0, 0, []),
  (.ireturn, 0, 0, 0, 0, [])]
set_option maxRecDepth 20000 in
/-- PhasorTree$Row.slotStart(I)I -/
def c_R_slotStart : List Ins := [(.iconst 0, 0, 0, 0, 0, []),
  (.istore_n 2, 0, 0, 0, 0, []),
  (.iconst 0, 0, 0, 0, 0, []),
  (.istore_n 3, 0, 0, 0, 0, []),
  (.iload_n 3, 0, 0, 0, 0, []),
  (.iload_n 1, 0, 0, 0, 0, []),
  (.if_icmp .ge 23, 0, 17, 0, 0, []),
  (.iload_n 2, 0, 0, 0, 0, []),
  (.aload_n 0, 0, 0, 0, 0, []),
  (.getfield 17, 0, 3, 1, 213, []),
  (.if_icmp .ge 15, 0, 17, 0, 0, []),
  (.aload_n 0, 0, 0, 0, 0, []),
  (.iload_n 2, 0, 0, 0, 0, []),
  (.invokevirtual 47, 0, 95, 0, 738, []),
  (.istore_n 2, 0, 0, 0, 0, []),
  (.iinc 3 1, 0, 0, 0, 0, []),
  (.goto (-22), 0, 4, 0, 0, []),
  (.iload_n 2, 0, 0, 0, 0, []),
  (.aload_n 0, 0, 0, 0, 0, []),
  (.getfield 17, 0, 3, 1, 213, []),
  (.if_icmp .ge 7, 0, 23, 0, 0, []),
  (.iload_n 2, 0, 0, 0, 0, []),
  (.goto 4, 0, 24, 0, 0, []),
  (.iconst (-1), 0, 0, 0, 0, []),
  (.ireturn, 0, 0, 0, 0, [])]
set_option maxRecDepth 20000 in
/-- PhasorTree$Row.slots()I -/
def c_R_slots : List Ins := [(.iconst 0, 0, 0, 0, 0, []),
  (.istore_n 1, 0, 0, 0, 0, []),
  (.iconst 0, 0, 0, 0, 0, []),
  (.istore_n 2, 0, 0, 0, 0, []),
  (.iload_n 2, 0, 0, 0, 0, []),
  (.aload_n 0, 0, 0, 0, 0, []),
  (.getfield 17, 0, 3, 1, 213, []),
  (.if_icmp .ge 44, 0, 31, 0, 0, []),
  (.iload_n 1, 0, 0, 0, 0, []),
  (.iload_n 2, 0, 0, 0, 0, []),
  (.ifCond .eq 26, 0, 24, 0, 0, []),
  (.aload_n 0, 0, 0, 0, 0, []),
  (.getfield 11, 0, 3, 0, 210, []),
  (.iload_n 2, 0, 0, 0, 0, []),
  (.aaload, 0, 0, 0, 0, []),
  (.getfield 44, 0, 0, 2, 236, []),
  (.aload_n 0, 0, 0, 0, 0, []),
  (.getfield 11, 0, 3, 0, 210, []),
  (.iload_n 2, 0, 0, 0, 0, []),
  (.iconst 1, 0, 0, 0, 0, []),
  (.isub, 0, 0, 0, 0, []),
  (.aaload, 0, 0, 0, 0, []),
  (.getfield 44, 0, 0, 2, 236, []),
  (.if_icmp .eq 7, 0, 26, 0, 0, []),
  (.iconst 1, 0, 0, 0, 0, []),
  (.goto 4, 0, 27, 0, 0, []),
  (.iconst 0, 0, 0, 0, 0, []),
  (.iadd, 0, 0, 0, 0, []),
  (.istore_n 1, 0, 0, 0, 0, []),
  (.iinc 2 1, 0, 0, 0, 0, []),
  (.goto (-46), 0, 4, 0, 0, []),
  (.iload_n 1, 0, 0, 0, 0, []),
  (.ireturn, 0, 0, 0, 0, [])]
set_option maxRecDepth 20000 in
/-- PhasorTree$Row.placeFor(I)I -/
def c_R_placeFor : List Ins := [(.aload_n 0, 0, 0, 0, 0, []),
  (.getfield 17, 0, 3, 1, 213, []),
  (.istore_n 2, 0, 0, 0, 0, []),
  (.iload_n 2, 0, 0, 0, 0, []),
  (.ifCond .le 24, 0, 16, 0, 0, []),
  (.aload_n 0, 0, 0, 0, 0, []),
  (.getfield 11, 0, 3, 0, 210, []),
  (.iload_n 2, 0, 0, 0, 0, []),
  (.iconst 1, 0, 0, 0, 0, []),
  (.isub, 0, 0, 0, 0, []),
  (.aaload, 0, 0, 0, 0, []),
  (.getfield 44, 0, 0, 2, 236, []),
  (.iload_n 1, 0, 0, 0, 0, []),
  (.if_icmp .le 9, 0, 16, 0, 0, []),
  (.iinc 2 (-1), 0, 0, 0, 0, []),
  (.goto (-22), 0, 3, 0, 0, []),
  (.iload_n 2, 0, 0, 0, 0, []),
  (.ireturn, 0, 0, 0, 0, [])]
set_option maxRecDepth 20000 in
/-- PhasorTree$Row.hasIn(ILPhasorTree$Frame;)Z -/
def c_R_hasIn : List Ins := [(.iconst 0, 0, 0, 0, 0, []),
  (.istore_n 3, 0, 0, 0, 0, []),
  (.iload_n 3, 0, 0, 0, 0, []),
  (.aload_n 0, 0, 0, 0, 0, []),
  (.getfield 17, 0, 3, 1, 213, []),
  (.if_icmp .ge 52, 0, 29, 0, 0, []),
  (.aload_n 0, 0, 0, 0, 0, []),
  (.getfield 11, 0, 3, 0, 210, []),
  (.iload_n 3, 0, 0, 0, 0, []),
  (.aaload, 0, 0, 0, 0, []),
  (.astore 4, 0, 0, 0, 0, []),
  (.aload 4, 0, 0, 0, 0, []),
  (.getfield 44, 0, 0, 2, 236, []),
  (.iload_n 1, 0, 0, 0, 0, []),
  (.if_icmp .ne 29, 0, 27, 0, 0, []),
  (.aload 4, 0, 0, 0, 0, []),
  (.getfield 41, 0, 0, 0, 229, []),
  (.aload_n 2, 0, 0, 0, 0, []),
  (.getfield 41, 0, 0, 0, 229, []),
  (.if_icmp .ne 17, 0, 27, 0, 0, []),
  (.aload 4, 0, 0, 0, 0, []),
  (.getfield 51, 0, 0, 1, 232, []),
  (.aload_n 2, 0, 0, 0, 0, []),
  (.getfield 51, 0, 0, 1, 232, []),
  (.if_icmp .ne 5, 0, 27, 0, 0, []),
  (.iconst 1, 0, 0, 0, 0, []),
  (.ireturn, 0, 0, 0, 0, []),
  (.iinc 3 1, 0, 0, 0, 0, []),
  (.goto (-54), 0, 2, 0, 0, []),
  (.iconst 0, 0, 0, 0, 0, []),
  (.ireturn, 0, 0, 0, 0, [])]
set_option maxRecDepth 20000 in
/-- PhasorTree$Unit.<init>()V -/
def c_U_init : List Ins := [(.aload_n 0, 0, 0, 0, 0, []),
  (.invokespecial 3, 0, 0, 6, 318, []),
  (.aload_n 0, 0, 0, 0, 0, []),
  (.iconst 0, 0, 0, 0, 0, []),
  (.putfield 9, 0, 5, 0, 319, []),
  (.aload_n 0, 0, 0, 0, 0, []),
  (.iconst 1, 0, 0, 0, 0, []),
  (.putfield 15, 0, 5, 1, 321, []),
  (.aload_n 0, 0, 0, 0, 0, []),
  (.iconst 0, 0, 0, 0, 0, []),
  (.putfield 18, 0, 5, 2, 323, []),
  (.aload_n 0, 0, 0, 0, 0, []),
  (.iconst 0, 0, 0, 0, 0, []),
  (.putfield 22, 0, 5, 3, 325, []),
  (.return_, 0, 0, 0, 0, [])]
set_option maxRecDepth 20000 in
/-- PhasorTree$Unit.begin(II)V -/
def c_U_begin : List Ins := [(.aload_n 0, 0, 0, 0, 0, []),
  (.iload_n 1, 0, 0, 0, 0, []),
  (.putfield 9, 0, 5, 0, 319, []),
  (.aload_n 0, 0, 0, 0, 0, []),
  (.iload_n 2, 0, 0, 0, 0, []),
  (.putfield 15, 0, 5, 1, 321, []),
  (.aload_n 0, 0, 0, 0, 0, []),
  (.iconst 0, 0, 0, 0, 0, []),
  (.putfield 18, 0, 5, 2, 323, []),
  (.aload_n 0, 0, 0, 0, 0, []),
  (.iconst 0, 0, 0, 0, 0, []),
  (.putfield 22, 0, 5, 3, 325, []),
  (.return_, 0, 0, 0, 0, [])]
set_option maxRecDepth 20000 in
/-- PhasorTree$Unit.copyFrom(LPhasorTree$Unit;)V -/
def c_U_copyFrom : List Ins := [(.aload_n 0, 0, 0, 0, 0, []),
  (.aload_n 1, 0, 0, 0, 0, []),
  (.getfield 9, 0, 5, 0, 319, []),
  (.putfield 9, 0, 5, 0, 319, []),
  (.aload_n 0, 0, 0, 0, 0, []),
  (.aload_n 1, 0, 0, 0, 0, []),
  (.getfield 15, 0, 5, 1, 321, []),
  (.putfield 15, 0, 5, 1, 321, []),
  (.aload_n 0, 0, 0, 0, 0, []),
  (.aload_n 1, 0, 0, 0, 0, []),
  (.getfield 18, 0, 5, 2, 323, []),
  (.putfield 18, 0, 5, 2, 323, []),
  (.aload_n 0, 0, 0, 0, 0, []),
  (.aload_n 1, 0, 0, 0, 0, []),
  (.getfield 22, 0, 5, 3, 325, []),
  (.putfield 22, 0, 5, 3, 325, []),
  (.return_, 0, 0, 0, 0, [])]
set_option maxRecDepth 20000 in
/-- PhasorTree$Hub.<init>()V -/
def c_H_init : List Ins := [(.aload_n 0, 0, 0, 0, 0, []),
  (.invokespecial 3, 0, 0, 6, 271, []),
  (.aload_n 0, 0, 0, 0, 0, []),
  (.iconst 5, 0, 0, 0, 0, []),
  (.newarray .int, 0, 0, 0, 0, []),
  (.putfield 9, 0, 1, 0, 276, []),
  (.aload_n 0, 0, 0, 0, 0, []),
  (.new 15, 0, 3, 0, 272, []),
  (.dup, 0, 0, 0, 0, []),
  (.invokespecial 17, 0, 88, 5, 273, []),
  (.putfield 18, 0, 1, 1, 278, []),
  (.aload_n 0, 0, 0, 0, 0, []),
  (.new 22, 0, 0, 0, 274, []),
  (.dup, 0, 0, 0, 0, []),
  (.invokespecial 24, 0, 81, 5, 275, []),
  (.putfield 25, 0, 1, 2, 280, []),
  (.aload_n 0, 0, 0, 0, 0, []),
  (.iconst (-1), 0, 0, 0, 0, []),
  (.putfield 29, 0, 1, 3, 283, []),
  (.aload_n 0, 0, 0, 0, 0, []),
  (.iconst 0, 0, 0, 0, 0, []),
  (.putfield 33, 0, 1, 4, 285, []),
  (.aload_n 0, 0, 0, 0, 0, []),
  (.iconst 0, 0, 0, 0, 0, []),
  (.putfield 36, 0, 1, 5, 287, []),
  (.aload_n 0, 0, 0, 0, 0, []),
  (.iconst 0, 0, 0, 0, 0, []),
  (.putfield 39, 0, 1, 6, 289, []),
  (.aload_n 0, 0, 0, 0, 0, []),
  (.iconst 0, 0, 0, 0, 0, []),
  (.putfield 42, 0, 1, 7, 291, []),
  (.aload_n 0, 0, 0, 0, 0, []),
  (.iconst (-1), 0, 0, 0, 0, []),
  (.putfield 45, 0, 1, 8, 293, []),
  (.return_, 0, 0, 0, 0, [])]
set_option maxRecDepth 20000 in
/-- PhasorTree$Hub.begin(III)V -/
def c_H_begin : List Ins := [(.aload_n 0, 0, 0, 0, 0, []),
  (.getfield 9, 0, 1, 0, 276, []),
  (.iconst 0, 0, 0, 0, 0, []),
  (.invokestatic 48, 0, 191, 2, 340, []),
  (.aload_n 0, 0, 0, 0, 0, []),
  (.getfield 9, 0, 1, 0, 276, []),
  (.iconst 4, 0, 0, 0, 0, []),
  (.iload_n 3, 0, 0, 0, 0, []),
  (.iastore, 0, 0, 0, 0, []),
  (.aload_n 0, 0, 0, 0, 0, []),
  (.getfield 18, 0, 1, 1, 278, []),
  (.iconst 0, 0, 0, 0, 0, []),
  (.putfield 54, 0, 3, 1, 214, []),
  (.aload_n 0, 0, 0, 0, 0, []),
  (.getfield 25, 0, 1, 2, 280, []),
  (.iconst 0, 0, 0, 0, 0, []),
  (.putfield 57, 0, 0, 5, 244, []),
  (.aload_n 0, 0, 0, 0, 0, []),
  (.iload_n 1, 0, 0, 0, 0, []),
  (.putfield 29, 0, 1, 3, 283, []),
  (.aload_n 0, 0, 0, 0, 0, []),
  (.iload_n 2, 0, 0, 0, 0, []),
  (.putfield 33, 0, 1, 4, 285, []),
  (.aload_n 0, 0, 0, 0, 0, []),
  (.iconst 0, 0, 0, 0, 0, []),
  (.putfield 36, 0, 1, 5, 287, []),
  (.aload_n 0, 0, 0, 0, 0, []),
  (.iconst 0, 0, 0, 0, 0, []),
  (.putfield 39, 0, 1, 6, 289, []),
  (.aload_n 0, 0, 0, 0, 0, []),
  (.iconst 0, 0, 0, 0, 0, []),
  (.putfield 42, 0, 1, 7, 291, []),
  (.aload_n 0, 0, 0, 0, 0, []),
  (.iconst (-1), 0, 0, 0, 0, []),
  (.putfield 45, 0, 1, 8, 293, []),
  (.return_, 0, 0, 0, 0, [])]
set_option maxRecDepth 20000 in
/-- PhasorTree$Hub.copyFrom(LPhasorTree$Hub;)V -/
def c_H_copyFrom : List Ins := [(.aload_n 1, 0, 0, 0, 0, []),
  (.getfield 9, 0, 1, 0, 276, []),
  (.iconst 0, 0, 0, 0, 0, []),
  (.aload_n 0, 0, 0, 0, 0, []),
  (.getfield 9, 0, 1, 0, 276, []),
  (.iconst 0, 0, 0, 0, 0, []),
  (.iconst 5, 0, 0, 0, 0, []),
  (.invokestatic 60, 0, 0, 7, 459, []),
  (.aload_n 0, 0, 0, 0, 0, []),
  (.getfield 18, 0, 1, 1, 278, []),
  (.aload_n 1, 0, 0, 0, 0, []),
  (.getfield 18, 0, 1, 1, 278, []),
  (.invokevirtual 66, 0, 89, 1, 460, []),
  (.aload_n 0, 0, 0, 0, 0, []),
  (.getfield 25, 0, 1, 2, 280, []),
  (.aload_n 1, 0, 0, 0, 0, []),
  (.getfield 25, 0, 1, 2, 280, []),
  (.invokevirtual 70, 0, 82, 1, 461, []),
  (.aload_n 0, 0, 0, 0, 0, []),
  (.aload_n 1, 0, 0, 0, 0, []),
  (.getfield 29, 0, 1, 3, 283, []),
  (.putfield 29, 0, 1, 3, 283, []),
  (.aload_n 0, 0, 0, 0, 0, []),
  (.aload_n 1, 0, 0, 0, 0, []),
  (.getfield 33, 0, 1, 4, 285, []),
  (.putfield 33, 0, 1, 4, 285, []),
  (.aload_n 0, 0, 0, 0, 0, []),
  (.aload_n 1, 0, 0, 0, 0, []),
  (.getfield 36, 0, 1, 5, 287, []),
  (.putfield 36, 0, 1, 5, 287, []),
  (.aload_n 0, 0, 0, 0, 0, []),
  (.aload_n 1, 0, 0, 0, 0, []),
  (.getfield 39, 0, 1, 6, 289, []),
  (.putfield 39, 0, 1, 6, 289, []),
  (.aload_n 0, 0, 0, 0, 0, []),
  (.aload_n 1, 0, 0, 0, 0, []),
  (.getfield 42, 0, 1, 7, 291, []),
  (.putfield 42, 0, 1, 7, 291, []),
  (.aload_n 0, 0, 0, 0, 0, []),
  (.aload_n 1, 0, 0, 0, 0, []),
  (.getfield 45, 0, 1, 8, 293, []),
  (.putfield 45, 0, 1, 8, 293, []),
  (.return_, 0, 0, 0, 0, [])]
set_option maxRecDepth 20000 in
/-- PhasorTree$Hub.isUntouched()Z -/
def c_H_isUntouched : List Ins := [(.aload_n 0, 0, 0, 0, 0, []),
  (.getfield 18, 0, 1, 1, 278, []),
  (.getfield 54, 0, 3, 1, 214, []),
  (.ifCond .ne 14, 0, 9, 0, 0, []),
  (.aload_n 0, 0, 0, 0, 0, []),
  (.getfield 36, 0, 1, 5, 287, []),
  (.ifCond .ne 7, 0, 9, 0, 0, []),
  (.iconst 1, 0, 0, 0, 0, []),
  (.goto 4, 0, 10, 0, 0, []),
  (.iconst 0, 0, 0, 0, 0, []),
  (.ireturn, 0, 0, 0, 0, [])]
set_option maxRecDepth 20000 in
/-- PhasorTree$Hub.slotFor(II)I -/
def c_H_slotFor : List Ins := [(.aload_n 0, 0, 0, 0, 0, []),
  (.getfield 9, 0, 1, 0, 276, []),
  (.iconst 4, 0, 0, 0, 0, []),
  (.iaload, 0, 0, 0, 0, []),
  (.istore_n 3, 0, 0, 0, 0, []),
  (.iload_n 2, 0, 0, 0, 0, []),
  (.iload_n 3, 0, 0, 0, 0, []),
  (.if_icmp .gt 17, 0, 18, 0, 0, []),
  (.iload_n 1, 0, 0, 0, 0, []),
  (.iload_n 3, 0, 0, 0, 0, []),
  (.iadd, 0, 0, 0, 0, []),
  (.iconst 1, 0, 0, 0, 0, []),
  (.isub, 0, 0, 0, 0, []),
  (.iload_n 3, 0, 0, 0, 0, []),
  (.invokestatic 73, 0, 189, 3, 644, []),
  (.iload_n 3, 0, 0, 0, 0, []),
  (.imul, 0, 0, 0, 0, []),
  (.goto 4, 0, 19, 0, 0, []),
  (.iload_n 1, 0, 0, 0, 0, []),
  (.ireturn, 0, 0, 0, 0, [])]
set_option maxRecDepth 20000 in
/-- PhasorTree$Hub.waitLeft(II)I -/
def c_H_waitLeft : List Ins := [(.aload_n 0, 0, 0, 0, 0, []),
  (.getfield 18, 0, 1, 1, 278, []),
  (.getfield 77, 0, 3, 0, 211, []),
  (.iload_n 1, 0, 0, 0, 0, []),
  (.aaload, 0, 0, 0, 0, []),
  (.astore_n 3, 0, 0, 0, 0, []),
  (.aload_n 0, 0, 0, 0, 0, []),
  (.getfield 9, 0, 1, 0, 276, []),
  (.iconst 1, 0, 0, 0, 0, []),
  (.iaload, 0, 0, 0, 0, []),
  (.ifCond .ne 10, 0, 14, 0, 0, []),
  (.aload_n 3, 0, 0, 0, 0, []),
  (.getfield 81, 0, 0, 2, 235, []),
  (.goto 7, 0, 16, 0, 0, []),
  (.aload_n 3, 0, 0, 0, 0, []),
  (.getfield 84, 0, 0, 3, 239, []),
  (.istore 4, 0, 0, 0, 0, []),
  (.iconst 0, 0, 0, 0, 0, []),
  (.iload 4, 0, 0, 0, 0, []),
  (.aload_n 0, 0, 0, 0, 0, []),
  (.getfield 9, 0, 1, 0, 276, []),
  (.iconst 0, 0, 0, 0, 0, []),
  (.iaload, 0, 0, 0, 0, []),
  (.iadd, 0, 0, 0, 0, []),
  (.iload_n 2, 0, 0, 0, 0, []),
  (.isub, 0, 0, 0, 0, []),
  (.invokestatic 87, 0, 0, 8, 671, []),
  (.ireturn, 0, 0, 0, 0, [])]
set_option maxRecDepth 20000 in
/-- PhasorTree$Tree.<init>()V -/
def c_T_init : List Ins := [(.aload_n 0, 0, 0, 0, 0, []),
  (.invokespecial 3, 0, 0, 6, 197, []),
  (.aload_n 0, 0, 0, 0, 0, []),
  (.iconst 5, 0, 0, 0, 0, []),
  (.anewarray 9, 0, 1, 0, 198, []),
  (.putfield 11, 0, 4, 0, 343, []),
  (.aload_n 0, 0, 0, 0, 0, []),
  (.bipush 10, 0, 0, 0, 0, []),
  (.anewarray 17, 0, 5, 0, 200, []),
  (.putfield 19, 0, 4, 1, 345, []),
  (.aload_n 0, 0, 0, 0, 0, []),
  (.new 23, 0, 3, 0, 202, []),
  (.dup, 0, 0, 0, 0, []),
  (.invokespecial 25, 0, 88, 5, 204, []),
  (.putfield 26, 0, 4, 2, 346, []),
  (.aload_n 0, 0, 0, 0, 0, []),
  (.bipush 8, 0, 0, 0, 0, []),
  (.anewarray 30, 0, 0, 0, 222, []),
  (.putfield 32, 0, 4, 3, 348, []),
  (.aload_n 0, 0, 0, 0, 0, []),
  (.iconst 0, 0, 0, 0, 0, []),
  (.putfield 36, 0, 4, 4, 349, []),
  (.aload_n 0, 0, 0, 0, 0, []),
  (.iconst 0, 0, 0, 0, 0, []),
  (.putfield 40, 0, 4, 5, 351, []),
  (.aload_n 0, 0, 0, 0, 0, []),
  (.iconst 0, 0, 0, 0, 0, []),
  (.putfield 43, 0, 4, 6, 353, []),
  (.aload_n 0, 0, 0, 0, 0, []),
  (.iconst 0, 0, 0, 0, 0, []),
  (.putfield 46, 0, 4, 7, 355, []),
  (.aload_n 0, 0, 0, 0, 0, []),
  (.iconst 0, 0, 0, 0, 0, []),
  (.putfield 49, 0, 4, 8, 357, []),
  (.aload_n 0, 0, 0, 0, 0, []),
  (.new 30, 0, 0, 0, 222, []),
  (.dup, 0, 0, 0, 0, []),
  (.invokespecial 52, 0, 81, 5, 224, []),
  (.putfield 53, 0, 4, 9, 358, []),
  (.aload_n 0, 0, 0, 0, 0, []),
  (.bipush 15, 0, 0, 0, 0, []),
  (.newarray .int, 0, 0, 0, 0, []),
  (.putfield 57, 0, 4, 10, 359, []),
  (.aload_n 0, 0, 0, 0, 0, []),
  (.bipush 20, 0, 0, 0, 0, []),
  (.newarray .int, 0, 0, 0, 0, []),
  (.putfield 61, 0, 4, 11, 360, []),
  (.iconst 0, 0, 0, 0, 0, []),
  (.istore_n 1, 0, 0, 0, 0, []),
  (.iload_n 1, 0, 0, 0, 0, []),
  (.iconst 5, 0, 0, 0, 0, []),
  (.if_icmp .ge 22, 0, 61, 0, 0, []),
  (.aload_n 0, 0, 0, 0, 0, []),
  (.getfield 11, 0, 4, 0, 343, []),
  (.iload_n 1, 0, 0, 0, 0, []),
  (.new 9, 0, 1, 0, 198, []),
  (.dup, 0, 0, 0, 0, []),
  (.invokespecial 64, 0, 103, 5, 268, []),
  (.aastore, 0, 0, 0, 0, []),
  (.iinc 1 1, 0, 0, 0, 0, []),
  (.goto (-21), 0, 49, 0, 0, []),
  (.iconst 0, 0, 0, 0, 0, []),
  (.istore_n 1, 0, 0, 0, 0, []),
  (.iload_n 1, 0, 0, 0, 0, []),
  (.bipush 10, 0, 0, 0, 0, []),
  (.if_icmp .ge 22, 0, 75, 0, 0, []),
  (.aload_n 0, 0, 0, 0, 0, []),
  (.getfield 19, 0, 4, 1, 345, []),
  (.iload_n 1, 0, 0, 0, 0, []),
  (.new 17, 0, 5, 0, 200, []),
  (.dup, 0, 0, 0, 0, []),
  (.invokespecial 65, 0, 100, 5, 315, []),
  (.aastore, 0, 0, 0, 0, []),
  (.iinc 1 1, 0, 0, 0, 0, []),
  (.goto (-22), 0, 63, 0, 0, []),
  (.iconst 0, 0, 0, 0, 0, []),
  (.istore_n 1, 0, 0, 0, 0, []),
  (.iload_n 1, 0, 0, 0, 0, []),
  (.bipush 8, 0, 0, 0, 0, []),
  (.if_icmp .ge 22, 0, 89, 0, 0, []),
  (.aload_n 0, 0, 0, 0, 0, []),
  (.getfield 32, 0, 4, 3, 348, []),
  (.iload_n 1, 0, 0, 0, 0, []),
  (.new 30, 0, 0, 0, 222, []),
  (.dup, 0, 0, 0, 0, []),
  (.invokespecial 52, 0, 81, 5, 224, []),
  (.aastore, 0, 0, 0, 0, []),
  (.iinc 1 1, 0, 0, 0, 0, []),
  (.goto (-22), 0, 77, 0, 0, []),
  (.aload_n 0, 0, 0, 0, 0, []),
  (.getfield 11, 0, 4, 0, 343, []),
  (.iconst 0, 0, 0, 0, 0, []),
  (.aaload, 0, 0, 0, 0, []),
  (.iconst (-1), 0, 0, 0, 0, []),
  (.iconst 0, 0, 0, 0, 0, []),
  (.iconst 1, 0, 0, 0, 0, []),
  (.invokevirtual 66, 0, 104, 1, 336, []),
  (.aload_n 0, 0, 0, 0, 0, []),
  (.iconst 1, 0, 0, 0, 0, []),
  (.putfield 36, 0, 4, 4, 349, []),
  (.return_, 0, 0, 0, 0, [])]
set_option maxRecDepth 20000 in
/-- PhasorTree$Tree.copyFrom(LPhasorTree$Tree;)V -/
def c_T_copyFrom : List Ins := [(.aload_n 0, 0, 0, 0, 0, []),
  (.aload_n 1, 0, 0, 0, 0, []),
  (.getfield 36, 0, 4, 4, 349, []),
  (.putfield 36, 0, 4, 4, 349, []),
  (.aload_n 0, 0, 0, 0, 0, []),
  (.aload_n 1, 0, 0, 0, 0, []),
  (.getfield 40, 0, 4, 5, 351, []),
  (.putfield 40, 0, 4, 5, 351, []),
  (.aload_n 0, 0, 0, 0, 0, []),
  (.aload_n 1, 0, 0, 0, 0, []),
  (.getfield 43, 0, 4, 6, 353, []),
  (.putfield 43, 0, 4, 6, 353, []),
  (.aload_n 0, 0, 0, 0, 0, []),
  (.aload_n 1, 0, 0, 0, 0, []),
  (.getfield 46, 0, 4, 7, 355, []),
  (.putfield 46, 0, 4, 7, 355, []),
  (.aload_n 0, 0, 0, 0, 0, []),
  (.aload_n 1, 0, 0, 0, 0, []),
  (.getfield 49, 0, 4, 8, 357, []),
  (.putfield 49, 0, 4, 8, 357, []),
  (.aload_n 0, 0, 0, 0, 0, []),
  (.getfield 26, 0, 4, 2, 346, []),
  (.aload_n 1, 0, 0, 0, 0, []),
  (.getfield 26, 0, 4, 2, 346, []),
  (.invokevirtual 70, 0, 89, 1, 434, []),
  (.iconst 0, 0, 0, 0, 0, []),
  (.istore_n 2, 0, 0, 0, 0, []),
  (.iload_n 2, 0, 0, 0, 0, []),
  (.aload_n 0, 0, 0, 0, 0, []),
  (.getfield 36, 0, 4, 4, 349, []),
  (.if_icmp .ge 24, 0, 42, 0, 0, []),
  (.aload_n 0, 0, 0, 0, 0, []),
  (.getfield 11, 0, 4, 0, 343, []),
  (.iload_n 2, 0, 0, 0, 0, []),
  (.aaload, 0, 0, 0, 0, []),
  (.aload_n 1, 0, 0, 0, 0, []),
  (.getfield 11, 0, 4, 0, 343, []),
  (.iload_n 2, 0, 0, 0, 0, []),
  (.aaload, 0, 0, 0, 0, []),
  (.invokevirtual 74, 0, 105, 1, 455, []),
  (.iinc 2 1, 0, 0, 0, 0, []),
  (.goto (-26), 0, 27, 0, 0, []),
  (.iconst 0, 0, 0, 0, 0, []),
  (.istore_n 2, 0, 0, 0, 0, []),
  (.iload_n 2, 0, 0, 0, 0, []),
  (.aload_n 0, 0, 0, 0, 0, []),
  (.getfield 40, 0, 4, 5, 351, []),
  (.if_icmp .ge 24, 0, 59, 0, 0, []),
  (.aload_n 0, 0, 0, 0, 0, []),
  (.getfield 19, 0, 4, 1, 345, []),
  (.iload_n 2, 0, 0, 0, 0, []),
  (.aaload, 0, 0, 0, 0, []),
  (.aload_n 1, 0, 0, 0, 0, []),
  (.getfield 19, 0, 4, 1, 345, []),
  (.iload_n 2, 0, 0, 0, 0, []),
  (.aaload, 0, 0, 0, 0, []),
  (.invokevirtual 77, 0, 102, 1, 462, []),
  (.iinc 2 1, 0, 0, 0, 0, []),
  (.goto (-26), 0, 44, 0, 0, []),
  (.iconst 0, 0, 0, 0, 0, []),
  (.istore_n 2, 0, 0, 0, 0, []),
  (.iload_n 2, 0, 0, 0, 0, []),
  (.aload_n 0, 0, 0, 0, 0, []),
  (.invokevirtual 80, 0, 150, 0, 466, []),
  (.if_icmp .ge 24, 0, 76, 0, 0, []),
  (.aload_n 0, 0, 0, 0, 0, []),
  (.getfield 32, 0, 4, 3, 348, []),
  (.iload_n 2, 0, 0, 0, 0, []),
  (.aaload, 0, 0, 0, 0, []),
  (.aload_n 1, 0, 0, 0, 0, []),
  (.getfield 32, 0, 4, 3, 348, []),
  (.iload_n 2, 0, 0, 0, 0, []),
  (.aaload, 0, 0, 0, 0, []),
  (.invokevirtual 84, 0, 82, 1, 473, []),
  (.iinc 2 1, 0, 0, 0, 0, []),
  (.goto (-26), 0, 61, 0, 0, []),
  (.return_, 0, 0, 0, 0, [])]
set_option maxRecDepth 20000 in
/-- PhasorTree$Tree.hasHub(I)Z -/
def c_T_hasHub : List Ins := [(.iload_n 1, 0, 0, 0, 0, []),
  (.iconst 0, 0, 0, 0, 0, []),
  (.aload_n 0, 0, 0, 0, 0, []),
  (.getfield 36, 0, 4, 4, 349, []),
  (.iconst 1, 0, 0, 0, 0, []),
  (.isub, 0, 0, 0, 0, []),
  (.invokestatic 87, 0, 187, 3, 414, []),
  (.ireturn, 0, 0, 0, 0, [])]
set_option maxRecDepth 20000 in
/-- PhasorTree$Tree.hasUnit(I)Z -/
def c_T_hasUnit : List Ins := [(.iload_n 1, 0, 0, 0, 0, []),
  (.iconst 0, 0, 0, 0, 0, []),
  (.aload_n 0, 0, 0, 0, 0, []),
  (.getfield 40, 0, 4, 5, 351, []),
  (.iconst 1, 0, 0, 0, 0, []),
  (.isub, 0, 0, 0, 0, []),
  (.invokestatic 87, 0, 187, 3, 414, []),
  (.ireturn, 0, 0, 0, 0, [])]
set_option maxRecDepth 20000 in
/-- PhasorTree$Tree.joinError(IIZ)I -/
def c_T_joinError : List Ins := [(.aload_n 0, 0, 0, 0, 0, []),
  (.iload_n 1, 0, 0, 0, 0, []),
  (.invokevirtual 91, 0, 111, 0, 410, []),
  (.ifCond .eq 13, 0, 9, 0, 0, []),
  (.iload_n 2, 0, 0, 0, 0, []),
  (.iconst 1, 0, 0, 0, 0, []),
  (.bipush 20, 0, 0, 0, 0, []),
  (.invokestatic 87, 0, 187, 3, 414, []),
  (.ifCond .ne 6, 0, 11, 0, 0, []),
  (.ldc 95, (-1000001), 0, 0, 417, []),
  (.ireturn, 0, 0, 0, 0, []),
  (.iload_n 2, 0, 0, 0, 0, []),
  (.aload_n 0, 0, 0, 0, 0, []),
  (.getfield 11, 0, 4, 0, 343, []),
  (.iload_n 1, 0, 0, 0, 0, []),
  (.aaload, 0, 0, 0, 0, []),
  (.getfield 96, 0, 1, 0, 277, []),
  (.iconst 4, 0, 0, 0, 0, []),
  (.iaload, 0, 0, 0, 0, []),
  (.invokestatic 99, 0, 190, 3, 418, []),
  (.ifCond .ne 6, 0, 23, 0, 0, []),
  (.ldc 103, (-1000002), 0, 0, 424, []),
  (.ireturn, 0, 0, 0, 0, []),
  (.iload_n 3, 0, 0, 0, 0, []),
  (.ifCond .eq 7, 0, 27, 0, 0, []),
  (.iconst 0, 0, 0, 0, 0, []),
  (.goto 5, 0, 28, 0, 0, []),
  (.ldc 104, (-1000003), 0, 0, 425, []),
  (.ireturn, 0, 0, 0, 0, [])]
set_option maxRecDepth 20000 in
/-- PhasorTree$Tree.addHub(II)I -/
def c_T_addHub : List Ins := [(.aload_n 0, 0, 0, 0, 0, []),
  (.getfield 11, 0, 4, 0, 343, []),
  (.aload_n 0, 0, 0, 0, 0, []),
  (.getfield 36, 0, 4, 4, 349, []),
  (.aaload, 0, 0, 0, 0, []),
  (.iload_n 1, 0, 0, 0, 0, []),
  (.aload_n 0, 0, 0, 0, 0, []),
  (.getfield 11, 0, 4, 0, 343, []),
  (.iload_n 1, 0, 0, 0, 0, []),
  (.aaload, 0, 0, 0, 0, []),
  (.getfield 105, 0, 1, 4, 286, []),
  (.iconst 1, 0, 0, 0, 0, []),
  (.iadd, 0, 0, 0, 0, []),
  (.iload_n 2, 0, 0, 0, 0, []),
  (.invokevirtual 66, 0, 104, 1, 336, []),
  (.aload_n 0, 0, 0, 0, 0, []),
  (.dup, 0, 0, 0, 0, []),
  (.getfield 36, 0, 4, 4, 349, []),
  (.dup_x1, 0, 0, 0, 0, []),
  (.iconst 1, 0, 0, 0, 0, []),
  (.iadd, 0, 0, 0, 0, []),
  (.putfield 36, 0, 4, 4, 349, []),
  (.ireturn, 0, 0, 0, 0, [])]
set_option maxRecDepth 20000 in
/-- PhasorTree$Tree.addUnit(II)I -/
def c_T_addUnit : List Ins := [(.aload_n 0, 0, 0, 0, 0, []),
  (.getfield 19, 0, 4, 1, 345, []),
  (.aload_n 0, 0, 0, 0, 0, []),
  (.getfield 40, 0, 4, 5, 351, []),
  (.aaload, 0, 0, 0, 0, []),
  (.iload_n 1, 0, 0, 0, 0, []),
  (.iload_n 2, 0, 0, 0, 0, []),
  (.invokevirtual 108, 0, 101, 1, 486, []),
  (.aload_n 0, 0, 0, 0, 0, []),
  (.dup, 0, 0, 0, 0, []),
  (.getfield 40, 0, 4, 5, 351, []),
  (.dup_x1, 0, 0, 0, 0, []),
  (.iconst 1, 0, 0, 0, 0, []),
  (.iadd, 0, 0, 0, 0, []),
  (.putfield 40, 0, 4, 5, 351, []),
  (.ireturn, 0, 0, 0, 0, [])]
set_option maxRecDepth 20000 in
/-- PhasorTree$Tree.retireError(I)I -/
def c_T_retireError : List Ins := [(.aload_n 0, 0, 0, 0, 0, []),
  (.iload_n 1, 0, 0, 0, 0, []),
  (.invokevirtual 111, 0, 112, 0, 498, []),
  (.ifCond .ne 6, 0, 6, 0, 0, []),
  (.ldc 95, (-1000001), 0, 0, 417, []),
  (.ireturn, 0, 0, 0, 0, []),
  (.aload_n 0, 0, 0, 0, 0, []),
  (.getfield 19, 0, 4, 1, 345, []),
  (.iload_n 1, 0, 0, 0, 0, []),
  (.aaload, 0, 0, 0, 0, []),
  (.getfield 114, 0, 5, 2, 324, []),
  (.ifCond .eq 8, 0, 14, 0, 0, []),
  (.ldc 103, (-1000002), 0, 0, 424, []),
  (.goto 4, 0, 15, 0, 0, []),
  (.iconst 0, 0, 0, 0, 0, []),
  (.ireturn, 0, 0, 0, 0, [])]
set_option maxRecDepth 20000 in
/-- PhasorTree$Tree.retire(I)V -/
def c_T_retire : List Ins := [(.aload_n 0, 0, 0, 0, 0, []),
  (.getfield 19, 0, 4, 1, 345, []),
  (.iload_n 1, 0, 0, 0, 0, []),
  (.aaload, 0, 0, 0, 0, []),
  (.iconst 1, 0, 0, 0, 0, []),
  (.putfield 114, 0, 5, 2, 324, []),
  (.return_, 0, 0, 0, 0, [])]
set_option maxRecDepth 20000 in
/-- PhasorTree$Tree.settingError(III)I -/
def c_T_settingError : List Ins := [(.aload_n 0, 0, 0, 0, 0, []),
  (.iload_n 1, 0, 0, 0, 0, []),
  (.invokevirtual 91, 0, 111, 0, 410, []),
  (.ifCond .eq 29, 0, 18, 0, 0, []),
  (.iload_n 2, 0, 0, 0, 0, []),
  (.iconst 0, 0, 0, 0, 0, []),
  (.iconst 4, 0, 0, 0, 0, []),
  (.invokestatic 87, 0, 187, 3, 414, []),
  (.ifCond .eq 20, 0, 18, 0, 0, []),
  (.iload_n 3, 0, 0, 0, 0, []),
  (.getstatic 118, 0, 0, 0, 526, []),
  (.iload_n 2, 0, 0, 0, 0, []),
  (.iaload, 0, 0, 0, 0, []),
  (.getstatic 121, 0, 1, 0, 528, []),
  (.iload_n 2, 0, 0, 0, 0, []),
  (.iaload, 0, 0, 0, 0, []),
  (.invokestatic 87, 0, 187, 3, 414, []),
  (.ifCond .ne 6, 0, 20, 0, 0, []),
  (.ldc 95, (-1000001), 0, 0, 417, []),
  (.ireturn, 0, 0, 0, 0, []),
  (.iload_n 2, 0, 0, 0, 0, []),
  (.iconst 4, 0, 0, 0, 0, []),
  (.if_icmp .ne 12, 0, 28, 0, 0, []),
  (.aload_n 0, 0, 0, 0, 0, []),
  (.iload_n 1, 0, 0, 0, 0, []),
  (.iload_n 3, 0, 0, 0, 0, []),
  (.invokevirtual 124, 0, 119, 0, 530, []),
  (.ifCond .eq 7, 0, 30, 0, 0, []),
  (.iconst 0, 0, 0, 0, 0, []),
  (.goto 5, 0, 31, 0, 0, []),
  (.ldc 103, (-1000002), 0, 0, 424, []),
  (.ireturn, 0, 0, 0, 0, [])]
set_option maxRecDepth 20000 in
/-- PhasorTree$Tree.canHavePeriod(II)Z -/
def c_T_canHavePeriod : List Ins := [(.aload_n 0, 0, 0, 0, 0, []),
  (.getfield 11, 0, 4, 0, 343, []),
  (.iload_n 1, 0, 0, 0, 0, []),
  (.aaload, 0, 0, 0, 0, []),
  (.getfield 127, 0, 1, 3, 284, []),
  (.istore_n 3, 0, 0, 0, 0, []),
  (.aload_n 0, 0, 0, 0, 0, []),
  (.getfield 11, 0, 4, 0, 343, []),
  (.iload_n 1, 0, 0, 0, 0, []),
  (.aaload, 0, 0, 0, 0, []),
  (.invokevirtual 130, 0, 106, 1, 534, []),
  (.ifCond .ne 5, 0, 14, 0, 0, []),
  (.iconst 0, 0, 0, 0, 0, []),
  (.ireturn, 0, 0, 0, 0, []),
  (.aload_n 0, 0, 0, 0, 0, []),
  (.iload_n 3, 0, 0, 0, 0, []),
  (.invokevirtual 91, 0, 111, 0, 410, []),
  (.ifCond .eq 35, 0, 36, 0, 0, []),
  (.aload_n 0, 0, 0, 0, 0, []),
  (.getfield 11, 0, 4, 0, 343, []),
  (.iload_n 3, 0, 0, 0, 0, []),
  (.aaload, 0, 0, 0, 0, []),
  (.invokevirtual 130, 0, 106, 1, 534, []),
  (.ifCond .eq 21, 0, 34, 0, 0, []),
  (.iload_n 2, 0, 0, 0, 0, []),
  (.aload_n 0, 0, 0, 0, 0, []),
  (.getfield 11, 0, 4, 0, 343, []),
  (.iload_n 3, 0, 0, 0, 0, []),
  (.aaload, 0, 0, 0, 0, []),
  (.getfield 96, 0, 1, 0, 277, []),
  (.iconst 4, 0, 0, 0, 0, []),
  (.iaload, 0, 0, 0, 0, []),
  (.invokestatic 99, 0, 190, 3, 418, []),
  (.ifCond .ne 5, 0, 36, 0, 0, []),
  (.iconst 0, 0, 0, 0, 0, []),
  (.ireturn, 0, 0, 0, 0, []),
  (.iconst 0, 0, 0, 0, 0, []),
  (.istore 4, 0, 0, 0, 0, []),
  (.iload 4, 0, 0, 0, 0, []),
  (.bipush 15, 0, 0, 0, 0, []),
  (.if_icmp .ge 34, 0, 56, 0, 0, []),
  (.aload_n 0, 0, 0, 0, 0, []),
  (.iload 4, 0, 0, 0, 0, []),
  (.iload_n 1, 0, 0, 0, 0, []),
  (.invokevirtual 134, 0, 121, 0, 538, []),
  (.ifCond .eq 18, 0, 54, 0, 0, []),
  (.iload_n 2, 0, 0, 0, 0, []),
  (.aload_n 0, 0, 0, 0, 0, []),
  (.iload 4, 0, 0, 0, 0, []),
  (.invokevirtual 137, 0, 122, 0, 542, []),
  (.invokestatic 99, 0, 190, 3, 418, []),
  (.ifCond .ne 5, 0, 54, 0, 0, []),
  (.iconst 0, 0, 0, 0, 0, []),
  (.ireturn, 0, 0, 0, 0, []),
  (.iinc 4 1, 0, 0, 0, 0, []),
  (.goto (-35), 0, 38, 0, 0, []),
  (.iconst 1, 0, 0, 0, 0, []),
  (.ireturn, 0, 0, 0, 0, [])]
set_option maxRecDepth 20000 in
/-- PhasorTree$Tree.changeSetting(III)I -/
def c_T_changeSetting : List Ins := [(.aload_n 0, 0, 0, 0, 0, []),
  (.getfield 11, 0, 4, 0, 343, []),
  (.iload_n 1, 0, 0, 0, 0, []),
  (.aaload, 0, 0, 0, 0, []),
  (.getfield 96, 0, 1, 0, 277, []),
  (.iload_n 2, 0, 0, 0, 0, []),
  (.iaload, 0, 0, 0, 0, []),
  (.istore 4, 0, 0, 0, 0, []),
  (.aload_n 0, 0, 0, 0, 0, []),
  (.getfield 11, 0, 4, 0, 343, []),
  (.iload_n 1, 0, 0, 0, 0, []),
  (.aaload, 0, 0, 0, 0, []),
  (.getfield 96, 0, 1, 0, 277, []),
  (.iload_n 2, 0, 0, 0, 0, []),
  (.iload_n 3, 0, 0, 0, 0, []),
  (.iastore, 0, 0, 0, 0, []),
  (.iload 4, 0, 0, 0, 0, []),
  (.ireturn, 0, 0, 0, 0, [])]
set_option maxRecDepth 20000 in
/-- PhasorTree$Tree.isChild(II)Z -/
def c_T_isChild : List Ins := [(.iload_n 1, 0, 0, 0, 0, []),
  (.iconst 5, 0, 0, 0, 0, []),
  (.if_icmp .ge 30, 0, 18, 0, 0, []),
  (.iload_n 1, 0, 0, 0, 0, []),
  (.aload_n 0, 0, 0, 0, 0, []),
  (.getfield 36, 0, 4, 4, 349, []),
  (.if_icmp .ge 20, 0, 16, 0, 0, []),
  (.aload_n 0, 0, 0, 0, 0, []),
  (.getfield 11, 0, 4, 0, 343, []),
  (.iload_n 1, 0, 0, 0, 0, []),
  (.aaload, 0, 0, 0, 0, []),
  (.getfield 127, 0, 1, 3, 284, []),
  (.iload_n 2, 0, 0, 0, 0, []),
  (.if_icmp .ne 7, 0, 16, 0, 0, []),
  (.iconst 1, 0, 0, 0, 0, []),
  (.goto 4, 0, 17, 0, 0, []),
  (.iconst 0, 0, 0, 0, 0, []),
  (.ireturn, 0, 0, 0, 0, []),
  (.iload_n 1, 0, 0, 0, 0, []),
  (.iconst 5, 0, 0, 0, 0, []),
  (.isub, 0, 0, 0, 0, []),
  (.istore_n 3, 0, 0, 0, 0, []),
  (.iload_n 3, 0, 0, 0, 0, []),
  (.aload_n 0, 0, 0, 0, 0, []),
  (.getfield 40, 0, 4, 5, 351, []),
  (.if_icmp .ge 32, 0, 41, 0, 0, []),
  (.aload_n 0, 0, 0, 0, 0, []),
  (.getfield 19, 0, 4, 1, 345, []),
  (.iload_n 3, 0, 0, 0, 0, []),
  (.aaload, 0, 0, 0, 0, []),
  (.getfield 141, 0, 5, 0, 320, []),
  (.iload_n 2, 0, 0, 0, 0, []),
  (.if_icmp .ne 19, 0, 41, 0, 0, []),
  (.aload_n 0, 0, 0, 0, 0, []),
  (.getfield 19, 0, 4, 1, 345, []),
  (.iload_n 3, 0, 0, 0, 0, []),
  (.aaload, 0, 0, 0, 0, []),
  (.getfield 114, 0, 5, 2, 324, []),
  (.ifCond .ne 7, 0, 41, 0, 0, []),
  (.iconst 1, 0, 0, 0, 0, []),
  (.goto 4, 0, 42, 0, 0, []),
  (.iconst 0, 0, 0, 0, 0, []),
  (.ireturn, 0, 0, 0, 0, [])]
set_option maxRecDepth 20000 in
/-- PhasorTree$Tree.periodOf(I)I -/
def c_T_periodOf : List Ins := [(.iload_n 1, 0, 0, 0, 0, []),
  (.iconst 5, 0, 0, 0, 0, []),
  (.if_icmp .ge 17, 0, 11, 0, 0, []),
  (.aload_n 0, 0, 0, 0, 0, []),
  (.getfield 11, 0, 4, 0, 343, []),
  (.iload_n 1, 0, 0, 0, 0, []),
  (.aaload, 0, 0, 0, 0, []),
  (.getfield 96, 0, 1, 0, 277, []),
  (.iconst 4, 0, 0, 0, 0, []),
  (.iaload, 0, 0, 0, 0, []),
  (.goto 14, 0, 18, 0, 0, []),
  (.aload_n 0, 0, 0, 0, 0, []),
  (.getfield 19, 0, 4, 1, 345, []),
  (.iload_n 1, 0, 0, 0, 0, []),
  (.iconst 5, 0, 0, 0, 0, []),
  (.isub, 0, 0, 0, 0, []),
  (.aaload, 0, 0, 0, 0, []),
  (.getfield 144, 0, 5, 1, 322, []),
  (.ireturn, 0, 0, 0, 0, [])]
set_option maxRecDepth 20000 in
/-- PhasorTree$Tree.childToward(II)I -/
def c_T_childToward : List Ins := [(.aload_n 0, 0, 0, 0, 0, []),
  (.getfield 19, 0, 4, 1, 345, []),
  (.iload_n 1, 0, 0, 0, 0, []),
  (.aaload, 0, 0, 0, 0, []),
  (.getfield 114, 0, 5, 2, 324, []),
  (.ifCond .eq 5, 0, 8, 0, 0, []),
  (.iconst (-1), 0, 0, 0, 0, []),
  (.ireturn, 0, 0, 0, 0, []),
  (.iconst 5, 0, 0, 0, 0, []),
  (.iload_n 1, 0, 0, 0, 0, []),
  (.iadd, 0, 0, 0, 0, []),
  (.istore_n 3, 0, 0, 0, 0, []),
  (.aload_n 0, 0, 0, 0, 0, []),
  (.getfield 19, 0, 4, 1, 345, []),
  (.iload_n 1, 0, 0, 0, 0, []),
  (.aaload, 0, 0, 0, 0, []),
  (.getfield 141, 0, 5, 0, 320, []),
  (.istore 4, 0, 0, 0, 0, []),
  (.iconst 0, 0, 0, 0, 0, []),
  (.istore 5, 0, 0, 0, 0, []),
  (.iload 5, 0, 0, 0, 0, []),
  (.iconst 5, 0, 0, 0, 0, []),
  (.if_icmp .ge 30, 0, 36, 0, 0, []),
  (.iload 4, 0, 0, 0, 0, []),
  (.iload_n 2, 0, 0, 0, 0, []),
  (.if_icmp .le 24, 0, 36, 0, 0, []),
  (.iload 4, 0, 0, 0, 0, []),
  (.istore_n 3, 0, 0, 0, 0, []),
  (.aload_n 0, 0, 0, 0, 0, []),
  (.getfield 11, 0, 4, 0, 343, []),
  (.iload 4, 0, 0, 0, 0, []),
  (.aaload, 0, 0, 0, 0, []),
  (.getfield 127, 0, 1, 3, 284, []),
  (.istore 4, 0, 0, 0, 0, []),
  (.iinc 5 1, 0, 0, 0, 0, []),
  (.goto (-30), 0, 20, 0, 0, []),
  (.iload 4, 0, 0, 0, 0, []),
  (.iload_n 2, 0, 0, 0, 0, []),
  (.if_icmp .ne 7, 0, 41, 0, 0, []),
  (.iload_n 3, 0, 0, 0, 0, []),
  (.goto 4, 0, 42, 0, 0, []),
  (.iconst (-1), 0, 0, 0, 0, []),
  (.ireturn, 0, 0, 0, 0, [])]
set_option maxRecDepth 20000 in
/-- PhasorTree$Tree.childrenOf(I)I -/
def c_T_childrenOf : List Ins := [(.iconst 0, 0, 0, 0, 0, []),
  (.istore_n 2, 0, 0, 0, 0, []),
  (.iconst 0, 0, 0, 0, 0, []),
  (.istore_n 3, 0, 0, 0, 0, []),
  (.iload_n 3, 0, 0, 0, 0, []),
  (.bipush 15, 0, 0, 0, 0, []),
  (.if_icmp .ge 26, 0, 20, 0, 0, []),
  (.iload_n 2, 0, 0, 0, 0, []),
  (.aload_n 0, 0, 0, 0, 0, []),
  (.iload_n 3, 0, 0, 0, 0, []),
  (.iload_n 1, 0, 0, 0, 0, []),
  (.invokevirtual 134, 0, 121, 0, 538, []),
  (.ifCond .eq 7, 0, 15, 0, 0, []),
  (.iconst 1, 0, 0, 0, 0, []),
  (.goto 4, 0, 16, 0, 0, []),
  (.iconst 0, 0, 0, 0, 0, []),
  (.iadd, 0, 0, 0, 0, []),
  (.istore_n 2, 0, 0, 0, 0, []),
  (.iinc 3 1, 0, 0, 0, 0, []),
  (.goto (-26), 0, 4, 0, 0, []),
  (.iload_n 2, 0, 0, 0, 0, []),
  (.ireturn, 0, 0, 0, 0, [])]
set_option maxRecDepth 20000 in
/-- PhasorTree$Tree.unitsUnder(I)I -/
def c_T_unitsUnder : List Ins := [(.iconst 0, 0, 0, 0, 0, []),
  (.istore_n 2, 0, 0, 0, 0, []),
  (.iconst 0, 0, 0, 0, 0, []),
  (.istore_n 3, 0, 0, 0, 0, []),
  (.iload_n 3, 0, 0, 0, 0, []),
  (.aload_n 0, 0, 0, 0, 0, []),
  (.getfield 40, 0, 4, 5, 351, []),
  (.if_icmp .ge 27, 0, 22, 0, 0, []),
  (.iload_n 2, 0, 0, 0, 0, []),
  (.aload_n 0, 0, 0, 0, 0, []),
  (.iload_n 3, 0, 0, 0, 0, []),
  (.iload_n 1, 0, 0, 0, 0, []),
  (.invokevirtual 147, 0, 123, 0, 514, []),
  (.iconst (-1), 0, 0, 0, 0, []),
  (.if_icmp .ne 7, 0, 17, 0, 0, []),
  (.iconst 0, 0, 0, 0, 0, []),
  (.goto 4, 0, 18, 0, 0, []),
  (.iconst 1, 0, 0, 0, 0, []),
  (.iadd, 0, 0, 0, 0, []),
  (.istore_n 2, 0, 0, 0, 0, []),
  (.iinc 3 1, 0, 0, 0, 0, []),
  (.goto (-29), 0, 4, 0, 0, []),
  (.iload_n 2, 0, 0, 0, 0, []),
  (.ireturn, 0, 0, 0, 0, [])]
set_option maxRecDepth 20000 in
/-- PhasorTree$Tree.unitsLeft()I -/
def c_T_unitsLeft : List Ins := [(.aload_n 0, 0, 0, 0, 0, []),
  (.iconst 0, 0, 0, 0, 0, []),
  (.invokevirtual 151, 0, 125, 0, 510, []),
  (.ireturn, 0, 0, 0, 0, [])]
set_option maxRecDepth 20000 in
/-- PhasorTree$Tree.unitOfHub(II)I -/
def c_T_unitOfHub : List Ins := [(.iconst 0, 0, 0, 0, 0, []),
  (.istore_n 3, 0, 0, 0, 0, []),
  (.iconst 0, 0, 0, 0, 0, []),
  (.istore 4, 0, 0, 0, 0, []),
  (.iload 4, 0, 0, 0, 0, []),
  (.aload_n 0, 0, 0, 0, 0, []),
  (.getfield 40, 0, 4, 5, 351, []),
  (.if_icmp .ge 31, 0, 22, 0, 0, []),
  (.aload_n 0, 0, 0, 0, 0, []),
  (.iload 4, 0, 0, 0, 0, []),
  (.iload_n 1, 0, 0, 0, 0, []),
  (.invokevirtual 147, 0, 123, 0, 514, []),
  (.iconst (-1), 0, 0, 0, 0, []),
  (.if_icmp .eq 14, 0, 20, 0, 0, []),
  (.iload_n 3, 0, 0, 0, 0, []),
  (.iinc 3 1, 0, 0, 0, 0, []),
  (.iload_n 2, 0, 0, 0, 0, []),
  (.if_icmp .ne 6, 0, 20, 0, 0, []),
  (.iload 4, 0, 0, 0, 0, []),
  (.ireturn, 0, 0, 0, 0, []),
  (.iinc 4 1, 0, 0, 0, 0, []),
  (.goto (-34), 0, 4, 0, 0, []),
  (.ldc 154, (-1000004), 0, 0, 561, []),
  (.ireturn, 0, 0, 0, 0, [])]
set_option maxRecDepth 20000 in
/-- PhasorTree$Tree.delayToRoot(I)I -/
def c_T_delayToRoot : List Ins := [(.iconst 0, 0, 0, 0, 0, []),
  (.istore_n 2, 0, 0, 0, 0, []),
  (.iload_n 1, 0, 0, 0, 0, []),
  (.istore_n 3, 0, 0, 0, 0, []),
  (.iconst 0, 0, 0, 0, 0, []),
  (.istore 4, 0, 0, 0, 0, []),
  (.iload 4, 0, 0, 0, 0, []),
  (.iconst 5, 0, 0, 0, 0, []),
  (.if_icmp .ge 37, 0, 29, 0, 0, []),
  (.iload_n 3, 0, 0, 0, 0, []),
  (.ifCond .le 33, 0, 29, 0, 0, []),
  (.iload_n 2, 0, 0, 0, 0, []),
  (.aload_n 0, 0, 0, 0, 0, []),
  (.getfield 11, 0, 4, 0, 343, []),
  (.iload_n 3, 0, 0, 0, 0, []),
  (.aaload, 0, 0, 0, 0, []),
  (.getfield 96, 0, 1, 0, 277, []),
  (.iconst 3, 0, 0, 0, 0, []),
  (.iaload, 0, 0, 0, 0, []),
  (.iadd, 0, 0, 0, 0, []),
  (.istore_n 2, 0, 0, 0, 0, []),
  (.aload_n 0, 0, 0, 0, 0, []),
  (.getfield 11, 0, 4, 0, 343, []),
  (.iload_n 3, 0, 0, 0, 0, []),
  (.aaload, 0, 0, 0, 0, []),
  (.getfield 127, 0, 1, 3, 284, []),
  (.istore_n 3, 0, 0, 0, 0, []),
  (.iinc 4 1, 0, 0, 0, 0, []),
  (.goto (-37), 0, 6, 0, 0, []),
  (.iload_n 2, 0, 0, 0, 0, []),
  (.ireturn, 0, 0, 0, 0, [])]
set_option maxRecDepth 20000 in
/-- PhasorTree$Tree.hubFact(II)I -/
def c_T_hubFact : List Ins := [(.aload_n 0, 0, 0, 0, 0, []),
  (.getfield 11, 0, 4, 0, 343, []),
  (.iload_n 1, 0, 0, 0, 0, []),
  (.aaload, 0, 0, 0, 0, []),
  (.astore_n 3, 0, 0, 0, 0, []),
  (.iload_n 2, 0, 0, 0, 0, []),
  (.tableswitch 141 5 14 #[56, 74, 79, 85, 91, 99, 104, 109, 114, 132], 0, 0, 0, 56, [54, 7, 16, 19, 23, 27, 31, 34, 37, 40, 49]),
  (.aload_n 3, 0, 0, 0, 0, []),
  (.getfield 127, 0, 1, 3, 284, []),
  (.iconst (-1), 0, 0, 0, 0, []),
  (.if_icmp .ne 8, 0, 13, 0, 0, []),
  (.ldc 154, (-1000004), 0, 0, 561, []),
  (.goto 7, 0, 15, 0, 0, []),
  (.aload_n 3, 0, 0, 0, 0, []),
  (.getfield 127, 0, 1, 3, 284, []),
  (.ireturn, 0, 0, 0, 0, []),
  (.aload_n 3, 0, 0, 0, 0, []),
  (.getfield 105, 0, 1, 4, 286, []),
  (.ireturn, 0, 0, 0, 0, []),
  (.aload_n 0, 0, 0, 0, 0, []),
  (.iload_n 1, 0, 0, 0, 0, []),
  (.invokevirtual 155, 0, 124, 0, 562, []),
  (.ireturn, 0, 0, 0, 0, []),
  (.aload_n 0, 0, 0, 0, 0, []),
  (.iload_n 1, 0, 0, 0, 0, []),
  (.invokevirtual 151, 0, 125, 0, 510, []),
  (.ireturn, 0, 0, 0, 0, []),
  (.aload_n 3, 0, 0, 0, 0, []),
  (.getfield 158, 0, 1, 1, 279, []),
  (.invokevirtual 161, 0, 97, 1, 566, []),
  (.ireturn, 0, 0, 0, 0, []),
  (.aload_n 3, 0, 0, 0, 0, []),
  (.getfield 164, 0, 1, 5, 288, []),
  (.ireturn, 0, 0, 0, 0, []),
  (.aload_n 3, 0, 0, 0, 0, []),
  (.getfield 167, 0, 1, 6, 290, []),
  (.ireturn, 0, 0, 0, 0, []),
  (.aload_n 3, 0, 0, 0, 0, []),
  (.getfield 170, 0, 1, 7, 292, []),
  (.ireturn, 0, 0, 0, 0, []),
  (.aload_n 3, 0, 0, 0, 0, []),
  (.getfield 173, 0, 1, 8, 294, []),
  (.iconst (-1), 0, 0, 0, 0, []),
  (.if_icmp .ne 8, 0, 46, 0, 0, []),
  (.ldc 154, (-1000004), 0, 0, 561, []),
  (.goto 7, 0, 48, 0, 0, []),
  (.aload_n 3, 0, 0, 0, 0, []),
  (.getfield 173, 0, 1, 8, 294, []),
  (.ireturn, 0, 0, 0, 0, []),
  (.aload_n 0, 0, 0, 0, 0, []),
  (.getfield 26, 0, 4, 2, 346, []),
  (.iload_n 1, 0, 0, 0, 0, []),
  (.invokevirtual 176, 0, 94, 1, 570, []),
  (.ireturn, 0, 0, 0, 0, []),
  (.iload_n 2, 0, 0, 0, 0, []),
  (.iconst 0, 0, 0, 0, 0, []),
  (.iconst 4, 0, 0, 0, 0, []),
  (.invokestatic 87, 0, 187, 3, 414, []),
  (.ifCond .eq 12, 0, 64, 0, 0, []),
  (.aload_n 3, 0, 0, 0, 0, []),
  (.getfield 96, 0, 1, 0, 277, []),
  (.iload_n 2, 0, 0, 0, 0, []),
  (.iaload, 0, 0, 0, 0, []),
  (.goto 5, 0, 65, 0, 0, []),
  (.ldc 95, (-1000001), 0, 0, 417, []),
  (.ireturn, 0, 0, 0, 0, [])]
set_option maxRecDepth 20000 in
/-- PhasorTree$Tree.unitFact(II)I -/
def c_T_unitFact : List Ins := [(.aload_n 0, 0, 0, 0, 0, []),
  (.getfield 19, 0, 4, 1, 345, []),
  (.iload_n 1, 0, 0, 0, 0, []),
  (.aaload, 0, 0, 0, 0, []),
  (.astore_n 3, 0, 0, 0, 0, []),
  (.iload_n 2, 0, 0, 0, 0, []),
  (.tableswitch 88 0 5 #[40, 45, 50, 63, 68, 79], 0, 0, 0, 40, [35, 7, 10, 13, 20, 23, 30]),
  (.aload_n 3, 0, 0, 0, 0, []),
  (.getfield 141, 0, 5, 0, 320, []),
  (.ireturn, 0, 0, 0, 0, []),
  (.aload_n 3, 0, 0, 0, 0, []),
  (.getfield 144, 0, 5, 1, 322, []),
  (.ireturn, 0, 0, 0, 0, []),
  (.aload_n 3, 0, 0, 0, 0, []),
  (.getfield 114, 0, 5, 2, 324, []),
  (.ifCond .eq 7, 0, 18, 0, 0, []),
  (.iconst 1, 0, 0, 0, 0, []),
  (.goto 4, 0, 19, 0, 0, []),
  (.iconst 0, 0, 0, 0, 0, []),
  (.ireturn, 0, 0, 0, 0, []),
  (.aload_n 3, 0, 0, 0, 0, []),
  (.getfield 179, 0, 5, 3, 326, []),
  (.ireturn, 0, 0, 0, 0, []),
  (.aload_n 0, 0, 0, 0, 0, []),
  (.getfield 26, 0, 4, 2, 346, []),
  (.iconst 5, 0, 0, 0, 0, []),
  (.iload_n 1, 0, 0, 0, 0, []),
  (.iadd, 0, 0, 0, 0, []),
  (.invokevirtual 176, 0, 94, 1, 570, []),
  (.ireturn, 0, 0, 0, 0, []),
  (.aload_n 0, 0, 0, 0, 0, []),
  (.aload_n 3, 0, 0, 0, 0, []),
  (.getfield 141, 0, 5, 0, 320, []),
  (.invokevirtual 182, 0, 128, 0, 583, []),
  (.ireturn, 0, 0, 0, 0, []),
  (.aload_n 0, 0, 0, 0, 0, []),
  (.getfield 11, 0, 4, 0, 343, []),
  (.aload_n 3, 0, 0, 0, 0, []),
  (.getfield 141, 0, 5, 0, 320, []),
  (.aaload, 0, 0, 0, 0, []),
  (.getfield 105, 0, 1, 4, 286, []),
  (.iconst 1, 0, 0, 0, 0, []),
  (.iadd, 0, 0, 0, 0, []),
  (.ireturn, 0, 0, 0, 0, [])]
set_option maxRecDepth 20000 in
/-- PhasorTree$Tree.departError(IIIII)I -/
def c_T_departError : List Ins := [(.aload_n 0, 0, 0, 0, 0, []),
  (.iload_n 1, 0, 0, 0, 0, []),
  (.invokevirtual 111, 0, 112, 0, 498, []),
  (.ifCond .eq 47, 0, 24, 0, 0, []),
  (.iload_n 2, 0, 0, 0, 0, []),
  (.iconst 0, 0, 0, 0, 0, []),
  (.sipush 20000, 0, 0, 0, 0, []),
  (.invokestatic 87, 0, 187, 3, 414, []),
  (.ifCond .eq 36, 0, 24, 0, 0, []),
  (.iload_n 3, 0, 0, 0, 0, []),
  (.ldc 185, (-100000), 0, 0, 603, []),
  (.ldc 186, 100000, 0, 0, 604, []),
  (.invokestatic 87, 0, 187, 3, 414, []),
  (.ifCond .eq 25, 0, 24, 0, 0, []),
  (.iload 4, 0, 0, 0, 0, []),
  (.iconst 0, 0, 0, 0, 0, []),
  (.bipush 15, 0, 0, 0, 0, []),
  (.invokestatic 87, 0, 187, 3, 414, []),
  (.ifCond .eq 14, 0, 24, 0, 0, []),
  (.iload 5, 0, 0, 0, 0, []),
  (.iconst 1, 0, 0, 0, 0, []),
  (.bipush 60, 0, 0, 0, 0, []),
  (.invokestatic 87, 0, 187, 3, 414, []),
  (.ifCond .ne 6, 0, 26, 0, 0, []),
  (.ldc 95, (-1000001), 0, 0, 417, []),
  (.ireturn, 0, 0, 0, 0, []),
  (.aload_n 0, 0, 0, 0, 0, []),
  (.getfield 19, 0, 4, 1, 345, []),
  (.iload_n 1, 0, 0, 0, 0, []),
  (.aaload, 0, 0, 0, 0, []),
  (.getfield 114, 0, 5, 2, 324, []),
  (.ifCond .ne 27, 0, 44, 0, 0, []),
  (.iload_n 2, 0, 0, 0, 0, []),
  (.aload_n 0, 0, 0, 0, 0, []),
  (.getfield 19, 0, 4, 1, 345, []),
  (.iload_n 1, 0, 0, 0, 0, []),
  (.aaload, 0, 0, 0, 0, []),
  (.getfield 144, 0, 5, 1, 322, []),
  (.invokestatic 187, 0, 188, 3, 605, []),
  (.ifCond .eq 11, 0, 44, 0, 0, []),
  (.iload_n 2, 0, 0, 0, 0, []),
  (.aload_n 0, 0, 0, 0, 0, []),
  (.getfield 43, 0, 4, 6, 353, []),
  (.if_icmp .le 6, 0, 46, 0, 0, []),
  (.ldc 103, (-1000002), 0, 0, 424, []),
  (.ireturn, 0, 0, 0, 0, []),
  (.aload_n 0, 0, 0, 0, 0, []),
  (.getfield 26, 0, 4, 2, 346, []),
  (.getfield 190, 0, 3, 1, 216, []),
  (.bipush 40, 0, 0, 0, 0, []),
  (.if_icmp .ge 7, 0, 53, 0, 0, []),
  (.iconst 0, 0, 0, 0, 0, []),
  (.goto 5, 0, 54, 0, 0, []),
  (.ldc 104, (-1000003), 0, 0, 425, []),
  (.ireturn, 0, 0, 0, 0, [])]
set_option maxRecDepth 20000 in
/-- PhasorTree$Tree.depart(IIIII)V -/
def c_T_depart : List Ins := [(.aload_n 0, 0, 0, 0, 0, []),
  (.getfield 53, 0, 4, 9, 358, []),
  (.iconst 5, 0, 0, 0, 0, []),
  (.iload_n 1, 0, 0, 0, 0, []),
  (.iadd, 0, 0, 0, 0, []),
  (.iload_n 2, 0, 0, 0, 0, []),
  (.invokevirtual 193, 0, 83, 1, 610, []),
  (.aload_n 0, 0, 0, 0, 0, []),
  (.getfield 53, 0, 4, 9, 358, []),
  (.iload_n 1, 0, 0, 0, 0, []),
  (.iload_n 3, 0, 0, 0, 0, []),
  (.iload 4, 0, 0, 0, 0, []),
  (.invokevirtual 194, 0, 85, 1, 614, []),
  (.aload_n 0, 0, 0, 0, 0, []),
  (.getfield 53, 0, 4, 9, 358, []),
  (.aload_n 0, 0, 0, 0, 0, []),
  (.getfield 43, 0, 4, 6, 353, []),
  (.iload 5, 0, 0, 0, 0, []),
  (.iadd, 0, 0, 0, 0, []),
  (.putfield 197, 0, 0, 3, 240, []),
  (.aload_n 0, 0, 0, 0, 0, []),
  (.getfield 26, 0, 4, 2, 346, []),
  (.aload_n 0, 0, 0, 0, 0, []),
  (.getfield 26, 0, 4, 2, 346, []),
  (.getfield 190, 0, 3, 1, 216, []),
  (.aload_n 0, 0, 0, 0, 0, []),
  (.getfield 53, 0, 4, 9, 358, []),
  (.invokevirtual 198, 0, 90, 1, 619, []),
  (.aload_n 0, 0, 0, 0, 0, []),
  (.getfield 19, 0, 4, 1, 345, []),
  (.iload_n 1, 0, 0, 0, 0, []),
  (.aaload, 0, 0, 0, 0, []),
  (.dup, 0, 0, 0, 0, []),
  (.getfield 179, 0, 5, 3, 326, []),
  (.iconst 1, 0, 0, 0, 0, []),
  (.iadd, 0, 0, 0, 0, []),
  (.putfield 179, 0, 5, 3, 326, []),
  (.return_, 0, 0, 0, 0, [])]
set_option maxRecDepth 20000 in
/-- PhasorTree$Tree.elapseError(I)I -/
def c_T_elapseError : List Ins := [(.iload_n 1, 0, 0, 0, 0, []),
  (.iconst 1, 0, 0, 0, 0, []),
  (.bipush 100, 0, 0, 0, 0, []),
  (.invokestatic 87, 0, 187, 3, 414, []),
  (.ifCond .ne 6, 0, 7, 0, 0, []),
  (.ldc 95, (-1000001), 0, 0, 417, []),
  (.ireturn, 0, 0, 0, 0, []),
  (.aload_n 0, 0, 0, 0, 0, []),
  (.getfield 43, 0, 4, 6, 353, []),
  (.iload_n 1, 0, 0, 0, 0, []),
  (.iadd, 0, 0, 0, 0, []),
  (.sipush 20000, 0, 0, 0, 0, []),
  (.if_icmp .gt 7, 0, 15, 0, 0, []),
  (.iconst 0, 0, 0, 0, 0, []),
  (.goto 5, 0, 16, 0, 0, []),
  (.ldc 104, (-1000003), 0, 0, 425, []),
  (.ireturn, 0, 0, 0, 0, [])]
set_option maxRecDepth 20000 in
/-- PhasorTree$Tree.elapse(I)V -/
def c_T_elapse : List Ins := [(.iconst 0, 0, 0, 0, 0, []),
  (.istore_n 2, 0, 0, 0, 0, []),
  (.iload_n 2, 0, 0, 0, 0, []),
  (.iload_n 1, 0, 0, 0, 0, []),
  (.if_icmp .ge 73, 0, 39, 0, 0, []),
  (.aload_n 0, 0, 0, 0, 0, []),
  (.dup, 0, 0, 0, 0, []),
  (.getfield 43, 0, 4, 6, 353, []),
  (.iconst 1, 0, 0, 0, 0, []),
  (.iadd, 0, 0, 0, 0, []),
  (.putfield 43, 0, 4, 6, 353, []),
  (.aload_n 0, 0, 0, 0, 0, []),
  (.invokevirtual 202, 0, 135, 0, 632, []),
  (.iconst 4, 0, 0, 0, 0, []),
  (.istore_n 3, 0, 0, 0, 0, []),
  (.iload_n 3, 0, 0, 0, 0, []),
  (.ifCond .lt 47, 0, 37, 0, 0, []),
  (.iconst 0, 0, 0, 0, 0, []),
  (.istore 4, 0, 0, 0, 0, []),
  (.iload 4, 0, 0, 0, 0, []),
  (.aload_n 0, 0, 0, 0, 0, []),
  (.getfield 36, 0, 4, 4, 349, []),
  (.if_icmp .ge 29, 0, 35, 0, 0, []),
  (.aload_n 0, 0, 0, 0, 0, []),
  (.getfield 11, 0, 4, 0, 343, []),
  (.iload 4, 0, 0, 0, 0, []),
  (.aaload, 0, 0, 0, 0, []),
  (.getfield 105, 0, 1, 4, 286, []),
  (.iload_n 3, 0, 0, 0, 0, []),
  (.if_icmp .ne 9, 0, 33, 0, 0, []),
  (.aload_n 0, 0, 0, 0, 0, []),
  (.iload 4, 0, 0, 0, 0, []),
  (.invokevirtual 205, 0, 141, 0, 659, []),
  (.iinc 4 1, 0, 0, 0, 0, []),
  (.goto (-32), 0, 19, 0, 0, []),
  (.iinc 3 (-1), 0, 0, 0, 0, []),
  (.goto (-45), 0, 15, 0, 0, []),
  (.iinc 2 1, 0, 0, 0, 0, []),
  (.goto (-72), 0, 2, 0, 0, []),
  (.return_, 0, 0, 0, 0, [])]
set_option maxRecDepth 20000 in
/-- PhasorTree$Tree.bringDueFrames()V -/
def c_T_bringDueFrames : List Ins := [(.iconst 0, 0, 0, 0, 0, []),
  (.istore_n 1, 0, 0, 0, 0, []),
  (.iconst 0, 0, 0, 0, 0, []),
  (.istore_n 2, 0, 0, 0, 0, []),
  (.iload_n 2, 0, 0, 0, 0, []),
  (.aload_n 0, 0, 0, 0, 0, []),
  (.getfield 26, 0, 4, 2, 346, []),
  (.getfield 190, 0, 3, 1, 216, []),
  (.if_icmp .ge 56, 0, 34, 0, 0, []),
  (.aload_n 0, 0, 0, 0, 0, []),
  (.getfield 26, 0, 4, 2, 346, []),
  (.getfield 209, 0, 3, 0, 212, []),
  (.iload_n 2, 0, 0, 0, 0, []),
  (.aaload, 0, 0, 0, 0, []),
  (.getfield 197, 0, 0, 3, 240, []),
  (.aload_n 0, 0, 0, 0, 0, []),
  (.getfield 43, 0, 4, 6, 353, []),
  (.if_icmp .gt 19, 0, 26, 0, 0, []),
  (.aload_n 0, 0, 0, 0, 0, []),
  (.aload_n 0, 0, 0, 0, 0, []),
  (.getfield 26, 0, 4, 2, 346, []),
  (.getfield 209, 0, 3, 0, 212, []),
  (.iload_n 2, 0, 0, 0, 0, []),
  (.aaload, 0, 0, 0, 0, []),
  (.invokevirtual 212, 0, 136, 0, 636, []),
  (.goto 15, 0, 32, 0, 0, []),
  (.aload_n 0, 0, 0, 0, 0, []),
  (.getfield 26, 0, 4, 2, 346, []),
  (.iload_n 1, 0, 0, 0, 0, []),
  (.iload_n 2, 0, 0, 0, 0, []),
  (.invokevirtual 215, 0, 92, 1, 655, []),
  (.iinc 1 1, 0, 0, 0, 0, []),
  (.iinc 2 1, 0, 0, 0, 0, []),
  (.goto (-61), 0, 4, 0, 0, []),
  (.aload_n 0, 0, 0, 0, 0, []),
  (.getfield 26, 0, 4, 2, 346, []),
  (.iload_n 1, 0, 0, 0, 0, []),
  (.putfield 190, 0, 3, 1, 216, []),
  (.return_, 0, 0, 0, 0, [])]
set_option maxRecDepth 20000 in
/-- PhasorTree$Tree.arrive(LPhasorTree$Frame;)V -/
def c_T_arrive : List Ins := [(.aload_n 1, 0, 0, 0, 0, []),
  (.getfield 218, 0, 0, 0, 230, []),
  (.istore_n 2, 0, 0, 0, 0, []),
  (.iload_n 2, 0, 0, 0, 0, []),
  (.iconst 5, 0, 0, 0, 0, []),
  (.if_icmp .lt 7, 0, 8, 0, 0, []),
  (.iconst 1, 0, 0, 0, 0, []),
  (.goto 4, 0, 9, 0, 0, []),
  (.iconst 0, 0, 0, 0, 0, []),
  (.istore_n 3, 0, 0, 0, 0, []),
  (.iload_n 3, 0, 0, 0, 0, []),
  (.ifCond .eq 21, 0, 22, 0, 0, []),
  (.aload_n 0, 0, 0, 0, 0, []),
  (.getfield 19, 0, 4, 1, 345, []),
  (.iload_n 2, 0, 0, 0, 0, []),
  (.iconst 5, 0, 0, 0, 0, []),
  (.isub, 0, 0, 0, 0, []),
  (.aaload, 0, 0, 0, 0, []),
  (.getfield 114, 0, 5, 2, 324, []),
  (.ifCond .eq 7, 0, 22, 0, 0, []),
  (.iconst 1, 0, 0, 0, 0, []),
  (.goto 4, 0, 23, 0, 0, []),
  (.iconst 0, 0, 0, 0, 0, []),
  (.istore 4, 0, 0, 0, 0, []),
  (.aload_n 0, 0, 0, 0, 0, []),
  (.getfield 11, 0, 4, 0, 343, []),
  (.iload_n 3, 0, 0, 0, 0, []),
  (.ifCond .eq 17, 0, 36, 0, 0, []),
  (.aload_n 0, 0, 0, 0, 0, []),
  (.getfield 19, 0, 4, 1, 345, []),
  (.iload_n 2, 0, 0, 0, 0, []),
  (.iconst 5, 0, 0, 0, 0, []),
  (.isub, 0, 0, 0, 0, []),
  (.aaload, 0, 0, 0, 0, []),
  (.getfield 141, 0, 5, 0, 320, []),
  (.goto 12, 0, 41, 0, 0, []),
  (.aload_n 0, 0, 0, 0, 0, []),
  (.getfield 11, 0, 4, 0, 343, []),
  (.iload_n 2, 0, 0, 0, 0, []),
  (.aaload, 0, 0, 0, 0, []),
  (.getfield 127, 0, 1, 3, 284, []),
  (.aaload, 0, 0, 0, 0, []),
  (.astore 5, 0, 0, 0, 0, []),
  (.aload 5, 0, 0, 0, 0, []),
  (.aload_n 1, 0, 0, 0, 0, []),
  (.getfield 221, 0, 0, 1, 233, []),
  (.aload_n 0, 0, 0, 0, 0, []),
  (.iload_n 2, 0, 0, 0, 0, []),
  (.invokevirtual 137, 0, 122, 0, 542, []),
  (.invokevirtual 224, 0, 107, 1, 640, []),
  (.istore 6, 0, 0, 0, 0, []),
  (.iload 4, 0, 0, 0, 0, []),
  (.ifCond .ne 13, 0, 57, 0, 0, []),
  (.iload 6, 0, 0, 0, 0, []),
  (.aload 5, 0, 0, 0, 0, []),
  (.getfield 173, 0, 1, 8, 294, []),
  (.if_icmp .gt 17, 0, 64, 0, 0, []),
  (.aload 5, 0, 0, 0, 0, []),
  (.dup, 0, 0, 0, 0, []),
  (.getfield 167, 0, 1, 6, 290, []),
  (.iconst 1, 0, 0, 0, 0, []),
  (.iadd, 0, 0, 0, 0, []),
  (.putfield 167, 0, 1, 6, 290, []),
  (.goto 64, 0, 92, 0, 0, []),
  (.aload 5, 0, 0, 0, 0, []),
  (.getfield 158, 0, 1, 1, 279, []),
  (.iload 6, 0, 0, 0, 0, []),
  (.aload_n 1, 0, 0, 0, 0, []),
  (.invokevirtual 227, 0, 99, 1, 647, []),
  (.ifCond .eq 17, 0, 77, 0, 0, []),
  (.aload 5, 0, 0, 0, 0, []),
  (.dup, 0, 0, 0, 0, []),
  (.getfield 170, 0, 1, 7, 292, []),
  (.iconst 1, 0, 0, 0, 0, []),
  (.iadd, 0, 0, 0, 0, []),
  (.putfield 170, 0, 1, 7, 292, []),
  (.goto 36, 0, 92, 0, 0, []),
  (.aload_n 1, 0, 0, 0, 0, []),
  (.iload 6, 0, 0, 0, 0, []),
  (.putfield 231, 0, 0, 2, 237, []),
  (.aload_n 1, 0, 0, 0, 0, []),
  (.aload_n 0, 0, 0, 0, 0, []),
  (.getfield 43, 0, 4, 6, 353, []),
  (.putfield 197, 0, 0, 3, 240, []),
  (.aload 5, 0, 0, 0, 0, []),
  (.getfield 158, 0, 1, 1, 279, []),
  (.aload 5, 0, 0, 0, 0, []),
  (.getfield 158, 0, 1, 1, 279, []),
  (.iload 6, 0, 0, 0, 0, []),
  (.invokevirtual 234, 0, 98, 1, 651, []),
  (.aload_n 1, 0, 0, 0, 0, []),
  (.invokevirtual 198, 0, 90, 1, 619, []),
  (.return_, 0, 0, 0, 0, [])]
set_option maxRecDepth 20000 in
/-- PhasorTree$Tree.expectedOf(III)I -/
def c_T_expectedOf : List Ins := [(.aload_n 0, 0, 0, 0, 0, []),
  (.getfield 11, 0, 4, 0, 343, []),
  (.iload_n 2, 0, 0, 0, 0, []),
  (.aaload, 0, 0, 0, 0, []),
  (.getfield 96, 0, 1, 0, 277, []),
  (.iconst 4, 0, 0, 0, 0, []),
  (.iaload, 0, 0, 0, 0, []),
  (.istore 4, 0, 0, 0, 0, []),
  (.aload_n 0, 0, 0, 0, 0, []),
  (.iload_n 1, 0, 0, 0, 0, []),
  (.invokevirtual 137, 0, 122, 0, 542, []),
  (.istore 5, 0, 0, 0, 0, []),
  (.iload 5, 0, 0, 0, 0, []),
  (.iload 4, 0, 0, 0, 0, []),
  (.if_icmp .gt 11, 0, 19, 0, 0, []),
  (.iload 4, 0, 0, 0, 0, []),
  (.iload 5, 0, 0, 0, 0, []),
  (.invokestatic 237, 0, 189, 3, 687, []),
  (.ireturn, 0, 0, 0, 0, []),
  (.iload_n 3, 0, 0, 0, 0, []),
  (.iload 5, 0, 0, 0, 0, []),
  (.invokestatic 187, 0, 188, 3, 605, []),
  (.ifCond .eq 7, 0, 25, 0, 0, []),
  (.iconst 1, 0, 0, 0, 0, []),
  (.goto 4, 0, 26, 0, 0, []),
  (.iconst 0, 0, 0, 0, 0, []),
  (.ireturn, 0, 0, 0, 0, [])]
set_option maxRecDepth 20000 in
/-- PhasorTree$Tree.expectedOfAll(II)I -/
def c_T_expectedOfAll : List Ins := [(.iconst 0, 0, 0, 0, 0, []),
  (.istore_n 3, 0, 0, 0, 0, []),
  (.iconst 0, 0, 0, 0, 0, []),
  (.istore 4, 0, 0, 0, 0, []),
  (.iload 4, 0, 0, 0, 0, []),
  (.bipush 15, 0, 0, 0, 0, []),
  (.if_icmp .ge 34, 0, 24, 0, 0, []),
  (.iload_n 3, 0, 0, 0, 0, []),
  (.aload_n 0, 0, 0, 0, 0, []),
  (.iload 4, 0, 0, 0, 0, []),
  (.iload_n 1, 0, 0, 0, 0, []),
  (.invokevirtual 134, 0, 121, 0, 538, []),
  (.ifCond .eq 14, 0, 19, 0, 0, []),
  (.aload_n 0, 0, 0, 0, 0, []),
  (.iload 4, 0, 0, 0, 0, []),
  (.iload_n 1, 0, 0, 0, 0, []),
  (.iload_n 2, 0, 0, 0, 0, []),
  (.invokevirtual 240, 0, 137, 0, 683, []),
  (.goto 4, 0, 20, 0, 0, []),
  (.iconst 0, 0, 0, 0, 0, []),
  (.iadd, 0, 0, 0, 0, []),
  (.istore_n 3, 0, 0, 0, 0, []),
  (.iinc 4 1, 0, 0, 0, 0, []),
  (.goto (-35), 0, 4, 0, 0, []),
  (.iload_n 3, 0, 0, 0, 0, []),
  (.ireturn, 0, 0, 0, 0, [])]
set_option maxRecDepth 20000 in
/-- PhasorTree$Tree.isComplete(III)Z -/
def c_T_isComplete : List Ins := [(.aload_n 0, 0, 0, 0, 0, []),
  (.getfield 11, 0, 4, 0, 343, []),
  (.iload_n 1, 0, 0, 0, 0, []),
  (.aaload, 0, 0, 0, 0, []),
  (.getfield 158, 0, 1, 1, 279, []),
  (.astore 4, 0, 0, 0, 0, []),
  (.aload_n 0, 0, 0, 0, 0, []),
  (.getfield 57, 0, 4, 10, 359, []),
  (.iconst 0, 0, 0, 0, 0, []),
  (.invokestatic 244, 0, 191, 2, 682, []),
  (.iload_n 2, 0, 0, 0, 0, []),
  (.istore 5, 0, 0, 0, 0, []),
  (.iload 5, 0, 0, 0, 0, []),
  (.iload_n 3, 0, 0, 0, 0, []),
  (.if_icmp .ge 29, 0, 29, 0, 0, []),
  (.aload_n 0, 0, 0, 0, 0, []),
  (.getfield 57, 0, 4, 10, 359, []),
  (.aload 4, 0, 0, 0, 0, []),
  (.getfield 209, 0, 3, 0, 212, []),
  (.iload 5, 0, 0, 0, 0, []),
  (.aaload, 0, 0, 0, 0, []),
  (.getfield 218, 0, 0, 0, 230, []),
  (.dup2, 0, 0, 0, 0, []),
  (.iaload, 0, 0, 0, 0, []),
  (.iconst 1, 0, 0, 0, 0, []),
  (.iadd, 0, 0, 0, 0, []),
  (.iastore, 0, 0, 0, 0, []),
  (.iinc 5 1, 0, 0, 0, 0, []),
  (.goto (-29), 0, 12, 0, 0, []),
  (.iconst 0, 0, 0, 0, 0, []),
  (.istore 5, 0, 0, 0, 0, []),
  (.iload 5, 0, 0, 0, 0, []),
  (.bipush 15, 0, 0, 0, 0, []),
  (.if_icmp .ge 48, 0, 57, 0, 0, []),
  (.aload_n 0, 0, 0, 0, 0, []),
  (.iload 5, 0, 0, 0, 0, []),
  (.iload_n 1, 0, 0, 0, 0, []),
  (.invokevirtual 134, 0, 121, 0, 538, []),
  (.ifCond .eq 32, 0, 55, 0, 0, []),
  (.aload_n 0, 0, 0, 0, 0, []),
  (.getfield 57, 0, 4, 10, 359, []),
  (.iload 5, 0, 0, 0, 0, []),
  (.iaload, 0, 0, 0, 0, []),
  (.aload_n 0, 0, 0, 0, 0, []),
  (.iload 5, 0, 0, 0, 0, []),
  (.iload_n 1, 0, 0, 0, 0, []),
  (.aload 4, 0, 0, 0, 0, []),
  (.getfield 209, 0, 3, 0, 212, []),
  (.iload_n 2, 0, 0, 0, 0, []),
  (.aaload, 0, 0, 0, 0, []),
  (.getfield 231, 0, 0, 2, 237, []),
  (.invokevirtual 240, 0, 137, 0, 683, []),
  (.if_icmp .ge 5, 0, 55, 0, 0, []),
  (.iconst 0, 0, 0, 0, 0, []),
  (.ireturn, 0, 0, 0, 0, []),
  (.iinc 5 1, 0, 0, 0, 0, []),
  (.goto (-49), 0, 31, 0, 0, []),
  (.iconst 1, 0, 0, 0, 0, []),
  (.ireturn, 0, 0, 0, 0, [])]
set_option maxRecDepth 20000 in
/-- PhasorTree$Tree.isFirstSlotReady(I)Z -/
def c_T_isFirstSlotReady : List Ins := [(.aload_n 0, 0, 0, 0, 0, []),
  (.getfield 11, 0, 4, 0, 343, []),
  (.iload_n 1, 0, 0, 0, 0, []),
  (.aaload, 0, 0, 0, 0, []),
  (.getfield 158, 0, 1, 1, 279, []),
  (.astore_n 2, 0, 0, 0, 0, []),
  (.aload_n 2, 0, 0, 0, 0, []),
  (.getfield 190, 0, 3, 1, 216, []),
  (.ifCond .le 38, 0, 28, 0, 0, []),
  (.aload_n 0, 0, 0, 0, 0, []),
  (.getfield 11, 0, 4, 0, 343, []),
  (.iload_n 1, 0, 0, 0, 0, []),
  (.aaload, 0, 0, 0, 0, []),
  (.iconst 0, 0, 0, 0, 0, []),
  (.aload_n 0, 0, 0, 0, 0, []),
  (.getfield 43, 0, 4, 6, 353, []),
  (.invokevirtual 250, 0, 108, 1, 667, []),
  (.ifCond .eq 17, 0, 26, 0, 0, []),
  (.aload_n 0, 0, 0, 0, 0, []),
  (.iload_n 1, 0, 0, 0, 0, []),
  (.iconst 0, 0, 0, 0, 0, []),
  (.aload_n 2, 0, 0, 0, 0, []),
  (.iconst 0, 0, 0, 0, 0, []),
  (.invokevirtual 253, 0, 95, 1, 674, []),
  (.invokevirtual 256, 0, 139, 0, 678, []),
  (.ifCond .eq 7, 0, 28, 0, 0, []),
  (.iconst 1, 0, 0, 0, 0, []),
  (.goto 4, 0, 29, 0, 0, []),
  (.iconst 0, 0, 0, 0, 0, []),
  (.ireturn, 0, 0, 0, 0, [])]
set_option maxRecDepth 20000 in
/-- PhasorTree$Tree.releaseReadySlots(I)V -/
def c_T_releaseReadySlots : List Ins := [(.aload_n 0, 0, 0, 0, 0, []),
  (.getfield 11, 0, 4, 0, 343, []),
  (.iload_n 1, 0, 0, 0, 0, []),
  (.aaload, 0, 0, 0, 0, []),
  (.astore_n 2, 0, 0, 0, 0, []),
  (.aload_n 2, 0, 0, 0, 0, []),
  (.getfield 158, 0, 1, 1, 279, []),
  (.getfield 190, 0, 3, 1, 216, []),
  (.istore_n 3, 0, 0, 0, 0, []),
  (.iload_n 3, 0, 0, 0, 0, []),
  (.ifCond .le 125, 0, 71, 0, 0, []),
  (.aload_n 0, 0, 0, 0, 0, []),
  (.iload_n 1, 0, 0, 0, 0, []),
  (.invokevirtual 259, 0, 140, 0, 663, []),
  (.ifCond .eq 117, 0, 71, 0, 0, []),
  (.aload_n 0, 0, 0, 0, 0, []),
  (.iload_n 1, 0, 0, 0, 0, []),
  (.invokevirtual 262, 0, 143, 0, 688, []),
  (.aload_n 2, 0, 0, 0, 0, []),
  (.getfield 158, 0, 1, 1, 279, []),
  (.aload_n 2, 0, 0, 0, 0, []),
  (.getfield 158, 0, 1, 1, 279, []),
  (.iconst 0, 0, 0, 0, 0, []),
  (.invokevirtual 253, 0, 95, 1, 674, []),
  (.invokevirtual 265, 0, 93, 1, 716, []),
  (.aload_n 2, 0, 0, 0, 0, []),
  (.dup, 0, 0, 0, 0, []),
  (.getfield 164, 0, 1, 5, 288, []),
  (.iconst 1, 0, 0, 0, 0, []),
  (.iadd, 0, 0, 0, 0, []),
  (.putfield 164, 0, 1, 5, 288, []),
  (.aload_n 2, 0, 0, 0, 0, []),
  (.aload_n 0, 0, 0, 0, 0, []),
  (.getfield 53, 0, 4, 9, 358, []),
  (.getfield 221, 0, 0, 1, 233, []),
  (.putfield 173, 0, 1, 8, 294, []),
  (.iload_n 1, 0, 0, 0, 0, []),
  (.ifCond .ne 10, 0, 41, 0, 0, []),
  (.aload_n 0, 0, 0, 0, 0, []),
  (.invokevirtual 268, 0, 142, 0, 721, []),
  (.goto 59, 0, 69, 0, 0, []),
  (.aload_n 2, 0, 0, 0, 0, []),
  (.getfield 96, 0, 1, 0, 277, []),
  (.iconst 3, 0, 0, 0, 0, []),
  (.iaload, 0, 0, 0, 0, []),
  (.ifCond .ne 14, 0, 51, 0, 0, []),
  (.aload_n 0, 0, 0, 0, 0, []),
  (.aload_n 0, 0, 0, 0, 0, []),
  (.getfield 53, 0, 4, 9, 358, []),
  (.invokevirtual 212, 0, 136, 0, 636, []),
  (.goto 39, 0, 69, 0, 0, []),
  (.aload_n 0, 0, 0, 0, 0, []),
  (.getfield 53, 0, 4, 9, 358, []),
  (.aload_n 0, 0, 0, 0, 0, []),
  (.getfield 43, 0, 4, 6, 353, []),
  (.aload_n 2, 0, 0, 0, 0, []),
  (.getfield 96, 0, 1, 0, 277, []),
  (.iconst 3, 0, 0, 0, 0, []),
  (.iaload, 0, 0, 0, 0, []),
  (.iadd, 0, 0, 0, 0, []),
  (.putfield 197, 0, 0, 3, 240, []),
  (.aload_n 0, 0, 0, 0, 0, []),
  (.getfield 26, 0, 4, 2, 346, []),
  (.aload_n 0, 0, 0, 0, 0, []),
  (.getfield 26, 0, 4, 2, 346, []),
  (.getfield 190, 0, 3, 1, 216, []),
  (.aload_n 0, 0, 0, 0, 0, []),
  (.getfield 53, 0, 4, 9, 358, []),
  (.invokevirtual 198, 0, 90, 1, 619, []),
  (.iinc 3 (-1), 0, 0, 0, 0, []),
  (.goto (-123), 0, 9, 0, 0, []),
  (.return_, 0, 0, 0, 0, [])]
set_option maxRecDepth 20000 in
/-- PhasorTree$Tree.putOut()V -/
def c_T_putOut : List Ins := [(.aload_n 0, 0, 0, 0, 0, []),
  (.getfield 43, 0, 4, 6, 353, []),
  (.aload_n 0, 0, 0, 0, 0, []),
  (.getfield 53, 0, 4, 9, 358, []),
  (.getfield 221, 0, 0, 1, 233, []),
  (.isub, 0, 0, 0, 0, []),
  (.istore_n 1, 0, 0, 0, 0, []),
  (.aload_n 0, 0, 0, 0, 0, []),
  (.aload_n 0, 0, 0, 0, 0, []),
  (.getfield 46, 0, 4, 7, 355, []),
  (.ifCond .ne 7, 0, 13, 0, 0, []),
  (.iload_n 1, 0, 0, 0, 0, []),
  (.goto 11, 0, 17, 0, 0, []),
  (.aload_n 0, 0, 0, 0, 0, []),
  (.getfield 49, 0, 4, 8, 357, []),
  (.iload_n 1, 0, 0, 0, 0, []),
  (.invokestatic 271, 0, 0, 8, 725, []),
  (.putfield 49, 0, 4, 8, 357, []),
  (.aload_n 0, 0, 0, 0, 0, []),
  (.getfield 53, 0, 4, 9, 358, []),
  (.aload_n 0, 0, 0, 0, 0, []),
  (.getfield 43, 0, 4, 6, 353, []),
  (.putfield 197, 0, 0, 3, 240, []),
  (.aload_n 0, 0, 0, 0, 0, []),
  (.getfield 32, 0, 4, 3, 348, []),
  (.aload_n 0, 0, 0, 0, 0, []),
  (.getfield 46, 0, 4, 7, 355, []),
  (.bipush 8, 0, 0, 0, 0, []),
  (.irem, 0, 0, 0, 0, []),
  (.aaload, 0, 0, 0, 0, []),
  (.aload_n 0, 0, 0, 0, 0, []),
  (.getfield 53, 0, 4, 9, 358, []),
  (.invokevirtual 84, 0, 82, 1, 473, []),
  (.aload_n 0, 0, 0, 0, 0, []),
  (.dup, 0, 0, 0, 0, []),
  (.getfield 46, 0, 4, 7, 355, []),
  (.iconst 1, 0, 0, 0, 0, []),
  (.iadd, 0, 0, 0, 0, []),
  (.putfield 46, 0, 4, 7, 355, []),
  (.return_, 0, 0, 0, 0, [])]
set_option maxRecDepth 20000 in
/-- PhasorTree$Tree.build(I)V -/
def c_T_build : List Ins := [(.aload_n 0, 0, 0, 0, 0, []),
  (.getfield 11, 0, 4, 0, 343, []),
  (.iload_n 1, 0, 0, 0, 0, []),
  (.aaload, 0, 0, 0, 0, []),
  (.astore_n 2, 0, 0, 0, 0, []),
  (.aload_n 0, 0, 0, 0, 0, []),
  (.getfield 53, 0, 4, 9, 358, []),
  (.iload_n 1, 0, 0, 0, 0, []),
  (.aload_n 2, 0, 0, 0, 0, []),
  (.getfield 158, 0, 1, 1, 279, []),
  (.getfield 209, 0, 3, 0, 212, []),
  (.iconst 0, 0, 0, 0, 0, []),
  (.aaload, 0, 0, 0, 0, []),
  (.getfield 231, 0, 0, 2, 237, []),
  (.invokevirtual 193, 0, 83, 1, 610, []),
  (.iconst 0, 0, 0, 0, 0, []),
  (.istore_n 3, 0, 0, 0, 0, []),
  (.iload_n 3, 0, 0, 0, 0, []),
  (.aload_n 0, 0, 0, 0, 0, []),
  (.getfield 40, 0, 4, 5, 351, []),
  (.if_icmp .ge 154, 0, 98, 0, 0, []),
  (.aload_n 0, 0, 0, 0, 0, []),
  (.iload_n 3, 0, 0, 0, 0, []),
  (.iload_n 1, 0, 0, 0, 0, []),
  (.invokevirtual 147, 0, 123, 0, 514, []),
  (.istore 4, 0, 0, 0, 0, []),
  (.iload 4, 0, 0, 0, 0, []),
  (.iconst (-1), 0, 0, 0, 0, []),
  (.if_icmp .ne 6, 0, 30, 0, 0, []),
  (.goto 131, 0, 96, 0, 0, []),
  (.aload_n 0, 0, 0, 0, 0, []),
  (.iload 4, 0, 0, 0, 0, []),
  (.iload_n 1, 0, 0, 0, 0, []),
  (.aload_n 0, 0, 0, 0, 0, []),
  (.getfield 53, 0, 4, 9, 358, []),
  (.getfield 221, 0, 0, 1, 233, []),
  (.invokevirtual 240, 0, 137, 0, 683, []),
  (.ifCond .ne 15, 0, 44, 0, 0, []),
  (.aload_n 0, 0, 0, 0, 0, []),
  (.iload_n 3, 0, 0, 0, 0, []),
  (.aload_n 2, 0, 0, 0, 0, []),
  (.getfield 276, 0, 1, 2, 282, []),
  (.invokevirtual 279, 0, 144, 0, 692, []),
  (.goto 49, 0, 69, 0, 0, []),
  (.aload_n 2, 0, 0, 0, 0, []),
  (.getfield 96, 0, 1, 0, 277, []),
  (.iconst 2, 0, 0, 0, 0, []),
  (.iaload, 0, 0, 0, 0, []),
  (.ifCond .eq 29, 0, 63, 0, 0, []),
  (.aload_n 0, 0, 0, 0, 0, []),
  (.iload 4, 0, 0, 0, 0, []),
  (.invokevirtual 137, 0, 122, 0, 542, []),
  (.aload_n 2, 0, 0, 0, 0, []),
  (.getfield 96, 0, 1, 0, 277, []),
  (.iconst 4, 0, 0, 0, 0, []),
  (.iaload, 0, 0, 0, 0, []),
  (.if_icmp .ge 14, 0, 63, 0, 0, []),
  (.aload_n 0, 0, 0, 0, 0, []),
  (.iload_n 3, 0, 0, 0, 0, []),
  (.iload 4, 0, 0, 0, 0, []),
  (.iload_n 1, 0, 0, 0, 0, []),
  (.invokevirtual 282, 0, 146, 0, 700, []),
  (.goto 14, 0, 69, 0, 0, []),
  (.aload_n 0, 0, 0, 0, 0, []),
  (.iload_n 3, 0, 0, 0, 0, []),
  (.iload 4, 0, 0, 0, 0, []),
  (.aload_n 2, 0, 0, 0, 0, []),
  (.getfield 158, 0, 1, 1, 279, []),
  (.invokevirtual 285, 0, 145, 0, 712, []),
  (.aload_n 0, 0, 0, 0, 0, []),
  (.getfield 53, 0, 4, 9, 358, []),
  (.iload_n 3, 0, 0, 0, 0, []),
  (.invokevirtual 289, 0, 84, 1, 696, []),
  (.ifCond .eq 32, 0, 89, 0, 0, []),
  (.aload_n 2, 0, 0, 0, 0, []),
  (.getfield 276, 0, 1, 2, 282, []),
  (.iload_n 3, 0, 0, 0, 0, []),
  (.aload_n 0, 0, 0, 0, 0, []),
  (.getfield 53, 0, 4, 9, 358, []),
  (.getfield 292, 0, 0, 6, 247, []),
  (.iload_n 3, 0, 0, 0, 0, []),
  (.iaload, 0, 0, 0, 0, []),
  (.aload_n 0, 0, 0, 0, 0, []),
  (.getfield 53, 0, 4, 9, 358, []),
  (.getfield 295, 0, 0, 7, 249, []),
  (.iload_n 3, 0, 0, 0, 0, []),
  (.iaload, 0, 0, 0, 0, []),
  (.invokevirtual 194, 0, 85, 1, 614, []),
  (.goto 16, 0, 96, 0, 0, []),
  (.aload_n 0, 0, 0, 0, 0, []),
  (.getfield 53, 0, 4, 9, 358, []),
  (.dup, 0, 0, 0, 0, []),
  (.getfield 298, 0, 0, 4, 242, []),
  (.iconst 1, 0, 0, 0, 0, []),
  (.iadd, 0, 0, 0, 0, []),
  (.putfield 298, 0, 0, 4, 242, []),
  (.iinc 3 1, 0, 0, 0, 0, []),
  (.goto (-156), 0, 17, 0, 0, []),
  (.return_, 0, 0, 0, 0, [])]
set_option maxRecDepth 20000 in
/-- PhasorTree$Tree.takeHeld(ILPhasorTree$Frame;)V -/
def c_T_takeHeld : List Ins := [(.aload_n 2, 0, 0, 0, 0, []),
  (.iload_n 1, 0, 0, 0, 0, []),
  (.invokevirtual 289, 0, 84, 1, 696, []),
  (.ifCond .eq 27, 0, 18, 0, 0, []),
  (.aload_n 0, 0, 0, 0, 0, []),
  (.getfield 53, 0, 4, 9, 358, []),
  (.iload_n 1, 0, 0, 0, 0, []),
  (.aload_n 2, 0, 0, 0, 0, []),
  (.getfield 292, 0, 0, 6, 247, []),
  (.iload_n 1, 0, 0, 0, 0, []),
  (.iaload, 0, 0, 0, 0, []),
  (.aload_n 2, 0, 0, 0, 0, []),
  (.getfield 295, 0, 0, 7, 249, []),
  (.iload_n 1, 0, 0, 0, 0, []),
  (.iaload, 0, 0, 0, 0, []),
  (.sipush 128, 0, 0, 0, 0, []),
  (.ior, 0, 0, 0, 0, []),
  (.invokevirtual 194, 0, 85, 1, 614, []),
  (.return_, 0, 0, 0, 0, [])]
set_option maxRecDepth 20000 in
/-- PhasorTree$Tree.takeStamped(IILPhasorTree$Row;)V -/
def c_T_takeStamped : List Ins := [(.aload_n 3, 0, 0, 0, 0, []),
  (.iconst 0, 0, 0, 0, 0, []),
  (.invokevirtual 253, 0, 95, 1, 674, []),
  (.istore 4, 0, 0, 0, 0, []),
  (.iconst 0, 0, 0, 0, 0, []),
  (.istore 5, 0, 0, 0, 0, []),
  (.iload 5, 0, 0, 0, 0, []),
  (.iload 4, 0, 0, 0, 0, []),
  (.if_icmp .ge 73, 0, 42, 0, 0, []),
  (.aload_n 3, 0, 0, 0, 0, []),
  (.getfield 209, 0, 3, 0, 212, []),
  (.iload 5, 0, 0, 0, 0, []),
  (.aaload, 0, 0, 0, 0, []),
  (.astore 6, 0, 0, 0, 0, []),
  (.aload 6, 0, 0, 0, 0, []),
  (.getfield 218, 0, 0, 0, 230, []),
  (.iload_n 2, 0, 0, 0, 0, []),
  (.if_icmp .ne 49, 0, 40, 0, 0, []),
  (.aload 6, 0, 0, 0, 0, []),
  (.getfield 221, 0, 0, 1, 233, []),
  (.aload_n 0, 0, 0, 0, 0, []),
  (.getfield 53, 0, 4, 9, 358, []),
  (.getfield 221, 0, 0, 1, 233, []),
  (.if_icmp .ne 34, 0, 40, 0, 0, []),
  (.aload 6, 0, 0, 0, 0, []),
  (.iload_n 1, 0, 0, 0, 0, []),
  (.invokevirtual 289, 0, 84, 1, 696, []),
  (.ifCond .eq 25, 0, 40, 0, 0, []),
  (.aload_n 0, 0, 0, 0, 0, []),
  (.getfield 53, 0, 4, 9, 358, []),
  (.iload_n 1, 0, 0, 0, 0, []),
  (.aload 6, 0, 0, 0, 0, []),
  (.getfield 292, 0, 0, 6, 247, []),
  (.iload_n 1, 0, 0, 0, 0, []),
  (.iaload, 0, 0, 0, 0, []),
  (.aload 6, 0, 0, 0, 0, []),
  (.getfield 295, 0, 0, 7, 249, []),
  (.iload_n 1, 0, 0, 0, 0, []),
  (.iaload, 0, 0, 0, 0, []),
  (.invokevirtual 194, 0, 85, 1, 614, []),
  (.iinc 5 1, 0, 0, 0, 0, []),
  (.goto (-74), 0, 6, 0, 0, []),
  (.return_, 0, 0, 0, 0, [])]
set_option maxRecDepth 20000 in
/-- PhasorTree$Tree.takeFiltered(III)V -/
def c_T_takeFiltered : List Ins := [(.aload_n 0, 0, 0, 0, 0, []),
  (.getfield 11, 0, 4, 0, 343, []),
  (.iload_n 3, 0, 0, 0, 0, []),
  (.aaload, 0, 0, 0, 0, []),
  (.astore 4, 0, 0, 0, 0, []),
  (.aload 4, 0, 0, 0, 0, []),
  (.getfield 158, 0, 1, 1, 279, []),
  (.iconst 0, 0, 0, 0, 0, []),
  (.invokevirtual 253, 0, 95, 1, 674, []),
  (.istore 5, 0, 0, 0, 0, []),
  (.aload_n 0, 0, 0, 0, 0, []),
  (.iload_n 1, 0, 0, 0, 0, []),
  (.iload_n 2, 0, 0, 0, 0, []),
  (.aload 4, 0, 0, 0, 0, []),
  (.getfield 158, 0, 1, 1, 279, []),
  (.iload 5, 0, 0, 0, 0, []),
  (.invokevirtual 301, 0, 147, 0, 704, []),
  (.istore 6, 0, 0, 0, 0, []),
  (.iconst 0, 0, 0, 0, 0, []),
  (.istore 7, 0, 0, 0, 0, []),
  (.iconst 0, 0, 0, 0, 0, []),
  (.istore 8, 0, 0, 0, 0, []),
  (.bipush 64, 0, 0, 0, 0, []),
  (.istore 9, 0, 0, 0, 0, []),
  (.iconst 0, 0, 0, 0, 0, []),
  (.istore 10, 0, 0, 0, 0, []),
  (.iload 10, 0, 0, 0, 0, []),
  (.iload 5, 0, 0, 0, 0, []),
  (.if_icmp .ge 104, 0, 79, 0, 0, []),
  (.iload 7, 0, 0, 0, 0, []),
  (.bipush 20, 0, 0, 0, 0, []),
  (.if_icmp .ge 97, 0, 79, 0, 0, []),
  (.aload 4, 0, 0, 0, 0, []),
  (.getfield 158, 0, 1, 1, 279, []),
  (.getfield 209, 0, 3, 0, 212, []),
  (.iload 10, 0, 0, 0, 0, []),
  (.aaload, 0, 0, 0, 0, []),
  (.astore 11, 0, 0, 0, 0, []),
  (.aload 11, 0, 0, 0, 0, []),
  (.getfield 218, 0, 0, 0, 230, []),
  (.iload_n 2, 0, 0, 0, 0, []),
  (.if_icmp .ne 69, 0, 77, 0, 0, []),
  (.aload 11, 0, 0, 0, 0, []),
  (.iload_n 1, 0, 0, 0, 0, []),
  (.invokevirtual 289, 0, 84, 1, 696, []),
  (.ifCond .eq 60, 0, 77, 0, 0, []),
  (.iload 6, 0, 0, 0, 0, []),
  (.ifCond .eq 15, 0, 55, 0, 0, []),
  (.aload 11, 0, 0, 0, 0, []),
  (.getfield 295, 0, 0, 7, 249, []),
  (.iload_n 1, 0, 0, 0, 0, []),
  (.iaload, 0, 0, 0, 0, []),
  (.iconst 1, 0, 0, 0, 0, []),
  (.iand, 0, 0, 0, 0, []),
  (.ifCond .ne 43, 0, 77, 0, 0, []),
  (.aload_n 0, 0, 0, 0, 0, []),
  (.aload 11, 0, 0, 0, 0, []),
  (.getfield 292, 0, 0, 6, 247, []),
  (.iload_n 1, 0, 0, 0, 0, []),
  (.iaload, 0, 0, 0, 0, []),
  (.iload 7, 0, 0, 0, 0, []),
  (.invokevirtual 305, 0, 148, 0, 708, []),
  (.iinc 7 1, 0, 0, 0, 0, []),
  (.iload 8, 0, 0, 0, 0, []),
  (.aload 11, 0, 0, 0, 0, []),
  (.getfield 292, 0, 0, 6, 247, []),
  (.iload_n 1, 0, 0, 0, 0, []),
  (.iaload, 0, 0, 0, 0, []),
  (.iadd, 0, 0, 0, 0, []),
  (.istore 8, 0, 0, 0, 0, []),
  (.iload 9, 0, 0, 0, 0, []),
  (.aload 11, 0, 0, 0, 0, []),
  (.getfield 295, 0, 0, 7, 249, []),
  (.iload_n 1, 0, 0, 0, 0, []),
  (.iaload, 0, 0, 0, 0, []),
  (.ior, 0, 0, 0, 0, []),
  (.istore 9, 0, 0, 0, 0, []),
  (.iinc 10 1, 0, 0, 0, 0, []),
  (.goto (-105), 0, 26, 0, 0, []),
  (.iload 7, 0, 0, 0, 0, []),
  (.ifCond .ne 4, 0, 82, 0, 0, []),
  (.return_, 0, 0, 0, 0, []),
  (.iload 9, 0, 0, 0, 0, []),
  (.iload 7, 0, 0, 0, 0, []),
  (.aload_n 0, 0, 0, 0, 0, []),
  (.iload_n 2, 0, 0, 0, 0, []),
  (.iload_n 3, 0, 0, 0, 0, []),
  (.aload_n 0, 0, 0, 0, 0, []),
  (.getfield 53, 0, 4, 9, 358, []),
  (.getfield 221, 0, 0, 1, 233, []),
  (.invokevirtual 240, 0, 137, 0, 683, []),
  (.if_icmp .ge 8, 0, 94, 0, 0, []),
  (.bipush 32, 0, 0, 0, 0, []),
  (.goto 4, 0, 95, 0, 0, []),
  (.iconst 0, 0, 0, 0, 0, []),
  (.ior, 0, 0, 0, 0, []),
  (.istore 9, 0, 0, 0, 0, []),
  (.aload 4, 0, 0, 0, 0, []),
  (.getfield 96, 0, 1, 0, 277, []),
  (.iconst 2, 0, 0, 0, 0, []),
  (.iaload, 0, 0, 0, 0, []),
  (.iconst 1, 0, 0, 0, 0, []),
  (.if_icmp .ne 7, 0, 105, 0, 0, []),
  (.iconst 1, 0, 0, 0, 0, []),
  (.goto 4, 0, 106, 0, 0, []),
  (.iconst 0, 0, 0, 0, 0, []),
  (.istore 10, 0, 0, 0, 0, []),
  (.aload_n 0, 0, 0, 0, 0, []),
  (.getfield 53, 0, 4, 9, 358, []),
  (.iload_n 1, 0, 0, 0, 0, []),
  (.iload 10, 0, 0, 0, 0, []),
  (.ifCond .eq 13, 0, 116, 0, 0, []),
  (.iload 8, 0, 0, 0, 0, []),
  (.iload 7, 0, 0, 0, 0, []),
  (.invokestatic 237, 0, 189, 3, 687, []),
  (.goto 14, 0, 124, 0, 0, []),
  (.aload_n 0, 0, 0, 0, 0, []),
  (.getfield 61, 0, 4, 11, 360, []),
  (.iload 7, 0, 0, 0, 0, []),
  (.iconst 1, 0, 0, 0, 0, []),
  (.isub, 0, 0, 0, 0, []),
  (.iconst 2, 0, 0, 0, 0, []),
  (.idiv, 0, 0, 0, 0, []),
  (.iaload, 0, 0, 0, 0, []),
  (.iload 9, 0, 0, 0, 0, []),
  (.invokevirtual 194, 0, 85, 1, 614, []),
  (.return_, 0, 0, 0, 0, [])]
set_option maxRecDepth 20000 in
/-- PhasorTree$Tree.hasValidReading(IILPhasorTree$Row;I)Z -/
def c_T_hasValidReading : List Ins := [(.iconst 0, 0, 0, 0, 0, []),
  (.istore 5, 0, 0, 0, 0, []),
  (.iload 5, 0, 0, 0, 0, []),
  (.iload 4, 0, 0, 0, 0, []),
  (.if_icmp .ge 50, 0, 29, 0, 0, []),
  (.aload_n 3, 0, 0, 0, 0, []),
  (.getfield 209, 0, 3, 0, 212, []),
  (.iload 5, 0, 0, 0, 0, []),
  (.aaload, 0, 0, 0, 0, []),
  (.astore 6, 0, 0, 0, 0, []),
  (.aload 6, 0, 0, 0, 0, []),
  (.getfield 218, 0, 0, 0, 230, []),
  (.iload_n 2, 0, 0, 0, 0, []),
  (.if_icmp .ne 26, 0, 27, 0, 0, []),
  (.aload 6, 0, 0, 0, 0, []),
  (.iload_n 1, 0, 0, 0, 0, []),
  (.invokevirtual 289, 0, 84, 1, 696, []),
  (.ifCond .eq 17, 0, 27, 0, 0, []),
  (.aload 6, 0, 0, 0, 0, []),
  (.getfield 295, 0, 0, 7, 249, []),
  (.iload_n 1, 0, 0, 0, 0, []),
  (.iaload, 0, 0, 0, 0, []),
  (.iconst 1, 0, 0, 0, 0, []),
  (.iand, 0, 0, 0, 0, []),
  (.ifCond .ne 5, 0, 27, 0, 0, []),
  (.iconst 1, 0, 0, 0, 0, []),
  (.ireturn, 0, 0, 0, 0, []),
  (.iinc 5 1, 0, 0, 0, 0, []),
  (.goto (-51), 0, 2, 0, 0, []),
  (.iconst 0, 0, 0, 0, 0, []),
  (.ireturn, 0, 0, 0, 0, [])]
set_option maxRecDepth 20000 in
/-- PhasorTree$Tree.insertSorted(II)V -/
def c_T_insertSorted : List Ins := [(.iload_n 2, 0, 0, 0, 0, []),
  (.istore_n 3, 0, 0, 0, 0, []),
  (.iload_n 3, 0, 0, 0, 0, []),
  (.ifCond .le 35, 0, 24, 0, 0, []),
  (.aload_n 0, 0, 0, 0, 0, []),
  (.getfield 61, 0, 4, 11, 360, []),
  (.iload_n 3, 0, 0, 0, 0, []),
  (.iconst 1, 0, 0, 0, 0, []),
  (.isub, 0, 0, 0, 0, []),
  (.iaload, 0, 0, 0, 0, []),
  (.iload_n 1, 0, 0, 0, 0, []),
  (.if_icmp .le 23, 0, 24, 0, 0, []),
  (.aload_n 0, 0, 0, 0, 0, []),
  (.getfield 61, 0, 4, 11, 360, []),
  (.iload_n 3, 0, 0, 0, 0, []),
  (.aload_n 0, 0, 0, 0, 0, []),
  (.getfield 61, 0, 4, 11, 360, []),
  (.iload_n 3, 0, 0, 0, 0, []),
  (.iconst 1, 0, 0, 0, 0, []),
  (.isub, 0, 0, 0, 0, []),
  (.iaload, 0, 0, 0, 0, []),
  (.iastore, 0, 0, 0, 0, []),
  (.iinc 3 (-1), 0, 0, 0, 0, []),
  (.goto (-33), 0, 2, 0, 0, []),
  (.aload_n 0, 0, 0, 0, 0, []),
  (.getfield 61, 0, 4, 11, 360, []),
  (.iload_n 3, 0, 0, 0, 0, []),
  (.iload_n 1, 0, 0, 0, 0, []),
  (.iastore, 0, 0, 0, 0, []),
  (.return_, 0, 0, 0, 0, [])]
set_option maxRecDepth 20000 in
/-- PhasorTree$Tree.slotFact(III)I -/
def c_T_slotFact : List Ins := [(.aload_n 0, 0, 0, 0, 0, []),
  (.getfield 11, 0, 4, 0, 343, []),
  (.iload_n 1, 0, 0, 0, 0, []),
  (.aaload, 0, 0, 0, 0, []),
  (.astore 4, 0, 0, 0, 0, []),
  (.aload 4, 0, 0, 0, 0, []),
  (.getfield 158, 0, 1, 1, 279, []),
  (.iload_n 2, 0, 0, 0, 0, []),
  (.invokevirtual 308, 0, 96, 1, 734, []),
  (.istore 5, 0, 0, 0, 0, []),
  (.iload 5, 0, 0, 0, 0, []),
  (.iconst (-1), 0, 0, 0, 0, []),
  (.if_icmp .ne 6, 0, 15, 0, 0, []),
  (.ldc 154, (-1000004), 0, 0, 561, []),
  (.ireturn, 0, 0, 0, 0, []),
  (.aload 4, 0, 0, 0, 0, []),
  (.getfield 158, 0, 1, 1, 279, []),
  (.iload 5, 0, 0, 0, 0, []),
  (.invokevirtual 253, 0, 95, 1, 674, []),
  (.istore 6, 0, 0, 0, 0, []),
  (.aload 4, 0, 0, 0, 0, []),
  (.getfield 158, 0, 1, 1, 279, []),
  (.getfield 209, 0, 3, 0, 212, []),
  (.iload 5, 0, 0, 0, 0, []),
  (.aaload, 0, 0, 0, 0, []),
  (.astore 7, 0, 0, 0, 0, []),
  (.iload_n 3, 0, 0, 0, 0, []),
  (.tableswitch 81 0 4 #[34, 40, 46, 52, 63], 0, 0, 0, 34, [54, 28, 31, 34, 38, 44]),
  (.aload 7, 0, 0, 0, 0, []),
  (.getfield 231, 0, 0, 2, 237, []),
  (.ireturn, 0, 0, 0, 0, []),
  (.aload 7, 0, 0, 0, 0, []),
  (.getfield 197, 0, 0, 3, 240, []),
  (.ireturn, 0, 0, 0, 0, []),
  (.iload 6, 0, 0, 0, 0, []),
  (.iload 5, 0, 0, 0, 0, []),
  (.isub, 0, 0, 0, 0, []),
  (.ireturn, 0, 0, 0, 0, []),
  (.aload_n 0, 0, 0, 0, 0, []),
  (.iload_n 1, 0, 0, 0, 0, []),
  (.aload 7, 0, 0, 0, 0, []),
  (.getfield 231, 0, 0, 2, 237, []),
  (.invokevirtual 311, 0, 138, 0, 739, []),
  (.ireturn, 0, 0, 0, 0, []),
  (.aload_n 0, 0, 0, 0, 0, []),
  (.iload_n 1, 0, 0, 0, 0, []),
  (.iload 5, 0, 0, 0, 0, []),
  (.iload 6, 0, 0, 0, 0, []),
  (.invokevirtual 256, 0, 139, 0, 678, []),
  (.ifCond .eq 7, 0, 52, 0, 0, []),
  (.iconst 1, 0, 0, 0, 0, []),
  (.goto 4, 0, 53, 0, 0, []),
  (.iconst 0, 0, 0, 0, 0, []),
  (.ireturn, 0, 0, 0, 0, []),
  (.aload 4, 0, 0, 0, 0, []),
  (.iload 5, 0, 0, 0, 0, []),
  (.aload_n 0, 0, 0, 0, 0, []),
  (.getfield 43, 0, 4, 6, 353, []),
  (.invokevirtual 250, 0, 108, 1, 667, []),
  (.ireturn, 0, 0, 0, 0, [])]
set_option maxRecDepth 20000 in
/-- PhasorTree$Tree.outputsKept()I -/
def c_T_outputsKept : List Ins := [(.aload_n 0, 0, 0, 0, 0, []),
  (.getfield 46, 0, 4, 7, 355, []),
  (.bipush 8, 0, 0, 0, 0, []),
  (.invokestatic 314, 0, 0, 9, 470, []),
  (.ireturn, 0, 0, 0, 0, [])]
set_option maxRecDepth 20000 in
/-- PhasorTree$Tree.output(I)LPhasorTree$Frame; -/
def c_T_output : List Ins := [(.iload_n 1, 0, 0, 0, 0, []),
  (.iconst 0, 0, 0, 0, 0, []),
  (.aload_n 0, 0, 0, 0, 0, []),
  (.invokevirtual 80, 0, 150, 0, 466, []),
  (.iconst 1, 0, 0, 0, 0, []),
  (.isub, 0, 0, 0, 0, []),
  (.invokestatic 87, 0, 187, 3, 414, []),
  (.ifCond .eq 22, 0, 20, 0, 0, []),
  (.aload_n 0, 0, 0, 0, 0, []),
  (.getfield 32, 0, 4, 3, 348, []),
  (.aload_n 0, 0, 0, 0, 0, []),
  (.getfield 46, 0, 4, 7, 355, []),
  (.iconst 1, 0, 0, 0, 0, []),
  (.isub, 0, 0, 0, 0, []),
  (.iload_n 1, 0, 0, 0, 0, []),
  (.isub, 0, 0, 0, 0, []),
  (.bipush 8, 0, 0, 0, 0, []),
  (.irem, 0, 0, 0, 0, []),
  (.aaload, 0, 0, 0, 0, []),
  (.goto 4, 0, 21, 0, 0, []),
  (.aconst_null, 0, 0, 0, 0, []),
  (.areturn, 0, 0, 0, 0, [])]
set_option maxRecDepth 20000 in
/-- PhasorTree$Tree.outputFact(II)I -/
def c_T_outputFact : List Ins := [(.aload_n 0, 0, 0, 0, 0, []),
  (.iload_n 1, 0, 0, 0, 0, []),
  (.invokevirtual 317, 0, 151, 0, 751, []),
  (.astore_n 3, 0, 0, 0, 0, []),
  (.aload_n 3, 0, 0, 0, 0, []),
  (.ifnonnull 6, 0, 8, 0, 0, []),
  (.ldc 154, (-1000004), 0, 0, 561, []),
  (.ireturn, 0, 0, 0, 0, []),
  (.iload_n 2, 0, 0, 0, 0, []),
  (.tableswitch 53 0 3 #[30, 35, 40, 45], 0, 0, 0, 30, [23, 10, 13, 16, 19]),
  (.aload_n 3, 0, 0, 0, 0, []),
  (.getfield 221, 0, 0, 1, 233, []),
  (.ireturn, 0, 0, 0, 0, []),
  (.aload_n 3, 0, 0, 0, 0, []),
  (.getfield 197, 0, 0, 3, 240, []),
  (.ireturn, 0, 0, 0, 0, []),
  (.aload_n 3, 0, 0, 0, 0, []),
  (.invokevirtual 321, 0, 87, 1, 755, []),
  (.ireturn, 0, 0, 0, 0, []),
  (.aload_n 3, 0, 0, 0, 0, []),
  (.getfield 324, 0, 0, 5, 245, []),
  (.invokestatic 327, 0, 192, 2, 760, []),
  (.ireturn, 0, 0, 0, 0, []),
  (.aload_n 3, 0, 0, 0, 0, []),
  (.getfield 298, 0, 0, 4, 242, []),
  (.ireturn, 0, 0, 0, 0, [])]
set_option maxRecDepth 20000 in
/-- PhasorTree$Tree.total(I)I -/
def c_T_total : List Ins := [(.iload_n 1, 0, 0, 0, 0, []),
  (.tableswitch 90 0 7 #[47, 52, 57, 62, 70, 75, 80, 85], 0, 0, 0, 47, [27, 2, 5, 8, 11, 15, 18, 21, 24]),
  (.aload_n 0, 0, 0, 0, 0, []),
  (.getfield 36, 0, 4, 4, 349, []),
  (.ireturn, 0, 0, 0, 0, []),
  (.aload_n 0, 0, 0, 0, 0, []),
  (.invokevirtual 332, 0, 126, 0, 797, []),
  (.ireturn, 0, 0, 0, 0, []),
  (.aload_n 0, 0, 0, 0, 0, []),
  (.getfield 43, 0, 4, 6, 353, []),
  (.ireturn, 0, 0, 0, 0, []),
  (.aload_n 0, 0, 0, 0, 0, []),
  (.getfield 26, 0, 4, 2, 346, []),
  (.getfield 190, 0, 3, 1, 216, []),
  (.ireturn, 0, 0, 0, 0, []),
  (.aload_n 0, 0, 0, 0, 0, []),
  (.getfield 46, 0, 4, 7, 355, []),
  (.ireturn, 0, 0, 0, 0, []),
  (.aload_n 0, 0, 0, 0, 0, []),
  (.invokevirtual 80, 0, 150, 0, 466, []),
  (.ireturn, 0, 0, 0, 0, []),
  (.aload_n 0, 0, 0, 0, 0, []),
  (.invokevirtual 335, 0, 154, 0, 798, []),
  (.ireturn, 0, 0, 0, 0, []),
  (.aload_n 0, 0, 0, 0, 0, []),
  (.invokevirtual 338, 0, 155, 0, 802, []),
  (.ireturn, 0, 0, 0, 0, []),
  (.aload_n 0, 0, 0, 0, 0, []),
  (.getfield 46, 0, 4, 7, 355, []),
  (.ifCond .ne 8, 0, 32, 0, 0, []),
  (.ldc 154, (-1000004), 0, 0, 561, []),
  (.goto 7, 0, 34, 0, 0, []),
  (.aload_n 0, 0, 0, 0, 0, []),
  (.getfield 49, 0, 4, 8, 357, []),
  (.ireturn, 0, 0, 0, 0, [])]
set_option maxRecDepth 20000 in
/-- PhasorTree$Tree.lateOfAll()I -/
def c_T_lateOfAll : List Ins := [(.iconst 0, 0, 0, 0, 0, []),
  (.istore_n 1, 0, 0, 0, 0, []),
  (.iconst 0, 0, 0, 0, 0, []),
  (.istore_n 2, 0, 0, 0, 0, []),
  (.iload_n 2, 0, 0, 0, 0, []),
  (.aload_n 0, 0, 0, 0, 0, []),
  (.getfield 36, 0, 4, 4, 349, []),
  (.if_icmp .ge 21, 0, 18, 0, 0, []),
  (.iload_n 1, 0, 0, 0, 0, []),
  (.aload_n 0, 0, 0, 0, 0, []),
  (.getfield 11, 0, 4, 0, 343, []),
  (.iload_n 2, 0, 0, 0, 0, []),
  (.aaload, 0, 0, 0, 0, []),
  (.getfield 167, 0, 1, 6, 290, []),
  (.iadd, 0, 0, 0, 0, []),
  (.istore_n 1, 0, 0, 0, 0, []),
  (.iinc 2 1, 0, 0, 0, 0, []),
  (.goto (-23), 0, 4, 0, 0, []),
  (.iload_n 1, 0, 0, 0, 0, []),
  (.ireturn, 0, 0, 0, 0, [])]
set_option maxRecDepth 20000 in
/-- PhasorTree$Tree.doublesOfAll()I -/
def c_T_doublesOfAll : List Ins := [(.iconst 0, 0, 0, 0, 0, []),
  (.istore_n 1, 0, 0, 0, 0, []),
  (.iconst 0, 0, 0, 0, 0, []),
  (.istore_n 2, 0, 0, 0, 0, []),
  (.iload_n 2, 0, 0, 0, 0, []),
  (.aload_n 0, 0, 0, 0, 0, []),
  (.getfield 36, 0, 4, 4, 349, []),
  (.if_icmp .ge 21, 0, 18, 0, 0, []),
  (.iload_n 1, 0, 0, 0, 0, []),
  (.aload_n 0, 0, 0, 0, 0, []),
  (.getfield 11, 0, 4, 0, 343, []),
  (.iload_n 2, 0, 0, 0, 0, []),
  (.aaload, 0, 0, 0, 0, []),
  (.getfield 170, 0, 1, 7, 292, []),
  (.iadd, 0, 0, 0, 0, []),
  (.istore_n 1, 0, 0, 0, 0, []),
  (.iinc 2 1, 0, 0, 0, 0, []),
  (.goto (-23), 0, 4, 0, 0, []),
  (.iload_n 1, 0, 0, 0, 0, []),
  (.ireturn, 0, 0, 0, 0, [])]
set_option maxRecDepth 20000 in
/-- PhasorTree$Orders.<init>()V -/
def c_O_init : List Ins := [(.aload_n 0, 0, 0, 0, 0, []),
  (.invokespecial 3, 0, 0, 6, 161, []),
  (.aload_n 0, 0, 0, 0, 0, []),
  (.bipush 60, 0, 0, 0, 0, []),
  (.newarray .char, 0, 0, 0, 0, []),
  (.putfield 9, 0, 2, 0, 162, []),
  (.aload_n 0, 0, 0, 0, 0, []),
  (.iconst 0, 0, 0, 0, 0, []),
  (.putfield 15, 0, 2, 1, 163, []),
  (.aload_n 0, 0, 0, 0, 0, []),
  (.iconst 0, 0, 0, 0, 0, []),
  (.putfield 19, 0, 2, 2, 165, []),
  (.aload_n 0, 0, 0, 0, 0, []),
  (.bipush 32, 0, 0, 0, 0, []),
  (.putfield 22, 0, 2, 3, 166, []),
  (.aload_n 0, 0, 0, 0, 0, []),
  (.iconst 3, 0, 0, 0, 0, []),
  (.newarray .int, 0, 0, 0, 0, []),
  (.putfield 26, 0, 2, 4, 167, []),
  (.aload_n 0, 0, 0, 0, 0, []),
  (.iconst 0, 0, 0, 0, 0, []),
  (.putfield 30, 0, 2, 5, 168, []),
  (.aload_n 0, 0, 0, 0, 0, []),
  (.iconst 0, 0, 0, 0, 0, []),
  (.putfield 33, 0, 2, 6, 170, []),
  (.aload_n 0, 0, 0, 0, 0, []),
  (.iconst 0, 0, 0, 0, 0, []),
  (.putfield 36, 0, 2, 7, 172, []),
  (.return_, 0, 0, 0, 0, [])]
set_option maxRecDepth 20000 in
/-- PhasorTree$Orders.append(C)Z -/
def c_O_append : List Ins := [(.aload_n 0, 0, 0, 0, 0, []),
  (.getfield 15, 0, 2, 1, 163, []),
  (.bipush 60, 0, 0, 0, 0, []),
  (.if_icmp .lt 5, 0, 6, 0, 0, []),
  (.iconst 0, 0, 0, 0, 0, []),
  (.ireturn, 0, 0, 0, 0, []),
  (.aload_n 0, 0, 0, 0, 0, []),
  (.getfield 9, 0, 2, 0, 162, []),
  (.aload_n 0, 0, 0, 0, 0, []),
  (.getfield 15, 0, 2, 1, 163, []),
  (.iload_n 1, 0, 0, 0, 0, []),
  (.castore, 0, 0, 0, 0, []),
  (.aload_n 0, 0, 0, 0, 0, []),
  (.dup, 0, 0, 0, 0, []),
  (.getfield 15, 0, 2, 1, 163, []),
  (.iconst 1, 0, 0, 0, 0, []),
  (.iadd, 0, 0, 0, 0, []),
  (.putfield 15, 0, 2, 1, 163, []),
  (.iconst 1, 0, 0, 0, 0, []),
  (.ireturn, 0, 0, 0, 0, [])]
set_option maxRecDepth 20000 in
/-- PhasorTree$Orders.perform(LPhasorTree$Tree;LPhasorTree$Tree;)V -/
def c_O_perform : List Ins := [(.aload_n 1, 0, 0, 0, 0, []),
  (.aload_n 2, 0, 0, 0, 0, []),
  (.invokevirtual 39, 0, 110, 1, 832, []),
  (.aload_n 0, 0, 0, 0, 0, []),
  (.iconst 0, 0, 0, 0, 0, []),
  (.putfield 19, 0, 2, 2, 165, []),
  (.aload_n 0, 0, 0, 0, 0, []),
  (.iconst 0, 0, 0, 0, 0, []),
  (.putfield 30, 0, 2, 5, 168, []),
  (.aload_n 0, 0, 0, 0, 0, []),
  (.iconst 0, 0, 0, 0, 0, []),
  (.putfield 36, 0, 2, 7, 172, []),
  (.aload_n 0, 0, 0, 0, 0, []),
  (.getfield 19, 0, 2, 2, 165, []),
  (.aload_n 0, 0, 0, 0, 0, []),
  (.getfield 15, 0, 2, 1, 163, []),
  (.if_icmp .ge 118, 0, 79, 0, 0, []),
  (.aload_n 0, 0, 0, 0, 0, []),
  (.getfield 30, 0, 2, 5, 168, []),
  (.bipush 60, 0, 0, 0, 0, []),
  (.if_icmp .ge 109, 0, 79, 0, 0, []),
  (.aload_n 0, 0, 0, 0, 0, []),
  (.aload_n 0, 0, 0, 0, 0, []),
  (.getfield 19, 0, 2, 2, 165, []),
  (.putfield 33, 0, 2, 6, 170, []),
  (.aload_n 0, 0, 0, 0, 0, []),
  (.aload_n 0, 0, 0, 0, 0, []),
  (.aload_n 1, 0, 0, 0, 0, []),
  (.invokevirtual 45, 0, 159, 0, 833, []),
  (.putfield 36, 0, 2, 7, 172, []),
  (.aload_n 0, 0, 0, 0, 0, []),
  (.getfield 36, 0, 2, 7, 172, []),
  (.ifCond .eq 4, 0, 34, 0, 0, []),
  (.return_, 0, 0, 0, 0, []),
  (.aload_n 0, 0, 0, 0, 0, []),
  (.getfield 22, 0, 2, 3, 166, []),
  (.bipush 109, 0, 0, 0, 0, []),
  (.if_icmp .ne 30, 0, 55, 0, 0, []),
  (.aload_n 1, 0, 0, 0, 0, []),
  (.aload_n 0, 0, 0, 0, 0, []),
  (.getfield 26, 0, 2, 4, 167, []),
  (.iconst 0, 0, 0, 0, 0, []),
  (.iaload, 0, 0, 0, 0, []),
  (.aload_n 0, 0, 0, 0, 0, []),
  (.getfield 26, 0, 2, 4, 167, []),
  (.iconst 1, 0, 0, 0, 0, []),
  (.iaload, 0, 0, 0, 0, []),
  (.aload_n 0, 0, 0, 0, 0, []),
  (.getfield 26, 0, 2, 4, 167, []),
  (.iconst 2, 0, 0, 0, 0, []),
  (.iaload, 0, 0, 0, 0, []),
  (.iconst 0, 0, 0, 0, 0, []),
  (.iconst 1, 0, 0, 0, 0, []),
  (.invokevirtual 49, 0, 132, 1, 858, []),
  (.goto 35, 0, 72, 0, 0, []),
  (.aload_n 0, 0, 0, 0, 0, []),
  (.getfield 22, 0, 2, 3, 166, []),
  (.bipush 112, 0, 0, 0, 0, []),
  (.if_icmp .ne 16, 0, 66, 0, 0, []),
  (.aload_n 1, 0, 0, 0, 0, []),
  (.aload_n 0, 0, 0, 0, 0, []),
  (.getfield 26, 0, 2, 4, 167, []),
  (.iconst 0, 0, 0, 0, 0, []),
  (.iaload, 0, 0, 0, 0, []),
  (.invokevirtual 53, 0, 134, 1, 859, []),
  (.goto 13, 0, 72, 0, 0, []),
  (.aload_n 1, 0, 0, 0, 0, []),
  (.aload_n 0, 0, 0, 0, 0, []),
  (.getfield 26, 0, 2, 4, 167, []),
  (.iconst 0, 0, 0, 0, 0, []),
  (.iaload, 0, 0, 0, 0, []),
  (.invokevirtual 57, 0, 117, 1, 860, []),
  (.aload_n 0, 0, 0, 0, 0, []),
  (.dup, 0, 0, 0, 0, []),
  (.getfield 30, 0, 2, 5, 168, []),
  (.iconst 1, 0, 0, 0, 0, []),
  (.iadd, 0, 0, 0, 0, []),
  (.putfield 30, 0, 2, 5, 168, []),
  (.goto (-123), 0, 12, 0, 0, []),
  (.return_, 0, 0, 0, 0, [])]
set_option maxRecDepth 20000 in
/-- PhasorTree$Orders.reasonAgainst(LPhasorTree$Tree;)I -/
def c_O_reasonAgainst : List Ins := [(.aload_n 0, 0, 0, 0, 0, []),
  (.invokevirtual 60, 0, 161, 0, 837, []),
  (.ifCond .ne 5, 0, 5, 0, 0, []),
  (.iconst 1, 0, 0, 0, 0, []),
  (.ireturn, 0, 0, 0, 0, []),
  (.aload_n 0, 0, 0, 0, 0, []),
  (.getfield 22, 0, 2, 3, 166, []),
  (.bipush 112, 0, 0, 0, 0, []),
  (.if_icmp .eq 18, 0, 18, 0, 0, []),
  (.aload_n 1, 0, 0, 0, 0, []),
  (.aload_n 0, 0, 0, 0, 0, []),
  (.getfield 26, 0, 2, 4, 167, []),
  (.iconst 0, 0, 0, 0, 0, []),
  (.iaload, 0, 0, 0, 0, []),
  (.invokevirtual 64, 0, 112, 1, 850, []),
  (.ifCond .ne 5, 0, 18, 0, 0, []),
  (.iconst 2, 0, 0, 0, 0, []),
  (.ireturn, 0, 0, 0, 0, []),
  (.aload_n 0, 0, 0, 0, 0, []),
  (.aload_n 1, 0, 0, 0, 0, []),
  (.invokevirtual 68, 0, 160, 0, 851, []),
  (.ifCond .ne 7, 0, 24, 0, 0, []),
  (.iconst 0, 0, 0, 0, 0, []),
  (.goto 4, 0, 25, 0, 0, []),
  (.iconst 3, 0, 0, 0, 0, []),
  (.ireturn, 0, 0, 0, 0, [])]
set_option maxRecDepth 20000 in
/-- PhasorTree$Orders.orderError(LPhasorTree$Tree;)I -/
def c_O_orderError : List Ins := [(.aload_n 0, 0, 0, 0, 0, []),
  (.getfield 22, 0, 2, 3, 166, []),
  (.lookupswitch 64 #[(109, 28), (112, 53)], 0, 0, 0, 28, [27, 3, 20]),
  (.aload_n 1, 0, 0, 0, 0, []),
  (.aload_n 0, 0, 0, 0, 0, []),
  (.getfield 26, 0, 2, 4, 167, []),
  (.iconst 0, 0, 0, 0, 0, []),
  (.iaload, 0, 0, 0, 0, []),
  (.aload_n 0, 0, 0, 0, 0, []),
  (.getfield 26, 0, 2, 4, 167, []),
  (.iconst 1, 0, 0, 0, 0, []),
  (.iaload, 0, 0, 0, 0, []),
  (.aload_n 0, 0, 0, 0, 0, []),
  (.getfield 26, 0, 2, 4, 167, []),
  (.iconst 2, 0, 0, 0, 0, []),
  (.iaload, 0, 0, 0, 0, []),
  (.iconst 0, 0, 0, 0, 0, []),
  (.iconst 1, 0, 0, 0, 0, []),
  (.invokevirtual 71, 0, 131, 1, 855, []),
  (.ireturn, 0, 0, 0, 0, []),
  (.aload_n 1, 0, 0, 0, 0, []),
  (.aload_n 0, 0, 0, 0, 0, []),
  (.getfield 26, 0, 2, 4, 167, []),
  (.iconst 0, 0, 0, 0, 0, []),
  (.iaload, 0, 0, 0, 0, []),
  (.invokevirtual 75, 0, 133, 1, 856, []),
  (.ireturn, 0, 0, 0, 0, []),
  (.aload_n 1, 0, 0, 0, 0, []),
  (.aload_n 0, 0, 0, 0, 0, []),
  (.getfield 26, 0, 2, 4, 167, []),
  (.iconst 0, 0, 0, 0, 0, []),
  (.iaload, 0, 0, 0, 0, []),
  (.invokevirtual 79, 0, 116, 1, 857, []),
  (.ireturn, 0, 0, 0, 0, [])]
set_option maxRecDepth 20000 in
/-- PhasorTree$Orders.readOrder()Z -/
def c_O_readOrder : List Ins := [(.aload_n 0, 0, 0, 0, 0, []),
  (.aload_n 0, 0, 0, 0, 0, []),
  (.getfield 19, 0, 2, 2, 165, []),
  (.aload_n 0, 0, 0, 0, 0, []),
  (.getfield 15, 0, 2, 1, 163, []),
  (.if_icmp .ge 15, 0, 12, 0, 0, []),
  (.aload_n 0, 0, 0, 0, 0, []),
  (.getfield 9, 0, 2, 0, 162, []),
  (.aload_n 0, 0, 0, 0, 0, []),
  (.getfield 19, 0, 2, 2, 165, []),
  (.caload, 0, 0, 0, 0, []),
  (.goto 5, 0, 13, 0, 0, []),
  (.bipush 32, 0, 0, 0, 0, []),
  (.putfield 22, 0, 2, 3, 166, []),
  (.aload_n 0, 0, 0, 0, 0, []),
  (.dup, 0, 0, 0, 0, []),
  (.getfield 19, 0, 2, 2, 165, []),
  (.iconst 1, 0, 0, 0, 0, []),
  (.iadd, 0, 0, 0, 0, []),
  (.putfield 19, 0, 2, 2, 165, []),
  (.aload_n 0, 0, 0, 0, 0, []),
  (.getfield 22, 0, 2, 3, 166, []),
  (.lookupswitch 77 #[(109, 33), (112, 69), (120, 69)], 0, 0, 0, 33, [47, 23, 42, 42]),
  (.aload_n 0, 0, 0, 0, 0, []),
  (.iconst 0, 0, 0, 0, 0, []),
  (.bipush 44, 0, 0, 0, 0, []),
  (.invokevirtual 82, 0, 162, 0, 841, []),
  (.ifCond .eq 27, 0, 40, 0, 0, []),
  (.aload_n 0, 0, 0, 0, 0, []),
  (.iconst 1, 0, 0, 0, 0, []),
  (.bipush 44, 0, 0, 0, 0, []),
  (.invokevirtual 82, 0, 162, 0, 841, []),
  (.ifCond .eq 17, 0, 40, 0, 0, []),
  (.aload_n 0, 0, 0, 0, 0, []),
  (.iconst 2, 0, 0, 0, 0, []),
  (.bipush 59, 0, 0, 0, 0, []),
  (.invokevirtual 82, 0, 162, 0, 841, []),
  (.ifCond .eq 7, 0, 40, 0, 0, []),
  (.iconst 1, 0, 0, 0, 0, []),
  (.goto 4, 0, 41, 0, 0, []),
  (.iconst 0, 0, 0, 0, 0, []),
  (.ireturn, 0, 0, 0, 0, []),
  (.aload_n 0, 0, 0, 0, 0, []),
  (.iconst 0, 0, 0, 0, 0, []),
  (.bipush 59, 0, 0, 0, 0, []),
  (.invokevirtual 82, 0, 162, 0, 841, []),
  (.ireturn, 0, 0, 0, 0, []),
  (.iconst 0, 0, 0, 0, 0, []),
  (.ireturn, 0, 0, 0, 0, [])]
set_option maxRecDepth 20000 in
/-- PhasorTree$Orders.readNumber(IC)Z -/
def c_O_readNumber : List Ins := [(.iload_n 1, 0, 0, 0, 0, []),
  (.iconst 2, 0, 0, 0, 0, []),
  (.if_icmp .ne 16, 0, 9, 0, 0, []),
  (.aload_n 0, 0, 0, 0, 0, []),
  (.bipush 45, 0, 0, 0, 0, []),
  (.invokevirtual 86, 0, 163, 0, 845, []),
  (.ifCond .eq 7, 0, 9, 0, 0, []),
  (.iconst 1, 0, 0, 0, 0, []),
  (.goto 4, 0, 10, 0, 0, []),
  (.iconst 0, 0, 0, 0, 0, []),
  (.istore_n 3, 0, 0, 0, 0, []),
  (.aload_n 0, 0, 0, 0, 0, []),
  (.dup, 0, 0, 0, 0, []),
  (.getfield 19, 0, 2, 2, 165, []),
  (.iload_n 3, 0, 0, 0, 0, []),
  (.ifCond .eq 7, 0, 18, 0, 0, []),
  (.iconst 1, 0, 0, 0, 0, []),
  (.goto 4, 0, 19, 0, 0, []),
  (.iconst 0, 0, 0, 0, 0, []),
  (.iadd, 0, 0, 0, 0, []),
  (.putfield 19, 0, 2, 2, 165, []),
  (.iconst 0, 0, 0, 0, 0, []),
  (.istore 4, 0, 0, 0, 0, []),
  (.iconst 0, 0, 0, 0, 0, []),
  (.istore 5, 0, 0, 0, 0, []),
  (.iload 5, 0, 0, 0, 0, []),
  (.bipush 6, 0, 0, 0, 0, []),
  (.if_icmp .gt 78, 0, 67, 0, 0, []),
  (.aload_n 0, 0, 0, 0, 0, []),
  (.getfield 19, 0, 2, 2, 165, []),
  (.aload_n 0, 0, 0, 0, 0, []),
  (.getfield 15, 0, 2, 1, 163, []),
  (.if_icmp .ge 67, 0, 67, 0, 0, []),
  (.aload_n 0, 0, 0, 0, 0, []),
  (.getfield 9, 0, 2, 0, 162, []),
  (.aload_n 0, 0, 0, 0, 0, []),
  (.getfield 19, 0, 2, 2, 165, []),
  (.caload, 0, 0, 0, 0, []),
  (.bipush 48, 0, 0, 0, 0, []),
  (.if_icmp .lt 53, 0, 67, 0, 0, []),
  (.aload_n 0, 0, 0, 0, 0, []),
  (.getfield 9, 0, 2, 0, 162, []),
  (.aload_n 0, 0, 0, 0, 0, []),
  (.getfield 19, 0, 2, 2, 165, []),
  (.caload, 0, 0, 0, 0, []),
  (.bipush 57, 0, 0, 0, 0, []),
  (.if_icmp .gt 39, 0, 67, 0, 0, []),
  (.bipush 10, 0, 0, 0, 0, []),
  (.iload 4, 0, 0, 0, 0, []),
  (.imul, 0, 0, 0, 0, []),
  (.aload_n 0, 0, 0, 0, 0, []),
  (.getfield 9, 0, 2, 0, 162, []),
  (.aload_n 0, 0, 0, 0, 0, []),
  (.getfield 19, 0, 2, 2, 165, []),
  (.caload, 0, 0, 0, 0, []),
  (.bipush 48, 0, 0, 0, 0, []),
  (.isub, 0, 0, 0, 0, []),
  (.iadd, 0, 0, 0, 0, []),
  (.istore 4, 0, 0, 0, 0, []),
  (.iinc 5 1, 0, 0, 0, 0, []),
  (.aload_n 0, 0, 0, 0, 0, []),
  (.dup, 0, 0, 0, 0, []),
  (.getfield 19, 0, 2, 2, 165, []),
  (.iconst 1, 0, 0, 0, 0, []),
  (.iadd, 0, 0, 0, 0, []),
  (.putfield 19, 0, 2, 2, 165, []),
  (.goto (-79), 0, 25, 0, 0, []),
  (.aload_n 0, 0, 0, 0, 0, []),
  (.getfield 26, 0, 2, 4, 167, []),
  (.iload_n 1, 0, 0, 0, 0, []),
  (.iload_n 3, 0, 0, 0, 0, []),
  (.ifCond .eq 9, 0, 75, 0, 0, []),
  (.iload 4, 0, 0, 0, 0, []),
  (.ineg, 0, 0, 0, 0, []),
  (.goto 5, 0, 76, 0, 0, []),
  (.iload 4, 0, 0, 0, 0, []),
  (.iastore, 0, 0, 0, 0, []),
  (.iload 5, 0, 0, 0, 0, []),
  (.iconst 1, 0, 0, 0, 0, []),
  (.bipush 6, 0, 0, 0, 0, []),
  (.invokestatic 90, 0, 187, 3, 849, []),
  (.ifCond .eq 15, 0, 88, 0, 0, []),
  (.aload_n 0, 0, 0, 0, 0, []),
  (.iload_n 2, 0, 0, 0, 0, []),
  (.invokevirtual 86, 0, 163, 0, 845, []),
  (.ifCond .eq 7, 0, 88, 0, 0, []),
  (.iconst 1, 0, 0, 0, 0, []),
  (.goto 4, 0, 89, 0, 0, []),
  (.iconst 0, 0, 0, 0, 0, []),
  (.istore 6, 0, 0, 0, 0, []),
  (.aload_n 0, 0, 0, 0, 0, []),
  (.dup, 0, 0, 0, 0, []),
  (.getfield 19, 0, 2, 2, 165, []),
  (.iconst 1, 0, 0, 0, 0, []),
  (.iadd, 0, 0, 0, 0, []),
  (.putfield 19, 0, 2, 2, 165, []),
  (.iload 6, 0, 0, 0, 0, []),
  (.ireturn, 0, 0, 0, 0, [])]
set_option maxRecDepth 20000 in
/-- PhasorTree$Orders.isAt(C)Z -/
def c_O_isAt : List Ins := [(.aload_n 0, 0, 0, 0, 0, []),
  (.getfield 19, 0, 2, 2, 165, []),
  (.aload_n 0, 0, 0, 0, 0, []),
  (.getfield 15, 0, 2, 1, 163, []),
  (.if_icmp .ge 20, 0, 14, 0, 0, []),
  (.aload_n 0, 0, 0, 0, 0, []),
  (.getfield 9, 0, 2, 0, 162, []),
  (.aload_n 0, 0, 0, 0, 0, []),
  (.getfield 19, 0, 2, 2, 165, []),
  (.caload, 0, 0, 0, 0, []),
  (.iload_n 1, 0, 0, 0, 0, []),
  (.if_icmp .ne 7, 0, 14, 0, 0, []),
  (.iconst 1, 0, 0, 0, 0, []),
  (.goto 4, 0, 15, 0, 0, []),
  (.iconst 0, 0, 0, 0, 0, []),
  (.ireturn, 0, 0, 0, 0, [])]
set_option maxRecDepth 20000 in
/-- PhasorTree.<init>()V -/
def c_P_init : List Ins := [(.aload_n 0, 0, 0, 0, 0, []),
  (.invokespecial 3, 0, 0, 6, 151, []),
  (.aload_n 0, 0, 0, 0, 0, []),
  (.iconst 4, 0, 0, 0, 0, []),
  (.anewarray 9, 0, 4, 0, 154, []),
  (.putfield 11, 0, 6, 0, 386, []),
  (.aload_n 0, 0, 0, 0, 0, []),
  (.new 15, 0, 2, 0, 156, []),
  (.dup, 0, 0, 0, 0, []),
  (.invokespecial 17, 0, 156, 5, 158, []),
  (.putfield 18, 0, 6, 1, 387, []),
  (.aload_n 0, 0, 0, 0, 0, []),
  (.new 9, 0, 4, 0, 154, []),
  (.dup, 0, 0, 0, 0, []),
  (.invokespecial 22, 0, 109, 5, 194, []),
  (.putfield 23, 0, 6, 2, 388, []),
  (.aload_n 0, 0, 0, 0, 0, []),
  (.new 9, 0, 4, 0, 154, []),
  (.dup, 0, 0, 0, 0, []),
  (.invokespecial 22, 0, 109, 5, 194, []),
  (.putfield 27, 0, 6, 3, 389, []),
  (.aload_n 0, 0, 0, 0, 0, []),
  (.iconst 0, 0, 0, 0, 0, []),
  (.putfield 30, 0, 6, 4, 390, []),
  (.iconst 0, 0, 0, 0, 0, []),
  (.istore_n 1, 0, 0, 0, 0, []),
  (.iload_n 1, 0, 0, 0, 0, []),
  (.iconst 4, 0, 0, 0, 0, []),
  (.if_icmp .ge 22, 0, 38, 0, 0, []),
  (.aload_n 0, 0, 0, 0, 0, []),
  (.getfield 11, 0, 6, 0, 386, []),
  (.iload_n 1, 0, 0, 0, 0, []),
  (.new 9, 0, 4, 0, 154, []),
  (.dup, 0, 0, 0, 0, []),
  (.invokespecial 22, 0, 109, 5, 194, []),
  (.aastore, 0, 0, 0, 0, []),
  (.iinc 1 1, 0, 0, 0, 0, []),
  (.goto (-21), 0, 26, 0, 0, []),
  (.return_, 0, 0, 0, 0, [])]
set_option maxRecDepth 20000 in
/-- PhasorTree.hub(II)I -/
def c_P_hub : List Ins := [(.aload_n 0, 0, 0, 0, 0, []),
  (.getfield 23, 0, 6, 2, 388, []),
  (.iload_n 1, 0, 0, 0, 0, []),
  (.iload_n 2, 0, 0, 0, 0, []),
  (.aload_n 0, 0, 0, 0, 0, []),
  (.getfield 23, 0, 6, 2, 388, []),
  (.getfield 34, 0, 4, 4, 350, []),
  (.iconst 5, 0, 0, 0, 0, []),
  (.if_icmp .ge 7, 0, 11, 0, 0, []),
  (.iconst 1, 0, 0, 0, 0, []),
  (.goto 4, 0, 12, 0, 0, []),
  (.iconst 0, 0, 0, 0, 0, []),
  (.invokevirtual 37, 0, 113, 1, 406, []),
  (.istore_n 3, 0, 0, 0, 0, []),
  (.iload_n 3, 0, 0, 0, 0, []),
  (.ifCond .eq 5, 0, 18, 0, 0, []),
  (.iload_n 3, 0, 0, 0, 0, []),
  (.ireturn, 0, 0, 0, 0, []),
  (.aload_n 0, 0, 0, 0, 0, []),
  (.invokevirtual 41, 0, 186, 0, 426, []),
  (.aload_n 0, 0, 0, 0, 0, []),
  (.getfield 23, 0, 6, 2, 388, []),
  (.iload_n 1, 0, 0, 0, 0, []),
  (.iload_n 2, 0, 0, 0, 0, []),
  (.invokevirtual 44, 0, 114, 1, 474, []),
  (.ireturn, 0, 0, 0, 0, [])]
set_option maxRecDepth 20000 in
/-- PhasorTree.unit(II)I -/
def c_P_unit : List Ins := [(.aload_n 0, 0, 0, 0, 0, []),
  (.getfield 23, 0, 6, 2, 388, []),
  (.iload_n 1, 0, 0, 0, 0, []),
  (.iload_n 2, 0, 0, 0, 0, []),
  (.aload_n 0, 0, 0, 0, 0, []),
  (.getfield 23, 0, 6, 2, 388, []),
  (.getfield 48, 0, 4, 5, 352, []),
  (.bipush 10, 0, 0, 0, 0, []),
  (.if_icmp .ge 7, 0, 11, 0, 0, []),
  (.iconst 1, 0, 0, 0, 0, []),
  (.goto 4, 0, 12, 0, 0, []),
  (.iconst 0, 0, 0, 0, 0, []),
  (.invokevirtual 37, 0, 113, 1, 406, []),
  (.istore_n 3, 0, 0, 0, 0, []),
  (.iload_n 3, 0, 0, 0, 0, []),
  (.ifCond .eq 5, 0, 18, 0, 0, []),
  (.iload_n 3, 0, 0, 0, 0, []),
  (.ireturn, 0, 0, 0, 0, []),
  (.aload_n 0, 0, 0, 0, 0, []),
  (.invokevirtual 41, 0, 186, 0, 426, []),
  (.aload_n 0, 0, 0, 0, 0, []),
  (.getfield 23, 0, 6, 2, 388, []),
  (.iload_n 1, 0, 0, 0, 0, []),
  (.iload_n 2, 0, 0, 0, 0, []),
  (.invokevirtual 51, 0, 115, 1, 482, []),
  (.ireturn, 0, 0, 0, 0, [])]
set_option maxRecDepth 20000 in
/-- PhasorTree.takeOff(I)I -/
def c_P_takeOff : List Ins := [(.aload_n 0, 0, 0, 0, 0, []),
  (.getfield 23, 0, 6, 2, 388, []),
  (.iload_n 1, 0, 0, 0, 0, []),
  (.invokevirtual 54, 0, 116, 1, 494, []),
  (.istore_n 2, 0, 0, 0, 0, []),
  (.iload_n 2, 0, 0, 0, 0, []),
  (.ifCond .eq 5, 0, 9, 0, 0, []),
  (.iload_n 2, 0, 0, 0, 0, []),
  (.ireturn, 0, 0, 0, 0, []),
  (.aload_n 0, 0, 0, 0, 0, []),
  (.invokevirtual 41, 0, 186, 0, 426, []),
  (.aload_n 0, 0, 0, 0, 0, []),
  (.getfield 23, 0, 6, 2, 388, []),
  (.iload_n 1, 0, 0, 0, 0, []),
  (.invokevirtual 58, 0, 117, 1, 502, []),
  (.aload_n 0, 0, 0, 0, 0, []),
  (.getfield 23, 0, 6, 2, 388, []),
  (.invokevirtual 62, 0, 126, 1, 506, []),
  (.ireturn, 0, 0, 0, 0, [])]
set_option maxRecDepth 20000 in
/-- PhasorTree.set(III)I -/
def c_P_set : List Ins := [(.aload_n 0, 0, 0, 0, 0, []),
  (.getfield 23, 0, 6, 2, 388, []),
  (.iload_n 1, 0, 0, 0, 0, []),
  (.iload_n 2, 0, 0, 0, 0, []),
  (.iload_n 3, 0, 0, 0, 0, []),
  (.invokevirtual 66, 0, 118, 1, 522, []),
  (.istore 4, 0, 0, 0, 0, []),
  (.iload 4, 0, 0, 0, 0, []),
  (.ifCond .eq 6, 0, 11, 0, 0, []),
  (.iload 4, 0, 0, 0, 0, []),
  (.ireturn, 0, 0, 0, 0, []),
  (.aload_n 0, 0, 0, 0, 0, []),
  (.invokevirtual 41, 0, 186, 0, 426, []),
  (.aload_n 0, 0, 0, 0, 0, []),
  (.getfield 23, 0, 6, 2, 388, []),
  (.iload_n 1, 0, 0, 0, 0, []),
  (.iload_n 2, 0, 0, 0, 0, []),
  (.iload_n 3, 0, 0, 0, 0, []),
  (.invokevirtual 70, 0, 120, 1, 546, []),
  (.ireturn, 0, 0, 0, 0, [])]
set_option maxRecDepth 20000 in
/-- PhasorTree.hubOf(II)I -/
def c_P_hubOf : List Ins := [(.aload_n 0, 0, 0, 0, 0, []),
  (.getfield 23, 0, 6, 2, 388, []),
  (.iload_n 1, 0, 0, 0, 0, []),
  (.invokevirtual 73, 0, 111, 1, 554, []),
  (.ifCond .eq 13, 0, 10, 0, 0, []),
  (.iload_n 2, 0, 0, 0, 0, []),
  (.iconst 0, 0, 0, 0, 0, []),
  (.bipush 14, 0, 0, 0, 0, []),
  (.invokestatic 77, 0, 187, 2, 555, []),
  (.ifCond .ne 6, 0, 12, 0, 0, []),
  (.ldc 81, (-1000001), 0, 0, 556, []),
  (.ireturn, 0, 0, 0, 0, []),
  (.aload_n 0, 0, 0, 0, 0, []),
  (.getfield 23, 0, 6, 2, 388, []),
  (.iload_n 1, 0, 0, 0, 0, []),
  (.iload_n 2, 0, 0, 0, 0, []),
  (.invokevirtual 82, 0, 129, 1, 557, []),
  (.ireturn, 0, 0, 0, 0, [])]
set_option maxRecDepth 20000 in
/-- PhasorTree.unitOf(II)I -/
def c_P_unitOf : List Ins := [(.aload_n 0, 0, 0, 0, 0, []),
  (.getfield 23, 0, 6, 2, 388, []),
  (.iload_n 1, 0, 0, 0, 0, []),
  (.invokevirtual 85, 0, 112, 1, 578, []),
  (.ifCond .eq 13, 0, 10, 0, 0, []),
  (.iload_n 2, 0, 0, 0, 0, []),
  (.iconst 0, 0, 0, 0, 0, []),
  (.bipush 6, 0, 0, 0, 0, []),
  (.invokestatic 77, 0, 187, 2, 555, []),
  (.ifCond .ne 6, 0, 12, 0, 0, []),
  (.ldc 81, (-1000001), 0, 0, 556, []),
  (.ireturn, 0, 0, 0, 0, []),
  (.aload_n 0, 0, 0, 0, 0, []),
  (.getfield 23, 0, 6, 2, 388, []),
  (.iload_n 1, 0, 0, 0, 0, []),
  (.iload_n 2, 0, 0, 0, 0, []),
  (.invokevirtual 88, 0, 130, 1, 579, []),
  (.ireturn, 0, 0, 0, 0, [])]
set_option maxRecDepth 20000 in
/-- PhasorTree.unitAt(II)I -/
def c_P_unitAt : List Ins := [(.aload_n 0, 0, 0, 0, 0, []),
  (.getfield 23, 0, 6, 2, 388, []),
  (.iload_n 1, 0, 0, 0, 0, []),
  (.invokevirtual 73, 0, 111, 1, 554, []),
  (.ifCond .eq 7, 0, 7, 0, 0, []),
  (.iload_n 2, 0, 0, 0, 0, []),
  (.ifCond .ge 6, 0, 9, 0, 0, []),
  (.ldc 81, (-1000001), 0, 0, 556, []),
  (.ireturn, 0, 0, 0, 0, []),
  (.aload_n 0, 0, 0, 0, 0, []),
  (.getfield 23, 0, 6, 2, 388, []),
  (.iload_n 1, 0, 0, 0, 0, []),
  (.iload_n 2, 0, 0, 0, 0, []),
  (.invokevirtual 91, 0, 127, 1, 591, []),
  (.ireturn, 0, 0, 0, 0, [])]
set_option maxRecDepth 20000 in
/-- PhasorTree.send(IIIII)I -/
def c_P_send : List Ins := [(.aload_n 0, 0, 0, 0, 0, []),
  (.getfield 23, 0, 6, 2, 388, []),
  (.iload_n 1, 0, 0, 0, 0, []),
  (.iload_n 2, 0, 0, 0, 0, []),
  (.iload_n 3, 0, 0, 0, 0, []),
  (.iload 4, 0, 0, 0, 0, []),
  (.iload 5, 0, 0, 0, 0, []),
  (.invokevirtual 94, 0, 131, 1, 599, []),
  (.istore 6, 0, 0, 0, 0, []),
  (.iload 6, 0, 0, 0, 0, []),
  (.ifCond .eq 6, 0, 13, 0, 0, []),
  (.iload 6, 0, 0, 0, 0, []),
  (.ireturn, 0, 0, 0, 0, []),
  (.aload_n 0, 0, 0, 0, 0, []),
  (.invokevirtual 41, 0, 186, 0, 426, []),
  (.aload_n 0, 0, 0, 0, 0, []),
  (.getfield 23, 0, 6, 2, 388, []),
  (.iload_n 1, 0, 0, 0, 0, []),
  (.iload_n 2, 0, 0, 0, 0, []),
  (.iload_n 3, 0, 0, 0, 0, []),
  (.iload 4, 0, 0, 0, 0, []),
  (.iload 5, 0, 0, 0, 0, []),
  (.invokevirtual 98, 0, 132, 1, 606, []),
  (.aload_n 0, 0, 0, 0, 0, []),
  (.getfield 23, 0, 6, 2, 388, []),
  (.getfield 102, 0, 4, 2, 347, []),
  (.getfield 106, 0, 3, 1, 215, []),
  (.ireturn, 0, 0, 0, 0, [])]
set_option maxRecDepth 20000 in
/-- PhasorTree.pass(I)I -/
def c_P_pass : List Ins := [(.aload_n 0, 0, 0, 0, 0, []),
  (.getfield 23, 0, 6, 2, 388, []),
  (.iload_n 1, 0, 0, 0, 0, []),
  (.invokevirtual 111, 0, 133, 1, 624, []),
  (.istore_n 2, 0, 0, 0, 0, []),
  (.iload_n 2, 0, 0, 0, 0, []),
  (.ifCond .eq 5, 0, 9, 0, 0, []),
  (.iload_n 2, 0, 0, 0, 0, []),
  (.ireturn, 0, 0, 0, 0, []),
  (.aload_n 0, 0, 0, 0, 0, []),
  (.invokevirtual 41, 0, 186, 0, 426, []),
  (.aload_n 0, 0, 0, 0, 0, []),
  (.getfield 23, 0, 6, 2, 388, []),
  (.iload_n 1, 0, 0, 0, 0, []),
  (.invokevirtual 114, 0, 134, 1, 628, []),
  (.aload_n 0, 0, 0, 0, 0, []),
  (.getfield 23, 0, 6, 2, 388, []),
  (.getfield 117, 0, 4, 6, 354, []),
  (.ireturn, 0, 0, 0, 0, [])]
set_option maxRecDepth 20000 in
/-- PhasorTree.slotAt(III)I -/
def c_P_slotAt : List Ins := [(.aload_n 0, 0, 0, 0, 0, []),
  (.getfield 23, 0, 6, 2, 388, []),
  (.iload_n 1, 0, 0, 0, 0, []),
  (.invokevirtual 73, 0, 111, 1, 554, []),
  (.ifCond .eq 16, 0, 12, 0, 0, []),
  (.iload_n 2, 0, 0, 0, 0, []),
  (.ifCond .lt 12, 0, 12, 0, 0, []),
  (.iload_n 3, 0, 0, 0, 0, []),
  (.iconst 0, 0, 0, 0, 0, []),
  (.iconst 5, 0, 0, 0, 0, []),
  (.invokestatic 77, 0, 187, 2, 555, []),
  (.ifCond .ne 6, 0, 14, 0, 0, []),
  (.ldc 81, (-1000001), 0, 0, 556, []),
  (.ireturn, 0, 0, 0, 0, []),
  (.aload_n 0, 0, 0, 0, 0, []),
  (.getfield 23, 0, 6, 2, 388, []),
  (.iload_n 1, 0, 0, 0, 0, []),
  (.iload_n 2, 0, 0, 0, 0, []),
  (.iload_n 3, 0, 0, 0, 0, []),
  (.invokevirtual 120, 0, 149, 1, 730, []),
  (.ireturn, 0, 0, 0, 0, [])]
set_option maxRecDepth 20000 in
/-- PhasorTree.outAt(II)I -/
def c_P_outAt : List Ins := [(.iload_n 1, 0, 0, 0, 0, []),
  (.ifCond .lt 12, 0, 7, 0, 0, []),
  (.iload_n 2, 0, 0, 0, 0, []),
  (.iconst 0, 0, 0, 0, 0, []),
  (.iconst 4, 0, 0, 0, 0, []),
  (.invokestatic 77, 0, 187, 2, 555, []),
  (.ifCond .ne 6, 0, 9, 0, 0, []),
  (.ldc 81, (-1000001), 0, 0, 556, []),
  (.ireturn, 0, 0, 0, 0, []),
  (.aload_n 0, 0, 0, 0, 0, []),
  (.getfield 23, 0, 6, 2, 388, []),
  (.iload_n 1, 0, 0, 0, 0, []),
  (.iload_n 2, 0, 0, 0, 0, []),
  (.invokevirtual 123, 0, 152, 1, 747, []),
  (.ireturn, 0, 0, 0, 0, [])]
set_option maxRecDepth 20000 in
/-- PhasorTree.readingAt(III)I -/
def c_P_readingAt : List Ins := [(.iload_n 1, 0, 0, 0, 0, []),
  (.ifCond .lt 23, 0, 12, 0, 0, []),
  (.aload_n 0, 0, 0, 0, 0, []),
  (.getfield 23, 0, 6, 2, 388, []),
  (.iload_n 2, 0, 0, 0, 0, []),
  (.invokevirtual 85, 0, 112, 1, 578, []),
  (.ifCond .eq 12, 0, 12, 0, 0, []),
  (.iload_n 3, 0, 0, 0, 0, []),
  (.iconst 0, 0, 0, 0, 0, []),
  (.iconst 1, 0, 0, 0, 0, []),
  (.invokestatic 77, 0, 187, 2, 555, []),
  (.ifCond .ne 6, 0, 14, 0, 0, []),
  (.ldc 81, (-1000001), 0, 0, 556, []),
  (.ireturn, 0, 0, 0, 0, []),
  (.aload_n 0, 0, 0, 0, 0, []),
  (.getfield 23, 0, 6, 2, 388, []),
  (.iload_n 1, 0, 0, 0, 0, []),
  (.invokevirtual 126, 0, 151, 1, 770, []),
  (.astore 4, 0, 0, 0, 0, []),
  (.aload 4, 0, 0, 0, 0, []),
  (.ifnonnull 8, 0, 23, 0, 0, []),
  (.ldc 130, (-1000004), 0, 0, 771, []),
  (.goto 10, 0, 27, 0, 0, []),
  (.aload 4, 0, 0, 0, 0, []),
  (.iload_n 2, 0, 0, 0, 0, []),
  (.iload_n 3, 0, 0, 0, 0, []),
  (.invokevirtual 131, 0, 86, 1, 772, []),
  (.ireturn, 0, 0, 0, 0, [])]
set_option maxRecDepth 20000 in
/-- PhasorTree.heldBy(III)I -/
def c_P_heldBy : List Ins := [(.aload_n 0, 0, 0, 0, 0, []),
  (.getfield 23, 0, 6, 2, 388, []),
  (.iload_n 1, 0, 0, 0, 0, []),
  (.invokevirtual 73, 0, 111, 1, 554, []),
  (.ifCond .eq 23, 0, 15, 0, 0, []),
  (.aload_n 0, 0, 0, 0, 0, []),
  (.getfield 23, 0, 6, 2, 388, []),
  (.iload_n 2, 0, 0, 0, 0, []),
  (.invokevirtual 85, 0, 112, 1, 578, []),
  (.ifCond .eq 12, 0, 15, 0, 0, []),
  (.iload_n 3, 0, 0, 0, 0, []),
  (.iconst 0, 0, 0, 0, 0, []),
  (.iconst 1, 0, 0, 0, 0, []),
  (.invokestatic 77, 0, 187, 2, 555, []),
  (.ifCond .ne 6, 0, 17, 0, 0, []),
  (.ldc 81, (-1000001), 0, 0, 556, []),
  (.ireturn, 0, 0, 0, 0, []),
  (.aload_n 0, 0, 0, 0, 0, []),
  (.getfield 23, 0, 6, 2, 388, []),
  (.getfield 136, 0, 4, 0, 344, []),
  (.iload_n 1, 0, 0, 0, 0, []),
  (.aaload, 0, 0, 0, 0, []),
  (.getfield 140, 0, 1, 2, 281, []),
  (.iload_n 2, 0, 0, 0, 0, []),
  (.iload_n 3, 0, 0, 0, 0, []),
  (.invokevirtual 131, 0, 86, 1, 772, []),
  (.ireturn, 0, 0, 0, 0, [])]
set_option maxRecDepth 20000 in
/-- PhasorTree.nextOut()I -/
def c_P_nextOut : List Ins := [(.aload_n 0, 0, 0, 0, 0, []),
  (.getfield 27, 0, 6, 3, 389, []),
  (.aload_n 0, 0, 0, 0, 0, []),
  (.getfield 23, 0, 6, 2, 388, []),
  (.invokevirtual 146, 0, 110, 1, 430, []),
  (.iconst 1, 0, 0, 0, 0, []),
  (.istore_n 1, 0, 0, 0, 0, []),
  (.iload_n 1, 0, 0, 0, 0, []),
  (.sipush 200, 0, 0, 0, 0, []),
  (.if_icmp .gt 36, 0, 25, 0, 0, []),
  (.aload_n 0, 0, 0, 0, 0, []),
  (.getfield 27, 0, 6, 3, 389, []),
  (.iconst 1, 0, 0, 0, 0, []),
  (.invokevirtual 114, 0, 134, 1, 628, []),
  (.aload_n 0, 0, 0, 0, 0, []),
  (.getfield 27, 0, 6, 3, 389, []),
  (.getfield 150, 0, 4, 7, 356, []),
  (.aload_n 0, 0, 0, 0, 0, []),
  (.getfield 23, 0, 6, 2, 388, []),
  (.getfield 150, 0, 4, 7, 356, []),
  (.if_icmp .le 5, 0, 23, 0, 0, []),
  (.iload_n 1, 0, 0, 0, 0, []),
  (.ireturn, 0, 0, 0, 0, []),
  (.iinc 1 1, 0, 0, 0, 0, []),
  (.goto (-37), 0, 7, 0, 0, []),
  (.ldc 130, (-1000004), 0, 0, 771, []),
  (.ireturn, 0, 0, 0, 0, [])]
set_option maxRecDepth 20000 in
/-- PhasorTree.foresee(I)I -/
def c_P_foresee : List Ins := [(.iload_n 1, 0, 0, 0, 0, []),
  (.iconst 1, 0, 0, 0, 0, []),
  (.sipush 200, 0, 0, 0, 0, []),
  (.invokestatic 77, 0, 187, 2, 555, []),
  (.ifCond .ne 6, 0, 7, 0, 0, []),
  (.ldc 81, (-1000001), 0, 0, 556, []),
  (.ireturn, 0, 0, 0, 0, []),
  (.aload_n 0, 0, 0, 0, 0, []),
  (.getfield 27, 0, 6, 3, 389, []),
  (.aload_n 0, 0, 0, 0, 0, []),
  (.getfield 23, 0, 6, 2, 388, []),
  (.invokevirtual 146, 0, 110, 1, 430, []),
  (.aload_n 0, 0, 0, 0, 0, []),
  (.getfield 27, 0, 6, 3, 389, []),
  (.iload_n 1, 0, 0, 0, 0, []),
  (.invokevirtual 114, 0, 134, 1, 628, []),
  (.aload_n 0, 0, 0, 0, 0, []),
  (.getfield 27, 0, 6, 3, 389, []),
  (.iconst 0, 0, 0, 0, 0, []),
  (.iconst 0, 0, 0, 0, 0, []),
  (.invokevirtual 123, 0, 152, 1, 747, []),
  (.ireturn, 0, 0, 0, 0, [])]
set_option maxRecDepth 20000 in
/-- PhasorTree.count(I)I -/
def c_P_count : List Ins := [(.iload_n 1, 0, 0, 0, 0, []),
  (.lookupswitch 40 #[(9, 27), (10, 32)], 0, 0, 0, 27, [9, 2, 5]),
  (.aload_n 0, 0, 0, 0, 0, []),
  (.getfield 30, 0, 6, 4, 390, []),
  (.ireturn, 0, 0, 0, 0, []),
  (.aload_n 0, 0, 0, 0, 0, []),
  (.getfield 18, 0, 6, 1, 387, []),
  (.getfield 153, 0, 2, 1, 164, []),
  (.ireturn, 0, 0, 0, 0, []),
  (.iload_n 1, 0, 0, 0, 0, []),
  (.iconst 0, 0, 0, 0, 0, []),
  (.bipush 8, 0, 0, 0, 0, []),
  (.invokestatic 77, 0, 187, 2, 555, []),
  (.ifCond .eq 14, 0, 19, 0, 0, []),
  (.aload_n 0, 0, 0, 0, 0, []),
  (.getfield 23, 0, 6, 2, 388, []),
  (.iload_n 1, 0, 0, 0, 0, []),
  (.invokevirtual 156, 0, 153, 1, 793, []),
  (.goto 5, 0, 20, 0, 0, []),
  (.ldc 81, (-1000001), 0, 0, 556, []),
  (.ireturn, 0, 0, 0, 0, [])]
set_option maxRecDepth 20000 in
/-- PhasorTree.undo()I -/
def c_P_undo : List Ins := [(.aload_n 0, 0, 0, 0, 0, []),
  (.getfield 30, 0, 6, 4, 390, []),
  (.ifCond .ne 6, 0, 5, 0, 0, []),
  (.ldc 159, (-1000002), 0, 0, 810, []),
  (.ireturn, 0, 0, 0, 0, []),
  (.aload_n 0, 0, 0, 0, 0, []),
  (.dup, 0, 0, 0, 0, []),
  (.getfield 30, 0, 6, 4, 390, []),
  (.iconst 1, 0, 0, 0, 0, []),
  (.isub, 0, 0, 0, 0, []),
  (.putfield 30, 0, 6, 4, 390, []),
  (.aload_n 0, 0, 0, 0, 0, []),
  (.getfield 23, 0, 6, 2, 388, []),
  (.astore_n 1, 0, 0, 0, 0, []),
  (.aload_n 0, 0, 0, 0, 0, []),
  (.aload_n 0, 0, 0, 0, 0, []),
  (.getfield 11, 0, 6, 0, 386, []),
  (.aload_n 0, 0, 0, 0, 0, []),
  (.getfield 30, 0, 6, 4, 390, []),
  (.aaload, 0, 0, 0, 0, []),
  (.putfield 23, 0, 6, 2, 388, []),
  (.aload_n 0, 0, 0, 0, 0, []),
  (.getfield 11, 0, 6, 0, 386, []),
  (.aload_n 0, 0, 0, 0, 0, []),
  (.getfield 30, 0, 6, 4, 390, []),
  (.aload_n 1, 0, 0, 0, 0, []),
  (.aastore, 0, 0, 0, 0, []),
  (.aload_n 0, 0, 0, 0, 0, []),
  (.getfield 30, 0, 6, 4, 390, []),
  (.ireturn, 0, 0, 0, 0, [])]
set_option maxRecDepth 20000 in
/-- PhasorTree.type(I)I -/
def c_P_type : List Ins := [(.iload_n 1, 0, 0, 0, 0, []),
  (.bipush 32, 0, 0, 0, 0, []),
  (.bipush 126, 0, 0, 0, 0, []),
  (.invokestatic 77, 0, 187, 2, 555, []),
  (.ifCond .ne 6, 0, 7, 0, 0, []),
  (.ldc 81, (-1000001), 0, 0, 556, []),
  (.ireturn, 0, 0, 0, 0, []),
  (.aload_n 0, 0, 0, 0, 0, []),
  (.getfield 18, 0, 6, 1, 387, []),
  (.iload_n 1, 0, 0, 0, 0, []),
  (.i2c, 0, 0, 0, 0, []),
  (.invokevirtual 160, 0, 157, 1, 815, []),
  (.ifCond .eq 13, 0, 17, 0, 0, []),
  (.aload_n 0, 0, 0, 0, 0, []),
  (.getfield 18, 0, 6, 1, 387, []),
  (.getfield 153, 0, 2, 1, 164, []),
  (.goto 5, 0, 18, 0, 0, []),
  (.ldc 164, (-1000003), 0, 0, 819, []),
  (.ireturn, 0, 0, 0, 0, [])]
set_option maxRecDepth 20000 in
/-- PhasorTree.clearText()I -/
def c_P_clearText : List Ins := [(.aload_n 0, 0, 0, 0, 0, []),
  (.getfield 18, 0, 6, 1, 387, []),
  (.getfield 153, 0, 2, 1, 164, []),
  (.istore_n 1, 0, 0, 0, 0, []),
  (.aload_n 0, 0, 0, 0, 0, []),
  (.getfield 18, 0, 6, 1, 387, []),
  (.iconst 0, 0, 0, 0, 0, []),
  (.putfield 153, 0, 2, 1, 164, []),
  (.iload_n 1, 0, 0, 0, 0, []),
  (.ireturn, 0, 0, 0, 0, [])]
set_option maxRecDepth 20000 in
/-- PhasorTree.fault(I)I -/
def c_P_fault : List Ins := [(.iload_n 1, 0, 0, 0, 0, []),
  (.iconst 0, 0, 0, 0, 0, []),
  (.iconst 1, 0, 0, 0, 0, []),
  (.invokestatic 77, 0, 187, 2, 555, []),
  (.ifCond .ne 6, 0, 7, 0, 0, []),
  (.ldc 81, (-1000001), 0, 0, 556, []),
  (.ireturn, 0, 0, 0, 0, []),
  (.aload_n 0, 0, 0, 0, 0, []),
  (.getfield 18, 0, 6, 1, 387, []),
  (.aload_n 0, 0, 0, 0, 0, []),
  (.getfield 27, 0, 6, 3, 389, []),
  (.aload_n 0, 0, 0, 0, 0, []),
  (.getfield 23, 0, 6, 2, 388, []),
  (.invokevirtual 165, 0, 158, 1, 828, []),
  (.aload_n 0, 0, 0, 0, 0, []),
  (.getfield 18, 0, 6, 1, 387, []),
  (.getfield 169, 0, 2, 7, 173, []),
  (.ifCond .ne 6, 0, 20, 0, 0, []),
  (.ldc 130, (-1000004), 0, 0, 771, []),
  (.ireturn, 0, 0, 0, 0, []),
  (.iload_n 1, 0, 0, 0, 0, []),
  (.ifCond .ne 13, 0, 26, 0, 0, []),
  (.aload_n 0, 0, 0, 0, 0, []),
  (.getfield 18, 0, 6, 1, 387, []),
  (.getfield 172, 0, 2, 6, 171, []),
  (.goto 10, 0, 29, 0, 0, []),
  (.aload_n 0, 0, 0, 0, 0, []),
  (.getfield 18, 0, 6, 1, 387, []),
  (.getfield 169, 0, 2, 7, 173, []),
  (.ireturn, 0, 0, 0, 0, [])]
set_option maxRecDepth 20000 in
/-- PhasorTree.play()I -/
def c_P_play : List Ins := [(.aload_n 0, 0, 0, 0, 0, []),
  (.getfield 18, 0, 6, 1, 387, []),
  (.aload_n 0, 0, 0, 0, 0, []),
  (.getfield 27, 0, 6, 3, 389, []),
  (.aload_n 0, 0, 0, 0, 0, []),
  (.getfield 23, 0, 6, 2, 388, []),
  (.invokevirtual 165, 0, 158, 1, 828, []),
  (.aload_n 0, 0, 0, 0, 0, []),
  (.getfield 18, 0, 6, 1, 387, []),
  (.getfield 169, 0, 2, 7, 173, []),
  (.ifCond .eq 6, 0, 13, 0, 0, []),
  (.ldc 159, (-1000002), 0, 0, 810, []),
  (.ireturn, 0, 0, 0, 0, []),
  (.aload_n 0, 0, 0, 0, 0, []),
  (.invokevirtual 41, 0, 186, 0, 426, []),
  (.aload_n 0, 0, 0, 0, 0, []),
  (.getfield 27, 0, 6, 3, 389, []),
  (.astore_n 1, 0, 0, 0, 0, []),
  (.aload_n 0, 0, 0, 0, 0, []),
  (.aload_n 0, 0, 0, 0, 0, []),
  (.getfield 23, 0, 6, 2, 388, []),
  (.putfield 27, 0, 6, 3, 389, []),
  (.aload_n 0, 0, 0, 0, 0, []),
  (.aload_n 1, 0, 0, 0, 0, []),
  (.putfield 23, 0, 6, 2, 388, []),
  (.aload_n 0, 0, 0, 0, 0, []),
  (.getfield 18, 0, 6, 1, 387, []),
  (.getfield 175, 0, 2, 5, 169, []),
  (.ireturn, 0, 0, 0, 0, [])]
set_option maxRecDepth 20000 in
/-- PhasorTree.remember()V -/
def c_P_remember : List Ins := [(.aload_n 0, 0, 0, 0, 0, []),
  (.getfield 30, 0, 6, 4, 390, []),
  (.iconst 4, 0, 0, 0, 0, []),
  (.if_icmp .ne 57, 0, 38, 0, 0, []),
  (.aload_n 0, 0, 0, 0, 0, []),
  (.getfield 11, 0, 6, 0, 386, []),
  (.iconst 0, 0, 0, 0, 0, []),
  (.aaload, 0, 0, 0, 0, []),
  (.astore_n 1, 0, 0, 0, 0, []),
  (.iconst 1, 0, 0, 0, 0, []),
  (.istore_n 2, 0, 0, 0, 0, []),
  (.iload_n 2, 0, 0, 0, 0, []),
  (.iconst 4, 0, 0, 0, 0, []),
  (.if_icmp .ge 23, 0, 26, 0, 0, []),
  (.aload_n 0, 0, 0, 0, 0, []),
  (.getfield 11, 0, 6, 0, 386, []),
  (.iload_n 2, 0, 0, 0, 0, []),
  (.iconst 1, 0, 0, 0, 0, []),
  (.isub, 0, 0, 0, 0, []),
  (.aload_n 0, 0, 0, 0, 0, []),
  (.getfield 11, 0, 6, 0, 386, []),
  (.iload_n 2, 0, 0, 0, 0, []),
  (.aaload, 0, 0, 0, 0, []),
  (.aastore, 0, 0, 0, 0, []),
  (.iinc 2 1, 0, 0, 0, 0, []),
  (.goto (-22), 0, 11, 0, 0, []),
  (.aload_n 0, 0, 0, 0, 0, []),
  (.dup, 0, 0, 0, 0, []),
  (.getfield 30, 0, 6, 4, 390, []),
  (.iconst 1, 0, 0, 0, 0, []),
  (.isub, 0, 0, 0, 0, []),
  (.putfield 30, 0, 6, 4, 390, []),
  (.aload_n 0, 0, 0, 0, 0, []),
  (.getfield 11, 0, 6, 0, 386, []),
  (.aload_n 0, 0, 0, 0, 0, []),
  (.getfield 30, 0, 6, 4, 390, []),
  (.aload_n 1, 0, 0, 0, 0, []),
  (.aastore, 0, 0, 0, 0, []),
  (.aload_n 0, 0, 0, 0, 0, []),
  (.getfield 11, 0, 6, 0, 386, []),
  (.aload_n 0, 0, 0, 0, 0, []),
  (.getfield 30, 0, 6, 4, 390, []),
  (.aaload, 0, 0, 0, 0, []),
  (.aload_n 0, 0, 0, 0, 0, []),
  (.getfield 23, 0, 6, 2, 388, []),
  (.invokevirtual 146, 0, 110, 1, 430, []),
  (.aload_n 0, 0, 0, 0, 0, []),
  (.dup, 0, 0, 0, 0, []),
  (.getfield 30, 0, 6, 4, 390, []),
  (.iconst 1, 0, 0, 0, 0, []),
  (.iadd, 0, 0, 0, 0, []),
  (.putfield 30, 0, 6, 4, 390, []),
  (.return_, 0, 0, 0, 0, [])]
set_option maxRecDepth 20000 in
/-- PhasorTree.isWithin(III)Z -/
def c_P_isWithin : List Ins := [(.iload_n 0, 0, 0, 0, 0, []),
  (.iload_n 1, 0, 0, 0, 0, []),
  (.if_icmp .lt 12, 0, 8, 0, 0, []),
  (.iload_n 0, 0, 0, 0, 0, []),
  (.iload_n 2, 0, 0, 0, 0, []),
  (.if_icmp .gt 7, 0, 8, 0, 0, []),
  (.iconst 1, 0, 0, 0, 0, []),
  (.goto 4, 0, 9, 0, 0, []),
  (.iconst 0, 0, 0, 0, 0, []),
  (.ireturn, 0, 0, 0, 0, [])]
set_option maxRecDepth 20000 in
/-- PhasorTree.isMultiple(II)Z -/
def c_P_isMultiple : List Ins := [(.iload_n 1, 0, 0, 0, 0, []),
  (.ifCond .le 13, 0, 8, 0, 0, []),
  (.iload_n 0, 0, 0, 0, 0, []),
  (.iload_n 1, 0, 0, 0, 0, []),
  (.irem, 0, 0, 0, 0, []),
  (.ifCond .ne 7, 0, 8, 0, 0, []),
  (.iconst 1, 0, 0, 0, 0, []),
  (.goto 4, 0, 9, 0, 0, []),
  (.iconst 0, 0, 0, 0, 0, []),
  (.ireturn, 0, 0, 0, 0, [])]
set_option maxRecDepth 20000 in
/-- PhasorTree.quotient(II)I -/
def c_P_quotient : List Ins := [(.iload_n 1, 0, 0, 0, 0, []),
  (.ifCond .le 9, 0, 6, 0, 0, []),
  (.iload_n 0, 0, 0, 0, 0, []),
  (.iload_n 1, 0, 0, 0, 0, []),
  (.idiv, 0, 0, 0, 0, []),
  (.goto 4, 0, 7, 0, 0, []),
  (.iconst 0, 0, 0, 0, 0, []),
  (.ireturn, 0, 0, 0, 0, [])]
set_option maxRecDepth 20000 in
/-- PhasorTree.goTogether(II)Z -/
def c_P_goTogether : List Ins := [(.iload_n 0, 0, 0, 0, 0, []),
  (.iload_n 1, 0, 0, 0, 0, []),
  (.invokestatic 178, 0, 188, 2, 421, []),
  (.ifCond .ne 11, 0, 8, 0, 0, []),
  (.iload_n 1, 0, 0, 0, 0, []),
  (.iload_n 0, 0, 0, 0, 0, []),
  (.invokestatic 178, 0, 188, 2, 421, []),
  (.ifCond .eq 7, 0, 10, 0, 0, []),
  (.iconst 1, 0, 0, 0, 0, []),
  (.goto 4, 0, 11, 0, 0, []),
  (.iconst 0, 0, 0, 0, 0, []),
  (.ireturn, 0, 0, 0, 0, [])]
set_option maxRecDepth 20000 in
/-- java/util/Arrays.fill([II)V -/
def c_JA_fill : List Ins := [(.iconst 0, 0, 0, 0, 0, []),
  (.istore_n 2, 0, 0, 0, 0, []),
  (.aload_n 0, 0, 0, 0, 0, []),
  (.arraylength, 0, 0, 0, 0, []),
  (.istore_n 3, 0, 0, 0, 0, []),
  (.iload_n 2, 0, 0, 0, 0, []),
  (.iload_n 3, 0, 0, 0, 0, []),
  (.if_icmp .ge 13, 0, 14, 0, 0, []),
  (.aload_n 0, 0, 0, 0, 0, []),
  (.iload_n 2, 0, 0, 0, 0, []),
  (.iload_n 1, 0, 0, 0, 0, []),
  (.iastore, 0, 0, 0, 0, []),
  (.iinc 2 1, 0, 0, 0, 0, []),
  (.goto (-12), 0, 5, 0, 0, []),
  (.return_, 0, 0, 0, 0, [])]
set_option maxRecDepth 20000 in
/-- java/lang/Integer.bitCount(I)I -/
def c_JI_bitCount : List Ins := [(.iload_n 0, 0, 0, 0, 0, []),
  (.iload_n 0, 0, 0, 0, 0, []),
  (.iconst 1, 0, 0, 0, 0, []),
  (.iushr, 0, 0, 0, 0, []),
  (.ldc_w 265, 1431655765, 0, 0, 763, []),
  (.iand, 0, 0, 0, 0, []),
  (.isub, 0, 0, 0, 0, []),
  (.istore_n 0, 0, 0, 0, 0, []),
  (.iload_n 0, 0, 0, 0, 0, []),
  (.ldc_w 266, 858993459, 0, 0, 764, []),
  (.iand, 0, 0, 0, 0, []),
  (.iload_n 0, 0, 0, 0, 0, []),
  (.iconst 2, 0, 0, 0, 0, []),
  (.iushr, 0, 0, 0, 0, []),
  (.ldc_w 266, 858993459, 0, 0, 764, []),
  (.iand, 0, 0, 0, 0, []),
  (.iadd, 0, 0, 0, 0, []),
  (.istore_n 0, 0, 0, 0, 0, []),
  (.iload_n 0, 0, 0, 0, 0, []),
  (.iload_n 0, 0, 0, 0, 0, []),
  (.iconst 4, 0, 0, 0, 0, []),
  (.iushr, 0, 0, 0, 0, []),
  (.iadd, 0, 0, 0, 0, []),
  (.ldc_w 267, 252645135, 0, 0, 765, []),
  (.iand, 0, 0, 0, 0, []),
  (.istore_n 0, 0, 0, 0, 0, []),
  (.iload_n 0, 0, 0, 0, 0, []),
  (.iload_n 0, 0, 0, 0, 0, []),
  (.bipush 8, 0, 0, 0, 0, []),
  (.iushr, 0, 0, 0, 0, []),
  (.iadd, 0, 0, 0, 0, []),
  (.istore_n 0, 0, 0, 0, 0, []),
  (.iload_n 0, 0, 0, 0, 0, []),
  (.iload_n 0, 0, 0, 0, 0, []),
  (.bipush 16, 0, 0, 0, 0, []),
  (.iushr, 0, 0, 0, 0, []),
  (.iadd, 0, 0, 0, 0, []),
  (.istore_n 0, 0, 0, 0, 0, []),
  (.iload_n 0, 0, 0, 0, 0, []),
  (.bipush 63, 0, 0, 0, 0, []),
  (.iand, 0, 0, 0, 0, []),
  (.ireturn, 0, 0, 0, 0, [])]
set_option maxRecDepth 20000 in
def ev_cods : List (List Ins) := [c_L_law, c_m_init, c_m_in, c_m_of, c_m_its, c_m_fr, c_m_lays, c_m_isHub, c_m_isUnit, c_m_isOn, c_m_keeps, c_m_acted, c_m_puts, c_m_restores, c_m_goWith, c_m_isChild, c_m_periodOf, c_m_through, c_m_isOf, c_m_depth, c_m_on, c_m_hub, c_m_unit, c_m_takesOff, c_m_takeOff, c_m_canHave, c_m_set, c_m_children, c_m_unitsOf, c_m_onWay, c_m_hubOf, c_m_unitOf, c_m_unitAt, c_m_isIn, c_m_behind, c_m_slots, c_m_isQuick, c_m_expects, c_m_frames, c_m_expected, c_m_isComplete, c_m_firstCame, c_m_lasts, c_m_free, c_m_comes, c_m_plain, c_m_gathers, c_m_filtered, c_m_held, c_m_reads, c_m_outs, c_m_sends, c_m_releases, c_m_asks, c_m_nextFrame, c_m_tick, c_m_allOnWay, c_m_sendsOne, c_m_send, c_m_passes, c_m_pass, c_m_slotAt, c_m_ones, c_m_outAt, c_m_readingAt, c_m_heldBy, c_m_nextOut, c_m_foresee, c_m_sumOf, c_m_count, c_m_undo, c_m_type, c_m_clearText, c_m_has, c_m_takes, c_m_readsForm, c_m_does, c_m_doesNext, c_m_faulty, c_m_fault, c_m_play, c_F_init, c_F_copyFrom, c_F_begin, c_F_has, c_F_put, c_F_readingFact, c_F_flagsTogether, c_R_init, c_R_copyFrom, c_R_insert, c_R_grow, c_R_swap, c_R_removeFirst, c_R_framesFrom, c_R_slotEnd, c_R_slotStart, c_R_slots, c_R_placeFor, c_R_hasIn, c_U_init, c_U_begin, c_U_copyFrom, c_H_init, c_H_begin, c_H_copyFrom, c_H_isUntouched, c_H_slotFor, c_H_waitLeft, c_T_init, c_T_copyFrom, c_T_hasHub, c_T_hasUnit, c_T_joinError, c_T_addHub, c_T_addUnit, c_T_retireError, c_T_retire, c_T_settingError, c_T_canHavePeriod, c_T_changeSetting, c_T_isChild, c_T_periodOf, c_T_childToward, c_T_childrenOf, c_T_unitsUnder, c_T_unitsLeft, c_T_unitOfHub, c_T_delayToRoot, c_T_hubFact, c_T_unitFact, c_T_departError, c_T_depart, c_T_elapseError, c_T_elapse, c_T_bringDueFrames, c_T_arrive, c_T_expectedOf, c_T_expectedOfAll, c_T_isComplete, c_T_isFirstSlotReady, c_T_releaseReadySlots, c_T_putOut, c_T_build, c_T_takeHeld, c_T_takeStamped, c_T_takeFiltered, c_T_hasValidReading, c_T_insertSorted, c_T_slotFact, c_T_outputsKept, c_T_output, c_T_outputFact, c_T_total, c_T_lateOfAll, c_T_doublesOfAll, c_O_init, c_O_append, c_O_perform, c_O_reasonAgainst, c_O_orderError, c_O_readOrder, c_O_readNumber, c_O_isAt, c_P_init, c_P_hub, c_P_unit, c_P_takeOff, c_P_set, c_P_hubOf, c_P_unitOf, c_P_unitAt, c_P_send, c_P_pass, c_P_slotAt, c_P_outAt, c_P_readingAt, c_P_heldBy, c_P_nextOut, c_P_foresee, c_P_count, c_P_undo, c_P_type, c_P_clearText, c_P_fault, c_P_play, c_P_remember, c_P_isWithin, c_P_isMultiple, c_P_quotient, c_P_goTogether, c_JA_fill, c_JI_bitCount]
set_option maxRecDepth 20000 in
def ev_pcss : List (List Nat) := [
  [0, 3, 4, 7, 8, 11, 12, 15, 16, 17, 18, 19, 20, 21, 23, 24, 27, 28, 29, 30, 32, 33, 132, 133, 134, 135, 136, 137, 138, 139, 140, 141, 142, 143, 146, 147, 148, 149, 150, 151, 152, 153, 154, 155, 156, 157, 160, 163, 164, 165, 166, 167, 168, 169, 170, 171, 172, 173, 174, 175, 176, 179, 180, 181, 182, 183, 184, 185, 186, 187, 188, 189, 190, 193, 196, 197, 198, 199, 200, 201, 202, 203, 204, 207, 208, 209, 210, 211, 212, 213, 216, 219, 220, 221, 222, 223, 224, 225, 226, 227, 228, 229, 230, 231, 232, 233, 234, 235, 236, 237, 240, 241, 242, 243, 244, 245, 246, 247, 248, 249, 250, 251, 252, 253, 254, 255, 256, 259, 262, 263, 264, 265, 266, 267, 268, 269, 270, 271, 272, 273, 274, 275, 278, 279, 280, 281, 282, 283, 284, 285, 286, 287, 288, 289, 292, 295, 296, 297, 298, 299, 300, 301, 302, 303, 304, 305, 306, 307, 308, 311, 312, 313, 314, 315, 316, 317, 318, 319, 320, 321, 322, 325, 328, 329, 330, 331, 332, 333, 334, 335, 336, 337, 338, 339, 340, 341, 344, 345, 346, 347, 348, 349, 350, 351, 352, 353, 354, 355, 358, 361, 362, 363, 364, 365, 366, 367, 368, 369, 370, 371, 372, 373, 374, 375, 376, 377, 378, 379, 380, 381, 382, 383, 384, 385, 386, 387, 388, 389, 392, 393, 394, 395, 396, 397, 398, 399, 400, 401, 402, 403, 404, 405, 406, 407, 408, 409, 410, 411, 412, 413, 414, 415, 416, 417, 418, 421, 424, 425, 426, 427, 428, 429, 430, 431, 432, 435, 436, 437, 438, 439, 440, 441, 444, 447, 448, 449, 450, 451, 452, 453, 454, 455, 456, 457, 458, 459, 460, 461, 462, 463, 464, 465, 468, 469, 470, 471, 472, 473, 474, 475, 476, 477, 478, 479, 480, 481, 482, 483, 484, 487, 490, 491, 492, 493, 494, 495, 496, 497, 498, 499, 500, 501, 502, 503, 506, 507, 508, 509, 510, 511, 512, 513, 514, 515, 516, 517, 520, 523, 524, 525, 526, 527, 528, 529, 530, 531, 532, 533, 534, 535, 536, 537, 538, 539, 540, 541, 544, 545, 546, 547, 548, 549, 550, 551, 552, 553, 554, 555, 556, 557, 558, 559, 560, 563, 566, 567, 568, 569, 570, 571, 572, 573, 574, 575, 576, 577, 578, 579, 580, 581, 582, 583, 584, 587, 588, 589, 590, 591, 592, 593, 594, 595, 596, 597, 598, 599, 600, 601, 602, 603, 606, 609, 610, 611, 612, 615, 616, 619, 622, 623, 624, 625, 626, 627, 628, 629, 630, 633, 634, 635, 636, 637, 638, 639, 642, 645, 646, 647, 648, 649, 650, 651, 652, 653, 656, 657, 658, 659, 660, 661, 662, 665, 668, 669, 670, 671, 674, 675, 678, 681, 682, 683, 684, 685, 686, 687, 688, 689, 692, 693, 694, 695, 696, 697, 698, 701, 704, 705, 706, 707, 710, 711, 714, 717, 718, 719, 720, 721, 722, 723, 724, 725, 728, 729, 730, 731, 732, 733, 734, 737, 740, 741, 742, 743, 746, 747, 750, 753, 754, 755, 758, 761, 762],
  [0, 1, 4, 5, 8, 10, 13, 14, 16, 18, 21, 22, 25, 27, 30, 31, 34, 36, 39, 40, 42, 44, 47, 48, 49, 51, 54, 55, 57, 59, 62, 63, 65, 67, 70, 71, 74, 76, 79, 80, 83, 84, 85, 86, 87, 90, 92, 93, 94, 95, 98, 100, 101, 102],
  [0, 1, 2, 5, 6, 7, 10, 11, 14, 15],
  [0, 1, 4, 6, 8, 9, 10, 11, 12, 13, 14],
  [0, 1, 4, 6, 7, 8, 9, 10, 11, 12, 13],
  [0, 1, 4, 7, 9, 10, 11, 12, 13, 14, 15],
  [0, 1, 4, 7, 9, 10, 11, 12, 13, 14, 15, 16],
  [0, 1, 2, 3, 6, 7, 8, 9, 10, 13],
  [0, 1, 2, 3, 6, 7, 8, 9, 10, 13],
  [0, 1, 2, 3, 6, 9, 10, 13, 14],
  [0, 1, 2, 3, 6, 9, 10, 13, 14, 15, 18, 19, 20, 21, 24, 27],
  [0, 1, 3, 6, 7, 10, 11, 14, 15, 16, 17, 19, 22, 23, 26, 27, 28, 31, 32, 35, 36, 37, 38, 41, 44, 45, 46, 49, 50, 51, 54, 55, 56, 57, 60, 63, 64, 67, 70, 71, 74, 75, 76, 77, 78, 81, 82, 83, 84, 87, 90, 91, 92, 95, 96, 97, 100, 101],
  [0, 1, 2, 3, 6, 9, 10, 13, 14, 15, 18, 19, 20, 21, 24, 27],
  [0, 1, 2, 3, 6, 9, 10, 13, 14, 15, 18, 19, 20, 21, 24, 27],
  [0, 1, 2, 3, 6, 7, 8, 9, 12, 13, 16, 17],
  [0, 1, 3, 6, 7, 8, 11, 14, 15, 16, 19, 22, 23, 24, 25, 28, 29, 32, 33, 36, 37, 38, 39, 40, 42, 43, 46, 49, 50, 51, 53, 54, 55, 58, 59, 62, 63, 66, 67],
  [0, 1, 3, 6, 7, 8, 9, 12, 15, 16, 17, 19, 20, 21, 24],
  [0, 1, 2, 3, 4, 5, 8, 10, 12, 15, 17, 18, 21, 23, 25, 26, 27, 28, 30, 31, 34, 36, 39, 41, 42, 45, 46, 49, 50],
  [0, 1, 2, 5, 8, 9, 10, 11, 14, 17, 18, 21, 22],
  [0, 1, 2, 3, 4, 5, 8, 9, 10, 13, 16, 17, 18, 19, 22, 23, 26, 27],
  [0, 1, 2, 3, 4, 5, 6, 9, 10, 11, 14, 15, 16, 17, 20, 23, 24, 27, 28, 29, 30, 33, 36, 37],
  [0, 1, 2, 5, 8, 9, 10, 12, 15, 18, 20, 21, 22, 23, 24, 25, 28, 31, 34, 36, 37, 38, 41, 42, 43, 44, 47, 49, 50, 51, 54, 55, 58, 59, 60, 61, 62, 64, 66, 68, 71, 72, 75, 77, 79, 80, 81, 82, 84, 85, 87, 88, 91, 92, 95, 97, 98, 101, 102, 105, 106, 107, 110, 113, 114, 116, 118, 120, 123, 124, 127, 129, 131, 132, 133, 134, 136, 137, 138, 139, 142, 145, 146, 149, 150, 151, 152, 153, 154, 155, 156, 157, 160],
  [0, 1, 2, 5, 8, 9, 10, 12, 15, 18, 20, 21, 22, 23, 24, 25, 28, 31, 34, 36, 37, 38, 41, 42, 43, 45, 48, 50, 51, 52, 55, 57, 58, 59, 62, 63, 64, 65, 66, 67, 68, 71, 72, 73, 74, 75, 78, 79, 80, 81, 82, 83, 84, 87, 88, 89, 90, 91, 92, 93, 96, 97, 98, 99, 100, 101, 102, 105, 106, 107, 108, 109, 110, 111, 112, 113, 116, 117, 118, 119, 120, 123],
  [0, 1, 2, 5, 8, 10, 11, 12, 13, 16, 19, 21, 22, 23, 26, 28, 29, 30, 31, 32, 33, 34, 35, 36, 37, 40],
  [0, 1, 4, 5, 6, 7, 10, 13],
  [0, 1, 2, 5, 8, 9, 10, 12, 15, 18, 19, 22, 23, 24, 25, 26, 27, 30, 32, 33, 36, 38, 41, 42, 43, 45, 46, 49, 52, 55, 56, 58, 61, 64, 65, 67, 69, 72, 75, 76, 79, 80, 81, 82, 84, 86, 88, 91, 92, 95, 96, 97, 99, 102, 105, 106, 107, 109, 112, 115, 118, 119, 122, 123, 124, 127, 130, 131],
  [0, 1, 4, 6, 9, 10, 11, 14, 15, 18, 19, 20, 23, 24, 27, 29, 31, 32, 33, 36, 39, 40, 41, 42, 45, 48, 49, 50, 51, 54, 55, 58, 59, 61, 64, 67, 69, 70, 71, 72, 75, 76, 77, 78, 81, 84, 86, 87, 88, 91, 92, 93, 94, 97, 99, 100, 103, 105, 107, 108, 109, 110, 111, 112, 113, 114, 115, 117, 120],
  [0, 1, 2, 3, 4, 5, 7, 10, 11, 12, 13, 14, 17, 20, 21, 24, 25, 26, 27, 30, 33, 34],
  [0, 1, 2, 3, 4, 5, 6, 9, 10, 11, 14, 15, 16, 17, 18, 21, 24, 25, 28, 29, 30, 31, 34, 37, 38],
  [0, 1, 2, 3, 4, 5, 6, 9, 11, 12, 15, 16, 17, 18, 19, 22, 23, 26, 27, 28, 29, 32, 33, 36, 37, 40, 41, 42, 43, 46, 49, 50],
  [0, 1, 2, 5, 8, 9, 10, 12, 15, 18, 20, 21, 22, 76, 77, 80, 82, 85, 86, 87, 88, 91, 92, 93, 94, 97, 98, 99, 100, 103, 104, 105, 106, 109, 110, 111, 112, 115, 116, 117, 118, 120, 123, 124, 125, 126, 128, 131, 132, 133, 134, 136, 139, 140, 141, 142, 144, 147, 150, 152, 155, 156, 157, 159, 162, 163, 164, 166, 167, 168, 171, 172, 173, 174, 175, 178],
  [0, 1, 2, 5, 8, 9, 10, 12, 15, 18, 20, 21, 22, 23, 26, 27, 28, 29, 32, 33, 34, 35, 36, 37, 38, 41, 43, 45, 48, 49, 50, 52, 53, 56, 57, 58, 59, 61, 62, 65, 67, 70, 71, 72, 75, 76, 77, 80, 83, 84, 85, 88, 89, 92, 93, 94, 95, 96, 97, 100, 103, 104],
  [0, 1, 2, 5, 8, 9, 12, 14, 15, 16, 17, 18, 20, 22, 23, 26, 27, 28, 31, 32, 33, 35, 38, 40, 42, 45, 46, 49, 51, 52, 53, 55, 58, 59, 62, 63, 64, 65, 68, 71, 73],
  [0, 1, 2, 3, 6, 7, 10, 11, 12, 13, 16, 17, 20, 21, 22, 23, 26, 27, 30, 31, 34, 35],
  [0, 1, 2, 3, 5, 7, 8, 11, 13, 14, 17, 18, 20, 21, 24, 25, 28, 29, 31, 32, 35, 36, 39, 40, 42, 43, 46, 47, 50, 51, 54, 55, 57, 58, 61, 62, 65, 66, 69, 70, 72, 74, 77, 78, 80, 81, 84, 87, 88, 89, 92, 95, 96],
  [0, 1, 2, 3, 4, 5, 8, 9, 10, 13, 16, 17, 18, 19, 22, 23, 26, 27],
  [0, 1, 2, 5, 6, 7, 8, 11, 14, 15, 18, 19],
  [0, 1, 2, 3, 6, 9, 10, 11, 12, 15, 16, 17, 20, 21, 24, 25, 26, 27, 30, 31, 34, 35, 38, 39],
  [0, 1, 3, 4, 6, 8, 9, 12, 14, 15, 18, 20, 21, 23, 24, 25, 28, 31, 32, 35, 36, 38, 39, 42, 43, 46, 47, 50, 51, 52, 54, 57, 60, 62],
  [0, 1, 2, 3, 5, 7, 9, 12, 13, 14, 15, 17, 20, 23, 24, 25, 27, 28, 31, 34, 35, 36, 37, 40, 43, 44],
  [0, 1, 2, 3, 5, 7, 9, 12, 13, 16, 17, 18, 20, 23, 26, 27, 28, 30, 31, 34, 35, 36, 38, 39, 42, 45, 46, 49, 50, 51, 54, 57, 58],
  [0, 1, 2, 3, 5, 7, 8, 11, 13, 14, 17, 18, 20, 21, 22, 25, 28, 29, 32, 33, 35, 36, 39, 40, 43, 44, 46, 47, 50, 53, 54, 55, 58, 61, 62],
  [0, 1, 2, 3, 6, 9, 10, 13, 14, 15, 16, 19, 20, 21, 22, 25, 26, 27, 28, 29, 32, 33, 34, 37, 38, 39, 42, 43, 44, 45, 48, 49],
  [0, 1, 2, 3, 4, 7, 9, 10, 13, 14, 15, 16, 19, 22, 25, 28, 29, 32, 34, 35, 36, 37, 38, 41, 43, 44, 47, 48, 51, 54, 55, 58, 59, 60, 61, 62],
  [0, 1, 2, 3, 6, 7, 8, 9, 10, 13, 14, 15, 16, 17, 20, 22, 23, 25, 28, 29, 30, 33, 36, 37, 38, 39, 42, 45, 46, 47, 48, 51, 54, 55, 56, 57, 60, 62, 63, 64, 65, 67, 68, 70, 71, 73, 74, 76, 79, 80, 81, 84, 87, 88, 89, 91, 94, 97, 99, 100, 101, 103, 106, 109, 110, 113, 114, 116, 117, 119, 120, 122, 124, 125, 128, 130, 131, 134, 136, 139, 140, 142, 143, 145, 148, 151, 152, 154, 155, 158, 159, 162, 163, 165, 166, 169, 170, 171, 172, 175, 178, 179, 182, 183, 185, 188, 191, 193, 196, 198, 201, 202, 205, 207, 209, 210, 211, 212, 214, 217, 219, 222, 224, 225, 226, 227, 228, 229, 230, 231, 232, 233, 234, 237, 238, 239, 240, 241, 242, 245, 246, 247, 248, 250, 253, 254, 255, 256, 257, 260, 261, 262, 265],
  [0, 1, 3, 5, 6, 9, 11, 12, 15, 16, 18, 19, 21, 24, 27, 28, 30, 31, 34, 35, 38, 39, 41, 42, 45, 47, 50, 51, 53, 55, 58, 59, 60, 61, 62, 63, 66, 67, 70, 71, 72, 74, 76, 77, 78, 81, 82, 83, 86, 87, 88, 90, 92, 93, 94, 97, 98, 99, 100, 103, 106, 107],
  [0, 1, 3, 4, 5, 8, 9, 11, 13, 14, 17, 19, 20, 23, 24, 26, 27, 29, 32, 35, 36, 38, 39, 42, 43, 46, 47, 49, 51, 54, 55, 56, 57, 58, 59, 62, 63, 66, 67, 69, 71, 74, 76, 79, 80, 82, 84, 85, 86, 89, 90, 91, 94, 95, 98, 100, 102, 105, 106, 109, 111, 112, 113, 114, 115, 117, 119, 120, 121, 124, 127, 128, 131, 133, 134, 137, 139, 140, 141, 142, 143, 146, 149, 150, 153, 155, 156, 158, 160, 161, 162, 165, 166, 168, 169, 171, 173, 174, 175, 178, 179, 181, 182, 183, 186, 187, 188, 191, 194, 197, 199],
  [0, 1, 2, 3, 4, 6, 7, 10, 12, 13, 16, 19, 20, 21, 22, 23, 25, 26, 29, 32, 34, 36, 37, 40, 43, 44, 45, 46, 48, 49, 51, 53, 54, 57, 60, 62, 63, 66, 68, 69, 70, 72, 75, 78, 79, 82, 83, 84, 85, 86, 89, 90, 93, 95, 96, 99, 100, 103, 104, 107, 108, 111, 112, 113, 114, 115, 116, 117, 118, 121, 122, 124, 126, 127, 128, 131, 132, 133, 134, 136, 139, 142, 144, 147, 148, 149, 150, 151],
  [0, 2, 4, 5, 6, 7, 8, 9, 10, 11, 12, 13, 16, 17, 18, 21, 22, 23, 24, 25, 26, 27, 30, 31, 32, 35, 36, 37, 38, 39, 42, 43, 44, 45, 48, 49, 50, 51, 54, 55, 58, 59],
  [0, 1, 2, 3, 6, 8, 9, 11, 14, 16, 17, 18, 20, 23, 26, 27, 29, 30, 33, 34, 35, 36, 38, 39, 42, 45, 46, 47, 48, 51, 52, 53, 54, 55, 58, 61, 63, 64, 65, 66, 69, 72, 73, 74, 75, 77, 78, 81, 84, 85, 86, 87, 89, 90, 93],
  [0, 1, 4, 5, 6, 8, 11, 12, 14, 16, 19, 22, 23, 26, 29, 31, 32, 33, 36, 39, 41, 42, 44, 45, 46, 47, 50, 53, 54, 57, 58, 60, 61, 64, 66, 67, 70, 71, 72, 73, 74, 76, 77, 80, 82, 83, 84, 85, 88, 90, 91, 92, 93, 96, 97, 98, 99, 100, 103, 105, 106, 107, 109, 110, 113, 115, 118, 119, 120, 121, 122, 125, 127, 128, 129, 130, 131, 132, 135, 137, 138, 139, 140, 141, 142, 144, 146, 148, 151, 152, 155, 157, 158, 159, 161, 162, 163, 166, 168, 169, 170, 171, 174, 176, 178, 179, 181, 182, 183, 186, 188, 189, 190, 193, 196, 197, 200, 201, 202, 203, 204, 206, 207, 210, 212, 213, 216, 217, 218, 221, 223, 224, 227, 229, 230, 233, 235, 238, 239, 242, 244, 245, 246, 247, 250, 251, 252, 253, 254, 255, 256, 257, 260, 261, 262, 263, 264, 265, 266],
  [0, 1, 4, 6, 7, 9, 10, 11, 14, 15, 17, 18, 19, 20, 21, 24, 27, 28, 30, 31, 33, 34, 35, 38, 39, 41, 42, 43, 46, 47, 49, 50, 51, 54, 55, 56, 57, 58, 59, 62, 63, 66, 67, 69, 70, 71, 74, 75, 76, 79, 80, 82, 84, 85, 88, 89, 91, 93, 95, 98, 99, 101, 103, 105, 106, 107, 110, 112, 113, 116, 117, 119, 121, 123, 124, 125, 128, 130, 131, 134, 137, 140, 141, 144, 145, 146, 147, 148, 149, 150, 151, 152, 153, 156, 159, 160, 162, 165],
  [0, 1, 2, 3, 5, 6, 8, 9, 11, 13, 14, 17, 18, 19, 22, 23, 24, 26, 29, 32, 33, 34, 36, 37, 40, 42, 43, 45, 48, 49, 51, 52, 55, 56, 57, 58, 60, 62, 65, 66, 69, 70, 71, 73, 75, 77, 80, 81, 84, 86, 87, 90, 91, 92, 94, 97, 100, 101, 103, 105, 106, 109, 111, 112, 115, 116, 118, 119, 120, 123, 126, 127, 129, 130, 131, 134, 137, 140, 141, 143, 145, 147, 150, 151, 153, 154, 155, 156, 157, 160, 161, 164, 166, 168, 169, 170, 171, 172, 174, 175, 176, 177, 178, 179, 182, 184, 186, 187, 188, 189, 190, 192, 193, 194, 195, 196, 197, 200, 202, 203, 204, 205, 208, 210, 212, 213, 214, 215, 216, 218, 219, 220, 221, 222, 223, 226, 228, 229, 230, 233, 236, 237, 240, 242, 244, 245, 246, 247, 249, 250, 251, 252, 253, 254, 255, 256, 259, 261, 263, 264, 265, 266, 268, 269, 270, 271, 272, 275, 276, 277, 278, 280, 282, 285, 288, 289, 290, 291, 292, 295],
  [0, 1, 2, 3, 6, 7, 8, 11, 12, 13, 14, 17, 20, 21, 22, 23, 26, 29, 30, 31, 32, 35, 36, 37, 38, 41, 42, 45],
  [0, 1, 2, 3, 4, 5, 6, 9, 11, 12, 15, 16, 17, 18, 21, 22, 25, 26, 27, 28, 31, 32, 35, 36, 37, 40, 41, 44, 45, 46, 47, 50, 51, 52, 53, 56, 57, 58, 59, 62, 65, 66, 67, 68, 71, 72, 73, 74, 77, 80, 81, 82, 83, 86, 87, 88, 89, 92, 95, 96, 99, 100, 102, 103, 106, 108, 111, 112, 115, 116, 117, 120, 123, 124],
  [0, 1, 4, 5, 6, 7, 8, 9, 10, 11, 14, 15, 16, 19, 20, 21, 24, 25, 28, 29, 32, 33, 34, 35, 38, 39, 40, 41, 42, 45, 46, 47, 50, 51, 52, 55, 56, 59, 60, 61, 64, 67, 70, 73, 76],
  [0, 1, 2, 3, 4, 5, 6, 9, 11, 12, 15, 16, 17, 18, 19, 22, 23, 26, 27, 30, 31, 32, 33, 36, 39, 40],
  [0, 1, 2, 5, 8, 9, 10, 13, 16, 19, 20, 22, 24, 27, 30, 32, 33, 35, 38, 41, 43, 44, 46, 49, 52, 54, 55, 56, 57, 60, 63, 64, 65, 66, 67, 70, 71, 74, 75, 76, 79, 80, 81, 84, 86, 87, 88, 91, 93, 96, 98, 99, 100, 103, 105, 106, 108, 109, 110, 113, 114, 116, 117, 118, 119, 120, 123, 126, 127, 129, 130, 131, 134, 135, 137, 138, 139, 142, 143, 145, 146, 147, 150, 151, 152, 154, 155, 158, 159, 161, 162, 163, 166, 167, 168, 171, 172, 174, 176, 177, 178, 179, 182, 183, 185, 187, 188, 189, 190, 193, 194, 196, 198, 199, 200, 202, 205, 206, 209, 210, 211, 212, 213, 214, 215, 216, 219, 221, 222, 223, 224, 225, 226, 227, 228, 229, 230, 231, 232, 233, 236],
  [0, 1, 4, 5, 6, 7, 8, 9, 11, 13, 16, 19],
  [0, 1, 2, 4, 7, 10, 12, 13, 14, 17, 18, 19, 20, 21, 24, 27, 29, 30, 31, 32, 33, 34, 37, 38, 41, 44, 47, 48, 51, 52, 53],
  [0, 1, 4, 5, 6, 7, 10, 13],
  [0, 1, 2, 5, 8, 9, 12, 13, 14, 15, 18, 21, 23, 24, 25, 26, 27, 30, 32, 33, 35, 37, 38, 41, 43, 46, 47, 48, 50, 53, 55, 58, 61, 63, 66, 68, 69, 70, 104, 106, 107, 108, 109, 111, 114, 115, 116, 117, 118, 120, 123, 124, 125, 126, 128, 131, 132, 133, 134, 136, 139, 142, 143, 146, 147, 148, 149, 150, 152, 155],
  [0, 1, 2, 3, 4, 5, 7, 10, 11, 12, 13, 14, 15, 16, 17, 18, 21, 24, 25],
  [0, 1, 4, 5, 6, 7, 10, 13, 15, 16, 17, 18, 21, 22, 23, 26, 28, 29, 32, 34, 35, 38, 39, 40, 41, 42, 43, 44, 45, 46, 47, 48, 49, 52, 53, 56, 57, 58, 59, 60, 63, 66, 67, 70, 71, 72, 73, 74],
  [0, 1, 4, 5, 6, 9, 12, 13, 14, 15, 18, 21, 23, 24, 25, 26, 29, 30, 31, 34, 36, 37, 40, 42, 43, 46, 47, 48, 49, 50, 51, 52, 53, 54, 56, 57, 60, 62, 63, 64, 65, 66, 67, 68, 69, 70, 73, 74, 77, 79, 80, 81, 83, 84, 85, 86, 87, 88, 89, 92, 94],
  [0, 1, 2, 5, 8, 9, 10, 13, 16, 17, 18, 19, 22, 25, 27, 28, 30, 32, 33, 34, 35, 36, 37, 38, 39, 41, 42, 45, 47, 48, 49, 52, 53, 56, 58, 59, 60, 61, 62, 63, 66, 68],
  [0, 1, 4, 5, 8, 9, 10, 11, 12, 13, 14, 17, 20, 21, 24, 25, 26, 27, 30, 31, 34, 37, 40, 41, 44, 45, 46, 47, 50, 51, 54, 55, 56, 57, 60, 61, 64, 65, 68, 70],
  [0, 1, 2, 5, 8, 11, 13, 14, 15, 18, 19, 20, 21, 22, 25, 26, 29, 32, 35, 36, 39, 40, 41, 44, 46, 49, 50, 53, 56, 58, 59, 62, 63, 64, 65, 66, 67, 68, 69, 70, 71, 74, 75],
  [0, 1, 2, 3, 4, 5, 6, 9, 10, 11, 14, 15, 16, 17, 18, 21, 22, 23, 26, 29, 30],
  [0, 1, 60, 61, 64, 65, 66, 67, 68, 71, 72, 73, 76, 77, 78, 79, 80, 83, 84, 85, 88, 89, 90, 91, 92, 95, 96, 97, 98, 99, 101, 104, 105, 106, 108, 111, 112, 113, 116, 117, 118, 121, 123, 126, 127, 130, 132, 133, 134, 135, 138, 139, 140, 143, 144, 146],
  [0, 1, 4, 7, 9, 10, 11, 12, 15, 16, 17, 20, 21, 22, 23, 26, 29, 30, 33, 34, 35, 38, 41, 42, 45, 46, 47, 48, 49, 50, 53, 56, 57, 60],
  [0, 1, 3, 5, 8, 11, 13, 14, 15, 18, 20, 23, 25, 26, 27, 30, 31, 34, 35, 36, 37, 38, 39, 42, 43, 44, 47, 48, 51],
  [0, 1, 4, 5, 6, 7, 10, 11],
  [0, 1, 4, 5, 8, 11, 12, 15, 16, 19, 20, 21, 24, 25, 28, 29, 30, 31, 32, 35, 36, 39, 40, 43, 44, 45, 48, 49],
  [0, 1, 4, 5, 6, 9, 10, 11, 12, 13, 16, 17, 20, 23, 24, 27, 28, 30, 31, 34, 35, 38, 39, 42, 43, 45, 47, 50, 53, 54, 57, 58, 60, 61, 64, 65, 66, 67, 68, 71, 72, 75, 76, 77, 79, 80, 81, 82, 83, 86, 87, 88, 91, 94, 95, 98, 99, 102, 103, 106, 107],
  [0, 1, 3, 6, 7, 9, 12, 13, 15, 18, 19, 20, 23, 26, 27, 30, 31, 32, 33, 36, 37, 39, 42, 43, 45, 48, 51, 52, 53, 56, 59, 60, 62, 65, 68, 69, 72, 73, 74, 75, 78, 79, 81, 84, 87, 88, 91, 92, 93, 94, 97, 98, 99, 102, 105, 106, 109, 110, 111, 112, 115, 116, 117, 120, 121, 124, 125, 126, 127, 130, 131, 134, 135, 136, 137, 138, 141, 142, 144, 147, 150, 151, 154, 155],
  [0, 1, 3, 6, 7, 8, 11, 12, 13, 14, 17, 18, 19, 20, 23, 24, 25, 26, 27, 30, 33, 34, 36, 39, 40, 41, 44, 45, 46, 49, 52, 53, 54, 57, 58, 59, 62],
  [0, 1, 4, 5, 8, 9, 10, 11, 12, 15, 16, 17, 20, 21, 22, 25, 28, 29, 30, 31, 33, 36, 37, 38, 41, 42, 43, 46, 49, 50, 53, 54, 55, 58, 60, 63, 64, 67, 68],
  [0, 1, 4, 6, 7, 8, 9, 12, 13, 16, 17, 20, 23, 24, 26, 29, 30, 33, 34, 35, 36, 39, 42, 43, 46, 49, 50, 53, 54, 55, 58, 59, 62, 63],
  [0, 1, 2, 3, 6, 9, 11, 12, 13, 16, 17, 18, 20, 23, 24, 27, 28, 31, 32, 35],
  [0, 1, 4, 6, 9, 11, 12, 13, 16, 17, 18, 19, 20, 23, 24, 27, 28, 31, 34, 35, 36, 39, 42, 43, 46, 47, 48, 49, 52, 53, 54, 57],
  [0, 1, 4, 5, 6, 9, 10, 11, 14, 15, 16, 19, 20, 21, 24, 25, 26, 29, 30, 31, 34, 35, 37, 39, 42, 43, 45, 47, 50],
  [0, 1, 2, 5, 8, 9, 10, 13, 16, 17, 18, 21, 24, 25, 26, 29, 32, 33, 34, 37, 40, 41, 42, 45, 48, 49, 52, 53, 54, 57, 58, 60, 63, 64, 67, 68, 69, 72, 73, 75, 78],
  [0, 1, 2, 5, 6, 7, 10, 11, 12, 15, 16, 17, 20],
  [0, 1, 4, 5, 7, 10, 11, 14, 15, 16, 17, 18, 21, 22, 25, 26],
  [0, 1, 2, 4, 7, 10, 11, 12, 15, 16, 17, 18, 19, 22, 23, 26, 27, 28, 29, 30, 33, 34, 35, 36],
  [0, 1, 2, 5, 8, 10, 11, 12, 15, 16, 19, 20, 21, 24, 25, 28, 29, 30],
  [0, 1, 4, 7, 9, 12, 13, 14, 15, 16, 17, 19, 22, 23, 24, 25, 28, 31, 32, 35, 36, 37, 40, 41, 42, 43, 46, 49, 50],
  [0, 1, 4, 5, 7, 10, 13, 14, 15, 18],
  [0, 1, 2, 5, 6, 7, 8, 9, 12, 15, 16, 17, 18, 21, 22, 23, 26, 29, 32],
  [0, 1, 4, 5, 8, 9, 12, 13, 16, 17, 18, 19, 22, 25, 28, 29, 30, 33, 34, 37, 38, 41, 44, 45, 48, 51, 52, 55, 56, 59, 60, 61, 62, 65, 67, 69, 70, 73, 74, 77, 79, 80, 83, 85, 86, 87, 88, 89, 92, 95, 96, 99, 100, 101, 102, 103, 104, 107, 108, 109, 112, 113, 114, 117],
  [0, 1, 4, 5, 8, 9, 12, 13, 16, 17, 20, 23, 24, 25, 26, 29, 30, 31, 34, 35, 36, 37, 38, 39, 42, 43, 46, 47, 48, 49, 52, 53, 54, 55, 58, 61, 62, 63, 66],
  [0, 1, 4, 5, 6, 7, 8, 11, 12, 13, 16, 17, 18, 19, 20, 23, 24, 25, 26],
  [0, 1, 2, 3, 4, 7, 10, 11, 12, 13, 14, 15, 18, 21, 24, 25, 26, 29, 30, 31, 34],
  [0, 1, 2, 3, 4, 5, 6, 9, 12, 13, 14, 17, 18, 19, 22, 23, 26, 27, 30, 31, 32, 33, 36, 39, 40],
  [0, 1, 2, 3, 4, 7, 10, 11, 14, 15, 16, 19, 20, 23, 24, 25, 28, 31, 34, 37, 38],
  [0, 1, 2, 3, 4, 5, 6, 9, 10, 11, 14, 17, 18, 19, 22, 23, 26, 29, 30, 31, 34, 37, 38, 41, 42],
  [0, 1, 2, 3, 4, 5, 6, 9, 12, 13, 14, 17, 18, 21, 22, 23, 26, 27, 30, 31, 32, 33, 34, 37, 40, 41, 44, 45, 46, 47, 50, 53, 54],
  [0, 1, 4, 5, 6, 9, 10, 13, 14, 15, 16, 17, 20, 21, 24, 27, 30, 31],
  [0, 1, 2, 3, 4, 7, 10, 11, 14, 15, 16, 18, 20, 23, 24, 27, 29, 32, 33, 36, 39, 41, 44, 45, 48, 51, 52, 53, 56, 59, 60],
  [0, 1, 4, 5, 6, 9, 10, 11, 14, 15, 16, 19, 20, 21, 24],
  [0, 1, 2, 5, 6, 7, 10, 11, 12, 15, 16, 17, 20],
  [0, 1, 2, 5, 8, 9, 10, 13, 16, 17, 18, 21, 24, 25, 26, 29, 32],
  [0, 1, 4, 5, 6, 8, 11, 12, 15, 16, 19, 22, 23, 26, 27, 30, 33, 34, 35, 38, 39, 40, 43, 44, 45, 48, 49, 50, 53, 54, 55, 58, 59, 60, 63],
  [0, 1, 4, 5, 8, 9, 12, 13, 14, 15, 16, 19, 20, 23, 24, 27, 28, 31, 32, 33, 36, 37, 38, 41, 42, 43, 46, 47, 48, 51, 52, 53, 56, 57, 58, 61],
  [0, 1, 4, 5, 6, 9, 10, 11, 14, 15, 18, 19, 22, 25, 26, 29, 30, 33, 36, 37, 38, 41, 44, 45, 46, 49, 52, 53, 54, 57, 60, 61, 62, 65, 68, 69, 70, 73, 76, 77, 78, 81, 84],
  [0, 1, 4, 7, 10, 11, 14, 17, 18, 21, 22],
  [0, 1, 4, 5, 6, 7, 8, 9, 12, 13, 14, 15, 16, 17, 18, 21, 22, 23, 26, 27],
  [0, 1, 4, 7, 8, 9, 10, 11, 14, 15, 16, 19, 20, 23, 26, 27, 30, 32, 33, 35, 36, 39, 40, 41, 42, 43, 44, 47],
  [0, 1, 4, 5, 6, 9, 12, 13, 15, 18, 21, 22, 25, 26, 29, 32, 33, 35, 38, 41, 42, 43, 46, 47, 48, 51, 52, 53, 56, 57, 58, 61, 62, 63, 66, 67, 70, 71, 74, 77, 78, 80, 82, 85, 86, 88, 90, 93, 94, 95, 96, 97, 100, 101, 104, 105, 108, 109, 112, 113, 116, 119, 120, 121, 122, 124, 127, 128, 131, 132, 135, 136, 139, 140, 143, 146, 147, 148, 149, 151, 154, 155, 158, 159, 162, 163, 166, 167, 170, 173, 174, 177, 178, 179, 180, 181, 182, 185, 186, 187, 190],
  [0, 1, 2, 5, 8, 9, 10, 13, 16, 17, 18, 21, 24, 25, 26, 29, 32, 33, 34, 37, 40, 41, 44, 45, 48, 51, 52, 53, 54, 55, 58, 61, 62, 65, 66, 67, 68, 71, 72, 73, 76, 79, 82, 83, 84, 85, 86, 89, 92, 93, 96, 97, 98, 99, 102, 103, 104, 107, 110, 113, 114, 115, 116, 117, 120, 123, 124, 127, 128, 129, 130, 133, 134, 135, 138, 141, 144],
  [0, 1, 2, 3, 6, 7, 8, 11],
  [0, 1, 2, 3, 6, 7, 8, 11],
  [0, 1, 2, 5, 8, 9, 10, 12, 15, 18, 20, 21, 22, 23, 26, 27, 28, 31, 32, 33, 36, 39, 41, 42, 43, 46, 47, 50, 52],
  [0, 1, 4, 5, 8, 9, 10, 11, 14, 15, 16, 19, 20, 21, 22, 25, 26, 27, 30, 31, 32, 33, 36],
  [0, 1, 4, 5, 8, 9, 10, 11, 14, 15, 16, 19, 20, 21, 22, 25],
  [0, 1, 2, 5, 8, 10, 11, 12, 15, 16, 17, 20, 23, 25, 28, 29],
  [0, 1, 4, 5, 6, 7, 10],
  [0, 1, 2, 5, 8, 9, 10, 11, 14, 17, 18, 21, 22, 23, 26, 27, 28, 31, 34, 36, 37, 38, 39, 42, 43, 44, 45, 48, 51, 52, 55, 57],
  [0, 1, 4, 5, 6, 9, 10, 11, 14, 15, 16, 19, 22, 23, 24, 25, 26, 29, 32, 33, 36, 37, 38, 41, 44, 45, 46, 49, 50, 51, 54, 55, 56, 59, 62, 63, 64, 65, 67, 69, 71, 74, 75, 77, 78, 81, 84, 85, 86, 88, 91, 94, 97, 98, 99, 102, 105, 106],
  [0, 1, 4, 5, 6, 9, 10, 11, 13, 14, 17, 18, 19, 22, 23, 24, 25, 27],
  [0, 1, 2, 5, 6, 7, 10, 13, 14, 17, 18, 19, 22, 23, 26, 27, 30, 31, 32, 33, 34, 35, 36, 37, 38, 41, 44, 45, 48, 49, 50, 53, 54, 57, 58, 61, 62, 63, 66, 69, 70, 73, 74],
  [0, 1, 2, 5, 6, 9, 10, 11, 14, 15, 16, 19, 20, 23, 24, 25, 26, 27, 30],
  [0, 1, 4, 5, 6, 9, 12, 13, 14, 15, 16, 17, 18, 19, 22, 23, 24, 27, 29, 30, 32, 34, 35, 38, 40, 41, 44, 46, 47, 48, 51, 53, 54, 57, 59, 62, 65, 67, 68, 71, 72, 75, 76],
  [0, 1, 2, 3, 4, 5, 7, 10, 11, 12, 13, 14, 17, 20, 21, 24, 25, 26, 27, 30, 33, 34],
  [0, 1, 2, 3, 4, 5, 6, 9, 12, 13, 14, 15, 16, 19, 20, 23, 24, 27, 28, 29, 30, 33, 36, 37],
  [0, 1, 2, 5],
  [0, 1, 2, 3, 5, 7, 8, 11, 14, 15, 17, 18, 21, 22, 25, 26, 29, 30, 33, 35, 36, 39, 42, 44],
  [0, 1, 2, 3, 4, 5, 7, 9, 10, 13, 14, 17, 18, 19, 22, 23, 24, 27, 28, 29, 30, 31, 32, 35, 36, 37, 40, 41, 44, 47, 48],
  [0, 1, 4, 5, 6, 7, 8, 64, 65, 68, 69, 72, 74, 77, 78, 81, 82, 83, 86, 87, 88, 89, 92, 93, 94, 95, 98, 99, 100, 103, 106, 107, 108, 111, 112, 113, 116, 117, 118, 121, 122, 123, 126, 127, 130, 132, 135, 136, 139, 140, 141, 144, 145, 148, 149, 150, 151, 152, 155, 158, 159, 162, 163, 164, 167, 169],
  [0, 1, 4, 5, 6, 7, 8, 48, 49, 52, 53, 54, 57, 58, 59, 62, 65, 66, 69, 70, 71, 72, 75, 76, 77, 80, 81, 82, 83, 86, 87, 88, 89, 92, 95, 96, 97, 100, 101, 104, 105, 108, 109, 110],
  [0, 1, 2, 5, 8, 9, 10, 13, 16, 19, 20, 22, 24, 27, 30, 32, 33, 35, 38, 41, 43, 44, 46, 49, 52, 54, 55, 56, 59, 60, 61, 64, 67, 68, 69, 72, 73, 74, 77, 80, 83, 84, 85, 88, 91, 93, 94, 95, 98, 101, 103, 106, 107, 110, 112],
  [0, 1, 4, 5, 6, 7, 8, 11, 12, 15, 16, 17, 19, 22, 23, 26, 27, 30, 32, 33, 36, 37, 40, 41, 44, 47, 48, 51, 54, 55, 58, 59, 60, 61, 64, 65, 66, 69],
  [0, 1, 2, 4, 7, 10, 12, 13, 14, 17, 18, 19, 22, 25, 26, 29, 31],
  [0, 1, 2, 3, 4, 7, 8, 9, 12, 13, 14, 17, 18, 21, 22, 23, 24, 27, 28, 30, 32, 33, 36, 39, 40, 43, 45, 46, 49, 50, 53, 54, 56, 59, 62, 65, 68, 71, 74, 77],
  [0, 1, 2, 3, 4, 5, 6, 9, 12, 15, 16, 19, 22, 23, 24, 27, 28, 31, 34, 35, 36, 39, 42, 43, 44, 47, 50, 51, 54, 55, 56, 59, 62, 65, 68, 69, 72, 73, 76],
  [0, 1, 4, 5, 6, 7, 10, 11, 14, 15, 16, 17, 20, 21, 24, 25, 26, 27, 28, 31, 34, 35, 38, 39, 41, 42, 45, 46, 49, 50, 53, 54, 55, 56, 57, 60, 63, 64, 67, 68, 69, 72, 73, 75, 77, 78, 81, 82, 83, 86, 89, 91, 93, 96, 98, 100, 103, 106, 108, 109, 112, 113, 114, 117, 120, 122, 125, 127, 128, 131, 134, 136, 137, 140, 141, 142, 145, 148, 149, 151, 154, 155, 156, 159, 162, 164, 167, 169, 172, 174, 177, 178, 181],
  [0, 1, 4, 5, 6, 9, 10, 11, 13, 14, 15, 18, 20, 22, 24, 27, 29, 31, 34, 35, 36, 38, 41, 44, 45, 48, 49],
  [0, 1, 2, 3, 5, 7, 9, 12, 13, 14, 16, 17, 20, 23, 24, 26, 27, 28, 31, 34, 35, 36, 37, 40, 43, 44],
  [0, 1, 4, 5, 6, 9, 11, 12, 15, 16, 19, 20, 22, 24, 25, 28, 29, 32, 34, 37, 39, 40, 43, 44, 45, 46, 47, 48, 51, 54, 55, 57, 59, 61, 64, 65, 67, 68, 71, 74, 75, 78, 80, 81, 82, 84, 85, 87, 90, 91, 92, 95, 98, 101, 102, 103, 106, 109, 110],
  [0, 1, 4, 5, 6, 9, 10, 11, 14, 17, 18, 21, 22, 23, 24, 25, 28, 31, 34, 35, 36, 37, 38, 39, 42, 45, 48, 49, 52, 53],
  [0, 1, 4, 5, 6, 7, 8, 11, 14, 15, 16, 19, 20, 21, 24, 27, 28, 29, 32, 33, 36, 37, 40, 41, 44, 47, 48, 49, 52, 53, 54, 57, 58, 59, 62, 65, 68, 69, 72, 73, 76, 79, 80, 83, 84, 85, 88, 89, 90, 93, 96, 99, 100, 103, 104, 107, 108, 111, 112, 113, 114, 117, 118, 121, 122, 125, 128, 129, 132, 135, 138, 141],
  [0, 1, 4, 5, 8, 11, 12, 13, 14, 15, 18, 21, 22, 25, 26, 29, 30, 33, 36, 37, 40, 41, 44, 47, 48, 51, 52, 55, 57, 58, 59, 60, 63, 66, 67, 68, 71, 72, 73, 76],
  [0, 1, 4, 5, 6, 7, 8, 11, 12, 13, 16, 19, 20, 21, 24, 27, 28, 29, 30, 31, 34, 37, 38, 39, 40, 43, 45, 47, 48, 51, 54, 55, 57, 58, 59, 62, 65, 68, 71, 72, 73, 74, 77, 80, 83, 84, 87, 88, 89, 92, 93, 95, 98, 99, 102, 103, 104, 107, 108, 109, 111, 112, 115, 118, 119, 120, 122, 123, 126, 129, 130, 133, 134, 137, 140, 141, 144, 145, 146, 149, 152, 153, 154, 155, 158, 161, 162, 163, 166, 169, 170, 173, 174, 177, 178, 179, 182, 185, 188],
  [0, 1, 2, 5, 8, 9, 12, 13, 14, 17, 18, 19, 20, 23, 24, 25, 28, 29, 32],
  [0, 1, 2, 5, 7, 8, 10, 12, 14, 17, 18, 21, 23, 24, 26, 28, 31, 32, 35, 37, 40, 41, 44, 47, 50, 52, 53, 56, 59, 60, 63, 64, 66, 69, 70, 71, 73, 76, 77, 78, 81, 84, 87],
  [0, 1, 4, 5, 6, 8, 10, 13, 14, 17, 19, 20, 21, 22, 24, 27, 29, 32, 34, 35, 37, 38, 40, 42, 44, 45, 47, 49, 51, 54, 56, 58, 61, 63, 66, 69, 71, 72, 74, 76, 79, 80, 83, 85, 86, 89, 92, 94, 97, 99, 102, 103, 104, 105, 106, 109, 110, 112, 115, 116, 117, 119, 122, 125, 127, 129, 132, 133, 134, 135, 137, 139, 141, 144, 145, 146, 147, 149, 152, 155, 157, 160, 161, 163, 165, 166, 167, 168, 169, 172, 175, 178, 181, 183, 186, 187, 188, 190, 192, 195, 196, 197, 198, 201, 202, 205, 206, 208, 209, 212, 213, 215, 218, 220, 222, 225, 228, 229, 232, 234, 235, 236, 237, 238, 239, 241, 244],
  [0, 1, 3, 5, 7, 10, 11, 14, 16, 17, 19, 21, 24, 25, 28, 30, 31, 34, 37, 39, 42, 43, 44, 45, 46, 49, 50, 51, 54, 57, 58],
  [0, 1, 2, 3, 6, 7, 10, 11, 12, 13, 14, 15, 18, 19, 22, 23, 24, 27, 28, 29, 30, 31, 32, 35, 38, 39, 42, 43, 44, 45],
  [0, 1, 4, 5, 6, 8, 10, 13, 14, 17, 19, 21, 22, 25, 27, 28, 30, 33, 35, 38, 40, 42, 45, 48, 50, 51, 53, 54, 88, 90, 93, 94, 96, 99, 100, 102, 104, 105, 106, 107, 108, 110, 113, 116, 117, 118, 119, 121, 123, 126, 129, 130, 133, 134, 135, 137, 139, 140, 143, 146],
  [0, 1, 4, 6, 9],
  [0, 1, 2, 3, 6, 7, 8, 11, 14, 15, 18, 19, 22, 23, 24, 25, 26, 28, 29, 30, 33, 34],
  [0, 1, 2, 5, 6, 7, 10, 12, 13, 14, 44, 45, 48, 49, 50, 53, 54, 55, 58, 59, 60, 63, 66, 67, 68, 71],
  [0, 1, 48, 49, 52, 53, 54, 57, 58, 59, 62, 63, 64, 67, 70, 71, 72, 75, 76, 77, 80, 81, 82, 85, 86, 87, 90, 91, 92, 95, 98, 100, 103, 104, 107],
  [0, 1, 2, 3, 4, 5, 6, 9, 12, 13, 14, 17, 18, 19, 22, 23, 24, 27, 30, 31],
  [0, 1, 2, 3, 4, 5, 6, 9, 12, 13, 14, 17, 18, 19, 22, 23, 24, 27, 30, 31],
  [0, 1, 4, 5, 7, 9, 12, 13, 14, 17, 18, 19, 22, 23, 25, 28, 29, 30, 32, 35, 36, 37, 40, 41, 42, 45, 46, 47, 50],
  [0, 1, 4, 6, 9, 10, 11, 12, 15, 16, 19, 20, 21, 22, 23, 26, 27, 28, 31, 32],
  [0, 1, 2, 5, 6, 7, 10, 11, 12, 15, 16, 17, 20, 21, 24, 25, 28, 31, 32, 35, 37, 40, 41, 42, 45, 48, 49, 50, 51, 54, 57, 58, 61, 64, 65, 66, 69, 71, 74, 75, 76, 79, 80, 81, 82, 85, 86, 87, 88, 91, 92, 93, 94, 95, 98, 101, 102, 105, 107, 110, 111, 112, 115, 116, 117, 120, 123, 124, 125, 128, 129, 130, 133, 134, 135, 138, 139, 140, 143, 146],
  [0, 1, 4, 7, 8, 9, 10, 13, 15, 18, 19, 20, 23, 24, 25, 28, 31, 32, 33, 34, 35, 38, 41, 42, 45, 46],
  [0, 1, 4, 32, 33, 34, 37, 38, 39, 40, 43, 44, 45, 46, 49, 50, 51, 52, 53, 56, 57, 58, 59, 62, 63, 64, 67, 68, 69, 70, 73, 74, 75, 78],
  [0, 1, 2, 5, 6, 9, 12, 13, 16, 17, 20, 21, 24, 26, 29, 30, 31, 34, 35, 36, 39, 40, 43, 76, 77, 78, 80, 83, 86, 87, 88, 90, 93, 96, 97, 98, 100, 103, 106, 107, 110, 111, 112, 113, 114, 116, 119, 120, 121],
  [0, 1, 2, 5, 6, 8, 11, 14, 15, 18, 19, 20, 21, 22, 25, 26, 29, 30, 33, 34, 35, 38, 39, 41, 42, 44, 46, 48, 51, 52, 55, 56, 59, 62, 63, 66, 67, 70, 71, 73, 76, 77, 80, 81, 84, 85, 87, 90, 92, 94, 95, 96, 99, 100, 103, 104, 106, 107, 108, 110, 113, 114, 115, 118, 119, 120, 123, 126, 127, 130, 131, 132, 135, 137, 138, 141, 143, 144, 146, 147, 149, 152, 155, 156, 157, 160, 163, 164, 167, 168, 170, 171, 172, 175, 176, 177, 180, 182],
  [0, 1, 4, 5, 8, 11, 12, 15, 16, 19, 20, 21, 24, 25, 28, 29],
  [0, 1, 4, 5, 6, 9, 12, 13, 16, 17, 20, 23, 24, 27, 28, 31, 34, 35, 38, 39, 42, 45, 46, 47, 50, 51, 52, 53, 54, 57, 58, 61, 62, 65, 66, 69, 70, 73, 76],
  [0, 1, 4, 5, 6, 7, 10, 13, 14, 17, 18, 21, 22, 25, 26, 27, 30, 31, 32, 33, 36, 37, 40, 41, 42, 45],
  [0, 1, 4, 5, 6, 7, 10, 13, 15, 18, 19, 22, 23, 26, 27, 28, 31, 32, 33, 34, 37, 38, 41, 42, 43, 46],
  [0, 1, 4, 5, 8, 9, 10, 13, 14, 15, 16, 19, 20, 23, 24, 27, 28, 31, 34],
  [0, 1, 4, 5, 6, 7, 10, 12, 14, 17, 19, 20, 21, 24, 25, 28, 29, 30, 31, 34],
  [0, 1, 4, 5, 8, 11, 12, 13, 15, 18, 21, 23, 24, 25, 28, 29, 30, 33],
  [0, 1, 4, 5, 8, 11, 12, 13, 15, 18, 21, 23, 24, 25, 28, 29, 30, 33],
  [0, 1, 4, 5, 8, 11, 12, 15, 17, 18, 19, 22, 23, 24, 27],
  [0, 1, 4, 5, 6, 7, 9, 11, 14, 16, 18, 21, 23, 24, 25, 28, 29, 32, 33, 34, 35, 37, 39, 42, 43, 46, 49, 52],
  [0, 1, 4, 5, 8, 9, 10, 13, 14, 15, 16, 19, 20, 23, 24, 27, 28, 31, 34],
  [0, 1, 4, 5, 8, 11, 12, 15, 16, 17, 18, 21, 24, 26, 27, 28, 31, 32, 33, 34, 37],
  [0, 1, 4, 5, 6, 7, 10, 13, 15, 16, 17, 20, 21, 22, 25],
  [0, 1, 4, 5, 8, 9, 12, 15, 16, 17, 18, 21, 24, 26, 27, 28, 31, 32, 35, 37, 39, 42, 44, 47, 49, 50, 51, 54],
  [0, 1, 4, 5, 8, 11, 12, 15, 16, 19, 22, 23, 24, 25, 28, 31, 33, 34, 35, 38, 41, 42, 43, 46, 47, 48, 51],
  [0, 1, 4, 5, 8, 11, 12, 13, 14, 17, 20, 21, 24, 25, 28, 29, 32, 35, 36, 39, 42, 45, 46, 47, 50, 53, 55],
  [0, 1, 2, 5, 8, 11, 13, 14, 15, 18, 19, 22, 25, 26, 29, 30, 33, 34, 37, 38, 39, 42],
  [0, 1, 28, 29, 32, 33, 34, 37, 40, 41, 42, 43, 45, 48, 51, 52, 55, 56, 59, 62, 64],
  [0, 1, 4, 7, 9, 10, 11, 12, 15, 16, 17, 20, 21, 24, 25, 26, 27, 30, 31, 34, 35, 38, 39, 42, 43, 46, 47, 48, 49, 52],
  [0, 1, 3, 5, 8, 11, 13, 14, 15, 18, 19, 20, 23, 26, 27, 30, 33, 36, 38],
  [0, 1, 4, 7, 8, 9, 12, 13, 16, 17],
  [0, 1, 2, 3, 6, 9, 11, 12, 13, 16, 17, 20, 21, 24, 27, 28, 31, 34, 37, 39, 40, 41, 44, 45, 48, 51, 54, 55, 58, 61],
  [0, 1, 4, 5, 8, 9, 12, 15, 16, 19, 22, 25, 27, 28, 29, 32, 33, 36, 37, 38, 39, 42, 45, 46, 47, 50, 51, 54, 57],
  [0, 1, 4, 5, 8, 9, 12, 13, 14, 15, 16, 17, 18, 19, 22, 23, 26, 27, 28, 29, 30, 33, 34, 35, 36, 39, 42, 43, 44, 47, 48, 49, 52, 53, 56, 57, 60, 61, 62, 63, 66, 67, 70, 71, 72, 75, 78, 79, 80, 83, 84, 85, 88],
  [0, 1, 2, 5, 6, 7, 10, 11, 14, 15],
  [0, 1, 4, 5, 6, 7, 10, 11, 14, 15],
  [0, 1, 4, 5, 6, 7, 10, 11],
  [0, 1, 2, 5, 8, 9, 10, 13, 16, 17, 20, 21],
  [0, 1, 2, 3, 4, 5, 6, 7, 10, 11, 12, 13, 14, 17, 20],
  [0, 1, 2, 3, 4, 7, 8, 9, 10, 11, 14, 15, 16, 17, 18, 21, 22, 23, 24, 25, 26, 27, 28, 29, 32, 33, 34, 35, 36, 38, 39, 40, 41, 42, 43, 45, 46, 47, 48, 49, 51, 52]]
set_option maxRecDepth 20000 in
/-- name, bytes, maxLocals, return, arguments (the receiver too), kind of the answer (0 none, 1 int, 2 boolean, 3 reference), places of its words: code, instance or static, selects, initialized; its class -/
def ev_hds : List Hd := [
  (⟨"PhasorTreeLaw", "law", "([I)Z"⟩, code, 4, ret, 1, 2, 0, 0, 0, 133, 99),
  (⟨"PhasorTreeModel", "<init>", "()V"⟩, prog_9_method_1_code, 1, (Option.none : Option Jvm.ClassFile.FieldType), 1, 0, 869, 868, 0, 142, 7),
  (⟨"PhasorTreeModel", "in", "(III)Z"⟩, prog_9_method_2_code, 3, (Option.some Jvm.ClassFile.FieldType.boolean), 3, 2, 925, 924, 0, 142, 7),
  (⟨"PhasorTreeModel", "of", "(II)I"⟩, prog_9_method_3_code, 3, (Option.some Jvm.ClassFile.FieldType.int), 3, 1, 930, 929, 79, 142, 7),
  (⟨"PhasorTreeModel", "its", "(II)I"⟩, prog_9_method_4_code, 3, (Option.some Jvm.ClassFile.FieldType.int), 3, 1, 968, 967, 85, 142, 7),
  (⟨"PhasorTreeModel", "fr", "(II)I"⟩, prog_9_method_5_code, 3, (Option.some Jvm.ClassFile.FieldType.int), 3, 1, 992, 991, 90, 142, 7),
  (⟨"PhasorTreeModel", "lays", "(III)V"⟩, prog_9_method_6_code, 4, (Option.none : Option Jvm.ClassFile.FieldType), 4, 0, 1059, 1058, 102, 142, 7),
  (⟨"PhasorTreeModel", "isHub", "(I)Z"⟩, prog_9_method_7_code, 2, (Option.some Jvm.ClassFile.FieldType.boolean), 2, 2, 922, 921, 78, 142, 7),
  (⟨"PhasorTreeModel", "isUnit", "(I)Z"⟩, prog_9_method_8_code, 2, (Option.some Jvm.ClassFile.FieldType.boolean), 2, 2, 960, 959, 83, 142, 7),
  (⟨"PhasorTreeModel", "isOn", "(I)Z"⟩, prog_9_method_9_code, 2, (Option.some Jvm.ClassFile.FieldType.boolean), 2, 2, 964, 963, 84, 142, 7),
  (⟨"PhasorTreeModel", "keeps", "()V"⟩, prog_9_method_10_code, 2, (Option.none : Option Jvm.ClassFile.FieldType), 1, 0, 939, 938, 80, 142, 7),
  (⟨"PhasorTreeModel", "acted", "(I)I"⟩, prog_9_method_11_code, 3, (Option.some Jvm.ClassFile.FieldType.int), 2, 1, 943, 942, 81, 142, 7),
  (⟨"PhasorTreeModel", "puts", "()V"⟩, prog_9_method_12_code, 2, (Option.none : Option Jvm.ClassFile.FieldType), 1, 0, 1174, 1173, 124, 142, 7),
  (⟨"PhasorTreeModel", "restores", "()V"⟩, prog_9_method_13_code, 2, (Option.none : Option Jvm.ClassFile.FieldType), 1, 0, 1178, 1177, 125, 142, 7),
  (⟨"PhasorTreeModel", "goWith", "(II)Z"⟩, prog_9_method_14_code, 2, (Option.some Jvm.ClassFile.FieldType.boolean), 2, 2, 933, 932, 0, 142, 7),
  (⟨"PhasorTreeModel", "isChild", "(II)Z"⟩, prog_9_method_15_code, 3, (Option.some Jvm.ClassFile.FieldType.boolean), 3, 2, 996, 995, 91, 142, 7),
  (⟨"PhasorTreeModel", "periodOf", "(I)I"⟩, prog_9_method_16_code, 2, (Option.some Jvm.ClassFile.FieldType.int), 2, 1, 1000, 999, 92, 142, 7),
  (⟨"PhasorTreeModel", "through", "(II)I"⟩, prog_9_method_17_code, 5, (Option.some Jvm.ClassFile.FieldType.int), 3, 1, 1025, 1024, 97, 142, 7),
  (⟨"PhasorTreeModel", "isOf", "(II)Z"⟩, prog_9_method_18_code, 3, (Option.some Jvm.ClassFile.FieldType.boolean), 3, 2, 1021, 1020, 96, 142, 7),
  (⟨"PhasorTreeModel", "depth", "(I)I"⟩, prog_9_method_19_code, 4, (Option.some Jvm.ClassFile.FieldType.int), 2, 1, 1009, 1008, 93, 142, 7),
  (⟨"PhasorTreeModel", "on", "()I"⟩, prog_9_method_20_code, 3, (Option.some Jvm.ClassFile.FieldType.int), 1, 1, 972, 971, 86, 142, 7),
  (⟨"PhasorTreeModel", "hub", "(II)I"⟩, prog_9_method_21_code, 5, (Option.some Jvm.ClassFile.FieldType.int), 3, 1, 918, 916, 917, 142, 7),
  (⟨"PhasorTreeModel", "unit", "(II)I"⟩, prog_9_method_22_code, 4, (Option.some Jvm.ClassFile.FieldType.int), 3, 1, 948, 946, 947, 142, 7),
  (⟨"PhasorTreeModel", "takesOff", "(I)I"⟩, prog_9_method_23_code, 2, (Option.some Jvm.ClassFile.FieldType.int), 2, 1, 956, 955, 82, 142, 7),
  (⟨"PhasorTreeModel", "takeOff", "(I)I"⟩, prog_9_method_24_code, 2, (Option.some Jvm.ClassFile.FieldType.int), 2, 1, 952, 950, 951, 142, 7),
  (⟨"PhasorTreeModel", "canHave", "(II)Z"⟩, prog_9_method_25_code, 6, (Option.some Jvm.ClassFile.FieldType.boolean), 3, 2, 980, 979, 87, 142, 7),
  (⟨"PhasorTreeModel", "set", "(III)I"⟩, prog_9_method_26_code, 6, (Option.some Jvm.ClassFile.FieldType.int), 4, 1, 976, 974, 975, 142, 7),
  (⟨"PhasorTreeModel", "children", "(I)I"⟩, prog_9_method_27_code, 4, (Option.some Jvm.ClassFile.FieldType.int), 2, 1, 1013, 1012, 94, 142, 7),
  (⟨"PhasorTreeModel", "unitsOf", "(I)I"⟩, prog_9_method_28_code, 4, (Option.some Jvm.ClassFile.FieldType.int), 2, 1, 1017, 1016, 95, 142, 7),
  (⟨"PhasorTreeModel", "onWay", "(I)I"⟩, prog_9_method_29_code, 4, (Option.some Jvm.ClassFile.FieldType.int), 2, 1, 1029, 1028, 98, 142, 7),
  (⟨"PhasorTreeModel", "hubOf", "(II)I"⟩, prog_9_method_30_code, 3, (Option.some Jvm.ClassFile.FieldType.int), 3, 1, 1004, 1002, 1003, 142, 7),
  (⟨"PhasorTreeModel", "unitOf", "(II)I"⟩, prog_9_method_31_code, 5, (Option.some Jvm.ClassFile.FieldType.int), 3, 1, 1033, 1031, 1032, 142, 7),
  (⟨"PhasorTreeModel", "unitAt", "(II)I"⟩, prog_9_method_32_code, 6, (Option.some Jvm.ClassFile.FieldType.int), 3, 1, 1037, 1035, 1036, 142, 7),
  (⟨"PhasorTreeModel", "isIn", "(III)Z"⟩, prog_9_method_33_code, 4, (Option.some Jvm.ClassFile.FieldType.boolean), 4, 2, 1087, 1086, 108, 142, 7),
  (⟨"PhasorTreeModel", "behind", "(II)I"⟩, prog_9_method_34_code, 6, (Option.some Jvm.ClassFile.FieldType.int), 3, 1, 988, 987, 89, 142, 7),
  (⟨"PhasorTreeModel", "slots", "(I)I"⟩, prog_9_method_35_code, 4, (Option.some Jvm.ClassFile.FieldType.int), 2, 1, 984, 983, 88, 142, 7),
  (⟨"PhasorTreeModel", "isQuick", "(II)Z"⟩, prog_9_method_36_code, 3, (Option.some Jvm.ClassFile.FieldType.boolean), 3, 2, 1083, 1082, 107, 142, 7),
  (⟨"PhasorTreeModel", "expects", "(III)I"⟩, prog_9_method_37_code, 4, (Option.some Jvm.ClassFile.FieldType.int), 4, 1, 1103, 1102, 112, 142, 7),
  (⟨"PhasorTreeModel", "frames", "(III)I"⟩, prog_9_method_38_code, 6, (Option.some Jvm.ClassFile.FieldType.int), 4, 1, 1099, 1098, 111, 142, 7),
  (⟨"PhasorTreeModel", "expected", "(II)I"⟩, prog_9_method_39_code, 5, (Option.some Jvm.ClassFile.FieldType.int), 3, 1, 1151, 1150, 123, 142, 7),
  (⟨"PhasorTreeModel", "isComplete", "(II)Z"⟩, prog_9_method_40_code, 5, (Option.some Jvm.ClassFile.FieldType.boolean), 3, 2, 1095, 1094, 110, 142, 7),
  (⟨"PhasorTreeModel", "firstCame", "(II)I"⟩, prog_9_method_41_code, 5, (Option.some Jvm.ClassFile.FieldType.int), 3, 1, 1111, 1110, 114, 142, 7),
  (⟨"PhasorTreeModel", "lasts", "(II)I"⟩, prog_9_method_42_code, 4, (Option.some Jvm.ClassFile.FieldType.int), 3, 1, 1107, 1106, 113, 142, 7),
  (⟨"PhasorTreeModel", "free", "()I"⟩, prog_9_method_43_code, 2, (Option.some Jvm.ClassFile.FieldType.int), 1, 1, 1055, 1054, 101, 142, 7),
  (⟨"PhasorTreeModel", "comes", "(I)V"⟩, prog_9_method_44_code, 9, (Option.none : Option Jvm.ClassFile.FieldType), 2, 0, 1079, 1078, 106, 142, 7),
  (⟨"PhasorTreeModel", "plain", "(IIII)Z"⟩, prog_9_method_45_code, 6, (Option.some Jvm.ClassFile.FieldType.boolean), 5, 2, 1123, 1122, 117, 142, 7),
  (⟨"PhasorTreeModel", "gathers", "(IIIIZ)I"⟩, prog_9_method_46_code, 10, (Option.some Jvm.ClassFile.FieldType.int), 6, 1, 1135, 1134, 120, 142, 7),
  (⟨"PhasorTreeModel", "filtered", "(IIII)Z"⟩, prog_9_method_47_code, 8, (Option.some Jvm.ClassFile.FieldType.boolean), 5, 2, 1131, 1130, 119, 142, 7),
  (⟨"PhasorTreeModel", "held", "(II)Z"⟩, prog_9_method_48_code, 4, (Option.some Jvm.ClassFile.FieldType.boolean), 3, 2, 1127, 1126, 118, 142, 7),
  (⟨"PhasorTreeModel", "reads", "(III)Z"⟩, prog_9_method_49_code, 6, (Option.some Jvm.ClassFile.FieldType.boolean), 4, 2, 1119, 1118, 116, 142, 7),
  (⟨"PhasorTreeModel", "outs", "(IIII)V"⟩, prog_9_method_50_code, 7, (Option.none : Option Jvm.ClassFile.FieldType), 5, 0, 1139, 1138, 121, 142, 7),
  (⟨"PhasorTreeModel", "sends", "(III)V"⟩, prog_9_method_51_code, 6, (Option.none : Option Jvm.ClassFile.FieldType), 4, 0, 1143, 1142, 122, 142, 7),
  (⟨"PhasorTreeModel", "releases", "(II)V"⟩, prog_9_method_52_code, 8, (Option.none : Option Jvm.ClassFile.FieldType), 3, 0, 1115, 1114, 115, 142, 7),
  (⟨"PhasorTreeModel", "asks", "(I)V"⟩, prog_9_method_53_code, 3, (Option.none : Option Jvm.ClassFile.FieldType), 2, 0, 1091, 1090, 109, 142, 7),
  (⟨"PhasorTreeModel", "nextFrame", "()I"⟩, prog_9_method_54_code, 5, (Option.some Jvm.ClassFile.FieldType.int), 1, 1, 1075, 1074, 105, 142, 7),
  (⟨"PhasorTreeModel", "tick", "()V"⟩, prog_9_method_55_code, 3, (Option.none : Option Jvm.ClassFile.FieldType), 1, 0, 1071, 1070, 104, 142, 7),
  (⟨"PhasorTreeModel", "allOnWay", "()I"⟩, prog_9_method_56_code, 3, (Option.some Jvm.ClassFile.FieldType.int), 1, 1, 1051, 1050, 100, 142, 7),
  (⟨"PhasorTreeModel", "sendsOne", "(IIIII)I"⟩, prog_9_method_57_code, 7, (Option.some Jvm.ClassFile.FieldType.int), 6, 1, 1045, 1044, 99, 142, 7),
  (⟨"PhasorTreeModel", "send", "(IIIII)I"⟩, prog_9_method_58_code, 6, (Option.some Jvm.ClassFile.FieldType.int), 6, 1, 1041, 1039, 1040, 142, 7),
  (⟨"PhasorTreeModel", "passes", "(I)I"⟩, prog_9_method_59_code, 3, (Option.some Jvm.ClassFile.FieldType.int), 2, 1, 1067, 1066, 103, 142, 7),
  (⟨"PhasorTreeModel", "pass", "(I)I"⟩, prog_9_method_60_code, 2, (Option.some Jvm.ClassFile.FieldType.int), 2, 1, 1063, 1061, 1062, 142, 7),
  (⟨"PhasorTreeModel", "slotAt", "(III)I"⟩, prog_9_method_61_code, 6, (Option.some Jvm.ClassFile.FieldType.int), 4, 1, 1147, 1145, 1146, 142, 7),
  (⟨"PhasorTreeModel", "ones", "(I)I"⟩, prog_9_method_62_code, 3, (Option.some Jvm.ClassFile.FieldType.int), 1, 1, 1158, 1157, 0, 142, 7),
  (⟨"PhasorTreeModel", "outAt", "(II)I"⟩, prog_9_method_63_code, 4, (Option.some Jvm.ClassFile.FieldType.int), 3, 1, 1155, 1153, 1154, 142, 7),
  (⟨"PhasorTreeModel", "readingAt", "(III)I"⟩, prog_9_method_64_code, 5, (Option.some Jvm.ClassFile.FieldType.int), 4, 1, 1162, 1160, 1161, 142, 7),
  (⟨"PhasorTreeModel", "heldBy", "(III)I"⟩, prog_9_method_65_code, 5, (Option.some Jvm.ClassFile.FieldType.int), 4, 1, 1166, 1164, 1165, 142, 7),
  (⟨"PhasorTreeModel", "nextOut", "()I"⟩, prog_9_method_66_code, 4, (Option.some Jvm.ClassFile.FieldType.int), 1, 1, 1170, 1168, 1169, 142, 7),
  (⟨"PhasorTreeModel", "foresee", "(I)I"⟩, prog_9_method_67_code, 3, (Option.some Jvm.ClassFile.FieldType.int), 2, 1, 1182, 1180, 1181, 142, 7),
  (⟨"PhasorTreeModel", "sumOf", "(I)I"⟩, prog_9_method_68_code, 4, (Option.some Jvm.ClassFile.FieldType.int), 2, 1, 1190, 1189, 126, 142, 7),
  (⟨"PhasorTreeModel", "count", "(I)I"⟩, prog_9_method_69_code, 2, (Option.some Jvm.ClassFile.FieldType.int), 2, 1, 1186, 1184, 1185, 142, 7),
  (⟨"PhasorTreeModel", "undo", "()I"⟩, prog_9_method_70_code, 2, (Option.some Jvm.ClassFile.FieldType.int), 1, 1, 1194, 1192, 1193, 142, 7),
  (⟨"PhasorTreeModel", "type", "(I)I"⟩, prog_9_method_71_code, 2, (Option.some Jvm.ClassFile.FieldType.int), 2, 1, 1198, 1196, 1197, 142, 7),
  (⟨"PhasorTreeModel", "clearText", "()I"⟩, prog_9_method_72_code, 2, (Option.some Jvm.ClassFile.FieldType.int), 1, 1, 1202, 1200, 1201, 142, 7),
  (⟨"PhasorTreeModel", "has", "(C)Z"⟩, prog_9_method_73_code, 3, (Option.some Jvm.ClassFile.FieldType.boolean), 2, 2, 1226, 1225, 131, 142, 7),
  (⟨"PhasorTreeModel", "takes", "(I)Z"⟩, prog_9_method_74_code, 3, (Option.some Jvm.ClassFile.FieldType.boolean), 2, 2, 1222, 1221, 130, 142, 7),
  (⟨"PhasorTreeModel", "readsForm", "(C)Z"⟩, prog_9_method_75_code, 4, (Option.some Jvm.ClassFile.FieldType.boolean), 2, 2, 1218, 1217, 129, 142, 7),
  (⟨"PhasorTreeModel", "does", "(C)I"⟩, prog_9_method_76_code, 2, (Option.some Jvm.ClassFile.FieldType.int), 2, 1, 1230, 1229, 132, 142, 7),
  (⟨"PhasorTreeModel", "doesNext", "()I"⟩, prog_9_method_77_code, 2, (Option.some Jvm.ClassFile.FieldType.int), 1, 1, 1214, 1213, 128, 142, 7),
  (⟨"PhasorTreeModel", "faulty", "()I"⟩, prog_9_method_78_code, 3, (Option.some Jvm.ClassFile.FieldType.int), 1, 1, 1210, 1209, 127, 142, 7),
  (⟨"PhasorTreeModel", "fault", "(I)I"⟩, prog_9_method_79_code, 3, (Option.some Jvm.ClassFile.FieldType.int), 2, 1, 1206, 1204, 1205, 142, 7),
  (⟨"PhasorTreeModel", "play", "()I"⟩, prog_9_method_80_code, 2, (Option.some Jvm.ClassFile.FieldType.int), 1, 1, 1234, 1232, 1233, 142, 7),
  (⟨"PhasorTree$Frame", "<init>", "()V"⟩, prog_2_method_1_code, 1, (Option.none : Option Jvm.ClassFile.FieldType), 1, 0, 226, 225, 0, 138, 0),
  (⟨"PhasorTree$Frame", "copyFrom", "(LPhasorTree$Frame;)V"⟩, prog_2_method_2_code, 2, (Option.none : Option Jvm.ClassFile.FieldType), 2, 0, 451, 450, 8, 138, 0),
  (⟨"PhasorTree$Frame", "begin", "(II)V"⟩, prog_2_method_3_code, 3, (Option.none : Option Jvm.ClassFile.FieldType), 3, 0, 613, 612, 36, 138, 0),
  (⟨"PhasorTree$Frame", "has", "(I)Z"⟩, prog_2_method_4_code, 2, (Option.some Jvm.ClassFile.FieldType.boolean), 2, 2, 699, 698, 54, 138, 0),
  (⟨"PhasorTree$Frame", "put", "(III)V"⟩, prog_2_method_5_code, 4, (Option.none : Option Jvm.ClassFile.FieldType), 4, 0, 617, 616, 37, 138, 0),
  (⟨"PhasorTree$Frame", "readingFact", "(II)I"⟩, prog_2_method_6_code, 3, (Option.some Jvm.ClassFile.FieldType.int), 3, 1, 775, 774, 67, 138, 0),
  (⟨"PhasorTree$Frame", "flagsTogether", "()I"⟩, prog_2_method_7_code, 3, (Option.some Jvm.ClassFile.FieldType.int), 1, 1, 758, 757, 66, 138, 0),
  (⟨"PhasorTree$Row", "<init>", "()V"⟩, prog_5_method_1_code, 1, (Option.none : Option Jvm.ClassFile.FieldType), 1, 0, 206, 205, 0, 137, 3),
  (⟨"PhasorTree$Row", "copyFrom", "(LPhasorTree$Row;)V"⟩, prog_5_method_2_code, 3, (Option.none : Option Jvm.ClassFile.FieldType), 2, 0, 437, 436, 5, 137, 3),
  (⟨"PhasorTree$Row", "insert", "(ILPhasorTree$Frame;)V"⟩, prog_5_method_3_code, 5, (Option.none : Option Jvm.ClassFile.FieldType), 3, 0, 441, 440, 6, 137, 3),
  (⟨"PhasorTree$Row", "grow", "()V"⟩, prog_5_method_4_code, 3, (Option.none : Option Jvm.ClassFile.FieldType), 1, 0, 445, 444, 7, 137, 3),
  (⟨"PhasorTree$Row", "swap", "(II)V"⟩, prog_5_method_5_code, 4, (Option.none : Option Jvm.ClassFile.FieldType), 3, 0, 658, 657, 45, 137, 3),
  (⟨"PhasorTree$Row", "removeFirst", "(I)V"⟩, prog_5_method_6_code, 3, (Option.none : Option Jvm.ClassFile.FieldType), 2, 0, 719, 718, 59, 137, 3),
  (⟨"PhasorTree$Row", "framesFrom", "(I)I"⟩, prog_5_method_7_code, 4, (Option.some Jvm.ClassFile.FieldType.int), 2, 1, 573, 572, 30, 137, 3),
  (⟨"PhasorTree$Row", "slotEnd", "(I)I"⟩, prog_5_method_8_code, 3, (Option.some Jvm.ClassFile.FieldType.int), 2, 1, 677, 676, 49, 137, 3),
  (⟨"PhasorTree$Row", "slotStart", "(I)I"⟩, prog_5_method_9_code, 4, (Option.some Jvm.ClassFile.FieldType.int), 2, 1, 737, 736, 62, 137, 3),
  (⟨"PhasorTree$Row", "slots", "()I"⟩, prog_5_method_10_code, 3, (Option.some Jvm.ClassFile.FieldType.int), 1, 1, 569, 568, 29, 137, 3),
  (⟨"PhasorTree$Row", "placeFor", "(I)I"⟩, prog_5_method_11_code, 3, (Option.some Jvm.ClassFile.FieldType.int), 2, 1, 654, 653, 44, 137, 3),
  (⟨"PhasorTree$Row", "hasIn", "(ILPhasorTree$Frame;)Z"⟩, prog_5_method_12_code, 5, (Option.some Jvm.ClassFile.FieldType.boolean), 3, 2, 650, 649, 43, 137, 3),
  (⟨"PhasorTree$Unit", "<init>", "()V"⟩, prog_7_method_1_code, 1, (Option.none : Option Jvm.ClassFile.FieldType), 1, 0, 317, 316, 0, 140, 5),
  (⟨"PhasorTree$Unit", "begin", "(II)V"⟩, prog_7_method_2_code, 3, (Option.none : Option Jvm.ClassFile.FieldType), 3, 0, 489, 488, 14, 140, 5),
  (⟨"PhasorTree$Unit", "copyFrom", "(LPhasorTree$Unit;)V"⟩, prog_7_method_3_code, 2, (Option.none : Option Jvm.ClassFile.FieldType), 2, 0, 465, 464, 10, 140, 5),
  (⟨"PhasorTree$Hub", "<init>", "()V"⟩, prog_3_method_1_code, 1, (Option.none : Option Jvm.ClassFile.FieldType), 1, 0, 270, 269, 0, 139, 1),
  (⟨"PhasorTree$Hub", "begin", "(III)V"⟩, prog_3_method_2_code, 4, (Option.none : Option Jvm.ClassFile.FieldType), 4, 0, 339, 338, 0, 139, 1),
  (⟨"PhasorTree$Hub", "copyFrom", "(LPhasorTree$Hub;)V"⟩, prog_3_method_3_code, 2, (Option.none : Option Jvm.ClassFile.FieldType), 2, 0, 458, 457, 9, 139, 1),
  (⟨"PhasorTree$Hub", "isUntouched", "()Z"⟩, prog_3_method_4_code, 1, (Option.some Jvm.ClassFile.FieldType.boolean), 1, 2, 537, 536, 23, 139, 1),
  (⟨"PhasorTree$Hub", "slotFor", "(II)I"⟩, prog_3_method_5_code, 4, (Option.some Jvm.ClassFile.FieldType.int), 3, 1, 643, 642, 42, 139, 1),
  (⟨"PhasorTree$Hub", "waitLeft", "(II)I"⟩, prog_3_method_6_code, 5, (Option.some Jvm.ClassFile.FieldType.int), 3, 1, 670, 669, 48, 139, 1),
  (⟨"PhasorTree$Tree", "<init>", "()V"⟩, prog_6_method_1_code, 2, (Option.none : Option Jvm.ClassFile.FieldType), 1, 0, 196, 195, 0, 136, 4),
  (⟨"PhasorTree$Tree", "copyFrom", "(LPhasorTree$Tree;)V"⟩, prog_6_method_2_code, 3, (Option.none : Option Jvm.ClassFile.FieldType), 2, 0, 433, 432, 4, 136, 4),
  (⟨"PhasorTree$Tree", "hasHub", "(I)Z"⟩, prog_6_method_3_code, 2, (Option.some Jvm.ClassFile.FieldType.boolean), 2, 2, 413, 412, 2, 136, 4),
  (⟨"PhasorTree$Tree", "hasUnit", "(I)Z"⟩, prog_6_method_4_code, 2, (Option.some Jvm.ClassFile.FieldType.boolean), 2, 2, 501, 500, 16, 136, 4),
  (⟨"PhasorTree$Tree", "joinError", "(IIZ)I"⟩, prog_6_method_5_code, 4, (Option.some Jvm.ClassFile.FieldType.int), 4, 1, 409, 408, 1, 136, 4),
  (⟨"PhasorTree$Tree", "addHub", "(II)I"⟩, prog_6_method_6_code, 3, (Option.some Jvm.ClassFile.FieldType.int), 3, 1, 477, 476, 12, 136, 4),
  (⟨"PhasorTree$Tree", "addUnit", "(II)I"⟩, prog_6_method_7_code, 3, (Option.some Jvm.ClassFile.FieldType.int), 3, 1, 485, 484, 13, 136, 4),
  (⟨"PhasorTree$Tree", "retireError", "(I)I"⟩, prog_6_method_8_code, 2, (Option.some Jvm.ClassFile.FieldType.int), 2, 1, 497, 496, 15, 136, 4),
  (⟨"PhasorTree$Tree", "retire", "(I)V"⟩, prog_6_method_9_code, 2, (Option.none : Option Jvm.ClassFile.FieldType), 2, 0, 505, 504, 17, 136, 4),
  (⟨"PhasorTree$Tree", "settingError", "(III)I"⟩, prog_6_method_10_code, 4, (Option.some Jvm.ClassFile.FieldType.int), 4, 1, 525, 524, 21, 136, 4),
  (⟨"PhasorTree$Tree", "canHavePeriod", "(II)Z"⟩, prog_6_method_11_code, 5, (Option.some Jvm.ClassFile.FieldType.boolean), 3, 2, 533, 532, 22, 136, 4),
  (⟨"PhasorTree$Tree", "changeSetting", "(III)I"⟩, prog_6_method_12_code, 5, (Option.some Jvm.ClassFile.FieldType.int), 4, 1, 549, 548, 26, 136, 4),
  (⟨"PhasorTree$Tree", "isChild", "(II)Z"⟩, prog_6_method_13_code, 4, (Option.some Jvm.ClassFile.FieldType.boolean), 3, 2, 541, 540, 24, 136, 4),
  (⟨"PhasorTree$Tree", "periodOf", "(I)I"⟩, prog_6_method_14_code, 2, (Option.some Jvm.ClassFile.FieldType.int), 2, 1, 545, 544, 25, 136, 4),
  (⟨"PhasorTree$Tree", "childToward", "(II)I"⟩, prog_6_method_15_code, 6, (Option.some Jvm.ClassFile.FieldType.int), 3, 1, 517, 516, 20, 136, 4),
  (⟨"PhasorTree$Tree", "childrenOf", "(I)I"⟩, prog_6_method_16_code, 4, (Option.some Jvm.ClassFile.FieldType.int), 2, 1, 565, 564, 28, 136, 4),
  (⟨"PhasorTree$Tree", "unitsUnder", "(I)I"⟩, prog_6_method_17_code, 4, (Option.some Jvm.ClassFile.FieldType.int), 2, 1, 513, 512, 19, 136, 4),
  (⟨"PhasorTree$Tree", "unitsLeft", "()I"⟩, prog_6_method_18_code, 1, (Option.some Jvm.ClassFile.FieldType.int), 1, 1, 509, 508, 18, 136, 4),
  (⟨"PhasorTree$Tree", "unitOfHub", "(II)I"⟩, prog_6_method_19_code, 5, (Option.some Jvm.ClassFile.FieldType.int), 3, 1, 594, 593, 33, 136, 4),
  (⟨"PhasorTree$Tree", "delayToRoot", "(I)I"⟩, prog_6_method_20_code, 5, (Option.some Jvm.ClassFile.FieldType.int), 2, 1, 586, 585, 32, 136, 4),
  (⟨"PhasorTree$Tree", "hubFact", "(II)I"⟩, prog_6_method_21_code, 4, (Option.some Jvm.ClassFile.FieldType.int), 3, 1, 560, 559, 27, 136, 4),
  (⟨"PhasorTree$Tree", "unitFact", "(II)I"⟩, prog_6_method_22_code, 4, (Option.some Jvm.ClassFile.FieldType.int), 3, 1, 582, 581, 31, 136, 4),
  (⟨"PhasorTree$Tree", "departError", "(IIIII)I"⟩, prog_6_method_23_code, 6, (Option.some Jvm.ClassFile.FieldType.int), 6, 1, 602, 601, 34, 136, 4),
  (⟨"PhasorTree$Tree", "depart", "(IIIII)V"⟩, prog_6_method_24_code, 6, (Option.none : Option Jvm.ClassFile.FieldType), 6, 0, 609, 608, 35, 136, 4),
  (⟨"PhasorTree$Tree", "elapseError", "(I)I"⟩, prog_6_method_25_code, 2, (Option.some Jvm.ClassFile.FieldType.int), 2, 1, 627, 626, 38, 136, 4),
  (⟨"PhasorTree$Tree", "elapse", "(I)V"⟩, prog_6_method_26_code, 5, (Option.none : Option Jvm.ClassFile.FieldType), 2, 0, 631, 630, 39, 136, 4),
  (⟨"PhasorTree$Tree", "bringDueFrames", "()V"⟩, prog_6_method_27_code, 3, (Option.none : Option Jvm.ClassFile.FieldType), 1, 0, 635, 634, 40, 136, 4),
  (⟨"PhasorTree$Tree", "arrive", "(LPhasorTree$Frame;)V"⟩, prog_6_method_28_code, 7, (Option.none : Option Jvm.ClassFile.FieldType), 2, 0, 639, 638, 41, 136, 4),
  (⟨"PhasorTree$Tree", "expectedOf", "(III)I"⟩, prog_6_method_29_code, 6, (Option.some Jvm.ClassFile.FieldType.int), 4, 1, 686, 685, 51, 136, 4),
  (⟨"PhasorTree$Tree", "expectedOfAll", "(II)I"⟩, prog_6_method_30_code, 5, (Option.some Jvm.ClassFile.FieldType.int), 3, 1, 742, 741, 63, 136, 4),
  (⟨"PhasorTree$Tree", "isComplete", "(III)Z"⟩, prog_6_method_31_code, 6, (Option.some Jvm.ClassFile.FieldType.boolean), 4, 2, 681, 680, 50, 136, 4),
  (⟨"PhasorTree$Tree", "isFirstSlotReady", "(I)Z"⟩, prog_6_method_32_code, 3, (Option.some Jvm.ClassFile.FieldType.boolean), 2, 2, 666, 665, 47, 136, 4),
  (⟨"PhasorTree$Tree", "releaseReadySlots", "(I)V"⟩, prog_6_method_33_code, 4, (Option.none : Option Jvm.ClassFile.FieldType), 2, 0, 662, 661, 46, 136, 4),
  (⟨"PhasorTree$Tree", "putOut", "()V"⟩, prog_6_method_34_code, 2, (Option.none : Option Jvm.ClassFile.FieldType), 1, 0, 724, 723, 60, 136, 4),
  (⟨"PhasorTree$Tree", "build", "(I)V"⟩, prog_6_method_35_code, 5, (Option.none : Option Jvm.ClassFile.FieldType), 2, 0, 691, 690, 52, 136, 4),
  (⟨"PhasorTree$Tree", "takeHeld", "(ILPhasorTree$Frame;)V"⟩, prog_6_method_36_code, 3, (Option.none : Option Jvm.ClassFile.FieldType), 3, 0, 695, 694, 53, 136, 4),
  (⟨"PhasorTree$Tree", "takeStamped", "(IILPhasorTree$Row;)V"⟩, prog_6_method_37_code, 7, (Option.none : Option Jvm.ClassFile.FieldType), 4, 0, 715, 714, 58, 136, 4),
  (⟨"PhasorTree$Tree", "takeFiltered", "(III)V"⟩, prog_6_method_38_code, 12, (Option.none : Option Jvm.ClassFile.FieldType), 4, 0, 703, 702, 55, 136, 4),
  (⟨"PhasorTree$Tree", "hasValidReading", "(IILPhasorTree$Row;I)Z"⟩, prog_6_method_39_code, 7, (Option.some Jvm.ClassFile.FieldType.boolean), 5, 2, 707, 706, 56, 136, 4),
  (⟨"PhasorTree$Tree", "insertSorted", "(II)V"⟩, prog_6_method_40_code, 4, (Option.none : Option Jvm.ClassFile.FieldType), 3, 0, 711, 710, 57, 136, 4),
  (⟨"PhasorTree$Tree", "slotFact", "(III)I"⟩, prog_6_method_41_code, 8, (Option.some Jvm.ClassFile.FieldType.int), 4, 1, 733, 732, 61, 136, 4),
  (⟨"PhasorTree$Tree", "outputsKept", "()I"⟩, prog_6_method_42_code, 1, (Option.some Jvm.ClassFile.FieldType.int), 1, 1, 469, 468, 11, 136, 4),
  (⟨"PhasorTree$Tree", "output", "(I)LPhasorTree$Frame;"⟩, prog_6_method_43_code, 2, (Option.some (Jvm.ClassFile.FieldType.object "PhasorTree$Frame")), 2, 3, 754, 753, 65, 136, 4),
  (⟨"PhasorTree$Tree", "outputFact", "(II)I"⟩, prog_6_method_44_code, 4, (Option.some Jvm.ClassFile.FieldType.int), 3, 1, 750, 749, 64, 136, 4),
  (⟨"PhasorTree$Tree", "total", "(I)I"⟩, prog_6_method_45_code, 2, (Option.some Jvm.ClassFile.FieldType.int), 2, 1, 796, 795, 68, 136, 4),
  (⟨"PhasorTree$Tree", "lateOfAll", "()I"⟩, prog_6_method_46_code, 3, (Option.some Jvm.ClassFile.FieldType.int), 1, 1, 801, 800, 69, 136, 4),
  (⟨"PhasorTree$Tree", "doublesOfAll", "()I"⟩, prog_6_method_47_code, 3, (Option.some Jvm.ClassFile.FieldType.int), 1, 1, 805, 804, 70, 136, 4),
  (⟨"PhasorTree$Orders", "<init>", "()V"⟩, prog_4_method_1_code, 1, (Option.none : Option Jvm.ClassFile.FieldType), 1, 0, 160, 159, 0, 135, 2),
  (⟨"PhasorTree$Orders", "append", "(C)Z"⟩, prog_4_method_2_code, 2, (Option.some Jvm.ClassFile.FieldType.boolean), 2, 2, 818, 817, 71, 135, 2),
  (⟨"PhasorTree$Orders", "perform", "(LPhasorTree$Tree;LPhasorTree$Tree;)V"⟩, prog_4_method_3_code, 3, (Option.none : Option Jvm.ClassFile.FieldType), 3, 0, 831, 830, 72, 135, 2),
  (⟨"PhasorTree$Orders", "reasonAgainst", "(LPhasorTree$Tree;)I"⟩, prog_4_method_4_code, 2, (Option.some Jvm.ClassFile.FieldType.int), 2, 1, 836, 835, 73, 135, 2),
  (⟨"PhasorTree$Orders", "orderError", "(LPhasorTree$Tree;)I"⟩, prog_4_method_5_code, 2, (Option.some Jvm.ClassFile.FieldType.int), 2, 1, 854, 853, 77, 135, 2),
  (⟨"PhasorTree$Orders", "readOrder", "()Z"⟩, prog_4_method_6_code, 1, (Option.some Jvm.ClassFile.FieldType.boolean), 1, 2, 840, 839, 74, 135, 2),
  (⟨"PhasorTree$Orders", "readNumber", "(IC)Z"⟩, prog_4_method_7_code, 7, (Option.some Jvm.ClassFile.FieldType.boolean), 3, 2, 844, 843, 75, 135, 2),
  (⟨"PhasorTree$Orders", "isAt", "(C)Z"⟩, prog_4_method_8_code, 2, (Option.some Jvm.ClassFile.FieldType.boolean), 2, 2, 848, 847, 76, 135, 2),
  (⟨"PhasorTree", "<init>", "()V"⟩, prog_1_method_1_code, 2, (Option.none : Option Jvm.ClassFile.FieldType), 1, 0, 150, 149, 0, 134, 6),
  (⟨"PhasorTree", "hub", "(II)I"⟩, prog_1_method_2_code, 4, (Option.some Jvm.ClassFile.FieldType.int), 3, 1, 405, 403, 404, 134, 6),
  (⟨"PhasorTree", "unit", "(II)I"⟩, prog_1_method_3_code, 4, (Option.some Jvm.ClassFile.FieldType.int), 3, 1, 481, 479, 480, 134, 6),
  (⟨"PhasorTree", "takeOff", "(I)I"⟩, prog_1_method_4_code, 3, (Option.some Jvm.ClassFile.FieldType.int), 2, 1, 493, 491, 492, 134, 6),
  (⟨"PhasorTree", "set", "(III)I"⟩, prog_1_method_5_code, 5, (Option.some Jvm.ClassFile.FieldType.int), 4, 1, 521, 519, 520, 134, 6),
  (⟨"PhasorTree", "hubOf", "(II)I"⟩, prog_1_method_6_code, 3, (Option.some Jvm.ClassFile.FieldType.int), 3, 1, 553, 551, 552, 134, 6),
  (⟨"PhasorTree", "unitOf", "(II)I"⟩, prog_1_method_7_code, 3, (Option.some Jvm.ClassFile.FieldType.int), 3, 1, 577, 575, 576, 134, 6),
  (⟨"PhasorTree", "unitAt", "(II)I"⟩, prog_1_method_8_code, 3, (Option.some Jvm.ClassFile.FieldType.int), 3, 1, 590, 588, 589, 134, 6),
  (⟨"PhasorTree", "send", "(IIIII)I"⟩, prog_1_method_9_code, 7, (Option.some Jvm.ClassFile.FieldType.int), 6, 1, 598, 596, 597, 134, 6),
  (⟨"PhasorTree", "pass", "(I)I"⟩, prog_1_method_10_code, 3, (Option.some Jvm.ClassFile.FieldType.int), 2, 1, 623, 621, 622, 134, 6),
  (⟨"PhasorTree", "slotAt", "(III)I"⟩, prog_1_method_11_code, 4, (Option.some Jvm.ClassFile.FieldType.int), 4, 1, 729, 727, 728, 134, 6),
  (⟨"PhasorTree", "outAt", "(II)I"⟩, prog_1_method_12_code, 3, (Option.some Jvm.ClassFile.FieldType.int), 3, 1, 746, 744, 745, 134, 6),
  (⟨"PhasorTree", "readingAt", "(III)I"⟩, prog_1_method_13_code, 5, (Option.some Jvm.ClassFile.FieldType.int), 4, 1, 769, 767, 768, 134, 6),
  (⟨"PhasorTree", "heldBy", "(III)I"⟩, prog_1_method_14_code, 4, (Option.some Jvm.ClassFile.FieldType.int), 4, 1, 780, 778, 779, 134, 6),
  (⟨"PhasorTree", "nextOut", "()I"⟩, prog_1_method_15_code, 2, (Option.some Jvm.ClassFile.FieldType.int), 1, 1, 784, 782, 783, 134, 6),
  (⟨"PhasorTree", "foresee", "(I)I"⟩, prog_1_method_16_code, 2, (Option.some Jvm.ClassFile.FieldType.int), 2, 1, 788, 786, 787, 134, 6),
  (⟨"PhasorTree", "count", "(I)I"⟩, prog_1_method_17_code, 2, (Option.some Jvm.ClassFile.FieldType.int), 2, 1, 792, 790, 791, 134, 6),
  (⟨"PhasorTree", "undo", "()I"⟩, prog_1_method_18_code, 2, (Option.some Jvm.ClassFile.FieldType.int), 1, 1, 809, 807, 808, 134, 6),
  (⟨"PhasorTree", "type", "(I)I"⟩, prog_1_method_19_code, 2, (Option.some Jvm.ClassFile.FieldType.int), 2, 1, 814, 812, 813, 134, 6),
  (⟨"PhasorTree", "clearText", "()I"⟩, prog_1_method_20_code, 2, (Option.some Jvm.ClassFile.FieldType.int), 1, 1, 823, 821, 822, 134, 6),
  (⟨"PhasorTree", "fault", "(I)I"⟩, prog_1_method_21_code, 2, (Option.some Jvm.ClassFile.FieldType.int), 2, 1, 827, 825, 826, 134, 6),
  (⟨"PhasorTree", "play", "()I"⟩, prog_1_method_22_code, 2, (Option.some Jvm.ClassFile.FieldType.int), 1, 1, 864, 862, 863, 134, 6),
  (⟨"PhasorTree", "remember", "()V"⟩, prog_1_method_23_code, 3, (Option.none : Option Jvm.ClassFile.FieldType), 1, 0, 429, 428, 3, 134, 6),
  (⟨"PhasorTree", "isWithin", "(III)Z"⟩, prog_1_method_24_code, 3, (Option.some Jvm.ClassFile.FieldType.boolean), 3, 2, 416, 415, 0, 134, 6),
  (⟨"PhasorTree", "isMultiple", "(II)Z"⟩, prog_1_method_25_code, 2, (Option.some Jvm.ClassFile.FieldType.boolean), 2, 2, 423, 422, 0, 134, 6),
  (⟨"PhasorTree", "quotient", "(II)I"⟩, prog_1_method_26_code, 2, (Option.some Jvm.ClassFile.FieldType.int), 2, 1, 646, 645, 0, 134, 6),
  (⟨"PhasorTree", "goTogether", "(II)Z"⟩, prog_1_method_27_code, 2, (Option.some Jvm.ClassFile.FieldType.boolean), 2, 2, 420, 419, 0, 134, 6),
  (⟨"java/util/Arrays", "fill", "([II)V"⟩, prog_13_method_103_code, 4, (Option.none : Option Jvm.ClassFile.FieldType), 2, 0, 342, 341, 0, 141, 99),
  (⟨"java/lang/Integer", "bitCount", "(I)I"⟩, prog_10_method_49_code, 1, (Option.some Jvm.ClassFile.FieldType.int), 1, 1, 762, 761, 0, 145, 99)]
end
section
def cod (y : Nat) : List Ins := ev_cods.getD y []
def hd (y : Nat) : Hd := ev_hds.getD y (⟨"", "", ""⟩, ⟨#[]⟩, 0, none, 0, 0, 0, 0, 0, 0, 0)
def hNm (y : Nat) : MethodName := (hd y).1
def hBy (y : Nat) : ByteArray := (hd y).2.1
def hMx (y : Nat) : Nat := (hd y).2.2.1
def hRt (y : Nat) : Option FieldType := (hd y).2.2.2.1
def hAr (y : Nat) : Nat := (hd y).2.2.2.2.1
def hRk (y : Nat) : Nat := (hd y).2.2.2.2.2.1
def hCw (y : Nat) : Nat := (hd y).2.2.2.2.2.2.1
def hIw (y : Nat) : Nat := (hd y).2.2.2.2.2.2.2.1
def hSw (y : Nat) : Nat := (hd y).2.2.2.2.2.2.2.2.1
def hNw (y : Nat) : Nat := (hd y).2.2.2.2.2.2.2.2.2.1
def hCi (y : Nat) : Nat := (hd y).2.2.2.2.2.2.2.2.2.2
def pcO (y pos : Nat) : Nat := (ev_pcss.getD y []).getD pos 0
def ini (y : Nat) (as : List AV) : Ls := as.map some ++ List.replicate (hMx y - as.length) none
def isRet (i : Ins) : Bool := match i.1 with
  | .return_ => true
  | .ireturn => true
  | .areturn => true
  | _ => false
def isCall (i : Ins) : Bool := match i.1 with
  | .invokevirtual _ => decide (i.2.2.2.1 ≤ 1)
  | .invokestatic _ => decide (2 ≤ i.2.2.2.1 ∧ i.2.2.2.1 ≤ 3)
  | .invokespecial _ => decide (4 ≤ i.2.2.2.1 ∧ i.2.2.2.1 ≤ 5)
  | _ => false
def e_ret (y : Nat) (i : Ins) (st : List AV) (h : HP) : Option (Option AV × HP) := match i.1 with
  | .return_ => match st with
    | [] => if hRk y = 0 then some (none, h) else none
    | _ => none
  | .ireturn => match st with
    | [.inl x] => if hRk y = 1 ∨ hRk y = 2 ∧ 0 ≤ x ∧ x ≤ 1 then some (some (.inl x), h) else none
    | _ => none
  | .areturn => match st with
    | [.inr r] => if hRk y = 3 then some (some (.inr r), h) else none
    | _ => none
  | _ => none
/-- the receiver is there, and of the method's class -/
def rcv (kind y : Nat) (as : List AV) (h : HP) : Bool := match kind, as with
  | 0, .inr (some a) :: _ => decide ((hTy h a).1 = hCi y + 1)
  | 1, .inr (some a) :: _ => decide ((hTy h a).1 = hCi y + 1)
  | 2, _ => true
  | 3, _ => true
  | 4, .inr (some _) :: _ => true
  | 5, .inr (some _) :: _ => true
  | _, _ => false
/-- fuel, calls that may be opened, method, place, locals, stack, heap -/
def run : Nat → Nat → Nat → Nat → Ls → List AV → HP → Option (Option AV × HP)
  | 0, _, _, _, _, _, _ => none
  | n + 1, d, y, pos, ls, st, h =>
    match (cod y)[pos]? with
    | none => none
    | some i =>
      if isRet i = true then e_ret y i st h
      else if isCall i = true then
        match d with
        | 0 => none
        | d' + 1 =>
          if hAr i.2.2.1 ≤ st.length ∧ (st.drop (hAr i.2.2.1)).length ≤ 8 ∧ rcv i.2.2.2.1 i.2.2.1 (st.take (hAr i.2.2.1)).reverse h = true then
            match run n d' i.2.2.1 0 (ini i.2.2.1 (st.take (hAr i.2.2.1)).reverse) [] h with
            | none => none
            | some r => run n (d' + 1) y (pos + 1) ls (r.1.toList ++ st.drop (hAr i.2.2.1)) r.2
          else none
      else match ex1 d i pos ls st h with
        | none => none
        | some c => run n d y c.1 c.2.1 c.2.2.1 c.2.2.2
/-! what a program checks of the tables -/
def iLen (i : Ins) : Nat := match i.1 with
  | .iload _ => 2
  | .aload _ => 2
  | .istore _ => 2
  | .astore _ => 2
  | .bipush _ => 2
  | .ldc _ => 2
  | .newarray _ => 2
  | .sipush _ => 3
  | .ldc_w _ => 3
  | .iinc _ _ => 3
  | .ifCond _ _ => 3
  | .if_icmp _ _ => 3
  | .goto _ => 3
  | .ifnonnull _ => 3
  | .getfield _ => 3
  | .putfield _ => 3
  | .getstatic _ => 3
  | .invokevirtual _ => 3
  | .invokestatic _ => 3
  | .invokespecial _ => 3
  | .new _ => 3
  | .anewarray _ => 3
  | .tableswitch _ _ _ _ => i.2.2.2.2.1
  | .lookupswitch _ _ => i.2.2.2.2.1
  | _ => 1
def flows (i : Ins) : Bool := match i.1 with
  | .goto _ => false
  | .tableswitch _ _ _ _ => false
  | .lookupswitch _ _ => false
  | .return_ => false
  | .ireturn => false
  | .areturn => false
  | _ => true
def fldC (ci : Nat) : String := ((ev_cl[ci]?).getD ("", TX0, 0)).1
def fldT (ci : Nat) : u_T := ((ev_cl[ci]?).getD ("", TX0, 0)).2.1
def tgtO (y pos : Nat) (off : Int) (t : Nat) : Bool := decide ((pcO y pos : Int) + off = (pcO y t : Int))
def tgtsO (y pos : Nat) : List Int → List Nat → Bool
  | [], [] => true
  | o :: os, t :: ts => tgtO y pos o t && tgtsO y pos os ts
  | _, _ => false
def wd (w : Nat) (c : Jvm.Cond) : Bool := decide (lw_tbl[w]? = some c)
def lnkO (y pos : Nat) (i : Ins) : Bool := match i.1 with
  | .ldc idx => wd i.2.2.2.2.1 (.constant (hNm y).cls idx (Int32.ofInt i.2.1))
  | .ldc_w idx => wd i.2.2.2.2.1 (.constant (hNm y).cls idx (Int32.ofInt i.2.1))
  | .ifCond _ off => tgtO y pos off i.2.2.1
  | .if_icmp _ off => tgtO y pos off i.2.2.1
  | .goto off => tgtO y pos off i.2.2.1
  | .ifnonnull off => tgtO y pos off i.2.2.1
  | .tableswitch d lo hi offs => tgtsO y pos (d :: offs.toList) i.2.2.2.2.2 && decide (hi - lo + 1 = (offs.size : Int))
  | .lookupswitch d ps => tgtsO y pos (d :: ps.toList.map (fun q => q.2)) i.2.2.2.2.2 && (ps.toList.zip (ps.toList.drop 1)).all (fun (a, next) => a.1 < next.1)
  | .getfield idx => decide (i.2.2.1 < 8) && (wd i.2.2.2.2.1 (.fieldLink (hNm y).cls idx (fldC i.2.2.1) (fldT i.2.2.1 i.2.2.2.1).2.1 (fldT i.2.2.1 i.2.2.2.1).2.2.1) || wd i.2.2.2.2.1 (.fieldLinkNest (hNm y).cls idx (fldC i.2.2.1) (fldT i.2.2.1 i.2.2.2.1).2.1 (fldT i.2.2.1 i.2.2.2.1).2.2.1 "PhasorTree"))
  | .putfield idx => decide (i.2.2.1 < 8) && (if (fldT i.2.2.1 i.2.2.2.1).2.2.2 = true then wd i.2.2.2.2.1 (.fieldLink (hNm y).cls idx (fldC i.2.2.1) (fldT i.2.2.1 i.2.2.2.1).2.1 (fldT i.2.2.1 i.2.2.2.1).2.2.1) && decide ((hNm y).name = "<init>") && decide ((hNm y).cls = fldC i.2.2.1)
    else (wd i.2.2.2.2.1 (.fieldLink (hNm y).cls idx (fldC i.2.2.1) (fldT i.2.2.1 i.2.2.2.1).2.1 (fldT i.2.2.1 i.2.2.2.1).2.2.1) || wd i.2.2.2.2.1 (.fieldLinkNest (hNm y).cls idx (fldC i.2.2.1) (fldT i.2.2.1 i.2.2.2.1).2.1 (fldT i.2.2.1 i.2.2.2.1).2.2.1 "PhasorTree")))
  | .getstatic idx => decide (i.2.2.1 < 2) && wd i.2.2.2.2.1 (.fieldLinkNest (hNm y).cls idx "PhasorTree" (if i.2.2.1 = 0 then "LEAST_SETTING" else "MOST_SETTING") "[I" "PhasorTree")
  | .new idx => decide (i.2.2.1 < 8) && wd i.2.2.2.2.1 (.classLink (hNm y).cls idx (fldC i.2.2.1))
  | .anewarray idx => decide (i.2.2.1 < 8) && wd i.2.2.2.2.1 (.classLink (hNm y).cls idx (fldC i.2.2.1)) && decide (i.2.2.1 = 0 ∨ i.2.2.1 = 1 ∨ i.2.2.1 = 4 ∨ i.2.2.1 = 5)
  | .invokevirtual idx => decide (i.2.2.1 < 193) && decide (hCi i.2.2.1 < 8) && decide (0 < hAr i.2.2.1) && (if i.2.2.2.1 = 0 then wd i.2.2.2.2.1 (.methodLink (hNm y).cls idx (hNm i.2.2.1)) else wd i.2.2.2.2.1 (.methodLinkNest (hNm y).cls idx (hNm i.2.2.1) "PhasorTree"))
      && wd (hIw i.2.2.1) (.instanceMethod (hNm i.2.2.1)) && wd (hSw i.2.2.1) (.selects (hNm i.2.2.1).cls (hNm i.2.2.1) (hNm i.2.2.1)) && decide ((parseMethodDescriptor (hNm i.2.2.1).desc).map (fun d => d.parameters.length) = some (hAr i.2.2.1 - 1))
  | .invokestatic idx => if i.2.2.2.1 = 7 then wd i.2.2.2.2.1 (.methodLink (hNm y).cls idx arraycopyName)
      else if i.2.2.2.1 = 8 then wd i.2.2.2.2.1 (.methodLink (hNm y).cls idx Lib.Math.max.name)
      else if i.2.2.2.1 = 9 then wd i.2.2.2.2.1 (.methodLink (hNm y).cls idx Lib.Math.min.name)
      else decide (i.2.2.1 < 193) && (if i.2.2.2.1 = 2 then wd i.2.2.2.2.1 (.methodLink (hNm y).cls idx (hNm i.2.2.1)) else wd i.2.2.2.2.1 (.methodLinkNest (hNm y).cls idx (hNm i.2.2.1) "PhasorTree"))
      && wd (hIw i.2.2.1) (.static (hNm i.2.2.1)) && decide ((parseMethodDescriptor (hNm i.2.2.1).desc).map (fun d => d.parameters.length) = some (hAr i.2.2.1))
  | .invokespecial idx => if i.2.2.2.1 = 6 then wd i.2.2.2.2.1 (.methodLink (hNm y).cls idx objectInit)
      else decide (i.2.2.1 < 193) && decide (0 < hAr i.2.2.1) && (if i.2.2.2.1 = 4 then wd i.2.2.2.2.1 (.methodLink (hNm y).cls idx (hNm i.2.2.1)) else wd i.2.2.2.2.1 (.methodLinkNest (hNm y).cls idx (hNm i.2.2.1) "PhasorTree"))
      && wd (hIw i.2.2.1) (.instanceMethod (hNm i.2.2.1)) && decide ((hNm i.2.2.1).name = "<init>") && decide (hRt i.2.2.1 = none) && decide ((parseMethodDescriptor (hNm i.2.2.1).desc).map (fun d => d.parameters.length) = some (hAr i.2.2.1 - 1))
  | _ => true
def okI (y pos : Nat) (i : Ins) : Bool := decide (decode (hBy y) (pcO y pos) = .ok (i.1, iLen i)) && (if flows i = true then decide (pcO y (pos + 1) = pcO y pos + iLen i) else true) && lnkO y pos i
def rkO (k : Nat) (r : Option FieldType) : Bool := match k, r with
  | 0, none => true
  | 1, some .int => true
  | 2, some .boolean => true
  | 3, some (.object _) => true
  | _, _ => false
def okHd (y : Nat) : Bool := wd (hCw y) (.code (hNm y) (hBy y) (hMx y) (hRt y)) && wd (hNw y) (.initialized (hNm y).cls) && rkO (hRk y) (hRt y) && decide (hAr y ≤ hMx y) && decide (hMx y ≤ 20) && Jvm.plainName (hNm y).cls && decide ((hNm y).cls ≠ "java/lang/invoke/MethodHandle" ∧ (hNm y).cls ≠ "java/lang/invoke/VarHandle") && (decide (hCi y = 99) || decide (fldC (hCi y) = (hNm y).cls))
def okMF : Nat → Nat → List Ins → Bool
  | _, _, [] => true
  | y, pos, i :: r => okI y pos i && okMF y (pos + 1) r
def okM (y : Nat) (c : List Ins) : Bool := okMF y 0 c
def okP (y : Nat) (c : List Ins) : Prop := ∀ (pos : Nat) (i : Ins), c[pos]? = some i → okI y pos i = true
theorem okMF_at : ∀ (c : List Ins) (y s : Nat), okMF y s c = true → ∀ (k : Nat) (i : Ins), c[k]? = some i → okI y (s + k) i = true
  | [], _, _, _, k, i, h => by simp at h
  | a :: r, y, s, h, k, i, hi => by
    simp only [okMF, Bool.and_eq_true] at h
    match k, hi with
    | 0, hi =>
      simp only [List.getElem?_cons_zero, Option.some.injEq] at hi
      rw [← hi]
      exact h.1
    | k + 1, hi =>
      rw [List.getElem?_cons_succ] at hi
      have := okMF_at r y (s + 1) h.2 k i hi
      rwa [show s + (k + 1) = s + 1 + k by omega]
theorem okM_of (ch y : Nat) (c : List Ins) (n : Nat) (hn : c.length ≤ ch * n) (h : ∀ k, k < n → okMF y (ch * k) (List.take ch (List.drop (ch * k) c)) = true) : okP y c := by
  intro pos i hi
  have hl : pos < c.length := (List.getElem?_eq_some_iff.mp hi).1
  have hc : 0 < ch := Nat.pos_of_ne_zero (fun e => by subst e; omega)
  have hk : pos / ch < n := Nat.div_lt_of_lt_mul (by omega)
  have hm : pos % ch < ch := Nat.mod_lt _ hc
  have he : ch * (pos / ch) + pos % ch = pos := Nat.div_add_mod pos ch
  have := okMF_at _ y (ch * (pos / ch)) (h _ hk) (pos % ch) i (by
    rw [List.getElem?_take, if_pos hm, List.getElem?_drop, he]
    exact hi)
  rwa [he] at this
end
section
set_option maxRecDepth 100000 in
theorem okc_L_law_0 : okMF 0 0 (List.take 40 (List.drop 0 c_L_law)) = true := by decide +kernel
set_option maxRecDepth 100000 in
theorem okc_L_law_1 : okMF 0 40 (List.take 40 (List.drop 40 c_L_law)) = true := by decide +kernel
set_option maxRecDepth 100000 in
theorem okc_L_law_2 : okMF 0 80 (List.take 40 (List.drop 80 c_L_law)) = true := by decide +kernel
set_option maxRecDepth 100000 in
theorem okc_L_law_3 : okMF 0 120 (List.take 40 (List.drop 120 c_L_law)) = true := by decide +kernel
set_option maxRecDepth 100000 in
theorem okc_L_law_4 : okMF 0 160 (List.take 40 (List.drop 160 c_L_law)) = true := by decide +kernel
set_option maxRecDepth 100000 in
theorem okc_L_law_5 : okMF 0 200 (List.take 40 (List.drop 200 c_L_law)) = true := by decide +kernel
set_option maxRecDepth 100000 in
theorem okc_L_law_6 : okMF 0 240 (List.take 40 (List.drop 240 c_L_law)) = true := by decide +kernel
set_option maxRecDepth 100000 in
theorem okc_L_law_7 : okMF 0 280 (List.take 40 (List.drop 280 c_L_law)) = true := by decide +kernel
set_option maxRecDepth 100000 in
theorem okc_L_law_8 : okMF 0 320 (List.take 40 (List.drop 320 c_L_law)) = true := by decide +kernel
set_option maxRecDepth 100000 in
theorem okc_L_law_9 : okMF 0 360 (List.take 40 (List.drop 360 c_L_law)) = true := by decide +kernel
set_option maxRecDepth 100000 in
theorem okc_L_law_10 : okMF 0 400 (List.take 40 (List.drop 400 c_L_law)) = true := by decide +kernel
set_option maxRecDepth 100000 in
theorem okc_L_law_11 : okMF 0 440 (List.take 40 (List.drop 440 c_L_law)) = true := by decide +kernel
set_option maxRecDepth 100000 in
theorem okc_L_law_12 : okMF 0 480 (List.take 40 (List.drop 480 c_L_law)) = true := by decide +kernel
set_option maxRecDepth 100000 in
theorem okc_L_law_13 : okMF 0 520 (List.take 40 (List.drop 520 c_L_law)) = true := by decide +kernel
set_option maxRecDepth 100000 in
theorem okm_L_law : okP 0 c_L_law := okM_of 40 0 c_L_law 14 (by decide +kernel) (fun k hk => match k, hk with
  | 0, _ => okc_L_law_0
  | 1, _ => okc_L_law_1
  | 2, _ => okc_L_law_2
  | 3, _ => okc_L_law_3
  | 4, _ => okc_L_law_4
  | 5, _ => okc_L_law_5
  | 6, _ => okc_L_law_6
  | 7, _ => okc_L_law_7
  | 8, _ => okc_L_law_8
  | 9, _ => okc_L_law_9
  | 10, _ => okc_L_law_10
  | 11, _ => okc_L_law_11
  | 12, _ => okc_L_law_12
  | 13, _ => okc_L_law_13
  | k + 14, h => absurd h (by omega))
end
section
set_option maxRecDepth 100000 in
theorem okc_m_init_0 : okMF 1 0 (List.take 40 (List.drop 0 c_m_init)) = true := by decide +kernel
set_option maxRecDepth 100000 in
theorem okc_m_init_1 : okMF 1 40 (List.take 40 (List.drop 40 c_m_init)) = true := by decide +kernel
set_option maxRecDepth 100000 in
theorem okm_m_init : okP 1 c_m_init := okM_of 40 1 c_m_init 2 (by decide +kernel) (fun k hk => match k, hk with
  | 0, _ => okc_m_init_0
  | 1, _ => okc_m_init_1
  | k + 2, h => absurd h (by omega))
set_option maxRecDepth 100000 in
theorem okc_m_in_0 : okMF 2 0 (List.take 40 (List.drop 0 c_m_in)) = true := by decide +kernel
set_option maxRecDepth 100000 in
theorem okm_m_in : okP 2 c_m_in := okM_of 40 2 c_m_in 1 (by decide +kernel) (fun k hk => match k, hk with
  | 0, _ => okc_m_in_0
  | k + 1, h => absurd h (by omega))
set_option maxRecDepth 100000 in
theorem okc_m_of_0 : okMF 3 0 (List.take 40 (List.drop 0 c_m_of)) = true := by decide +kernel
set_option maxRecDepth 100000 in
theorem okm_m_of : okP 3 c_m_of := okM_of 40 3 c_m_of 1 (by decide +kernel) (fun k hk => match k, hk with
  | 0, _ => okc_m_of_0
  | k + 1, h => absurd h (by omega))
set_option maxRecDepth 100000 in
theorem okc_m_its_0 : okMF 4 0 (List.take 40 (List.drop 0 c_m_its)) = true := by decide +kernel
set_option maxRecDepth 100000 in
theorem okm_m_its : okP 4 c_m_its := okM_of 40 4 c_m_its 1 (by decide +kernel) (fun k hk => match k, hk with
  | 0, _ => okc_m_its_0
  | k + 1, h => absurd h (by omega))
set_option maxRecDepth 100000 in
theorem okc_m_fr_0 : okMF 5 0 (List.take 40 (List.drop 0 c_m_fr)) = true := by decide +kernel
set_option maxRecDepth 100000 in
theorem okm_m_fr : okP 5 c_m_fr := okM_of 40 5 c_m_fr 1 (by decide +kernel) (fun k hk => match k, hk with
  | 0, _ => okc_m_fr_0
  | k + 1, h => absurd h (by omega))
set_option maxRecDepth 100000 in
theorem okc_m_lays_0 : okMF 6 0 (List.take 40 (List.drop 0 c_m_lays)) = true := by decide +kernel
set_option maxRecDepth 100000 in
theorem okm_m_lays : okP 6 c_m_lays := okM_of 40 6 c_m_lays 1 (by decide +kernel) (fun k hk => match k, hk with
  | 0, _ => okc_m_lays_0
  | k + 1, h => absurd h (by omega))
set_option maxRecDepth 100000 in
theorem okc_m_isHub_0 : okMF 7 0 (List.take 40 (List.drop 0 c_m_isHub)) = true := by decide +kernel
set_option maxRecDepth 100000 in
theorem okm_m_isHub : okP 7 c_m_isHub := okM_of 40 7 c_m_isHub 1 (by decide +kernel) (fun k hk => match k, hk with
  | 0, _ => okc_m_isHub_0
  | k + 1, h => absurd h (by omega))
set_option maxRecDepth 100000 in
theorem okc_m_isUnit_0 : okMF 8 0 (List.take 40 (List.drop 0 c_m_isUnit)) = true := by decide +kernel
set_option maxRecDepth 100000 in
theorem okm_m_isUnit : okP 8 c_m_isUnit := okM_of 40 8 c_m_isUnit 1 (by decide +kernel) (fun k hk => match k, hk with
  | 0, _ => okc_m_isUnit_0
  | k + 1, h => absurd h (by omega))
set_option maxRecDepth 100000 in
theorem okc_m_isOn_0 : okMF 9 0 (List.take 40 (List.drop 0 c_m_isOn)) = true := by decide +kernel
set_option maxRecDepth 100000 in
theorem okm_m_isOn : okP 9 c_m_isOn := okM_of 40 9 c_m_isOn 1 (by decide +kernel) (fun k hk => match k, hk with
  | 0, _ => okc_m_isOn_0
  | k + 1, h => absurd h (by omega))
set_option maxRecDepth 100000 in
theorem okc_m_keeps_0 : okMF 10 0 (List.take 40 (List.drop 0 c_m_keeps)) = true := by decide +kernel
set_option maxRecDepth 100000 in
theorem okm_m_keeps : okP 10 c_m_keeps := okM_of 40 10 c_m_keeps 1 (by decide +kernel) (fun k hk => match k, hk with
  | 0, _ => okc_m_keeps_0
  | k + 1, h => absurd h (by omega))
set_option maxRecDepth 100000 in
theorem okc_m_acted_0 : okMF 11 0 (List.take 40 (List.drop 0 c_m_acted)) = true := by decide +kernel
set_option maxRecDepth 100000 in
theorem okc_m_acted_1 : okMF 11 40 (List.take 40 (List.drop 40 c_m_acted)) = true := by decide +kernel
set_option maxRecDepth 100000 in
theorem okm_m_acted : okP 11 c_m_acted := okM_of 40 11 c_m_acted 2 (by decide +kernel) (fun k hk => match k, hk with
  | 0, _ => okc_m_acted_0
  | 1, _ => okc_m_acted_1
  | k + 2, h => absurd h (by omega))
set_option maxRecDepth 100000 in
theorem okc_m_puts_0 : okMF 12 0 (List.take 40 (List.drop 0 c_m_puts)) = true := by decide +kernel
set_option maxRecDepth 100000 in
theorem okm_m_puts : okP 12 c_m_puts := okM_of 40 12 c_m_puts 1 (by decide +kernel) (fun k hk => match k, hk with
  | 0, _ => okc_m_puts_0
  | k + 1, h => absurd h (by omega))
set_option maxRecDepth 100000 in
theorem okc_m_restores_0 : okMF 13 0 (List.take 40 (List.drop 0 c_m_restores)) = true := by decide +kernel
set_option maxRecDepth 100000 in
theorem okm_m_restores : okP 13 c_m_restores := okM_of 40 13 c_m_restores 1 (by decide +kernel) (fun k hk => match k, hk with
  | 0, _ => okc_m_restores_0
  | k + 1, h => absurd h (by omega))
set_option maxRecDepth 100000 in
theorem okc_m_goWith_0 : okMF 14 0 (List.take 40 (List.drop 0 c_m_goWith)) = true := by decide +kernel
set_option maxRecDepth 100000 in
theorem okm_m_goWith : okP 14 c_m_goWith := okM_of 40 14 c_m_goWith 1 (by decide +kernel) (fun k hk => match k, hk with
  | 0, _ => okc_m_goWith_0
  | k + 1, h => absurd h (by omega))
set_option maxRecDepth 100000 in
theorem okc_m_isChild_0 : okMF 15 0 (List.take 40 (List.drop 0 c_m_isChild)) = true := by decide +kernel
set_option maxRecDepth 100000 in
theorem okm_m_isChild : okP 15 c_m_isChild := okM_of 40 15 c_m_isChild 1 (by decide +kernel) (fun k hk => match k, hk with
  | 0, _ => okc_m_isChild_0
  | k + 1, h => absurd h (by omega))
set_option maxRecDepth 100000 in
theorem okc_m_periodOf_0 : okMF 16 0 (List.take 40 (List.drop 0 c_m_periodOf)) = true := by decide +kernel
set_option maxRecDepth 100000 in
theorem okm_m_periodOf : okP 16 c_m_periodOf := okM_of 40 16 c_m_periodOf 1 (by decide +kernel) (fun k hk => match k, hk with
  | 0, _ => okc_m_periodOf_0
  | k + 1, h => absurd h (by omega))
set_option maxRecDepth 100000 in
theorem okc_m_through_0 : okMF 17 0 (List.take 40 (List.drop 0 c_m_through)) = true := by decide +kernel
set_option maxRecDepth 100000 in
theorem okm_m_through : okP 17 c_m_through := okM_of 40 17 c_m_through 1 (by decide +kernel) (fun k hk => match k, hk with
  | 0, _ => okc_m_through_0
  | k + 1, h => absurd h (by omega))
set_option maxRecDepth 100000 in
theorem okc_m_isOf_0 : okMF 18 0 (List.take 40 (List.drop 0 c_m_isOf)) = true := by decide +kernel
set_option maxRecDepth 100000 in
theorem okm_m_isOf : okP 18 c_m_isOf := okM_of 40 18 c_m_isOf 1 (by decide +kernel) (fun k hk => match k, hk with
  | 0, _ => okc_m_isOf_0
  | k + 1, h => absurd h (by omega))
set_option maxRecDepth 100000 in
theorem okc_m_depth_0 : okMF 19 0 (List.take 40 (List.drop 0 c_m_depth)) = true := by decide +kernel
set_option maxRecDepth 100000 in
theorem okm_m_depth : okP 19 c_m_depth := okM_of 40 19 c_m_depth 1 (by decide +kernel) (fun k hk => match k, hk with
  | 0, _ => okc_m_depth_0
  | k + 1, h => absurd h (by omega))
set_option maxRecDepth 100000 in
theorem okc_m_on_0 : okMF 20 0 (List.take 40 (List.drop 0 c_m_on)) = true := by decide +kernel
set_option maxRecDepth 100000 in
theorem okm_m_on : okP 20 c_m_on := okM_of 40 20 c_m_on 1 (by decide +kernel) (fun k hk => match k, hk with
  | 0, _ => okc_m_on_0
  | k + 1, h => absurd h (by omega))
set_option maxRecDepth 100000 in
theorem okc_m_hub_0 : okMF 21 0 (List.take 40 (List.drop 0 c_m_hub)) = true := by decide +kernel
set_option maxRecDepth 100000 in
theorem okc_m_hub_1 : okMF 21 40 (List.take 40 (List.drop 40 c_m_hub)) = true := by decide +kernel
set_option maxRecDepth 100000 in
theorem okc_m_hub_2 : okMF 21 80 (List.take 40 (List.drop 80 c_m_hub)) = true := by decide +kernel
set_option maxRecDepth 100000 in
theorem okm_m_hub : okP 21 c_m_hub := okM_of 40 21 c_m_hub 3 (by decide +kernel) (fun k hk => match k, hk with
  | 0, _ => okc_m_hub_0
  | 1, _ => okc_m_hub_1
  | 2, _ => okc_m_hub_2
  | k + 3, h => absurd h (by omega))
set_option maxRecDepth 100000 in
theorem okc_m_unit_0 : okMF 22 0 (List.take 40 (List.drop 0 c_m_unit)) = true := by decide +kernel
set_option maxRecDepth 100000 in
theorem okc_m_unit_1 : okMF 22 40 (List.take 40 (List.drop 40 c_m_unit)) = true := by decide +kernel
set_option maxRecDepth 100000 in
theorem okc_m_unit_2 : okMF 22 80 (List.take 40 (List.drop 80 c_m_unit)) = true := by decide +kernel
set_option maxRecDepth 100000 in
theorem okm_m_unit : okP 22 c_m_unit := okM_of 40 22 c_m_unit 3 (by decide +kernel) (fun k hk => match k, hk with
  | 0, _ => okc_m_unit_0
  | 1, _ => okc_m_unit_1
  | 2, _ => okc_m_unit_2
  | k + 3, h => absurd h (by omega))
set_option maxRecDepth 100000 in
theorem okc_m_takesOff_0 : okMF 23 0 (List.take 40 (List.drop 0 c_m_takesOff)) = true := by decide +kernel
set_option maxRecDepth 100000 in
theorem okm_m_takesOff : okP 23 c_m_takesOff := okM_of 40 23 c_m_takesOff 1 (by decide +kernel) (fun k hk => match k, hk with
  | 0, _ => okc_m_takesOff_0
  | k + 1, h => absurd h (by omega))
set_option maxRecDepth 100000 in
theorem okc_m_takeOff_0 : okMF 24 0 (List.take 40 (List.drop 0 c_m_takeOff)) = true := by decide +kernel
set_option maxRecDepth 100000 in
theorem okm_m_takeOff : okP 24 c_m_takeOff := okM_of 40 24 c_m_takeOff 1 (by decide +kernel) (fun k hk => match k, hk with
  | 0, _ => okc_m_takeOff_0
  | k + 1, h => absurd h (by omega))
set_option maxRecDepth 100000 in
theorem okc_m_canHave_0 : okMF 25 0 (List.take 40 (List.drop 0 c_m_canHave)) = true := by decide +kernel
set_option maxRecDepth 100000 in
theorem okc_m_canHave_1 : okMF 25 40 (List.take 40 (List.drop 40 c_m_canHave)) = true := by decide +kernel
set_option maxRecDepth 100000 in
theorem okm_m_canHave : okP 25 c_m_canHave := okM_of 40 25 c_m_canHave 2 (by decide +kernel) (fun k hk => match k, hk with
  | 0, _ => okc_m_canHave_0
  | 1, _ => okc_m_canHave_1
  | k + 2, h => absurd h (by omega))
set_option maxRecDepth 100000 in
theorem okc_m_set_0 : okMF 26 0 (List.take 40 (List.drop 0 c_m_set)) = true := by decide +kernel
set_option maxRecDepth 100000 in
theorem okc_m_set_1 : okMF 26 40 (List.take 40 (List.drop 40 c_m_set)) = true := by decide +kernel
set_option maxRecDepth 100000 in
theorem okm_m_set : okP 26 c_m_set := okM_of 40 26 c_m_set 2 (by decide +kernel) (fun k hk => match k, hk with
  | 0, _ => okc_m_set_0
  | 1, _ => okc_m_set_1
  | k + 2, h => absurd h (by omega))
set_option maxRecDepth 100000 in
theorem okc_m_children_0 : okMF 27 0 (List.take 40 (List.drop 0 c_m_children)) = true := by decide +kernel
set_option maxRecDepth 100000 in
theorem okm_m_children : okP 27 c_m_children := okM_of 40 27 c_m_children 1 (by decide +kernel) (fun k hk => match k, hk with
  | 0, _ => okc_m_children_0
  | k + 1, h => absurd h (by omega))
set_option maxRecDepth 100000 in
theorem okc_m_unitsOf_0 : okMF 28 0 (List.take 40 (List.drop 0 c_m_unitsOf)) = true := by decide +kernel
set_option maxRecDepth 100000 in
theorem okm_m_unitsOf : okP 28 c_m_unitsOf := okM_of 40 28 c_m_unitsOf 1 (by decide +kernel) (fun k hk => match k, hk with
  | 0, _ => okc_m_unitsOf_0
  | k + 1, h => absurd h (by omega))
set_option maxRecDepth 100000 in
theorem okc_m_onWay_0 : okMF 29 0 (List.take 40 (List.drop 0 c_m_onWay)) = true := by decide +kernel
set_option maxRecDepth 100000 in
theorem okm_m_onWay : okP 29 c_m_onWay := okM_of 40 29 c_m_onWay 1 (by decide +kernel) (fun k hk => match k, hk with
  | 0, _ => okc_m_onWay_0
  | k + 1, h => absurd h (by omega))
set_option maxRecDepth 100000 in
theorem okc_m_hubOf_0 : okMF 30 0 (List.take 40 (List.drop 0 c_m_hubOf)) = true := by decide +kernel
set_option maxRecDepth 100000 in
theorem okc_m_hubOf_1 : okMF 30 40 (List.take 40 (List.drop 40 c_m_hubOf)) = true := by decide +kernel
set_option maxRecDepth 100000 in
theorem okm_m_hubOf : okP 30 c_m_hubOf := okM_of 40 30 c_m_hubOf 2 (by decide +kernel) (fun k hk => match k, hk with
  | 0, _ => okc_m_hubOf_0
  | 1, _ => okc_m_hubOf_1
  | k + 2, h => absurd h (by omega))
set_option maxRecDepth 100000 in
theorem okc_m_unitOf_0 : okMF 31 0 (List.take 40 (List.drop 0 c_m_unitOf)) = true := by decide +kernel
set_option maxRecDepth 100000 in
theorem okc_m_unitOf_1 : okMF 31 40 (List.take 40 (List.drop 40 c_m_unitOf)) = true := by decide +kernel
set_option maxRecDepth 100000 in
theorem okm_m_unitOf : okP 31 c_m_unitOf := okM_of 40 31 c_m_unitOf 2 (by decide +kernel) (fun k hk => match k, hk with
  | 0, _ => okc_m_unitOf_0
  | 1, _ => okc_m_unitOf_1
  | k + 2, h => absurd h (by omega))
set_option maxRecDepth 100000 in
theorem okc_m_unitAt_0 : okMF 32 0 (List.take 40 (List.drop 0 c_m_unitAt)) = true := by decide +kernel
set_option maxRecDepth 100000 in
theorem okc_m_unitAt_1 : okMF 32 40 (List.take 40 (List.drop 40 c_m_unitAt)) = true := by decide +kernel
set_option maxRecDepth 100000 in
theorem okm_m_unitAt : okP 32 c_m_unitAt := okM_of 40 32 c_m_unitAt 2 (by decide +kernel) (fun k hk => match k, hk with
  | 0, _ => okc_m_unitAt_0
  | 1, _ => okc_m_unitAt_1
  | k + 2, h => absurd h (by omega))
set_option maxRecDepth 100000 in
theorem okc_m_isIn_0 : okMF 33 0 (List.take 40 (List.drop 0 c_m_isIn)) = true := by decide +kernel
set_option maxRecDepth 100000 in
theorem okm_m_isIn : okP 33 c_m_isIn := okM_of 40 33 c_m_isIn 1 (by decide +kernel) (fun k hk => match k, hk with
  | 0, _ => okc_m_isIn_0
  | k + 1, h => absurd h (by omega))
set_option maxRecDepth 100000 in
theorem okc_m_behind_0 : okMF 34 0 (List.take 40 (List.drop 0 c_m_behind)) = true := by decide +kernel
set_option maxRecDepth 100000 in
theorem okc_m_behind_1 : okMF 34 40 (List.take 40 (List.drop 40 c_m_behind)) = true := by decide +kernel
set_option maxRecDepth 100000 in
theorem okm_m_behind : okP 34 c_m_behind := okM_of 40 34 c_m_behind 2 (by decide +kernel) (fun k hk => match k, hk with
  | 0, _ => okc_m_behind_0
  | 1, _ => okc_m_behind_1
  | k + 2, h => absurd h (by omega))
set_option maxRecDepth 100000 in
theorem okc_m_slots_0 : okMF 35 0 (List.take 40 (List.drop 0 c_m_slots)) = true := by decide +kernel
set_option maxRecDepth 100000 in
theorem okm_m_slots : okP 35 c_m_slots := okM_of 40 35 c_m_slots 1 (by decide +kernel) (fun k hk => match k, hk with
  | 0, _ => okc_m_slots_0
  | k + 1, h => absurd h (by omega))
set_option maxRecDepth 100000 in
theorem okc_m_isQuick_0 : okMF 36 0 (List.take 40 (List.drop 0 c_m_isQuick)) = true := by decide +kernel
set_option maxRecDepth 100000 in
theorem okm_m_isQuick : okP 36 c_m_isQuick := okM_of 40 36 c_m_isQuick 1 (by decide +kernel) (fun k hk => match k, hk with
  | 0, _ => okc_m_isQuick_0
  | k + 1, h => absurd h (by omega))
set_option maxRecDepth 100000 in
theorem okc_m_expects_0 : okMF 37 0 (List.take 40 (List.drop 0 c_m_expects)) = true := by decide +kernel
set_option maxRecDepth 100000 in
theorem okm_m_expects : okP 37 c_m_expects := okM_of 40 37 c_m_expects 1 (by decide +kernel) (fun k hk => match k, hk with
  | 0, _ => okc_m_expects_0
  | k + 1, h => absurd h (by omega))
set_option maxRecDepth 100000 in
theorem okc_m_frames_0 : okMF 38 0 (List.take 40 (List.drop 0 c_m_frames)) = true := by decide +kernel
set_option maxRecDepth 100000 in
theorem okm_m_frames : okP 38 c_m_frames := okM_of 40 38 c_m_frames 1 (by decide +kernel) (fun k hk => match k, hk with
  | 0, _ => okc_m_frames_0
  | k + 1, h => absurd h (by omega))
set_option maxRecDepth 100000 in
theorem okc_m_expected_0 : okMF 39 0 (List.take 40 (List.drop 0 c_m_expected)) = true := by decide +kernel
set_option maxRecDepth 100000 in
theorem okm_m_expected : okP 39 c_m_expected := okM_of 40 39 c_m_expected 1 (by decide +kernel) (fun k hk => match k, hk with
  | 0, _ => okc_m_expected_0
  | k + 1, h => absurd h (by omega))
set_option maxRecDepth 100000 in
theorem okc_m_isComplete_0 : okMF 40 0 (List.take 40 (List.drop 0 c_m_isComplete)) = true := by decide +kernel
set_option maxRecDepth 100000 in
theorem okm_m_isComplete : okP 40 c_m_isComplete := okM_of 40 40 c_m_isComplete 1 (by decide +kernel) (fun k hk => match k, hk with
  | 0, _ => okc_m_isComplete_0
  | k + 1, h => absurd h (by omega))
set_option maxRecDepth 100000 in
theorem okc_m_firstCame_0 : okMF 41 0 (List.take 40 (List.drop 0 c_m_firstCame)) = true := by decide +kernel
set_option maxRecDepth 100000 in
theorem okm_m_firstCame : okP 41 c_m_firstCame := okM_of 40 41 c_m_firstCame 1 (by decide +kernel) (fun k hk => match k, hk with
  | 0, _ => okc_m_firstCame_0
  | k + 1, h => absurd h (by omega))
set_option maxRecDepth 100000 in
theorem okc_m_lasts_0 : okMF 42 0 (List.take 40 (List.drop 0 c_m_lasts)) = true := by decide +kernel
set_option maxRecDepth 100000 in
theorem okm_m_lasts : okP 42 c_m_lasts := okM_of 40 42 c_m_lasts 1 (by decide +kernel) (fun k hk => match k, hk with
  | 0, _ => okc_m_lasts_0
  | k + 1, h => absurd h (by omega))
set_option maxRecDepth 100000 in
theorem okc_m_free_0 : okMF 43 0 (List.take 40 (List.drop 0 c_m_free)) = true := by decide +kernel
set_option maxRecDepth 100000 in
theorem okm_m_free : okP 43 c_m_free := okM_of 40 43 c_m_free 1 (by decide +kernel) (fun k hk => match k, hk with
  | 0, _ => okc_m_free_0
  | k + 1, h => absurd h (by omega))
set_option maxRecDepth 100000 in
theorem okc_m_comes_0 : okMF 44 0 (List.take 40 (List.drop 0 c_m_comes)) = true := by decide +kernel
set_option maxRecDepth 100000 in
theorem okc_m_comes_1 : okMF 44 40 (List.take 40 (List.drop 40 c_m_comes)) = true := by decide +kernel
set_option maxRecDepth 100000 in
theorem okc_m_comes_2 : okMF 44 80 (List.take 40 (List.drop 80 c_m_comes)) = true := by decide +kernel
set_option maxRecDepth 100000 in
theorem okc_m_comes_3 : okMF 44 120 (List.take 40 (List.drop 120 c_m_comes)) = true := by decide +kernel
set_option maxRecDepth 100000 in
theorem okm_m_comes : okP 44 c_m_comes := okM_of 40 44 c_m_comes 4 (by decide +kernel) (fun k hk => match k, hk with
  | 0, _ => okc_m_comes_0
  | 1, _ => okc_m_comes_1
  | 2, _ => okc_m_comes_2
  | 3, _ => okc_m_comes_3
  | k + 4, h => absurd h (by omega))
end
section
set_option maxRecDepth 100000 in
theorem okc_m_plain_0 : okMF 45 0 (List.take 40 (List.drop 0 c_m_plain)) = true := by decide +kernel
set_option maxRecDepth 100000 in
theorem okc_m_plain_1 : okMF 45 40 (List.take 40 (List.drop 40 c_m_plain)) = true := by decide +kernel
set_option maxRecDepth 100000 in
theorem okm_m_plain : okP 45 c_m_plain := okM_of 40 45 c_m_plain 2 (by decide +kernel) (fun k hk => match k, hk with
  | 0, _ => okc_m_plain_0
  | 1, _ => okc_m_plain_1
  | k + 2, h => absurd h (by omega))
set_option maxRecDepth 100000 in
theorem okc_m_gathers_0 : okMF 46 0 (List.take 40 (List.drop 0 c_m_gathers)) = true := by decide +kernel
set_option maxRecDepth 100000 in
theorem okc_m_gathers_1 : okMF 46 40 (List.take 40 (List.drop 40 c_m_gathers)) = true := by decide +kernel
set_option maxRecDepth 100000 in
theorem okc_m_gathers_2 : okMF 46 80 (List.take 40 (List.drop 80 c_m_gathers)) = true := by decide +kernel
set_option maxRecDepth 100000 in
theorem okm_m_gathers : okP 46 c_m_gathers := okM_of 40 46 c_m_gathers 3 (by decide +kernel) (fun k hk => match k, hk with
  | 0, _ => okc_m_gathers_0
  | 1, _ => okc_m_gathers_1
  | 2, _ => okc_m_gathers_2
  | k + 3, h => absurd h (by omega))
set_option maxRecDepth 100000 in
theorem okc_m_filtered_0 : okMF 47 0 (List.take 40 (List.drop 0 c_m_filtered)) = true := by decide +kernel
set_option maxRecDepth 100000 in
theorem okc_m_filtered_1 : okMF 47 40 (List.take 40 (List.drop 40 c_m_filtered)) = true := by decide +kernel
set_option maxRecDepth 100000 in
theorem okc_m_filtered_2 : okMF 47 80 (List.take 40 (List.drop 80 c_m_filtered)) = true := by decide +kernel
set_option maxRecDepth 100000 in
theorem okm_m_filtered : okP 47 c_m_filtered := okM_of 40 47 c_m_filtered 3 (by decide +kernel) (fun k hk => match k, hk with
  | 0, _ => okc_m_filtered_0
  | 1, _ => okc_m_filtered_1
  | 2, _ => okc_m_filtered_2
  | k + 3, h => absurd h (by omega))
set_option maxRecDepth 100000 in
theorem okc_m_held_0 : okMF 48 0 (List.take 40 (List.drop 0 c_m_held)) = true := by decide +kernel
set_option maxRecDepth 100000 in
theorem okc_m_held_1 : okMF 48 40 (List.take 40 (List.drop 40 c_m_held)) = true := by decide +kernel
set_option maxRecDepth 100000 in
theorem okm_m_held : okP 48 c_m_held := okM_of 40 48 c_m_held 2 (by decide +kernel) (fun k hk => match k, hk with
  | 0, _ => okc_m_held_0
  | 1, _ => okc_m_held_1
  | k + 2, h => absurd h (by omega))
set_option maxRecDepth 100000 in
theorem okc_m_reads_0 : okMF 49 0 (List.take 40 (List.drop 0 c_m_reads)) = true := by decide +kernel
set_option maxRecDepth 100000 in
theorem okc_m_reads_1 : okMF 49 40 (List.take 40 (List.drop 40 c_m_reads)) = true := by decide +kernel
set_option maxRecDepth 100000 in
theorem okm_m_reads : okP 49 c_m_reads := okM_of 40 49 c_m_reads 2 (by decide +kernel) (fun k hk => match k, hk with
  | 0, _ => okc_m_reads_0
  | 1, _ => okc_m_reads_1
  | k + 2, h => absurd h (by omega))
set_option maxRecDepth 100000 in
theorem okc_m_outs_0 : okMF 50 0 (List.take 40 (List.drop 0 c_m_outs)) = true := by decide +kernel
set_option maxRecDepth 100000 in
theorem okc_m_outs_1 : okMF 50 40 (List.take 40 (List.drop 40 c_m_outs)) = true := by decide +kernel
set_option maxRecDepth 100000 in
theorem okc_m_outs_2 : okMF 50 80 (List.take 40 (List.drop 80 c_m_outs)) = true := by decide +kernel
set_option maxRecDepth 100000 in
theorem okc_m_outs_3 : okMF 50 120 (List.take 40 (List.drop 120 c_m_outs)) = true := by decide +kernel
set_option maxRecDepth 100000 in
theorem okm_m_outs : okP 50 c_m_outs := okM_of 40 50 c_m_outs 4 (by decide +kernel) (fun k hk => match k, hk with
  | 0, _ => okc_m_outs_0
  | 1, _ => okc_m_outs_1
  | 2, _ => okc_m_outs_2
  | 3, _ => okc_m_outs_3
  | k + 4, h => absurd h (by omega))
set_option maxRecDepth 100000 in
theorem okc_m_sends_0 : okMF 51 0 (List.take 40 (List.drop 0 c_m_sends)) = true := by decide +kernel
set_option maxRecDepth 100000 in
theorem okc_m_sends_1 : okMF 51 40 (List.take 40 (List.drop 40 c_m_sends)) = true := by decide +kernel
set_option maxRecDepth 100000 in
theorem okc_m_sends_2 : okMF 51 80 (List.take 40 (List.drop 80 c_m_sends)) = true := by decide +kernel
set_option maxRecDepth 100000 in
theorem okm_m_sends : okP 51 c_m_sends := okM_of 40 51 c_m_sends 3 (by decide +kernel) (fun k hk => match k, hk with
  | 0, _ => okc_m_sends_0
  | 1, _ => okc_m_sends_1
  | 2, _ => okc_m_sends_2
  | k + 3, h => absurd h (by omega))
set_option maxRecDepth 100000 in
theorem okc_m_releases_0 : okMF 52 0 (List.take 40 (List.drop 0 c_m_releases)) = true := by decide +kernel
set_option maxRecDepth 100000 in
theorem okc_m_releases_1 : okMF 52 40 (List.take 40 (List.drop 40 c_m_releases)) = true := by decide +kernel
set_option maxRecDepth 100000 in
theorem okc_m_releases_2 : okMF 52 80 (List.take 40 (List.drop 80 c_m_releases)) = true := by decide +kernel
set_option maxRecDepth 100000 in
theorem okc_m_releases_3 : okMF 52 120 (List.take 40 (List.drop 120 c_m_releases)) = true := by decide +kernel
set_option maxRecDepth 100000 in
theorem okc_m_releases_4 : okMF 52 160 (List.take 40 (List.drop 160 c_m_releases)) = true := by decide +kernel
set_option maxRecDepth 100000 in
theorem okm_m_releases : okP 52 c_m_releases := okM_of 40 52 c_m_releases 5 (by decide +kernel) (fun k hk => match k, hk with
  | 0, _ => okc_m_releases_0
  | 1, _ => okc_m_releases_1
  | 2, _ => okc_m_releases_2
  | 3, _ => okc_m_releases_3
  | 4, _ => okc_m_releases_4
  | k + 5, h => absurd h (by omega))
set_option maxRecDepth 100000 in
theorem okc_m_asks_0 : okMF 53 0 (List.take 40 (List.drop 0 c_m_asks)) = true := by decide +kernel
set_option maxRecDepth 100000 in
theorem okm_m_asks : okP 53 c_m_asks := okM_of 40 53 c_m_asks 1 (by decide +kernel) (fun k hk => match k, hk with
  | 0, _ => okc_m_asks_0
  | k + 1, h => absurd h (by omega))
set_option maxRecDepth 100000 in
theorem okc_m_nextFrame_0 : okMF 54 0 (List.take 40 (List.drop 0 c_m_nextFrame)) = true := by decide +kernel
set_option maxRecDepth 100000 in
theorem okc_m_nextFrame_1 : okMF 54 40 (List.take 40 (List.drop 40 c_m_nextFrame)) = true := by decide +kernel
set_option maxRecDepth 100000 in
theorem okm_m_nextFrame : okP 54 c_m_nextFrame := okM_of 40 54 c_m_nextFrame 2 (by decide +kernel) (fun k hk => match k, hk with
  | 0, _ => okc_m_nextFrame_0
  | 1, _ => okc_m_nextFrame_1
  | k + 2, h => absurd h (by omega))
set_option maxRecDepth 100000 in
theorem okc_m_tick_0 : okMF 55 0 (List.take 40 (List.drop 0 c_m_tick)) = true := by decide +kernel
set_option maxRecDepth 100000 in
theorem okc_m_tick_1 : okMF 55 40 (List.take 40 (List.drop 40 c_m_tick)) = true := by decide +kernel
set_option maxRecDepth 100000 in
theorem okm_m_tick : okP 55 c_m_tick := okM_of 40 55 c_m_tick 2 (by decide +kernel) (fun k hk => match k, hk with
  | 0, _ => okc_m_tick_0
  | 1, _ => okc_m_tick_1
  | k + 2, h => absurd h (by omega))
set_option maxRecDepth 100000 in
theorem okc_m_allOnWay_0 : okMF 56 0 (List.take 40 (List.drop 0 c_m_allOnWay)) = true := by decide +kernel
set_option maxRecDepth 100000 in
theorem okm_m_allOnWay : okP 56 c_m_allOnWay := okM_of 40 56 c_m_allOnWay 1 (by decide +kernel) (fun k hk => match k, hk with
  | 0, _ => okc_m_allOnWay_0
  | k + 1, h => absurd h (by omega))
set_option maxRecDepth 100000 in
theorem okc_m_sendsOne_0 : okMF 57 0 (List.take 40 (List.drop 0 c_m_sendsOne)) = true := by decide +kernel
set_option maxRecDepth 100000 in
theorem okc_m_sendsOne_1 : okMF 57 40 (List.take 40 (List.drop 40 c_m_sendsOne)) = true := by decide +kernel
set_option maxRecDepth 100000 in
theorem okc_m_sendsOne_2 : okMF 57 80 (List.take 40 (List.drop 80 c_m_sendsOne)) = true := by decide +kernel
set_option maxRecDepth 100000 in
theorem okc_m_sendsOne_3 : okMF 57 120 (List.take 40 (List.drop 120 c_m_sendsOne)) = true := by decide +kernel
set_option maxRecDepth 100000 in
theorem okm_m_sendsOne : okP 57 c_m_sendsOne := okM_of 40 57 c_m_sendsOne 4 (by decide +kernel) (fun k hk => match k, hk with
  | 0, _ => okc_m_sendsOne_0
  | 1, _ => okc_m_sendsOne_1
  | 2, _ => okc_m_sendsOne_2
  | 3, _ => okc_m_sendsOne_3
  | k + 4, h => absurd h (by omega))
set_option maxRecDepth 100000 in
theorem okc_m_send_0 : okMF 58 0 (List.take 40 (List.drop 0 c_m_send)) = true := by decide +kernel
set_option maxRecDepth 100000 in
theorem okm_m_send : okP 58 c_m_send := okM_of 40 58 c_m_send 1 (by decide +kernel) (fun k hk => match k, hk with
  | 0, _ => okc_m_send_0
  | k + 1, h => absurd h (by omega))
set_option maxRecDepth 100000 in
theorem okc_m_passes_0 : okMF 59 0 (List.take 40 (List.drop 0 c_m_passes)) = true := by decide +kernel
set_option maxRecDepth 100000 in
theorem okm_m_passes : okP 59 c_m_passes := okM_of 40 59 c_m_passes 1 (by decide +kernel) (fun k hk => match k, hk with
  | 0, _ => okc_m_passes_0
  | k + 1, h => absurd h (by omega))
set_option maxRecDepth 100000 in
theorem okc_m_pass_0 : okMF 60 0 (List.take 40 (List.drop 0 c_m_pass)) = true := by decide +kernel
set_option maxRecDepth 100000 in
theorem okm_m_pass : okP 60 c_m_pass := okM_of 40 60 c_m_pass 1 (by decide +kernel) (fun k hk => match k, hk with
  | 0, _ => okc_m_pass_0
  | k + 1, h => absurd h (by omega))
set_option maxRecDepth 100000 in
theorem okc_m_slotAt_0 : okMF 61 0 (List.take 40 (List.drop 0 c_m_slotAt)) = true := by decide +kernel
set_option maxRecDepth 100000 in
theorem okc_m_slotAt_1 : okMF 61 40 (List.take 40 (List.drop 40 c_m_slotAt)) = true := by decide +kernel
set_option maxRecDepth 100000 in
theorem okm_m_slotAt : okP 61 c_m_slotAt := okM_of 40 61 c_m_slotAt 2 (by decide +kernel) (fun k hk => match k, hk with
  | 0, _ => okc_m_slotAt_0
  | 1, _ => okc_m_slotAt_1
  | k + 2, h => absurd h (by omega))
end
section
set_option maxRecDepth 100000 in
theorem okc_m_ones_0 : okMF 62 0 (List.take 40 (List.drop 0 c_m_ones)) = true := by decide +kernel
set_option maxRecDepth 100000 in
theorem okm_m_ones : okP 62 c_m_ones := okM_of 40 62 c_m_ones 1 (by decide +kernel) (fun k hk => match k, hk with
  | 0, _ => okc_m_ones_0
  | k + 1, h => absurd h (by omega))
set_option maxRecDepth 100000 in
theorem okc_m_outAt_0 : okMF 63 0 (List.take 40 (List.drop 0 c_m_outAt)) = true := by decide +kernel
set_option maxRecDepth 100000 in
theorem okc_m_outAt_1 : okMF 63 40 (List.take 40 (List.drop 40 c_m_outAt)) = true := by decide +kernel
set_option maxRecDepth 100000 in
theorem okm_m_outAt : okP 63 c_m_outAt := okM_of 40 63 c_m_outAt 2 (by decide +kernel) (fun k hk => match k, hk with
  | 0, _ => okc_m_outAt_0
  | 1, _ => okc_m_outAt_1
  | k + 2, h => absurd h (by omega))
set_option maxRecDepth 100000 in
theorem okc_m_readingAt_0 : okMF 64 0 (List.take 40 (List.drop 0 c_m_readingAt)) = true := by decide +kernel
set_option maxRecDepth 100000 in
theorem okc_m_readingAt_1 : okMF 64 40 (List.take 40 (List.drop 40 c_m_readingAt)) = true := by decide +kernel
set_option maxRecDepth 100000 in
theorem okm_m_readingAt : okP 64 c_m_readingAt := okM_of 40 64 c_m_readingAt 2 (by decide +kernel) (fun k hk => match k, hk with
  | 0, _ => okc_m_readingAt_0
  | 1, _ => okc_m_readingAt_1
  | k + 2, h => absurd h (by omega))
set_option maxRecDepth 100000 in
theorem okc_m_heldBy_0 : okMF 65 0 (List.take 40 (List.drop 0 c_m_heldBy)) = true := by decide +kernel
set_option maxRecDepth 100000 in
theorem okc_m_heldBy_1 : okMF 65 40 (List.take 40 (List.drop 40 c_m_heldBy)) = true := by decide +kernel
set_option maxRecDepth 100000 in
theorem okm_m_heldBy : okP 65 c_m_heldBy := okM_of 40 65 c_m_heldBy 2 (by decide +kernel) (fun k hk => match k, hk with
  | 0, _ => okc_m_heldBy_0
  | 1, _ => okc_m_heldBy_1
  | k + 2, h => absurd h (by omega))
set_option maxRecDepth 100000 in
theorem okc_m_nextOut_0 : okMF 66 0 (List.take 40 (List.drop 0 c_m_nextOut)) = true := by decide +kernel
set_option maxRecDepth 100000 in
theorem okm_m_nextOut : okP 66 c_m_nextOut := okM_of 40 66 c_m_nextOut 1 (by decide +kernel) (fun k hk => match k, hk with
  | 0, _ => okc_m_nextOut_0
  | k + 1, h => absurd h (by omega))
set_option maxRecDepth 100000 in
theorem okc_m_foresee_0 : okMF 67 0 (List.take 40 (List.drop 0 c_m_foresee)) = true := by decide +kernel
set_option maxRecDepth 100000 in
theorem okc_m_foresee_1 : okMF 67 40 (List.take 40 (List.drop 40 c_m_foresee)) = true := by decide +kernel
set_option maxRecDepth 100000 in
theorem okm_m_foresee : okP 67 c_m_foresee := okM_of 40 67 c_m_foresee 2 (by decide +kernel) (fun k hk => match k, hk with
  | 0, _ => okc_m_foresee_0
  | 1, _ => okc_m_foresee_1
  | k + 2, h => absurd h (by omega))
set_option maxRecDepth 100000 in
theorem okc_m_sumOf_0 : okMF 68 0 (List.take 40 (List.drop 0 c_m_sumOf)) = true := by decide +kernel
set_option maxRecDepth 100000 in
theorem okm_m_sumOf : okP 68 c_m_sumOf := okM_of 40 68 c_m_sumOf 1 (by decide +kernel) (fun k hk => match k, hk with
  | 0, _ => okc_m_sumOf_0
  | k + 1, h => absurd h (by omega))
set_option maxRecDepth 100000 in
theorem okc_m_count_0 : okMF 69 0 (List.take 40 (List.drop 0 c_m_count)) = true := by decide +kernel
set_option maxRecDepth 100000 in
theorem okc_m_count_1 : okMF 69 40 (List.take 40 (List.drop 40 c_m_count)) = true := by decide +kernel
set_option maxRecDepth 100000 in
theorem okm_m_count : okP 69 c_m_count := okM_of 40 69 c_m_count 2 (by decide +kernel) (fun k hk => match k, hk with
  | 0, _ => okc_m_count_0
  | 1, _ => okc_m_count_1
  | k + 2, h => absurd h (by omega))
set_option maxRecDepth 100000 in
theorem okc_m_undo_0 : okMF 70 0 (List.take 40 (List.drop 0 c_m_undo)) = true := by decide +kernel
set_option maxRecDepth 100000 in
theorem okm_m_undo : okP 70 c_m_undo := okM_of 40 70 c_m_undo 1 (by decide +kernel) (fun k hk => match k, hk with
  | 0, _ => okc_m_undo_0
  | k + 1, h => absurd h (by omega))
set_option maxRecDepth 100000 in
theorem okc_m_type_0 : okMF 71 0 (List.take 40 (List.drop 0 c_m_type)) = true := by decide +kernel
set_option maxRecDepth 100000 in
theorem okm_m_type : okP 71 c_m_type := okM_of 40 71 c_m_type 1 (by decide +kernel) (fun k hk => match k, hk with
  | 0, _ => okc_m_type_0
  | k + 1, h => absurd h (by omega))
set_option maxRecDepth 100000 in
theorem okc_m_clearText_0 : okMF 72 0 (List.take 40 (List.drop 0 c_m_clearText)) = true := by decide +kernel
set_option maxRecDepth 100000 in
theorem okm_m_clearText : okP 72 c_m_clearText := okM_of 40 72 c_m_clearText 1 (by decide +kernel) (fun k hk => match k, hk with
  | 0, _ => okc_m_clearText_0
  | k + 1, h => absurd h (by omega))
set_option maxRecDepth 100000 in
theorem okc_m_has_0 : okMF 73 0 (List.take 40 (List.drop 0 c_m_has)) = true := by decide +kernel
set_option maxRecDepth 100000 in
theorem okm_m_has : okP 73 c_m_has := okM_of 40 73 c_m_has 1 (by decide +kernel) (fun k hk => match k, hk with
  | 0, _ => okc_m_has_0
  | k + 1, h => absurd h (by omega))
set_option maxRecDepth 100000 in
theorem okc_m_takes_0 : okMF 74 0 (List.take 40 (List.drop 0 c_m_takes)) = true := by decide +kernel
set_option maxRecDepth 100000 in
theorem okc_m_takes_1 : okMF 74 40 (List.take 40 (List.drop 40 c_m_takes)) = true := by decide +kernel
set_option maxRecDepth 100000 in
theorem okm_m_takes : okP 74 c_m_takes := okM_of 40 74 c_m_takes 2 (by decide +kernel) (fun k hk => match k, hk with
  | 0, _ => okc_m_takes_0
  | 1, _ => okc_m_takes_1
  | k + 2, h => absurd h (by omega))
set_option maxRecDepth 100000 in
theorem okc_m_readsForm_0 : okMF 75 0 (List.take 40 (List.drop 0 c_m_readsForm)) = true := by decide +kernel
set_option maxRecDepth 100000 in
theorem okc_m_readsForm_1 : okMF 75 40 (List.take 40 (List.drop 40 c_m_readsForm)) = true := by decide +kernel
set_option maxRecDepth 100000 in
theorem okc_m_readsForm_2 : okMF 75 80 (List.take 40 (List.drop 80 c_m_readsForm)) = true := by decide +kernel
set_option maxRecDepth 100000 in
theorem okm_m_readsForm : okP 75 c_m_readsForm := okM_of 40 75 c_m_readsForm 3 (by decide +kernel) (fun k hk => match k, hk with
  | 0, _ => okc_m_readsForm_0
  | 1, _ => okc_m_readsForm_1
  | 2, _ => okc_m_readsForm_2
  | k + 3, h => absurd h (by omega))
set_option maxRecDepth 100000 in
theorem okc_m_does_0 : okMF 76 0 (List.take 40 (List.drop 0 c_m_does)) = true := by decide +kernel
set_option maxRecDepth 100000 in
theorem okm_m_does : okP 76 c_m_does := okM_of 40 76 c_m_does 1 (by decide +kernel) (fun k hk => match k, hk with
  | 0, _ => okc_m_does_0
  | k + 1, h => absurd h (by omega))
set_option maxRecDepth 100000 in
theorem okc_m_doesNext_0 : okMF 77 0 (List.take 40 (List.drop 0 c_m_doesNext)) = true := by decide +kernel
set_option maxRecDepth 100000 in
theorem okm_m_doesNext : okP 77 c_m_doesNext := okM_of 40 77 c_m_doesNext 1 (by decide +kernel) (fun k hk => match k, hk with
  | 0, _ => okc_m_doesNext_0
  | k + 1, h => absurd h (by omega))
set_option maxRecDepth 100000 in
theorem okc_m_faulty_0 : okMF 78 0 (List.take 40 (List.drop 0 c_m_faulty)) = true := by decide +kernel
set_option maxRecDepth 100000 in
theorem okm_m_faulty : okP 78 c_m_faulty := okM_of 40 78 c_m_faulty 1 (by decide +kernel) (fun k hk => match k, hk with
  | 0, _ => okc_m_faulty_0
  | k + 1, h => absurd h (by omega))
set_option maxRecDepth 100000 in
theorem okc_m_fault_0 : okMF 79 0 (List.take 40 (List.drop 0 c_m_fault)) = true := by decide +kernel
set_option maxRecDepth 100000 in
theorem okm_m_fault : okP 79 c_m_fault := okM_of 40 79 c_m_fault 1 (by decide +kernel) (fun k hk => match k, hk with
  | 0, _ => okc_m_fault_0
  | k + 1, h => absurd h (by omega))
set_option maxRecDepth 100000 in
theorem okc_m_play_0 : okMF 80 0 (List.take 40 (List.drop 0 c_m_play)) = true := by decide +kernel
set_option maxRecDepth 100000 in
theorem okm_m_play : okP 80 c_m_play := okM_of 40 80 c_m_play 1 (by decide +kernel) (fun k hk => match k, hk with
  | 0, _ => okc_m_play_0
  | k + 1, h => absurd h (by omega))
set_option maxRecDepth 100000 in
theorem okc_F_init_0 : okMF 81 0 (List.take 40 (List.drop 0 c_F_init)) = true := by decide +kernel
set_option maxRecDepth 100000 in
theorem okm_F_init : okP 81 c_F_init := okM_of 40 81 c_F_init 1 (by decide +kernel) (fun k hk => match k, hk with
  | 0, _ => okc_F_init_0
  | k + 1, h => absurd h (by omega))
set_option maxRecDepth 100000 in
theorem okc_F_copyFrom_0 : okMF 82 0 (List.take 40 (List.drop 0 c_F_copyFrom)) = true := by decide +kernel
set_option maxRecDepth 100000 in
theorem okc_F_copyFrom_1 : okMF 82 40 (List.take 40 (List.drop 40 c_F_copyFrom)) = true := by decide +kernel
set_option maxRecDepth 100000 in
theorem okm_F_copyFrom : okP 82 c_F_copyFrom := okM_of 40 82 c_F_copyFrom 2 (by decide +kernel) (fun k hk => match k, hk with
  | 0, _ => okc_F_copyFrom_0
  | 1, _ => okc_F_copyFrom_1
  | k + 2, h => absurd h (by omega))
set_option maxRecDepth 100000 in
theorem okc_F_begin_0 : okMF 83 0 (List.take 40 (List.drop 0 c_F_begin)) = true := by decide +kernel
set_option maxRecDepth 100000 in
theorem okm_F_begin : okP 83 c_F_begin := okM_of 40 83 c_F_begin 1 (by decide +kernel) (fun k hk => match k, hk with
  | 0, _ => okc_F_begin_0
  | k + 1, h => absurd h (by omega))
set_option maxRecDepth 100000 in
theorem okc_F_has_0 : okMF 84 0 (List.take 40 (List.drop 0 c_F_has)) = true := by decide +kernel
set_option maxRecDepth 100000 in
theorem okm_F_has : okP 84 c_F_has := okM_of 40 84 c_F_has 1 (by decide +kernel) (fun k hk => match k, hk with
  | 0, _ => okc_F_has_0
  | k + 1, h => absurd h (by omega))
set_option maxRecDepth 100000 in
theorem okc_F_put_0 : okMF 85 0 (List.take 40 (List.drop 0 c_F_put)) = true := by decide +kernel
set_option maxRecDepth 100000 in
theorem okm_F_put : okP 85 c_F_put := okM_of 40 85 c_F_put 1 (by decide +kernel) (fun k hk => match k, hk with
  | 0, _ => okc_F_put_0
  | k + 1, h => absurd h (by omega))
set_option maxRecDepth 100000 in
theorem okc_F_readingFact_0 : okMF 86 0 (List.take 40 (List.drop 0 c_F_readingFact)) = true := by decide +kernel
set_option maxRecDepth 100000 in
theorem okm_F_readingFact : okP 86 c_F_readingFact := okM_of 40 86 c_F_readingFact 1 (by decide +kernel) (fun k hk => match k, hk with
  | 0, _ => okc_F_readingFact_0
  | k + 1, h => absurd h (by omega))
set_option maxRecDepth 100000 in
theorem okc_F_flagsTogether_0 : okMF 87 0 (List.take 40 (List.drop 0 c_F_flagsTogether)) = true := by decide +kernel
set_option maxRecDepth 100000 in
theorem okm_F_flagsTogether : okP 87 c_F_flagsTogether := okM_of 40 87 c_F_flagsTogether 1 (by decide +kernel) (fun k hk => match k, hk with
  | 0, _ => okc_F_flagsTogether_0
  | k + 1, h => absurd h (by omega))
set_option maxRecDepth 100000 in
theorem okc_R_init_0 : okMF 88 0 (List.take 40 (List.drop 0 c_R_init)) = true := by decide +kernel
set_option maxRecDepth 100000 in
theorem okm_R_init : okP 88 c_R_init := okM_of 40 88 c_R_init 1 (by decide +kernel) (fun k hk => match k, hk with
  | 0, _ => okc_R_init_0
  | k + 1, h => absurd h (by omega))
set_option maxRecDepth 100000 in
theorem okc_R_copyFrom_0 : okMF 89 0 (List.take 40 (List.drop 0 c_R_copyFrom)) = true := by decide +kernel
set_option maxRecDepth 100000 in
theorem okm_R_copyFrom : okP 89 c_R_copyFrom := okM_of 40 89 c_R_copyFrom 1 (by decide +kernel) (fun k hk => match k, hk with
  | 0, _ => okc_R_copyFrom_0
  | k + 1, h => absurd h (by omega))
set_option maxRecDepth 100000 in
theorem okc_R_insert_0 : okMF 90 0 (List.take 40 (List.drop 0 c_R_insert)) = true := by decide +kernel
set_option maxRecDepth 100000 in
theorem okc_R_insert_1 : okMF 90 40 (List.take 40 (List.drop 40 c_R_insert)) = true := by decide +kernel
set_option maxRecDepth 100000 in
theorem okm_R_insert : okP 90 c_R_insert := okM_of 40 90 c_R_insert 2 (by decide +kernel) (fun k hk => match k, hk with
  | 0, _ => okc_R_insert_0
  | 1, _ => okc_R_insert_1
  | k + 2, h => absurd h (by omega))
set_option maxRecDepth 100000 in
theorem okc_R_grow_0 : okMF 91 0 (List.take 40 (List.drop 0 c_R_grow)) = true := by decide +kernel
set_option maxRecDepth 100000 in
theorem okm_R_grow : okP 91 c_R_grow := okM_of 40 91 c_R_grow 1 (by decide +kernel) (fun k hk => match k, hk with
  | 0, _ => okc_R_grow_0
  | k + 1, h => absurd h (by omega))
set_option maxRecDepth 100000 in
theorem okc_R_swap_0 : okMF 92 0 (List.take 40 (List.drop 0 c_R_swap)) = true := by decide +kernel
set_option maxRecDepth 100000 in
theorem okm_R_swap : okP 92 c_R_swap := okM_of 40 92 c_R_swap 1 (by decide +kernel) (fun k hk => match k, hk with
  | 0, _ => okc_R_swap_0
  | k + 1, h => absurd h (by omega))
set_option maxRecDepth 100000 in
theorem okc_R_removeFirst_0 : okMF 93 0 (List.take 40 (List.drop 0 c_R_removeFirst)) = true := by decide +kernel
set_option maxRecDepth 100000 in
theorem okm_R_removeFirst : okP 93 c_R_removeFirst := okM_of 40 93 c_R_removeFirst 1 (by decide +kernel) (fun k hk => match k, hk with
  | 0, _ => okc_R_removeFirst_0
  | k + 1, h => absurd h (by omega))
set_option maxRecDepth 100000 in
theorem okc_R_framesFrom_0 : okMF 94 0 (List.take 40 (List.drop 0 c_R_framesFrom)) = true := by decide +kernel
set_option maxRecDepth 100000 in
theorem okm_R_framesFrom : okP 94 c_R_framesFrom := okM_of 40 94 c_R_framesFrom 1 (by decide +kernel) (fun k hk => match k, hk with
  | 0, _ => okc_R_framesFrom_0
  | k + 1, h => absurd h (by omega))
set_option maxRecDepth 100000 in
theorem okc_R_slotEnd_0 : okMF 95 0 (List.take 40 (List.drop 0 c_R_slotEnd)) = true := by decide +kernel
set_option maxRecDepth 100000 in
theorem okm_R_slotEnd : okP 95 c_R_slotEnd := okM_of 40 95 c_R_slotEnd 1 (by decide +kernel) (fun k hk => match k, hk with
  | 0, _ => okc_R_slotEnd_0
  | k + 1, h => absurd h (by omega))
set_option maxRecDepth 100000 in
theorem okc_R_slotStart_0 : okMF 96 0 (List.take 40 (List.drop 0 c_R_slotStart)) = true := by decide +kernel
set_option maxRecDepth 100000 in
theorem okm_R_slotStart : okP 96 c_R_slotStart := okM_of 40 96 c_R_slotStart 1 (by decide +kernel) (fun k hk => match k, hk with
  | 0, _ => okc_R_slotStart_0
  | k + 1, h => absurd h (by omega))
set_option maxRecDepth 100000 in
theorem okc_R_slots_0 : okMF 97 0 (List.take 40 (List.drop 0 c_R_slots)) = true := by decide +kernel
set_option maxRecDepth 100000 in
theorem okm_R_slots : okP 97 c_R_slots := okM_of 40 97 c_R_slots 1 (by decide +kernel) (fun k hk => match k, hk with
  | 0, _ => okc_R_slots_0
  | k + 1, h => absurd h (by omega))
set_option maxRecDepth 100000 in
theorem okc_R_placeFor_0 : okMF 98 0 (List.take 40 (List.drop 0 c_R_placeFor)) = true := by decide +kernel
set_option maxRecDepth 100000 in
theorem okm_R_placeFor : okP 98 c_R_placeFor := okM_of 40 98 c_R_placeFor 1 (by decide +kernel) (fun k hk => match k, hk with
  | 0, _ => okc_R_placeFor_0
  | k + 1, h => absurd h (by omega))
set_option maxRecDepth 100000 in
theorem okc_R_hasIn_0 : okMF 99 0 (List.take 40 (List.drop 0 c_R_hasIn)) = true := by decide +kernel
set_option maxRecDepth 100000 in
theorem okm_R_hasIn : okP 99 c_R_hasIn := okM_of 40 99 c_R_hasIn 1 (by decide +kernel) (fun k hk => match k, hk with
  | 0, _ => okc_R_hasIn_0
  | k + 1, h => absurd h (by omega))
set_option maxRecDepth 100000 in
theorem okc_U_init_0 : okMF 100 0 (List.take 40 (List.drop 0 c_U_init)) = true := by decide +kernel
set_option maxRecDepth 100000 in
theorem okm_U_init : okP 100 c_U_init := okM_of 40 100 c_U_init 1 (by decide +kernel) (fun k hk => match k, hk with
  | 0, _ => okc_U_init_0
  | k + 1, h => absurd h (by omega))
set_option maxRecDepth 100000 in
theorem okc_U_begin_0 : okMF 101 0 (List.take 40 (List.drop 0 c_U_begin)) = true := by decide +kernel
set_option maxRecDepth 100000 in
theorem okm_U_begin : okP 101 c_U_begin := okM_of 40 101 c_U_begin 1 (by decide +kernel) (fun k hk => match k, hk with
  | 0, _ => okc_U_begin_0
  | k + 1, h => absurd h (by omega))
set_option maxRecDepth 100000 in
theorem okc_U_copyFrom_0 : okMF 102 0 (List.take 40 (List.drop 0 c_U_copyFrom)) = true := by decide +kernel
set_option maxRecDepth 100000 in
theorem okm_U_copyFrom : okP 102 c_U_copyFrom := okM_of 40 102 c_U_copyFrom 1 (by decide +kernel) (fun k hk => match k, hk with
  | 0, _ => okc_U_copyFrom_0
  | k + 1, h => absurd h (by omega))
set_option maxRecDepth 100000 in
theorem okc_H_init_0 : okMF 103 0 (List.take 40 (List.drop 0 c_H_init)) = true := by decide +kernel
set_option maxRecDepth 100000 in
theorem okm_H_init : okP 103 c_H_init := okM_of 40 103 c_H_init 1 (by decide +kernel) (fun k hk => match k, hk with
  | 0, _ => okc_H_init_0
  | k + 1, h => absurd h (by omega))
set_option maxRecDepth 100000 in
theorem okc_H_begin_0 : okMF 104 0 (List.take 40 (List.drop 0 c_H_begin)) = true := by decide +kernel
set_option maxRecDepth 100000 in
theorem okm_H_begin : okP 104 c_H_begin := okM_of 40 104 c_H_begin 1 (by decide +kernel) (fun k hk => match k, hk with
  | 0, _ => okc_H_begin_0
  | k + 1, h => absurd h (by omega))
set_option maxRecDepth 100000 in
theorem okc_H_copyFrom_0 : okMF 105 0 (List.take 40 (List.drop 0 c_H_copyFrom)) = true := by decide +kernel
set_option maxRecDepth 100000 in
theorem okc_H_copyFrom_1 : okMF 105 40 (List.take 40 (List.drop 40 c_H_copyFrom)) = true := by decide +kernel
set_option maxRecDepth 100000 in
theorem okm_H_copyFrom : okP 105 c_H_copyFrom := okM_of 40 105 c_H_copyFrom 2 (by decide +kernel) (fun k hk => match k, hk with
  | 0, _ => okc_H_copyFrom_0
  | 1, _ => okc_H_copyFrom_1
  | k + 2, h => absurd h (by omega))
set_option maxRecDepth 100000 in
theorem okc_H_isUntouched_0 : okMF 106 0 (List.take 40 (List.drop 0 c_H_isUntouched)) = true := by decide +kernel
set_option maxRecDepth 100000 in
theorem okm_H_isUntouched : okP 106 c_H_isUntouched := okM_of 40 106 c_H_isUntouched 1 (by decide +kernel) (fun k hk => match k, hk with
  | 0, _ => okc_H_isUntouched_0
  | k + 1, h => absurd h (by omega))
set_option maxRecDepth 100000 in
theorem okc_H_slotFor_0 : okMF 107 0 (List.take 40 (List.drop 0 c_H_slotFor)) = true := by decide +kernel
set_option maxRecDepth 100000 in
theorem okm_H_slotFor : okP 107 c_H_slotFor := okM_of 40 107 c_H_slotFor 1 (by decide +kernel) (fun k hk => match k, hk with
  | 0, _ => okc_H_slotFor_0
  | k + 1, h => absurd h (by omega))
set_option maxRecDepth 100000 in
theorem okc_H_waitLeft_0 : okMF 108 0 (List.take 40 (List.drop 0 c_H_waitLeft)) = true := by decide +kernel
set_option maxRecDepth 100000 in
theorem okm_H_waitLeft : okP 108 c_H_waitLeft := okM_of 40 108 c_H_waitLeft 1 (by decide +kernel) (fun k hk => match k, hk with
  | 0, _ => okc_H_waitLeft_0
  | k + 1, h => absurd h (by omega))
set_option maxRecDepth 100000 in
theorem okc_T_init_0 : okMF 109 0 (List.take 40 (List.drop 0 c_T_init)) = true := by decide +kernel
set_option maxRecDepth 100000 in
theorem okc_T_init_1 : okMF 109 40 (List.take 40 (List.drop 40 c_T_init)) = true := by decide +kernel
set_option maxRecDepth 100000 in
theorem okc_T_init_2 : okMF 109 80 (List.take 40 (List.drop 80 c_T_init)) = true := by decide +kernel
set_option maxRecDepth 100000 in
theorem okm_T_init : okP 109 c_T_init := okM_of 40 109 c_T_init 3 (by decide +kernel) (fun k hk => match k, hk with
  | 0, _ => okc_T_init_0
  | 1, _ => okc_T_init_1
  | 2, _ => okc_T_init_2
  | k + 3, h => absurd h (by omega))
end
section
set_option maxRecDepth 100000 in
theorem okc_T_copyFrom_0 : okMF 110 0 (List.take 40 (List.drop 0 c_T_copyFrom)) = true := by decide +kernel
set_option maxRecDepth 100000 in
theorem okc_T_copyFrom_1 : okMF 110 40 (List.take 40 (List.drop 40 c_T_copyFrom)) = true := by decide +kernel
set_option maxRecDepth 100000 in
theorem okm_T_copyFrom : okP 110 c_T_copyFrom := okM_of 40 110 c_T_copyFrom 2 (by decide +kernel) (fun k hk => match k, hk with
  | 0, _ => okc_T_copyFrom_0
  | 1, _ => okc_T_copyFrom_1
  | k + 2, h => absurd h (by omega))
set_option maxRecDepth 100000 in
theorem okc_T_hasHub_0 : okMF 111 0 (List.take 40 (List.drop 0 c_T_hasHub)) = true := by decide +kernel
set_option maxRecDepth 100000 in
theorem okm_T_hasHub : okP 111 c_T_hasHub := okM_of 40 111 c_T_hasHub 1 (by decide +kernel) (fun k hk => match k, hk with
  | 0, _ => okc_T_hasHub_0
  | k + 1, h => absurd h (by omega))
set_option maxRecDepth 100000 in
theorem okc_T_hasUnit_0 : okMF 112 0 (List.take 40 (List.drop 0 c_T_hasUnit)) = true := by decide +kernel
set_option maxRecDepth 100000 in
theorem okm_T_hasUnit : okP 112 c_T_hasUnit := okM_of 40 112 c_T_hasUnit 1 (by decide +kernel) (fun k hk => match k, hk with
  | 0, _ => okc_T_hasUnit_0
  | k + 1, h => absurd h (by omega))
set_option maxRecDepth 100000 in
theorem okc_T_joinError_0 : okMF 113 0 (List.take 40 (List.drop 0 c_T_joinError)) = true := by decide +kernel
set_option maxRecDepth 100000 in
theorem okm_T_joinError : okP 113 c_T_joinError := okM_of 40 113 c_T_joinError 1 (by decide +kernel) (fun k hk => match k, hk with
  | 0, _ => okc_T_joinError_0
  | k + 1, h => absurd h (by omega))
set_option maxRecDepth 100000 in
theorem okc_T_addHub_0 : okMF 114 0 (List.take 40 (List.drop 0 c_T_addHub)) = true := by decide +kernel
set_option maxRecDepth 100000 in
theorem okm_T_addHub : okP 114 c_T_addHub := okM_of 40 114 c_T_addHub 1 (by decide +kernel) (fun k hk => match k, hk with
  | 0, _ => okc_T_addHub_0
  | k + 1, h => absurd h (by omega))
set_option maxRecDepth 100000 in
theorem okc_T_addUnit_0 : okMF 115 0 (List.take 40 (List.drop 0 c_T_addUnit)) = true := by decide +kernel
set_option maxRecDepth 100000 in
theorem okm_T_addUnit : okP 115 c_T_addUnit := okM_of 40 115 c_T_addUnit 1 (by decide +kernel) (fun k hk => match k, hk with
  | 0, _ => okc_T_addUnit_0
  | k + 1, h => absurd h (by omega))
set_option maxRecDepth 100000 in
theorem okc_T_retireError_0 : okMF 116 0 (List.take 40 (List.drop 0 c_T_retireError)) = true := by decide +kernel
set_option maxRecDepth 100000 in
theorem okm_T_retireError : okP 116 c_T_retireError := okM_of 40 116 c_T_retireError 1 (by decide +kernel) (fun k hk => match k, hk with
  | 0, _ => okc_T_retireError_0
  | k + 1, h => absurd h (by omega))
set_option maxRecDepth 100000 in
theorem okc_T_retire_0 : okMF 117 0 (List.take 40 (List.drop 0 c_T_retire)) = true := by decide +kernel
set_option maxRecDepth 100000 in
theorem okm_T_retire : okP 117 c_T_retire := okM_of 40 117 c_T_retire 1 (by decide +kernel) (fun k hk => match k, hk with
  | 0, _ => okc_T_retire_0
  | k + 1, h => absurd h (by omega))
set_option maxRecDepth 100000 in
theorem okc_T_settingError_0 : okMF 118 0 (List.take 40 (List.drop 0 c_T_settingError)) = true := by decide +kernel
set_option maxRecDepth 100000 in
theorem okm_T_settingError : okP 118 c_T_settingError := okM_of 40 118 c_T_settingError 1 (by decide +kernel) (fun k hk => match k, hk with
  | 0, _ => okc_T_settingError_0
  | k + 1, h => absurd h (by omega))
set_option maxRecDepth 100000 in
theorem okc_T_canHavePeriod_0 : okMF 119 0 (List.take 40 (List.drop 0 c_T_canHavePeriod)) = true := by decide +kernel
set_option maxRecDepth 100000 in
theorem okc_T_canHavePeriod_1 : okMF 119 40 (List.take 40 (List.drop 40 c_T_canHavePeriod)) = true := by decide +kernel
set_option maxRecDepth 100000 in
theorem okm_T_canHavePeriod : okP 119 c_T_canHavePeriod := okM_of 40 119 c_T_canHavePeriod 2 (by decide +kernel) (fun k hk => match k, hk with
  | 0, _ => okc_T_canHavePeriod_0
  | 1, _ => okc_T_canHavePeriod_1
  | k + 2, h => absurd h (by omega))
set_option maxRecDepth 100000 in
theorem okc_T_changeSetting_0 : okMF 120 0 (List.take 40 (List.drop 0 c_T_changeSetting)) = true := by decide +kernel
set_option maxRecDepth 100000 in
theorem okm_T_changeSetting : okP 120 c_T_changeSetting := okM_of 40 120 c_T_changeSetting 1 (by decide +kernel) (fun k hk => match k, hk with
  | 0, _ => okc_T_changeSetting_0
  | k + 1, h => absurd h (by omega))
set_option maxRecDepth 100000 in
theorem okc_T_isChild_0 : okMF 121 0 (List.take 40 (List.drop 0 c_T_isChild)) = true := by decide +kernel
set_option maxRecDepth 100000 in
theorem okc_T_isChild_1 : okMF 121 40 (List.take 40 (List.drop 40 c_T_isChild)) = true := by decide +kernel
set_option maxRecDepth 100000 in
theorem okm_T_isChild : okP 121 c_T_isChild := okM_of 40 121 c_T_isChild 2 (by decide +kernel) (fun k hk => match k, hk with
  | 0, _ => okc_T_isChild_0
  | 1, _ => okc_T_isChild_1
  | k + 2, h => absurd h (by omega))
set_option maxRecDepth 100000 in
theorem okc_T_periodOf_0 : okMF 122 0 (List.take 40 (List.drop 0 c_T_periodOf)) = true := by decide +kernel
set_option maxRecDepth 100000 in
theorem okm_T_periodOf : okP 122 c_T_periodOf := okM_of 40 122 c_T_periodOf 1 (by decide +kernel) (fun k hk => match k, hk with
  | 0, _ => okc_T_periodOf_0
  | k + 1, h => absurd h (by omega))
set_option maxRecDepth 100000 in
theorem okc_T_childToward_0 : okMF 123 0 (List.take 40 (List.drop 0 c_T_childToward)) = true := by decide +kernel
set_option maxRecDepth 100000 in
theorem okc_T_childToward_1 : okMF 123 40 (List.take 40 (List.drop 40 c_T_childToward)) = true := by decide +kernel
set_option maxRecDepth 100000 in
theorem okm_T_childToward : okP 123 c_T_childToward := okM_of 40 123 c_T_childToward 2 (by decide +kernel) (fun k hk => match k, hk with
  | 0, _ => okc_T_childToward_0
  | 1, _ => okc_T_childToward_1
  | k + 2, h => absurd h (by omega))
set_option maxRecDepth 100000 in
theorem okc_T_childrenOf_0 : okMF 124 0 (List.take 40 (List.drop 0 c_T_childrenOf)) = true := by decide +kernel
set_option maxRecDepth 100000 in
theorem okm_T_childrenOf : okP 124 c_T_childrenOf := okM_of 40 124 c_T_childrenOf 1 (by decide +kernel) (fun k hk => match k, hk with
  | 0, _ => okc_T_childrenOf_0
  | k + 1, h => absurd h (by omega))
set_option maxRecDepth 100000 in
theorem okc_T_unitsUnder_0 : okMF 125 0 (List.take 40 (List.drop 0 c_T_unitsUnder)) = true := by decide +kernel
set_option maxRecDepth 100000 in
theorem okm_T_unitsUnder : okP 125 c_T_unitsUnder := okM_of 40 125 c_T_unitsUnder 1 (by decide +kernel) (fun k hk => match k, hk with
  | 0, _ => okc_T_unitsUnder_0
  | k + 1, h => absurd h (by omega))
set_option maxRecDepth 100000 in
theorem okc_T_unitsLeft_0 : okMF 126 0 (List.take 40 (List.drop 0 c_T_unitsLeft)) = true := by decide +kernel
set_option maxRecDepth 100000 in
theorem okm_T_unitsLeft : okP 126 c_T_unitsLeft := okM_of 40 126 c_T_unitsLeft 1 (by decide +kernel) (fun k hk => match k, hk with
  | 0, _ => okc_T_unitsLeft_0
  | k + 1, h => absurd h (by omega))
set_option maxRecDepth 100000 in
theorem okc_T_unitOfHub_0 : okMF 127 0 (List.take 40 (List.drop 0 c_T_unitOfHub)) = true := by decide +kernel
set_option maxRecDepth 100000 in
theorem okm_T_unitOfHub : okP 127 c_T_unitOfHub := okM_of 40 127 c_T_unitOfHub 1 (by decide +kernel) (fun k hk => match k, hk with
  | 0, _ => okc_T_unitOfHub_0
  | k + 1, h => absurd h (by omega))
set_option maxRecDepth 100000 in
theorem okc_T_delayToRoot_0 : okMF 128 0 (List.take 40 (List.drop 0 c_T_delayToRoot)) = true := by decide +kernel
set_option maxRecDepth 100000 in
theorem okm_T_delayToRoot : okP 128 c_T_delayToRoot := okM_of 40 128 c_T_delayToRoot 1 (by decide +kernel) (fun k hk => match k, hk with
  | 0, _ => okc_T_delayToRoot_0
  | k + 1, h => absurd h (by omega))
set_option maxRecDepth 100000 in
theorem okc_T_hubFact_0 : okMF 129 0 (List.take 40 (List.drop 0 c_T_hubFact)) = true := by decide +kernel
set_option maxRecDepth 100000 in
theorem okc_T_hubFact_1 : okMF 129 40 (List.take 40 (List.drop 40 c_T_hubFact)) = true := by decide +kernel
set_option maxRecDepth 100000 in
theorem okm_T_hubFact : okP 129 c_T_hubFact := okM_of 40 129 c_T_hubFact 2 (by decide +kernel) (fun k hk => match k, hk with
  | 0, _ => okc_T_hubFact_0
  | 1, _ => okc_T_hubFact_1
  | k + 2, h => absurd h (by omega))
set_option maxRecDepth 100000 in
theorem okc_T_unitFact_0 : okMF 130 0 (List.take 40 (List.drop 0 c_T_unitFact)) = true := by decide +kernel
set_option maxRecDepth 100000 in
theorem okc_T_unitFact_1 : okMF 130 40 (List.take 40 (List.drop 40 c_T_unitFact)) = true := by decide +kernel
set_option maxRecDepth 100000 in
theorem okm_T_unitFact : okP 130 c_T_unitFact := okM_of 40 130 c_T_unitFact 2 (by decide +kernel) (fun k hk => match k, hk with
  | 0, _ => okc_T_unitFact_0
  | 1, _ => okc_T_unitFact_1
  | k + 2, h => absurd h (by omega))
set_option maxRecDepth 100000 in
theorem okc_T_departError_0 : okMF 131 0 (List.take 40 (List.drop 0 c_T_departError)) = true := by decide +kernel
set_option maxRecDepth 100000 in
theorem okc_T_departError_1 : okMF 131 40 (List.take 40 (List.drop 40 c_T_departError)) = true := by decide +kernel
set_option maxRecDepth 100000 in
theorem okm_T_departError : okP 131 c_T_departError := okM_of 40 131 c_T_departError 2 (by decide +kernel) (fun k hk => match k, hk with
  | 0, _ => okc_T_departError_0
  | 1, _ => okc_T_departError_1
  | k + 2, h => absurd h (by omega))
set_option maxRecDepth 100000 in
theorem okc_T_depart_0 : okMF 132 0 (List.take 40 (List.drop 0 c_T_depart)) = true := by decide +kernel
set_option maxRecDepth 100000 in
theorem okm_T_depart : okP 132 c_T_depart := okM_of 40 132 c_T_depart 1 (by decide +kernel) (fun k hk => match k, hk with
  | 0, _ => okc_T_depart_0
  | k + 1, h => absurd h (by omega))
set_option maxRecDepth 100000 in
theorem okc_T_elapseError_0 : okMF 133 0 (List.take 40 (List.drop 0 c_T_elapseError)) = true := by decide +kernel
set_option maxRecDepth 100000 in
theorem okm_T_elapseError : okP 133 c_T_elapseError := okM_of 40 133 c_T_elapseError 1 (by decide +kernel) (fun k hk => match k, hk with
  | 0, _ => okc_T_elapseError_0
  | k + 1, h => absurd h (by omega))
set_option maxRecDepth 100000 in
theorem okc_T_elapse_0 : okMF 134 0 (List.take 40 (List.drop 0 c_T_elapse)) = true := by decide +kernel
set_option maxRecDepth 100000 in
theorem okm_T_elapse : okP 134 c_T_elapse := okM_of 40 134 c_T_elapse 1 (by decide +kernel) (fun k hk => match k, hk with
  | 0, _ => okc_T_elapse_0
  | k + 1, h => absurd h (by omega))
set_option maxRecDepth 100000 in
theorem okc_T_bringDueFrames_0 : okMF 135 0 (List.take 40 (List.drop 0 c_T_bringDueFrames)) = true := by decide +kernel
set_option maxRecDepth 100000 in
theorem okm_T_bringDueFrames : okP 135 c_T_bringDueFrames := okM_of 40 135 c_T_bringDueFrames 1 (by decide +kernel) (fun k hk => match k, hk with
  | 0, _ => okc_T_bringDueFrames_0
  | k + 1, h => absurd h (by omega))
set_option maxRecDepth 100000 in
theorem okc_T_arrive_0 : okMF 136 0 (List.take 40 (List.drop 0 c_T_arrive)) = true := by decide +kernel
set_option maxRecDepth 100000 in
theorem okc_T_arrive_1 : okMF 136 40 (List.take 40 (List.drop 40 c_T_arrive)) = true := by decide +kernel
set_option maxRecDepth 100000 in
theorem okc_T_arrive_2 : okMF 136 80 (List.take 40 (List.drop 80 c_T_arrive)) = true := by decide +kernel
set_option maxRecDepth 100000 in
theorem okm_T_arrive : okP 136 c_T_arrive := okM_of 40 136 c_T_arrive 3 (by decide +kernel) (fun k hk => match k, hk with
  | 0, _ => okc_T_arrive_0
  | 1, _ => okc_T_arrive_1
  | 2, _ => okc_T_arrive_2
  | k + 3, h => absurd h (by omega))
set_option maxRecDepth 100000 in
theorem okc_T_expectedOf_0 : okMF 137 0 (List.take 40 (List.drop 0 c_T_expectedOf)) = true := by decide +kernel
set_option maxRecDepth 100000 in
theorem okm_T_expectedOf : okP 137 c_T_expectedOf := okM_of 40 137 c_T_expectedOf 1 (by decide +kernel) (fun k hk => match k, hk with
  | 0, _ => okc_T_expectedOf_0
  | k + 1, h => absurd h (by omega))
set_option maxRecDepth 100000 in
theorem okc_T_expectedOfAll_0 : okMF 138 0 (List.take 40 (List.drop 0 c_T_expectedOfAll)) = true := by decide +kernel
set_option maxRecDepth 100000 in
theorem okm_T_expectedOfAll : okP 138 c_T_expectedOfAll := okM_of 40 138 c_T_expectedOfAll 1 (by decide +kernel) (fun k hk => match k, hk with
  | 0, _ => okc_T_expectedOfAll_0
  | k + 1, h => absurd h (by omega))
set_option maxRecDepth 100000 in
theorem okc_T_isComplete_0 : okMF 139 0 (List.take 40 (List.drop 0 c_T_isComplete)) = true := by decide +kernel
set_option maxRecDepth 100000 in
theorem okc_T_isComplete_1 : okMF 139 40 (List.take 40 (List.drop 40 c_T_isComplete)) = true := by decide +kernel
set_option maxRecDepth 100000 in
theorem okm_T_isComplete : okP 139 c_T_isComplete := okM_of 40 139 c_T_isComplete 2 (by decide +kernel) (fun k hk => match k, hk with
  | 0, _ => okc_T_isComplete_0
  | 1, _ => okc_T_isComplete_1
  | k + 2, h => absurd h (by omega))
set_option maxRecDepth 100000 in
theorem okc_T_isFirstSlotReady_0 : okMF 140 0 (List.take 40 (List.drop 0 c_T_isFirstSlotReady)) = true := by decide +kernel
set_option maxRecDepth 100000 in
theorem okm_T_isFirstSlotReady : okP 140 c_T_isFirstSlotReady := okM_of 40 140 c_T_isFirstSlotReady 1 (by decide +kernel) (fun k hk => match k, hk with
  | 0, _ => okc_T_isFirstSlotReady_0
  | k + 1, h => absurd h (by omega))
set_option maxRecDepth 100000 in
theorem okc_T_releaseReadySlots_0 : okMF 141 0 (List.take 40 (List.drop 0 c_T_releaseReadySlots)) = true := by decide +kernel
set_option maxRecDepth 100000 in
theorem okc_T_releaseReadySlots_1 : okMF 141 40 (List.take 40 (List.drop 40 c_T_releaseReadySlots)) = true := by decide +kernel
set_option maxRecDepth 100000 in
theorem okm_T_releaseReadySlots : okP 141 c_T_releaseReadySlots := okM_of 40 141 c_T_releaseReadySlots 2 (by decide +kernel) (fun k hk => match k, hk with
  | 0, _ => okc_T_releaseReadySlots_0
  | 1, _ => okc_T_releaseReadySlots_1
  | k + 2, h => absurd h (by omega))
set_option maxRecDepth 100000 in
theorem okc_T_putOut_0 : okMF 142 0 (List.take 40 (List.drop 0 c_T_putOut)) = true := by decide +kernel
set_option maxRecDepth 100000 in
theorem okm_T_putOut : okP 142 c_T_putOut := okM_of 40 142 c_T_putOut 1 (by decide +kernel) (fun k hk => match k, hk with
  | 0, _ => okc_T_putOut_0
  | k + 1, h => absurd h (by omega))
set_option maxRecDepth 100000 in
theorem okc_T_build_0 : okMF 143 0 (List.take 40 (List.drop 0 c_T_build)) = true := by decide +kernel
set_option maxRecDepth 100000 in
theorem okc_T_build_1 : okMF 143 40 (List.take 40 (List.drop 40 c_T_build)) = true := by decide +kernel
set_option maxRecDepth 100000 in
theorem okc_T_build_2 : okMF 143 80 (List.take 40 (List.drop 80 c_T_build)) = true := by decide +kernel
set_option maxRecDepth 100000 in
theorem okm_T_build : okP 143 c_T_build := okM_of 40 143 c_T_build 3 (by decide +kernel) (fun k hk => match k, hk with
  | 0, _ => okc_T_build_0
  | 1, _ => okc_T_build_1
  | 2, _ => okc_T_build_2
  | k + 3, h => absurd h (by omega))
set_option maxRecDepth 100000 in
theorem okc_T_takeHeld_0 : okMF 144 0 (List.take 40 (List.drop 0 c_T_takeHeld)) = true := by decide +kernel
set_option maxRecDepth 100000 in
theorem okm_T_takeHeld : okP 144 c_T_takeHeld := okM_of 40 144 c_T_takeHeld 1 (by decide +kernel) (fun k hk => match k, hk with
  | 0, _ => okc_T_takeHeld_0
  | k + 1, h => absurd h (by omega))
set_option maxRecDepth 100000 in
theorem okc_T_takeStamped_0 : okMF 145 0 (List.take 40 (List.drop 0 c_T_takeStamped)) = true := by decide +kernel
set_option maxRecDepth 100000 in
theorem okc_T_takeStamped_1 : okMF 145 40 (List.take 40 (List.drop 40 c_T_takeStamped)) = true := by decide +kernel
set_option maxRecDepth 100000 in
theorem okm_T_takeStamped : okP 145 c_T_takeStamped := okM_of 40 145 c_T_takeStamped 2 (by decide +kernel) (fun k hk => match k, hk with
  | 0, _ => okc_T_takeStamped_0
  | 1, _ => okc_T_takeStamped_1
  | k + 2, h => absurd h (by omega))
set_option maxRecDepth 100000 in
theorem okc_T_takeFiltered_0 : okMF 146 0 (List.take 40 (List.drop 0 c_T_takeFiltered)) = true := by decide +kernel
set_option maxRecDepth 100000 in
theorem okc_T_takeFiltered_1 : okMF 146 40 (List.take 40 (List.drop 40 c_T_takeFiltered)) = true := by decide +kernel
set_option maxRecDepth 100000 in
theorem okc_T_takeFiltered_2 : okMF 146 80 (List.take 40 (List.drop 80 c_T_takeFiltered)) = true := by decide +kernel
set_option maxRecDepth 100000 in
theorem okc_T_takeFiltered_3 : okMF 146 120 (List.take 40 (List.drop 120 c_T_takeFiltered)) = true := by decide +kernel
set_option maxRecDepth 100000 in
theorem okm_T_takeFiltered : okP 146 c_T_takeFiltered := okM_of 40 146 c_T_takeFiltered 4 (by decide +kernel) (fun k hk => match k, hk with
  | 0, _ => okc_T_takeFiltered_0
  | 1, _ => okc_T_takeFiltered_1
  | 2, _ => okc_T_takeFiltered_2
  | 3, _ => okc_T_takeFiltered_3
  | k + 4, h => absurd h (by omega))
end
section
set_option maxRecDepth 100000 in
theorem okc_T_hasValidReading_0 : okMF 147 0 (List.take 40 (List.drop 0 c_T_hasValidReading)) = true := by decide +kernel
set_option maxRecDepth 100000 in
theorem okm_T_hasValidReading : okP 147 c_T_hasValidReading := okM_of 40 147 c_T_hasValidReading 1 (by decide +kernel) (fun k hk => match k, hk with
  | 0, _ => okc_T_hasValidReading_0
  | k + 1, h => absurd h (by omega))
set_option maxRecDepth 100000 in
theorem okc_T_insertSorted_0 : okMF 148 0 (List.take 40 (List.drop 0 c_T_insertSorted)) = true := by decide +kernel
set_option maxRecDepth 100000 in
theorem okm_T_insertSorted : okP 148 c_T_insertSorted := okM_of 40 148 c_T_insertSorted 1 (by decide +kernel) (fun k hk => match k, hk with
  | 0, _ => okc_T_insertSorted_0
  | k + 1, h => absurd h (by omega))
set_option maxRecDepth 100000 in
theorem okc_T_slotFact_0 : okMF 149 0 (List.take 40 (List.drop 0 c_T_slotFact)) = true := by decide +kernel
set_option maxRecDepth 100000 in
theorem okc_T_slotFact_1 : okMF 149 40 (List.take 40 (List.drop 40 c_T_slotFact)) = true := by decide +kernel
set_option maxRecDepth 100000 in
theorem okm_T_slotFact : okP 149 c_T_slotFact := okM_of 40 149 c_T_slotFact 2 (by decide +kernel) (fun k hk => match k, hk with
  | 0, _ => okc_T_slotFact_0
  | 1, _ => okc_T_slotFact_1
  | k + 2, h => absurd h (by omega))
set_option maxRecDepth 100000 in
theorem okc_T_outputsKept_0 : okMF 150 0 (List.take 40 (List.drop 0 c_T_outputsKept)) = true := by decide +kernel
set_option maxRecDepth 100000 in
theorem okm_T_outputsKept : okP 150 c_T_outputsKept := okM_of 40 150 c_T_outputsKept 1 (by decide +kernel) (fun k hk => match k, hk with
  | 0, _ => okc_T_outputsKept_0
  | k + 1, h => absurd h (by omega))
set_option maxRecDepth 100000 in
theorem okc_T_output_0 : okMF 151 0 (List.take 40 (List.drop 0 c_T_output)) = true := by decide +kernel
set_option maxRecDepth 100000 in
theorem okm_T_output : okP 151 c_T_output := okM_of 40 151 c_T_output 1 (by decide +kernel) (fun k hk => match k, hk with
  | 0, _ => okc_T_output_0
  | k + 1, h => absurd h (by omega))
set_option maxRecDepth 100000 in
theorem okc_T_outputFact_0 : okMF 152 0 (List.take 40 (List.drop 0 c_T_outputFact)) = true := by decide +kernel
set_option maxRecDepth 100000 in
theorem okm_T_outputFact : okP 152 c_T_outputFact := okM_of 40 152 c_T_outputFact 1 (by decide +kernel) (fun k hk => match k, hk with
  | 0, _ => okc_T_outputFact_0
  | k + 1, h => absurd h (by omega))
set_option maxRecDepth 100000 in
theorem okc_T_total_0 : okMF 153 0 (List.take 40 (List.drop 0 c_T_total)) = true := by decide +kernel
set_option maxRecDepth 100000 in
theorem okm_T_total : okP 153 c_T_total := okM_of 40 153 c_T_total 1 (by decide +kernel) (fun k hk => match k, hk with
  | 0, _ => okc_T_total_0
  | k + 1, h => absurd h (by omega))
set_option maxRecDepth 100000 in
theorem okc_T_lateOfAll_0 : okMF 154 0 (List.take 40 (List.drop 0 c_T_lateOfAll)) = true := by decide +kernel
set_option maxRecDepth 100000 in
theorem okm_T_lateOfAll : okP 154 c_T_lateOfAll := okM_of 40 154 c_T_lateOfAll 1 (by decide +kernel) (fun k hk => match k, hk with
  | 0, _ => okc_T_lateOfAll_0
  | k + 1, h => absurd h (by omega))
set_option maxRecDepth 100000 in
theorem okc_T_doublesOfAll_0 : okMF 155 0 (List.take 40 (List.drop 0 c_T_doublesOfAll)) = true := by decide +kernel
set_option maxRecDepth 100000 in
theorem okm_T_doublesOfAll : okP 155 c_T_doublesOfAll := okM_of 40 155 c_T_doublesOfAll 1 (by decide +kernel) (fun k hk => match k, hk with
  | 0, _ => okc_T_doublesOfAll_0
  | k + 1, h => absurd h (by omega))
set_option maxRecDepth 100000 in
theorem okc_O_init_0 : okMF 156 0 (List.take 40 (List.drop 0 c_O_init)) = true := by decide +kernel
set_option maxRecDepth 100000 in
theorem okm_O_init : okP 156 c_O_init := okM_of 40 156 c_O_init 1 (by decide +kernel) (fun k hk => match k, hk with
  | 0, _ => okc_O_init_0
  | k + 1, h => absurd h (by omega))
set_option maxRecDepth 100000 in
theorem okc_O_append_0 : okMF 157 0 (List.take 40 (List.drop 0 c_O_append)) = true := by decide +kernel
set_option maxRecDepth 100000 in
theorem okm_O_append : okP 157 c_O_append := okM_of 40 157 c_O_append 1 (by decide +kernel) (fun k hk => match k, hk with
  | 0, _ => okc_O_append_0
  | k + 1, h => absurd h (by omega))
set_option maxRecDepth 100000 in
theorem okc_O_perform_0 : okMF 158 0 (List.take 40 (List.drop 0 c_O_perform)) = true := by decide +kernel
set_option maxRecDepth 100000 in
theorem okc_O_perform_1 : okMF 158 40 (List.take 40 (List.drop 40 c_O_perform)) = true := by decide +kernel
set_option maxRecDepth 100000 in
theorem okm_O_perform : okP 158 c_O_perform := okM_of 40 158 c_O_perform 2 (by decide +kernel) (fun k hk => match k, hk with
  | 0, _ => okc_O_perform_0
  | 1, _ => okc_O_perform_1
  | k + 2, h => absurd h (by omega))
set_option maxRecDepth 100000 in
theorem okc_O_reasonAgainst_0 : okMF 159 0 (List.take 40 (List.drop 0 c_O_reasonAgainst)) = true := by decide +kernel
set_option maxRecDepth 100000 in
theorem okm_O_reasonAgainst : okP 159 c_O_reasonAgainst := okM_of 40 159 c_O_reasonAgainst 1 (by decide +kernel) (fun k hk => match k, hk with
  | 0, _ => okc_O_reasonAgainst_0
  | k + 1, h => absurd h (by omega))
set_option maxRecDepth 100000 in
theorem okc_O_orderError_0 : okMF 160 0 (List.take 40 (List.drop 0 c_O_orderError)) = true := by decide +kernel
set_option maxRecDepth 100000 in
theorem okm_O_orderError : okP 160 c_O_orderError := okM_of 40 160 c_O_orderError 1 (by decide +kernel) (fun k hk => match k, hk with
  | 0, _ => okc_O_orderError_0
  | k + 1, h => absurd h (by omega))
set_option maxRecDepth 100000 in
theorem okc_O_readOrder_0 : okMF 161 0 (List.take 40 (List.drop 0 c_O_readOrder)) = true := by decide +kernel
set_option maxRecDepth 100000 in
theorem okc_O_readOrder_1 : okMF 161 40 (List.take 40 (List.drop 40 c_O_readOrder)) = true := by decide +kernel
set_option maxRecDepth 100000 in
theorem okm_O_readOrder : okP 161 c_O_readOrder := okM_of 40 161 c_O_readOrder 2 (by decide +kernel) (fun k hk => match k, hk with
  | 0, _ => okc_O_readOrder_0
  | 1, _ => okc_O_readOrder_1
  | k + 2, h => absurd h (by omega))
set_option maxRecDepth 100000 in
theorem okc_O_readNumber_0 : okMF 162 0 (List.take 40 (List.drop 0 c_O_readNumber)) = true := by decide +kernel
set_option maxRecDepth 100000 in
theorem okc_O_readNumber_1 : okMF 162 40 (List.take 40 (List.drop 40 c_O_readNumber)) = true := by decide +kernel
set_option maxRecDepth 100000 in
theorem okc_O_readNumber_2 : okMF 162 80 (List.take 40 (List.drop 80 c_O_readNumber)) = true := by decide +kernel
set_option maxRecDepth 100000 in
theorem okm_O_readNumber : okP 162 c_O_readNumber := okM_of 40 162 c_O_readNumber 3 (by decide +kernel) (fun k hk => match k, hk with
  | 0, _ => okc_O_readNumber_0
  | 1, _ => okc_O_readNumber_1
  | 2, _ => okc_O_readNumber_2
  | k + 3, h => absurd h (by omega))
set_option maxRecDepth 100000 in
theorem okc_O_isAt_0 : okMF 163 0 (List.take 40 (List.drop 0 c_O_isAt)) = true := by decide +kernel
set_option maxRecDepth 100000 in
theorem okm_O_isAt : okP 163 c_O_isAt := okM_of 40 163 c_O_isAt 1 (by decide +kernel) (fun k hk => match k, hk with
  | 0, _ => okc_O_isAt_0
  | k + 1, h => absurd h (by omega))
set_option maxRecDepth 100000 in
theorem okc_P_init_0 : okMF 164 0 (List.take 40 (List.drop 0 c_P_init)) = true := by decide +kernel
set_option maxRecDepth 100000 in
theorem okm_P_init : okP 164 c_P_init := okM_of 40 164 c_P_init 1 (by decide +kernel) (fun k hk => match k, hk with
  | 0, _ => okc_P_init_0
  | k + 1, h => absurd h (by omega))
set_option maxRecDepth 100000 in
theorem okc_P_hub_0 : okMF 165 0 (List.take 40 (List.drop 0 c_P_hub)) = true := by decide +kernel
set_option maxRecDepth 100000 in
theorem okm_P_hub : okP 165 c_P_hub := okM_of 40 165 c_P_hub 1 (by decide +kernel) (fun k hk => match k, hk with
  | 0, _ => okc_P_hub_0
  | k + 1, h => absurd h (by omega))
set_option maxRecDepth 100000 in
theorem okc_P_unit_0 : okMF 166 0 (List.take 40 (List.drop 0 c_P_unit)) = true := by decide +kernel
set_option maxRecDepth 100000 in
theorem okm_P_unit : okP 166 c_P_unit := okM_of 40 166 c_P_unit 1 (by decide +kernel) (fun k hk => match k, hk with
  | 0, _ => okc_P_unit_0
  | k + 1, h => absurd h (by omega))
set_option maxRecDepth 100000 in
theorem okc_P_takeOff_0 : okMF 167 0 (List.take 40 (List.drop 0 c_P_takeOff)) = true := by decide +kernel
set_option maxRecDepth 100000 in
theorem okm_P_takeOff : okP 167 c_P_takeOff := okM_of 40 167 c_P_takeOff 1 (by decide +kernel) (fun k hk => match k, hk with
  | 0, _ => okc_P_takeOff_0
  | k + 1, h => absurd h (by omega))
set_option maxRecDepth 100000 in
theorem okc_P_set_0 : okMF 168 0 (List.take 40 (List.drop 0 c_P_set)) = true := by decide +kernel
set_option maxRecDepth 100000 in
theorem okm_P_set : okP 168 c_P_set := okM_of 40 168 c_P_set 1 (by decide +kernel) (fun k hk => match k, hk with
  | 0, _ => okc_P_set_0
  | k + 1, h => absurd h (by omega))
set_option maxRecDepth 100000 in
theorem okc_P_hubOf_0 : okMF 169 0 (List.take 40 (List.drop 0 c_P_hubOf)) = true := by decide +kernel
set_option maxRecDepth 100000 in
theorem okm_P_hubOf : okP 169 c_P_hubOf := okM_of 40 169 c_P_hubOf 1 (by decide +kernel) (fun k hk => match k, hk with
  | 0, _ => okc_P_hubOf_0
  | k + 1, h => absurd h (by omega))
set_option maxRecDepth 100000 in
theorem okc_P_unitOf_0 : okMF 170 0 (List.take 40 (List.drop 0 c_P_unitOf)) = true := by decide +kernel
set_option maxRecDepth 100000 in
theorem okm_P_unitOf : okP 170 c_P_unitOf := okM_of 40 170 c_P_unitOf 1 (by decide +kernel) (fun k hk => match k, hk with
  | 0, _ => okc_P_unitOf_0
  | k + 1, h => absurd h (by omega))
set_option maxRecDepth 100000 in
theorem okc_P_unitAt_0 : okMF 171 0 (List.take 40 (List.drop 0 c_P_unitAt)) = true := by decide +kernel
set_option maxRecDepth 100000 in
theorem okm_P_unitAt : okP 171 c_P_unitAt := okM_of 40 171 c_P_unitAt 1 (by decide +kernel) (fun k hk => match k, hk with
  | 0, _ => okc_P_unitAt_0
  | k + 1, h => absurd h (by omega))
set_option maxRecDepth 100000 in
theorem okc_P_send_0 : okMF 172 0 (List.take 40 (List.drop 0 c_P_send)) = true := by decide +kernel
set_option maxRecDepth 100000 in
theorem okm_P_send : okP 172 c_P_send := okM_of 40 172 c_P_send 1 (by decide +kernel) (fun k hk => match k, hk with
  | 0, _ => okc_P_send_0
  | k + 1, h => absurd h (by omega))
set_option maxRecDepth 100000 in
theorem okc_P_pass_0 : okMF 173 0 (List.take 40 (List.drop 0 c_P_pass)) = true := by decide +kernel
set_option maxRecDepth 100000 in
theorem okm_P_pass : okP 173 c_P_pass := okM_of 40 173 c_P_pass 1 (by decide +kernel) (fun k hk => match k, hk with
  | 0, _ => okc_P_pass_0
  | k + 1, h => absurd h (by omega))
set_option maxRecDepth 100000 in
theorem okc_P_slotAt_0 : okMF 174 0 (List.take 40 (List.drop 0 c_P_slotAt)) = true := by decide +kernel
set_option maxRecDepth 100000 in
theorem okm_P_slotAt : okP 174 c_P_slotAt := okM_of 40 174 c_P_slotAt 1 (by decide +kernel) (fun k hk => match k, hk with
  | 0, _ => okc_P_slotAt_0
  | k + 1, h => absurd h (by omega))
set_option maxRecDepth 100000 in
theorem okc_P_outAt_0 : okMF 175 0 (List.take 40 (List.drop 0 c_P_outAt)) = true := by decide +kernel
set_option maxRecDepth 100000 in
theorem okm_P_outAt : okP 175 c_P_outAt := okM_of 40 175 c_P_outAt 1 (by decide +kernel) (fun k hk => match k, hk with
  | 0, _ => okc_P_outAt_0
  | k + 1, h => absurd h (by omega))
set_option maxRecDepth 100000 in
theorem okc_P_readingAt_0 : okMF 176 0 (List.take 40 (List.drop 0 c_P_readingAt)) = true := by decide +kernel
set_option maxRecDepth 100000 in
theorem okm_P_readingAt : okP 176 c_P_readingAt := okM_of 40 176 c_P_readingAt 1 (by decide +kernel) (fun k hk => match k, hk with
  | 0, _ => okc_P_readingAt_0
  | k + 1, h => absurd h (by omega))
set_option maxRecDepth 100000 in
theorem okc_P_heldBy_0 : okMF 177 0 (List.take 40 (List.drop 0 c_P_heldBy)) = true := by decide +kernel
set_option maxRecDepth 100000 in
theorem okm_P_heldBy : okP 177 c_P_heldBy := okM_of 40 177 c_P_heldBy 1 (by decide +kernel) (fun k hk => match k, hk with
  | 0, _ => okc_P_heldBy_0
  | k + 1, h => absurd h (by omega))
set_option maxRecDepth 100000 in
theorem okc_P_nextOut_0 : okMF 178 0 (List.take 40 (List.drop 0 c_P_nextOut)) = true := by decide +kernel
set_option maxRecDepth 100000 in
theorem okm_P_nextOut : okP 178 c_P_nextOut := okM_of 40 178 c_P_nextOut 1 (by decide +kernel) (fun k hk => match k, hk with
  | 0, _ => okc_P_nextOut_0
  | k + 1, h => absurd h (by omega))
set_option maxRecDepth 100000 in
theorem okc_P_foresee_0 : okMF 179 0 (List.take 40 (List.drop 0 c_P_foresee)) = true := by decide +kernel
set_option maxRecDepth 100000 in
theorem okm_P_foresee : okP 179 c_P_foresee := okM_of 40 179 c_P_foresee 1 (by decide +kernel) (fun k hk => match k, hk with
  | 0, _ => okc_P_foresee_0
  | k + 1, h => absurd h (by omega))
set_option maxRecDepth 100000 in
theorem okc_P_count_0 : okMF 180 0 (List.take 40 (List.drop 0 c_P_count)) = true := by decide +kernel
set_option maxRecDepth 100000 in
theorem okm_P_count : okP 180 c_P_count := okM_of 40 180 c_P_count 1 (by decide +kernel) (fun k hk => match k, hk with
  | 0, _ => okc_P_count_0
  | k + 1, h => absurd h (by omega))
set_option maxRecDepth 100000 in
theorem okc_P_undo_0 : okMF 181 0 (List.take 40 (List.drop 0 c_P_undo)) = true := by decide +kernel
set_option maxRecDepth 100000 in
theorem okm_P_undo : okP 181 c_P_undo := okM_of 40 181 c_P_undo 1 (by decide +kernel) (fun k hk => match k, hk with
  | 0, _ => okc_P_undo_0
  | k + 1, h => absurd h (by omega))
set_option maxRecDepth 100000 in
theorem okc_P_type_0 : okMF 182 0 (List.take 40 (List.drop 0 c_P_type)) = true := by decide +kernel
set_option maxRecDepth 100000 in
theorem okm_P_type : okP 182 c_P_type := okM_of 40 182 c_P_type 1 (by decide +kernel) (fun k hk => match k, hk with
  | 0, _ => okc_P_type_0
  | k + 1, h => absurd h (by omega))
set_option maxRecDepth 100000 in
theorem okc_P_clearText_0 : okMF 183 0 (List.take 40 (List.drop 0 c_P_clearText)) = true := by decide +kernel
set_option maxRecDepth 100000 in
theorem okm_P_clearText : okP 183 c_P_clearText := okM_of 40 183 c_P_clearText 1 (by decide +kernel) (fun k hk => match k, hk with
  | 0, _ => okc_P_clearText_0
  | k + 1, h => absurd h (by omega))
set_option maxRecDepth 100000 in
theorem okc_P_fault_0 : okMF 184 0 (List.take 40 (List.drop 0 c_P_fault)) = true := by decide +kernel
set_option maxRecDepth 100000 in
theorem okm_P_fault : okP 184 c_P_fault := okM_of 40 184 c_P_fault 1 (by decide +kernel) (fun k hk => match k, hk with
  | 0, _ => okc_P_fault_0
  | k + 1, h => absurd h (by omega))
set_option maxRecDepth 100000 in
theorem okc_P_play_0 : okMF 185 0 (List.take 40 (List.drop 0 c_P_play)) = true := by decide +kernel
set_option maxRecDepth 100000 in
theorem okm_P_play : okP 185 c_P_play := okM_of 40 185 c_P_play 1 (by decide +kernel) (fun k hk => match k, hk with
  | 0, _ => okc_P_play_0
  | k + 1, h => absurd h (by omega))
set_option maxRecDepth 100000 in
theorem okc_P_remember_0 : okMF 186 0 (List.take 40 (List.drop 0 c_P_remember)) = true := by decide +kernel
set_option maxRecDepth 100000 in
theorem okc_P_remember_1 : okMF 186 40 (List.take 40 (List.drop 40 c_P_remember)) = true := by decide +kernel
set_option maxRecDepth 100000 in
theorem okm_P_remember : okP 186 c_P_remember := okM_of 40 186 c_P_remember 2 (by decide +kernel) (fun k hk => match k, hk with
  | 0, _ => okc_P_remember_0
  | 1, _ => okc_P_remember_1
  | k + 2, h => absurd h (by omega))
set_option maxRecDepth 100000 in
theorem okc_P_isWithin_0 : okMF 187 0 (List.take 40 (List.drop 0 c_P_isWithin)) = true := by decide +kernel
set_option maxRecDepth 100000 in
theorem okm_P_isWithin : okP 187 c_P_isWithin := okM_of 40 187 c_P_isWithin 1 (by decide +kernel) (fun k hk => match k, hk with
  | 0, _ => okc_P_isWithin_0
  | k + 1, h => absurd h (by omega))
set_option maxRecDepth 100000 in
theorem okc_P_isMultiple_0 : okMF 188 0 (List.take 40 (List.drop 0 c_P_isMultiple)) = true := by decide +kernel
set_option maxRecDepth 100000 in
theorem okm_P_isMultiple : okP 188 c_P_isMultiple := okM_of 40 188 c_P_isMultiple 1 (by decide +kernel) (fun k hk => match k, hk with
  | 0, _ => okc_P_isMultiple_0
  | k + 1, h => absurd h (by omega))
set_option maxRecDepth 100000 in
theorem okc_P_quotient_0 : okMF 189 0 (List.take 40 (List.drop 0 c_P_quotient)) = true := by decide +kernel
set_option maxRecDepth 100000 in
theorem okm_P_quotient : okP 189 c_P_quotient := okM_of 40 189 c_P_quotient 1 (by decide +kernel) (fun k hk => match k, hk with
  | 0, _ => okc_P_quotient_0
  | k + 1, h => absurd h (by omega))
set_option maxRecDepth 100000 in
theorem okc_P_goTogether_0 : okMF 190 0 (List.take 40 (List.drop 0 c_P_goTogether)) = true := by decide +kernel
set_option maxRecDepth 100000 in
theorem okm_P_goTogether : okP 190 c_P_goTogether := okM_of 40 190 c_P_goTogether 1 (by decide +kernel) (fun k hk => match k, hk with
  | 0, _ => okc_P_goTogether_0
  | k + 1, h => absurd h (by omega))
set_option maxRecDepth 100000 in
theorem okc_JA_fill_0 : okMF 191 0 (List.take 40 (List.drop 0 c_JA_fill)) = true := by decide +kernel
set_option maxRecDepth 100000 in
theorem okm_JA_fill : okP 191 c_JA_fill := okM_of 40 191 c_JA_fill 1 (by decide +kernel) (fun k hk => match k, hk with
  | 0, _ => okc_JA_fill_0
  | k + 1, h => absurd h (by omega))
set_option maxRecDepth 100000 in
theorem okc_JI_bitCount_0 : okMF 192 0 (List.take 40 (List.drop 0 c_JI_bitCount)) = true := by decide +kernel
set_option maxRecDepth 100000 in
theorem okc_JI_bitCount_1 : okMF 192 40 (List.take 40 (List.drop 40 c_JI_bitCount)) = true := by decide +kernel
set_option maxRecDepth 100000 in
theorem okm_JI_bitCount : okP 192 c_JI_bitCount := okM_of 40 192 c_JI_bitCount 2 (by decide +kernel) (fun k hk => match k, hk with
  | 0, _ => okc_JI_bitCount_0
  | 1, _ => okc_JI_bitCount_1
  | k + 2, h => absurd h (by omega))
end
section
theorem okb_0 : ∀ r, r < 16 → okP (0 + r) (cod (0 + r)) := fun r hr => match r, hr with
  | 0, _ => okm_L_law
  | 1, _ => okm_m_init
  | 2, _ => okm_m_in
  | 3, _ => okm_m_of
  | 4, _ => okm_m_its
  | 5, _ => okm_m_fr
  | 6, _ => okm_m_lays
  | 7, _ => okm_m_isHub
  | 8, _ => okm_m_isUnit
  | 9, _ => okm_m_isOn
  | 10, _ => okm_m_keeps
  | 11, _ => okm_m_acted
  | 12, _ => okm_m_puts
  | 13, _ => okm_m_restores
  | 14, _ => okm_m_goWith
  | 15, _ => okm_m_isChild
  | r + 16, h => absurd h (by omega)
set_option maxRecDepth 100000 in
theorem okh_0 : ∀ r, r < 16 → 0 + r ≠ 0 → okHd (0 + r) = true := by decide +kernel
theorem okb_1 : ∀ r, r < 16 → okP (16 + r) (cod (16 + r)) := fun r hr => match r, hr with
  | 0, _ => okm_m_periodOf
  | 1, _ => okm_m_through
  | 2, _ => okm_m_isOf
  | 3, _ => okm_m_depth
  | 4, _ => okm_m_on
  | 5, _ => okm_m_hub
  | 6, _ => okm_m_unit
  | 7, _ => okm_m_takesOff
  | 8, _ => okm_m_takeOff
  | 9, _ => okm_m_canHave
  | 10, _ => okm_m_set
  | 11, _ => okm_m_children
  | 12, _ => okm_m_unitsOf
  | 13, _ => okm_m_onWay
  | 14, _ => okm_m_hubOf
  | 15, _ => okm_m_unitOf
  | r + 16, h => absurd h (by omega)
set_option maxRecDepth 100000 in
theorem okh_1 : ∀ r, r < 16 → 16 + r ≠ 0 → okHd (16 + r) = true := by decide +kernel
theorem okb_2 : ∀ r, r < 16 → okP (32 + r) (cod (32 + r)) := fun r hr => match r, hr with
  | 0, _ => okm_m_unitAt
  | 1, _ => okm_m_isIn
  | 2, _ => okm_m_behind
  | 3, _ => okm_m_slots
  | 4, _ => okm_m_isQuick
  | 5, _ => okm_m_expects
  | 6, _ => okm_m_frames
  | 7, _ => okm_m_expected
  | 8, _ => okm_m_isComplete
  | 9, _ => okm_m_firstCame
  | 10, _ => okm_m_lasts
  | 11, _ => okm_m_free
  | 12, _ => okm_m_comes
  | 13, _ => okm_m_plain
  | 14, _ => okm_m_gathers
  | 15, _ => okm_m_filtered
  | r + 16, h => absurd h (by omega)
set_option maxRecDepth 100000 in
theorem okh_2 : ∀ r, r < 16 → 32 + r ≠ 0 → okHd (32 + r) = true := by decide +kernel
theorem okb_3 : ∀ r, r < 16 → okP (48 + r) (cod (48 + r)) := fun r hr => match r, hr with
  | 0, _ => okm_m_held
  | 1, _ => okm_m_reads
  | 2, _ => okm_m_outs
  | 3, _ => okm_m_sends
  | 4, _ => okm_m_releases
  | 5, _ => okm_m_asks
  | 6, _ => okm_m_nextFrame
  | 7, _ => okm_m_tick
  | 8, _ => okm_m_allOnWay
  | 9, _ => okm_m_sendsOne
  | 10, _ => okm_m_send
  | 11, _ => okm_m_passes
  | 12, _ => okm_m_pass
  | 13, _ => okm_m_slotAt
  | 14, _ => okm_m_ones
  | 15, _ => okm_m_outAt
  | r + 16, h => absurd h (by omega)
set_option maxRecDepth 100000 in
theorem okh_3 : ∀ r, r < 16 → 48 + r ≠ 0 → okHd (48 + r) = true := by decide +kernel
theorem okb_4 : ∀ r, r < 16 → okP (64 + r) (cod (64 + r)) := fun r hr => match r, hr with
  | 0, _ => okm_m_readingAt
  | 1, _ => okm_m_heldBy
  | 2, _ => okm_m_nextOut
  | 3, _ => okm_m_foresee
  | 4, _ => okm_m_sumOf
  | 5, _ => okm_m_count
  | 6, _ => okm_m_undo
  | 7, _ => okm_m_type
  | 8, _ => okm_m_clearText
  | 9, _ => okm_m_has
  | 10, _ => okm_m_takes
  | 11, _ => okm_m_readsForm
  | 12, _ => okm_m_does
  | 13, _ => okm_m_doesNext
  | 14, _ => okm_m_faulty
  | 15, _ => okm_m_fault
  | r + 16, h => absurd h (by omega)
set_option maxRecDepth 100000 in
theorem okh_4 : ∀ r, r < 16 → 64 + r ≠ 0 → okHd (64 + r) = true := by decide +kernel
theorem okb_5 : ∀ r, r < 16 → okP (80 + r) (cod (80 + r)) := fun r hr => match r, hr with
  | 0, _ => okm_m_play
  | 1, _ => okm_F_init
  | 2, _ => okm_F_copyFrom
  | 3, _ => okm_F_begin
  | 4, _ => okm_F_has
  | 5, _ => okm_F_put
  | 6, _ => okm_F_readingFact
  | 7, _ => okm_F_flagsTogether
  | 8, _ => okm_R_init
  | 9, _ => okm_R_copyFrom
  | 10, _ => okm_R_insert
  | 11, _ => okm_R_grow
  | 12, _ => okm_R_swap
  | 13, _ => okm_R_removeFirst
  | 14, _ => okm_R_framesFrom
  | 15, _ => okm_R_slotEnd
  | r + 16, h => absurd h (by omega)
set_option maxRecDepth 100000 in
theorem okh_5 : ∀ r, r < 16 → 80 + r ≠ 0 → okHd (80 + r) = true := by decide +kernel
theorem okb_6 : ∀ r, r < 16 → okP (96 + r) (cod (96 + r)) := fun r hr => match r, hr with
  | 0, _ => okm_R_slotStart
  | 1, _ => okm_R_slots
  | 2, _ => okm_R_placeFor
  | 3, _ => okm_R_hasIn
  | 4, _ => okm_U_init
  | 5, _ => okm_U_begin
  | 6, _ => okm_U_copyFrom
  | 7, _ => okm_H_init
  | 8, _ => okm_H_begin
  | 9, _ => okm_H_copyFrom
  | 10, _ => okm_H_isUntouched
  | 11, _ => okm_H_slotFor
  | 12, _ => okm_H_waitLeft
  | 13, _ => okm_T_init
  | 14, _ => okm_T_copyFrom
  | 15, _ => okm_T_hasHub
  | r + 16, h => absurd h (by omega)
set_option maxRecDepth 100000 in
theorem okh_6 : ∀ r, r < 16 → 96 + r ≠ 0 → okHd (96 + r) = true := by decide +kernel
theorem okb_7 : ∀ r, r < 16 → okP (112 + r) (cod (112 + r)) := fun r hr => match r, hr with
  | 0, _ => okm_T_hasUnit
  | 1, _ => okm_T_joinError
  | 2, _ => okm_T_addHub
  | 3, _ => okm_T_addUnit
  | 4, _ => okm_T_retireError
  | 5, _ => okm_T_retire
  | 6, _ => okm_T_settingError
  | 7, _ => okm_T_canHavePeriod
  | 8, _ => okm_T_changeSetting
  | 9, _ => okm_T_isChild
  | 10, _ => okm_T_periodOf
  | 11, _ => okm_T_childToward
  | 12, _ => okm_T_childrenOf
  | 13, _ => okm_T_unitsUnder
  | 14, _ => okm_T_unitsLeft
  | 15, _ => okm_T_unitOfHub
  | r + 16, h => absurd h (by omega)
set_option maxRecDepth 100000 in
theorem okh_7 : ∀ r, r < 16 → 112 + r ≠ 0 → okHd (112 + r) = true := by decide +kernel
theorem okb_8 : ∀ r, r < 16 → okP (128 + r) (cod (128 + r)) := fun r hr => match r, hr with
  | 0, _ => okm_T_delayToRoot
  | 1, _ => okm_T_hubFact
  | 2, _ => okm_T_unitFact
  | 3, _ => okm_T_departError
  | 4, _ => okm_T_depart
  | 5, _ => okm_T_elapseError
  | 6, _ => okm_T_elapse
  | 7, _ => okm_T_bringDueFrames
  | 8, _ => okm_T_arrive
  | 9, _ => okm_T_expectedOf
  | 10, _ => okm_T_expectedOfAll
  | 11, _ => okm_T_isComplete
  | 12, _ => okm_T_isFirstSlotReady
  | 13, _ => okm_T_releaseReadySlots
  | 14, _ => okm_T_putOut
  | 15, _ => okm_T_build
  | r + 16, h => absurd h (by omega)
set_option maxRecDepth 100000 in
theorem okh_8 : ∀ r, r < 16 → 128 + r ≠ 0 → okHd (128 + r) = true := by decide +kernel
theorem okb_9 : ∀ r, r < 16 → okP (144 + r) (cod (144 + r)) := fun r hr => match r, hr with
  | 0, _ => okm_T_takeHeld
  | 1, _ => okm_T_takeStamped
  | 2, _ => okm_T_takeFiltered
  | 3, _ => okm_T_hasValidReading
  | 4, _ => okm_T_insertSorted
  | 5, _ => okm_T_slotFact
  | 6, _ => okm_T_outputsKept
  | 7, _ => okm_T_output
  | 8, _ => okm_T_outputFact
  | 9, _ => okm_T_total
  | 10, _ => okm_T_lateOfAll
  | 11, _ => okm_T_doublesOfAll
  | 12, _ => okm_O_init
  | 13, _ => okm_O_append
  | 14, _ => okm_O_perform
  | 15, _ => okm_O_reasonAgainst
  | r + 16, h => absurd h (by omega)
set_option maxRecDepth 100000 in
theorem okh_9 : ∀ r, r < 16 → 144 + r ≠ 0 → okHd (144 + r) = true := by decide +kernel
theorem okb_10 : ∀ r, r < 16 → okP (160 + r) (cod (160 + r)) := fun r hr => match r, hr with
  | 0, _ => okm_O_orderError
  | 1, _ => okm_O_readOrder
  | 2, _ => okm_O_readNumber
  | 3, _ => okm_O_isAt
  | 4, _ => okm_P_init
  | 5, _ => okm_P_hub
  | 6, _ => okm_P_unit
  | 7, _ => okm_P_takeOff
  | 8, _ => okm_P_set
  | 9, _ => okm_P_hubOf
  | 10, _ => okm_P_unitOf
  | 11, _ => okm_P_unitAt
  | 12, _ => okm_P_send
  | 13, _ => okm_P_pass
  | 14, _ => okm_P_slotAt
  | 15, _ => okm_P_outAt
  | r + 16, h => absurd h (by omega)
set_option maxRecDepth 100000 in
theorem okh_10 : ∀ r, r < 16 → 160 + r ≠ 0 → okHd (160 + r) = true := by decide +kernel
theorem okb_11 : ∀ r, r < 16 → okP (176 + r) (cod (176 + r)) := fun r hr => match r, hr with
  | 0, _ => okm_P_readingAt
  | 1, _ => okm_P_heldBy
  | 2, _ => okm_P_nextOut
  | 3, _ => okm_P_foresee
  | 4, _ => okm_P_count
  | 5, _ => okm_P_undo
  | 6, _ => okm_P_type
  | 7, _ => okm_P_clearText
  | 8, _ => okm_P_fault
  | 9, _ => okm_P_play
  | 10, _ => okm_P_remember
  | 11, _ => okm_P_isWithin
  | 12, _ => okm_P_isMultiple
  | 13, _ => okm_P_quotient
  | 14, _ => okm_P_goTogether
  | 15, _ => okm_JA_fill
  | r + 16, h => absurd h (by omega)
set_option maxRecDepth 100000 in
theorem okh_11 : ∀ r, r < 16 → 176 + r ≠ 0 → okHd (176 + r) = true := by decide +kernel
theorem okb_12 : ∀ r, r < 1 → okP (192 + r) (cod (192 + r)) := fun r hr => match r, hr with
  | 0, _ => okm_JI_bitCount
  | r + 1, h => absurd h (by omega)
set_option maxRecDepth 100000 in
theorem okh_12 : ∀ r, r < 1 → 192 + r ≠ 0 → okHd (192 + r) = true := by decide +kernel
theorem ev_ok (y : Nat) (hy : y < 193) : okP y (cod y) := by
  by_cases h0 : y < 16
  · rw [show y = 0 + (y - 0) by omega]; exact okb_0 _ (by omega)
  by_cases h1 : y < 32
  · rw [show y = 16 + (y - 16) by omega]; exact okb_1 _ (by omega)
  by_cases h2 : y < 48
  · rw [show y = 32 + (y - 32) by omega]; exact okb_2 _ (by omega)
  by_cases h3 : y < 64
  · rw [show y = 48 + (y - 48) by omega]; exact okb_3 _ (by omega)
  by_cases h4 : y < 80
  · rw [show y = 64 + (y - 64) by omega]; exact okb_4 _ (by omega)
  by_cases h5 : y < 96
  · rw [show y = 80 + (y - 80) by omega]; exact okb_5 _ (by omega)
  by_cases h6 : y < 112
  · rw [show y = 96 + (y - 96) by omega]; exact okb_6 _ (by omega)
  by_cases h7 : y < 128
  · rw [show y = 112 + (y - 112) by omega]; exact okb_7 _ (by omega)
  by_cases h8 : y < 144
  · rw [show y = 128 + (y - 128) by omega]; exact okb_8 _ (by omega)
  by_cases h9 : y < 160
  · rw [show y = 144 + (y - 144) by omega]; exact okb_9 _ (by omega)
  by_cases h10 : y < 176
  · rw [show y = 160 + (y - 160) by omega]; exact okb_10 _ (by omega)
  by_cases h11 : y < 192
  · rw [show y = 176 + (y - 176) by omega]; exact okb_11 _ (by omega)
  by_cases h12 : y < 193
  · rw [show y = 192 + (y - 192) by omega]; exact okb_12 _ (by omega)
  exact absurd hy (by omega)
theorem ev_hd (y : Nat) (h0 : y ≠ 0) (hy : y < 193) : okHd y = true := by
  by_cases h0 : y < 16
  · rw [show y = 0 + (y - 0) by omega]; exact okh_0 _ (by omega) (by omega)
  by_cases h1 : y < 32
  · rw [show y = 16 + (y - 16) by omega]; exact okh_1 _ (by omega) (by omega)
  by_cases h2 : y < 48
  · rw [show y = 32 + (y - 32) by omega]; exact okh_2 _ (by omega) (by omega)
  by_cases h3 : y < 64
  · rw [show y = 48 + (y - 48) by omega]; exact okh_3 _ (by omega) (by omega)
  by_cases h4 : y < 80
  · rw [show y = 64 + (y - 64) by omega]; exact okh_4 _ (by omega) (by omega)
  by_cases h5 : y < 96
  · rw [show y = 80 + (y - 80) by omega]; exact okh_5 _ (by omega) (by omega)
  by_cases h6 : y < 112
  · rw [show y = 96 + (y - 96) by omega]; exact okh_6 _ (by omega) (by omega)
  by_cases h7 : y < 128
  · rw [show y = 112 + (y - 112) by omega]; exact okh_7 _ (by omega) (by omega)
  by_cases h8 : y < 144
  · rw [show y = 128 + (y - 128) by omega]; exact okh_8 _ (by omega) (by omega)
  by_cases h9 : y < 160
  · rw [show y = 144 + (y - 144) by omega]; exact okh_9 _ (by omega) (by omega)
  by_cases h10 : y < 176
  · rw [show y = 160 + (y - 160) by omega]; exact okh_10 _ (by omega) (by omega)
  by_cases h11 : y < 192
  · rw [show y = 176 + (y - 176) by omega]; exact okh_11 _ (by omega) (by omega)
  by_cases h12 : y < 193
  · rw [show y = 192 + (y - 192) by omega]; exact okh_12 _ (by omega) (by omega)
  exact absurd hy (by omega)
end
section
/-! integers for the machine's ints -/
theorem iS_wr (z : Int) : iS (wr z) = iS z := Int32.toInt_inj.mp (by
  show (Int32.ofInt (z.bmod 4294967296)).toInt = (Int32.ofInt z).toInt
  rw [Int32.toInt_ofInt, Int32.toInt_ofInt]
  exact Int.bmod_bmod)
theorem iS_toInt {z : Int} (h : inR z) : (iS z).toInt = z := Int32.toInt_ofInt_of_le (by have := h.1; omega) (by have := h.2; omega)
theorem inR_toInt (x : Int32) : inR x.toInt := ⟨by have := x.le_toInt; omega, by have := x.toInt_lt; omega⟩
theorem iS_of (x : Int32) : iS x.toInt = x := Int32.ofInt_toInt x
theorem wr_toInt (z : Int) : wr z = (iS z).toInt := (Int32.toInt_ofInt (n := z)).symm
theorem inR_wr (z : Int) : inR (wr z) := by rw [wr_toInt]; exact inR_toInt _
theorem wr_id {z : Int} (h : inR z) : wr z = z := by rw [wr_toInt, iS_toInt h]
theorem iS_eq {x y : Int} (hx : inR x) (hy : inR y) : iS x = iS y ↔ x = y := by
  rw [← Int32.toInt_inj, iS_toInt hx, iS_toInt hy]
theorem iS_lt {x y : Int} (hx : inR x) (hy : inR y) : iS x < iS y ↔ x < y := by
  rw [Int32.lt_iff_toInt_lt, iS_toInt hx, iS_toInt hy]
theorem iS_le {x y : Int} (hx : inR x) (hy : inR y) : iS x ≤ iS y ↔ x ≤ y := by
  rw [Int32.le_iff_toInt_le, iS_toInt hx, iS_toInt hy]
theorem iS_0 : iS 0 = 0 := rfl
theorem inR_0 : inR 0 := ⟨by omega, by omega⟩
theorem iS_add (x y : Int) : iS x + iS y = iS (wr (x + y)) := by rw [iS_wr]; exact (Int32.ofInt_add x y).symm
theorem iS_sub (x y : Int) : iS x - iS y = iS (wr (x - y)) := by rw [iS_wr]; exact (Int32.ofInt_sub x y).symm
theorem iS_mul (x y : Int) : iS x * iS y = iS (wr (x * y)) := by rw [iS_wr]; exact (Int32.ofInt_mul x y).symm
theorem iS_neg (x : Int) : - iS x = iS (wr (-x)) := by rw [iS_wr]; exact (Int32.ofInt_neg x).symm
theorem iS_mn : Int32.minValue.toInt = -2147483648 := by decide
theorem iS_mxv : Int32.maxValue.toInt = 2147483647 := by decide
theorem iS_div {x y : Int} (hx : inR x) (hy : inR y) : iS x / iS y = iS (wr (x.tdiv y)) := by
  rw [iS_wr]
  exact (Int32.ofInt_tdiv (by rw [iS_mn]; exact hx.1) (by rw [iS_mxv]; exact hx.2) (by rw [iS_mn]; exact hy.1) (by rw [iS_mxv]; exact hy.2)).symm
theorem iS_rem {x y : Int} (hx : inR x) (hy : inR y) : iS x - iS x / iS y * iS y = iS (wr (x.tmod y)) := by
  rw [iS_div hx hy, iS_wr, iS_wr]
  show Int32.ofInt x - Int32.ofInt _ * Int32.ofInt y = Int32.ofInt _
  rw [← Int32.ofInt_mul, ← Int32.ofInt_sub]
  congr 1
  have := Int.mul_tdiv_add_tmod x y
  rw [Int.mul_comm] at this
  omega
theorem inR_and (x y : Int) : inR (oAnd x y) := inR_toInt _
theorem inR_or (x y : Int) : inR (oOr x y) := inR_toInt _
theorem inR_shl (x y : Int) : inR (oShl x y) := inR_toInt _
theorem inR_shr (x y : Int) : inR (oShr x y) := inR_toInt _
theorem inR_ushr (x y : Int) : inR (oUshr x y) := inR_toInt _
theorem inR_i2c (x : Int) : inR (oI2c x) := inR_toInt _
theorem iS_bip {n : Int} (h1 : -128 ≤ n) (h2 : n ≤ 127) : (Int8.ofInt n).toInt32 = iS n := Int32.toInt_inj.mp (by
  rw [Int8.toInt_toInt32, iS_toInt ⟨by omega, by omega⟩, Int8.toInt_ofInt_of_le (by omega) (by omega)])
theorem iS_sip {n : Int} (h1 : -32768 ≤ n) (h2 : n ≤ 32767) : (Int16.ofInt n).toInt32 = iS n := Int32.toInt_inj.mp (by
  rw [Int16.toInt_toInt32, iS_toInt ⟨by omega, by omega⟩, Int16.toInt_ofInt_of_le (by omega) (by omega)])
theorem iS_nat {j : Int} (h0 : 0 ≤ j) (h : j ≤ 2147483647) : (iS j).toNatClampNeg = j.toNat := by
  show (iS j).toInt.toNat = _
  rw [iS_toInt ⟨by omega, h⟩]
theorem iS_vin {j : Int} {n : Nat} (h0 : 0 ≤ j) (h1 : inR j) (h2 : j < n) : vp_in (iS j) n := by
  rw [vp_in_iff, iS_toInt h1]
  exact ⟨h0, h2⟩
theorem iS_nI (n : Nat) : iS (n : Int) = nI n := Int32.ofInt_eq_ofNat
theorem iS_char {v : Int} (h0 : 0 ≤ v) (h1 : v ≤ 65535) : narrow .char (.int (iS v)) = .int (iS v) ∧ fits .char (.int (iS v)) = true := by
  obtain ⟨q, rfl⟩ := Int.eq_ofNat_of_zero_le h0
  have := pk_charN (q := q) (by omega)
  rw [← iS_nI] at this
  exact this
theorem iS_bool {v : Int} (h0 : 0 ≤ v) (h1 : v ≤ 1) : narrow .boolean (.int (iS v)) = .int (iS v) ∧ fits .boolean (.int (iS v)) = true := by
  rcases (show v = 0 ∨ v = 1 by omega) with rfl | rfl <;> exact ⟨rfl, rfl⟩
theorem iS_int (v : Int32) : narrow .int (.int v) = .int v ∧ fits .int (.int v) = true := ⟨rfl, rfl⟩
theorem rf_nar (ty : FieldType) (h : ty.isReference = true) (r : Option Nat) : narrow ty (va_rf r) = va_rf r ∧ fits ty (va_rf r) = true := by
  cases ty <;> first | (simp [FieldType.isReference] at h; done) | (cases r <;> exact ⟨rfl, rfl⟩)
end
section
/-! the abstract heap over the machine's -/
abbrev PP : Type := Nat × Nat × Nat × Nat × (Nat → Nat × (Int → Int))
abbrev GG : Type := va_G × (Nat → ClassId) × PP
def gB (G : GG) : Nat := G.2.2.2.2.2.1
def gRo (G : GG) (a : Nat) : Nat × (Int → Int) := G.2.2.2.2.2.2 a
def adr (P : PP) (a : Nat) : Nat := if a = 0 then P.1 else if a = 1 then P.2.1 else if a = 2 then P.2.2.1 else P.2.2.2.1 + (a - 3)
def frA (P : PP) : Nat → Prop := fun q => P.2.2.2.1 ≤ q
def mv (P : PP) : AV → Value
  | .inl x => .int (iS x)
  | .inr r => va_rf (r.map (adr P))
def fsV (P : PP) (ci : Nat) (h : HP) (a : Nat) : List Value := (List.range (fcn ci)).map (fun (k : Nat) => if fkd ci k = 1 then va_rf ((hR h a (k : Int)).map (adr P)) else .int (iS (hI h a (k : Int))))
def arT : Nat → FieldType
  | 0 => .int
  | 1 => .char
  | n + 2 => .object (fldC n)
def entO (G : GG) (h : HP) (a : Nat) : Option va_E :=
  if (hTy h a).1 = 0 then none
  else if (hTy h a).1 ≤ 8 then some (.inr ((hTy h a).1 - 1, fsV G.2.2 ((hTy h a).1 - 1) h a))
  else if (hTy h a).1 = 100 ∨ (hTy h a).1 = 101 then some (.inl (G.2.1 ((hTy h a).1 - 100), (hTy h a).2, .inl (fun j => iS (hI h a (j : Int)))))
  else if rfO (hTy h a).1 = true then some (.inl (G.2.1 ((hTy h a).1 - 198), (hTy h a).2, .inr (.inr (.inr (.inr (fun j => (hR h a (j : Int)).map (adr G.2.2)))))))
  else none
def Rep (G : GG) (h : HP) (H : Heap) : Prop := 3 ≤ hZ h ∧ H.size + 3 = gB G + hZ h ∧ (G.2.2.1 < gB G ∧ G.2.2.2.1 < gB G ∧ G.2.2.2.2.1 < gB G) ∧ (∀ a e, 3 ≤ a → entO G h a = some e → a < hZ h ∧ va_at G.1 ev_cl (adr G.2.2 a, e) H) ∧ ∀ a, a < 3 → hTy h a = (100, (gRo G a).1) ∧ ∀ j, hI h a j = (gRo G a).2 j
def okK (k : Nat) : Bool := k == 0 || k == 1 || k == 2 || k == 3 || k == 6 || k == 7
def WK (G : GG) (U : State) : Prop := va_K G.1 ev_cl [] U ∧ (∀ k, okK k = true → ArrOfT U (G.2.1 k) (arT k) ∧ va_RA U (G.2.1 k) (arT k)) ∧ va_Z "PhasorTree" "LEAST_SETTING" "[I" (.ref G.2.2.1) (frA G.2.2) U U.heap ∧ va_Z "PhasorTree" "MOST_SETTING" "[I" (.ref G.2.2.2.1) (frA G.2.2) U U.heap ∧ ∀ a, a < 3 → va_T .int (adr G.2.2 a) (gRo G a).1 (fun j => .int (iS ((gRo G a).2 (j : Int)))) (frA G.2.2) U U.heap
def LR (P : PP) (lsM : Array Slot) (nL : Nat) (ls : Ls) : Prop := lsM.size = nL ∧ lv_wf lsM ∧ ls.length = nL ∧ ∀ (i : Nat) (v : AV), ls[i]? = some (some v) → lsM[i]? = some (.val (mv P v))
def okV : AV → Prop
  | .inl x => inR x
  | .inr _ => True
def okH (h : HP) : Prop := ∀ a k, inR (hI h a k)
def okLs (ls : Ls) : Prop := ∀ (i : Nat) (v : AV), ls[i]? = some (some v) → okV v
def okSt (st : List AV) : Prop := ∀ v ∈ st, okV v
def fldY : Nat → Nat → FieldType
  | 0 => tyX0
  | 1 => tyX1
  | 2 => tyX2
  | 3 => tyX3
  | 4 => tyX4
  | 5 => tyX5
  | 6 => tyX6
  | _ => tyX7
def kindO (k : Nat) (t : FieldType) : Bool := match k, t with
  | 0, .int => true
  | 1, t => t.isReference
  | 2, .char => true
  | 3, .boolean => true
  | _, _ => false
def evG (w : Jvm.Cond) : Bool := match w with
  | .arrayOver (.object _) => true
  | .fieldLinkNest _ _ _ _ _ _ => true
  | .methodLinkNest _ _ _ _ => true
  | w => goodWord w
def evT : List Jvm.Cond := lw_tbl.filter evG
theorem evT_of {w : Jvm.Cond} (h : w ∈ lw_tbl) (g : evG w = true := by rfl) : w ∈ evT := List.mem_filter.mpr ⟨h, g⟩
theorem evT_lay {C : String} {T : u_T} {N : Nat} (h : ∀ w ∈ u_ws C T N, w ∈ lw_tbl) : ∀ w ∈ u_ws C T N, w ∈ evT := by
  intro w hw
  refine evT_of (h w hw) ?_
  obtain ⟨k, -, rfl⟩ := List.mem_map.mp hw
  unfold u_lay
  split <;> rfl
theorem clF (ci : Nat) (h : ci < 8) : ev_cl[ci]? = some (fldC ci, fldT ci, fcn ci) ∧ (∀ w ∈ u_ws (fldC ci) (fldT ci) (fcn ci), w ∈ evT) ∧ (∀ k, k < fcn ci → parseFieldDescriptor (fldT ci k).2.2.1 = some (fldY ci k)) ∧ (∀ a, a < fcn ci → ∀ b, b < fcn ci → a ≠ b → (fldT ci a).2.1 ≠ (fldT ci b).2.1) ∧ (∀ k, k < fcn ci → kindO (fkd ci k) (fldY ci k) = true) ∧ ∀ k, k < fcn ci → (fldT ci k).1 = fldC ci := by
  match ci, h with
  | 0, _ => exact ⟨rfl, evT_lay inX0, tyX0_ok, nmX0, by decide +kernel, by decide +kernel⟩
  | 1, _ => exact ⟨rfl, evT_lay inX1, tyX1_ok, nmX1, by decide +kernel, by decide +kernel⟩
  | 2, _ => exact ⟨rfl, evT_lay inX2, tyX2_ok, nmX2, by decide +kernel, by decide +kernel⟩
  | 3, _ => exact ⟨rfl, evT_lay inX3, tyX3_ok, nmX3, by decide +kernel, by decide +kernel⟩
  | 4, _ => exact ⟨rfl, evT_lay inX4, tyX4_ok, nmX4, by decide +kernel, by decide +kernel⟩
  | 5, _ => exact ⟨rfl, evT_lay inX5, tyX5_ok, nmX5, by decide +kernel, by decide +kernel⟩
  | 6, _ => exact ⟨rfl, evT_lay inX6, tyX6_ok, nmX6, by decide +kernel, by decide +kernel⟩
  | 7, _ => exact ⟨rfl, evT_lay inX7, tyX7_ok, nmX7, by decide +kernel, by decide +kernel⟩
  | n + 8, h => exact absurd h (by omega)
theorem clI0 : ∀ ci, ci < 8 → Jvm.Cond.instantiable (fldC ci) (fcn ci) ∈ lw_tbl ∧ Jvm.Cond.initialized (fldC ci) ∈ lw_tbl := by decide +kernel
theorem clI (ci : Nat) (h : ci < 8) : Jvm.Cond.instantiable (fldC ci) (fcn ci) ∈ evT ∧ Jvm.Cond.initialized (fldC ci) ∈ evT := ⟨evT_of (clI0 ci h).1, evT_of (clI0 ci h).2⟩
theorem clA : (∀ ci, ci = 0 ∨ ci = 1 ∨ ci = 4 ∨ ci = 5 → ci < 8 → Jvm.Cond.arrayOver (.object (fldC ci)) ∈ evT) := by
  intro ci h _
  refine evT_of ?_
  rcases h with rfl | rfl | rfl | rfl <;> decide +kernel
theorem clP0 : Jvm.Cond.arrayClass .int ∈ lw_tbl ∧ Jvm.Cond.arrayClass .char ∈ lw_tbl ∧ Jvm.Cond.native arraycopyName ∈ lw_tbl ∧ Jvm.Cond.static arraycopyName ∈ lw_tbl ∧ Jvm.Cond.initialized "java/lang/System" ∈ lw_tbl ∧ Jvm.Cond.instanceMethod objectInit ∈ lw_tbl ∧ Jvm.Cond.code objectInit ⟨#[0xb1]⟩ 1 none ∈ lw_tbl := by decide +kernel
theorem clP : Jvm.Cond.arrayClass .int ∈ evT ∧ Jvm.Cond.arrayClass .char ∈ evT ∧ Jvm.Cond.native arraycopyName ∈ evT ∧ Jvm.Cond.static arraycopyName ∈ evT ∧ Jvm.Cond.initialized "java/lang/System" ∈ evT ∧ Jvm.Cond.instanceMethod objectInit ∈ evT ∧ Jvm.Cond.code objectInit ⟨#[0xb1]⟩ 1 none ∈ evT := ⟨evT_of clP0.1, evT_of clP0.2.1, evT_of clP0.2.2.1, evT_of clP0.2.2.2.1, evT_of clP0.2.2.2.2.1, evT_of clP0.2.2.2.2.2.1, evT_of clP0.2.2.2.2.2.2⟩
theorem clM0 : Jvm.Cond.static Lib.Math.max.name ∈ lw_tbl ∧ Jvm.Cond.initialized "java/lang/Math" ∈ lw_tbl ∧ Jvm.Cond.code Lib.Math.max.name Lib.Math.max.code 2 (some .int) ∈ lw_tbl ∧ Jvm.Cond.static Lib.Math.min.name ∈ lw_tbl ∧ Jvm.Cond.code Lib.Math.min.name Lib.Math.min.code 2 (some .int) ∈ lw_tbl := by decide +kernel
theorem clM : Jvm.Cond.static Lib.Math.max.name ∈ evT ∧ Jvm.Cond.initialized "java/lang/Math" ∈ evT ∧ Jvm.Cond.code Lib.Math.max.name Lib.Math.max.code 2 (some .int) ∈ evT ∧ Jvm.Cond.static Lib.Math.min.name ∈ evT ∧ Jvm.Cond.code Lib.Math.min.name Lib.Math.min.code 2 (some .int) ∈ evT := ⟨evT_of clM0.1, evT_of clM0.2.1, evT_of clM0.2.2.1, evT_of clM0.2.2.2.1, evT_of clM0.2.2.2.2⟩
theorem wd_in {w : Nat} {c : Jvm.Cond} (h : wd w c = true) (g : evG c = true := by rfl) : c ∈ evT := evT_of (List.mem_of_getElem? (of_decide_eq_true h)) g
theorem fcn_le {ci k : Nat} (h : k < fcn ci) : ci < 8 := by
  by_cases h8 : ci < 8
  · exact h8
  · exfalso
    have : fcn ci = 0 := by
      unfold fcn ev_fk
      rw [List.getD_eq_getElem?_getD, List.getElem?_eq_none (by simp; omega)]
      rfl
    omega
theorem ent_obj {G : GG} {h : HP} {a ci : Nat} (ht : (hTy h a).1 = ci + 1) (hc : ci < 8) : entO G h a = some (.inr (ci, fsV G.2.2 ci h a)) := by
  unfold entO
  rw [if_neg (by omega), if_pos (by omega), ht]
  rfl
theorem ent_ip {G : GG} {h : HP} {a t : Nat} (ht : (hTy h a).1 = t) (hc : t = 100 ∨ t = 101) : entO G h a = some (.inl (G.2.1 (t - 100), (hTy h a).2, .inl (fun j => iS (hI h a (j : Int))))) := by
  unfold entO
  rw [if_neg (by omega), if_neg (by omega), if_pos (by omega), ht]
theorem rfO_iff {t : Nat} (h : rfO t = true) : t = 200 ∨ t = 201 ∨ t = 204 ∨ t = 205 := by
  simpa [rfO, or_assoc] using h
theorem ent_rf {G : GG} {h : HP} {a t : Nat} (ht : (hTy h a).1 = t) (hc : rfO t = true) : entO G h a = some (.inl (G.2.1 (t - 198), (hTy h a).2, .inr (.inr (.inr (.inr (fun j => (hR h a (j : Int)).map (adr G.2.2))))))) := by
  have := rfO_iff hc
  unfold entO
  rw [if_neg (by omega), if_neg (by omega), if_neg (by omega), ht, if_pos hc]
theorem fsV_len {P : PP} {ci : Nat} {h : HP} {a : Nat} : (fsV P ci h a).length = fcn ci := by simp [fsV]
theorem fsV_at {P : PP} {ci : Nat} {h : HP} {a k : Nat} (hk : k < fcn ci) : (fsV P ci h a)[k]? = some (mv P (if fkd ci k = 1 then .inr (hR h a (k : Int)) else .inl (hI h a (k : Int)))) := by
  unfold fsV
  rw [List.getElem?_map, List.getElem?_range hk]
  by_cases h1 : fkd ci k = 1 <;> simp [h1, mv]
theorem adr_ge {P : PP} {a : Nat} (h : 3 ≤ a) : adr P a = P.2.2.2.1 + (a - 3) := by
  unfold adr
  rw [if_neg (by omega), if_neg (by omega), if_neg (by omega)]
theorem adr_frA {P : PP} {a : Nat} (h : 3 ≤ a) : frA P (adr P a) := by
  rw [adr_ge h]
  exact Nat.le_add_right _ _
theorem adr_ne {G : GG} (hb : G.2.2.1 < gB G ∧ G.2.2.2.1 < gB G ∧ G.2.2.2.2.1 < gB G) {a b : Nat} (ha : 3 ≤ a) (hn : b ≠ a) : adr G.2.2 b ≠ adr G.2.2 a := by
  rw [adr_ge ha]
  unfold adr
  unfold gB at hb
  by_cases h0 : b = 0
  · rw [if_pos h0]; omega
  by_cases h1 : b = 1
  · rw [if_neg h0, if_pos h1]; omega
  by_cases h2 : b = 2
  · rw [if_neg h0, if_neg h1, if_pos h2]; omega
  rw [if_neg h0, if_neg h1, if_neg h2]
  omega
theorem va_P1 {D : va_G} {cl : List vw_C} {q : Nat × va_E} {H : Heap} (h : va_at D cl q H) : va_P D cl [q] H := by
  intro k x hx
  have hk : k < 1 := (List.getElem?_eq_some_iff.mp hx).1
  obtain rfl : k = 0 := by omega
  cases hx
  exact h
theorem ent_congr {G : GG} {h h' : HP} {b : Nat} (h1 : hTy h' b = hTy h b) (h2 : ∀ j, hI h' b j = hI h b j) (h3 : ∀ j, hR h' b j = hR h b j) : entO G h' b = entO G h b := by
  unfold entO fsV
  simp only [h1, h2, h3]
/-- what cell b is, is the same in both -/
def same1 (h h' : HP) (b : Nat) : Prop := hTy h' b = hTy h b ∧ (∀ j, hI h' b j = hI h b j) ∧ ∀ j, hR h' b j = hR h b j
theorem same1.ent {G : GG} {h h' : HP} {b : Nat} (s : same1 h h' b) : entO G h' b = entO G h b := ent_congr s.1 s.2.1 s.2.2
theorem rep_upd {G : GG} {h h' : HP} {H H1 : Heap} {a : Nat} {e' : va_E} (hRep : Rep G h H) (ha3 : 3 ≤ a) (haZ : a < hZ h) (hz : hZ h' = hZ h) (hs : H1.size = H.size) (he : entO G h' a = some e') (hat : va_at G.1 ev_cl (adr G.2.2 a, e') H1) (ho : ∀ b, b ≠ a → same1 h h' b) (oq : ∀ q, q ≠ adr G.2.2 a → H1[q]? = H[q]?) : Rep G h' H1 := by
  obtain ⟨h1, h2, h3, h4, h5⟩ := hRep
  refine ⟨by rw [hz]; exact h1, by rw [hz, hs]; exact h2, h3, fun b e hb3 hb => ?_, fun b hb => ?_⟩
  · by_cases hn : b = a
    · subst hn
      rw [he] at hb
      cases hb
      exact ⟨by rw [hz]; exact haZ, hat⟩
    · rw [(ho b hn).ent] at hb
      obtain ⟨g1, g2⟩ := h4 b e hb3 hb
      exact ⟨by rw [hz]; exact g1, g2.kept (oq _ (adr_ne h3 ha3 hn))⟩
  · obtain ⟨g1, g2, -⟩ := ho b (by omega)
    exact ⟨by rw [g1]; exact (h5 b hb).1, fun j => by rw [g2 j]; exact (h5 b hb).2 j⟩
theorem rep_new {G : GG} {h h' : HP} {H H1 : Heap} {e' : va_E} (hRep : Rep G h H) (hz : hZ h' = hZ h + 1) (hs : H1.size = H.size + 1) (he : entO G h' (hZ h) = some e') (hat : va_at G.1 ev_cl (H.size, e') H1) (ho : ∀ b, b ≠ hZ h → same1 h h' b) (oq : ∀ q, q < H.size → H1[q]? = H[q]?) : Rep G h' H1 ∧ H.size = adr G.2.2 (hZ h) := by
  obtain ⟨h1, h2, h3, h4, h5⟩ := hRep
  have hA : H.size = adr G.2.2 (hZ h) := by
    rw [adr_ge h1]
    unfold gB at h2
    omega
  refine ⟨⟨by omega, by omega, h3, fun b e hb3 hb => ?_, fun b hb => ?_⟩, hA⟩
  · by_cases hn : b = hZ h
    · subst hn
      rw [he] at hb
      cases hb
      rw [← hA]
      exact ⟨by omega, hat⟩
    · rw [(ho b hn).ent] at hb
      obtain ⟨g1, g2⟩ := h4 b e hb3 hb
      exact ⟨by omega, g2.kept (oq _ g2.lt)⟩
  · obtain ⟨g1, g2, -⟩ := ho b (by omega)
    exact ⟨by rw [g1]; exact (h5 b hb).1, fun j => by rw [g2 j]; exact (h5 b hb).2 j⟩
theorem ent_sI {h : HP} {a b : Nat} {k v : Int} (hn : b ≠ a) : same1 h (sI h a k v) b := ⟨rfl, fun j => by show (if b = a ∧ j = k then v else hI h b j) = _; rw [if_neg (fun z => hn z.1)], fun j => rfl⟩
theorem ent_sR {h : HP} {a b : Nat} {k : Int} {v : Option Nat} (hn : b ≠ a) : same1 h (sR h a k v) b := ⟨rfl, fun j => rfl, fun j => by show (if b = a ∧ j = k then v else hR h b j) = _; rw [if_neg (fun z => hn z.1)]⟩
theorem ent_sCp {h : HP} {c a b : Nat} {sp dp n : Int} (hn : b ≠ a) : same1 h (sCp h c sp a dp n) b := ⟨rfl, fun j => by show (if b = a ∧ dp ≤ j ∧ j < dp + n then hI h c (sp + (j - dp)) else hI h b j) = _; rw [if_neg (fun z => hn z.1)], fun j => rfl⟩
theorem ent_sNew {h : HP} {t : Nat × Nat} {n b : Nat} (hn : b ≠ hZ h) : same1 h (sNew h t n) b := ⟨by show (if b = hZ h then t else hTy h b) = _; rw [if_neg hn], fun j => by show (if b = hZ h then 0 else hI h b j) = _; rw [if_neg hn], fun j => by show (if b = hZ h then none else hR h b j) = _; rw [if_neg hn]⟩
/-- an address whose kind isn't an int array's is none of the three given arrays -/
theorem rep_ge3 {G : GG} {h : HP} {H : Heap} {a : Nat} (hRep : Rep G h H) (ht : (hTy h a).1 ≠ 100) : 3 ≤ a := by
  by_cases h3 : 3 ≤ a
  · exact h3
  · exfalso
    have := (hRep.2.2.2.2 a (by omega)).1
    rw [this] at ht
    exact ht rfl
theorem rep_obj {G : GG} {h : HP} {H : Heap} {a ci : Nat} (hRep : Rep G h H) (ht : (hTy h a).1 = ci + 1) (hc : ci < 8) : a < hZ h ∧ va_at G.1 ev_cl (adr G.2.2 a, .inr (ci, fsV G.2.2 ci h a)) H := hRep.2.2.2.1 _ _ (rep_ge3 hRep (by omega)) (ent_obj ht hc)
theorem rep_rf {G : GG} {h : HP} {H : Heap} {a : Nat} (hRep : Rep G h H) (hc : rfO (hTy h a).1 = true) : a < hZ h ∧ va_at G.1 ev_cl (adr G.2.2 a, .inl (G.2.1 ((hTy h a).1 - 198), (hTy h a).2, .inr (.inr (.inr (.inr (fun j => (hR h a (j : Int)).map (adr G.2.2))))))) H := hRep.2.2.2.1 _ _ (rep_ge3 hRep (by have := rfO_iff hc; omega)) (ent_rf rfl hc)
theorem rep_ip {G : GG} {h : HP} {H : Heap} {a t : Nat} (hRep : Rep G h H) (ha : 3 ≤ a) (ht : (hTy h a).1 = t) (hc : t = 100 ∨ t = 101) : a < hZ h ∧ va_at G.1 ev_cl (adr G.2.2 a, .inl (G.2.1 (t - 100), (hTy h a).2, .inl (fun j => iS (hI h a (j : Int))))) H := hRep.2.2.2.1 _ _ ha (ent_ip ht hc)
theorem LR_set {P : PP} {lsM lsM' : Array Slot} {nL k : Nat} {ls : Ls} {v : AV} {lv' : List (Nat × Value)} (h : LR P lsM nL ls) (hk : k < nL) (h' : lv_has lsM' nL lv')
    (hl : (k, mv P v) :: (ls.zipIdx.filterMap (fun (q : Option AV × Nat) => q.1.map (fun w => (q.2, mv P w)))).filter (fun q => !(q.1 == k) && !(q.1 + 1 == k && q.2.category == 2)) = lv') : LR P lsM' nL (ls.set k (some v)) := by
  obtain ⟨h1, h2, h3, h4⟩ := h
  obtain ⟨g1, g2, g3⟩ := h'
  refine ⟨g1, g2, by rw [List.length_set]; exact h3, fun i w hw => ?_⟩
  subst hl
  by_cases hik : i = k
  · subst hik
    rw [List.getElem?_set_self (by omega)] at hw
    cases hw
    exact g3 (i, mv P v) List.mem_cons_self
  · rw [List.getElem?_set_ne (fun e => hik e.symm)] at hw
    refine g3 (i, mv P w) (List.mem_cons_of_mem _ (List.mem_filter.mpr ⟨List.mem_filterMap.mpr ⟨(some w, i), ?_, rfl⟩, ?_⟩))
    · exact List.mem_iff_getElem?.mpr ⟨i, by rw [List.getElem?_zipIdx, hw]; simp⟩
    · have hc : (mv P w).category = 1 := by
        cases w with
        | inl x => rfl
        | inr r => cases r <;> rfl
      simp [hik, hc]
def lvO (P : PP) (ls : Ls) : List (Nat × Value) := ls.zipIdx.filterMap (fun (q : Option AV × Nat) => q.1.map (fun w => (q.2, mv P w)))
theorem LR_has {P : PP} {lsM : Array Slot} {nL : Nat} {ls : Ls} (h : LR P lsM nL ls) : lv_has lsM nL (lvO P ls) := by
  obtain ⟨h1, h2, h3, h4⟩ := h
  refine ⟨h1, h2, fun q hq => ?_⟩
  obtain ⟨⟨o, i⟩, hz, hm⟩ := List.mem_filterMap.mp hq
  obtain ⟨j, hj⟩ := List.mem_iff_getElem?.mp hz
  rw [List.getElem?_zipIdx] at hj
  simp only [Nat.zero_add, Option.map_eq_some_iff, Prod.mk.injEq] at hj
  obtain ⟨o', ho, rfl, rfl⟩ := hj
  cases o' with
  | none => simp at hm
  | some w =>
    simp only [Option.map_some, Option.some.injEq] at hm
    subst hm
    exact h4 _ w ho
theorem okLs_set {ls : Ls} {k : Nat} {v : AV} (h : okLs ls) (hv : okV v) : okLs (ls.set k (some v)) := by
  intro i w hw
  rw [List.getElem?_set] at hw
  by_cases hki : k = i
  · rw [if_pos hki] at hw
    by_cases hl : k < ls.length
    · rw [if_pos hl] at hw
      cases hw
      exact hv
    · rw [if_neg hl] at hw
      cases hw
  · rw [if_neg hki] at hw
    exact h i w hw
theorem okH_sI {h : HP} {a : Nat} {k v : Int} (hh : okH h) (hv : inR v) : okH (sI h a k v) := by
  intro b j
  show inR (if b = a ∧ j = k then v else hI h b j)
  by_cases hc : b = a ∧ j = k
  · rw [if_pos hc]; exact hv
  · rw [if_neg hc]; exact hh b j
theorem okH_sCp {h : HP} {a b : Nat} {sp dp n : Int} (hh : okH h) : okH (sCp h a sp b dp n) := by
  intro c j
  show inR (if c = b ∧ dp ≤ j ∧ j < dp + n then hI h a (sp + (j - dp)) else hI h c j)
  by_cases hc : c = b ∧ dp ≤ j ∧ j < dp + n
  · rw [if_pos hc]; exact hh _ _
  · rw [if_neg hc]; exact hh _ _
theorem okH_sNew {h : HP} {t : Nat × Nat} {n : Nat} (hh : okH h) : okH (sNew h t n) := by
  intro b j
  show inR (if b = hZ h then 0 else hI h b j)
  by_cases hc : b = hZ h
  · rw [if_pos hc]; exact inR_0
  · rw [if_neg hc]; exact hh _ _
end
section
def Fx (G : GG) (p : Program) (s : State) (m : MethodId) (args : Array Value) (meth : Method) (c : Code) (y : Nat) : Prop :=
  p.tables.exec = Jvm.exec ∧ c.code = hBy y ∧ c.maxLocals = hMx y ∧ s.vm.findClass (hNm y).cls = some m.cls ∧ (∀ w ∈ evT, w.before args s = true) ∧ WK G s ∧ ((hNm y).name = "<init>" → meth.name = "<init>")
def Cg (G : GG) (s : State) (y : Nat) (H : Heap) (locs : List Loc) (lsM : Array Slot) (ls : Ls) (st : List AV) (h : HP) : Prop :=
  LR G.2.2 lsM (hMx y) ls ∧ okLs ls ∧ okSt st ∧ okH h ∧ Rep G h H ∧ va_S (frA G.2.2) s.heap H locs
theorem okSt_cons {v : AV} {r : List AV} : okSt (v :: r) ↔ okV v ∧ okSt r := List.forall_mem_cons
theorem Cg_st {G : GG} {s : State} {y : Nat} {H : Heap} {locs : List Loc} {lsM : Array Slot} {ls : Ls} {st st' : List AV} {h : HP} (hC : Cg G s y H locs lsM ls st h) (h' : okSt st') : Cg G s y H locs lsM ls st' h := ⟨hC.1, hC.2.1, h', hC.2.2.2⟩
theorem okI_spec {y pos : Nat} {i : Ins} (h : okI y pos i = true) : decode (hBy y) (pcO y pos) = .ok (i.1, iLen i) ∧ (flows i = true → pcO y (pos + 1) = pcO y pos + iLen i) ∧ lnkO y pos i = true := by
  unfold okI at h
  simp only [Bool.and_eq_true, decide_eq_true_eq] at h
  refine ⟨h.1.1, fun hf => ?_, h.2⟩
  have := h.1.2
  rw [if_pos hf] at this
  exact of_decide_eq_true this
theorem e_psh_some {lo hi n : Int} {pos : Nat} {ls : Ls} {st : List AV} {h : HP} {c1 : Cf} (e : e_psh lo hi n pos ls st h = some c1) : (lo ≤ n ∧ n ≤ hi) ∧ c1 = (pos + 1, ls, .inl n :: st, h) := by
  unfold e_psh at e
  split at e
  · rename_i hc; cases e; exact ⟨hc, rfl⟩
  · cases e
theorem e_bin_some {f : Int → Int → Int} {pos : Nat} {ls : Ls} {st : List AV} {h : HP} {c1 : Cf} (e : e_bin f pos ls st h = some c1) : ∃ x y r, st = .inl y :: .inl x :: r ∧ c1 = (pos + 1, ls, .inl (f x y) :: r, h) := by
  unfold e_bin at e
  split at e
  · cases e; exact ⟨_, _, _, rfl, rfl⟩
  · cases e
theorem e_div_some {f : Int → Int → Int} {pos : Nat} {ls : Ls} {st : List AV} {h : HP} {c1 : Cf} (e : e_div f pos ls st h = some c1) : ∃ x y r, st = .inl y :: .inl x :: r ∧ ¬ y = 0 ∧ c1 = (pos + 1, ls, .inl (f x y) :: r, h) := by
  unfold e_div at e
  split at e
  · split at e
    · cases e
    · rename_i h0; cases e; exact ⟨_, _, _, rfl, h0, rfl⟩
  · cases e
theorem e_un_some {f : Int → Int} {pos : Nat} {ls : Ls} {st : List AV} {h : HP} {c1 : Cf} (e : e_un f pos ls st h = some c1) : ∃ x r, st = .inl x :: r ∧ c1 = (pos + 1, ls, .inl (f x) :: r, h) := by
  unfold e_un at e
  split at e
  · cases e; exact ⟨_, _, rfl, rfl⟩
  · cases e
theorem e_if_some {cd : ClassFile.Cond} {t pos : Nat} {ls : Ls} {st : List AV} {h : HP} {c1 : Cf} (e : e_if cd t pos ls st h = some c1) : ∃ x r, st = .inl x :: r ∧ c1 = (if cndZ cd x 0 = true then t else pos + 1, ls, r, h) := by
  unfold e_if at e
  split at e
  · cases e; exact ⟨_, _, rfl, rfl⟩
  · cases e
theorem e_icmp_some {cd : ClassFile.Cond} {t pos : Nat} {ls : Ls} {st : List AV} {h : HP} {c1 : Cf} (e : e_icmp cd t pos ls st h = some c1) : ∃ x y r, st = .inl y :: .inl x :: r ∧ c1 = (if cndZ cd x y = true then t else pos + 1, ls, r, h) := by
  unfold e_icmp at e
  split at e
  · cases e; exact ⟨_, _, _, rfl, rfl⟩
  · cases e
theorem e_nn_some {t pos : Nat} {ls : Ls} {st : List AV} {h : HP} {c1 : Cf} (e : e_nn t pos ls st h = some c1) : ∃ o r, st = .inr o :: r ∧ c1 = (if o = none then pos + 1 else t, ls, r, h) := by
  unfold e_nn at e
  split at e
  · cases e; exact ⟨_, _, rfl, rfl⟩
  · cases e
theorem e_tsw_some {lo hi : Int} {sw : List Nat} {ls : Ls} {st : List AV} {h : HP} {c1 : Cf} (e : e_tsw lo hi sw ls st h = some c1) : ∃ x r t, st = .inl x :: r ∧ sw[if x < lo ∨ hi < x then 0 else (x - lo).toNat + 1]? = some t ∧ c1 = (t, ls, r, h) := by
  unfold e_tsw at e
  split at e
  · split at e
    · rename_i ht; cases e; exact ⟨_, _, _, rfl, ht, rfl⟩
    · cases e
  · cases e
theorem e_lsw_some {ps : List (Int × Int)} {sw : List Nat} {ls : Ls} {st : List AV} {h : HP} {c1 : Cf} (e : e_lsw ps sw ls st h = some c1) : ∃ x r t, st = .inl x :: r ∧ sw[e_key x ps 1]? = some t ∧ c1 = (t, ls, r, h) := by
  unfold e_lsw at e
  split at e
  · split at e
    · rename_i ht; cases e; exact ⟨_, _, _, rfl, ht, rfl⟩
    · cases e
  · cases e
theorem e_load_i {k pos : Nat} {ls : Ls} {st : List AV} {h : HP} {c1 : Cf} (e : e_load k pos ls st h true = some c1) : ∃ x, ls[k]? = some (some (.inl x)) ∧ c1 = (pos + 1, ls, .inl x :: st, h) := by
  unfold e_load at e
  split at e
  · rename_i ht; simp only [if_true] at e; cases e; exact ⟨_, ht, rfl⟩
  · simp at e
  · cases e
theorem e_load_a {k pos : Nat} {ls : Ls} {st : List AV} {h : HP} {c1 : Cf} (e : e_load k pos ls st h false = some c1) : ∃ x, ls[k]? = some (some (.inr x)) ∧ c1 = (pos + 1, ls, .inr x :: st, h) := by
  unfold e_load at e
  split at e
  · simp at e
  · rename_i ht; simp at e; cases e; exact ⟨_, ht, rfl⟩
  · cases e
theorem e_store_i {k pos : Nat} {ls : Ls} {st : List AV} {h : HP} {c1 : Cf} (e : e_store k pos ls st h true = some c1) : ∃ x r, st = .inl x :: r ∧ k < ls.length ∧ c1 = (pos + 1, ls.set k (some (.inl x)), r, h) := by
  unfold e_store at e
  split at e
  · split at e
    · rename_i ht; cases e; exact ⟨_, _, rfl, ht.2, rfl⟩
    · cases e
  · simp at e
  · cases e
theorem e_store_a {k pos : Nat} {ls : Ls} {st : List AV} {h : HP} {c1 : Cf} (e : e_store k pos ls st h false = some c1) : ∃ x r, st = .inr x :: r ∧ k < ls.length ∧ c1 = (pos + 1, ls.set k (some (.inr x)), r, h) := by
  unfold e_store at e
  split at e
  · simp at e
  · split at e
    · rename_i ht; cases e; exact ⟨_, _, rfl, ht.2, rfl⟩
    · cases e
  · cases e
theorem e_iinc_some {k : Nat} {n : Int} {pos : Nat} {ls : Ls} {st : List AV} {h : HP} {c1 : Cf} (e : e_iinc k n pos ls st h = some c1) : ∃ x, ls[k]? = some (some (.inl x)) ∧ k < ls.length ∧ c1 = (pos + 1, ls.set k (some (.inl (wr (x + n)))), st, h) := by
  unfold e_iinc at e
  split at e
  · rename_i ht
    split at e
    · rename_i hl; cases e; exact ⟨_, ht, hl, rfl⟩
    · cases e
  · cases e
theorem e_get_some {ci k pos : Nat} {ls : Ls} {st : List AV} {h : HP} {c1 : Cf} (e : e_get ci k pos ls st h = some c1) : ∃ a r, st = .inr (some a) :: r ∧ ((hTy h a).1 = ci + 1 ∧ k < fcn ci) ∧ c1 = (pos + 1, ls, (if fkd ci k = 1 then .inr (hR h a k) else .inl (hI h a k)) :: r, h) := by
  unfold e_get at e
  split at e
  · split at e
    · rename_i ht; cases e; exact ⟨_, _, rfl, ht, rfl⟩
    · cases e
  · cases e
theorem e_put_some {ci k pos : Nat} {ls : Ls} {st : List AV} {h : HP} {c1 : Cf} (e : e_put ci k pos ls st h = some c1) : ∃ v a r, st = v :: .inr (some a) :: r ∧ (hTy h a).1 = ci + 1 ∧ k < fcn ci ∧ 3 ≤ a ∧
    ((∃ x, v = .inl x ∧ fkd ci k ≠ 1 ∧ (fkd ci k = 2 → 0 ≤ x ∧ x ≤ 65535) ∧ (fkd ci k = 3 → 0 ≤ x ∧ x ≤ 1) ∧ c1 = (pos + 1, ls, r, sI h a k x)) ∨ ∃ x, v = .inr x ∧ fkd ci k = 1 ∧ c1 = (pos + 1, ls, r, sR h a k x)) := by
  unfold e_put at e
  split at e
  · split at e
    · rename_i ht; cases e; exact ⟨_, _, _, rfl, ht.1, ht.2.1, ht.2.2.1, Or.inl ⟨_, rfl, ht.2.2.2.1, ht.2.2.2.2.1, ht.2.2.2.2.2, rfl⟩⟩
    · cases e
  · split at e
    · rename_i ht; cases e; exact ⟨_, _, _, rfl, ht.1, ht.2.1, ht.2.2.1, Or.inr ⟨_, rfl, ht.2.2.2, rfl⟩⟩
    · cases e
  · cases e
theorem e_ald_some {t pos : Nat} {ls : Ls} {st : List AV} {h : HP} {c1 : Cf} (e : e_ald t pos ls st h = some c1) : ∃ j a r, st = .inl j :: .inr (some a) :: r ∧ ((hTy h a).1 = t ∧ 0 ≤ j ∧ j < (hTy h a).2) ∧ c1 = (pos + 1, ls, .inl (hI h a j) :: r, h) := by
  unfold e_ald at e
  split at e
  · split at e
    · rename_i ht; cases e; exact ⟨_, _, _, rfl, ht, rfl⟩
    · cases e
  · cases e
theorem e_aldq_some {pos : Nat} {ls : Ls} {st : List AV} {h : HP} {c1 : Cf} (e : e_aldq pos ls st h = some c1) : ∃ j a r, st = .inl j :: .inr (some a) :: r ∧ (rfO (hTy h a).1 = true ∧ 0 ≤ j ∧ j < (hTy h a).2) ∧ c1 = (pos + 1, ls, .inr (hR h a j) :: r, h) := by
  unfold e_aldq at e
  split at e
  · split at e
    · rename_i ht; cases e; exact ⟨_, _, _, rfl, ht, rfl⟩
    · cases e
  · cases e
theorem e_ast_some {t : Nat} {mx : Int} {pos : Nat} {ls : Ls} {st : List AV} {h : HP} {c1 : Cf} (e : e_ast t mx pos ls st h = some c1) : ∃ x j a r, st = .inl x :: .inl j :: .inr (some a) :: r ∧ ((hTy h a).1 = t ∧ 0 ≤ j ∧ j < (hTy h a).2 ∧ 3 ≤ a ∧ (mx = 0 ∨ 0 ≤ x ∧ x ≤ mx)) ∧ c1 = (pos + 1, ls, r, sI h a j x) := by
  unfold e_ast at e
  split at e
  · split at e
    · rename_i ht; cases e; exact ⟨_, _, _, _, rfl, ht, rfl⟩
    · cases e
  · cases e
theorem e_astq_some {pos : Nat} {ls : Ls} {st : List AV} {h : HP} {c1 : Cf} (e : e_astq pos ls st h = some c1) : ∃ v j a r, st = .inr (some v) :: .inl j :: .inr (some a) :: r ∧ (rfO (hTy h a).1 = true ∧ (hTy h v).1 + 199 = (hTy h a).1 ∧ 0 ≤ j ∧ j < (hTy h a).2 ∧ 3 ≤ a) ∧ c1 = (pos + 1, ls, r, sR h a j (some v)) := by
  unfold e_astq at e
  split at e
  · split at e
    · rename_i ht; cases e; exact ⟨_, _, _, _, rfl, ht, rfl⟩
    · cases e
  · cases e
theorem e_len_some {pos : Nat} {ls : Ls} {st : List AV} {h : HP} {c1 : Cf} (e : e_len pos ls st h = some c1) : ∃ a r, st = .inr (some a) :: r ∧ (((hTy h a).1 = 100 ∨ (hTy h a).1 = 101 ∨ rfO (hTy h a).1 = true) ∧ (hTy h a).2 < 2147483648) ∧ c1 = (pos + 1, ls, .inl ((hTy h a).2 : Int) :: r, h) := by
  unfold e_len at e
  split at e
  · split at e
    · rename_i ht; cases e; exact ⟨_, _, rfl, ht, rfl⟩
    · cases e
  · cases e
theorem e_newa_some {t pos : Nat} {ls : Ls} {st : List AV} {h : HP} {c1 : Cf} (e : e_newa t pos ls st h = some c1) : ∃ n r, st = .inl n :: r ∧ (0 ≤ n ∧ n ≤ 100000) ∧ c1 = (pos + 1, ls, .inr (some (hZ h)) :: r, sNew h (t, n.toNat) n.toNat) := by
  unfold e_newa at e
  split at e
  · split at e
    · rename_i ht; cases e; exact ⟨_, _, rfl, ht, rfl⟩
    · cases e
  · cases e
theorem e_cpy_some {d pos : Nat} {ls : Ls} {st : List AV} {h : HP} {c1 : Cf} (e : e_cpy d pos ls st h = some c1) : ∃ n dp b sp a r, st = .inl n :: .inl dp :: .inr (some b) :: .inl sp :: .inr (some a) :: r ∧
    (1 ≤ d ∧ r.length ≤ 8 ∧ (hTy h a).1 = 100 ∧ (hTy h b).1 = 100 ∧ 3 ≤ b ∧ 3 ≤ a ∧ 0 ≤ sp ∧ 0 ≤ dp ∧ 0 ≤ n ∧ sp + n ≤ (hTy h a).2 ∧ dp + n ≤ (hTy h b).2) ∧ c1 = (pos + 1, ls, r, sCp h a sp b dp n) := by
  unfold e_cpy at e
  split at e
  · split at e
    · rename_i ht; cases e; exact ⟨_, _, _, _, _, _, rfl, ht, rfl⟩
    · cases e
  · cases e
theorem e_obj_some {d pos : Nat} {ls : Ls} {st : List AV} {h : HP} {c1 : Cf} (e : e_obj d pos ls st h = some c1) : ∃ a r, st = .inr (some a) :: r ∧ (1 ≤ d ∧ r.length ≤ 8) ∧ c1 = (pos + 1, ls, r, h) := by
  unfold e_obj at e
  split at e
  · split at e
    · rename_i ht; cases e; exact ⟨_, _, rfl, ht, rfl⟩
    · cases e
  · cases e
theorem e_dup_some {pos : Nat} {ls : Ls} {st : List AV} {h : HP} {c1 : Cf} (e : e_dup pos ls st h = some c1) : ∃ v r, st = v :: r ∧ c1 = (pos + 1, ls, v :: v :: r, h) := by
  unfold e_dup at e
  split at e
  · cases e; exact ⟨_, _, rfl, rfl⟩
  · cases e
theorem e_dup2_some {pos : Nat} {ls : Ls} {st : List AV} {h : HP} {c1 : Cf} (e : e_dup2 pos ls st h = some c1) : ∃ v w r, st = v :: w :: r ∧ c1 = (pos + 1, ls, v :: w :: v :: w :: r, h) := by
  unfold e_dup2 at e
  split at e
  · cases e; exact ⟨_, _, _, rfl, rfl⟩
  · cases e
theorem e_dupx1_some {pos : Nat} {ls : Ls} {st : List AV} {h : HP} {c1 : Cf} (e : e_dupx1 pos ls st h = some c1) : ∃ v w r, st = v :: w :: r ∧ c1 = (pos + 1, ls, v :: w :: v :: r, h) := by
  unfold e_dupx1 at e
  split at e
  · cases e; exact ⟨_, _, _, rfl, rfl⟩
  · cases e
theorem mv_cat {P : PP} (v : AV) : (mv P v).category = 1 := by
  cases v with
  | inl x => rfl
  | inr r => cases r <;> rfl
theorem cat_sum {P : PP} (r : List AV) : ((r.map (mv P)).map fun v => v.category).sum = r.length := by
  induction r with
  | nil => rfl
  | cons a r ih => simp only [List.map_cons, List.sum_cons, List.length_cons, mv_cat, ih]; omega
theorem WK_K {G : GG} {s : State} (h : WK G s) (k : Nat) (hk : okK k = true) : va_K G.1 ev_cl [(G.2.1 k, arT k)] s := by
  refine ⟨h.1.1, fun j q hq => ?_⟩
  have hj : j < 1 := (List.getElem?_eq_some_iff.mp hq).1
  obtain rfl : j = 0 := by omega
  cases hq
  exact h.2.1 k hk
end
section
section AD
variable {G : GG} {p : Program} {l : Launch} {e : Env} {R : Room} {s : State} {m : MethodId} {args : Array Value} {below : List Frame} {meth : Method} {c : Code} {H : Heap} {locs : List Loc} {cells slots : Nat} {Q : State → Prop}
variable {cc : ByteArray} {pc : Nat} {lsM : Array Slot} {rest : List Value} {own : String}
/-- a field is written: all other cells stay -/
theorem a_put {ci k index : Nat} {a : Nat} {fs : List Value} {v : Value} {A : Nat → Prop} {H0 : Heap} (hx : p.tables.exec = Jvm.exec) (hb : c.code = cc) (hts : ∀ w ∈ evT, w.before args s = true) (hown : s.vm.findClass own = some m.cls) (hK : va_K G.1 ev_cl [] s)
    (hat : va_at G.1 ev_cl (a, .inr (ci, fs)) H) (hS : va_S A H0 H locs) (hA : A a) (hk : k < fcn ci) (hlen : fs.length = fcn ci)
    (hlk : if (fldT ci k).2.2.2 = true then Jvm.Cond.fieldLink own index (fldC ci) (fldT ci k).2.1 (fldT ci k).2.2.1 ∈ evT ∧ meth.name = "<init>" ∧ own = fldC ci
      else (Jvm.Cond.fieldLink own index (fldC ci) (fldT ci k).2.1 (fldT ci k).2.2.1 ∈ evT ∨ Jvm.Cond.fieldLinkNest own index (fldC ci) (fldT ci k).2.1 (fldT ci k).2.2.1 "PhasorTree" ∈ evT))
    (hn : narrow (fldY ci k) v = v) (hfit : fits (fldY ci k) v = true) (hdg : decode cc pc = .ok (.putfield index, 3))
    (kk : ∀ (H1 : Heap) (locs1 : List Loc), va_at G.1 ev_cl (a, .inr (ci, fs.set k v)) H1 → H1.size = H.size → (∀ q, q ≠ a → H1[q]? = H[q]?) → va_S A H0 H1 locs1 → W p l e R s m args below meth c H1 locs1 cells slots Q (F0 m (pc + 3) lsM rest)) :
    W p l e R s m args below meth c H locs cells slots Q (F0 m pc lsM (v :: .ref a :: rest)) := by
  obtain ⟨hc, hin, hty, hnm, -, hdecl⟩ := clF ci (fcn_le hk)
  have hap := va_apart (own := own) hts hin (fldY ci) hty hnm hK hc
  obtain ⟨r, h1, cell, q1, q2, q3, q4⟩ := hat
  have hr : r = (fldC ci, fldT ci, fcn ci) := Option.some.inj (h1.symm.trans hc)
  subst hr
  obtain ⟨hSl, hfc, kC, hkC, hkind⟩ := hK.1 ci _ hc
  obtain ⟨cf, kf, fi, f, hi, hsl⟩ := hSl k hk
  have hi' : s.fieldFound? (fldC ci) (fldT ci k).2.1 (fldT ci k).2.2.1 = some (cf, kf, fi, f) := by
    have h9 := hi
    dsimp only at h9
    rw [hdecl k hk] at h9
    exact h9
  have hlay := hts _ (hin _ (u_in_lay hk))
  have hst := (u_facts hfc hkC (u_lays hts hin hk) hi).1
  have fin : ∀ (H' : Heap) (locs1 : List Loc), locs1 = locs ++ [⟨a, f.slot⟩] → H'[a]? = some (cell.setSlot f.slot v) → H'.size = H.size → (∀ q, q ≠ a → H'[q]? = H[q]?) → W p l e R s m args below meth c H' locs1 cells slots Q (F0 m (pc + 3) lsM rest) := by
    intro H' locs1 hl e1 e2 e3
    subst hl
    rw [hsl] at e1
    refine kk H' _ ⟨_, hc, t_OB.to (V := updV (vp_V fs) k v) ⟨_, e1, q2, q3, t_set q4 hap hk v⟩ (fun j _ => vp_updV_set (by rw [hlen]; exact hk) v j)⟩ e2 e3 (hS.put e2 e3 hA)
  by_cases hf : (fldT ci k).2.2.2 = true
  · rw [if_pos hf] at hlk
    obtain ⟨hl1, hl2, hl3⟩ := hlk
    unfold u_lay at hlay
    rw [if_pos hf] at hlay
    have hcf : m.cls = cf := by
      obtain ⟨_, _, c', _, _, _, -, -, hf', -, -, -, hown2, -⟩ := Cond.laysFinal_spec hlay
      have e1 : c' = cf := by have := hi.symm.trans hf'; simp at this; exact this.1.symm
      rw [hdecl k hk, ← hl3] at hown2
      rw [← e1]; exact Option.some.inj (hown.symm.trans hown2)
    have h6 := u_fits hfc hkC hkind (Or.inr hlay) hi (hty k hk) hn hfit
    exact W.putFinK hx hb hown (hts _ hl1) hi' hst hcf hl2 (by rw [q2]; exact h6) q1 q3 (by rw [hsl]; exact k2_hasslot (q4 k hk)) rfl rfl hdg fun H' e1 e2 e3 => fin H' _ rfl e1 e2 e3
  · rw [if_neg hf] at hlk
    unfold u_lay at hlay
    rw [if_neg hf] at hlay
    have h6 := u_store hfc hkC hkind hlay hi (hty k hk) hn hfit
    rcases hlk with hl | hl
    · exact W.putK hx hb (f := f) ⟨hown, hts _ hl, ⟨_, _, _, hi'⟩, hst⟩ (by rw [q2]; exact h6) q1 q3 (by rw [hsl]; exact k2_hasslot (q4 k hk)) rfl rfl hdg fun H' e1 e2 e3 => fin H' _ rfl e1 e2 e3
    · exact va_WputK hx hb (f := f) hown (hts _ hl) hi' hst (by rw [q2]; exact h6) q1 q3 (by rw [hsl]; exact k2_hasslot (q4 k hk)) rfl rfl hdg fun H' e1 e2 e3 => fin H' _ rfl e1 e2 e3
theorem a_get {ci k index : Nat} {a : Nat} {fs : List Value} {v : Value} (hx : p.tables.exec = Jvm.exec) (hb : c.code = cc) (hts : ∀ w ∈ evT, w.before args s = true) (hown : s.vm.findClass own = some m.cls) (hK : va_K G.1 ev_cl [] s)
    (hat : va_at G.1 ev_cl (a, .inr (ci, fs)) H) (hk : k < fcn ci)
    (hlk : Jvm.Cond.fieldLink own index (fldC ci) (fldT ci k).2.1 (fldT ci k).2.2.1 ∈ evT ∨ Jvm.Cond.fieldLinkNest own index (fldC ci) (fldT ci k).2.1 (fldT ci k).2.2.1 "PhasorTree" ∈ evT)
    (hv : fs[k]? = some v) (hdg : decode cc pc = .ok (.getfield index, 3))
    (kk : W p l e R s m args below meth c H locs cells slots Q (F0 m (pc + 3) lsM (v :: rest))) :
    W p l e R s m args below meth c H locs cells slots Q (F0 m pc lsM (.ref a :: rest)) := by
  obtain ⟨hc, hin, hty, hnm, -, hdecl⟩ := clF ci (fcn_le hk)
  have hsame : ∀ x, s.fieldFound? (fldT ci k).1 (fldT ci k).2.1 (fldT ci k).2.2.1 = some x → s.fieldFound? (fldC ci) (fldT ci k).2.1 (fldT ci k).2.2.1 = some x := fun x hq => by
    rw [hdecl k hk] at hq
    exact hq
  rcases hlk with hl | hl
  · exact va_get hx hb hts hin hown hK (va_P1 hat) 0 rfl hc k hk (hts _ hl) hsame hv hdg kk
  · exact va_getN hx hb hts hin hown hK (va_P1 hat) 0 rfl hc k hk (hts _ hl) hsame hv hdg kk
/-- a place of an array of ints (or chars) is written -/
theorem a_ast {t : Nat} {a n : Nat} {f : Nat → Int32} {i x : Int32} {A : Nat → Prop} {H0 : Heap} (hx : p.tables.exec = Jvm.exec) (hb : c.code = cc) (ht : t = 0 ∨ t = 1) (hAr : ArrOfT s (G.2.1 t) (arT t))
    (hat : va_at G.1 ev_cl (a, .inl (G.2.1 t, n, .inl f)) H) (hS : va_S A H0 H locs) (hA : A a) (hin : vp_in i n) (hch : t = 1 → vp_nar .char x = x)
    (hdg : decode cc pc = .ok (if t = 0 then .iastore else .castore, 1))
    (kk : ∀ (H1 : Heap) (locs1 : List Loc), va_at G.1 ev_cl (a, .inl (G.2.1 t, n, .inl (upd f i.toNatClampNeg x))) H1 → H1.size = H.size → (∀ q, q ≠ a → H1[q]? = H[q]?) → va_S A H0 H1 locs1 → W p l e R s m args below meth c H1 locs1 cells slots Q (F0 m (pc + 1) lsM rest)) :
    W p l e R s m args below meth c H locs cells slots Q (F0 m pc lsM (.int x :: .int i :: .ref a :: rest)) := by
  have hin2 : ¬ (i < 0 ∨ (arrV (G.2.1 t) n (fun j => .int (f j))).slots.size ≤ i.toNatClampNeg) := by rw [arrV_size]; exact hin
  have fin : ∀ (H' : Heap) (y : Int32), y = x → H'[a]? = some ((arrV (G.2.1 t) n (fun j => .int (f j))).setSlot i.toNatClampNeg (.int y)) → H'.size = H.size → (∀ q, q ≠ a → H'[q]? = H[q]?) → W p l e R s m args below meth c H' (locs ++ [⟨a, i.toNatClampNeg⟩]) cells slots Q (F0 m (pc + 1) lsM rest) := by
    intro H' y hy e1 e2 e3
    subst hy
    refine kk H' _ ?_ e2 e3 (hS.put e2 e3 hA)
    show H'[a]? = some (vp_cell _ _)
    rw [e1, vp_cell_i, arrV_store]
    congr 2
    funext q
    by_cases hq : q = i.toNatClampNeg
    · subst hq
      simp [updV, upd]
    · simp [updV, upd, hq]
  rcases ht with rfl | rfl
  · exact W.iast hx hb hat (hAr n (fun j => .int (f j))) (fun q => by cases q) hin2 rfl rfl hdg fun H1 e1 z oq => fin H1 x rfl e1 z oq
  · refine W.cast hx hb hat (hAr n (fun j => .int (f j))) (fun q => by cases q) hin2 rfl rfl hdg fun H1 e1 z oq => ?_
    exact fin H1 _ (hch rfl) e1 z oq
theorem a_astq {ci : Nat} {a n v : Nat} {vs : List Value} {f : Nat → Option Nat} {i : Int32} {A : Nat → Prop} {H0 : Heap} (hx : p.tables.exec = Jvm.exec) (hb : c.code = cc) (hc8 : ci < 8) (hK : va_K G.1 ev_cl [] s) (hRA : va_RA s (G.2.1 (ci + 2)) (.object (fldC ci)))
    (hat : va_at G.1 ev_cl (a, .inl (G.2.1 (ci + 2), n, .inr (.inr (.inr (.inr f))))) H) (hv : va_at G.1 ev_cl (v, .inr (ci, vs)) H) (hS : va_S A H0 H locs) (hA : A a) (hin : vp_in i n)
    (hdg : decode cc pc = .ok (.aastore, 1))
    (kk : ∀ (H1 : Heap) (locs1 : List Loc), va_at G.1 ev_cl (a, .inl (G.2.1 (ci + 2), n, .inr (.inr (.inr (.inr (va_up f i.toNatClampNeg (some v))))))) H1 → H1.size = H.size → (∀ q, q ≠ a → H1[q]? = H[q]?) → va_S A H0 H1 locs1 → W p l e R s m args below meth c H1 locs1 cells slots Q (F0 m (pc + 1) lsM rest)) :
    W p l e R s m args below meth c H locs cells slots Q (F0 m pc lsM (.ref v :: .int i :: .ref a :: rest)) := by
  have hlt : i.toNatClampNeg < n := Nat.not_le.mp fun q => hin (Or.inr q)
  have h0 : ¬ i < 0 := fun q => hin (Or.inl q)
  obtain ⟨hc, -⟩ := clF ci hc8
  obtain ⟨r', hr', cellV, g1, g2, g3, -⟩ := hv
  have hcls := (hK.1 ci _ hc).2
  obtain ⟨kA, comp, k1, k2, k3, -⟩ := hRA
  have hcomp : comp = G.1.1 ci := Option.some.inj (k3.symm.trans hcls.1)
  subst hcomp
  obtain ⟨kC, hkC, -⟩ := hcls.2
  refine W.aast hx hb hat (fun q h => by cases h) (fun h => by cases h) k1 k2 rfl hkC ⟨h0, by show _ < (arrV _ _ _).slots.size; rw [arrV_size]; exact hlt⟩ g1 (fun q h => by rw [g3] at h; cases h) (by rw [g2]; exact hkC) (by rw [g2]; exact va_assign hcls) rfl rfl hdg fun H1 e1 z oq => ?_
  refine kk H1 _ ?_ z oq (hS.put z oq hA)
  show H1[a]? = some (vp_cell _ _)
  rw [e1]
  rw [vp_cell_q, vp_cell_q, arrV_store]
  congr 2
  funext q
  by_cases hq : q = i.toNatClampNeg
  · subst hq
    simp [updV, va_up, va_rf]
  · simp [updV, va_up, hq]
theorem a_cpy {a0 a n0 n1 index : Nat} {f g : Nat → Int32} {sp dp n : Int32} {A : Nat → Prop} {H0 : Heap} (hx : p.tables.exec = Jvm.exec) (hb : c.code = cc) (hml : c.maxLocals = lsM.size) (hts : ∀ w ∈ evT, w.before args s = true) (hown : s.vm.findClass own = some m.cls) (hlink : Jvm.Cond.methodLink own index arraycopyName ∈ evT)
    (hAr : ArrOfT s (G.2.1 0) .int) (ha0 : va_at G.1 ev_cl (a0, .inl (G.2.1 0, n0, .inl f)) H) (ha1 : va_at G.1 ev_cl (a, .inl (G.2.1 0, n1, .inl g)) H) (hS : va_S A H0 H locs) (hA : A a)
    (h1 : ¬ sp < 0) (h2 : ¬ dp < 0) (h3 : ¬ n < 0) (h4 : sp.toNatClampNeg + n.toNatClampNeg ≤ n0) (h5 : dp.toNatClampNeg + n.toNatClampNeg ≤ n1)
    (hframes : 1 ≤ R.frames) (hlocals : (rest.map fun v => v.category).sum + (nativeFrameWords "java/lang/System" "arraycopy" 5 + 11) ≤ R.locals) (hdg : decode cc pc = .ok (.invokestatic index, 3))
    (kk : ∀ (H1 : Heap) (locs1 : List Loc), va_at G.1 ev_cl (a, .inl (G.2.1 0, n1, .inl (va_cpy f g sp.toNatClampNeg dp.toNatClampNeg n.toNatClampNeg))) H1 → H1.size = H.size → (∀ q, q ≠ a → H1[q]? = H[q]?) → va_S A H0 H1 locs1 → W p l e R s m args below meth c H1 locs1 cells slots Q (F0 m (pc + 3) lsM rest)) :
    W p l e R s m args below meth c H locs cells slots Q (F0 m pc lsM (.int n :: .int dp :: .ref a :: .int sp :: .ref a0 :: rest)) := by
  have nn : ∀ z : Int32, ¬ z < 0 → z.toInt = (z.toNatClampNeg : Int) := by
    intro z hz
    have hz0 : (0 : Int) ≤ z.toInt := by
      have := Int32.not_lt.mp hz
      simpa using Int32.le_iff_toInt_le.mp this
    show z.toInt = ((z.toInt.toNat : Nat) : Int)
    omega
  intro T hT X
  have hc0 : H[a0]? = some (vp_cell (G.2.1 0) (n0, .inl f)) := ha0
  have hc1 : H[a]? = some (vp_cell (G.2.1 0) (n1, .inl g)) := ha1
  obtain ⟨-, k0, hk0, cm0, hkk0⟩ := hAr n0 (fun j => .int (f j))
  obtain ⟨-, k1, hk1, cm1, hkk1⟩ := hAr n1 (fun j => .int (g j))
  obtain ⟨vm', X', step⟩ := X.arraycopy hx hown (hts _ hlink) (hts _ clP.2.2.1) (hts _ clP.2.2.2.1) (hts _ clP.2.2.2.2.1) (src := a0) (dst := a) (cs := vp_cell (G.2.1 0) (n0, .inl f)) (cd := vp_cell (G.2.1 0) (n1, .inl g)) (srcPos := sp) (destPos := dp) (n := n) (by rw [hT]; exact hc0) (by rw [hT]; exact hc1)
    (fun _ h => by cases h) (fun _ h => by cases h) (fun h => by cases h) (fun h => by cases h) hk0 hk1 hkk0 hkk1 (by simp [refKind]) h1 h2 h3
    (by rw [nn sp h1, nn n h3]; show ¬ _ > ((arrV (G.2.1 0) n0 (fun j => .int (f j))).slots.size : Int); rw [arrV_size]; omega)
    (by rw [nn dp h2, nn n h3]; show ¬ _ > ((arrV (G.2.1 0) n1 (fun j => .int (g j))).slots.size : Int); rw [arrV_size]; omega)
    (fun vm₁ _ i hi => by
      have e1 : (vp_cell (G.2.1 0) (n0, .inl f)).slots.getD (sp.toNatClampNeg + i) .null = .int (f (sp.toNatClampNeg + i)) := by
        show (arrV (G.2.1 0) n0 (fun j => .int (f j))).slots.getD _ _ = _
        rw [Array.getD_eq_getD_getElem?, arrV_read _ _ (by omega)]
        rfl
      refine ⟨?_, ?_⟩
      · rw [e1]
        rfl
      · rw [e1]
        exact trivial)
    (g := F0 m pc lsM (.int n :: .int dp :: .ref a :: .int sp :: .ref a0 :: rest)) rfl (by rw [hml]) (rest := rest) rfl (by rw [hb]; exact hdg) hframes (by show 2 * 0 + _ + _ ≤ _; omega)
  have e1 : copied (vp_cell (G.2.1 0) (n0, .inl f)) (vp_cell (G.2.1 0) (n1, .inl g)) sp dp n = vp_cell (G.2.1 0) (n1, .inl (va_cpy f g sp.toNatClampNeg dp.toNatClampNeg n.toNatClampNeg)) := va_copied (fun z => .int z) (G.2.1 0) (G.2.1 0) f g h4
  rw [e1] at X' step
  have hl : a < H.size := (Array.getElem?_eq_some_iff.mp hc1).1
  have hheap : ((T.setVm vm').setCell a (vp_cell (G.2.1 0) (n1, .inl (va_cpy f g sp.toNatClampNeg dp.toNatClampNeg n.toNatClampNeg)))).heap = H.setIfInBounds a (vp_cell (G.2.1 0) (n1, .inl (va_cpy f g sp.toNatClampNeg dp.toNatClampNeg n.toNatClampNeg))) := by rw [← hT]; rfl
  have oq : ∀ q : Nat, q ≠ a → (H.setIfInBounds a (vp_cell (G.2.1 0) (n1, .inl (va_cpy f g sp.toNatClampNeg dp.toNatClampNeg n.toNatClampNeg))))[q]? = H[q]? := fun q hq => by simp [Array.getElem?_setIfInBounds, Ne.symm hq]
  obtain ⟨t, a1, b1⟩ := kk _ _ (show (H.setIfInBounds a _)[a]? = some _ by simp [Array.getElem?_setIfInBounds, hl]) (by simp) oq ⟨by simp; exact hS.1, fun q g1 g2 => by
      rw [oq q (fun e => g2 (by rw [e]; exact hA))]
      exact hS.2.1 q g1 g2, fun q hq => by
      rcases List.mem_append.mp hq with h | h
      · exact hS.2.2 q h
      · obtain ⟨z, -, hz⟩ := List.mem_map.mp h
        rw [← hz]
        exact hA⟩ _ hheap X'
  exact ⟨t, step t a1, b1⟩
end AD
end
section
section AD2
variable {G : GG} {p : Program} {l : Launch} {e : Env} {R : Room} {s : State} {m : MethodId} {args : Array Value} {below : List Frame} {meth : Method} {c : Code} {H : Heap} {locs : List Loc} {cells slots : Nat} {Q : State → Prop}
variable {y d pos : Nat} {lsM : Array Slot} {ls : Ls} {st : List AV} {h : HP}
def Kn (G : GG) (p : Program) (l : Launch) (e : Env) (R : Room) (s : State) (m : MethodId) (args : Array Value) (below : List Frame) (meth : Method) (c : Code) (cells slots : Nat) (Q : State → Prop) (y : Nat) (h : HP) (c1 : Cf) : Prop :=
  ∀ (H : Heap) (locs : List Loc) (lsM : Array Slot), Cg G s y H locs lsM c1.2.1 c1.2.2.1 c1.2.2.2 → W p l e R s m args below meth c H locs (cells + (hZ c1.2.2.2 - hZ h)) (slots + (hU c1.2.2.2 - hU h)) Q (F0 m (pcO y c1.1) lsM (c1.2.2.1.map (mv G.2.2)))
theorem Kn_h {t : Nat} {ls' : Ls} {st' : List AV} {h' : HP} (hz : hZ h' = hZ h) (hu : hU h' = hU h) (K : Kn G p l e R s m args below meth c cells slots Q y h (t, ls', st', h')) (hC : Cg G s y H locs lsM ls' st' h') : W p l e R s m args below meth c H locs cells slots Q (F0 m (pcO y t) lsM (st'.map (mv G.2.2))) := by
  have h1 := K H locs lsM hC
  dsimp only at h1
  rw [hz, hu, Nat.sub_self, Nat.sub_self, Nat.add_zero, Nat.add_zero] at h1
  exact h1
theorem Kn_s {t : Nat} {ls' : Ls} {st' : List AV} (K : Kn G p l e R s m args below meth c cells slots Q y h (t, ls', st', h)) (hC : Cg G s y H locs lsM ls' st' h) : W p l e R s m args below meth c H locs cells slots Q (F0 m (pcO y t) lsM (st'.map (mv G.2.2))) := Kn_h rfl rfl K hC
theorem a_if {cd : ClassFile.Cond} {off : Int} {t : Nat} {x : Int} {r : List Value} (hx : p.tables.exec = Jvm.exec) (hb : c.code = hBy y) (hdg : decode (hBy y) (pcO y pos) = .ok (.ifCond cd off, 3)) (hnx : pcO y (pos + 1) = pcO y pos + 3) (ht : (pcO y pos : Int) + off = (pcO y t : Int)) (hxr : inR x)
    (K : W p l e R s m args below meth c H locs cells slots Q (F0 m (pcO y (if cndZ cd x 0 = true then t else pos + 1)) lsM r)) : W p l e R s m args below meth c H locs cells slots Q (F0 m (pcO y pos) lsM (.int (iS x) :: r)) := by
  have e0 : iS x = 0 ↔ x = 0 := iS_eq hxr inR_0
  have l0 : iS x < 0 ↔ x < 0 := iS_lt hxr inR_0
  have g0 : 0 < iS x ↔ 0 < x := iS_lt inR_0 hxr
  have le0 : iS x ≤ 0 ↔ x ≤ 0 := iS_le hxr inR_0
  have ge0 : 0 ≤ iS x ↔ 0 ≤ x := iS_le inR_0 hxr
  cases cd <;> simp only [cndZ, decide_eq_true_eq] at K
  · exact lv_if_eq hx hb hdg ht (fun q => by rw [if_pos (e0.mp q)] at K; exact K) (fun q => by rw [if_neg (fun z => q (e0.mpr z)), hnx] at K; exact K)
  · exact lv_if_ne hx hb hdg ht (fun q => by rw [if_pos (fun z => q (e0.mpr z))] at K; exact K) (fun q => by rw [if_neg (fun z => z (e0.mp q)), hnx] at K; exact K)
  · exact lv_if_lt hx hb hdg ht (fun q => by rw [if_pos (l0.mp q)] at K; exact K) (fun q => by rw [if_neg (fun z => q (l0.mpr z)), hnx] at K; exact K)
  · refine lv_if_ge hx hb hdg ht (fun q => ?_) (fun q => ?_)
    · rw [if_pos (by first | exact ge0.mp q | exact Int.not_lt.mp (fun z => q (l0.mpr z)))] at K; exact K
    · rw [if_neg (by first | exact fun z => q (ge0.mpr z) | exact fun z => absurd (l0.mp q) (Int.not_lt.mpr z) | (intro z; exact q (fun w => absurd (l0.mp w) (Int.not_lt.mpr z)))), hnx] at K; exact K
  · refine lv_if_gt hx hb hdg ht (fun q => ?_) (fun q => ?_)
    · rw [if_pos (by first | exact g0.mp q | exact Int.not_le.mp (fun z => q (le0.mpr z)))] at K; exact K
    · rw [if_neg (by first | exact fun z => q (g0.mpr z) | exact fun z => absurd (le0.mp q) (Int.not_le.mpr z)), hnx] at K; exact K
  · exact lv_if_le hx hb hdg ht (fun q => by rw [if_pos (le0.mp q)] at K; exact K) (fun q => by rw [if_neg (fun z => q (le0.mpr z)), hnx] at K; exact K)
theorem a_icmp {cd : ClassFile.Cond} {off : Int} {t : Nat} {x z : Int} {r : List Value} (hx : p.tables.exec = Jvm.exec) (hb : c.code = hBy y) (hdg : decode (hBy y) (pcO y pos) = .ok (.if_icmp cd off, 3)) (hnx : pcO y (pos + 1) = pcO y pos + 3) (ht : (pcO y pos : Int) + off = (pcO y t : Int)) (hxr : inR x) (hzr : inR z)
    (K : W p l e R s m args below meth c H locs cells slots Q (F0 m (pcO y (if cndZ cd x z = true then t else pos + 1)) lsM r)) : W p l e R s m args below meth c H locs cells slots Q (F0 m (pcO y pos) lsM (.int (iS z) :: .int (iS x) :: r)) := by
  have e0 : iS x = iS z ↔ x = z := iS_eq hxr hzr
  have l0 : iS x < iS z ↔ x < z := iS_lt hxr hzr
  have g0 : iS z < iS x ↔ z < x := iS_lt hzr hxr
  have le0 : iS x ≤ iS z ↔ x ≤ z := iS_le hxr hzr
  have ge0 : iS z ≤ iS x ↔ z ≤ x := iS_le hzr hxr
  cases cd <;> simp only [cndZ, decide_eq_true_eq] at K
  · exact lv_icmp_eq hx hb hdg ht (fun q => by rw [if_pos (e0.mp q)] at K; exact K) (fun q => by rw [if_neg (fun z => q (e0.mpr z)), hnx] at K; exact K)
  · exact lv_icmp_ne hx hb hdg ht (fun q => by rw [if_pos (fun z => q (e0.mpr z))] at K; exact K) (fun q => by rw [if_neg (fun z => z (e0.mp q)), hnx] at K; exact K)
  · exact lv_icmp_lt hx hb hdg ht (fun q => by rw [if_pos (l0.mp q)] at K; exact K) (fun q => by rw [if_neg (fun z => q (l0.mpr z)), hnx] at K; exact K)
  · refine lv_icmp_ge hx hb hdg ht (fun q => ?_) (fun q => ?_)
    · rw [if_pos (by first | exact ge0.mp q | exact Int.not_lt.mp (fun z => q (l0.mpr z)))] at K; exact K
    · rw [if_neg (by first | exact fun z => q (ge0.mpr z) | exact fun z => absurd (l0.mp q) (Int.not_lt.mpr z)), hnx] at K; exact K
  · refine lv_icmp_gt hx hb hdg ht (fun q => ?_) (fun q => ?_)
    · rw [if_pos (by first | exact g0.mp q | exact Int.not_le.mp (fun z => q (le0.mpr z)))] at K; exact K
    · rw [if_neg (by first | exact fun z => q (g0.mpr z) | exact fun z => absurd (le0.mp q) (Int.not_le.mpr z)), hnx] at K; exact K
  · exact lv_icmp_le hx hb hdg ht (fun q => by rw [if_pos (le0.mp q)] at K; exact K) (fun q => by rw [if_neg (fun z => q (le0.mpr z)), hnx] at K; exact K)
theorem tgtsO_at : ∀ (os : List Int) (ts : List Nat) (y pos : Nat), tgtsO y pos os ts = true → ∀ (j t : Nat), ts[j]? = some t → ∃ o, os[j]? = some o ∧ (pcO y pos : Int) + o = (pcO y t : Int)
  | [], [], _, _, _, j, t, ht => by simp at ht
  | [], a :: ts, _, _, h, _, _, _ => by simp [tgtsO] at h
  | o :: os, [], _, _, h, _, _, _ => by simp [tgtsO] at h
  | o :: os, a :: ts, y, pos, h, j, t, ht => by
    simp only [tgtsO, Bool.and_eq_true] at h
    match j, ht with
    | 0, ht =>
      simp only [List.getElem?_cons_zero, Option.some.injEq] at ht
      subst ht
      exact ⟨o, rfl, of_decide_eq_true h.1⟩
    | j + 1, ht =>
      rw [List.getElem?_cons_succ] at ht
      obtain ⟨o', h1, h2⟩ := tgtsO_at os ts y pos h.2 j t ht
      exact ⟨o', by rw [List.getElem?_cons_succ]; exact h1, h2⟩
theorem e_key_off : ∀ (ps : List (Int × Int)) (n : Nat) (d x : Int) (os : List Int), (e_key x ps (n + 1) = 0 ∧ Op.lookupswitch.offset ps d x = d) ∨ ∃ j q, e_key x ps (n + 1) = n + 1 + j ∧ ps[j]? = some q ∧ Op.lookupswitch.offset ps d x = q.2
  | [], n, d, x, _ => Or.inl ⟨rfl, rfl⟩
  | (a, o) :: ps, n, d, x, os => by
    by_cases hx : x = a
    · exact Or.inr ⟨0, (a, o), by simp [e_key, hx], rfl, by rw [Op.lookupswitch.offset_cons, if_pos hx.symm]⟩
    · have e1 : e_key x ((a, o) :: ps) (n + 1) = e_key x ps (n + 1 + 1) := by simp [e_key, hx]
      have e2 : Op.lookupswitch.offset ((a, o) :: ps) d x = Op.lookupswitch.offset ps d x := by rw [Op.lookupswitch.offset_cons, if_neg (fun z => hx z.symm)]
      rw [e1, e2]
      rcases e_key_off ps (n + 1) d x os with h | ⟨j, q, h1, h2, h3⟩
      · exact Or.inl h
      · exact Or.inr ⟨j + 1, q, by rw [h1]; omega, by rw [List.getElem?_cons_succ]; exact h2, h3⟩
theorem hZ_new {h : HP} {t : Nat × Nat} {n : Nat} : hZ (sNew h t n) - hZ h = 1 := Nat.add_sub_cancel_left (n := hZ h) (m := 1)
theorem hU_new {h : HP} {t : Nat × Nat} {n : Nat} : hU (sNew h t n) - hU h = n := Nat.add_sub_cancel_left (n := hU h) (m := n)
theorem va_S_new {A : Nat → Prop} {H0 H1 : Heap} (hS : va_S A H0 H locs) (hz : H1.size = H.size + 1) (o1 : ∀ q, q < H.size → H1[q]? = H[q]?) : va_S A H0 H1 locs :=
  ⟨Nat.le_trans hS.1 (by omega), fun x h1 h2 => (o1 x (Nat.lt_of_lt_of_le h1 hS.1)).trans (hS.2.1 x h1 h2), hS.2.2⟩
theorem Kn_new {t : Nat × Nat} {n : Nat} {H1 : Heap} {r : List AV} (K : Kn G p l e R s m args below meth c cells slots Q y h (pos + 1, ls, .inr (some (hZ h)) :: r, sNew h t n)) (hC : Cg G s y H locs lsM ls st h) (hr : okSt r) (hRp : Rep G (sNew h t n) H1) (hz : H1.size = H.size + 1) (o1 : ∀ q, q < H.size → H1[q]? = H[q]?) :
    W p l e R s m args below meth c H1 locs (cells + 1) (slots + n) Q (F0 m (pcO y (pos + 1)) lsM (.ref (adr G.2.2 (hZ h)) :: r.map (mv G.2.2))) := by
  have h1 := K H1 locs lsM ⟨hC.1, hC.2.1, okSt_cons.mpr ⟨trivial, hr⟩, okH_sNew hC.2.2.2.1, hRp, va_S_new hC.2.2.2.2.2 hz o1⟩
  dsimp only at h1
  rw [hZ_new, hU_new] at h1
  exact h1
theorem a_newp {t : Nat} {ty : ArrayType} {n : Int} {r : List AV} (hx : p.tables.exec = Jvm.exec) (hb : c.code = hBy y) (hts : ∀ w ∈ evT, w.before args s = true) (hWK : WK G s) (ht : (t = 0 ∧ ty = .int) ∨ (t = 1 ∧ ty = .char)) (hn0 : 0 ≤ n) (hn1 : n ≤ 100000) (hC : Cg G s y H locs lsM ls (.inl n :: r) h)
    (hdg : decode (hBy y) (pcO y pos) = .ok (.newarray ty, 2)) (hnx : pcO y (pos + 1) = pcO y pos + 2) (hroom : cells + 1 ≤ R.cells ∧ slots + n.toNat ≤ R.slots)
    (K : Kn G p l e R s m args below meth c cells slots Q y h (pos + 1, ls, .inr (some (hZ h)) :: r, sNew h (100 + t, n.toNat) n.toNat)) : W p l e R s m args below meth c H locs cells slots Q (F0 m (pcO y pos) lsM (.int (iS n) :: r.map (mv G.2.2))) := by
  have hRp := hC.2.2.2.2.1
  have hnr : inR n := ⟨by omega, by omega⟩
  have hok : okK t = true := by rcases ht with ⟨rfl, -⟩ | ⟨rfl, -⟩ <;> rfl
  have hty : newarray.typeOf ty = arT t := by rcases ht with ⟨rfl, rfl⟩ | ⟨rfl, rfl⟩ <;> rfl
  have hcl : (Jvm.Cond.arrayClass (newarray.typeOf ty)).before args s = true := by
    rcases ht with ⟨-, rfl⟩ | ⟨-, rfl⟩
    · exact hts _ clP.1
    · exact hts _ clP.2.1
  have hcb : componentBytes (newarray.typeOf ty) ≤ 4 := by rcases ht with ⟨-, rfl⟩ | ⟨-, rfl⟩ <;> decide
  have hdv : defaultValue (newarray.typeOf ty) = .int 0 := by rcases ht with ⟨-, rfl⟩ | ⟨-, rfl⟩ <;> rfl
  refine va_newaK hx hb hcl rfl hdg rfl (n := iS n) (N := n.toNat) (fun q => by have := (iS_lt hnr inR_0).mp q; omega) (iS_nat hn0 hnr.2) (by
    have := Nat.mul_le_mul_left n.toNat hcb
    omega) hroom.1 hroom.2 rfl fun H1 cA e1 z1 o1 hAr hNm => ?_
  have hcA : cA = G.2.1 t := by
    have h2 := (hWK.2.1 t hok).2
    rw [hty] at hNm
    rcases ht with ⟨rfl, -⟩ | ⟨rfl, -⟩ <;> exact Option.some.inj (hNm.symm.trans h2)
  subst hcA
  have hty1 : (hTy (sNew h (100 + t, n.toNat) n.toNat) (hZ h)) = (100 + t, n.toNat) := if_pos rfl
  have hent := ent_ip (G := G) (h := sNew h (100 + t, n.toNat) n.toNat) (a := hZ h) (t := 100 + t) (by rw [hty1]) (by rcases ht with ⟨rfl, -⟩ | ⟨rfl, -⟩ <;> simp)
  rw [hty1, show 100 + t - 100 = t by omega] at hent
  obtain ⟨hRp', hsz⟩ := rep_new hRp rfl z1 hent (by
    show H1[H.size]? = some (vp_cell _ _)
    rw [e1, vp_cell_i]
    congr 2
    funext j
    rw [hdv]
    have : hI (sNew h (100 + t, n.toNat) n.toNat) (hZ h) (j : Int) = 0 := if_pos rfl
    rw [this]
    rfl) (fun b hb' => ent_sNew hb') o1
  have K1 := Kn_new K hC (okSt_cons.mp hC.2.2.1).2 hRp' z1 o1
  rw [← hsz, hnx] at K1
  exact K1
theorem a_newr {ci idx : Nat} {n : Int} {r : List AV} (hx : p.tables.exec = Jvm.exec) (hb : c.code = hBy y) (hts : ∀ w ∈ evT, w.before args s = true) (hown : s.vm.findClass (hNm y).cls = some m.cls) (hWK : WK G s) (hci : ci = 0 ∨ ci = 1 ∨ ci = 4 ∨ ci = 5) (hlk : Jvm.Cond.classLink (hNm y).cls idx (fldC ci) ∈ evT) (hn0 : 0 ≤ n) (hn1 : n ≤ 100000) (hC : Cg G s y H locs lsM ls (.inl n :: r) h)
    (hdg : decode (hBy y) (pcO y pos) = .ok (.anewarray idx, 3)) (hnx : pcO y (pos + 1) = pcO y pos + 3) (hroom : cells + 1 ≤ R.cells ∧ slots + n.toNat ≤ R.slots)
    (K : Kn G p l e R s m args below meth c cells slots Q y h (pos + 1, ls, .inr (some (hZ h)) :: r, sNew h (200 + ci, n.toNat) n.toNat)) : W p l e R s m args below meth c H locs cells slots Q (F0 m (pcO y pos) lsM (.int (iS n) :: r.map (mv G.2.2))) := by
  have hRp := hC.2.2.2.2.1
  have hnr : inR n := ⟨by omega, by omega⟩
  have hok : okK (ci + 2) = true := by rcases hci with rfl | rfl | rfl | rfl <;> rfl
  have hrf : rfO (200 + ci) = true := by rcases hci with rfl | rfl | rfl | rfl <;> rfl
  have hN : (iS n).toNatClampNeg = n.toNat := iS_nat hn0 hnr.2
  refine W.anew hx hb hown (hts _ hlk) (hts _ (clA ci hci (by omega))) rfl hdg rfl (n := iS n) (fun q => by have := (iS_lt hnr inR_0).mp q; omega) (by rw [hN]; omega) hroom.1 (by rw [hN]; exact hroom.2) fun cA kA comp f1 f2 f3 f4 => ?_
  rw [hN]
  generalize hH1 : H.push ({ cls := cA, slots := Array.replicate n.toNat .null, vm := .none } : Cell) = H1
  have z1 : H1.size = H.size + 1 := by rw [← hH1, Array.size_push]
  have e1 : H1[H.size]? = some (arrV cA n.toNat (fun _ => .null)) := by rw [← hH1, Array.getElem?_push_size, ← arrV_new]
  have o1 : ∀ q : Nat, q < H.size → H1[q]? = H[q]? := fun q hq => by rw [← hH1, Array.getElem?_push, if_neg (Nat.ne_of_lt hq)]
  have hcA : cA = G.2.1 (ci + 2) := by
    obtain ⟨kA', comp', -, -, -, h4⟩ := (hWK.2.1 (ci + 2) hok).2
    exact Option.some.inj (f1.symm.trans h4)
  subst hcA
  have hty1 : (hTy (sNew h (200 + ci, n.toNat) n.toNat) (hZ h)) = (200 + ci, n.toNat) := if_pos rfl
  have hent := ent_rf (G := G) (h := sNew h (200 + ci, n.toNat) n.toNat) (a := hZ h) (t := 200 + ci) (by rw [hty1]) hrf
  rw [hty1, show 200 + ci - 198 = ci + 2 by omega] at hent
  obtain ⟨hRp', hsz⟩ := rep_new hRp rfl z1 hent (by
    show H1[H.size]? = some (vp_cell _ _)
    rw [e1, vp_cell_q]
    congr 2
    funext j
    have : hR (sNew h (200 + ci, n.toNat) n.toNat) (hZ h) (j : Int) = none := if_pos rfl
    rw [this]
    rfl) (fun b hb' => ent_sNew hb') o1
  have K1 := Kn_new K hC (okSt_cons.mp hC.2.2.1).2 hRp' z1 o1
  rw [← hsz, hnx] at K1
  exact K1
theorem a_new {ci idx : Nat} (hx : p.tables.exec = Jvm.exec) (hb : c.code = hBy y) (hts : ∀ w ∈ evT, w.before args s = true) (hown : s.vm.findClass (hNm y).cls = some m.cls) (hWK : WK G s) (hc8 : ci < 8) (hlk : Jvm.Cond.classLink (hNm y).cls idx (fldC ci) ∈ evT) (hC : Cg G s y H locs lsM ls st h)
    (hdg : decode (hBy y) (pcO y pos) = .ok (.new idx, 3)) (hnx : pcO y (pos + 1) = pcO y pos + 3) (hroom : cells + 1 ≤ R.cells ∧ slots + fcn ci ≤ R.slots)
    (K : Kn G p l e R s m args below meth c cells slots Q y h (pos + 1, ls, .inr (some (hZ h)) :: st, sNew h (ci + 1, 0) (fcn ci))) : W p l e R s m args below meth c H locs cells slots Q (F0 m (pcO y pos) lsM (st.map (mv G.2.2))) := by
  have hRp := hC.2.2.2.2.1
  obtain ⟨hc, hin, hty, hnm, hkd, hdecl⟩ := clF ci hc8
  have hKn := hWK.1.1 ci _ hc
  refine W.newcK hx hb hown (hts _ hlk) (hts _ (clI ci hc8).1) (hts _ (clI ci hc8).2) rfl hdg hroom.1 hroom.2 hKn.2.1 rfl fun H1 kC hkC e1 z1 o1 => ?_
  have hty1 : (hTy (sNew h (ci + 1, 0) (fcn ci)) (hZ h)) = (ci + 1, 0) := if_pos rfl
  have hent := ent_obj (G := G) (h := sNew h (ci + 1, 0) (fcn ci)) (a := hZ h) (ci := ci) (by rw [hty1]) hc8
  obtain ⟨hRp', hsz⟩ := rep_new hRp rfl z1 hent (by
    refine ⟨_, hc, (u_born (fldY ci) hts hin hKn hkC e1 hty).to (fun j hj => ?_)⟩
    have hkj := hkd j hj
    show _ = (fsV G.2.2 ci (sNew h (ci + 1, 0) (fcn ci)) (hZ h)).getD j .null
    rw [List.getD_eq_getElem?_getD, fsV_at hj]
    have h1 : hI (sNew h (ci + 1, 0) (fcn ci)) (hZ h) (j : Int) = 0 := if_pos rfl
    have h2 : hR (sNew h (ci + 1, 0) (fcn ci)) (hZ h) (j : Int) = none := if_pos rfl
    rw [h1, h2]
    unfold kindO at hkj
    split at hkj
    · rename_i g1 g2; rw [g1, g2]; rfl
    · rename_i g1; rw [g1]
      cases hf : fldY ci j <;> rw [hf] at hkj <;> first | rfl | (simp [FieldType.isReference] at hkj)
    · rename_i g1 g2; rw [g1, g2]; rfl
    · rename_i g1 g2; rw [g1, g2]; rfl
    · cases hkj) (fun b hb' => ent_sNew hb') o1
  have K1 := Kn_new K hC hC.2.2.1 hRp' z1 o1
  rw [← hsz, hnx] at K1
  exact K1
set_option maxHeartbeats 4000000 in
theorem ad1 {i : Ins} {c1 : Cf} (hF : Fx G p s m args meth c y) (hok : okI y pos i = true) (hex : ex1 d i pos ls st h = some c1) (hC : Cg G s y H locs lsM ls st h) (hRm : d ≤ R.frames ∧ 40 * d ≤ R.locals) (hroom : cells + (hZ c1.2.2.2 - hZ h) ≤ R.cells ∧ slots + (hU c1.2.2.2 - hU h) ≤ R.slots)
    (K : Kn G p l e R s m args below meth c cells slots Q y h c1) : W p l e R s m args below meth c H locs cells slots Q (F0 m (pcO y pos) lsM (st.map (mv G.2.2))) := by
  obtain ⟨raw, v, a, b, w, sw⟩ := i
  obtain ⟨hx, hb, hml, hown, hts, hWK, hini⟩ := hF
  obtain ⟨hdg, hnx, hln⟩ := okI_spec hok
  obtain ⟨hLR, hLs, hSt, hHk, hRp, hVS⟩ := id hC
  have hA : ∀ q : Nat, s.heap.size ≤ q → frA G.2.2 q ∨ True := fun q _ => Or.inr trivial
  cases raw
  case iconst n =>
    obtain ⟨hc, rfl⟩ := e_psh_some hex
    refine lv_iconst hx hb hdg rfl ?_
    rw [← show pcO y (pos + 1) = pcO y pos + 1 from hnx rfl]
    exact Kn_s K (Cg_st hC (okSt_cons.mpr ⟨⟨by omega, by omega⟩, hSt⟩))
  case bipush n =>
    obtain ⟨hc, rfl⟩ := e_psh_some hex
    refine lv_bipush hx hb hdg (iS_bip hc.1 hc.2) ?_
    rw [← show pcO y (pos + 1) = pcO y pos + 2 from hnx rfl]
    exact Kn_s K (Cg_st hC (okSt_cons.mpr ⟨⟨by omega, by omega⟩, hSt⟩))
  case sipush n =>
    obtain ⟨hc, rfl⟩ := e_psh_some hex
    refine lv_sipush hx hb hdg (iS_sip hc.1 hc.2) ?_
    rw [← show pcO y (pos + 1) = pcO y pos + 3 from hnx rfl]
    exact Kn_s K (Cg_st hC (okSt_cons.mpr ⟨⟨by omega, by omega⟩, hSt⟩))
  case ldc n =>
    obtain ⟨hc, rfl⟩ := e_psh_some hex
    refine lv_ldc hx hb hown (hts _ (wd_in hln)) hdg ?_
    rw [← show pcO y (pos + 1) = pcO y pos + 2 from hnx rfl]
    exact Kn_s K (Cg_st hC (okSt_cons.mpr ⟨hc, hSt⟩))
  case ldc_w n =>
    obtain ⟨hc, rfl⟩ := e_psh_some hex
    refine lv_ldcw hx hb hown (hts _ (wd_in hln)) hdg ?_
    rw [← show pcO y (pos + 1) = pcO y pos + 3 from hnx rfl]
    exact Kn_s K (Cg_st hC (okSt_cons.mpr ⟨hc, hSt⟩))
  case aconst_null =>
    cases hex
    refine lv_null hx hb hdg ?_
    rw [← show pcO y (pos + 1) = pcO y pos + 1 from hnx rfl]
    exact Kn_s K (Cg_st hC (okSt_cons.mpr ⟨trivial, hSt⟩))
  case iload k =>
    obtain ⟨x, hk, rfl⟩ := e_load_i hex
    refine lv_iload hx hb hdg (hLR.2.2.2 _ _ hk) ?_
    rw [← show pcO y (pos + 1) = pcO y pos + 2 from hnx rfl]
    exact Kn_s K (Cg_st hC (okSt_cons.mpr ⟨hLs _ _ hk, hSt⟩))
  case iload_n k =>
    obtain ⟨x, hk, rfl⟩ := e_load_i hex
    refine lv_iload_n hx hb hdg rfl (hLR.2.2.2 _ _ hk) ?_
    rw [← show pcO y (pos + 1) = pcO y pos + 1 from hnx rfl]
    exact Kn_s K (Cg_st hC (okSt_cons.mpr ⟨hLs _ _ hk, hSt⟩))
  case aload k =>
    obtain ⟨x, hk, rfl⟩ := e_load_a hex
    have K1 := Kn_s K (Cg_st hC (okSt_cons.mpr ⟨trivial, hSt⟩))
    rw [show pcO y (pos + 1) = pcO y pos + 2 from hnx rfl] at K1
    cases x with
    | none => exact lv_aloadN hx hb hdg (hLR.2.2.2 _ _ hk) K1
    | some x => exact lv_aload hx hb hdg (hLR.2.2.2 _ _ hk) K1
  case aload_n k =>
    obtain ⟨x, hk, rfl⟩ := e_load_a hex
    have K1 := Kn_s K (Cg_st hC (okSt_cons.mpr ⟨trivial, hSt⟩))
    rw [show pcO y (pos + 1) = pcO y pos + 1 from hnx rfl] at K1
    cases x with
    | none => exact lv_aload_nN hx hb hdg rfl (hLR.2.2.2 _ _ hk) K1
    | some x => exact lv_aload_n hx hb hdg rfl (hLR.2.2.2 _ _ hk) K1
  case istore k =>
    obtain ⟨x, r, rfl, hk, rfl⟩ := e_store_i hex
    have hk' : k < hMx y := by rw [← hLR.2.2.1]; exact hk
    refine lv_istore hx hb hdg (LR_has hLR) hk' rfl fun ls' h' => ?_
    rw [← show pcO y (pos + 1) = pcO y pos + 2 from hnx rfl]
    exact Kn_s K ⟨LR_set (v := .inl x) hLR hk' h' rfl, okLs_set hLs (okSt_cons.mp hSt).1, (okSt_cons.mp hSt).2, hHk, hRp, hVS⟩
  case istore_n k =>
    obtain ⟨x, r, rfl, hk, rfl⟩ := e_store_i hex
    have hk' : (k : Nat) < hMx y := by rw [← hLR.2.2.1]; exact hk
    refine lv_istore_n hx hb hdg rfl (LR_has hLR) hk' rfl fun ls' h' => ?_
    rw [← show pcO y (pos + 1) = pcO y pos + 1 from hnx rfl]
    exact Kn_s K ⟨LR_set (v := .inl x) hLR hk' h' rfl, okLs_set hLs (okSt_cons.mp hSt).1, (okSt_cons.mp hSt).2, hHk, hRp, hVS⟩
  case astore k =>
    obtain ⟨x, r, rfl, hk, rfl⟩ := e_store_a hex
    have hk' : k < hMx y := by rw [← hLR.2.2.1]; exact hk
    cases x with
    | none =>
      refine lv_astoreN hx hb hdg (LR_has hLR) hk' rfl fun ls' h' => ?_
      rw [← show pcO y (pos + 1) = pcO y pos + 2 from hnx rfl]
      exact Kn_s K ⟨LR_set (v := .inr none) hLR hk' h' rfl, okLs_set hLs trivial, (okSt_cons.mp hSt).2, hHk, hRp, hVS⟩
    | some x =>
      refine lv_astore hx hb hdg (LR_has hLR) hk' rfl fun ls' h' => ?_
      rw [← show pcO y (pos + 1) = pcO y pos + 2 from hnx rfl]
      exact Kn_s K ⟨LR_set (v := .inr (some x)) hLR hk' h' rfl, okLs_set hLs trivial, (okSt_cons.mp hSt).2, hHk, hRp, hVS⟩
  case astore_n k =>
    obtain ⟨x, r, rfl, hk, rfl⟩ := e_store_a hex
    have hk' : (k : Nat) < hMx y := by rw [← hLR.2.2.1]; exact hk
    cases x with
    | none =>
      refine lv_astore_nN hx hb hdg rfl (LR_has hLR) hk' rfl fun ls' h' => ?_
      rw [← show pcO y (pos + 1) = pcO y pos + 1 from hnx rfl]
      exact Kn_s K ⟨LR_set (v := .inr none) hLR hk' h' rfl, okLs_set hLs trivial, (okSt_cons.mp hSt).2, hHk, hRp, hVS⟩
    | some x =>
      refine lv_astore_n hx hb hdg rfl (LR_has hLR) hk' rfl fun ls' h' => ?_
      rw [← show pcO y (pos + 1) = pcO y pos + 1 from hnx rfl]
      exact Kn_s K ⟨LR_set (v := .inr (some x)) hLR hk' h' rfl, okLs_set hLs trivial, (okSt_cons.mp hSt).2, hHk, hRp, hVS⟩
  case iinc k n =>
    obtain ⟨x, hk, hk2, rfl⟩ := e_iinc_some hex
    have hk' : k < hMx y := by rw [← hLR.2.2.1]; exact hk2
    have hmem : (k, mv G.2.2 (.inl x)) ∈ lvO G.2.2 ls := List.mem_filterMap.mpr ⟨(some (.inl x), k), List.mem_iff_getElem?.mpr ⟨k, by rw [List.getElem?_zipIdx, hk]; simp⟩, rfl⟩
    obtain ⟨j, hj⟩ := List.mem_iff_getElem?.mp hmem
    refine lv_iinc hx hb hdg (LR_has hLR) hj (v := iS (wr (x + n))) (iS_add x n) hk' rfl fun ls' h' => ?_
    rw [← show pcO y (pos + 1) = pcO y pos + 3 from hnx rfl]
    exact Kn_s K ⟨LR_set (v := .inl (wr (x + n))) hLR hk' h' rfl, okLs_set hLs (inR_wr _), hSt, hHk, hRp, hVS⟩
  case dup =>
    obtain ⟨x, r, rfl, rfl⟩ := e_dup_some hex
    refine lv_dup hx hb hdg (mv_cat x) ?_
    rw [← show pcO y (pos + 1) = pcO y pos + 1 from hnx rfl]
    exact Kn_s K (Cg_st hC (okSt_cons.mpr ⟨(okSt_cons.mp hSt).1, hSt⟩))
  case dup2 =>
    obtain ⟨x, z, r, rfl, rfl⟩ := e_dup2_some hex
    refine lv_dup2_11 hx hb hdg (mv_cat x) (mv_cat z) ?_
    rw [← show pcO y (pos + 1) = pcO y pos + 1 from hnx rfl]
    exact Kn_s K (Cg_st hC (okSt_cons.mpr ⟨(okSt_cons.mp hSt).1, okSt_cons.mpr ⟨(okSt_cons.mp (okSt_cons.mp hSt).2).1, hSt⟩⟩))
  case dup_x1 =>
    obtain ⟨x, z, r, rfl, rfl⟩ := e_dupx1_some hex
    refine lv_dup_x1 hx hb hdg (mv_cat x) (mv_cat z) ?_
    rw [← show pcO y (pos + 1) = pcO y pos + 1 from hnx rfl]
    exact Kn_s K (Cg_st hC (okSt_cons.mpr ⟨(okSt_cons.mp hSt).1, okSt_cons.mpr ⟨(okSt_cons.mp (okSt_cons.mp hSt).2).1, okSt_cons.mpr ⟨(okSt_cons.mp hSt).1, (okSt_cons.mp (okSt_cons.mp hSt).2).2⟩⟩⟩))
  case iadd =>
    obtain ⟨x, z, r, rfl, rfl⟩ := e_bin_some hex
    refine lv_iadd hx hb hdg ?_
    rw [← show pcO y (pos + 1) = pcO y pos + 1 from hnx rfl, iS_add]
    exact Kn_s K (Cg_st hC (okSt_cons.mpr ⟨inR_wr _, (okSt_cons.mp (okSt_cons.mp hSt).2).2⟩))
  case isub =>
    obtain ⟨x, z, r, rfl, rfl⟩ := e_bin_some hex
    refine lv_isub hx hb hdg ?_
    rw [← show pcO y (pos + 1) = pcO y pos + 1 from hnx rfl, iS_sub]
    exact Kn_s K (Cg_st hC (okSt_cons.mpr ⟨inR_wr _, (okSt_cons.mp (okSt_cons.mp hSt).2).2⟩))
  case imul =>
    obtain ⟨x, z, r, rfl, rfl⟩ := e_bin_some hex
    refine lv_imul hx hb hdg ?_
    rw [← show pcO y (pos + 1) = pcO y pos + 1 from hnx rfl, iS_mul]
    exact Kn_s K (Cg_st hC (okSt_cons.mpr ⟨inR_wr _, (okSt_cons.mp (okSt_cons.mp hSt).2).2⟩))
  case idiv =>
    obtain ⟨x, z, r, rfl, h0, rfl⟩ := e_div_some hex
    have hz : inR z := (okSt_cons.mp hSt).1
    have hxx : inR x := (okSt_cons.mp (okSt_cons.mp hSt).2).1
    refine lv_idiv hx hb hdg (fun q => h0 ((iS_eq hz inR_0).mp q)) ?_
    rw [← show pcO y (pos + 1) = pcO y pos + 1 from hnx rfl, iS_div hxx hz]
    exact Kn_s K (Cg_st hC (okSt_cons.mpr ⟨inR_wr _, (okSt_cons.mp (okSt_cons.mp hSt).2).2⟩))
  case irem =>
    obtain ⟨x, z, r, rfl, h0, rfl⟩ := e_div_some hex
    have hz : inR z := (okSt_cons.mp hSt).1
    have hxx : inR x := (okSt_cons.mp (okSt_cons.mp hSt).2).1
    refine lv_irem hx hb hdg (fun q => h0 ((iS_eq hz inR_0).mp q)) ?_
    rw [← show pcO y (pos + 1) = pcO y pos + 1 from hnx rfl, iS_rem hxx hz]
    exact Kn_s K (Cg_st hC (okSt_cons.mpr ⟨inR_wr _, (okSt_cons.mp (okSt_cons.mp hSt).2).2⟩))
  case ineg =>
    obtain ⟨x, r, rfl, rfl⟩ := e_un_some hex
    refine lv_ineg hx hb hdg ?_
    rw [← show pcO y (pos + 1) = pcO y pos + 1 from hnx rfl, iS_neg]
    exact Kn_s K (Cg_st hC (okSt_cons.mpr ⟨inR_wr _, (okSt_cons.mp hSt).2⟩))
  case ishl =>
    obtain ⟨x, z, r, rfl, rfl⟩ := e_bin_some hex
    refine lv_ishl hx hb hdg ?_
    rw [← show pcO y (pos + 1) = pcO y pos + 1 from hnx rfl, ← iS_of (iS x <<< (iS z &&& 31))]
    exact Kn_s K (Cg_st hC (okSt_cons.mpr ⟨inR_shl _ _, (okSt_cons.mp (okSt_cons.mp hSt).2).2⟩))
  case ishr =>
    obtain ⟨x, z, r, rfl, rfl⟩ := e_bin_some hex
    refine lv_ishr hx hb hdg ?_
    rw [← show pcO y (pos + 1) = pcO y pos + 1 from hnx rfl, ← iS_of (iS x >>> (iS z &&& 31))]
    exact Kn_s K (Cg_st hC (okSt_cons.mpr ⟨inR_shr _ _, (okSt_cons.mp (okSt_cons.mp hSt).2).2⟩))
  case iushr =>
    obtain ⟨x, z, r, rfl, rfl⟩ := e_bin_some hex
    refine lv_iushr hx hb hdg (iS_of _).symm ?_
    rw [← show pcO y (pos + 1) = pcO y pos + 1 from hnx rfl]
    exact Kn_s K (Cg_st hC (okSt_cons.mpr ⟨inR_ushr _ _, (okSt_cons.mp (okSt_cons.mp hSt).2).2⟩))
  case iand =>
    obtain ⟨x, z, r, rfl, rfl⟩ := e_bin_some hex
    refine lv_iand hx hb hdg ?_
    rw [← show pcO y (pos + 1) = pcO y pos + 1 from hnx rfl, ← iS_of (iS x &&& iS z)]
    exact Kn_s K (Cg_st hC (okSt_cons.mpr ⟨inR_and _ _, (okSt_cons.mp (okSt_cons.mp hSt).2).2⟩))
  case ior =>
    obtain ⟨x, z, r, rfl, rfl⟩ := e_bin_some hex
    refine lv_ior hx hb hdg ?_
    rw [← show pcO y (pos + 1) = pcO y pos + 1 from hnx rfl, ← iS_of (iS x ||| iS z)]
    exact Kn_s K (Cg_st hC (okSt_cons.mpr ⟨inR_or _ _, (okSt_cons.mp (okSt_cons.mp hSt).2).2⟩))
  case i2c =>
    obtain ⟨x, r, rfl, rfl⟩ := e_un_some hex
    refine lv_i2c hx hb hdg (iS_of _).symm ?_
    rw [← show pcO y (pos + 1) = pcO y pos + 1 from hnx rfl]
    exact Kn_s K (Cg_st hC (okSt_cons.mpr ⟨inR_i2c _, (okSt_cons.mp hSt).2⟩))
  case ifCond cd off =>
    obtain ⟨x, r, rfl, rfl⟩ := e_if_some hex
    exact a_if hx hb hdg (hnx rfl) (of_decide_eq_true hln) (okSt_cons.mp hSt).1 (Kn_s K (Cg_st hC (okSt_cons.mp hSt).2))
  case if_icmp cd off =>
    obtain ⟨x, z, r, rfl, rfl⟩ := e_icmp_some hex
    exact a_icmp hx hb hdg (hnx rfl) (of_decide_eq_true hln) (okSt_cons.mp (okSt_cons.mp hSt).2).1 (okSt_cons.mp hSt).1 (Kn_s K (Cg_st hC (okSt_cons.mp (okSt_cons.mp hSt).2).2))
  case goto off =>
    cases hex
    exact lv_goto hx hb hdg (of_decide_eq_true hln) (Kn_s K hC)
  case ifnonnull off =>
    obtain ⟨o, r, rfl, rfl⟩ := e_nn_some hex
    have K1 := Kn_s K (Cg_st hC (okSt_cons.mp hSt).2)
    cases o with
    | none =>
      rw [if_pos rfl, show pcO y (pos + 1) = pcO y pos + 3 from hnx rfl] at K1
      exact lv_ifnonnullN hx hb hdg K1
    | some o =>
      rw [if_neg (by simp)] at K1
      exact lv_ifnonnull hx hb hdg (of_decide_eq_true hln) K1
  case tableswitch df lo hi offs =>
    obtain ⟨x, r, t, rfl, ht, rfl⟩ := e_tsw_some hex
    have hxr : inR x := (okSt_cons.mp hSt).1
    simp only [lnkO, Bool.and_eq_true, decide_eq_true_eq] at hln
    obtain ⟨o, ho, hto⟩ := tgtsO_at _ _ y pos hln.1 _ t ht
    have K1 := Kn_s K (Cg_st hC (okSt_cons.mp hSt).2)
    by_cases hc : x < lo ∨ hi < x
    · rw [if_pos hc] at ho
      cases ho
      exact lv_tableOut hx hb hdg (by rw [iS_toInt hxr]; exact hc) hto K1
    · rw [if_neg hc, List.getElem?_cons_succ, Array.getElem?_toList] at ho
      exact lv_tableIn hx hb hdg (by rw [iS_toInt hxr]; omega) (by rw [iS_toInt hxr]; omega) (by rw [iS_toInt hxr]; exact ho) hto K1
  case lookupswitch df ps =>
    obtain ⟨x, r, t, rfl, ht, rfl⟩ := e_lsw_some hex
    have hxr : inR x := (okSt_cons.mp hSt).1
    simp only [lnkO, Bool.and_eq_true] at hln
    obtain ⟨o, ho, hto⟩ := tgtsO_at _ _ y pos hln.1 _ t ht
    refine lv_lookup hx hb hdg hln.2 rfl ?_ (Kn_s K (Cg_st hC (okSt_cons.mp hSt).2))
    rw [iS_toInt hxr]
    rcases e_key_off ps.toList 0 df x [] with ⟨h1, h2⟩ | ⟨j, q, h1, h2, h3⟩
    · rw [h1] at ho
      cases ho
      rw [h2]
      exact hto
    · rw [h1, show 0 + 1 + j = j + 1 by omega, List.getElem?_cons_succ, List.getElem?_map, h2] at ho
      cases ho
      rw [h3]
      exact hto
  case getfield idx =>
    obtain ⟨x, r, rfl, ⟨ht, hk⟩, rfl⟩ := e_get_some hex
    simp only [lnkO, Bool.and_eq_true, Bool.or_eq_true, decide_eq_true_eq] at hln
    refine a_get hx hb hts hown hWK.1 (rep_obj hRp ht hln.1).2 hk (hln.2.imp (fun q => wd_in q) (fun q => wd_in q)) (fsV_at hk) hdg ?_
    have hokv : okV (if fkd a b = 1 then .inr (hR h x b) else .inl (hI h x b)) := by
      by_cases h1 : fkd a b = 1
      · rw [if_pos h1]; trivial
      · rw [if_neg h1]; exact hHk _ _
    have K1 := Kn_s K (Cg_st hC (okSt_cons.mpr ⟨hokv, (okSt_cons.mp hSt).2⟩))
    rw [show pcO y (pos + 1) = pcO y pos + 3 from hnx rfl] at K1
    exact K1
  case putfield idx =>
    obtain ⟨v', x, r, rfl, ht, hk, hx3, hcase⟩ := e_put_some hex
    have hk : b < fcn a := hk
    have ht : (hTy h x).1 = a + 1 := ht
    simp only [lnkO, Bool.and_eq_true, decide_eq_true_eq] at hln
    obtain ⟨hc8, hlk⟩ := hln
    obtain ⟨hxZ, hat⟩ := rep_obj hRp ht hc8
    have hkd := (clF a hc8).2.2.2.2.1 b hk
    have hlk' : if (fldT a b).2.2.2 = true then Jvm.Cond.fieldLink (hNm y).cls idx (fldC a) (fldT a b).2.1 (fldT a b).2.2.1 ∈ evT ∧ meth.name = "<init>" ∧ (hNm y).cls = fldC a
      else (Jvm.Cond.fieldLink (hNm y).cls idx (fldC a) (fldT a b).2.1 (fldT a b).2.2.1 ∈ evT ∨ Jvm.Cond.fieldLinkNest (hNm y).cls idx (fldC a) (fldT a b).2.1 (fldT a b).2.2.1 "PhasorTree" ∈ evT) := by
      by_cases hf : (fldT a b).2.2.2 = true
      · rw [if_pos hf] at hlk ⊢
        simp only [Bool.and_eq_true, decide_eq_true_eq] at hlk
        exact ⟨wd_in hlk.1.1, hini hlk.1.2, hlk.2⟩
      · rw [if_neg hf] at hlk ⊢
        simp only [Bool.or_eq_true] at hlk
        exact hlk.imp (fun q => wd_in q) (fun q => wd_in q)
    have hlen : (fsV G.2.2 a h x).length = fcn a := fsV_len
    have fin : ∀ (h' : HP), (∀ j, j < fcn a → (mv G.2.2 (if fkd a j = 1 then .inr (hR h' x j) else .inl (hI h' x j))) = if j = b then mv G.2.2 v' else mv G.2.2 (if fkd a j = 1 then .inr (hR h x j) else .inl (hI h x j))) → fsV G.2.2 a h' x = (fsV G.2.2 a h x).set b (mv G.2.2 v') := by
      intro h' hh
      apply List.ext_getElem?
      intro j
      rw [List.getElem?_set]
      by_cases hj : j < fcn a
      · rw [fsV_at hj, fsV_at hj, hh j hj]
        by_cases hjb : b = j
        · rw [if_pos hjb, if_pos hjb.symm, if_pos (by rw [hlen]; exact hk)]
        · rw [if_neg hjb, if_neg (fun z => hjb z.symm)]
      · rw [List.getElem?_eq_none (by rw [fsV_len]; omega), List.getElem?_eq_none (by rw [fsV_len]; omega), if_neg (by omega)]
    rcases hcase with ⟨z, rfl, h1, h2, h3, rfl⟩ | ⟨z, rfl, h1, rfl⟩
    · have hzr : inR z := (okSt_cons.mp hSt).1
      have hnf : narrow (fldY a b) (.int (iS z)) = .int (iS z) ∧ fits (fldY a b) (.int (iS z)) = true := by
        unfold kindO at hkd
        split at hkd
        · rename_i e1 e2; rw [e2]; exact ⟨rfl, rfl⟩
        · rename_i e1; exact absurd e1 h1
        · rename_i e1 e2; rw [e2]; exact iS_char (h2 e1).1 (h2 e1).2
        · rename_i e1 e2; rw [e2]; exact iS_bool (h3 e1).1 (h3 e1).2
        · cases hkd
      refine a_put hx hb hts hown hWK.1 hat hVS (adr_frA hx3) hk hlen hlk' hnf.1 hnf.2 hdg fun H1 locs1 g1 g2 g3 g4 => ?_
      rw [← show pcO y (pos + 1) = pcO y pos + 3 from hnx rfl]
      have e1 : fsV G.2.2 a (sI h x b z) x = (fsV G.2.2 a h x).set b (mv G.2.2 (.inl z)) := fin _ (fun j hj => by
        by_cases hjb : j = b
        · subst hjb
          rw [if_pos rfl, if_neg h1]
          simp [sI, hI, mv]
        · rw [if_neg hjb]
          have : ¬ ((j : Int) = (b : Int)) := by omega
          simp [sI, hI, hR, this])
      have hRp' : Rep G (sI h x b z) H1 := rep_upd hRp hx3 hxZ rfl g2 (ent_obj (ci := a) ht hc8) (by rw [e1]; exact g1) (fun b' hb' => ent_sI hb') g3
      exact Kn_h rfl rfl K ⟨hLR, hLs, (okSt_cons.mp (okSt_cons.mp hSt).2).2, okH_sI hHk hzr, hRp', g4⟩
    · have hnf : narrow (fldY a b) (va_rf (z.map (adr G.2.2))) = va_rf (z.map (adr G.2.2)) ∧ fits (fldY a b) (va_rf (z.map (adr G.2.2))) = true := by
        rw [h1] at hkd
        exact rf_nar _ hkd _
      refine a_put hx hb hts hown hWK.1 hat hVS (adr_frA hx3) hk hlen hlk' hnf.1 hnf.2 hdg fun H1 locs1 g1 g2 g3 g4 => ?_
      rw [← show pcO y (pos + 1) = pcO y pos + 3 from hnx rfl]
      have e1 : fsV G.2.2 a (sR h x b z) x = (fsV G.2.2 a h x).set b (mv G.2.2 (.inr z)) := fin _ (fun j hj => by
        by_cases hjb : j = b
        · subst hjb
          rw [if_pos rfl, if_pos h1]
          simp [sR, hR, mv]
        · rw [if_neg hjb]
          have : ¬ ((j : Int) = (b : Int)) := by omega
          simp [sR, hI, hR, this])
      have hRp' : Rep G (sR h x b z) H1 := rep_upd hRp hx3 hxZ rfl g2 (ent_obj (ci := a) ht hc8) (by rw [e1]; exact g1) (fun b' hb' => ent_sR hb') g3
      exact Kn_h rfl rfl K ⟨hLR, hLs, (okSt_cons.mp (okSt_cons.mp hSt).2).2, hHk, hRp', g4⟩
  case getstatic idx =>
    simp only [ex1] at hex
    by_cases ha : a < 2
    · rw [if_pos ha] at hex
      cases hex
      have K1 := Kn_s K (Cg_st hC (okSt_cons.mpr ⟨trivial, hSt⟩))
      rw [show pcO y (pos + 1) = pcO y pos + 3 from hnx rfl] at K1
      simp only [lnkO, Bool.and_eq_true, decide_eq_true_eq] at hln
      rcases (show a = 0 ∨ a = 1 by omega) with rfl | rfl
      · exact va_getsN hx hb hWK.2.2.1 hVS hown (hts _ (wd_in hln.2)) (fun _ h9 => h9) hdg K1
      · exact va_getsN hx hb hWK.2.2.2.1 hVS hown (hts _ (wd_in hln.2)) (fun _ h9 => h9) hdg K1
    · rw [if_neg ha] at hex
      cases hex
  case iaload =>
    obtain ⟨j, x, r, rfl, ⟨ht, hj0, hj1⟩, rfl⟩ := e_ald_some hex
    have hjr : inR j := (okSt_cons.mp hSt).1
    have K1 := Kn_s K (Cg_st hC (okSt_cons.mpr ⟨hHk _ _, (okSt_cons.mp (okSt_cons.mp hSt).2).2⟩))
    rw [show pcO y (pos + 1) = pcO y pos + 1 from hnx rfl] at K1
    by_cases hx3 : x < 3
    · obtain ⟨g1, g2⟩ := hRp.2.2.2.2 x hx3
      refine va_ti hx hb (hWK.2.2.2.2 x hx3) hVS (iS_vin hj0 hjr (by rw [g1] at hj1; exact hj1)) rfl hdg ?_
      rw [iS_nat hj0 hjr.2, Int.toNat_of_nonneg hj0, ← g2 j]
      exact K1
    have hat := (rep_ip hRp (by omega) ht (Or.inl rfl)).2
    refine va_iald hx hb (WK_K hWK 0 rfl) (va_P1 hat) 0 0 rfl rfl (iS_vin hj0 hjr hj1) hdg ?_
    rw [iS_nat hj0 hjr.2, Int.toNat_of_nonneg hj0]
    exact K1
  case caload =>
    obtain ⟨j, x, r, rfl, ⟨ht, hj0, hj1⟩, rfl⟩ := e_ald_some hex
    have hjr : inR j := (okSt_cons.mp hSt).1
    have hat := (rep_ip hRp (rep_ge3 hRp (by rw [ht]; decide)) ht (Or.inr rfl)).2
    have K1 := Kn_s K (Cg_st hC (okSt_cons.mpr ⟨hHk _ _, (okSt_cons.mp (okSt_cons.mp hSt).2).2⟩))
    rw [show pcO y (pos + 1) = pcO y pos + 1 from hnx rfl] at K1
    refine va_cald hx hb (WK_K hWK 1 rfl) (va_P1 hat) 0 0 rfl rfl (iS_vin hj0 hjr hj1) hdg ?_
    rw [iS_nat hj0 hjr.2, Int.toNat_of_nonneg hj0]
    exact K1
  case aaload =>
    obtain ⟨j, x, r, rfl, ⟨ht, hj0, hj1⟩, rfl⟩ := e_aldq_some hex
    have hjr : inR j := (okSt_cons.mp hSt).1
    have hat := (rep_rf hRp ht).2
    have K1 := Kn_s K (Cg_st hC (okSt_cons.mpr ⟨trivial, (okSt_cons.mp (okSt_cons.mp hSt).2).2⟩))
    rw [show pcO y (pos + 1) = pcO y pos + 1 from hnx rfl] at K1
    have fin : ∀ k C, okK k = true → arT k = .object C → (hTy h x).1 - 198 = k → W p l e R s m args below meth c H locs cells slots Q (F0 m (pcO y pos) lsM (.int (iS j) :: .ref (adr G.2.2 x) :: r.map (mv G.2.2))) := by
      intro k C hk hC' he
      rw [he] at hat
      have hKK := WK_K hWK k hk
      rw [hC'] at hKK
      refine va_aldq hx hb hKK (va_P1 hat) 0 0 rfl rfl (iS_vin hj0 hjr hj1) hdg ?_
      rw [iS_nat hj0 hjr.2, Int.toNat_of_nonneg hj0]
      exact K1
    rcases rfO_iff ht with h1 | h1 | h1 | h1
    · exact fin 2 _ rfl rfl (by omega)
    · exact fin 3 _ rfl rfl (by omega)
    · exact fin 6 _ rfl rfl (by omega)
    · exact fin 7 _ rfl rfl (by omega)
  case iastore =>
    obtain ⟨z, j, x, r, rfl, ⟨ht, hj0, hj1, hx3, -⟩, rfl⟩ := e_ast_some hex
    have hzr : inR z := (okSt_cons.mp hSt).1
    have hjr : inR j := (okSt_cons.mp (okSt_cons.mp hSt).2).1
    obtain ⟨hxZ, hat⟩ := rep_ip hRp hx3 ht (Or.inl rfl)
    refine a_ast (t := 0) hx hb (Or.inl rfl) (hWK.2.1 0 rfl).1 hat hVS (adr_frA hx3) (iS_vin hj0 hjr hj1) (fun z => by cases z) hdg fun H1 locs1 g1 g2 g3 g4 => ?_
    rw [← show pcO y (pos + 1) = pcO y pos + 1 from hnx rfl]
    have e1 : (fun q : Nat => iS (hI (sI h x j z) x (q : Int))) = upd (fun q : Nat => iS (hI h x (q : Int))) (iS j).toNatClampNeg (iS z) := by
      funext q
      rw [iS_nat hj0 hjr.2]
      by_cases hq : q = j.toNat
      · subst hq
        simp [sI, hI, upd, Int.toNat_of_nonneg hj0]
      · have : ¬ ((q : Int) = j) := by omega
        simp [sI, hI, upd, hq, this]
    have hRp' : Rep G (sI h x j z) H1 := rep_upd hRp hx3 hxZ rfl g2 (ent_ip (h := sI h x j z) ht (Or.inl rfl)) (by rw [e1]; exact g1) (fun b' hb' => ent_sI hb') g3
    exact Kn_h rfl rfl K ⟨hLR, hLs, (okSt_cons.mp (okSt_cons.mp (okSt_cons.mp hSt).2).2).2, okH_sI hHk hzr, hRp', g4⟩
  case castore =>
    obtain ⟨z, j, x, r, rfl, ⟨ht, hj0, hj1, hx3, hz⟩, rfl⟩ := e_ast_some hex
    have hzr : inR z := (okSt_cons.mp hSt).1
    have hjr : inR j := (okSt_cons.mp (okSt_cons.mp hSt).2).1
    obtain ⟨hxZ, hat⟩ := rep_ip hRp hx3 ht (Or.inr rfl)
    have hzc : vp_nar .char (iS z) = iS z := by
      rcases hz with hz | hz
      · cases hz
      · unfold vp_nar
        rw [(iS_char hz.1 hz.2).1]
    refine a_ast (t := 1) hx hb (Or.inr rfl) (hWK.2.1 1 rfl).1 hat hVS (adr_frA hx3) (iS_vin hj0 hjr hj1) (fun _ => hzc) hdg fun H1 locs1 g1 g2 g3 g4 => ?_
    rw [← show pcO y (pos + 1) = pcO y pos + 1 from hnx rfl]
    have e1 : (fun q : Nat => iS (hI (sI h x j z) x (q : Int))) = upd (fun q : Nat => iS (hI h x (q : Int))) (iS j).toNatClampNeg (iS z) := by
      funext q
      rw [iS_nat hj0 hjr.2]
      by_cases hq : q = j.toNat
      · subst hq
        simp [sI, hI, upd, Int.toNat_of_nonneg hj0]
      · have : ¬ ((q : Int) = j) := by omega
        simp [sI, hI, upd, hq, this]
    have hRp' : Rep G (sI h x j z) H1 := rep_upd hRp hx3 hxZ rfl g2 (ent_ip (h := sI h x j z) ht (Or.inr rfl)) (by rw [e1]; exact g1) (fun b' hb' => ent_sI hb') g3
    exact Kn_h rfl rfl K ⟨hLR, hLs, (okSt_cons.mp (okSt_cons.mp (okSt_cons.mp hSt).2).2).2, okH_sI hHk hzr, hRp', g4⟩
  case aastore =>
    obtain ⟨z, j, x, r, rfl, ⟨ht, hvt, hj0, hj1, hx3⟩, rfl⟩ := e_astq_some hex
    have hjr : inR j := (okSt_cons.mp (okSt_cons.mp hSt).2).1
    obtain ⟨hxZ, hat⟩ := rep_rf hRp ht
    have fin : ∀ ci, ci < 8 → okK (ci + 2) = true → (hTy h x).1 = 200 + ci → W p l e R s m args below meth c H locs cells slots Q (F0 m (pcO y pos) lsM (.ref (adr G.2.2 z) :: .int (iS j) :: .ref (adr G.2.2 x) :: r.map (mv G.2.2))) := by
      intro ci hc8 hok' he
      have hzt : (hTy h z).1 = ci + 1 := by omega
      have hatz := (rep_obj hRp hzt hc8).2
      have hidx : (hTy h x).1 - 198 = ci + 2 := by omega
      rw [hidx] at hat
      refine a_astq hx hb hc8 hWK.1 (hWK.2.1 (ci + 2) hok').2 hat hatz hVS (adr_frA hx3) (iS_vin hj0 hjr hj1) hdg fun H1 locs1 g1 g2 g3 g4 => ?_
      rw [← show pcO y (pos + 1) = pcO y pos + 1 from hnx rfl]
      have e1 : (fun q : Nat => (hR (sR h x j (some z)) x (q : Int)).map (adr G.2.2)) = va_up (fun q : Nat => (hR h x (q : Int)).map (adr G.2.2)) (iS j).toNatClampNeg (some (adr G.2.2 z)) := by
        funext q
        rw [iS_nat hj0 hjr.2]
        by_cases hq : q = j.toNat
        · subst hq
          simp [sR, hR, va_up, Int.toNat_of_nonneg hj0]
        · have : ¬ ((q : Int) = j) := by omega
          simp [sR, hR, va_up, hq, this]
      have hent : entO G (sR h x j (some z)) x = some (.inl (G.2.1 (ci + 2), (hTy h x).2, .inr (.inr (.inr (.inr (fun q : Nat => (hR (sR h x j (some z)) x (q : Int)).map (adr G.2.2))))))) := by
        have := ent_rf (G := G) (h := sR h x j (some z)) (a := x) (t := 200 + ci) he (by rw [← he]; exact ht)
        rw [this, show 200 + ci - 198 = ci + 2 by omega]
        rfl
      have hRp' : Rep G (sR h x j (some z)) H1 := rep_upd hRp hx3 hxZ rfl g2 hent (by rw [e1]; exact g1) (fun b' hb' => ent_sR hb') g3
      exact Kn_h rfl rfl K ⟨hLR, hLs, (okSt_cons.mp (okSt_cons.mp (okSt_cons.mp hSt).2).2).2, hHk, hRp', g4⟩
    rcases rfO_iff ht with h1 | h1 | h1 | h1
    · exact fin 0 (by omega) rfl (by omega)
    · exact fin 1 (by omega) rfl (by omega)
    · exact fin 4 (by omega) rfl (by omega)
    · exact fin 5 (by omega) rfl (by omega)
  case arraylength =>
    obtain ⟨x, r, rfl, ⟨ht, hl⟩, rfl⟩ := e_len_some hex
    have K1 := Kn_s K (Cg_st hC (okSt_cons.mpr ⟨⟨by omega, by omega⟩, (okSt_cons.mp hSt).2⟩))
    rw [show pcO y (pos + 1) = pcO y pos + 1 from hnx rfl] at K1
    have hnI : Int32.ofNat (hTy h x).2 = iS ((hTy h x).2 : Int) := (iS_nI _).symm
    have hrf : ∀ k, okK k = true → rfO (hTy h x).1 = true → (hTy h x).1 - 198 = k → W p l e R s m args below meth c H locs cells slots Q (F0 m (pcO y pos) lsM (.ref (adr G.2.2 x) :: r.map (mv G.2.2))) := by
      intro k hk ht' he
      have hat := (rep_rf hRp ht').2
      rw [he] at hat
      exact va_alen hx hb (WK_K hWK k hk) (va_P1 hat) 0 0 rfl rfl hnI hdg K1
    rcases ht with ht | ht | ht
    · by_cases hx3 : x < 3
      · obtain ⟨g1, g2⟩ := hRp.2.2.2.2 x hx3
        rw [g1] at hnI K1
        exact va_tlen hx hb (hWK.2.2.2.2 x hx3) hVS hnI hdg K1
      · exact va_alen hx hb (WK_K hWK 0 rfl) (va_P1 (rep_ip hRp (by omega) ht (Or.inl rfl)).2) 0 0 rfl rfl hnI hdg K1
    · exact va_alen hx hb (WK_K hWK 1 rfl) (va_P1 (rep_ip hRp (rep_ge3 hRp (by rw [ht]; decide)) ht (Or.inr rfl)).2) 0 0 rfl rfl hnI hdg K1
    · rcases rfO_iff ht with h1 | h1 | h1 | h1
      · exact hrf 2 rfl ht (by omega)
      · exact hrf 3 rfl ht (by omega)
      · exact hrf 6 rfl ht (by omega)
      · exact hrf 7 rfl ht (by omega)
  case newarray ty =>
    cases ty
    case int =>
      obtain ⟨n, r, rfl, ⟨h0, h1⟩, rfl⟩ := e_newa_some (t := 100) hex
      exact a_newp (t := 0) hx hb hts hWK (Or.inl ⟨rfl, rfl⟩) h0 h1 hC hdg (hnx rfl) (by
        dsimp only at hroom
        rw [hZ_new, hU_new] at hroom
        exact hroom) K
    case char =>
      obtain ⟨n, r, rfl, ⟨h0, h1⟩, rfl⟩ := e_newa_some (t := 101) hex
      exact a_newp (t := 1) hx hb hts hWK (Or.inr ⟨rfl, rfl⟩) h0 h1 hC hdg (hnx rfl) (by
        dsimp only at hroom
        rw [hZ_new, hU_new] at hroom
        exact hroom) K
    all_goals exact absurd (show (none : Option Cf) = some c1 from hex) (by simp)
  case anewarray idx =>
    simp only [ex1] at hex
    by_cases hr : rfO (200 + a) = true
    · rw [if_pos hr] at hex
      obtain ⟨n, r, rfl, ⟨h0, h1⟩, rfl⟩ := e_newa_some hex
      simp only [lnkO, Bool.and_eq_true, decide_eq_true_eq] at hln
      exact a_newr hx hb hts hown hWK hln.2 (wd_in hln.1.2) h0 h1 hC hdg (hnx rfl) (by
        dsimp only at hroom
        rw [hZ_new, hU_new] at hroom
        exact hroom) K
    · rw [if_neg hr] at hex
      cases hex
  case new idx =>
    simp only [ex1] at hex
    by_cases hr : a < 8
    · rw [if_pos hr] at hex
      cases hex
      simp only [lnkO, Bool.and_eq_true, decide_eq_true_eq] at hln
      exact a_new hx hb hts hown hWK hr (wd_in hln.2) hC hdg (hnx rfl) (by
        dsimp only at hroom
        rw [hZ_new, hU_new] at hroom
        exact hroom) K
    · rw [if_neg hr] at hex
      cases hex
  case invokespecial idx =>
    simp only [ex1] at hex
    by_cases hr : b = 6
    · rw [if_pos hr] at hex
      obtain ⟨x, r, rfl, ⟨hd, hrl⟩, rfl⟩ := e_obj_some hex
      simp only [lnkO] at hln
      rw [if_pos hr] at hln
      have K1 := Kn_s K (Cg_st hC (okSt_cons.mp hSt).2)
      rw [show pcO y (pos + 1) = pcO y pos + 3 from hnx rfl] at K1
      refine W.objInit hx hb hown (hts _ (wd_in hln)) (hts _ clP.2.2.2.2.2.1) (hts _ clP.2.2.2.2.2.2) (g := F0 m (pcO y pos) lsM (.ref (adr G.2.2 x) :: r.map (mv G.2.2))) rfl (by rw [hml]; exact hLR.1) (rest := r.map (mv G.2.2)) rfl hdg (by omega) (by
        show 2 * 0 + _ + 12 ≤ _
        rw [cat_sum]
        omega) K1
    · rw [if_neg hr] at hex
      cases hex
  case invokestatic idx =>
    simp only [ex1] at hex
    simp only [lnkO] at hln
    by_cases h7 : b = 7
    · rw [if_pos h7] at hex hln
      obtain ⟨n, dp, x, sp, x0, r, rfl, ⟨hd, hrl, ht0, ht1, hx3, hx03, g1, g2, g3, g4, g5⟩, rfl⟩ := e_cpy_some hex
      have i1 := okSt_cons.mp hSt
      have i2 := okSt_cons.mp i1.2
      have i3 := okSt_cons.mp i2.2
      have i4 := okSt_cons.mp i3.2
      have i5 := okSt_cons.mp i4.2
      have hn : inR n := i1.1
      have hdp : inR dp := i2.1
      have hsp : inR sp := i4.1
      obtain ⟨-, hat0⟩ := rep_ip hRp hx03 ht0 (Or.inl rfl)
      obtain ⟨hxZ, hat1⟩ := rep_ip hRp hx3 ht1 (Or.inl rfl)
      have neg : ∀ z : Int, 0 ≤ z → inR z → ¬ iS z < 0 := fun z hz hz' q => by have := (iS_lt hz' inR_0).mp q; omega
      refine a_cpy hx hb (by rw [hml]; exact hLR.1.symm) hts hown (wd_in hln) (hWK.2.1 0 rfl).1 hat0 hat1 hVS (adr_frA hx3) (neg sp g1 hsp) (neg dp g2 hdp) (neg n g3 hn) (by rw [iS_nat g1 hsp.2, iS_nat g3 hn.2]; omega) (by rw [iS_nat g2 hdp.2, iS_nat g3 hn.2]; omega) (by omega) (by
        have e1 : nativeFrameWords "java/lang/System" "arraycopy" 5 + 11 ≤ 30 := by decide +kernel
        rw [cat_sum]
        omega) hdg fun H1 locs1 k1 k2 k3 k4 => ?_
      rw [← show pcO y (pos + 1) = pcO y pos + 3 from hnx rfl]
      have e1 : (fun q : Nat => iS (hI (sCp h x0 sp x dp n) x (q : Int))) = va_cpy (fun q : Nat => iS (hI h x0 (q : Int))) (fun q : Nat => iS (hI h x (q : Int))) (iS sp).toNatClampNeg (iS dp).toNatClampNeg (iS n).toNatClampNeg := by
        funext q
        rw [iS_nat g1 hsp.2, iS_nat g2 hdp.2, iS_nat g3 hn.2]
        show iS (if x = x ∧ dp ≤ (q : Int) ∧ (q : Int) < dp + n then hI h x0 (sp + ((q : Int) - dp)) else hI h x (q : Int)) = _
        unfold va_cpy
        by_cases hq : dp ≤ (q : Int) ∧ (q : Int) < dp + n
        · rw [if_pos ⟨rfl, hq⟩, if_pos (by omega)]
          congr 2
          omega
        · rw [if_neg (fun z => hq z.2), if_neg (by omega)]
      have hRp' : Rep G (sCp h x0 sp x dp n) H1 := rep_upd hRp hx3 hxZ rfl k2 (ent_ip (h := sCp h x0 sp x dp n) ht1 (Or.inl rfl)) (by rw [e1]; exact k1) (fun b' hb' => ent_sCp hb') k3
      exact Kn_h rfl rfl K ⟨hLR, hLs, i5.2, okH_sCp hHk, hRp', k4⟩
    · rw [if_neg h7] at hex hln
      have mm : ∀ f, f = e_mxF ∨ f = e_mnF → e_mx f d pos ls st h = some c1 → ∃ x z r, st = .inl z :: .inl x :: r ∧ c1 = (pos + 1, ls, .inl (f x z) :: r, h) ∧ 1 ≤ d ∧ r.length ≤ 8 ∧ inR x ∧ inR z ∧ inR (f x z) := by
        intro f hf he
        unfold e_mx at he
        split at he
        · rename_i hd
          obtain ⟨x, z, r, rfl, rfl⟩ := e_bin_some he
          have i1 := okSt_cons.mp hSt
          have i2 := okSt_cons.mp i1.2
          refine ⟨x, z, r, rfl, rfl, hd.1, by have := hd.2; simp only [List.length_cons] at this; omega, i2.1, i1.1, ?_⟩
          rcases hf with rfl | rfl
          · unfold e_mxF; split
            · exact i2.1
            · exact i1.1
          · unfold e_mnF; split
            · exact i2.1
            · exact i1.1
        · cases he
      by_cases h8 : b = 8
      · rw [if_pos h8] at hex hln
        obtain ⟨x, z, r, rfl, rfl, hd, hrl, hxr, hzr, hvr⟩ := mm e_mxF (Or.inl rfl) hex
        have K1 := Kn_s K (Cg_st hC (okSt_cons.mpr ⟨hvr, (okSt_cons.mp (okSt_cons.mp hSt).2).2⟩))
        rw [show pcO y (pos + 1) = pcO y pos + 3 from hnx rfl] at K1
        have ev : (if iS x < iS z then iS z else iS x) = iS (e_mxF x z) := by
          unfold e_mxF
          by_cases hc : z ≤ x
          · rw [if_pos hc, if_neg (fun q => by have := (iS_lt hxr hzr).mp q; omega)]
          · rw [if_neg hc, if_pos ((iS_lt hxr hzr).mpr (by omega))]
        refine va_mmax hx hb (by rw [hml]; exact hLR.1.symm) hown (hts _ (wd_in hln)) (hts _ clM.1) (hts _ clM.2.1) (hts _ clM.2.2.1) (by omega) (by rw [cat_sum]; omega) (by omega) (by omega) hdg ?_
        rw [ev]
        exact K1
      · rw [if_neg h8] at hex hln
        by_cases h9 : b = 9
        · rw [if_pos h9] at hex hln
          obtain ⟨x, z, r, rfl, rfl, hd, hrl, hxr, hzr, hvr⟩ := mm e_mnF (Or.inr rfl) hex
          have K1 := Kn_s K (Cg_st hC (okSt_cons.mpr ⟨hvr, (okSt_cons.mp (okSt_cons.mp hSt).2).2⟩))
          rw [show pcO y (pos + 1) = pcO y pos + 3 from hnx rfl] at K1
          have ev : (if iS z < iS x then iS z else iS x) = iS (e_mnF x z) := by
            unfold e_mnF
            by_cases hc : x ≤ z
            · rw [if_pos hc, if_neg (fun q => by have := (iS_lt hzr hxr).mp q; omega)]
            · rw [if_neg hc, if_pos ((iS_lt hzr hxr).mpr (by omega))]
          refine va_mmin hx hb (by rw [hml]; exact hLR.1.symm) hown (hts _ (wd_in hln)) (hts _ clM.2.2.2.1) (hts _ clM.2.1) (hts _ clM.2.2.2.2) (by omega) (by rw [cat_sum]; omega) (by omega) (by omega) hdg ?_
          rw [ev]
          exact K1
        · rw [if_neg h9] at hex
          cases hex
  all_goals exact absurd (show (none : Option Cf) = some c1 from hex) (by simp)
end AD2
end
section
theorem pc0 : ∀ y, y < 193 → pcO y 0 = 0 := by decide +kernel
theorem hCi_ok : ∀ y, y < 193 → hCi y < 8 → fldC (hCi y) = (hNm y).cls := by decide +kernel
theorem e_ok {c1 : Cf} {h : HP} (e : c1.2.2.2 = h) : hZ h ≤ hZ c1.2.2.2 ∧ hU h ≤ hU c1.2.2.2 := by rw [e]; exact ⟨Nat.le_refl _, Nat.le_refl _⟩
set_option maxHeartbeats 4000000 in
theorem ex1_mono {d pos : Nat} {i : Ins} {ls : Ls} {st : List AV} {h : HP} {c1 : Cf} (hex : ex1 d i pos ls st h = some c1) : hZ h ≤ hZ c1.2.2.2 ∧ hU h ≤ hU c1.2.2.2 := by
  have nw : ∀ (t : Nat × Nat) (n : Nat), hZ h ≤ hZ (sNew h t n) ∧ hU h ≤ hU (sNew h t n) := fun t n => ⟨Nat.le_add_right _ _, Nat.le_add_right _ _⟩
  have mx : ∀ f, e_mx f d pos ls st h = some c1 → hZ h ≤ hZ c1.2.2.2 ∧ hU h ≤ hU c1.2.2.2 := by
    intro f he
    unfold e_mx at he
    split at he
    · obtain ⟨x, z, r, rfl, rfl⟩ := e_bin_some he; exact e_ok rfl
    · cases he
  obtain ⟨raw, v, a, b, w, sw⟩ := i
  cases raw
  case iconst n => obtain ⟨hc, rfl⟩ := e_psh_some hex; exact e_ok rfl
  case bipush n => obtain ⟨hc, rfl⟩ := e_psh_some hex; exact e_ok rfl
  case sipush n => obtain ⟨hc, rfl⟩ := e_psh_some hex; exact e_ok rfl
  case ldc n => obtain ⟨hc, rfl⟩ := e_psh_some hex; exact e_ok rfl
  case ldc_w n => obtain ⟨hc, rfl⟩ := e_psh_some hex; exact e_ok rfl
  case aconst_null => cases hex; exact e_ok rfl
  case iload k => obtain ⟨x, hk, rfl⟩ := e_load_i hex; exact e_ok rfl
  case iload_n k => obtain ⟨x, hk, rfl⟩ := e_load_i hex; exact e_ok rfl
  case aload k => obtain ⟨x, hk, rfl⟩ := e_load_a hex; exact e_ok rfl
  case aload_n k => obtain ⟨x, hk, rfl⟩ := e_load_a hex; exact e_ok rfl
  case istore k => obtain ⟨x, r, rfl, hk, rfl⟩ := e_store_i hex; exact e_ok rfl
  case istore_n k => obtain ⟨x, r, rfl, hk, rfl⟩ := e_store_i hex; exact e_ok rfl
  case astore k => obtain ⟨x, r, rfl, hk, rfl⟩ := e_store_a hex; exact e_ok rfl
  case astore_n k => obtain ⟨x, r, rfl, hk, rfl⟩ := e_store_a hex; exact e_ok rfl
  case iinc k n => obtain ⟨x, hk, hk2, rfl⟩ := e_iinc_some hex; exact e_ok rfl
  case dup => obtain ⟨x, r, rfl, rfl⟩ := e_dup_some hex; exact e_ok rfl
  case dup2 => obtain ⟨x, z, r, rfl, rfl⟩ := e_dup2_some hex; exact e_ok rfl
  case dup_x1 => obtain ⟨x, z, r, rfl, rfl⟩ := e_dupx1_some hex; exact e_ok rfl
  case iadd => obtain ⟨x, z, r, rfl, rfl⟩ := e_bin_some hex; exact e_ok rfl
  case isub => obtain ⟨x, z, r, rfl, rfl⟩ := e_bin_some hex; exact e_ok rfl
  case imul => obtain ⟨x, z, r, rfl, rfl⟩ := e_bin_some hex; exact e_ok rfl
  case idiv => obtain ⟨x, z, r, rfl, h0, rfl⟩ := e_div_some hex; exact e_ok rfl
  case irem => obtain ⟨x, z, r, rfl, h0, rfl⟩ := e_div_some hex; exact e_ok rfl
  case ineg => obtain ⟨x, r, rfl, rfl⟩ := e_un_some hex; exact e_ok rfl
  case ishl => obtain ⟨x, z, r, rfl, rfl⟩ := e_bin_some hex; exact e_ok rfl
  case ishr => obtain ⟨x, z, r, rfl, rfl⟩ := e_bin_some hex; exact e_ok rfl
  case iushr => obtain ⟨x, z, r, rfl, rfl⟩ := e_bin_some hex; exact e_ok rfl
  case iand => obtain ⟨x, z, r, rfl, rfl⟩ := e_bin_some hex; exact e_ok rfl
  case ior => obtain ⟨x, z, r, rfl, rfl⟩ := e_bin_some hex; exact e_ok rfl
  case i2c => obtain ⟨x, r, rfl, rfl⟩ := e_un_some hex; exact e_ok rfl
  case ifCond cd off => obtain ⟨x, r, rfl, rfl⟩ := e_if_some hex; exact e_ok rfl
  case if_icmp cd off => obtain ⟨x, z, r, rfl, rfl⟩ := e_icmp_some hex; exact e_ok rfl
  case goto off => cases hex; exact e_ok rfl
  case ifnonnull off => obtain ⟨o, r, rfl, rfl⟩ := e_nn_some hex; exact e_ok rfl
  case tableswitch df lo hi offs => obtain ⟨x, r, t, rfl, ht, rfl⟩ := e_tsw_some hex; exact e_ok rfl
  case lookupswitch df ps => obtain ⟨x, r, t, rfl, ht, rfl⟩ := e_lsw_some hex; exact e_ok rfl
  case getfield idx => obtain ⟨x, r, rfl, ht, rfl⟩ := e_get_some hex; exact e_ok rfl
  case putfield idx =>
    obtain ⟨v', x, r, rfl, ht, hk, hx3, hcase⟩ := e_put_some hex
    rcases hcase with ⟨z, rfl, h1, h2, h3, rfl⟩ | ⟨z, rfl, h1, rfl⟩
    · exact ⟨Nat.le_refl _, Nat.le_refl _⟩
    · exact ⟨Nat.le_refl _, Nat.le_refl _⟩
  case getstatic idx =>
    simp only [ex1] at hex
    split at hex
    · cases hex; exact e_ok rfl
    · cases hex
  case iaload => obtain ⟨j, x, r, rfl, ht, rfl⟩ := e_ald_some hex; exact e_ok rfl
  case caload => obtain ⟨j, x, r, rfl, ht, rfl⟩ := e_ald_some hex; exact e_ok rfl
  case aaload => obtain ⟨j, x, r, rfl, ht, rfl⟩ := e_aldq_some hex; exact e_ok rfl
  case iastore => obtain ⟨z, j, x, r, rfl, ht, rfl⟩ := e_ast_some hex; exact ⟨Nat.le_refl _, Nat.le_refl _⟩
  case castore => obtain ⟨z, j, x, r, rfl, ht, rfl⟩ := e_ast_some hex; exact ⟨Nat.le_refl _, Nat.le_refl _⟩
  case aastore => obtain ⟨z, j, x, r, rfl, ht, rfl⟩ := e_astq_some hex; exact ⟨Nat.le_refl _, Nat.le_refl _⟩
  case arraylength => obtain ⟨x, r, rfl, ht, rfl⟩ := e_len_some hex; exact e_ok rfl
  case newarray ty =>
    cases ty
    case int => obtain ⟨n, r, rfl, ht, rfl⟩ := e_newa_some (t := 100) hex; exact nw _ _
    case char => obtain ⟨n, r, rfl, ht, rfl⟩ := e_newa_some (t := 101) hex; exact nw _ _
    all_goals exact absurd (show (none : Option Cf) = some c1 from hex) (by simp)
  case anewarray idx =>
    simp only [ex1] at hex
    split at hex
    · obtain ⟨n, r, rfl, ht, rfl⟩ := e_newa_some hex; exact nw _ _
    · cases hex
  case new idx =>
    simp only [ex1] at hex
    split at hex
    · cases hex; exact nw _ _
    · cases hex
  case invokespecial idx =>
    simp only [ex1] at hex
    split at hex
    · obtain ⟨x, r, rfl, ht, rfl⟩ := e_obj_some hex; exact e_ok rfl
    · cases hex
  case invokestatic idx =>
    simp only [ex1] at hex
    split at hex
    · obtain ⟨n, dp, x, sp, x0, r, rfl, ht, rfl⟩ := e_cpy_some hex; exact ⟨Nat.le_refl _, Nat.le_refl _⟩
    · split at hex
      · exact mx _ hex
      · split at hex
        · exact mx _ hex
        · cases hex
  all_goals exact absurd (show (none : Option Cf) = some c1 from hex) (by simp)
theorem e_ret_some {y : Nat} {i : Ins} {st : List AV} {h h' : HP} {v : Option AV} (e : e_ret y i st h = some (v, h')) : h' = h ∧ st = v.toList ∧
    ((v = none ∧ i.1 = .return_ ∧ hRk y = 0) ∨ (∃ x, v = some (.inl x) ∧ i.1 = .ireturn ∧ (hRk y = 1 ∨ hRk y = 2 ∧ 0 ≤ x ∧ x ≤ 1)) ∨ ∃ r, v = some (.inr r) ∧ i.1 = .areturn ∧ hRk y = 3) := by
  unfold e_ret at e
  split at e
  · rename_i hr
    split at e
    · split at e
      · rename_i hk; cases e; exact ⟨rfl, rfl, Or.inl ⟨rfl, hr, hk⟩⟩
      · cases e
    · cases e
  · rename_i hr
    split at e
    · split at e
      · rename_i hk; cases e; exact ⟨rfl, rfl, Or.inr (Or.inl ⟨_, rfl, hr, hk⟩)⟩
      · cases e
    · cases e
  · rename_i hr
    split at e
    · split at e
      · rename_i hk; cases e; exact ⟨rfl, rfl, Or.inr (Or.inr ⟨_, rfl, hr, hk⟩)⟩
      · cases e
    · cases e
  · cases e
theorem run_mono : ∀ (n d y pos : Nat) (ls : Ls) (st : List AV) (h : HP) (v : Option AV) (h' : HP), run n d y pos ls st h = some (v, h') → hZ h ≤ hZ h' ∧ hU h ≤ hU h'
  | 0, d, y, pos, ls, st, h, v, h', e => by simp [run] at e
  | n + 1, d, y, pos, ls, st, h, v, h', e => by
    unfold run at e
    split at e
    · cases e
    · rename_i i hi
      split at e
      · obtain ⟨rfl, -⟩ := e_ret_some e
        exact ⟨Nat.le_refl _, Nat.le_refl _⟩
      · split at e
        · split at e
          · cases e
          · split at e
            · split at e
              · cases e
              · rename_i r hr
                have h1 := run_mono n _ _ _ _ _ _ r.1 r.2 hr
                have h2 := run_mono n _ _ _ _ _ _ _ _ e
                exact ⟨Nat.le_trans h1.1 h2.1, Nat.le_trans h1.2 h2.2⟩
            · cases e
        · split at e
          · cases e
          · rename_i c1 hc
            have h1 := ex1_mono hc
            have h2 := run_mono n _ _ _ _ _ _ _ _ e
            exact ⟨Nat.le_trans h1.1 h2.1, Nat.le_trans h1.2 h2.2⟩
theorem WK_moved {G : GG} {U V : State} (hvm : U.vm.Alike V.vm) (hh : ∀ q : Nat, q < U.heap.size → ¬ frA G.2.2 q → V.heap[q]? = U.heap[q]?) (h : WK G U) : WK G V :=
  ⟨va_K.moved hvm h.1, fun k hk => ⟨arrOfT_moved hvm (h.2.1 k hk).1, (h.2.1 k hk).2.moved hvm⟩, (h.2.2.1.kept hh).moved hvm, (h.2.2.2.1.kept hh).moved hvm, fun a ha => ((h.2.2.2.2 a ha).kept hh).moved hvm⟩
theorem warm_all {args : Array Value} {s : State} (hts : ∀ w ∈ evT, w.before args s = true) : ∀ w ∈ evT, ∀ (a' : Array Value) (U : State), s.WarmedH U.vm → w.before a' U = true := by
  intro w hw a' U hW
  have hb := hts w hw
  have hg := (List.mem_filter.mp hw).2
  unfold evG at hg
  split at hg
  · exact va_AO.use (va_AO.moved hW.alike (va_AO.of hb))
  · exact va_Nw.use rfl (va_Nw.warmF hW (va_Nw.of rfl hb))
  · exact va_Nw.use rfl (va_Nw.warmM hW (va_Nw.of rfl hb))
  · exact word_at hW (good_of_word hg) hb
def wsY (y : Nat) : List Jvm.Cond := Jvm.Cond.code (hNm y) (hBy y) (hMx y) (hRt y) :: evT
theorem okHd_spec {y : Nat} (h : okHd y = true) : Jvm.Cond.code (hNm y) (hBy y) (hMx y) (hRt y) ∈ evT ∧ Jvm.Cond.initialized (hNm y).cls ∈ evT ∧ rkO (hRk y) (hRt y) = true ∧ hAr y ≤ hMx y ∧ hMx y ≤ 20 ∧ Jvm.plainName (hNm y).cls = true ∧ ((hNm y).cls ≠ "java/lang/invoke/MethodHandle" ∧ (hNm y).cls ≠ "java/lang/invoke/VarHandle") := by
  unfold okHd at h
  simp only [Bool.and_eq_true, decide_eq_true_eq] at h
  obtain ⟨⟨⟨⟨⟨⟨⟨h1, h2⟩, h3⟩, h4⟩, h5⟩, h6⟩, h7⟩, -⟩ := h
  exact ⟨wd_in h1, wd_in h2, h3, h4, h5, h6, h7⟩
theorem lv_args_at {P : PP} : ∀ (as : List AV) (n i : Nat) (v : AV), as[i]? = some v → (n + i, mv P v) ∈ lv_args n (as.map (mv P))
  | [], n, i, v, h => by simp at h
  | a :: as, n, i, v, h => by
    simp only [List.map_cons, lv_args, mv_cat]
    match i, h with
    | 0, h =>
      simp only [List.getElem?_cons_zero, Option.some.injEq] at h
      subst h
      exact List.mem_cons_self
    | i + 1, h =>
      rw [List.getElem?_cons_succ] at h
      have := lv_args_at (P := P) as (n + 1) i v h
      rw [show n + (i + 1) = n + 1 + i by omega]
      exact List.mem_cons_of_mem _ this
theorem lg_sl_len {P : PP} : ∀ (as : List AV), (lg_sl (as.map (mv P))).length = as.length
  | [] => rfl
  | a :: as => by
    have := lg_sl_len (P := P) as
    unfold lg_sl at this ⊢
    simp only [List.map_cons, List.flatMap_cons, mv_cat, List.length_append, this]
    simp; omega
theorem ini_at {y : Nat} {as : List AV} {i : Nat} {v : AV} (h : (ini y as)[i]? = some (some v)) : as[i]? = some v := by
  unfold ini at h
  by_cases hi : i < as.length
  · rw [List.getElem?_append_left (by simpa using hi), List.getElem?_map] at h
    obtain ⟨w, hw, he⟩ := Option.map_eq_some_iff.mp h
    cases he
    exact hw
  · rw [List.getElem?_append_right (by simpa using hi), List.getElem?_replicate] at h
    split at h <;> simp at h
def RetO (y : Nat) (v : Option AV) (raw : Instr) : Prop := (v = none ∧ raw = .return_ ∧ hRk y = 0) ∨ (∃ x, v = some (.inl x) ∧ raw = .ireturn ∧ (hRk y = 1 ∨ hRk y = 2 ∧ 0 ≤ x ∧ x ≤ 1)) ∨ ∃ r, v = some (.inr r) ∧ raw = .areturn ∧ hRk y = 3
def AdN (l : Launch) (n : Nat) : Prop := ∀ (G : GG) (d y pos : Nat) (ls : Ls) (st : List AV) (h : HP) (v : Option AV) (h' : HP), y < 193 → run n d y pos ls st h = some (v, h') →
  ∀ (p : Program) (e : Env) (R : Room) (s : State) (m : MethodId) (args : Array Value) (below : List Frame) (meth : Method) (c : Code) (H : Heap) (locs : List Loc) (cells slots : Nat) (Q : State → Prop) (lsM : Array Slot),
    Fx G p s m args meth c y → Cg G s y H locs lsM ls st h → d ≤ R.frames ∧ 40 * d ≤ R.locals → cells + (hZ h' - hZ h) ≤ R.cells ∧ slots + (hU h' - hU h) ≤ R.slots →
    (∀ (pcR : Nat) (raw : Instr) (lsR : Array Slot) (H' : Heap) (locs' : List Loc), decode (hBy y) pcR = .ok (raw, 1) → RetO y v raw → (∀ a, v = some a → okV a) → okH h' → Rep G h' H' → va_S (frA G.2.2) s.heap H' locs' →
      W p l e R s m args below meth c H' locs' (cells + (hZ h' - hZ h)) (slots + (hU h' - hU h)) Q (F0 m pcR lsR (v.toList.map (mv G.2.2)))) →
    W p l e R s m args below meth c H locs cells slots Q (F0 m (pcO y pos) lsM (st.map (mv G.2.2)))
/-- the contract of a method at one heap, by what the evaluator answers there -/
def Cnt (l : Launch) (G : GG) (y d : Nat) (as : List AV) (h : HP) (v : Option AV) (h' : HP) : Prop :=
  Met l (hNm y) (wsY y) ({ frames := d, cells := hZ h' - hZ h, slots := hU h' - hU h, locals := 40 * d } : Room) (va_Pc (as.map (mv G.2.2)) (fun U => Rep G h U.heap ∧ WK G U))
    (fun _ st oc t => (oc = .returned (v.map (mv G.2.2)) ∧ Rep G h' t.heap) ∧ va_F (frA G.2.2) st t) (hZ h' - hZ h) (hU h' - hU h) (frA G.2.2)
theorem entry_LR {P : PP} {y : Nat} {as : List AV} {lsM : Array Slot} (hle : as.length ≤ hMx y) (hl : lv_has lsM (hMx y) (lv_args 0 (as.map (mv P)))) : LR P lsM (hMx y) (ini y as) := by
  obtain ⟨h1, h2, h3⟩ := hl
  refine ⟨h1, h2, by simp [ini]; omega, fun i v hv => ?_⟩
  have := lv_args_at (P := P) as 0 i v (ini_at hv)
  rw [Nat.zero_add] at this
  exact h3 _ this
theorem cnt_of {l : Launch} {n : Nat} (hn : AdN l n) {G : GG} {y d : Nat} {as : List AV} {h h' : HP} {v : Option AV} (hy : y < 193) (hy0 : y ≠ 0) (hrun : run n d y 0 (ini y as) [] h = some (v, h')) (hkh : okH h) (has : okSt as) (hlen : as.length ≤ hMx y) : Cnt l G y d as h v h' := by
  obtain ⟨k1, k2, k3, k4, k5, k6, k7⟩ := okHd_spec (ev_hd y hy0 hy)
  refine Met.ofW (cc := hBy y) (maxL := hMx y) (ret := hRt y) k6 rfl ?_
  intro p e s m args below meth c s₁ B hml hv
  obtain ⟨rfl, hRep, hWK⟩ := hv
  have hts := atoms_spec (ws := wsY y) B.pre
  have hS : va_S (frA G.2.2) s.heap s.heap [] := va_S.rf
  have hl := lv_entry (as.map (mv G.2.2)) (n := hMx y) (by rw [lg_sl_len]; exact hlen)
  rw [lg_entry_eq]
  generalize (lg_sl (as.map (mv G.2.2)) ++ List.replicate (hMx y - (lg_sl (as.map (mv G.2.2))).length) Slot.unset).toArray = lsM at hl ⊢
  have hrn := run_mono _ _ _ _ _ _ _ _ _ hrun
  have key := hn G d y 0 (ini y as) [] h v h' hy hrun p e (headSpec (wsY y) { frames := d, cells := hZ h' - hZ h, slots := hU h' - hU h, locals := 40 * d }).room s m ((as.map (mv G.2.2)).toArray) below meth c s.heap [] 0 0
    (MQ below (fun _ st oc t => (oc = .returned (v.map (mv G.2.2)) ∧ Rep G h' t.heap) ∧ va_F (frA G.2.2) st t) ((as.map (mv G.2.2)).toArray) s (hZ h' - hZ h) (hU h' - hU h) (frA G.2.2)) lsM
    ⟨B.exec, B.bytes, hml, findClass_of_methodNamed B.named, fun w hw => hts w (List.mem_cons_of_mem _ hw), hWK, fun hi => by rw [(name_of_methodNamed B.named B.method).1]; exact hi⟩
    ⟨entry_LR hlen hl, fun i v hv => has v (List.mem_of_getElem? (ini_at hv)), fun v hv => absurd hv List.not_mem_nil, hkh, hRep, hS⟩
    ⟨Nat.le_refl _, Nat.le_refl _⟩ ⟨by simp [headSpec], by simp [headSpec]⟩ ?_
  · rw [pc0 y hy] at key
    exact key
  · intro pcR raw lsR H' locs' hdg hret hok hkh' hRep' hS'
    rw [Nat.zero_add, Nat.zero_add]
    have hlk := B.notSynchronized
    have hq : ∀ t : State, t.heap = H' → s.WarmedH t.vm → ((Outcome.returned (v.map (mv G.2.2)) = .returned (v.map (mv G.2.2)) ∧ Rep G h' t.heap) ∧ va_F (frA G.2.2) s t) := fun t ht hW => ⟨⟨rfl, by rw [ht]; exact hRep'⟩, by rw [ht]; exact hS'.1, fun q h1 h2 => by rw [ht]; exact hS'.2.1 q h1 h2⟩
    have hr := B.returns
    rcases hret with ⟨rfl, rfl, hk⟩ | ⟨x, rfl, rfl, hk⟩ | ⟨r, rfl, rfl, hk⟩
    · rw [hk] at k3
      have hr0 : hRt y = none := by cases hq' : hRt y <;> rw [hq'] at k3 <;> first | rfl | simp [rkO] at k3
      exact W.vret B.exec B.bytes (by rw [hr, hr0]) hq hS'.2.2 hdg
    · rcases hk with hk | ⟨hk, hx0, hx1⟩
      · rw [hk] at k3
        have hr0 : hRt y = some .int := by
          unfold rkO at k3
          split at k3 <;> simp_all
        exact W.iret B.exec B.bytes (by rw [hr, hr0]) hq hS'.2.2 hdg
      · rw [hk] at k3
        have hr0 : hRt y = some .boolean := by
          unfold rkO at k3
          split at k3 <;> simp_all
        exact W.zret (ty := .boolean) B.exec B.bytes (by rw [hr, hr0]) (iS_bool hx0 hx1).1 hq hS'.2.2 hdg
    · rw [hk] at k3
      have hr0 : ∃ C, hRt y = some (.object C) := by
        unfold rkO at k3
        split at k3 <;> simp_all
      obtain ⟨C, hC⟩ := hr0
      refine W.aret (rt := .object C) B.exec B.bytes (by rw [hr, hC]) (Or.inl ⟨C, rfl⟩) ?_ hq hS'.2.2 hdg
      cases r with
      | none => exact Or.inl rfl
      | some a => exact Or.inr ⟨_, rfl⟩
end
section
section AD3
variable {G : GG} {p : Program} {l : Launch} {e : Env} {R : Room} {s : State} {m : MethodId} {args : Array Value} {below : List Frame} {meth : Method} {c : Code} {H : Heap} {locs : List Loc} {cells slots : Nat} {Q : State → Prop}
variable {y pos : Nat} {lsM : Array Slot}
/-- behind a call -/
theorem a_after {mc ms : Nat} {h1 : HP} {v : Option AV} {rest st0 : List Value} {a : Array Value} (hr : va_Run p l e R s m args below meth c H locs cells slots mc ms (F0 m (pcO y pos) lsM st0) rest ((fun _ st oc t => (oc = .returned (v.map (mv G.2.2)) ∧ Rep G h1 t.heap) ∧ va_F (frA G.2.2) st t : Array Value → State → Outcome → State → Prop) a) (frA G.2.2)) (hS : va_S (frA G.2.2) s.heap H locs)
    (kk : ∀ (H1 : Heap) (locs1 : List Loc), Rep G h1 H1 → va_S (frA G.2.2) s.heap H1 locs1 → W p l e R s m args below meth c H1 locs1 (cells + mc) (slots + ms) Q (F0 m (pcO y pos + 3) lsM ((v.map (mv G.2.2)).toList ++ rest))) : W p l e R s m args below meth c H locs cells slots Q (F0 m (pcO y pos) lsM st0) := by
  intro T hT X
  obtain ⟨w, st₀, t, T', L, h0, X', hL, e1, e2, ⟨⟨hv, hb⟩, hz, hk⟩, st⟩ := hr T hT X
  cases hv
  rw [h0] at hz hk
  obtain ⟨t2, a1, b1⟩ := kk T'.heap (locs ++ L) (by rw [e1]; exact hb)
    ⟨Nat.le_trans hS.1 (by rw [e1]; exact hz), fun q h1 h2 => by rw [e1, hk q (Nat.lt_of_lt_of_le h1 hS.1) h2]; exact hS.2.1 q h1 h2, fun q hq => by
      rcases List.mem_append.mp hq with h | h
      · exact hS.2.2 q h
      · exact hL q h⟩ T' rfl X'
  exact ⟨t2, st t2 a1, b1⟩
theorem pc_blind {as : List Value} {h : HP} : FrameBlind (va_Pc as (fun U => Rep G h U.heap ∧ WK G U)) := fun a U g mk q => ⟨q.1, q.2.1, WK_moved (Vm.Alike.refl U.vm) (fun _ _ _ => rfl) q.2.2⟩
theorem pre_S {as : List Value} {h : HP} (hRp : Rep G h H) (hWK : WK G s) (hS : va_S (frA G.2.2) s.heap H locs) : ∀ U : State, U.heap = H → s.WarmedH U.vm → va_Pc as (fun U => Rep G h U.heap ∧ WK G U) as.toArray U :=
  fun U hU hW => ⟨rfl, by rw [hU]; exact hRp, WK_moved hW.alike (fun q h1 h2 => by rw [hU]; exact hS.2.1 q h1 h2) hWK⟩
theorem rcv_some {k y' : Nat} {as : List AV} {h : HP} (e : rcv k y' as h = true) : (k ≤ 1 → ∃ a r, as = .inr (some a) :: r ∧ (hTy h a).1 = hCi y' + 1) ∧ (k = 4 ∨ k = 5 → ∃ a r, as = .inr (some a) :: r) := by
  unfold rcv at e
  split at e
  · exact ⟨fun _ => ⟨_, _, rfl, of_decide_eq_true e⟩, fun q => by omega⟩
  · exact ⟨fun _ => ⟨_, _, rfl, of_decide_eq_true e⟩, fun q => by omega⟩
  · exact ⟨fun q => by omega, fun q => by omega⟩
  · exact ⟨fun q => by omega, fun q => by omega⟩
  · exact ⟨fun q => by omega, fun _ => ⟨_, _, rfl⟩⟩
  · exact ⟨fun q => by omega, fun _ => ⟨_, _, rfl⟩⟩
  · cases e
set_option maxHeartbeats 4000000 in
theorem ad_call {i : Ins} {d' : Nat} {ls : Ls} {st : List AV} {h h1 : HP} {v : Option AV} (hF : Fx G p s m args meth c y) (hok : okI y pos i = true) (hic : isCall i = true) (hC : Cg G s y H locs lsM ls st h) (hRm : d' + 1 ≤ R.frames ∧ 40 * (d' + 1) ≤ R.locals) (hy : i.2.2.1 < 193) (hy0 : i.2.2.1 ≠ 0)
    (hst : hAr i.2.2.1 ≤ st.length ∧ (st.drop (hAr i.2.2.1)).length ≤ 8 ∧ rcv i.2.2.2.1 i.2.2.1 (st.take (hAr i.2.2.1)).reverse h = true) (hroom : cells + (hZ h1 - hZ h) ≤ R.cells ∧ slots + (hU h1 - hU h) ≤ R.slots)
    (hM : Cnt l G i.2.2.1 d' (st.take (hAr i.2.2.1)).reverse h v h1)
    (kk : ∀ (H1 : Heap) (locs1 : List Loc), Rep G h1 H1 → va_S (frA G.2.2) s.heap H1 locs1 → W p l e R s m args below meth c H1 locs1 (cells + (hZ h1 - hZ h)) (slots + (hU h1 - hU h)) Q (F0 m (pcO y (pos + 1)) lsM ((v.toList ++ st.drop (hAr i.2.2.1)).map (mv G.2.2)))) :
    W p l e R s m args below meth c H locs cells slots Q (F0 m (pcO y pos) lsM (st.map (mv G.2.2))) := by
  obtain ⟨raw, w0, y', b, w, sw⟩ := i
  obtain ⟨hx, hb, hml, hown, hts, hWK, hini⟩ := hF
  obtain ⟨hdg, hnx, hln⟩ := okI_spec hok
  obtain ⟨hLR, hLs, hSt, hHk, hRp, hVS⟩ := id hC
  dsimp only at hy hy0 hst hM kk
  obtain ⟨hl1, hl2, hrc⟩ := hst
  obtain ⟨k1, k2, k3, k4, k5, k6, k7⟩ := okHd_spec (ev_hd y' hy0 hy)
  generalize hAs : (st.take (hAr y')).reverse = as at hM hrc
  generalize hRs : st.drop (hAr y') = rs at kk hl2
  have hsp : st = as.reverse ++ rs := by rw [← hAs, ← hRs, List.reverse_reverse, List.take_append_drop]
  have hal : as.length = hAr y' := by rw [← hAs, List.length_reverse, List.length_take]; omega
  have kk' : ∀ (H1 : Heap) (locs1 : List Loc), pcO y (pos + 1) = pcO y pos + 3 → Rep G h1 H1 → va_S (frA G.2.2) s.heap H1 locs1 → W p l e R s m args below meth c H1 locs1 (cells + (hZ h1 - hZ h)) (slots + (hU h1 - hU h)) Q (F0 m (pcO y pos + 3) lsM ((v.map (mv G.2.2)).toList ++ rs.map (mv G.2.2))) := by
    intro H1 locs1 hp hr hs
    have := kk H1 locs1 hr hs
    rw [hp, List.map_append] at this
    cases v <;> exact this
  have hrr : 2 * (F0 m (pcO y pos) lsM (st.map (mv G.2.2))).monitorRoom + ((rs.map (mv G.2.2)).map fun v => v.category).sum ≤ 8 := by
    show 2 * 0 + _ ≤ 8
    rw [cat_sum]
    omega
  have hRR : d' + 1 ≤ R.frames ∧ 8 + (hMx y' + 11) + 40 * d' ≤ R.locals := ⟨hRm.1, by have := hRm.2; omega⟩
  have hwarm : ∀ q ∈ wsY y', ∀ (a' : Array Value) (U : State), s.WarmedH U.vm → q.before a' U = true := by
    intro q hq
    rcases List.mem_cons.mp hq with rfl | hq
    · exact warm_all hts _ k1
    · exact warm_all hts _ hq
  have cb : ∀ (n index : Nat), (parseMethodDescriptor (hNm y').desc).map (fun d => d.parameters.length) = some n → Jvm.Cond.methodLink (hNm y).cls index (hNm y') ∈ evT →
      CallB R s args (hNm y).cls index (hNm y') (hBy y') (hMx y') (hRt y') (wsY y') ({ frames := d', cells := hZ h1 - hZ h, slots := hU h1 - hU h, locals := 40 * d' } : Room) (hZ h1 - hZ h) (hU h1 - hU h) n := by
    intro n index hn hl
    refine ⟨rfl, rfl, hRR.1, hRR.2, hwarm, List.mem_cons_self, hts _ k1, hts _ k2, k7, fun sig hs => ?_, hts _ hl⟩
    rw [hs] at hn
    exact (Option.some.inj hn).symm
  have cn : ∀ (n index : Nat), (parseMethodDescriptor (hNm y').desc).map (fun d => d.parameters.length) = some n → Jvm.Cond.methodLinkNest (hNm y).cls index (hNm y') "PhasorTree" ∈ evT →
      va_CN R s args (hNm y).cls index (hNm y') "PhasorTree" (hBy y') (hMx y') (hRt y') (wsY y') ({ frames := d', cells := hZ h1 - hZ h, slots := hU h1 - hU h, locals := 40 * d' } : Room) (hZ h1 - hZ h) (hU h1 - hU h) n := by
    intro n index hn hl
    refine ⟨⟨rfl, rfl, hRR.1, hRR.2, hwarm, List.mem_cons_self⟩, hts _ k1, hts _ k2, k7, fun sig hs => ?_, hts _ hl⟩
    rw [hs] at hn
    exact (Option.some.inj hn).symm
  have S : CallFix p m c (hBy y) (hMx y) s args evT (hNm y).cls := ⟨hx, hb, hml, hown, hts⟩
  cases raw
  case invokevirtual idx =>
    have hb1 : b ≤ 1 := of_decide_eq_true hic
    obtain ⟨a, r, rfl, hty⟩ := (rcv_some hrc).1 hb1
    simp only [lnkO, Bool.and_eq_true, decide_eq_true_eq] at hln
    obtain ⟨⟨⟨⟨⟨⟨-, hc8⟩, h0⟩, hlk⟩, hiw⟩, hsw⟩, hpl⟩ := hln
    have hat := (rep_obj hRp hty hc8).2
    have hrcv := va_recv (q0 := 0) hWK.1 (va_P1 hat) (clF _ hc8).1 rfl
    rw [show (fldC (hCi y'), fldT (hCi y'), fcn (hCi y')).1 = (hNm y').cls from hCi_ok y' hy hc8] at hrcv
    have hsk : st.map (mv G.2.2) = ((r.map (mv G.2.2)).reverse) ++ .ref (adr G.2.2 a) :: rs.map (mv G.2.2) := by
      rw [hsp]
      simp [mv, va_rf]
    have hn : (r.map (mv G.2.2)).length = hAr y' - 1 := by
      simp only [List.length_cons] at hal
      rw [List.length_map]
      omega
    have hpV : PreV s H (hNm y').cls (adr G.2.2 a) (va_Pc ((Sum.inr (some a) :: r).map (mv G.2.2)) (fun U => Rep G h U.heap ∧ WK G U)) (r.map (mv G.2.2)) := ⟨pc_blind, hrcv, pre_S hRp hWK hVS⟩
    by_cases hb0 : b = 0
    · rw [if_pos hb0] at hlk
      exact a_after (a := #[]) (va_runV S hM ⟨cb _ idx hpl (wd_in hlk), hts _ (wd_in hiw), hts _ (wd_in hsw)⟩ hpV rfl hn hLR.1 hsk hrr hdg hroom) hVS (fun H1 locs1 => kk' H1 locs1 (hnx rfl))
    · rw [if_neg hb0] at hlk
      exact a_after (a := #[]) (va_runVN S hM ⟨cn _ idx hpl (wd_in hlk), hts _ (wd_in hiw), hts _ (wd_in hsw)⟩ hpV rfl hn hLR.1 hsk hrr hdg hroom) hVS (fun H1 locs1 => kk' H1 locs1 (hnx rfl))
  case invokestatic idx =>
    have hb1 : 2 ≤ b ∧ b ≤ 3 := of_decide_eq_true hic
    simp only [lnkO] at hln
    rw [if_neg (by omega), if_neg (by omega), if_neg (by omega)] at hln
    simp only [Bool.and_eq_true, decide_eq_true_eq] at hln
    obtain ⟨⟨⟨-, hlk⟩, hiw⟩, hpl⟩ := hln
    have hsk : st.map (mv G.2.2) = ((as.map (mv G.2.2)).reverse) ++ rs.map (mv G.2.2) := by
      rw [hsp]
      simp
    have hn : (as.map (mv G.2.2)).length = hAr y' := by rw [List.length_map]; exact hal
    have hpS : PreS s H (va_Pc (as.map (mv G.2.2)) (fun U => Rep G h U.heap ∧ WK G U)) (as.map (mv G.2.2)) := ⟨pc_blind, pre_S hRp hWK hVS⟩
    by_cases hb0 : b = 2
    · rw [if_pos hb0] at hlk
      exact a_after (a := #[]) (va_runS S hM ⟨cb _ idx hpl (wd_in hlk), hts _ (wd_in hiw)⟩ hpS rfl hn hLR.1 hsk hrr hdg hroom) hVS (fun H1 locs1 => kk' H1 locs1 (hnx rfl))
    · rw [if_neg hb0] at hlk
      exact a_after (a := #[]) (va_runSN S hM ⟨cn _ idx hpl (wd_in hlk), hts _ (wd_in hiw), trivial⟩ hpS rfl hn hLR.1 hsk hrr hdg hroom) hVS (fun H1 locs1 => kk' H1 locs1 (hnx rfl))
  case invokespecial idx =>
    have hb1 : 4 ≤ b ∧ b ≤ 5 := of_decide_eq_true hic
    obtain ⟨a, r, rfl⟩ := (rcv_some hrc).2 (by omega)
    simp only [lnkO] at hln
    rw [if_neg (by omega)] at hln
    simp only [Bool.and_eq_true, decide_eq_true_eq] at hln
    obtain ⟨⟨⟨⟨⟨⟨-, h0⟩, hlk⟩, hiw⟩, hnm⟩, hrt⟩, hpl⟩ := hln
    have hsk : st.map (mv G.2.2) = ((r.map (mv G.2.2)).reverse) ++ .ref (adr G.2.2 a) :: rs.map (mv G.2.2) := by
      rw [hsp]
      simp [mv, va_rf]
    have hn : (r.map (mv G.2.2)).length = hAr y' - 1 := by
      simp only [List.length_cons] at hal
      rw [List.length_map]
      omega
    have hpS : PreS s H (va_Pc ((Sum.inr (some a) :: r).map (mv G.2.2)) (fun U => Rep G h U.heap ∧ WK G U)) (.ref (adr G.2.2 a) :: r.map (mv G.2.2)) := ⟨pc_blind, pre_S hRp hWK hVS⟩
    have cb' := fun n => cb n idx
    have cn' := fun n => cn n idx
    rw [hrt] at cb' cn'
    by_cases hb0 : b = 4
    · rw [if_pos hb0] at hlk
      exact a_after (a := #[]) (va_runI S hM ⟨cb' _ hpl (wd_in hlk), hnm, hts _ (wd_in hiw)⟩ hpS rfl hn hLR.1 hsk hrr hdg hroom) hVS (fun H1 locs1 => kk' H1 locs1 (hnx rfl))
    · rw [if_neg hb0] at hlk
      exact a_after (a := #[]) (va_runIN S hM ⟨cn' _ hpl (wd_in hlk), hnm, hts _ (wd_in hiw)⟩ hpS rfl hn hLR.1 hsk hrr hdg hroom) hVS (fun H1 locs1 => kk' H1 locs1 (hnx rfl))
  all_goals exact absurd (show (false : Bool) = true from hic) (by decide)
end AD3
theorem ex1_ok {d pos : Nat} {i : Ins} {ls : Ls} {st : List AV} {h : HP} {c1 : Cf} (hk : okLs ls) (hs : okSt st) (hh : okH h) (hex : ex1 d i pos ls st h = some c1) : True := trivial
theorem inst_call_y {y pos : Nat} {i : Ins} (h : lnkO y pos i = true) (hic : isCall i = true) : i.2.2.1 < 193 := by
  obtain ⟨raw, w0, y', b, w, sw⟩ := i
  cases raw
  case invokevirtual idx =>
    simp only [lnkO, Bool.and_eq_true, decide_eq_true_eq] at h
    exact h.1.1.1.1.1.1
  case invokestatic idx =>
    have hb1 : 2 ≤ b ∧ b ≤ 3 := of_decide_eq_true hic
    simp only [lnkO] at h
    rw [if_neg (by omega), if_neg (by omega), if_neg (by omega)] at h
    simp only [Bool.and_eq_true, decide_eq_true_eq] at h
    exact h.1.1.1
  case invokespecial idx =>
    have hb1 : 4 ≤ b ∧ b ≤ 5 := of_decide_eq_true hic
    simp only [lnkO] at h
    rw [if_neg (by omega)] at h
    simp only [Bool.and_eq_true, decide_eq_true_eq] at h
    exact h.1.1.1.1.1.1
  all_goals exact absurd (show (false : Bool) = true from hic) (by decide)
def noLaw (i : Ins) : Bool := !(isCall i) || decide (i.2.2.1 ≠ 0)
end
section
def ok3 (c1 : Cf) : Prop := okLs c1.2.1 ∧ okSt c1.2.2.1 ∧ okH c1.2.2.2
set_option maxHeartbeats 4000000 in
theorem ex1_ok3 {d pos : Nat} {i : Ins} {ls : Ls} {st : List AV} {h : HP} {c1 : Cf} (hL : okLs ls) (hS : okSt st) (hH : okH h) (hex : ex1 d i pos ls st h = some c1) : ok3 c1 := by
  have mx : ∀ f, f = e_mxF ∨ f = e_mnF → e_mx f d pos ls st h = some c1 → ok3 c1 := by
    intro f hf he
    unfold e_mx at he
    split at he
    · obtain ⟨x, z, r, rfl, rfl⟩ := e_bin_some he
      have i1 := okSt_cons.mp hS
      have i2 := okSt_cons.mp i1.2
      refine ⟨hL, okSt_cons.mpr ⟨?_, i2.2⟩, hH⟩
      rcases hf with rfl | rfl
      · show inR (e_mxF x z)
        unfold e_mxF; split
        · exact i2.1
        · exact i1.1
      · show inR (e_mnF x z)
        unfold e_mnF; split
        · exact i2.1
        · exact i1.1
    · cases he
  have bin : ∀ f : Int → Int → Int, (∀ x z, inR (f x z)) → e_bin f pos ls st h = some c1 → ok3 c1 := by
    intro f hf he
    obtain ⟨x, z, r, rfl, rfl⟩ := e_bin_some he
    exact ⟨hL, okSt_cons.mpr ⟨hf _ _, (okSt_cons.mp (okSt_cons.mp hS).2).2⟩, hH⟩
  have dv : ∀ f : Int → Int → Int, (∀ x z, inR (f x z)) → e_div f pos ls st h = some c1 → ok3 c1 := by
    intro f hf he
    obtain ⟨x, z, r, rfl, -, rfl⟩ := e_div_some he
    exact ⟨hL, okSt_cons.mpr ⟨hf _ _, (okSt_cons.mp (okSt_cons.mp hS).2).2⟩, hH⟩
  obtain ⟨raw, v, a, b, w, sw⟩ := i
  cases raw
  case iconst n => obtain ⟨hc, rfl⟩ := e_psh_some hex; exact ⟨hL, okSt_cons.mpr ⟨⟨by omega, by omega⟩, hS⟩, hH⟩
  case bipush n => obtain ⟨hc, rfl⟩ := e_psh_some hex; exact ⟨hL, okSt_cons.mpr ⟨⟨by omega, by omega⟩, hS⟩, hH⟩
  case sipush n => obtain ⟨hc, rfl⟩ := e_psh_some hex; exact ⟨hL, okSt_cons.mpr ⟨⟨by omega, by omega⟩, hS⟩, hH⟩
  case ldc n => obtain ⟨hc, rfl⟩ := e_psh_some hex; exact ⟨hL, okSt_cons.mpr ⟨hc, hS⟩, hH⟩
  case ldc_w n => obtain ⟨hc, rfl⟩ := e_psh_some hex; exact ⟨hL, okSt_cons.mpr ⟨hc, hS⟩, hH⟩
  case aconst_null => cases hex; exact ⟨hL, okSt_cons.mpr ⟨trivial, hS⟩, hH⟩
  case iload k => obtain ⟨x, hk, rfl⟩ := e_load_i hex; exact ⟨hL, okSt_cons.mpr ⟨hL _ _ hk, hS⟩, hH⟩
  case iload_n k => obtain ⟨x, hk, rfl⟩ := e_load_i hex; exact ⟨hL, okSt_cons.mpr ⟨hL _ _ hk, hS⟩, hH⟩
  case aload k => obtain ⟨x, hk, rfl⟩ := e_load_a hex; exact ⟨hL, okSt_cons.mpr ⟨trivial, hS⟩, hH⟩
  case aload_n k => obtain ⟨x, hk, rfl⟩ := e_load_a hex; exact ⟨hL, okSt_cons.mpr ⟨trivial, hS⟩, hH⟩
  case istore k => obtain ⟨x, r, rfl, hk, rfl⟩ := e_store_i hex; exact ⟨okLs_set hL (okSt_cons.mp hS).1, (okSt_cons.mp hS).2, hH⟩
  case istore_n k => obtain ⟨x, r, rfl, hk, rfl⟩ := e_store_i hex; exact ⟨okLs_set hL (okSt_cons.mp hS).1, (okSt_cons.mp hS).2, hH⟩
  case astore k => obtain ⟨x, r, rfl, hk, rfl⟩ := e_store_a hex; exact ⟨okLs_set hL trivial, (okSt_cons.mp hS).2, hH⟩
  case astore_n k => obtain ⟨x, r, rfl, hk, rfl⟩ := e_store_a hex; exact ⟨okLs_set hL trivial, (okSt_cons.mp hS).2, hH⟩
  case iinc k n => obtain ⟨x, hk, hk2, rfl⟩ := e_iinc_some hex; exact ⟨okLs_set hL (inR_wr _), hS, hH⟩
  case dup => obtain ⟨x, r, rfl, rfl⟩ := e_dup_some hex; exact ⟨hL, okSt_cons.mpr ⟨(okSt_cons.mp hS).1, hS⟩, hH⟩
  case dup2 =>
    obtain ⟨x, z, r, rfl, rfl⟩ := e_dup2_some hex
    exact ⟨hL, okSt_cons.mpr ⟨(okSt_cons.mp hS).1, okSt_cons.mpr ⟨(okSt_cons.mp (okSt_cons.mp hS).2).1, hS⟩⟩, hH⟩
  case dup_x1 =>
    obtain ⟨x, z, r, rfl, rfl⟩ := e_dupx1_some hex
    exact ⟨hL, okSt_cons.mpr ⟨(okSt_cons.mp hS).1, okSt_cons.mpr ⟨(okSt_cons.mp (okSt_cons.mp hS).2).1, okSt_cons.mpr ⟨(okSt_cons.mp hS).1, (okSt_cons.mp (okSt_cons.mp hS).2).2⟩⟩⟩, hH⟩
  case iadd => exact bin _ (fun _ _ => inR_wr _) hex
  case isub => exact bin _ (fun _ _ => inR_wr _) hex
  case imul => exact bin _ (fun _ _ => inR_wr _) hex
  case idiv => exact dv _ (fun _ _ => inR_wr _) hex
  case irem => exact dv _ (fun _ _ => inR_wr _) hex
  case ineg => obtain ⟨x, r, rfl, rfl⟩ := e_un_some hex; exact ⟨hL, okSt_cons.mpr ⟨inR_wr _, (okSt_cons.mp hS).2⟩, hH⟩
  case ishl => exact bin _ inR_shl hex
  case ishr => exact bin _ inR_shr hex
  case iushr => exact bin _ inR_ushr hex
  case iand => exact bin _ inR_and hex
  case ior => exact bin _ inR_or hex
  case i2c => obtain ⟨x, r, rfl, rfl⟩ := e_un_some hex; exact ⟨hL, okSt_cons.mpr ⟨inR_i2c _, (okSt_cons.mp hS).2⟩, hH⟩
  case ifCond cd off => obtain ⟨x, r, rfl, rfl⟩ := e_if_some hex; exact ⟨hL, (okSt_cons.mp hS).2, hH⟩
  case if_icmp cd off => obtain ⟨x, z, r, rfl, rfl⟩ := e_icmp_some hex; exact ⟨hL, (okSt_cons.mp (okSt_cons.mp hS).2).2, hH⟩
  case goto off => cases hex; exact ⟨hL, hS, hH⟩
  case ifnonnull off => obtain ⟨o, r, rfl, rfl⟩ := e_nn_some hex; exact ⟨hL, (okSt_cons.mp hS).2, hH⟩
  case tableswitch df lo hi offs => obtain ⟨x, r, t, rfl, ht, rfl⟩ := e_tsw_some hex; exact ⟨hL, (okSt_cons.mp hS).2, hH⟩
  case lookupswitch df ps => obtain ⟨x, r, t, rfl, ht, rfl⟩ := e_lsw_some hex; exact ⟨hL, (okSt_cons.mp hS).2, hH⟩
  case getfield idx =>
    obtain ⟨x, r, rfl, ht, rfl⟩ := e_get_some hex
    refine ⟨hL, okSt_cons.mpr ⟨?_, (okSt_cons.mp hS).2⟩, hH⟩
    split
    · trivial
    · exact hH _ _
  case putfield idx =>
    obtain ⟨v', x, r, rfl, ht, hk, hx3, hcase⟩ := e_put_some hex
    rcases hcase with ⟨z, rfl, h1, h2, h3, rfl⟩ | ⟨z, rfl, h1, rfl⟩
    · exact ⟨hL, (okSt_cons.mp (okSt_cons.mp hS).2).2, okH_sI hH (okSt_cons.mp hS).1⟩
    · exact ⟨hL, (okSt_cons.mp (okSt_cons.mp hS).2).2, hH⟩
  case getstatic idx =>
    simp only [ex1] at hex
    split at hex
    · cases hex; exact ⟨hL, okSt_cons.mpr ⟨trivial, hS⟩, hH⟩
    · cases hex
  case iaload => obtain ⟨j, x, r, rfl, ht, rfl⟩ := e_ald_some hex; exact ⟨hL, okSt_cons.mpr ⟨hH _ _, (okSt_cons.mp (okSt_cons.mp hS).2).2⟩, hH⟩
  case caload => obtain ⟨j, x, r, rfl, ht, rfl⟩ := e_ald_some hex; exact ⟨hL, okSt_cons.mpr ⟨hH _ _, (okSt_cons.mp (okSt_cons.mp hS).2).2⟩, hH⟩
  case aaload => obtain ⟨j, x, r, rfl, ht, rfl⟩ := e_aldq_some hex; exact ⟨hL, okSt_cons.mpr ⟨trivial, (okSt_cons.mp (okSt_cons.mp hS).2).2⟩, hH⟩
  case iastore => obtain ⟨z, j, x, r, rfl, ht, rfl⟩ := e_ast_some hex; exact ⟨hL, (okSt_cons.mp (okSt_cons.mp (okSt_cons.mp hS).2).2).2, okH_sI hH (okSt_cons.mp hS).1⟩
  case castore => obtain ⟨z, j, x, r, rfl, ht, rfl⟩ := e_ast_some hex; exact ⟨hL, (okSt_cons.mp (okSt_cons.mp (okSt_cons.mp hS).2).2).2, okH_sI hH (okSt_cons.mp hS).1⟩
  case aastore => obtain ⟨z, j, x, r, rfl, ht, rfl⟩ := e_astq_some hex; exact ⟨hL, (okSt_cons.mp (okSt_cons.mp (okSt_cons.mp hS).2).2).2, hH⟩
  case arraylength => obtain ⟨x, r, rfl, ht, rfl⟩ := e_len_some hex; exact ⟨hL, okSt_cons.mpr ⟨⟨by omega, by omega⟩, (okSt_cons.mp hS).2⟩, hH⟩
  case newarray ty =>
    cases ty
    case int => obtain ⟨n, r, rfl, ht, rfl⟩ := e_newa_some (t := 100) hex; exact ⟨hL, okSt_cons.mpr ⟨trivial, (okSt_cons.mp hS).2⟩, okH_sNew hH⟩
    case char => obtain ⟨n, r, rfl, ht, rfl⟩ := e_newa_some (t := 101) hex; exact ⟨hL, okSt_cons.mpr ⟨trivial, (okSt_cons.mp hS).2⟩, okH_sNew hH⟩
    all_goals exact absurd (show (none : Option Cf) = some c1 from hex) (by simp)
  case anewarray idx =>
    simp only [ex1] at hex
    split at hex
    · obtain ⟨n, r, rfl, ht, rfl⟩ := e_newa_some hex; exact ⟨hL, okSt_cons.mpr ⟨trivial, (okSt_cons.mp hS).2⟩, okH_sNew hH⟩
    · cases hex
  case new idx =>
    simp only [ex1] at hex
    split at hex
    · cases hex; exact ⟨hL, okSt_cons.mpr ⟨trivial, hS⟩, okH_sNew hH⟩
    · cases hex
  case invokespecial idx =>
    simp only [ex1] at hex
    split at hex
    · obtain ⟨x, r, rfl, ht, rfl⟩ := e_obj_some hex; exact ⟨hL, (okSt_cons.mp hS).2, hH⟩
    · cases hex
  case invokestatic idx =>
    simp only [ex1] at hex
    split at hex
    · obtain ⟨n, dp, x, sp, x0, r, rfl, ht, rfl⟩ := e_cpy_some hex
      exact ⟨hL, fun v hv => hS v (List.mem_cons_of_mem _ (List.mem_cons_of_mem _ (List.mem_cons_of_mem _ (List.mem_cons_of_mem _ (List.mem_cons_of_mem _ hv))))), okH_sCp hH⟩
    · split at hex
      · exact mx _ (Or.inl rfl) hex
      · split at hex
        · exact mx _ (Or.inr rfl) hex
        · cases hex
  all_goals exact absurd (show (none : Option Cf) = some c1 from hex) (by simp)
theorem okSt_take {st : List AV} (h : okSt st) (k : Nat) : okSt (st.take k).reverse ∧ okSt (st.drop k) := ⟨fun v hv => h v (List.mem_of_mem_take (List.mem_reverse.mp hv)), fun v hv => h v (List.mem_of_mem_drop hv)⟩
theorem okLs_ini {y : Nat} {as : List AV} (h : okSt as) : okLs (ini y as) := fun i v hv => h v (List.mem_of_getElem? (ini_at hv))
theorem run_ok : ∀ (n d y pos : Nat) (ls : Ls) (st : List AV) (h : HP) (v : Option AV) (h' : HP), okLs ls → okSt st → okH h → run n d y pos ls st h = some (v, h') → okH h' ∧ ∀ a, v = some a → okV a
  | 0, d, y, pos, ls, st, h, v, h', _, _, _, e => by simp [run] at e
  | n + 1, d, y, pos, ls, st, h, v, h', hL, hS, hH, e => by
    unfold run at e
    split at e
    · cases e
    · rename_i i hi
      split at e
      · obtain ⟨rfl, h1, -⟩ := e_ret_some e
        refine ⟨hH, fun a ha => ?_⟩
        subst ha
        exact hS a (by rw [h1]; exact List.mem_cons_self)
      · split at e
        · split at e
          · cases e
          · split at e
            · split at e
              · cases e
              · rename_i r hr
                have h0 := okSt_take hS (hAr i.2.2.1)
                have h1 := run_ok n _ _ _ _ _ _ r.1 r.2 (okLs_ini h0.1) (fun v hv => absurd hv List.not_mem_nil) hH hr
                refine run_ok n _ _ _ _ _ _ _ _ hL ?_ h1.1 e
                intro a ha
                rcases List.mem_append.mp ha with ha | ha
                · exact h1.2 a (by cases hr1 : r.1 <;> rw [hr1] at ha <;> simp_all)
                · exact h0.2 a ha
            · cases e
        · split at e
          · cases e
          · rename_i c1 hc
            have h1 := ex1_ok3 hL hS hH hc
            exact run_ok n _ _ _ _ _ _ _ _ h1.1 h1.2.1 h1.2.2 e
theorem noLaw_all : ev_cods.all (fun c => c.all noLaw) = true := by decide +kernel
theorem noLaw_at {y pos : Nat} {i : Ins} (h : (cod y)[pos]? = some i) (hc : isCall i = true) : i.2.2.1 ≠ 0 := by
  by_cases hy : y < ev_cods.length
  · have h1 : cod y ∈ ev_cods := by
      unfold cod
      rw [List.getD_eq_getElem?_getD, List.getElem?_eq_getElem hy]
      exact List.getElem_mem hy
    have h2 := List.all_eq_true.mp (List.all_eq_true.mp noLaw_all _ h1) i (List.mem_of_getElem? h)
    unfold noLaw at h2
    rw [hc] at h2
    simpa using h2
  · exfalso
    unfold cod at h
    rw [List.getD_eq_getElem?_getD, List.getElem?_eq_none (show ev_cods.length ≤ y by omega)] at h
    simp at h
/-- THE MACHINE DOES WHAT THE EVALUATOR ANSWERS -/
theorem adN (l : Launch) : ∀ n, AdN l n
  | 0 => fun G d y pos ls st h v h' hy e => by simp [run] at e
  | n + 1 => by
    intro G d y pos ls st h v h' hy e p e' R s m args below meth c H locs cells slots Q lsM hF hC hRm hroom K
    have hmono := run_mono _ _ _ _ _ _ _ _ _ e
    have hokr := run_ok _ _ _ _ _ _ _ _ _ hC.2.1 hC.2.2.1 hC.2.2.2.1 e
    unfold run at e
    split at e
    · cases e
    · rename_i i hi
      have hokI := ev_ok y hy pos i hi
      split at e
      · rename_i hret
        obtain ⟨rfl, hst, hro⟩ := e_ret_some e
        obtain ⟨hdg, -, -⟩ := okI_spec hokI
        have hlen : iLen i = 1 := by
          obtain ⟨raw, w0, a, b, w, sw⟩ := i
          rcases hro with ⟨-, h1, -⟩ | ⟨x, -, h1, -⟩ | ⟨r, -, h1, -⟩ <;> (dsimp only at h1; subst h1; rfl)
        rw [hlen] at hdg
        have K1 := K (pcO y pos) i.1 lsM H locs hdg hro hokr.2 hC.2.2.2.1 hC.2.2.2.2.1 hC.2.2.2.2.2
        rw [Nat.sub_self, Nat.sub_self, Nat.add_zero, Nat.add_zero, ← hst] at K1
        exact K1
      · split at e
        · rename_i hic
          split at e
          · cases e
          · rename_i d'
            split at e
            · rename_i hst
              split at e
              · cases e
              · rename_i r hr
                have hlk := (okI_spec hokI).2.2
                have hy1 := inst_call_y hlk hic
                have hy2 := noLaw_at hi hic
                have h0 := okSt_take hC.2.2.1 (hAr i.2.2.1)
                have m1 := run_mono _ _ _ _ _ _ _ r.1 r.2 hr
                have m2 := run_mono _ _ _ _ _ _ _ _ _ e
                have k1 := run_ok _ _ _ _ _ _ _ r.1 r.2 (okLs_ini h0.1) (fun v hv => absurd hv List.not_mem_nil) hC.2.2.2.1 hr
                obtain ⟨-, -, -, k4, -⟩ := okHd_spec (ev_hd _ hy2 hy1)
                have hcnt : Cnt l G i.2.2.1 d' (st.take (hAr i.2.2.1)).reverse h r.1 r.2 := cnt_of (adN l n) hy1 hy2 hr hC.2.2.2.1 h0.1 (by
                  rw [List.length_reverse, List.length_take]
                  omega)
                refine ad_call hF hokI hic hC hRm hy1 hy2 hst (by omega) hcnt fun H1 locs1 hRp1 hS1 => ?_
                have hst1 : okSt (r.1.toList ++ st.drop (hAr i.2.2.1)) := by
                  intro a ha
                  rcases List.mem_append.mp ha with ha | ha
                  · exact k1.2 a (by cases hr1 : r.1 <;> rw [hr1] at ha <;> simp_all)
                  · exact h0.2 a ha
                refine adN l n G (d' + 1) y (pos + 1) ls _ r.2 v h' hy e p e' R s m args below meth c H1 locs1 _ _ Q lsM hF ⟨hC.1, hC.2.1, hst1, k1.1, hRp1, hS1⟩ hRm (by omega) ?_
                intro pcR raw lsR H' locs' g1 g2 g3 g4 g5 g6
                have K1 := K pcR raw lsR H' locs' g1 g2 g3 g4 g5 g6
                rw [show cells + (hZ r.2 - hZ h) + (hZ h' - hZ r.2) = cells + (hZ h' - hZ h) by omega, show slots + (hU r.2 - hU h) + (hU h' - hU r.2) = slots + (hU h' - hU h) by omega]
                exact K1
            · cases e
        · split at e
          · cases e
          · rename_i c1 hc
            have m1 := ex1_mono hc
            have m2 := run_mono _ _ _ _ _ _ _ _ _ e
            refine ad1 hF hokI hc hC hRm (by omega) ?_
            intro H1 locs1 lsM1 hC1
            refine adN l n G d y c1.1 c1.2.1 c1.2.2.1 c1.2.2.2 v h' hy e p e' R s m args below meth c H1 locs1 _ _ Q lsM1 hF hC1 hRm (by omega) ?_
            intro pcR raw lsR H' locs' g1 g2 g3 g4 g5 g6
            have K1 := K pcR raw lsR H' locs' g1 g2 g3 g4 g5 g6
            rw [show cells + (hZ c1.2.2.2 - hZ h) + (hZ h' - hZ c1.2.2.2) = cells + (hZ h' - hZ h) by omega, show slots + (hU c1.2.2.2 - hU h) + (hU h' - hU c1.2.2.2) = slots + (hU h' - hU h) by omega]
            exact K1
end
section
/-! THE PURE LAYER: what the evaluator answers, as a judgement with rules; no machine behind this row -/
def At (d y pos : Nat) (ls : Ls) (st : List AV) (h : HP) (Q : Option AV → HP → Prop) : Prop := ∃ n v h', run n d y pos ls st h = some (v, h') ∧ Q v h'
def Ca (d y : Nat) (as : List AV) (h : HP) (Q : Option AV → HP → Prop) : Prop := At d y 0 (ini y as) [] h Q
def CaI (d y : Nat) (as : List AV) (h : HP) (Q : Int → HP → Prop) : Prop := Ca d y as h (fun v h' => ∃ x, v = some (.inl x) ∧ Q x h')
def CaR (d y : Nat) (as : List AV) (h : HP) (Q : Option Nat → HP → Prop) : Prop := Ca d y as h (fun v h' => ∃ x, v = some (.inr x) ∧ Q x h')
def CaV (d y : Nat) (as : List AV) (h : HP) (Q : HP → Prop) : Prop := Ca d y as h (fun v h' => v = none ∧ Q h')
theorem run_succ : ∀ (n d y pos : Nat) (ls : Ls) (st : List AV) (h : HP) (r : Option AV × HP), run n d y pos ls st h = some r → run (n + 1) d y pos ls st h = some r
  | 0, d, y, pos, ls, st, h, r, e => by simp [run] at e
  | n + 1, d, y, pos, ls, st, h, r, e => by
    rw [run] at e ⊢
    split at e
    · cases e
    · rename_i i hi
      split at e
      · rename_i h1
        rw [if_pos h1]; exact e
      · rename_i h1
        rw [if_neg h1]
        split at e
        · rename_i h2
          rw [if_pos h2]
          split at e
          · cases e
          · rename_i d'
            split at e
            · rename_i h3
              simp only [if_pos h3]
              split at e
              · cases e
              · rename_i q hq
                rw [run_succ n _ _ _ _ _ _ _ hq]
                exact run_succ n _ _ _ _ _ _ _ e
            · cases e
        · rename_i h2
          rw [if_neg h2]
          split at e
          · cases e
          · rename_i c hc
            exact run_succ n _ _ _ _ _ _ _ e
theorem run_le {n m d y pos : Nat} {ls : Ls} {st : List AV} {h : HP} {r : Option AV × HP} (hnm : n ≤ m) (e : run n d y pos ls st h = some r) : run m d y pos ls st h = some r := by
  induction hnm with
  | refl => exact e
  | step _ ih => exact run_succ _ _ _ _ _ _ _ _ ih
section PX
variable {d y pos p' : Nat} {ls : Ls} {st : List AV} {h : HP} {Q : Option AV → HP → Prop} {C : List Ins}
theorem At.mono {Q' : Option AV → HP → Prop} (hA : At d y pos ls st h Q) (hq : ∀ v h', Q v h' → Q' v h') : At d y pos ls st h Q' := by
  obtain ⟨n, v, h', e, q⟩ := hA
  exact ⟨n, v, h', e, hq v h' q⟩
theorem x_1 (hC : cod y = C) {i : Ins} {ls' : Ls} {st' : List AV} {h' : HP} (hi : C[pos]? = some i) (hr : isRet i = false) (hc : isCall i = false) (hex : ex1 d i pos ls st h = some (p', ls', st', h')) (k : At d y p' ls' st' h' Q) : At d y pos ls st h Q := by
  obtain ⟨n, v, h2, e, q⟩ := k
  refine ⟨n + 1, v, h2, ?_, q⟩
  rw [run, hC, hi]
  simp only [hr, hc, hex, Bool.false_eq_true, if_false]
  exact e
theorem x_ret (hC : cod y = C) {i : Ins} (hi : C[pos]? = some i) (hr : i.1 = .return_) (hk : hRk y = 0) (k : Q none h) : At d y pos ls [] h Q := by
  refine ⟨1, none, h, ?_, k⟩
  rw [run, hC, hi]
  simp [isRet, e_ret, hr, hk]
theorem x_iret (hC : cod y = C) {i : Ins} {x : Int} (hi : C[pos]? = some i) (hr : i.1 = .ireturn) (hk : hRk y = 1) (k : Q (some (.inl x)) h) : At d y pos ls [.inl x] h Q := by
  refine ⟨1, some (.inl x), h, ?_, k⟩
  rw [run, hC, hi]
  simp [isRet, e_ret, hr, hk]
theorem x_zret (hC : cod y = C) {i : Ins} {x : Int} (hi : C[pos]? = some i) (hr : i.1 = .ireturn) (hk : hRk y = 2) (hx : 0 ≤ x ∧ x ≤ 1) (k : Q (some (.inl x)) h) : At d y pos ls [.inl x] h Q := by
  refine ⟨1, some (.inl x), h, ?_, k⟩
  rw [run, hC, hi]
  simp [isRet, e_ret, hr, hk, hx.1, hx.2]
theorem x_aret (hC : cod y = C) {i : Ins} {x : Option Nat} (hi : C[pos]? = some i) (hr : i.1 = .areturn) (hk : hRk y = 3) (k : Q (some (.inr x)) h) : At d y pos ls [.inr x] h Q := by
  refine ⟨1, some (.inr x), h, ?_, k⟩
  rw [run, hC, hi]
  simp [isRet, e_ret, hr, hk]
theorem x_call0 (hC : cod y = C) {i : Ins} {as rs : List AV} (hi : C[pos]? = some i) (hr : isRet i = false) (hc : isCall i = true) (hA : (st.take (hAr i.2.2.1)).reverse = as) (hB : st.drop (hAr i.2.2.1) = rs) (hl : (Nat.ble (hAr i.2.2.1) st.length && Nat.ble rs.length 8) = true) (hv : rcv i.2.2.2.1 i.2.2.1 as h = true)
    (k : Ca d i.2.2.1 as h (fun v h' => At (d + 1) y (pos + 1) ls (v.toList ++ rs) h' Q)) : At (d + 1) y pos ls st h Q := by
  obtain ⟨n, v, h1, e, n2, v2, h2, e2, q⟩ := k
  simp only [Bool.and_eq_true] at hl
  have l1 := Nat.le_of_ble_eq_true hl.1
  have l2 := Nat.le_of_ble_eq_true hl.2
  refine ⟨max n n2 + 1, v2, h2, ?_, q⟩
  rw [run, hC, hi]
  simp only [hr, hc, Bool.false_eq_true, if_false, if_true]
  rw [hA, hB, if_pos ⟨l1, l2, hv⟩, run_le (Nat.le_max_left n n2) e]
  exact run_le (Nat.le_max_right n n2) e2
theorem rcv_v0 {y' a : Nat} {r : List AV} (ht : (hTy h a).1 = hCi y' + 1) : rcv 0 y' (.inr (some a) :: r) h = true := decide_eq_true ht
theorem rcv_v1 {y' a : Nat} {r : List AV} (ht : (hTy h a).1 = hCi y' + 1) : rcv 1 y' (.inr (some a) :: r) h = true := decide_eq_true ht
theorem CaI.of {as : List AV} {q : Int → HP → Prop} {n : Nat} (hn : n = y) (k : CaI d n as h q) {Q' : Option AV → HP → Prop} (hq : ∀ x h', q x h' → Q' (some (.inl x)) h') : Ca d y as h Q' := by
  subst hn
  exact At.mono k (fun v h' ⟨x, e, z⟩ => by rw [e]; exact hq x h' z)
theorem CaR.of {as : List AV} {q : Option Nat → HP → Prop} {n : Nat} (hn : n = y) (k : CaR d n as h q) {Q' : Option AV → HP → Prop} (hq : ∀ x h', q x h' → Q' (some (.inr x)) h') : Ca d y as h Q' := by
  subst hn
  exact At.mono k (fun v h' ⟨x, e, z⟩ => by rw [e]; exact hq x h' z)
theorem CaV.of {as : List AV} {q : HP → Prop} {n : Nat} (hn : n = y) (k : CaV d n as h q) {Q' : Option AV → HP → Prop} (hq : ∀ h', q h' → Q' none h') : Ca d y as h Q' := by
  subst hn
  exact At.mono k (fun v h' ⟨e, z⟩ => by rw [e]; exact hq h' z)
theorem x_iinc (hC : cod y = C) {k : Nat} {c v : Int} {a b w : Nat} {sw : List Nat} {x : Int} {ls' : Ls} (hi : C[pos]? = some (.iinc k c, v, a, b, w, sw)) (hp : pos + 1 = p') (hl : ls[k]? = some (some (.inl x))) (hz : inR (x + c)) (hs : ls.set k (some (.inl (x + c))) = ls') (kk : At d y p' ls' st h Q) : At d y pos ls st h Q := by
  subst hp; subst hs
  refine x_1 hC hi rfl rfl ?_ kk
  simp only [ex1, e_iinc, hl]
  rw [if_pos (List.getElem?_eq_some_iff.mp hl).1, wr_id hz]
def cV (i : Ins) (n : Nat) : Bool := !(isRet i) && isCall i && (i.2.2.1 == n) && Nat.ble i.2.2.2.1 1
def cS (i : Ins) (n : Nat) : Bool := !(isRet i) && isCall i && (i.2.2.1 == n) && (i.2.2.2.1 == 2 || i.2.2.2.1 == 3)
def cN (i : Ins) (n : Nat) : Bool := !(isRet i) && isCall i && (i.2.2.1 == n) && (i.2.2.2.1 == 4 || i.2.2.2.1 == 5)
theorem x_cIV0 (hC : cod y = C) {i : Ins} {n : Nat} {rs : List AV} {q : Nat} (hi : C[pos]? = some i) (hc : cV i n = true) (hp : pos + 1 = p') (ha : hAr n = 1) (hl : Nat.ble rs.length 8 = true) (ht : (hTy h q).1 = hCi n + 1) (k : CaI d n [.inr (some q)] h (fun x h' => At (d + 1) y p' ls (.inl x :: rs) h' Q)) : At (d + 1) y pos ls (.inr (some q) :: rs) h Q := by
  simp only [cV, Bool.and_eq_true, Bool.or_eq_true, Bool.not_eq_true', beq_iff_eq] at hc
  obtain ⟨⟨⟨h1, h2⟩, h3⟩, h4⟩ := hc
  subst h3; subst hp
  refine x_call0 (as := [.inr (some q)]) (rs := rs) hC hi h1 h2 (by rw [ha]; rfl) (by rw [ha]; rfl) (by rw [ha, hl]; rfl) ?_ (CaI.of rfl k (fun x h' z => z))
  rcases (show i.2.2.2.1 = 0 ∨ i.2.2.2.1 = 1 by have := Nat.le_of_ble_eq_true h4; omega) with e | e <;> rw [e]
  · exact rcv_v0 ht
  · exact rcv_v1 ht
theorem x_cIV1 (hC : cod y = C) {i : Ins} {n : Nat} {rs : List AV} {v1 : AV} {q : Nat} (hi : C[pos]? = some i) (hc : cV i n = true) (hp : pos + 1 = p') (ha : hAr n = 2) (hl : Nat.ble rs.length 8 = true) (ht : (hTy h q).1 = hCi n + 1) (k : CaI d n [.inr (some q), v1] h (fun x h' => At (d + 1) y p' ls (.inl x :: rs) h' Q)) : At (d + 1) y pos ls (v1 :: .inr (some q) :: rs) h Q := by
  simp only [cV, Bool.and_eq_true, Bool.or_eq_true, Bool.not_eq_true', beq_iff_eq] at hc
  obtain ⟨⟨⟨h1, h2⟩, h3⟩, h4⟩ := hc
  subst h3; subst hp
  refine x_call0 (as := [.inr (some q), v1]) (rs := rs) hC hi h1 h2 (by rw [ha]; rfl) (by rw [ha]; rfl) (by rw [ha, hl]; rfl) ?_ (CaI.of rfl k (fun x h' z => z))
  rcases (show i.2.2.2.1 = 0 ∨ i.2.2.2.1 = 1 by have := Nat.le_of_ble_eq_true h4; omega) with e | e <;> rw [e]
  · exact rcv_v0 ht
  · exact rcv_v1 ht
theorem x_cIV2 (hC : cod y = C) {i : Ins} {n : Nat} {rs : List AV} {v1 v2 : AV} {q : Nat} (hi : C[pos]? = some i) (hc : cV i n = true) (hp : pos + 1 = p') (ha : hAr n = 3) (hl : Nat.ble rs.length 8 = true) (ht : (hTy h q).1 = hCi n + 1) (k : CaI d n [.inr (some q), v1, v2] h (fun x h' => At (d + 1) y p' ls (.inl x :: rs) h' Q)) : At (d + 1) y pos ls (v2 :: v1 :: .inr (some q) :: rs) h Q := by
  simp only [cV, Bool.and_eq_true, Bool.or_eq_true, Bool.not_eq_true', beq_iff_eq] at hc
  obtain ⟨⟨⟨h1, h2⟩, h3⟩, h4⟩ := hc
  subst h3; subst hp
  refine x_call0 (as := [.inr (some q), v1, v2]) (rs := rs) hC hi h1 h2 (by rw [ha]; rfl) (by rw [ha]; rfl) (by rw [ha, hl]; rfl) ?_ (CaI.of rfl k (fun x h' z => z))
  rcases (show i.2.2.2.1 = 0 ∨ i.2.2.2.1 = 1 by have := Nat.le_of_ble_eq_true h4; omega) with e | e <;> rw [e]
  · exact rcv_v0 ht
  · exact rcv_v1 ht
theorem x_cIV3 (hC : cod y = C) {i : Ins} {n : Nat} {rs : List AV} {v1 v2 v3 : AV} {q : Nat} (hi : C[pos]? = some i) (hc : cV i n = true) (hp : pos + 1 = p') (ha : hAr n = 4) (hl : Nat.ble rs.length 8 = true) (ht : (hTy h q).1 = hCi n + 1) (k : CaI d n [.inr (some q), v1, v2, v3] h (fun x h' => At (d + 1) y p' ls (.inl x :: rs) h' Q)) : At (d + 1) y pos ls (v3 :: v2 :: v1 :: .inr (some q) :: rs) h Q := by
  simp only [cV, Bool.and_eq_true, Bool.or_eq_true, Bool.not_eq_true', beq_iff_eq] at hc
  obtain ⟨⟨⟨h1, h2⟩, h3⟩, h4⟩ := hc
  subst h3; subst hp
  refine x_call0 (as := [.inr (some q), v1, v2, v3]) (rs := rs) hC hi h1 h2 (by rw [ha]; rfl) (by rw [ha]; rfl) (by rw [ha, hl]; rfl) ?_ (CaI.of rfl k (fun x h' z => z))
  rcases (show i.2.2.2.1 = 0 ∨ i.2.2.2.1 = 1 by have := Nat.le_of_ble_eq_true h4; omega) with e | e <;> rw [e]
  · exact rcv_v0 ht
  · exact rcv_v1 ht
theorem x_cIV4 (hC : cod y = C) {i : Ins} {n : Nat} {rs : List AV} {v1 v2 v3 v4 : AV} {q : Nat} (hi : C[pos]? = some i) (hc : cV i n = true) (hp : pos + 1 = p') (ha : hAr n = 5) (hl : Nat.ble rs.length 8 = true) (ht : (hTy h q).1 = hCi n + 1) (k : CaI d n [.inr (some q), v1, v2, v3, v4] h (fun x h' => At (d + 1) y p' ls (.inl x :: rs) h' Q)) : At (d + 1) y pos ls (v4 :: v3 :: v2 :: v1 :: .inr (some q) :: rs) h Q := by
  simp only [cV, Bool.and_eq_true, Bool.or_eq_true, Bool.not_eq_true', beq_iff_eq] at hc
  obtain ⟨⟨⟨h1, h2⟩, h3⟩, h4⟩ := hc
  subst h3; subst hp
  refine x_call0 (as := [.inr (some q), v1, v2, v3, v4]) (rs := rs) hC hi h1 h2 (by rw [ha]; rfl) (by rw [ha]; rfl) (by rw [ha, hl]; rfl) ?_ (CaI.of rfl k (fun x h' z => z))
  rcases (show i.2.2.2.1 = 0 ∨ i.2.2.2.1 = 1 by have := Nat.le_of_ble_eq_true h4; omega) with e | e <;> rw [e]
  · exact rcv_v0 ht
  · exact rcv_v1 ht
theorem x_cIV5 (hC : cod y = C) {i : Ins} {n : Nat} {rs : List AV} {v1 v2 v3 v4 v5 : AV} {q : Nat} (hi : C[pos]? = some i) (hc : cV i n = true) (hp : pos + 1 = p') (ha : hAr n = 6) (hl : Nat.ble rs.length 8 = true) (ht : (hTy h q).1 = hCi n + 1) (k : CaI d n [.inr (some q), v1, v2, v3, v4, v5] h (fun x h' => At (d + 1) y p' ls (.inl x :: rs) h' Q)) : At (d + 1) y pos ls (v5 :: v4 :: v3 :: v2 :: v1 :: .inr (some q) :: rs) h Q := by
  simp only [cV, Bool.and_eq_true, Bool.or_eq_true, Bool.not_eq_true', beq_iff_eq] at hc
  obtain ⟨⟨⟨h1, h2⟩, h3⟩, h4⟩ := hc
  subst h3; subst hp
  refine x_call0 (as := [.inr (some q), v1, v2, v3, v4, v5]) (rs := rs) hC hi h1 h2 (by rw [ha]; rfl) (by rw [ha]; rfl) (by rw [ha, hl]; rfl) ?_ (CaI.of rfl k (fun x h' z => z))
  rcases (show i.2.2.2.1 = 0 ∨ i.2.2.2.1 = 1 by have := Nat.le_of_ble_eq_true h4; omega) with e | e <;> rw [e]
  · exact rcv_v0 ht
  · exact rcv_v1 ht
theorem x_cIS1 (hC : cod y = C) {i : Ins} {n : Nat} {rs : List AV} {v1 : AV} (hi : C[pos]? = some i) (hc : cS i n = true) (hp : pos + 1 = p') (ha : hAr n = 1) (hl : Nat.ble rs.length 8 = true) (k : CaI d n [v1] h (fun x h' => At (d + 1) y p' ls (.inl x :: rs) h' Q)) : At (d + 1) y pos ls (v1 :: rs) h Q := by
  simp only [cS, Bool.and_eq_true, Bool.or_eq_true, Bool.not_eq_true', beq_iff_eq] at hc
  obtain ⟨⟨⟨h1, h2⟩, h3⟩, h4⟩ := hc
  subst h3; subst hp
  refine x_call0 (as := [v1]) (rs := rs) hC hi h1 h2 (by rw [ha]; rfl) (by rw [ha]; rfl) (by rw [ha, hl]; rfl) ?_ (CaI.of rfl k (fun x h' z => z))
  rcases h4 with e | e <;> rw [e] <;> rfl
theorem x_cIS2 (hC : cod y = C) {i : Ins} {n : Nat} {rs : List AV} {v1 v2 : AV} (hi : C[pos]? = some i) (hc : cS i n = true) (hp : pos + 1 = p') (ha : hAr n = 2) (hl : Nat.ble rs.length 8 = true) (k : CaI d n [v1, v2] h (fun x h' => At (d + 1) y p' ls (.inl x :: rs) h' Q)) : At (d + 1) y pos ls (v2 :: v1 :: rs) h Q := by
  simp only [cS, Bool.and_eq_true, Bool.or_eq_true, Bool.not_eq_true', beq_iff_eq] at hc
  obtain ⟨⟨⟨h1, h2⟩, h3⟩, h4⟩ := hc
  subst h3; subst hp
  refine x_call0 (as := [v1, v2]) (rs := rs) hC hi h1 h2 (by rw [ha]; rfl) (by rw [ha]; rfl) (by rw [ha, hl]; rfl) ?_ (CaI.of rfl k (fun x h' z => z))
  rcases h4 with e | e <;> rw [e] <;> rfl
theorem x_cIS3 (hC : cod y = C) {i : Ins} {n : Nat} {rs : List AV} {v1 v2 v3 : AV} (hi : C[pos]? = some i) (hc : cS i n = true) (hp : pos + 1 = p') (ha : hAr n = 3) (hl : Nat.ble rs.length 8 = true) (k : CaI d n [v1, v2, v3] h (fun x h' => At (d + 1) y p' ls (.inl x :: rs) h' Q)) : At (d + 1) y pos ls (v3 :: v2 :: v1 :: rs) h Q := by
  simp only [cS, Bool.and_eq_true, Bool.or_eq_true, Bool.not_eq_true', beq_iff_eq] at hc
  obtain ⟨⟨⟨h1, h2⟩, h3⟩, h4⟩ := hc
  subst h3; subst hp
  refine x_call0 (as := [v1, v2, v3]) (rs := rs) hC hi h1 h2 (by rw [ha]; rfl) (by rw [ha]; rfl) (by rw [ha, hl]; rfl) ?_ (CaI.of rfl k (fun x h' z => z))
  rcases h4 with e | e <;> rw [e] <;> rfl
theorem x_cIS4 (hC : cod y = C) {i : Ins} {n : Nat} {rs : List AV} {v1 v2 v3 v4 : AV} (hi : C[pos]? = some i) (hc : cS i n = true) (hp : pos + 1 = p') (ha : hAr n = 4) (hl : Nat.ble rs.length 8 = true) (k : CaI d n [v1, v2, v3, v4] h (fun x h' => At (d + 1) y p' ls (.inl x :: rs) h' Q)) : At (d + 1) y pos ls (v4 :: v3 :: v2 :: v1 :: rs) h Q := by
  simp only [cS, Bool.and_eq_true, Bool.or_eq_true, Bool.not_eq_true', beq_iff_eq] at hc
  obtain ⟨⟨⟨h1, h2⟩, h3⟩, h4⟩ := hc
  subst h3; subst hp
  refine x_call0 (as := [v1, v2, v3, v4]) (rs := rs) hC hi h1 h2 (by rw [ha]; rfl) (by rw [ha]; rfl) (by rw [ha, hl]; rfl) ?_ (CaI.of rfl k (fun x h' z => z))
  rcases h4 with e | e <;> rw [e] <;> rfl
theorem x_cIS5 (hC : cod y = C) {i : Ins} {n : Nat} {rs : List AV} {v1 v2 v3 v4 v5 : AV} (hi : C[pos]? = some i) (hc : cS i n = true) (hp : pos + 1 = p') (ha : hAr n = 5) (hl : Nat.ble rs.length 8 = true) (k : CaI d n [v1, v2, v3, v4, v5] h (fun x h' => At (d + 1) y p' ls (.inl x :: rs) h' Q)) : At (d + 1) y pos ls (v5 :: v4 :: v3 :: v2 :: v1 :: rs) h Q := by
  simp only [cS, Bool.and_eq_true, Bool.or_eq_true, Bool.not_eq_true', beq_iff_eq] at hc
  obtain ⟨⟨⟨h1, h2⟩, h3⟩, h4⟩ := hc
  subst h3; subst hp
  refine x_call0 (as := [v1, v2, v3, v4, v5]) (rs := rs) hC hi h1 h2 (by rw [ha]; rfl) (by rw [ha]; rfl) (by rw [ha, hl]; rfl) ?_ (CaI.of rfl k (fun x h' z => z))
  rcases h4 with e | e <;> rw [e] <;> rfl
theorem x_cRV0 (hC : cod y = C) {i : Ins} {n : Nat} {rs : List AV} {q : Nat} (hi : C[pos]? = some i) (hc : cV i n = true) (hp : pos + 1 = p') (ha : hAr n = 1) (hl : Nat.ble rs.length 8 = true) (ht : (hTy h q).1 = hCi n + 1) (k : CaR d n [.inr (some q)] h (fun x h' => At (d + 1) y p' ls (.inr x :: rs) h' Q)) : At (d + 1) y pos ls (.inr (some q) :: rs) h Q := by
  simp only [cV, Bool.and_eq_true, Bool.or_eq_true, Bool.not_eq_true', beq_iff_eq] at hc
  obtain ⟨⟨⟨h1, h2⟩, h3⟩, h4⟩ := hc
  subst h3; subst hp
  refine x_call0 (as := [.inr (some q)]) (rs := rs) hC hi h1 h2 (by rw [ha]; rfl) (by rw [ha]; rfl) (by rw [ha, hl]; rfl) ?_ (CaR.of rfl k (fun x h' z => z))
  rcases (show i.2.2.2.1 = 0 ∨ i.2.2.2.1 = 1 by have := Nat.le_of_ble_eq_true h4; omega) with e | e <;> rw [e]
  · exact rcv_v0 ht
  · exact rcv_v1 ht
theorem x_cRV1 (hC : cod y = C) {i : Ins} {n : Nat} {rs : List AV} {v1 : AV} {q : Nat} (hi : C[pos]? = some i) (hc : cV i n = true) (hp : pos + 1 = p') (ha : hAr n = 2) (hl : Nat.ble rs.length 8 = true) (ht : (hTy h q).1 = hCi n + 1) (k : CaR d n [.inr (some q), v1] h (fun x h' => At (d + 1) y p' ls (.inr x :: rs) h' Q)) : At (d + 1) y pos ls (v1 :: .inr (some q) :: rs) h Q := by
  simp only [cV, Bool.and_eq_true, Bool.or_eq_true, Bool.not_eq_true', beq_iff_eq] at hc
  obtain ⟨⟨⟨h1, h2⟩, h3⟩, h4⟩ := hc
  subst h3; subst hp
  refine x_call0 (as := [.inr (some q), v1]) (rs := rs) hC hi h1 h2 (by rw [ha]; rfl) (by rw [ha]; rfl) (by rw [ha, hl]; rfl) ?_ (CaR.of rfl k (fun x h' z => z))
  rcases (show i.2.2.2.1 = 0 ∨ i.2.2.2.1 = 1 by have := Nat.le_of_ble_eq_true h4; omega) with e | e <;> rw [e]
  · exact rcv_v0 ht
  · exact rcv_v1 ht
theorem x_cRV2 (hC : cod y = C) {i : Ins} {n : Nat} {rs : List AV} {v1 v2 : AV} {q : Nat} (hi : C[pos]? = some i) (hc : cV i n = true) (hp : pos + 1 = p') (ha : hAr n = 3) (hl : Nat.ble rs.length 8 = true) (ht : (hTy h q).1 = hCi n + 1) (k : CaR d n [.inr (some q), v1, v2] h (fun x h' => At (d + 1) y p' ls (.inr x :: rs) h' Q)) : At (d + 1) y pos ls (v2 :: v1 :: .inr (some q) :: rs) h Q := by
  simp only [cV, Bool.and_eq_true, Bool.or_eq_true, Bool.not_eq_true', beq_iff_eq] at hc
  obtain ⟨⟨⟨h1, h2⟩, h3⟩, h4⟩ := hc
  subst h3; subst hp
  refine x_call0 (as := [.inr (some q), v1, v2]) (rs := rs) hC hi h1 h2 (by rw [ha]; rfl) (by rw [ha]; rfl) (by rw [ha, hl]; rfl) ?_ (CaR.of rfl k (fun x h' z => z))
  rcases (show i.2.2.2.1 = 0 ∨ i.2.2.2.1 = 1 by have := Nat.le_of_ble_eq_true h4; omega) with e | e <;> rw [e]
  · exact rcv_v0 ht
  · exact rcv_v1 ht
theorem x_cRV3 (hC : cod y = C) {i : Ins} {n : Nat} {rs : List AV} {v1 v2 v3 : AV} {q : Nat} (hi : C[pos]? = some i) (hc : cV i n = true) (hp : pos + 1 = p') (ha : hAr n = 4) (hl : Nat.ble rs.length 8 = true) (ht : (hTy h q).1 = hCi n + 1) (k : CaR d n [.inr (some q), v1, v2, v3] h (fun x h' => At (d + 1) y p' ls (.inr x :: rs) h' Q)) : At (d + 1) y pos ls (v3 :: v2 :: v1 :: .inr (some q) :: rs) h Q := by
  simp only [cV, Bool.and_eq_true, Bool.or_eq_true, Bool.not_eq_true', beq_iff_eq] at hc
  obtain ⟨⟨⟨h1, h2⟩, h3⟩, h4⟩ := hc
  subst h3; subst hp
  refine x_call0 (as := [.inr (some q), v1, v2, v3]) (rs := rs) hC hi h1 h2 (by rw [ha]; rfl) (by rw [ha]; rfl) (by rw [ha, hl]; rfl) ?_ (CaR.of rfl k (fun x h' z => z))
  rcases (show i.2.2.2.1 = 0 ∨ i.2.2.2.1 = 1 by have := Nat.le_of_ble_eq_true h4; omega) with e | e <;> rw [e]
  · exact rcv_v0 ht
  · exact rcv_v1 ht
theorem x_cRV4 (hC : cod y = C) {i : Ins} {n : Nat} {rs : List AV} {v1 v2 v3 v4 : AV} {q : Nat} (hi : C[pos]? = some i) (hc : cV i n = true) (hp : pos + 1 = p') (ha : hAr n = 5) (hl : Nat.ble rs.length 8 = true) (ht : (hTy h q).1 = hCi n + 1) (k : CaR d n [.inr (some q), v1, v2, v3, v4] h (fun x h' => At (d + 1) y p' ls (.inr x :: rs) h' Q)) : At (d + 1) y pos ls (v4 :: v3 :: v2 :: v1 :: .inr (some q) :: rs) h Q := by
  simp only [cV, Bool.and_eq_true, Bool.or_eq_true, Bool.not_eq_true', beq_iff_eq] at hc
  obtain ⟨⟨⟨h1, h2⟩, h3⟩, h4⟩ := hc
  subst h3; subst hp
  refine x_call0 (as := [.inr (some q), v1, v2, v3, v4]) (rs := rs) hC hi h1 h2 (by rw [ha]; rfl) (by rw [ha]; rfl) (by rw [ha, hl]; rfl) ?_ (CaR.of rfl k (fun x h' z => z))
  rcases (show i.2.2.2.1 = 0 ∨ i.2.2.2.1 = 1 by have := Nat.le_of_ble_eq_true h4; omega) with e | e <;> rw [e]
  · exact rcv_v0 ht
  · exact rcv_v1 ht
theorem x_cRV5 (hC : cod y = C) {i : Ins} {n : Nat} {rs : List AV} {v1 v2 v3 v4 v5 : AV} {q : Nat} (hi : C[pos]? = some i) (hc : cV i n = true) (hp : pos + 1 = p') (ha : hAr n = 6) (hl : Nat.ble rs.length 8 = true) (ht : (hTy h q).1 = hCi n + 1) (k : CaR d n [.inr (some q), v1, v2, v3, v4, v5] h (fun x h' => At (d + 1) y p' ls (.inr x :: rs) h' Q)) : At (d + 1) y pos ls (v5 :: v4 :: v3 :: v2 :: v1 :: .inr (some q) :: rs) h Q := by
  simp only [cV, Bool.and_eq_true, Bool.or_eq_true, Bool.not_eq_true', beq_iff_eq] at hc
  obtain ⟨⟨⟨h1, h2⟩, h3⟩, h4⟩ := hc
  subst h3; subst hp
  refine x_call0 (as := [.inr (some q), v1, v2, v3, v4, v5]) (rs := rs) hC hi h1 h2 (by rw [ha]; rfl) (by rw [ha]; rfl) (by rw [ha, hl]; rfl) ?_ (CaR.of rfl k (fun x h' z => z))
  rcases (show i.2.2.2.1 = 0 ∨ i.2.2.2.1 = 1 by have := Nat.le_of_ble_eq_true h4; omega) with e | e <;> rw [e]
  · exact rcv_v0 ht
  · exact rcv_v1 ht
theorem x_cRS1 (hC : cod y = C) {i : Ins} {n : Nat} {rs : List AV} {v1 : AV} (hi : C[pos]? = some i) (hc : cS i n = true) (hp : pos + 1 = p') (ha : hAr n = 1) (hl : Nat.ble rs.length 8 = true) (k : CaR d n [v1] h (fun x h' => At (d + 1) y p' ls (.inr x :: rs) h' Q)) : At (d + 1) y pos ls (v1 :: rs) h Q := by
  simp only [cS, Bool.and_eq_true, Bool.or_eq_true, Bool.not_eq_true', beq_iff_eq] at hc
  obtain ⟨⟨⟨h1, h2⟩, h3⟩, h4⟩ := hc
  subst h3; subst hp
  refine x_call0 (as := [v1]) (rs := rs) hC hi h1 h2 (by rw [ha]; rfl) (by rw [ha]; rfl) (by rw [ha, hl]; rfl) ?_ (CaR.of rfl k (fun x h' z => z))
  rcases h4 with e | e <;> rw [e] <;> rfl
theorem x_cRS2 (hC : cod y = C) {i : Ins} {n : Nat} {rs : List AV} {v1 v2 : AV} (hi : C[pos]? = some i) (hc : cS i n = true) (hp : pos + 1 = p') (ha : hAr n = 2) (hl : Nat.ble rs.length 8 = true) (k : CaR d n [v1, v2] h (fun x h' => At (d + 1) y p' ls (.inr x :: rs) h' Q)) : At (d + 1) y pos ls (v2 :: v1 :: rs) h Q := by
  simp only [cS, Bool.and_eq_true, Bool.or_eq_true, Bool.not_eq_true', beq_iff_eq] at hc
  obtain ⟨⟨⟨h1, h2⟩, h3⟩, h4⟩ := hc
  subst h3; subst hp
  refine x_call0 (as := [v1, v2]) (rs := rs) hC hi h1 h2 (by rw [ha]; rfl) (by rw [ha]; rfl) (by rw [ha, hl]; rfl) ?_ (CaR.of rfl k (fun x h' z => z))
  rcases h4 with e | e <;> rw [e] <;> rfl
theorem x_cRS3 (hC : cod y = C) {i : Ins} {n : Nat} {rs : List AV} {v1 v2 v3 : AV} (hi : C[pos]? = some i) (hc : cS i n = true) (hp : pos + 1 = p') (ha : hAr n = 3) (hl : Nat.ble rs.length 8 = true) (k : CaR d n [v1, v2, v3] h (fun x h' => At (d + 1) y p' ls (.inr x :: rs) h' Q)) : At (d + 1) y pos ls (v3 :: v2 :: v1 :: rs) h Q := by
  simp only [cS, Bool.and_eq_true, Bool.or_eq_true, Bool.not_eq_true', beq_iff_eq] at hc
  obtain ⟨⟨⟨h1, h2⟩, h3⟩, h4⟩ := hc
  subst h3; subst hp
  refine x_call0 (as := [v1, v2, v3]) (rs := rs) hC hi h1 h2 (by rw [ha]; rfl) (by rw [ha]; rfl) (by rw [ha, hl]; rfl) ?_ (CaR.of rfl k (fun x h' z => z))
  rcases h4 with e | e <;> rw [e] <;> rfl
theorem x_cRS4 (hC : cod y = C) {i : Ins} {n : Nat} {rs : List AV} {v1 v2 v3 v4 : AV} (hi : C[pos]? = some i) (hc : cS i n = true) (hp : pos + 1 = p') (ha : hAr n = 4) (hl : Nat.ble rs.length 8 = true) (k : CaR d n [v1, v2, v3, v4] h (fun x h' => At (d + 1) y p' ls (.inr x :: rs) h' Q)) : At (d + 1) y pos ls (v4 :: v3 :: v2 :: v1 :: rs) h Q := by
  simp only [cS, Bool.and_eq_true, Bool.or_eq_true, Bool.not_eq_true', beq_iff_eq] at hc
  obtain ⟨⟨⟨h1, h2⟩, h3⟩, h4⟩ := hc
  subst h3; subst hp
  refine x_call0 (as := [v1, v2, v3, v4]) (rs := rs) hC hi h1 h2 (by rw [ha]; rfl) (by rw [ha]; rfl) (by rw [ha, hl]; rfl) ?_ (CaR.of rfl k (fun x h' z => z))
  rcases h4 with e | e <;> rw [e] <;> rfl
theorem x_cRS5 (hC : cod y = C) {i : Ins} {n : Nat} {rs : List AV} {v1 v2 v3 v4 v5 : AV} (hi : C[pos]? = some i) (hc : cS i n = true) (hp : pos + 1 = p') (ha : hAr n = 5) (hl : Nat.ble rs.length 8 = true) (k : CaR d n [v1, v2, v3, v4, v5] h (fun x h' => At (d + 1) y p' ls (.inr x :: rs) h' Q)) : At (d + 1) y pos ls (v5 :: v4 :: v3 :: v2 :: v1 :: rs) h Q := by
  simp only [cS, Bool.and_eq_true, Bool.or_eq_true, Bool.not_eq_true', beq_iff_eq] at hc
  obtain ⟨⟨⟨h1, h2⟩, h3⟩, h4⟩ := hc
  subst h3; subst hp
  refine x_call0 (as := [v1, v2, v3, v4, v5]) (rs := rs) hC hi h1 h2 (by rw [ha]; rfl) (by rw [ha]; rfl) (by rw [ha, hl]; rfl) ?_ (CaR.of rfl k (fun x h' z => z))
  rcases h4 with e | e <;> rw [e] <;> rfl
theorem x_cVV0 (hC : cod y = C) {i : Ins} {n : Nat} {rs : List AV} {q : Nat} (hi : C[pos]? = some i) (hc : cV i n = true) (hp : pos + 1 = p') (ha : hAr n = 1) (hl : Nat.ble rs.length 8 = true) (ht : (hTy h q).1 = hCi n + 1) (k : CaV d n [.inr (some q)] h (fun h' => At (d + 1) y p' ls rs h' Q)) : At (d + 1) y pos ls (.inr (some q) :: rs) h Q := by
  simp only [cV, Bool.and_eq_true, Bool.or_eq_true, Bool.not_eq_true', beq_iff_eq] at hc
  obtain ⟨⟨⟨h1, h2⟩, h3⟩, h4⟩ := hc
  subst h3; subst hp
  refine x_call0 (as := [.inr (some q)]) (rs := rs) hC hi h1 h2 (by rw [ha]; rfl) (by rw [ha]; rfl) (by rw [ha, hl]; rfl) ?_ (CaV.of rfl k (fun h' z => z))
  rcases (show i.2.2.2.1 = 0 ∨ i.2.2.2.1 = 1 by have := Nat.le_of_ble_eq_true h4; omega) with e | e <;> rw [e]
  · exact rcv_v0 ht
  · exact rcv_v1 ht
theorem x_cVV1 (hC : cod y = C) {i : Ins} {n : Nat} {rs : List AV} {v1 : AV} {q : Nat} (hi : C[pos]? = some i) (hc : cV i n = true) (hp : pos + 1 = p') (ha : hAr n = 2) (hl : Nat.ble rs.length 8 = true) (ht : (hTy h q).1 = hCi n + 1) (k : CaV d n [.inr (some q), v1] h (fun h' => At (d + 1) y p' ls rs h' Q)) : At (d + 1) y pos ls (v1 :: .inr (some q) :: rs) h Q := by
  simp only [cV, Bool.and_eq_true, Bool.or_eq_true, Bool.not_eq_true', beq_iff_eq] at hc
  obtain ⟨⟨⟨h1, h2⟩, h3⟩, h4⟩ := hc
  subst h3; subst hp
  refine x_call0 (as := [.inr (some q), v1]) (rs := rs) hC hi h1 h2 (by rw [ha]; rfl) (by rw [ha]; rfl) (by rw [ha, hl]; rfl) ?_ (CaV.of rfl k (fun h' z => z))
  rcases (show i.2.2.2.1 = 0 ∨ i.2.2.2.1 = 1 by have := Nat.le_of_ble_eq_true h4; omega) with e | e <;> rw [e]
  · exact rcv_v0 ht
  · exact rcv_v1 ht
theorem x_cVV2 (hC : cod y = C) {i : Ins} {n : Nat} {rs : List AV} {v1 v2 : AV} {q : Nat} (hi : C[pos]? = some i) (hc : cV i n = true) (hp : pos + 1 = p') (ha : hAr n = 3) (hl : Nat.ble rs.length 8 = true) (ht : (hTy h q).1 = hCi n + 1) (k : CaV d n [.inr (some q), v1, v2] h (fun h' => At (d + 1) y p' ls rs h' Q)) : At (d + 1) y pos ls (v2 :: v1 :: .inr (some q) :: rs) h Q := by
  simp only [cV, Bool.and_eq_true, Bool.or_eq_true, Bool.not_eq_true', beq_iff_eq] at hc
  obtain ⟨⟨⟨h1, h2⟩, h3⟩, h4⟩ := hc
  subst h3; subst hp
  refine x_call0 (as := [.inr (some q), v1, v2]) (rs := rs) hC hi h1 h2 (by rw [ha]; rfl) (by rw [ha]; rfl) (by rw [ha, hl]; rfl) ?_ (CaV.of rfl k (fun h' z => z))
  rcases (show i.2.2.2.1 = 0 ∨ i.2.2.2.1 = 1 by have := Nat.le_of_ble_eq_true h4; omega) with e | e <;> rw [e]
  · exact rcv_v0 ht
  · exact rcv_v1 ht
theorem x_cVV3 (hC : cod y = C) {i : Ins} {n : Nat} {rs : List AV} {v1 v2 v3 : AV} {q : Nat} (hi : C[pos]? = some i) (hc : cV i n = true) (hp : pos + 1 = p') (ha : hAr n = 4) (hl : Nat.ble rs.length 8 = true) (ht : (hTy h q).1 = hCi n + 1) (k : CaV d n [.inr (some q), v1, v2, v3] h (fun h' => At (d + 1) y p' ls rs h' Q)) : At (d + 1) y pos ls (v3 :: v2 :: v1 :: .inr (some q) :: rs) h Q := by
  simp only [cV, Bool.and_eq_true, Bool.or_eq_true, Bool.not_eq_true', beq_iff_eq] at hc
  obtain ⟨⟨⟨h1, h2⟩, h3⟩, h4⟩ := hc
  subst h3; subst hp
  refine x_call0 (as := [.inr (some q), v1, v2, v3]) (rs := rs) hC hi h1 h2 (by rw [ha]; rfl) (by rw [ha]; rfl) (by rw [ha, hl]; rfl) ?_ (CaV.of rfl k (fun h' z => z))
  rcases (show i.2.2.2.1 = 0 ∨ i.2.2.2.1 = 1 by have := Nat.le_of_ble_eq_true h4; omega) with e | e <;> rw [e]
  · exact rcv_v0 ht
  · exact rcv_v1 ht
theorem x_cVV4 (hC : cod y = C) {i : Ins} {n : Nat} {rs : List AV} {v1 v2 v3 v4 : AV} {q : Nat} (hi : C[pos]? = some i) (hc : cV i n = true) (hp : pos + 1 = p') (ha : hAr n = 5) (hl : Nat.ble rs.length 8 = true) (ht : (hTy h q).1 = hCi n + 1) (k : CaV d n [.inr (some q), v1, v2, v3, v4] h (fun h' => At (d + 1) y p' ls rs h' Q)) : At (d + 1) y pos ls (v4 :: v3 :: v2 :: v1 :: .inr (some q) :: rs) h Q := by
  simp only [cV, Bool.and_eq_true, Bool.or_eq_true, Bool.not_eq_true', beq_iff_eq] at hc
  obtain ⟨⟨⟨h1, h2⟩, h3⟩, h4⟩ := hc
  subst h3; subst hp
  refine x_call0 (as := [.inr (some q), v1, v2, v3, v4]) (rs := rs) hC hi h1 h2 (by rw [ha]; rfl) (by rw [ha]; rfl) (by rw [ha, hl]; rfl) ?_ (CaV.of rfl k (fun h' z => z))
  rcases (show i.2.2.2.1 = 0 ∨ i.2.2.2.1 = 1 by have := Nat.le_of_ble_eq_true h4; omega) with e | e <;> rw [e]
  · exact rcv_v0 ht
  · exact rcv_v1 ht
theorem x_cVV5 (hC : cod y = C) {i : Ins} {n : Nat} {rs : List AV} {v1 v2 v3 v4 v5 : AV} {q : Nat} (hi : C[pos]? = some i) (hc : cV i n = true) (hp : pos + 1 = p') (ha : hAr n = 6) (hl : Nat.ble rs.length 8 = true) (ht : (hTy h q).1 = hCi n + 1) (k : CaV d n [.inr (some q), v1, v2, v3, v4, v5] h (fun h' => At (d + 1) y p' ls rs h' Q)) : At (d + 1) y pos ls (v5 :: v4 :: v3 :: v2 :: v1 :: .inr (some q) :: rs) h Q := by
  simp only [cV, Bool.and_eq_true, Bool.or_eq_true, Bool.not_eq_true', beq_iff_eq] at hc
  obtain ⟨⟨⟨h1, h2⟩, h3⟩, h4⟩ := hc
  subst h3; subst hp
  refine x_call0 (as := [.inr (some q), v1, v2, v3, v4, v5]) (rs := rs) hC hi h1 h2 (by rw [ha]; rfl) (by rw [ha]; rfl) (by rw [ha, hl]; rfl) ?_ (CaV.of rfl k (fun h' z => z))
  rcases (show i.2.2.2.1 = 0 ∨ i.2.2.2.1 = 1 by have := Nat.le_of_ble_eq_true h4; omega) with e | e <;> rw [e]
  · exact rcv_v0 ht
  · exact rcv_v1 ht
theorem x_cVS1 (hC : cod y = C) {i : Ins} {n : Nat} {rs : List AV} {v1 : AV} (hi : C[pos]? = some i) (hc : cS i n = true) (hp : pos + 1 = p') (ha : hAr n = 1) (hl : Nat.ble rs.length 8 = true) (k : CaV d n [v1] h (fun h' => At (d + 1) y p' ls rs h' Q)) : At (d + 1) y pos ls (v1 :: rs) h Q := by
  simp only [cS, Bool.and_eq_true, Bool.or_eq_true, Bool.not_eq_true', beq_iff_eq] at hc
  obtain ⟨⟨⟨h1, h2⟩, h3⟩, h4⟩ := hc
  subst h3; subst hp
  refine x_call0 (as := [v1]) (rs := rs) hC hi h1 h2 (by rw [ha]; rfl) (by rw [ha]; rfl) (by rw [ha, hl]; rfl) ?_ (CaV.of rfl k (fun h' z => z))
  rcases h4 with e | e <;> rw [e] <;> rfl
theorem x_cVS2 (hC : cod y = C) {i : Ins} {n : Nat} {rs : List AV} {v1 v2 : AV} (hi : C[pos]? = some i) (hc : cS i n = true) (hp : pos + 1 = p') (ha : hAr n = 2) (hl : Nat.ble rs.length 8 = true) (k : CaV d n [v1, v2] h (fun h' => At (d + 1) y p' ls rs h' Q)) : At (d + 1) y pos ls (v2 :: v1 :: rs) h Q := by
  simp only [cS, Bool.and_eq_true, Bool.or_eq_true, Bool.not_eq_true', beq_iff_eq] at hc
  obtain ⟨⟨⟨h1, h2⟩, h3⟩, h4⟩ := hc
  subst h3; subst hp
  refine x_call0 (as := [v1, v2]) (rs := rs) hC hi h1 h2 (by rw [ha]; rfl) (by rw [ha]; rfl) (by rw [ha, hl]; rfl) ?_ (CaV.of rfl k (fun h' z => z))
  rcases h4 with e | e <;> rw [e] <;> rfl
theorem x_cVS3 (hC : cod y = C) {i : Ins} {n : Nat} {rs : List AV} {v1 v2 v3 : AV} (hi : C[pos]? = some i) (hc : cS i n = true) (hp : pos + 1 = p') (ha : hAr n = 3) (hl : Nat.ble rs.length 8 = true) (k : CaV d n [v1, v2, v3] h (fun h' => At (d + 1) y p' ls rs h' Q)) : At (d + 1) y pos ls (v3 :: v2 :: v1 :: rs) h Q := by
  simp only [cS, Bool.and_eq_true, Bool.or_eq_true, Bool.not_eq_true', beq_iff_eq] at hc
  obtain ⟨⟨⟨h1, h2⟩, h3⟩, h4⟩ := hc
  subst h3; subst hp
  refine x_call0 (as := [v1, v2, v3]) (rs := rs) hC hi h1 h2 (by rw [ha]; rfl) (by rw [ha]; rfl) (by rw [ha, hl]; rfl) ?_ (CaV.of rfl k (fun h' z => z))
  rcases h4 with e | e <;> rw [e] <;> rfl
theorem x_cVS4 (hC : cod y = C) {i : Ins} {n : Nat} {rs : List AV} {v1 v2 v3 v4 : AV} (hi : C[pos]? = some i) (hc : cS i n = true) (hp : pos + 1 = p') (ha : hAr n = 4) (hl : Nat.ble rs.length 8 = true) (k : CaV d n [v1, v2, v3, v4] h (fun h' => At (d + 1) y p' ls rs h' Q)) : At (d + 1) y pos ls (v4 :: v3 :: v2 :: v1 :: rs) h Q := by
  simp only [cS, Bool.and_eq_true, Bool.or_eq_true, Bool.not_eq_true', beq_iff_eq] at hc
  obtain ⟨⟨⟨h1, h2⟩, h3⟩, h4⟩ := hc
  subst h3; subst hp
  refine x_call0 (as := [v1, v2, v3, v4]) (rs := rs) hC hi h1 h2 (by rw [ha]; rfl) (by rw [ha]; rfl) (by rw [ha, hl]; rfl) ?_ (CaV.of rfl k (fun h' z => z))
  rcases h4 with e | e <;> rw [e] <;> rfl
theorem x_cVS5 (hC : cod y = C) {i : Ins} {n : Nat} {rs : List AV} {v1 v2 v3 v4 v5 : AV} (hi : C[pos]? = some i) (hc : cS i n = true) (hp : pos + 1 = p') (ha : hAr n = 5) (hl : Nat.ble rs.length 8 = true) (k : CaV d n [v1, v2, v3, v4, v5] h (fun h' => At (d + 1) y p' ls rs h' Q)) : At (d + 1) y pos ls (v5 :: v4 :: v3 :: v2 :: v1 :: rs) h Q := by
  simp only [cS, Bool.and_eq_true, Bool.or_eq_true, Bool.not_eq_true', beq_iff_eq] at hc
  obtain ⟨⟨⟨h1, h2⟩, h3⟩, h4⟩ := hc
  subst h3; subst hp
  refine x_call0 (as := [v1, v2, v3, v4, v5]) (rs := rs) hC hi h1 h2 (by rw [ha]; rfl) (by rw [ha]; rfl) (by rw [ha, hl]; rfl) ?_ (CaV.of rfl k (fun h' z => z))
  rcases h4 with e | e <;> rw [e] <;> rfl
theorem x_cVN0 (hC : cod y = C) {i : Ins} {n : Nat} {rs : List AV} {q : Nat} (hi : C[pos]? = some i) (hc : cN i n = true) (hp : pos + 1 = p') (ha : hAr n = 1) (hl : Nat.ble rs.length 8 = true) (k : CaV d n [.inr (some q)] h (fun h' => At (d + 1) y p' ls rs h' Q)) : At (d + 1) y pos ls (.inr (some q) :: rs) h Q := by
  simp only [cN, Bool.and_eq_true, Bool.or_eq_true, Bool.not_eq_true', beq_iff_eq] at hc
  obtain ⟨⟨⟨h1, h2⟩, h3⟩, h4⟩ := hc
  subst h3; subst hp
  refine x_call0 (as := [.inr (some q)]) (rs := rs) hC hi h1 h2 (by rw [ha]; rfl) (by rw [ha]; rfl) (by rw [ha, hl]; rfl) ?_ (CaV.of rfl k (fun h' z => z))
  rcases h4 with e | e <;> rw [e] <;> rfl
def stI (i : Ins) : Nat := match i.1 with
  | .istore k => k + 1
  | .istore_n k => k + 1
  | _ => 0
def stA (i : Ins) : Nat := match i.1 with
  | .astore k => k + 1
  | .astore_n k => k + 1
  | _ => 0
theorem stI_spec {i : Ins} {k : Nat} (h0 : stI i = k + 1) {pos d : Nat} {ls : Ls} {x : Int} {r : List AV} {h : HP} (hl : k < ls.length) : isRet i = false ∧ isCall i = false ∧ ex1 d i pos ls (.inl x :: r) h = some (pos + 1, ls.set k (some (.inl x)), r, h) := by
  obtain ⟨raw, v, a, b, w, sw⟩ := i
  cases raw
  case istore j =>
    obtain rfl : j = k := Nat.succ.inj h0
    exact ⟨rfl, rfl, by simp only [ex1, e_store]; exact if_pos ⟨trivial, hl⟩⟩
  case istore_n j =>
    obtain rfl : (j : Nat) = k := Nat.succ.inj h0
    exact ⟨rfl, rfl, by simp only [ex1, e_store]; exact if_pos ⟨trivial, hl⟩⟩
  all_goals exact absurd h0 (Nat.succ_ne_zero k).symm
theorem stA_spec {i : Ins} {k : Nat} (h0 : stA i = k + 1) {pos d : Nat} {ls : Ls} {x : Option Nat} {r : List AV} {h : HP} (hl : k < ls.length) : isRet i = false ∧ isCall i = false ∧ ex1 d i pos ls (.inr x :: r) h = some (pos + 1, ls.set k (some (.inr x)), r, h) := by
  obtain ⟨raw, v, a, b, w, sw⟩ := i
  cases raw
  case astore j =>
    obtain rfl : j = k := Nat.succ.inj h0
    exact ⟨rfl, rfl, by simp only [ex1, e_store]; exact if_pos ⟨trivial, hl⟩⟩
  case astore_n j =>
    obtain rfl : (j : Nat) = k := Nat.succ.inj h0
    exact ⟨rfl, rfl, by simp only [ex1, e_store]; exact if_pos ⟨trivial, hl⟩⟩
  all_goals exact absurd h0 (Nat.succ_ne_zero k).symm
theorem x_stI0 (hC : cod y = C) {i : Ins} {a0 : Option AV} {l : Ls} {x : Int} {r : List AV} (hi : C[pos]? = some i) (hs : stI i = 0 + 1) (hp : pos + 1 = p') (k : At d y p' (some (.inl x) :: l) r h Q) : At d y pos (a0 :: l) (.inl x :: r) h Q := by
  subst hp
  obtain ⟨h1, h2, h3⟩ := stI_spec (pos := pos) (d := d) (ls := a0 :: l) (x := x) (r := r) (h := h) hs (by simp only [List.length_cons]; omega)
  exact x_1 hC hi h1 h2 h3 k
theorem x_stA0 (hC : cod y = C) {i : Ins} {a0 : Option AV} {l : Ls} {x : Option Nat} {r : List AV} (hi : C[pos]? = some i) (hs : stA i = 0 + 1) (hp : pos + 1 = p') (k : At d y p' (some (.inr x) :: l) r h Q) : At d y pos (a0 :: l) (.inr x :: r) h Q := by
  subst hp
  obtain ⟨h1, h2, h3⟩ := stA_spec (pos := pos) (d := d) (ls := a0 :: l) (x := x) (r := r) (h := h) hs (by simp only [List.length_cons]; omega)
  exact x_1 hC hi h1 h2 h3 k
theorem x_inc0 (hC : cod y = C) {c v : Int} {a b w : Nat} {sw : List Nat} {l : Ls} {x : Int} (hi : C[pos]? = some (.iinc 0 c, v, a, b, w, sw)) (hp : pos + 1 = p') (hz : inR (x + c)) (k : At d y p' (some (.inl (x + c)) :: l) st h Q) : At d y pos (some (.inl x) :: l) st h Q := x_iinc hC hi hp rfl hz rfl k
theorem x_stI1 (hC : cod y = C) {i : Ins} {a0 a1 : Option AV} {l : Ls} {x : Int} {r : List AV} (hi : C[pos]? = some i) (hs : stI i = 1 + 1) (hp : pos + 1 = p') (k : At d y p' (a0 :: some (.inl x) :: l) r h Q) : At d y pos (a0 :: a1 :: l) (.inl x :: r) h Q := by
  subst hp
  obtain ⟨h1, h2, h3⟩ := stI_spec (pos := pos) (d := d) (ls := a0 :: a1 :: l) (x := x) (r := r) (h := h) hs (by simp only [List.length_cons]; omega)
  exact x_1 hC hi h1 h2 h3 k
theorem x_stA1 (hC : cod y = C) {i : Ins} {a0 a1 : Option AV} {l : Ls} {x : Option Nat} {r : List AV} (hi : C[pos]? = some i) (hs : stA i = 1 + 1) (hp : pos + 1 = p') (k : At d y p' (a0 :: some (.inr x) :: l) r h Q) : At d y pos (a0 :: a1 :: l) (.inr x :: r) h Q := by
  subst hp
  obtain ⟨h1, h2, h3⟩ := stA_spec (pos := pos) (d := d) (ls := a0 :: a1 :: l) (x := x) (r := r) (h := h) hs (by simp only [List.length_cons]; omega)
  exact x_1 hC hi h1 h2 h3 k
theorem x_inc1 (hC : cod y = C) {c v : Int} {a b w : Nat} {sw : List Nat} {a0 : Option AV} {l : Ls} {x : Int} (hi : C[pos]? = some (.iinc 1 c, v, a, b, w, sw)) (hp : pos + 1 = p') (hz : inR (x + c)) (k : At d y p' (a0 :: some (.inl (x + c)) :: l) st h Q) : At d y pos (a0 :: some (.inl x) :: l) st h Q := x_iinc hC hi hp rfl hz rfl k
theorem x_stI2 (hC : cod y = C) {i : Ins} {a0 a1 a2 : Option AV} {l : Ls} {x : Int} {r : List AV} (hi : C[pos]? = some i) (hs : stI i = 2 + 1) (hp : pos + 1 = p') (k : At d y p' (a0 :: a1 :: some (.inl x) :: l) r h Q) : At d y pos (a0 :: a1 :: a2 :: l) (.inl x :: r) h Q := by
  subst hp
  obtain ⟨h1, h2, h3⟩ := stI_spec (pos := pos) (d := d) (ls := a0 :: a1 :: a2 :: l) (x := x) (r := r) (h := h) hs (by simp only [List.length_cons]; omega)
  exact x_1 hC hi h1 h2 h3 k
theorem x_stA2 (hC : cod y = C) {i : Ins} {a0 a1 a2 : Option AV} {l : Ls} {x : Option Nat} {r : List AV} (hi : C[pos]? = some i) (hs : stA i = 2 + 1) (hp : pos + 1 = p') (k : At d y p' (a0 :: a1 :: some (.inr x) :: l) r h Q) : At d y pos (a0 :: a1 :: a2 :: l) (.inr x :: r) h Q := by
  subst hp
  obtain ⟨h1, h2, h3⟩ := stA_spec (pos := pos) (d := d) (ls := a0 :: a1 :: a2 :: l) (x := x) (r := r) (h := h) hs (by simp only [List.length_cons]; omega)
  exact x_1 hC hi h1 h2 h3 k
theorem x_inc2 (hC : cod y = C) {c v : Int} {a b w : Nat} {sw : List Nat} {a0 a1 : Option AV} {l : Ls} {x : Int} (hi : C[pos]? = some (.iinc 2 c, v, a, b, w, sw)) (hp : pos + 1 = p') (hz : inR (x + c)) (k : At d y p' (a0 :: a1 :: some (.inl (x + c)) :: l) st h Q) : At d y pos (a0 :: a1 :: some (.inl x) :: l) st h Q := x_iinc hC hi hp rfl hz rfl k
theorem x_stI3 (hC : cod y = C) {i : Ins} {a0 a1 a2 a3 : Option AV} {l : Ls} {x : Int} {r : List AV} (hi : C[pos]? = some i) (hs : stI i = 3 + 1) (hp : pos + 1 = p') (k : At d y p' (a0 :: a1 :: a2 :: some (.inl x) :: l) r h Q) : At d y pos (a0 :: a1 :: a2 :: a3 :: l) (.inl x :: r) h Q := by
  subst hp
  obtain ⟨h1, h2, h3⟩ := stI_spec (pos := pos) (d := d) (ls := a0 :: a1 :: a2 :: a3 :: l) (x := x) (r := r) (h := h) hs (by simp only [List.length_cons]; omega)
  exact x_1 hC hi h1 h2 h3 k
theorem x_stA3 (hC : cod y = C) {i : Ins} {a0 a1 a2 a3 : Option AV} {l : Ls} {x : Option Nat} {r : List AV} (hi : C[pos]? = some i) (hs : stA i = 3 + 1) (hp : pos + 1 = p') (k : At d y p' (a0 :: a1 :: a2 :: some (.inr x) :: l) r h Q) : At d y pos (a0 :: a1 :: a2 :: a3 :: l) (.inr x :: r) h Q := by
  subst hp
  obtain ⟨h1, h2, h3⟩ := stA_spec (pos := pos) (d := d) (ls := a0 :: a1 :: a2 :: a3 :: l) (x := x) (r := r) (h := h) hs (by simp only [List.length_cons]; omega)
  exact x_1 hC hi h1 h2 h3 k
theorem x_inc3 (hC : cod y = C) {c v : Int} {a b w : Nat} {sw : List Nat} {a0 a1 a2 : Option AV} {l : Ls} {x : Int} (hi : C[pos]? = some (.iinc 3 c, v, a, b, w, sw)) (hp : pos + 1 = p') (hz : inR (x + c)) (k : At d y p' (a0 :: a1 :: a2 :: some (.inl (x + c)) :: l) st h Q) : At d y pos (a0 :: a1 :: a2 :: some (.inl x) :: l) st h Q := x_iinc hC hi hp rfl hz rfl k
theorem x_stI4 (hC : cod y = C) {i : Ins} {a0 a1 a2 a3 a4 : Option AV} {l : Ls} {x : Int} {r : List AV} (hi : C[pos]? = some i) (hs : stI i = 4 + 1) (hp : pos + 1 = p') (k : At d y p' (a0 :: a1 :: a2 :: a3 :: some (.inl x) :: l) r h Q) : At d y pos (a0 :: a1 :: a2 :: a3 :: a4 :: l) (.inl x :: r) h Q := by
  subst hp
  obtain ⟨h1, h2, h3⟩ := stI_spec (pos := pos) (d := d) (ls := a0 :: a1 :: a2 :: a3 :: a4 :: l) (x := x) (r := r) (h := h) hs (by simp only [List.length_cons]; omega)
  exact x_1 hC hi h1 h2 h3 k
theorem x_stA4 (hC : cod y = C) {i : Ins} {a0 a1 a2 a3 a4 : Option AV} {l : Ls} {x : Option Nat} {r : List AV} (hi : C[pos]? = some i) (hs : stA i = 4 + 1) (hp : pos + 1 = p') (k : At d y p' (a0 :: a1 :: a2 :: a3 :: some (.inr x) :: l) r h Q) : At d y pos (a0 :: a1 :: a2 :: a3 :: a4 :: l) (.inr x :: r) h Q := by
  subst hp
  obtain ⟨h1, h2, h3⟩ := stA_spec (pos := pos) (d := d) (ls := a0 :: a1 :: a2 :: a3 :: a4 :: l) (x := x) (r := r) (h := h) hs (by simp only [List.length_cons]; omega)
  exact x_1 hC hi h1 h2 h3 k
theorem x_inc4 (hC : cod y = C) {c v : Int} {a b w : Nat} {sw : List Nat} {a0 a1 a2 a3 : Option AV} {l : Ls} {x : Int} (hi : C[pos]? = some (.iinc 4 c, v, a, b, w, sw)) (hp : pos + 1 = p') (hz : inR (x + c)) (k : At d y p' (a0 :: a1 :: a2 :: a3 :: some (.inl (x + c)) :: l) st h Q) : At d y pos (a0 :: a1 :: a2 :: a3 :: some (.inl x) :: l) st h Q := x_iinc hC hi hp rfl hz rfl k
theorem x_stI5 (hC : cod y = C) {i : Ins} {a0 a1 a2 a3 a4 a5 : Option AV} {l : Ls} {x : Int} {r : List AV} (hi : C[pos]? = some i) (hs : stI i = 5 + 1) (hp : pos + 1 = p') (k : At d y p' (a0 :: a1 :: a2 :: a3 :: a4 :: some (.inl x) :: l) r h Q) : At d y pos (a0 :: a1 :: a2 :: a3 :: a4 :: a5 :: l) (.inl x :: r) h Q := by
  subst hp
  obtain ⟨h1, h2, h3⟩ := stI_spec (pos := pos) (d := d) (ls := a0 :: a1 :: a2 :: a3 :: a4 :: a5 :: l) (x := x) (r := r) (h := h) hs (by simp only [List.length_cons]; omega)
  exact x_1 hC hi h1 h2 h3 k
theorem x_stA5 (hC : cod y = C) {i : Ins} {a0 a1 a2 a3 a4 a5 : Option AV} {l : Ls} {x : Option Nat} {r : List AV} (hi : C[pos]? = some i) (hs : stA i = 5 + 1) (hp : pos + 1 = p') (k : At d y p' (a0 :: a1 :: a2 :: a3 :: a4 :: some (.inr x) :: l) r h Q) : At d y pos (a0 :: a1 :: a2 :: a3 :: a4 :: a5 :: l) (.inr x :: r) h Q := by
  subst hp
  obtain ⟨h1, h2, h3⟩ := stA_spec (pos := pos) (d := d) (ls := a0 :: a1 :: a2 :: a3 :: a4 :: a5 :: l) (x := x) (r := r) (h := h) hs (by simp only [List.length_cons]; omega)
  exact x_1 hC hi h1 h2 h3 k
theorem x_inc5 (hC : cod y = C) {c v : Int} {a b w : Nat} {sw : List Nat} {a0 a1 a2 a3 a4 : Option AV} {l : Ls} {x : Int} (hi : C[pos]? = some (.iinc 5 c, v, a, b, w, sw)) (hp : pos + 1 = p') (hz : inR (x + c)) (k : At d y p' (a0 :: a1 :: a2 :: a3 :: a4 :: some (.inl (x + c)) :: l) st h Q) : At d y pos (a0 :: a1 :: a2 :: a3 :: a4 :: some (.inl x) :: l) st h Q := x_iinc hC hi hp rfl hz rfl k
theorem x_stI6 (hC : cod y = C) {i : Ins} {a0 a1 a2 a3 a4 a5 a6 : Option AV} {l : Ls} {x : Int} {r : List AV} (hi : C[pos]? = some i) (hs : stI i = 6 + 1) (hp : pos + 1 = p') (k : At d y p' (a0 :: a1 :: a2 :: a3 :: a4 :: a5 :: some (.inl x) :: l) r h Q) : At d y pos (a0 :: a1 :: a2 :: a3 :: a4 :: a5 :: a6 :: l) (.inl x :: r) h Q := by
  subst hp
  obtain ⟨h1, h2, h3⟩ := stI_spec (pos := pos) (d := d) (ls := a0 :: a1 :: a2 :: a3 :: a4 :: a5 :: a6 :: l) (x := x) (r := r) (h := h) hs (by simp only [List.length_cons]; omega)
  exact x_1 hC hi h1 h2 h3 k
theorem x_stA6 (hC : cod y = C) {i : Ins} {a0 a1 a2 a3 a4 a5 a6 : Option AV} {l : Ls} {x : Option Nat} {r : List AV} (hi : C[pos]? = some i) (hs : stA i = 6 + 1) (hp : pos + 1 = p') (k : At d y p' (a0 :: a1 :: a2 :: a3 :: a4 :: a5 :: some (.inr x) :: l) r h Q) : At d y pos (a0 :: a1 :: a2 :: a3 :: a4 :: a5 :: a6 :: l) (.inr x :: r) h Q := by
  subst hp
  obtain ⟨h1, h2, h3⟩ := stA_spec (pos := pos) (d := d) (ls := a0 :: a1 :: a2 :: a3 :: a4 :: a5 :: a6 :: l) (x := x) (r := r) (h := h) hs (by simp only [List.length_cons]; omega)
  exact x_1 hC hi h1 h2 h3 k
theorem x_inc6 (hC : cod y = C) {c v : Int} {a b w : Nat} {sw : List Nat} {a0 a1 a2 a3 a4 a5 : Option AV} {l : Ls} {x : Int} (hi : C[pos]? = some (.iinc 6 c, v, a, b, w, sw)) (hp : pos + 1 = p') (hz : inR (x + c)) (k : At d y p' (a0 :: a1 :: a2 :: a3 :: a4 :: a5 :: some (.inl (x + c)) :: l) st h Q) : At d y pos (a0 :: a1 :: a2 :: a3 :: a4 :: a5 :: some (.inl x) :: l) st h Q := x_iinc hC hi hp rfl hz rfl k
theorem x_stI7 (hC : cod y = C) {i : Ins} {a0 a1 a2 a3 a4 a5 a6 a7 : Option AV} {l : Ls} {x : Int} {r : List AV} (hi : C[pos]? = some i) (hs : stI i = 7 + 1) (hp : pos + 1 = p') (k : At d y p' (a0 :: a1 :: a2 :: a3 :: a4 :: a5 :: a6 :: some (.inl x) :: l) r h Q) : At d y pos (a0 :: a1 :: a2 :: a3 :: a4 :: a5 :: a6 :: a7 :: l) (.inl x :: r) h Q := by
  subst hp
  obtain ⟨h1, h2, h3⟩ := stI_spec (pos := pos) (d := d) (ls := a0 :: a1 :: a2 :: a3 :: a4 :: a5 :: a6 :: a7 :: l) (x := x) (r := r) (h := h) hs (by simp only [List.length_cons]; omega)
  exact x_1 hC hi h1 h2 h3 k
theorem x_stA7 (hC : cod y = C) {i : Ins} {a0 a1 a2 a3 a4 a5 a6 a7 : Option AV} {l : Ls} {x : Option Nat} {r : List AV} (hi : C[pos]? = some i) (hs : stA i = 7 + 1) (hp : pos + 1 = p') (k : At d y p' (a0 :: a1 :: a2 :: a3 :: a4 :: a5 :: a6 :: some (.inr x) :: l) r h Q) : At d y pos (a0 :: a1 :: a2 :: a3 :: a4 :: a5 :: a6 :: a7 :: l) (.inr x :: r) h Q := by
  subst hp
  obtain ⟨h1, h2, h3⟩ := stA_spec (pos := pos) (d := d) (ls := a0 :: a1 :: a2 :: a3 :: a4 :: a5 :: a6 :: a7 :: l) (x := x) (r := r) (h := h) hs (by simp only [List.length_cons]; omega)
  exact x_1 hC hi h1 h2 h3 k
theorem x_inc7 (hC : cod y = C) {c v : Int} {a b w : Nat} {sw : List Nat} {a0 a1 a2 a3 a4 a5 a6 : Option AV} {l : Ls} {x : Int} (hi : C[pos]? = some (.iinc 7 c, v, a, b, w, sw)) (hp : pos + 1 = p') (hz : inR (x + c)) (k : At d y p' (a0 :: a1 :: a2 :: a3 :: a4 :: a5 :: a6 :: some (.inl (x + c)) :: l) st h Q) : At d y pos (a0 :: a1 :: a2 :: a3 :: a4 :: a5 :: a6 :: some (.inl x) :: l) st h Q := x_iinc hC hi hp rfl hz rfl k
theorem x_stI8 (hC : cod y = C) {i : Ins} {a0 a1 a2 a3 a4 a5 a6 a7 a8 : Option AV} {l : Ls} {x : Int} {r : List AV} (hi : C[pos]? = some i) (hs : stI i = 8 + 1) (hp : pos + 1 = p') (k : At d y p' (a0 :: a1 :: a2 :: a3 :: a4 :: a5 :: a6 :: a7 :: some (.inl x) :: l) r h Q) : At d y pos (a0 :: a1 :: a2 :: a3 :: a4 :: a5 :: a6 :: a7 :: a8 :: l) (.inl x :: r) h Q := by
  subst hp
  obtain ⟨h1, h2, h3⟩ := stI_spec (pos := pos) (d := d) (ls := a0 :: a1 :: a2 :: a3 :: a4 :: a5 :: a6 :: a7 :: a8 :: l) (x := x) (r := r) (h := h) hs (by simp only [List.length_cons]; omega)
  exact x_1 hC hi h1 h2 h3 k
theorem x_stA8 (hC : cod y = C) {i : Ins} {a0 a1 a2 a3 a4 a5 a6 a7 a8 : Option AV} {l : Ls} {x : Option Nat} {r : List AV} (hi : C[pos]? = some i) (hs : stA i = 8 + 1) (hp : pos + 1 = p') (k : At d y p' (a0 :: a1 :: a2 :: a3 :: a4 :: a5 :: a6 :: a7 :: some (.inr x) :: l) r h Q) : At d y pos (a0 :: a1 :: a2 :: a3 :: a4 :: a5 :: a6 :: a7 :: a8 :: l) (.inr x :: r) h Q := by
  subst hp
  obtain ⟨h1, h2, h3⟩ := stA_spec (pos := pos) (d := d) (ls := a0 :: a1 :: a2 :: a3 :: a4 :: a5 :: a6 :: a7 :: a8 :: l) (x := x) (r := r) (h := h) hs (by simp only [List.length_cons]; omega)
  exact x_1 hC hi h1 h2 h3 k
theorem x_inc8 (hC : cod y = C) {c v : Int} {a b w : Nat} {sw : List Nat} {a0 a1 a2 a3 a4 a5 a6 a7 : Option AV} {l : Ls} {x : Int} (hi : C[pos]? = some (.iinc 8 c, v, a, b, w, sw)) (hp : pos + 1 = p') (hz : inR (x + c)) (k : At d y p' (a0 :: a1 :: a2 :: a3 :: a4 :: a5 :: a6 :: a7 :: some (.inl (x + c)) :: l) st h Q) : At d y pos (a0 :: a1 :: a2 :: a3 :: a4 :: a5 :: a6 :: a7 :: some (.inl x) :: l) st h Q := x_iinc hC hi hp rfl hz rfl k
theorem x_stI9 (hC : cod y = C) {i : Ins} {a0 a1 a2 a3 a4 a5 a6 a7 a8 a9 : Option AV} {l : Ls} {x : Int} {r : List AV} (hi : C[pos]? = some i) (hs : stI i = 9 + 1) (hp : pos + 1 = p') (k : At d y p' (a0 :: a1 :: a2 :: a3 :: a4 :: a5 :: a6 :: a7 :: a8 :: some (.inl x) :: l) r h Q) : At d y pos (a0 :: a1 :: a2 :: a3 :: a4 :: a5 :: a6 :: a7 :: a8 :: a9 :: l) (.inl x :: r) h Q := by
  subst hp
  obtain ⟨h1, h2, h3⟩ := stI_spec (pos := pos) (d := d) (ls := a0 :: a1 :: a2 :: a3 :: a4 :: a5 :: a6 :: a7 :: a8 :: a9 :: l) (x := x) (r := r) (h := h) hs (by simp only [List.length_cons]; omega)
  exact x_1 hC hi h1 h2 h3 k
theorem x_stA9 (hC : cod y = C) {i : Ins} {a0 a1 a2 a3 a4 a5 a6 a7 a8 a9 : Option AV} {l : Ls} {x : Option Nat} {r : List AV} (hi : C[pos]? = some i) (hs : stA i = 9 + 1) (hp : pos + 1 = p') (k : At d y p' (a0 :: a1 :: a2 :: a3 :: a4 :: a5 :: a6 :: a7 :: a8 :: some (.inr x) :: l) r h Q) : At d y pos (a0 :: a1 :: a2 :: a3 :: a4 :: a5 :: a6 :: a7 :: a8 :: a9 :: l) (.inr x :: r) h Q := by
  subst hp
  obtain ⟨h1, h2, h3⟩ := stA_spec (pos := pos) (d := d) (ls := a0 :: a1 :: a2 :: a3 :: a4 :: a5 :: a6 :: a7 :: a8 :: a9 :: l) (x := x) (r := r) (h := h) hs (by simp only [List.length_cons]; omega)
  exact x_1 hC hi h1 h2 h3 k
theorem x_inc9 (hC : cod y = C) {c v : Int} {a b w : Nat} {sw : List Nat} {a0 a1 a2 a3 a4 a5 a6 a7 a8 : Option AV} {l : Ls} {x : Int} (hi : C[pos]? = some (.iinc 9 c, v, a, b, w, sw)) (hp : pos + 1 = p') (hz : inR (x + c)) (k : At d y p' (a0 :: a1 :: a2 :: a3 :: a4 :: a5 :: a6 :: a7 :: a8 :: some (.inl (x + c)) :: l) st h Q) : At d y pos (a0 :: a1 :: a2 :: a3 :: a4 :: a5 :: a6 :: a7 :: a8 :: some (.inl x) :: l) st h Q := x_iinc hC hi hp rfl hz rfl k
theorem x_stI10 (hC : cod y = C) {i : Ins} {a0 a1 a2 a3 a4 a5 a6 a7 a8 a9 a10 : Option AV} {l : Ls} {x : Int} {r : List AV} (hi : C[pos]? = some i) (hs : stI i = 10 + 1) (hp : pos + 1 = p') (k : At d y p' (a0 :: a1 :: a2 :: a3 :: a4 :: a5 :: a6 :: a7 :: a8 :: a9 :: some (.inl x) :: l) r h Q) : At d y pos (a0 :: a1 :: a2 :: a3 :: a4 :: a5 :: a6 :: a7 :: a8 :: a9 :: a10 :: l) (.inl x :: r) h Q := by
  subst hp
  obtain ⟨h1, h2, h3⟩ := stI_spec (pos := pos) (d := d) (ls := a0 :: a1 :: a2 :: a3 :: a4 :: a5 :: a6 :: a7 :: a8 :: a9 :: a10 :: l) (x := x) (r := r) (h := h) hs (by simp only [List.length_cons]; omega)
  exact x_1 hC hi h1 h2 h3 k
theorem x_stA10 (hC : cod y = C) {i : Ins} {a0 a1 a2 a3 a4 a5 a6 a7 a8 a9 a10 : Option AV} {l : Ls} {x : Option Nat} {r : List AV} (hi : C[pos]? = some i) (hs : stA i = 10 + 1) (hp : pos + 1 = p') (k : At d y p' (a0 :: a1 :: a2 :: a3 :: a4 :: a5 :: a6 :: a7 :: a8 :: a9 :: some (.inr x) :: l) r h Q) : At d y pos (a0 :: a1 :: a2 :: a3 :: a4 :: a5 :: a6 :: a7 :: a8 :: a9 :: a10 :: l) (.inr x :: r) h Q := by
  subst hp
  obtain ⟨h1, h2, h3⟩ := stA_spec (pos := pos) (d := d) (ls := a0 :: a1 :: a2 :: a3 :: a4 :: a5 :: a6 :: a7 :: a8 :: a9 :: a10 :: l) (x := x) (r := r) (h := h) hs (by simp only [List.length_cons]; omega)
  exact x_1 hC hi h1 h2 h3 k
theorem x_inc10 (hC : cod y = C) {c v : Int} {a b w : Nat} {sw : List Nat} {a0 a1 a2 a3 a4 a5 a6 a7 a8 a9 : Option AV} {l : Ls} {x : Int} (hi : C[pos]? = some (.iinc 10 c, v, a, b, w, sw)) (hp : pos + 1 = p') (hz : inR (x + c)) (k : At d y p' (a0 :: a1 :: a2 :: a3 :: a4 :: a5 :: a6 :: a7 :: a8 :: a9 :: some (.inl (x + c)) :: l) st h Q) : At d y pos (a0 :: a1 :: a2 :: a3 :: a4 :: a5 :: a6 :: a7 :: a8 :: a9 :: some (.inl x) :: l) st h Q := x_iinc hC hi hp rfl hz rfl k
theorem x_stI11 (hC : cod y = C) {i : Ins} {a0 a1 a2 a3 a4 a5 a6 a7 a8 a9 a10 a11 : Option AV} {l : Ls} {x : Int} {r : List AV} (hi : C[pos]? = some i) (hs : stI i = 11 + 1) (hp : pos + 1 = p') (k : At d y p' (a0 :: a1 :: a2 :: a3 :: a4 :: a5 :: a6 :: a7 :: a8 :: a9 :: a10 :: some (.inl x) :: l) r h Q) : At d y pos (a0 :: a1 :: a2 :: a3 :: a4 :: a5 :: a6 :: a7 :: a8 :: a9 :: a10 :: a11 :: l) (.inl x :: r) h Q := by
  subst hp
  obtain ⟨h1, h2, h3⟩ := stI_spec (pos := pos) (d := d) (ls := a0 :: a1 :: a2 :: a3 :: a4 :: a5 :: a6 :: a7 :: a8 :: a9 :: a10 :: a11 :: l) (x := x) (r := r) (h := h) hs (by simp only [List.length_cons]; omega)
  exact x_1 hC hi h1 h2 h3 k
theorem x_stA11 (hC : cod y = C) {i : Ins} {a0 a1 a2 a3 a4 a5 a6 a7 a8 a9 a10 a11 : Option AV} {l : Ls} {x : Option Nat} {r : List AV} (hi : C[pos]? = some i) (hs : stA i = 11 + 1) (hp : pos + 1 = p') (k : At d y p' (a0 :: a1 :: a2 :: a3 :: a4 :: a5 :: a6 :: a7 :: a8 :: a9 :: a10 :: some (.inr x) :: l) r h Q) : At d y pos (a0 :: a1 :: a2 :: a3 :: a4 :: a5 :: a6 :: a7 :: a8 :: a9 :: a10 :: a11 :: l) (.inr x :: r) h Q := by
  subst hp
  obtain ⟨h1, h2, h3⟩ := stA_spec (pos := pos) (d := d) (ls := a0 :: a1 :: a2 :: a3 :: a4 :: a5 :: a6 :: a7 :: a8 :: a9 :: a10 :: a11 :: l) (x := x) (r := r) (h := h) hs (by simp only [List.length_cons]; omega)
  exact x_1 hC hi h1 h2 h3 k
theorem x_inc11 (hC : cod y = C) {c v : Int} {a b w : Nat} {sw : List Nat} {a0 a1 a2 a3 a4 a5 a6 a7 a8 a9 a10 : Option AV} {l : Ls} {x : Int} (hi : C[pos]? = some (.iinc 11 c, v, a, b, w, sw)) (hp : pos + 1 = p') (hz : inR (x + c)) (k : At d y p' (a0 :: a1 :: a2 :: a3 :: a4 :: a5 :: a6 :: a7 :: a8 :: a9 :: a10 :: some (.inl (x + c)) :: l) st h Q) : At d y pos (a0 :: a1 :: a2 :: a3 :: a4 :: a5 :: a6 :: a7 :: a8 :: a9 :: a10 :: some (.inl x) :: l) st h Q := x_iinc hC hi hp rfl hz rfl k
theorem x_stI12 (hC : cod y = C) {i : Ins} {a0 a1 a2 a3 a4 a5 a6 a7 a8 a9 a10 a11 a12 : Option AV} {l : Ls} {x : Int} {r : List AV} (hi : C[pos]? = some i) (hs : stI i = 12 + 1) (hp : pos + 1 = p') (k : At d y p' (a0 :: a1 :: a2 :: a3 :: a4 :: a5 :: a6 :: a7 :: a8 :: a9 :: a10 :: a11 :: some (.inl x) :: l) r h Q) : At d y pos (a0 :: a1 :: a2 :: a3 :: a4 :: a5 :: a6 :: a7 :: a8 :: a9 :: a10 :: a11 :: a12 :: l) (.inl x :: r) h Q := by
  subst hp
  obtain ⟨h1, h2, h3⟩ := stI_spec (pos := pos) (d := d) (ls := a0 :: a1 :: a2 :: a3 :: a4 :: a5 :: a6 :: a7 :: a8 :: a9 :: a10 :: a11 :: a12 :: l) (x := x) (r := r) (h := h) hs (by simp only [List.length_cons]; omega)
  exact x_1 hC hi h1 h2 h3 k
theorem x_stA12 (hC : cod y = C) {i : Ins} {a0 a1 a2 a3 a4 a5 a6 a7 a8 a9 a10 a11 a12 : Option AV} {l : Ls} {x : Option Nat} {r : List AV} (hi : C[pos]? = some i) (hs : stA i = 12 + 1) (hp : pos + 1 = p') (k : At d y p' (a0 :: a1 :: a2 :: a3 :: a4 :: a5 :: a6 :: a7 :: a8 :: a9 :: a10 :: a11 :: some (.inr x) :: l) r h Q) : At d y pos (a0 :: a1 :: a2 :: a3 :: a4 :: a5 :: a6 :: a7 :: a8 :: a9 :: a10 :: a11 :: a12 :: l) (.inr x :: r) h Q := by
  subst hp
  obtain ⟨h1, h2, h3⟩ := stA_spec (pos := pos) (d := d) (ls := a0 :: a1 :: a2 :: a3 :: a4 :: a5 :: a6 :: a7 :: a8 :: a9 :: a10 :: a11 :: a12 :: l) (x := x) (r := r) (h := h) hs (by simp only [List.length_cons]; omega)
  exact x_1 hC hi h1 h2 h3 k
theorem x_inc12 (hC : cod y = C) {c v : Int} {a b w : Nat} {sw : List Nat} {a0 a1 a2 a3 a4 a5 a6 a7 a8 a9 a10 a11 : Option AV} {l : Ls} {x : Int} (hi : C[pos]? = some (.iinc 12 c, v, a, b, w, sw)) (hp : pos + 1 = p') (hz : inR (x + c)) (k : At d y p' (a0 :: a1 :: a2 :: a3 :: a4 :: a5 :: a6 :: a7 :: a8 :: a9 :: a10 :: a11 :: some (.inl (x + c)) :: l) st h Q) : At d y pos (a0 :: a1 :: a2 :: a3 :: a4 :: a5 :: a6 :: a7 :: a8 :: a9 :: a10 :: a11 :: some (.inl x) :: l) st h Q := x_iinc hC hi hp rfl hz rfl k
theorem x_stI13 (hC : cod y = C) {i : Ins} {a0 a1 a2 a3 a4 a5 a6 a7 a8 a9 a10 a11 a12 a13 : Option AV} {l : Ls} {x : Int} {r : List AV} (hi : C[pos]? = some i) (hs : stI i = 13 + 1) (hp : pos + 1 = p') (k : At d y p' (a0 :: a1 :: a2 :: a3 :: a4 :: a5 :: a6 :: a7 :: a8 :: a9 :: a10 :: a11 :: a12 :: some (.inl x) :: l) r h Q) : At d y pos (a0 :: a1 :: a2 :: a3 :: a4 :: a5 :: a6 :: a7 :: a8 :: a9 :: a10 :: a11 :: a12 :: a13 :: l) (.inl x :: r) h Q := by
  subst hp
  obtain ⟨h1, h2, h3⟩ := stI_spec (pos := pos) (d := d) (ls := a0 :: a1 :: a2 :: a3 :: a4 :: a5 :: a6 :: a7 :: a8 :: a9 :: a10 :: a11 :: a12 :: a13 :: l) (x := x) (r := r) (h := h) hs (by simp only [List.length_cons]; omega)
  exact x_1 hC hi h1 h2 h3 k
theorem x_stA13 (hC : cod y = C) {i : Ins} {a0 a1 a2 a3 a4 a5 a6 a7 a8 a9 a10 a11 a12 a13 : Option AV} {l : Ls} {x : Option Nat} {r : List AV} (hi : C[pos]? = some i) (hs : stA i = 13 + 1) (hp : pos + 1 = p') (k : At d y p' (a0 :: a1 :: a2 :: a3 :: a4 :: a5 :: a6 :: a7 :: a8 :: a9 :: a10 :: a11 :: a12 :: some (.inr x) :: l) r h Q) : At d y pos (a0 :: a1 :: a2 :: a3 :: a4 :: a5 :: a6 :: a7 :: a8 :: a9 :: a10 :: a11 :: a12 :: a13 :: l) (.inr x :: r) h Q := by
  subst hp
  obtain ⟨h1, h2, h3⟩ := stA_spec (pos := pos) (d := d) (ls := a0 :: a1 :: a2 :: a3 :: a4 :: a5 :: a6 :: a7 :: a8 :: a9 :: a10 :: a11 :: a12 :: a13 :: l) (x := x) (r := r) (h := h) hs (by simp only [List.length_cons]; omega)
  exact x_1 hC hi h1 h2 h3 k
theorem x_inc13 (hC : cod y = C) {c v : Int} {a b w : Nat} {sw : List Nat} {a0 a1 a2 a3 a4 a5 a6 a7 a8 a9 a10 a11 a12 : Option AV} {l : Ls} {x : Int} (hi : C[pos]? = some (.iinc 13 c, v, a, b, w, sw)) (hp : pos + 1 = p') (hz : inR (x + c)) (k : At d y p' (a0 :: a1 :: a2 :: a3 :: a4 :: a5 :: a6 :: a7 :: a8 :: a9 :: a10 :: a11 :: a12 :: some (.inl (x + c)) :: l) st h Q) : At d y pos (a0 :: a1 :: a2 :: a3 :: a4 :: a5 :: a6 :: a7 :: a8 :: a9 :: a10 :: a11 :: a12 :: some (.inl x) :: l) st h Q := x_iinc hC hi hp rfl hz rfl k
theorem x_stI14 (hC : cod y = C) {i : Ins} {a0 a1 a2 a3 a4 a5 a6 a7 a8 a9 a10 a11 a12 a13 a14 : Option AV} {l : Ls} {x : Int} {r : List AV} (hi : C[pos]? = some i) (hs : stI i = 14 + 1) (hp : pos + 1 = p') (k : At d y p' (a0 :: a1 :: a2 :: a3 :: a4 :: a5 :: a6 :: a7 :: a8 :: a9 :: a10 :: a11 :: a12 :: a13 :: some (.inl x) :: l) r h Q) : At d y pos (a0 :: a1 :: a2 :: a3 :: a4 :: a5 :: a6 :: a7 :: a8 :: a9 :: a10 :: a11 :: a12 :: a13 :: a14 :: l) (.inl x :: r) h Q := by
  subst hp
  obtain ⟨h1, h2, h3⟩ := stI_spec (pos := pos) (d := d) (ls := a0 :: a1 :: a2 :: a3 :: a4 :: a5 :: a6 :: a7 :: a8 :: a9 :: a10 :: a11 :: a12 :: a13 :: a14 :: l) (x := x) (r := r) (h := h) hs (by simp only [List.length_cons]; omega)
  exact x_1 hC hi h1 h2 h3 k
theorem x_stA14 (hC : cod y = C) {i : Ins} {a0 a1 a2 a3 a4 a5 a6 a7 a8 a9 a10 a11 a12 a13 a14 : Option AV} {l : Ls} {x : Option Nat} {r : List AV} (hi : C[pos]? = some i) (hs : stA i = 14 + 1) (hp : pos + 1 = p') (k : At d y p' (a0 :: a1 :: a2 :: a3 :: a4 :: a5 :: a6 :: a7 :: a8 :: a9 :: a10 :: a11 :: a12 :: a13 :: some (.inr x) :: l) r h Q) : At d y pos (a0 :: a1 :: a2 :: a3 :: a4 :: a5 :: a6 :: a7 :: a8 :: a9 :: a10 :: a11 :: a12 :: a13 :: a14 :: l) (.inr x :: r) h Q := by
  subst hp
  obtain ⟨h1, h2, h3⟩ := stA_spec (pos := pos) (d := d) (ls := a0 :: a1 :: a2 :: a3 :: a4 :: a5 :: a6 :: a7 :: a8 :: a9 :: a10 :: a11 :: a12 :: a13 :: a14 :: l) (x := x) (r := r) (h := h) hs (by simp only [List.length_cons]; omega)
  exact x_1 hC hi h1 h2 h3 k
theorem x_inc14 (hC : cod y = C) {c v : Int} {a b w : Nat} {sw : List Nat} {a0 a1 a2 a3 a4 a5 a6 a7 a8 a9 a10 a11 a12 a13 : Option AV} {l : Ls} {x : Int} (hi : C[pos]? = some (.iinc 14 c, v, a, b, w, sw)) (hp : pos + 1 = p') (hz : inR (x + c)) (k : At d y p' (a0 :: a1 :: a2 :: a3 :: a4 :: a5 :: a6 :: a7 :: a8 :: a9 :: a10 :: a11 :: a12 :: a13 :: some (.inl (x + c)) :: l) st h Q) : At d y pos (a0 :: a1 :: a2 :: a3 :: a4 :: a5 :: a6 :: a7 :: a8 :: a9 :: a10 :: a11 :: a12 :: a13 :: some (.inl x) :: l) st h Q := x_iinc hC hi hp rfl hz rfl k
theorem x_stI15 (hC : cod y = C) {i : Ins} {a0 a1 a2 a3 a4 a5 a6 a7 a8 a9 a10 a11 a12 a13 a14 a15 : Option AV} {l : Ls} {x : Int} {r : List AV} (hi : C[pos]? = some i) (hs : stI i = 15 + 1) (hp : pos + 1 = p') (k : At d y p' (a0 :: a1 :: a2 :: a3 :: a4 :: a5 :: a6 :: a7 :: a8 :: a9 :: a10 :: a11 :: a12 :: a13 :: a14 :: some (.inl x) :: l) r h Q) : At d y pos (a0 :: a1 :: a2 :: a3 :: a4 :: a5 :: a6 :: a7 :: a8 :: a9 :: a10 :: a11 :: a12 :: a13 :: a14 :: a15 :: l) (.inl x :: r) h Q := by
  subst hp
  obtain ⟨h1, h2, h3⟩ := stI_spec (pos := pos) (d := d) (ls := a0 :: a1 :: a2 :: a3 :: a4 :: a5 :: a6 :: a7 :: a8 :: a9 :: a10 :: a11 :: a12 :: a13 :: a14 :: a15 :: l) (x := x) (r := r) (h := h) hs (by simp only [List.length_cons]; omega)
  exact x_1 hC hi h1 h2 h3 k
theorem x_stA15 (hC : cod y = C) {i : Ins} {a0 a1 a2 a3 a4 a5 a6 a7 a8 a9 a10 a11 a12 a13 a14 a15 : Option AV} {l : Ls} {x : Option Nat} {r : List AV} (hi : C[pos]? = some i) (hs : stA i = 15 + 1) (hp : pos + 1 = p') (k : At d y p' (a0 :: a1 :: a2 :: a3 :: a4 :: a5 :: a6 :: a7 :: a8 :: a9 :: a10 :: a11 :: a12 :: a13 :: a14 :: some (.inr x) :: l) r h Q) : At d y pos (a0 :: a1 :: a2 :: a3 :: a4 :: a5 :: a6 :: a7 :: a8 :: a9 :: a10 :: a11 :: a12 :: a13 :: a14 :: a15 :: l) (.inr x :: r) h Q := by
  subst hp
  obtain ⟨h1, h2, h3⟩ := stA_spec (pos := pos) (d := d) (ls := a0 :: a1 :: a2 :: a3 :: a4 :: a5 :: a6 :: a7 :: a8 :: a9 :: a10 :: a11 :: a12 :: a13 :: a14 :: a15 :: l) (x := x) (r := r) (h := h) hs (by simp only [List.length_cons]; omega)
  exact x_1 hC hi h1 h2 h3 k
theorem x_inc15 (hC : cod y = C) {c v : Int} {a b w : Nat} {sw : List Nat} {a0 a1 a2 a3 a4 a5 a6 a7 a8 a9 a10 a11 a12 a13 a14 : Option AV} {l : Ls} {x : Int} (hi : C[pos]? = some (.iinc 15 c, v, a, b, w, sw)) (hp : pos + 1 = p') (hz : inR (x + c)) (k : At d y p' (a0 :: a1 :: a2 :: a3 :: a4 :: a5 :: a6 :: a7 :: a8 :: a9 :: a10 :: a11 :: a12 :: a13 :: a14 :: some (.inl (x + c)) :: l) st h Q) : At d y pos (a0 :: a1 :: a2 :: a3 :: a4 :: a5 :: a6 :: a7 :: a8 :: a9 :: a10 :: a11 :: a12 :: a13 :: a14 :: some (.inl x) :: l) st h Q := x_iinc hC hi hp rfl hz rfl k
theorem x_ifeq (hC : cod y = C) {off v : Int} {t b w : Nat} {sw : List Nat} {r : List AV} {x : Int} (hi : C[pos]? = some (.ifCond .eq off, v, t, b, w, sw)) (hp : pos + 1 = p') (kt : x = 0 → At d y t ls r h Q) (kf : ¬ x = 0 → At d y p' ls r h Q) : At d y pos ls (.inl x :: r) h Q := by
  subst hp
  by_cases hc : x = 0
  · have hn : cndZ .eq x 0 = true := decide_eq_true hc
    exact x_1 (p' := t) hC hi rfl rfl (by
      show some ((if cndZ .eq x 0 = true then t else pos + 1), ls, r, h) = _
      rw [if_pos hn]) (kt hc)
  · have hn : ¬ cndZ .eq x 0 = true := fun q => hc (of_decide_eq_true q)
    exact x_1 (p' := pos + 1) hC hi rfl rfl (by
      show some ((if cndZ .eq x 0 = true then t else pos + 1), ls, r, h) = _
      rw [if_neg hn]) (kf (by omega))
theorem x_iceq (hC : cod y = C) {off v : Int} {t b w : Nat} {sw : List Nat} {r : List AV} {x z : Int} (hi : C[pos]? = some (.if_icmp .eq off, v, t, b, w, sw)) (hp : pos + 1 = p') (kt : x = z → At d y t ls r h Q) (kf : ¬ x = z → At d y p' ls r h Q) : At d y pos ls (.inl z :: .inl x :: r) h Q := by
  subst hp
  by_cases hc : x = z
  · have hn : cndZ .eq x z = true := decide_eq_true hc
    exact x_1 (p' := t) hC hi rfl rfl (by
      show some ((if cndZ .eq x z = true then t else pos + 1), ls, r, h) = _
      rw [if_pos hn]) (kt hc)
  · have hn : ¬ cndZ .eq x z = true := fun q => hc (of_decide_eq_true q)
    exact x_1 (p' := pos + 1) hC hi rfl rfl (by
      show some ((if cndZ .eq x z = true then t else pos + 1), ls, r, h) = _
      rw [if_neg hn]) (kf (by omega))
theorem x_ifne (hC : cod y = C) {off v : Int} {t b w : Nat} {sw : List Nat} {r : List AV} {x : Int} (hi : C[pos]? = some (.ifCond .ne off, v, t, b, w, sw)) (hp : pos + 1 = p') (kt : ¬ x = 0 → At d y t ls r h Q) (kf : x = 0 → At d y p' ls r h Q) : At d y pos ls (.inl x :: r) h Q := by
  subst hp
  by_cases hc : ¬ x = 0
  · have hn : cndZ .ne x 0 = true := decide_eq_true hc
    exact x_1 (p' := t) hC hi rfl rfl (by
      show some ((if cndZ .ne x 0 = true then t else pos + 1), ls, r, h) = _
      rw [if_pos hn]) (kt hc)
  · have hn : ¬ cndZ .ne x 0 = true := fun q => hc (of_decide_eq_true q)
    exact x_1 (p' := pos + 1) hC hi rfl rfl (by
      show some ((if cndZ .ne x 0 = true then t else pos + 1), ls, r, h) = _
      rw [if_neg hn]) (kf (by omega))
theorem x_icne (hC : cod y = C) {off v : Int} {t b w : Nat} {sw : List Nat} {r : List AV} {x z : Int} (hi : C[pos]? = some (.if_icmp .ne off, v, t, b, w, sw)) (hp : pos + 1 = p') (kt : ¬ x = z → At d y t ls r h Q) (kf : x = z → At d y p' ls r h Q) : At d y pos ls (.inl z :: .inl x :: r) h Q := by
  subst hp
  by_cases hc : ¬ x = z
  · have hn : cndZ .ne x z = true := decide_eq_true hc
    exact x_1 (p' := t) hC hi rfl rfl (by
      show some ((if cndZ .ne x z = true then t else pos + 1), ls, r, h) = _
      rw [if_pos hn]) (kt hc)
  · have hn : ¬ cndZ .ne x z = true := fun q => hc (of_decide_eq_true q)
    exact x_1 (p' := pos + 1) hC hi rfl rfl (by
      show some ((if cndZ .ne x z = true then t else pos + 1), ls, r, h) = _
      rw [if_neg hn]) (kf (by omega))
theorem x_iflt (hC : cod y = C) {off v : Int} {t b w : Nat} {sw : List Nat} {r : List AV} {x : Int} (hi : C[pos]? = some (.ifCond .lt off, v, t, b, w, sw)) (hp : pos + 1 = p') (kt : x < 0 → At d y t ls r h Q) (kf : 0 ≤ x → At d y p' ls r h Q) : At d y pos ls (.inl x :: r) h Q := by
  subst hp
  by_cases hc : x < 0
  · have hn : cndZ .lt x 0 = true := decide_eq_true hc
    exact x_1 (p' := t) hC hi rfl rfl (by
      show some ((if cndZ .lt x 0 = true then t else pos + 1), ls, r, h) = _
      rw [if_pos hn]) (kt hc)
  · have hn : ¬ cndZ .lt x 0 = true := fun q => hc (of_decide_eq_true q)
    exact x_1 (p' := pos + 1) hC hi rfl rfl (by
      show some ((if cndZ .lt x 0 = true then t else pos + 1), ls, r, h) = _
      rw [if_neg hn]) (kf (by omega))
theorem x_iclt (hC : cod y = C) {off v : Int} {t b w : Nat} {sw : List Nat} {r : List AV} {x z : Int} (hi : C[pos]? = some (.if_icmp .lt off, v, t, b, w, sw)) (hp : pos + 1 = p') (kt : x < z → At d y t ls r h Q) (kf : z ≤ x → At d y p' ls r h Q) : At d y pos ls (.inl z :: .inl x :: r) h Q := by
  subst hp
  by_cases hc : x < z
  · have hn : cndZ .lt x z = true := decide_eq_true hc
    exact x_1 (p' := t) hC hi rfl rfl (by
      show some ((if cndZ .lt x z = true then t else pos + 1), ls, r, h) = _
      rw [if_pos hn]) (kt hc)
  · have hn : ¬ cndZ .lt x z = true := fun q => hc (of_decide_eq_true q)
    exact x_1 (p' := pos + 1) hC hi rfl rfl (by
      show some ((if cndZ .lt x z = true then t else pos + 1), ls, r, h) = _
      rw [if_neg hn]) (kf (by omega))
theorem x_ifge (hC : cod y = C) {off v : Int} {t b w : Nat} {sw : List Nat} {r : List AV} {x : Int} (hi : C[pos]? = some (.ifCond .ge off, v, t, b, w, sw)) (hp : pos + 1 = p') (kt : 0 ≤ x → At d y t ls r h Q) (kf : x < 0 → At d y p' ls r h Q) : At d y pos ls (.inl x :: r) h Q := by
  subst hp
  by_cases hc : 0 ≤ x
  · have hn : cndZ .ge x 0 = true := decide_eq_true hc
    exact x_1 (p' := t) hC hi rfl rfl (by
      show some ((if cndZ .ge x 0 = true then t else pos + 1), ls, r, h) = _
      rw [if_pos hn]) (kt hc)
  · have hn : ¬ cndZ .ge x 0 = true := fun q => hc (of_decide_eq_true q)
    exact x_1 (p' := pos + 1) hC hi rfl rfl (by
      show some ((if cndZ .ge x 0 = true then t else pos + 1), ls, r, h) = _
      rw [if_neg hn]) (kf (by omega))
theorem x_icge (hC : cod y = C) {off v : Int} {t b w : Nat} {sw : List Nat} {r : List AV} {x z : Int} (hi : C[pos]? = some (.if_icmp .ge off, v, t, b, w, sw)) (hp : pos + 1 = p') (kt : z ≤ x → At d y t ls r h Q) (kf : x < z → At d y p' ls r h Q) : At d y pos ls (.inl z :: .inl x :: r) h Q := by
  subst hp
  by_cases hc : z ≤ x
  · have hn : cndZ .ge x z = true := decide_eq_true hc
    exact x_1 (p' := t) hC hi rfl rfl (by
      show some ((if cndZ .ge x z = true then t else pos + 1), ls, r, h) = _
      rw [if_pos hn]) (kt hc)
  · have hn : ¬ cndZ .ge x z = true := fun q => hc (of_decide_eq_true q)
    exact x_1 (p' := pos + 1) hC hi rfl rfl (by
      show some ((if cndZ .ge x z = true then t else pos + 1), ls, r, h) = _
      rw [if_neg hn]) (kf (by omega))
theorem x_ifgt (hC : cod y = C) {off v : Int} {t b w : Nat} {sw : List Nat} {r : List AV} {x : Int} (hi : C[pos]? = some (.ifCond .gt off, v, t, b, w, sw)) (hp : pos + 1 = p') (kt : 0 < x → At d y t ls r h Q) (kf : x ≤ 0 → At d y p' ls r h Q) : At d y pos ls (.inl x :: r) h Q := by
  subst hp
  by_cases hc : 0 < x
  · have hn : cndZ .gt x 0 = true := decide_eq_true hc
    exact x_1 (p' := t) hC hi rfl rfl (by
      show some ((if cndZ .gt x 0 = true then t else pos + 1), ls, r, h) = _
      rw [if_pos hn]) (kt hc)
  · have hn : ¬ cndZ .gt x 0 = true := fun q => hc (of_decide_eq_true q)
    exact x_1 (p' := pos + 1) hC hi rfl rfl (by
      show some ((if cndZ .gt x 0 = true then t else pos + 1), ls, r, h) = _
      rw [if_neg hn]) (kf (by omega))
theorem x_icgt (hC : cod y = C) {off v : Int} {t b w : Nat} {sw : List Nat} {r : List AV} {x z : Int} (hi : C[pos]? = some (.if_icmp .gt off, v, t, b, w, sw)) (hp : pos + 1 = p') (kt : z < x → At d y t ls r h Q) (kf : x ≤ z → At d y p' ls r h Q) : At d y pos ls (.inl z :: .inl x :: r) h Q := by
  subst hp
  by_cases hc : z < x
  · have hn : cndZ .gt x z = true := decide_eq_true hc
    exact x_1 (p' := t) hC hi rfl rfl (by
      show some ((if cndZ .gt x z = true then t else pos + 1), ls, r, h) = _
      rw [if_pos hn]) (kt hc)
  · have hn : ¬ cndZ .gt x z = true := fun q => hc (of_decide_eq_true q)
    exact x_1 (p' := pos + 1) hC hi rfl rfl (by
      show some ((if cndZ .gt x z = true then t else pos + 1), ls, r, h) = _
      rw [if_neg hn]) (kf (by omega))
theorem x_ifle (hC : cod y = C) {off v : Int} {t b w : Nat} {sw : List Nat} {r : List AV} {x : Int} (hi : C[pos]? = some (.ifCond .le off, v, t, b, w, sw)) (hp : pos + 1 = p') (kt : x ≤ 0 → At d y t ls r h Q) (kf : 0 < x → At d y p' ls r h Q) : At d y pos ls (.inl x :: r) h Q := by
  subst hp
  by_cases hc : x ≤ 0
  · have hn : cndZ .le x 0 = true := decide_eq_true hc
    exact x_1 (p' := t) hC hi rfl rfl (by
      show some ((if cndZ .le x 0 = true then t else pos + 1), ls, r, h) = _
      rw [if_pos hn]) (kt hc)
  · have hn : ¬ cndZ .le x 0 = true := fun q => hc (of_decide_eq_true q)
    exact x_1 (p' := pos + 1) hC hi rfl rfl (by
      show some ((if cndZ .le x 0 = true then t else pos + 1), ls, r, h) = _
      rw [if_neg hn]) (kf (by omega))
theorem x_icle (hC : cod y = C) {off v : Int} {t b w : Nat} {sw : List Nat} {r : List AV} {x z : Int} (hi : C[pos]? = some (.if_icmp .le off, v, t, b, w, sw)) (hp : pos + 1 = p') (kt : x ≤ z → At d y t ls r h Q) (kf : z < x → At d y p' ls r h Q) : At d y pos ls (.inl z :: .inl x :: r) h Q := by
  subst hp
  by_cases hc : x ≤ z
  · have hn : cndZ .le x z = true := decide_eq_true hc
    exact x_1 (p' := t) hC hi rfl rfl (by
      show some ((if cndZ .le x z = true then t else pos + 1), ls, r, h) = _
      rw [if_pos hn]) (kt hc)
  · have hn : ¬ cndZ .le x z = true := fun q => hc (of_decide_eq_true q)
    exact x_1 (p' := pos + 1) hC hi rfl rfl (by
      show some ((if cndZ .le x z = true then t else pos + 1), ls, r, h) = _
      rw [if_neg hn]) (kf (by omega))
theorem x_nn (hC : cod y = C) {off v : Int} {t b w : Nat} {sw : List Nat} {r : List AV} {o : Option Nat} (hi : C[pos]? = some (.ifnonnull off, v, t, b, w, sw)) (hp : pos + 1 = p') (kt : ∀ q, o = some q → At d y t ls r h Q) (kf : o = none → At d y p' ls r h Q) : At d y pos ls (.inr o :: r) h Q := by
  subst hp
  cases o with
  | none => exact x_1 (p' := pos + 1) hC hi rfl rfl rfl (kf rfl)
  | some q => exact x_1 (p' := t) hC hi rfl rfl (by simp [ex1, e_nn]) (kt q rfl)
/-- a switch over a table: one goal a target -/
theorem x_tsw (hC : cod y = C) {df lo hi v : Int} {offs : Array Int} {a b w : Nat} {sw : List Nat} {r : List AV} {x : Int} (hI : C[pos]? = some (.tableswitch df lo hi offs, v, a, b, w, sw)) (k : ∀ t, sw[if x < lo ∨ hi < x then 0 else (x - lo).toNat + 1]? = some t → At d y t ls r h Q) (hs : ∃ t, sw[if x < lo ∨ hi < x then 0 else (x - lo).toNat + 1]? = some t) : At d y pos ls (.inl x :: r) h Q := by
  obtain ⟨t, ht⟩ := hs
  exact x_1 (p' := t) hC hI rfl rfl (by simp only [ex1, e_tsw, ht]) (k t ht)
theorem x_lsw (hC : cod y = C) {df v : Int} {ps : Array (Int × Int)} {a b w : Nat} {sw : List Nat} {r : List AV} {x : Int} (hI : C[pos]? = some (.lookupswitch df ps, v, a, b, w, sw)) (k : ∀ t, sw[e_key x ps.toList 1]? = some t → At d y t ls r h Q) (hs : ∃ t, sw[e_key x ps.toList 1]? = some t) : At d y pos ls (.inl x :: r) h Q := by
  obtain ⟨t, ht⟩ := hs
  exact x_1 (p' := t) hC hI rfl rfl (by simp only [ex1, e_lsw, ht]) (k t ht)
theorem x_getI (hC : cod y = C) {idx : Nat} {v : Int} {ci k w : Nat} {sw : List Nat} {r : List AV} {a : Nat} (hi : C[pos]? = some (.getfield idx, v, ci, k, w, sw)) (hp : pos + 1 = p') (hk : (Nat.blt k (fcn ci) && !(fkd ci k == 1)) = true) (ht : (hTy h a).1 = ci + 1) (kk : At d y p' ls (.inl (hI h a k) :: r) h Q) : At d y pos ls (.inr (some a) :: r) h Q := by
  subst hp
  simp only [Bool.and_eq_true, Bool.not_eq_true', beq_eq_false_iff_ne] at hk
  exact x_1 hC hi rfl rfl (by simp only [ex1, e_get]; rw [if_pos ⟨ht, Nat.le_of_ble_eq_true hk.1⟩, if_neg hk.2]) kk
theorem x_getR (hC : cod y = C) {idx : Nat} {v : Int} {ci k w : Nat} {sw : List Nat} {r : List AV} {a : Nat} {q : Option Nat} (hi : C[pos]? = some (.getfield idx, v, ci, k, w, sw)) (hp : pos + 1 = p') (hk : (Nat.blt k (fcn ci) && (fkd ci k == 1)) = true) (ht : (hTy h a).1 = ci + 1) (hq : hR h a k = q) (kk : At d y p' ls (.inr q :: r) h Q) : At d y pos ls (.inr (some a) :: r) h Q := by
  subst hp; subst hq
  simp only [Bool.and_eq_true, beq_iff_eq] at hk
  exact x_1 hC hi rfl rfl (by simp only [ex1, e_get]; rw [if_pos ⟨ht, Nat.le_of_ble_eq_true hk.1⟩, if_pos hk.2]) kk
theorem x_putI (hC : cod y = C) {idx : Nat} {v : Int} {ci k w : Nat} {sw : List Nat} {r : List AV} {a : Nat} {x : Int} (hi : C[pos]? = some (.putfield idx, v, ci, k, w, sw)) (hp : pos + 1 = p') (hk : (Nat.blt k (fcn ci) && (fkd ci k == 0)) = true) (ht : (hTy h a).1 = ci + 1) (h3 : 3 ≤ a) (kk : At d y p' ls r (sI h a k x) Q) : At d y pos ls (.inl x :: .inr (some a) :: r) h Q := by
  subst hp
  simp only [Bool.and_eq_true, beq_iff_eq] at hk
  exact x_1 hC hi rfl rfl (by simp only [ex1, e_put]; rw [if_pos ⟨ht, Nat.le_of_ble_eq_true hk.1, h3, by omega, by omega, by omega⟩]) kk
theorem x_putB (hC : cod y = C) {idx : Nat} {v : Int} {ci k w : Nat} {sw : List Nat} {r : List AV} {a : Nat} {x : Int} (hi : C[pos]? = some (.putfield idx, v, ci, k, w, sw)) (hp : pos + 1 = p') (hk : (Nat.blt k (fcn ci) && (fkd ci k == 3 || fkd ci k == 2)) = true) (ht : (hTy h a).1 = ci + 1) (h3 : 3 ≤ a) (hx : 0 ≤ x ∧ (fkd ci k = 3 → x ≤ 1) ∧ x ≤ 65535) (kk : At d y p' ls r (sI h a k x) Q) : At d y pos ls (.inl x :: .inr (some a) :: r) h Q := by
  subst hp
  simp only [Bool.and_eq_true, Bool.or_eq_true, beq_iff_eq] at hk
  exact x_1 hC hi rfl rfl (by simp only [ex1, e_put]; rw [if_pos ⟨ht, Nat.le_of_ble_eq_true hk.1, h3, by omega, fun _ => ⟨hx.1, hx.2.2⟩, fun q => ⟨hx.1, hx.2.1 q⟩⟩]) kk
theorem x_putR (hC : cod y = C) {idx : Nat} {v : Int} {ci k w : Nat} {sw : List Nat} {r : List AV} {a : Nat} {x : Option Nat} (hi : C[pos]? = some (.putfield idx, v, ci, k, w, sw)) (hp : pos + 1 = p') (hk : (Nat.blt k (fcn ci) && (fkd ci k == 1)) = true) (ht : (hTy h a).1 = ci + 1) (h3 : 3 ≤ a) (kk : At d y p' ls r (sR h a k x) Q) : At d y pos ls (.inr x :: .inr (some a) :: r) h Q := by
  subst hp
  simp only [Bool.and_eq_true, beq_iff_eq] at hk
  exact x_1 hC hi rfl rfl (by simp only [ex1, e_put]; rw [if_pos ⟨ht, Nat.le_of_ble_eq_true hk.1, h3, hk.2⟩]) kk
theorem x_iald (hC : cod y = C) {i : Ins} {r : List AV} {a n : Nat} {j : Int} (hi : C[pos]? = some i) (hI0 : i.1 = .iaload) (hp : pos + 1 = p') (ht : hTy h a = (100, n)) (h0 : 0 ≤ j) (h1 : j < n) (kk : At d y p' ls (.inl (hI h a j) :: r) h Q) : At d y pos ls (.inl j :: .inr (some a) :: r) h Q := by
  subst hp
  have hcnd : (hTy h a).1 = 100 ∧ 0 ≤ j ∧ j < ((hTy h a).2 : Int) := by rw [ht]; exact ⟨rfl, h0, h1⟩
  exact x_1 hC hi (by simp [isRet, hI0]) (by simp [isCall, hI0]) (by simp only [ex1, hI0, e_ald]; rw [if_pos hcnd]) kk
theorem x_cald (hC : cod y = C) {i : Ins} {r : List AV} {a n : Nat} {j : Int} (hi : C[pos]? = some i) (hI0 : i.1 = .caload) (hp : pos + 1 = p') (ht : hTy h a = (101, n)) (h0 : 0 ≤ j) (h1 : j < n) (kk : At d y p' ls (.inl (hI h a j) :: r) h Q) : At d y pos ls (.inl j :: .inr (some a) :: r) h Q := by
  subst hp
  have hcnd : (hTy h a).1 = 101 ∧ 0 ≤ j ∧ j < ((hTy h a).2 : Int) := by rw [ht]; exact ⟨rfl, h0, h1⟩
  exact x_1 hC hi (by simp [isRet, hI0]) (by simp [isCall, hI0]) (by simp only [ex1, hI0, e_ald]; rw [if_pos hcnd]) kk
theorem x_aald (hC : cod y = C) {i : Ins} {r : List AV} {a t n : Nat} {j : Int} {q : Option Nat} (hi : C[pos]? = some i) (hI0 : i.1 = .aaload) (hp : pos + 1 = p') (ht : hTy h a = (t, n)) (hrf : rfO t = true) (h0 : 0 ≤ j) (h1 : j < n) (hq : hR h a j = q) (kk : At d y p' ls (.inr q :: r) h Q) : At d y pos ls (.inl j :: .inr (some a) :: r) h Q := by
  subst hp; subst hq
  have hcnd : rfO (hTy h a).1 = true ∧ 0 ≤ j ∧ j < ((hTy h a).2 : Int) := by rw [ht]; exact ⟨hrf, h0, h1⟩
  exact x_1 hC hi (by simp [isRet, hI0]) (by simp [isCall, hI0]) (by simp only [ex1, hI0, e_aldq]; rw [if_pos hcnd]) kk
theorem x_iast (hC : cod y = C) {i : Ins} {r : List AV} {a n : Nat} {j x : Int} (hi : C[pos]? = some i) (hI0 : i.1 = .iastore) (hp : pos + 1 = p') (ht : hTy h a = (100, n)) (h3 : 3 ≤ a) (h0 : 0 ≤ j) (h1 : j < n) (kk : At d y p' ls r (sI h a j x) Q) : At d y pos ls (.inl x :: .inl j :: .inr (some a) :: r) h Q := by
  subst hp
  have hcnd : (hTy h a).1 = 100 ∧ 0 ≤ j ∧ j < ((hTy h a).2 : Int) ∧ 3 ≤ a ∧ ((0 : Int) = 0 ∨ 0 ≤ x ∧ x ≤ 0) := by rw [ht]; exact ⟨rfl, h0, h1, h3, Or.inl rfl⟩
  exact x_1 hC hi (by simp [isRet, hI0]) (by simp [isCall, hI0]) (by simp only [ex1, hI0]; unfold e_ast; exact if_pos hcnd) kk
theorem x_cast (hC : cod y = C) {i : Ins} {r : List AV} {a n : Nat} {j x : Int} (hi : C[pos]? = some i) (hI0 : i.1 = .castore) (hp : pos + 1 = p') (ht : hTy h a = (101, n)) (h3 : 3 ≤ a) (h0 : 0 ≤ j) (h1 : j < n) (hx : 0 ≤ x ∧ x ≤ 65535) (kk : At d y p' ls r (sI h a j x) Q) : At d y pos ls (.inl x :: .inl j :: .inr (some a) :: r) h Q := by
  subst hp
  have hcnd : (hTy h a).1 = 101 ∧ 0 ≤ j ∧ j < ((hTy h a).2 : Int) ∧ 3 ≤ a ∧ ((65535 : Int) = 0 ∨ 0 ≤ x ∧ x ≤ 65535) := by rw [ht]; exact ⟨rfl, h0, h1, h3, Or.inr hx⟩
  exact x_1 hC hi (by simp [isRet, hI0]) (by simp [isCall, hI0]) (by simp only [ex1, hI0]; unfold e_ast; exact if_pos hcnd) kk
theorem x_aast (hC : cod y = C) {i : Ins} {r : List AV} {a v t n : Nat} {j : Int} (hi : C[pos]? = some i) (hI0 : i.1 = .aastore) (hp : pos + 1 = p') (ht : hTy h a = (t, n)) (hrf : rfO t = true) (hv : (hTy h v).1 + 199 = t) (h3 : 3 ≤ a) (h0 : 0 ≤ j) (h1 : j < n) (kk : At d y p' ls r (sR h a j (some v)) Q) : At d y pos ls (.inr (some v) :: .inl j :: .inr (some a) :: r) h Q := by
  subst hp
  have hcnd : rfO (hTy h a).1 = true ∧ (hTy h v).1 + 199 = (hTy h a).1 ∧ 0 ≤ j ∧ j < ((hTy h a).2 : Int) ∧ 3 ≤ a := by rw [ht]; exact ⟨hrf, hv, h0, h1, h3⟩
  exact x_1 hC hi (by simp [isRet, hI0]) (by simp [isCall, hI0]) (by simp only [ex1, hI0, e_astq]; rw [if_pos hcnd]) kk
theorem x_len (hC : cod y = C) {i : Ins} {r : List AV} {a t n : Nat} (hi : C[pos]? = some i) (hI0 : i.1 = .arraylength) (hp : pos + 1 = p') (ht : hTy h a = (t, n)) (htt : (t == 100 || t == 101 || rfO t) = true) (hn : n < 2147483648) (kk : At d y p' ls (.inl (n : Int) :: r) h Q) : At d y pos ls (.inr (some a) :: r) h Q := by
  subst hp
  rw [show n = (hTy h a).2 by rw [ht]] at kk
  have hc : t = 100 ∨ t = 101 ∨ rfO t = true := by simpa [or_assoc] using htt
  have hcnd : ((hTy h a).1 = 100 ∨ (hTy h a).1 = 101 ∨ rfO (hTy h a).1 = true) ∧ (hTy h a).2 < 2147483648 := by rw [ht]; exact ⟨hc, hn⟩
  exact x_1 hC hi (by simp [isRet, hI0]) (by simp [isCall, hI0]) (by simp only [ex1, hI0, e_len]; rw [if_pos hcnd]) kk
theorem x_div (hC : cod y = C) {i : Ins} {r : List AV} {x z : Int} (hi : C[pos]? = some i) (hI0 : i.1 = .idiv) (hp : pos + 1 = p') (h0 : ¬ z = 0) (kk : At d y p' ls (.inl (wr (x.tdiv z)) :: r) h Q) : At d y pos ls (.inl z :: .inl x :: r) h Q := by
  subst hp
  exact x_1 hC hi (by simp [isRet, hI0]) (by simp [isCall, hI0]) (by simp only [ex1, hI0, e_div]; rw [if_neg h0]) kk
theorem x_rem (hC : cod y = C) {i : Ins} {r : List AV} {x z : Int} (hi : C[pos]? = some i) (hI0 : i.1 = .irem) (hp : pos + 1 = p') (h0 : ¬ z = 0) (kk : At d y p' ls (.inl (wr (x.tmod z)) :: r) h Q) : At d y pos ls (.inl z :: .inl x :: r) h Q := by
  subst hp
  exact x_1 hC hi (by simp [isRet, hI0]) (by simp [isCall, hI0]) (by simp only [ex1, hI0, e_div]; rw [if_neg h0]) kk
theorem x_add (hC : cod y = C) {i : Ins} {r : List AV} {x z : Int} (hi : C[pos]? = some i) (hI0 : i.1 = .iadd) (hp : pos + 1 = p') (hz : inR (x + z)) (kk : At d y p' ls (.inl (x + z) :: r) h Q) : At d y pos ls (.inl z :: .inl x :: r) h Q := by
  subst hp
  exact x_1 hC hi (by simp [isRet, hI0]) (by simp [isCall, hI0]) (by simp only [ex1, hI0, e_bin]; rw [wr_id hz]) kk
theorem x_sub (hC : cod y = C) {i : Ins} {r : List AV} {x z : Int} (hi : C[pos]? = some i) (hI0 : i.1 = .isub) (hp : pos + 1 = p') (hz : inR (x - z)) (kk : At d y p' ls (.inl (x - z) :: r) h Q) : At d y pos ls (.inl z :: .inl x :: r) h Q := by
  subst hp
  exact x_1 hC hi (by simp [isRet, hI0]) (by simp [isCall, hI0]) (by simp only [ex1, hI0, e_bin]; rw [wr_id hz]) kk
theorem x_mul (hC : cod y = C) {i : Ins} {r : List AV} {x z : Int} (hi : C[pos]? = some i) (hI0 : i.1 = .imul) (hp : pos + 1 = p') (hz : inR (x * z)) (kk : At d y p' ls (.inl (x * z) :: r) h Q) : At d y pos ls (.inl z :: .inl x :: r) h Q := by
  subst hp
  exact x_1 hC hi (by simp [isRet, hI0]) (by simp [isCall, hI0]) (by simp only [ex1, hI0, e_bin]; rw [wr_id hz]) kk
theorem x_ldc (hC : cod y = C) {n : Nat} {v : Int} {a b w : Nat} {sw : List Nat} (hi : C[pos]? = some (.ldc n, v, a, b, w, sw)) (hp : pos + 1 = p') (hv : -2147483648 ≤ v ∧ v ≤ 2147483647) (kk : At d y p' ls (.inl v :: st) h Q) : At d y pos ls st h Q := by
  subst hp
  exact x_1 hC hi rfl rfl (by simp only [ex1, e_psh]; exact if_pos hv) kk
theorem x_ldcw (hC : cod y = C) {n : Nat} {v : Int} {a b w : Nat} {sw : List Nat} (hi : C[pos]? = some (.ldc_w n, v, a, b, w, sw)) (hp : pos + 1 = p') (hv : -2147483648 ≤ v ∧ v ≤ 2147483647) (kk : At d y p' ls (.inl v :: st) h Q) : At d y pos ls st h Q := by
  subst hp
  exact x_1 hC hi rfl rfl (by simp only [ex1, e_psh]; exact if_pos hv) kk
theorem x_new (hC : cod y = C) {idx : Nat} {v : Int} {ci b w : Nat} {sw : List Nat} (hi : C[pos]? = some (.new idx, v, ci, b, w, sw)) (hp : pos + 1 = p') (hc : Nat.blt ci 8 = true) (kk : At d y p' ls (.inr (some (hZ h)) :: st) (sNew h (ci + 1, 0) (fcn ci)) Q) : At d y pos ls st h Q := by
  subst hp
  exact x_1 hC hi rfl rfl (by simp only [ex1]; exact if_pos (Nat.le_of_ble_eq_true hc)) kk
theorem x_newi (hC : cod y = C) {v : Int} {a b w : Nat} {sw : List Nat} {n : Int} {r : List AV} (hi : C[pos]? = some (.newarray .int, v, a, b, w, sw)) (hp : pos + 1 = p') (hn : 0 ≤ n ∧ n ≤ 100000) (kk : At d y p' ls (.inr (some (hZ h)) :: r) (sNew h (100, n.toNat) n.toNat) Q) : At d y pos ls (.inl n :: r) h Q := by
  subst hp
  exact x_1 hC hi rfl rfl (by simp only [ex1, e_newa]; rw [if_pos hn]) kk
theorem x_newc (hC : cod y = C) {v : Int} {a b w : Nat} {sw : List Nat} {n : Int} {r : List AV} (hi : C[pos]? = some (.newarray .char, v, a, b, w, sw)) (hp : pos + 1 = p') (hn : 0 ≤ n ∧ n ≤ 100000) (kk : At d y p' ls (.inr (some (hZ h)) :: r) (sNew h (101, n.toNat) n.toNat) Q) : At d y pos ls (.inl n :: r) h Q := by
  subst hp
  exact x_1 hC hi rfl rfl (by simp only [ex1, e_newa]; rw [if_pos hn]) kk
theorem x_newr (hC : cod y = C) {idx : Nat} {v : Int} {ci b w : Nat} {sw : List Nat} {n : Int} {r : List AV} (hi : C[pos]? = some (.anewarray idx, v, ci, b, w, sw)) (hp : pos + 1 = p') (hc : rfO (200 + ci) = true) (hn : 0 ≤ n ∧ n ≤ 100000) (kk : At d y p' ls (.inr (some (hZ h)) :: r) (sNew h (200 + ci, n.toNat) n.toNat) Q) : At d y pos ls (.inl n :: r) h Q := by
  subst hp
  exact x_1 hC hi rfl rfl (by simp only [ex1, e_newa]; rw [if_pos hc, if_pos hn]) kk
theorem x_obj (hC : cod y = C) {idx : Nat} {v : Int} {a w : Nat} {sw : List Nat} {q : Nat} {r : List AV} (hi : C[pos]? = some (.invokespecial idx, v, a, 6, w, sw)) (hp : pos + 1 = p') (hl : Nat.ble r.length 8 = true) (kk : At (d + 1) y p' ls r h Q) : At (d + 1) y pos ls (.inr (some q) :: r) h Q := by
  subst hp
  exact x_1 hC hi rfl rfl (by simp only [ex1, eq_self, if_true, e_obj]; rw [if_pos ⟨by omega, Nat.le_of_ble_eq_true hl⟩]) kk
theorem x_max (hC : cod y = C) {idx : Nat} {v : Int} {a w : Nat} {sw : List Nat} {x z : Int} {r : List AV} (hi : C[pos]? = some (.invokestatic idx, v, a, 8, w, sw)) (hp : pos + 1 = p') (hl : Nat.ble (r.length + 2) 8 = true) (kk : At (d + 1) y p' ls (.inl (e_mxF x z) :: r) h Q) : At (d + 1) y pos ls (.inl z :: .inl x :: r) h Q := by
  subst hp
  have := Nat.le_of_ble_eq_true hl
  exact x_1 hC hi rfl rfl (by simp only [ex1, e_mx, e_bin]; rw [if_neg (by decide), if_pos (by trivial), if_pos ⟨by omega, by simp only [List.length_cons]; omega⟩]) kk
theorem x_min (hC : cod y = C) {idx : Nat} {v : Int} {a w : Nat} {sw : List Nat} {x z : Int} {r : List AV} (hi : C[pos]? = some (.invokestatic idx, v, a, 9, w, sw)) (hp : pos + 1 = p') (hl : Nat.ble (r.length + 2) 8 = true) (kk : At (d + 1) y p' ls (.inl (e_mnF x z) :: r) h Q) : At (d + 1) y pos ls (.inl z :: .inl x :: r) h Q := by
  subst hp
  have := Nat.le_of_ble_eq_true hl
  exact x_1 hC hi rfl rfl (by simp only [ex1, e_mx, e_bin]; rw [if_neg (by decide), if_neg (by decide), if_pos (by trivial), if_pos ⟨by omega, by simp only [List.length_cons]; omega⟩]) kk
theorem x_cpy (hC : cod y = C) {idx : Nat} {v : Int} {a w : Nat} {sw : List Nat} {n dp sp : Int} {q0 q1 l0 l1 : Nat} {r : List AV} (hi : C[pos]? = some (.invokestatic idx, v, a, 7, w, sw)) (hp : pos + 1 = p') (hl : Nat.ble r.length 8 = true) (t0 : hTy h q0 = (100, l0)) (t1 : hTy h q1 = (100, l1)) (g0 : 3 ≤ q0) (g1 : 3 ≤ q1) (hb : 0 ≤ sp ∧ 0 ≤ dp ∧ 0 ≤ n ∧ sp + n ≤ l0 ∧ dp + n ≤ l1) (kk : At (d + 1) y p' ls r (sCp h q0 sp q1 dp n) Q) : At (d + 1) y pos ls (.inl n :: .inl dp :: .inr (some q1) :: .inl sp :: .inr (some q0) :: r) h Q := by
  subst hp
  have hcnd : 1 ≤ d + 1 ∧ r.length ≤ 8 ∧ (hTy h q0).1 = 100 ∧ (hTy h q1).1 = 100 ∧ 3 ≤ q1 ∧ 3 ≤ q0 ∧ 0 ≤ sp ∧ 0 ≤ dp ∧ 0 ≤ n ∧ sp + n ≤ ((hTy h q0).2 : Int) ∧ dp + n ≤ ((hTy h q1).2 : Int) := by
    rw [t0, t1]
    exact ⟨by omega, Nat.le_of_ble_eq_true hl, rfl, rfl, g1, g0, hb⟩
  exact x_1 hC hi rfl rfl (by simp only [ex1, eq_self, if_true, e_cpy]; rw [if_pos hcnd]) kk
theorem CaI.start {as : List AV} {ls0 : Ls} {q : Int → HP → Prop} (hl : ini y as = ls0) (k : At d y 0 ls0 [] h (fun v h' => ∃ x, v = some (.inl x) ∧ q x h')) : CaI d y as h q := by subst hl; exact k
theorem CaR.start {as : List AV} {ls0 : Ls} {q : Option Nat → HP → Prop} (hl : ini y as = ls0) (k : At d y 0 ls0 [] h (fun v h' => ∃ x, v = some (.inr x) ∧ q x h')) : CaR d y as h q := by subst hl; exact k
theorem CaV.start {as : List AV} {ls0 : Ls} {q : HP → Prop} (hl : ini y as = ls0) (k : At d y 0 ls0 [] h (fun v h' => v = none ∧ q h')) : CaV d y as h q := by subst hl; exact k
end PX
/-- a loop: the measure falls at every turn -/
theorem at_loop {σ : Type} (W I : σ → Prop) (μ : σ → Nat) (hs : ∀ x, I x → (∀ x', I x' → μ x' < μ x → W x') → W x) : ∀ x, I x → W x := by
  intro x
  generalize hn : μ x = n
  induction n using Nat.strongRecOn generalizing x with
  | ind n ih => exact fun hI => hs x hI (fun x' hI' hlt => ih (μ x') (by omega) x' rfl hI')
end
section
/-! rules for the reference: one object m, nine arrays behind it; its state X: X 0 its fields, X 1 .. X 9 its arrays -/
def wX (m : Nat) (h : HP) (X : Nat → Int → Int) : HP := (hTy h, fun b j => if m ≤ b ∧ b ≤ m + 9 then X (b - m) j else hI h b j, hR h, hZ h, hU h)
def upX (X : Nat → Int → Int) (i : Nat) (j v : Int) : Nat → Int → Int := fun a b => if a = i ∧ b = j then v else X a b
def ups (s : Int → Int) (j v : Int) : Int → Int := fun b => if b = j then v else s b
theorem upX_eq {X : Nat → Int → Int} {i : Nat} {j v : Int} : upX X i j v i = ups (X i) j v := by funext b; simp [upX, ups]
theorem upX_ne {X : Nat → Int → Int} {i a : Nat} {j v : Int} (h : a ≠ i) : upX X i j v a = X a := by funext b; simp [upX, h]
/-- field k of the reference: which of its arrays it names; 0: it is a number -/
def rIx (k : Nat) : Nat := [1, 2, 3, 4, 0, 5, 0, 0, 0, 6, 7, 8, 9].getD k 0
def rLn (i : Nat) : Nat × Nat := [(8, 0), (100, 15568), (100, 62272), (100, 15568), (100, 15568), (101, 60), (100, 3), (100, 10), (100, 10), (100, 560)].getD i (0, 0)
def RO (m : Nat) (h : HP) : Prop := 3 ≤ m ∧ (∀ i, i ≤ 9 → hTy h (m + i) = rLn i) ∧ ∀ k, k < 14 → rIx k ≠ 0 → hR h m (k : Nat) = some (m + rIx k)
theorem RO.ty {m : Nat} {h : HP} {X : Nat → Int → Int} (hO : RO m h) : (hTy (wX m h X) m).1 = 7 + 1 := by
  have := hO.2.1 0 (by omega)
  show (hTy h m).1 = 8
  rw [Nat.add_zero] at this
  rw [this]; rfl
theorem wX_sI {m i : Nat} {h : HP} {X : Nat → Int → Int} {j v : Int} (hi : i ≤ 9) : sI (wX m h X) (m + i) j v = wX m h (upX X i j v) := by
  unfold sI wX upX
  simp only [hTy, hI, hR, hZ, hU]
  congr 2
  funext b k
  by_cases h1 : m ≤ b ∧ b ≤ m + 9
  · simp only [h1, and_self, if_true]
    by_cases h2 : b = m + i
    · subst h2
      simp
    · have : ¬ (b - m = i) := by omega
      simp [h2, this]
  · have : ¬ (b = m + i) := by omega
    simp only [h1, this, false_and, if_false]
theorem wX_hI {m i : Nat} {h : HP} {X : Nat → Int → Int} {j : Int} (hi : i ≤ 9) : hI (wX m h X) (m + i) j = X i j := by
  show (if m ≤ m + i ∧ m + i ≤ m + 9 then X (m + i - m) j else hI h (m + i) j) = _
  rw [if_pos (by omega), Nat.add_sub_cancel_left]
section YR
variable {d y pos p' m : Nat} {ls : Ls} {st : List AV} {h : HP} {X : Nat → Int → Int} {Q : Option AV → HP → Prop} {C : List Ins}
theorem y_gR (hO : RO m h) (hC : cod y = C) {idx : Nat} {v : Int} {k w n : Nat} {sw : List Nat} {r : List AV} (hi : C[pos]? = some (.getfield idx, v, 7, k, w, sw)) (hp : pos + 1 = p') (hk : (Nat.blt k (fcn 7) && (fkd 7 k == 1)) = true) (hn : (rIx k == n && !(n == 0) && Nat.blt k 14) = true) (kk : At d y p' ls (.inr (some (m + n)) :: r) (wX m h X) Q) : At d y pos ls (.inr (some m) :: r) (wX m h X) Q := by
  simp only [Bool.and_eq_true, beq_iff_eq, Bool.not_eq_true', beq_eq_false_iff_ne] at hn
  obtain ⟨⟨h1, h2⟩, h3⟩ := hn
  subst h1
  exact x_getR hC hi hp hk hO.ty (hO.2.2 k (Nat.le_of_ble_eq_true h3) h2) kk
theorem y_gI (hO : RO m h) (hC : cod y = C) {idx : Nat} {v : Int} {k w : Nat} {sw : List Nat} {r : List AV} (hi : C[pos]? = some (.getfield idx, v, 7, k, w, sw)) (hp : pos + 1 = p') (hk : (Nat.blt k (fcn 7) && !(fkd 7 k == 1)) = true) {kz : Int} (hkz : ((k : Nat) : Int) = kz) (kk : At d y p' ls (.inl (X 0 kz) :: r) (wX m h X) Q) : At d y pos ls (.inr (some m) :: r) (wX m h X) Q := by
  subst hkz
  refine x_getI hC hi hp hk hO.ty ?_
  have := wX_hI (m := m) (i := 0) (h := h) (X := X) (j := (k : Int)) (by omega)
  rw [Nat.add_zero] at this
  rw [this]; exact kk
theorem y_pI (hO : RO m h) (hC : cod y = C) {idx : Nat} {v : Int} {k w : Nat} {sw : List Nat} {r : List AV} {x : Int} (hi : C[pos]? = some (.putfield idx, v, 7, k, w, sw)) (hp : pos + 1 = p') (hk : (Nat.blt k (fcn 7) && (fkd 7 k == 0)) = true) {kz : Int} (hkz : ((k : Nat) : Int) = kz) (kk : At d y p' ls r (wX m h (upX X 0 kz x)) Q) : At d y pos ls (.inl x :: .inr (some m) :: r) (wX m h X) Q := by
  subst hkz
  refine x_putI hC hi hp hk hO.ty hO.1 ?_
  have := wX_sI (m := m) (i := 0) (h := h) (X := X) (j := (k : Int)) (v := x) (by omega)
  rw [Nat.add_zero] at this
  rw [this]; exact kk
theorem y_ld (hO : RO m h) (hC : cod y = C) {i : Ins} {r : List AV} {n L : Nat} {j : Int} (hi : C[pos]? = some i) (hI0 : i.1 = .iaload) (hp : pos + 1 = p') (hn : (rLn n == (100, L) && Nat.ble n 9) = true) (h0 : 0 ≤ j) (h1 : j < (L : Nat)) (kk : At d y p' ls (.inl (X n j) :: r) (wX m h X) Q) : At d y pos ls (.inl j :: .inr (some (m + n)) :: r) (wX m h X) Q := by
  simp only [Bool.and_eq_true, beq_iff_eq] at hn
  have hn9 : n ≤ 9 := Nat.le_of_ble_eq_true hn.2
  refine x_iald hC hi hI0 hp (show hTy h (m + n) = (100, L) by rw [hO.2.1 n hn9, hn.1]) h0 h1 ?_
  rw [wX_hI hn9]; exact kk
theorem y_st (hO : RO m h) (hC : cod y = C) {i : Ins} {r : List AV} {n L : Nat} {j x : Int} (hi : C[pos]? = some i) (hI0 : i.1 = .iastore) (hp : pos + 1 = p') (hn : (rLn n == (100, L) && Nat.ble n 9) = true) (h0 : 0 ≤ j) (h1 : j < (L : Nat)) (kk : At d y p' ls r (wX m h (upX X n j x)) Q) : At d y pos ls (.inl x :: .inl j :: .inr (some (m + n)) :: r) (wX m h X) Q := by
  simp only [Bool.and_eq_true, beq_iff_eq] at hn
  have hn9 : n ≤ 9 := Nat.le_of_ble_eq_true hn.2
  refine x_iast hC hi hI0 hp (show hTy h (m + n) = (100, L) by rw [hO.2.1 n hn9, hn.1]) (by have := hO.1; omega) h0 h1 ?_
  rw [wX_sI hn9]; exact kk
theorem y_cld (hO : RO m h) (hC : cod y = C) {i : Ins} {r : List AV} {j : Int} (hi : C[pos]? = some i) (hI0 : i.1 = .caload) (hp : pos + 1 = p') (h0 : 0 ≤ j) (h1 : j < 60) (kk : At d y p' ls (.inl (X 5 j) :: r) (wX m h X) Q) : At d y pos ls (.inl j :: .inr (some (m + 5)) :: r) (wX m h X) Q := by
  refine x_cald hC hi hI0 hp (show hTy h (m + 5) = (101, 60) from hO.2.1 5 (by omega)) h0 h1 ?_
  rw [wX_hI (by omega)]; exact kk
theorem y_cst (hO : RO m h) (hC : cod y = C) {i : Ins} {r : List AV} {j x : Int} (hi : C[pos]? = some i) (hI0 : i.1 = .castore) (hp : pos + 1 = p') (h0 : 0 ≤ j) (h1 : j < 60) (hx : 0 ≤ x ∧ x ≤ 65535) (kk : At d y p' ls r (wX m h (upX X 5 j x)) Q) : At d y pos ls (.inl x :: .inl j :: .inr (some (m + 5)) :: r) (wX m h X) Q := by
  refine x_cast hC hi hI0 hp (show hTy h (m + 5) = (101, 60) from hO.2.1 5 (by omega)) (by have := hO.1; omega) h0 h1 hx ?_
  rw [wX_sI (by omega)]; exact kk
end YR
noncomputable def cif {α : Type} (p : Prop) (a b : α) : α := @ite α p (Classical.propDecidable p) a b
theorem cif_t {α : Type} {p : Prop} {a b : α} (h : p) : cif p a b = a := @if_pos p (Classical.propDecidable p) h α a b
theorem cif_f {α : Type} {p : Prop} {a b : α} (h : ¬ p) : cif p a b = b := @if_neg p (Classical.propDecidable p) h α a b
noncomputable def b2i (p : Prop) : Int := cif p 1 0
theorem b2i_t {p : Prop} (h : p) : b2i p = 1 := cif_t h
theorem b2i_f {p : Prop} (h : ¬ p) : b2i p = 0 := cif_f h
theorem b2i_01 (p : Prop) : 0 ≤ b2i p ∧ b2i p ≤ 1 := by
  rcases Classical.em p with h | h
  · rw [b2i_t h]; omega
  · rw [b2i_f h]; omega
theorem b2i_0 {p : Prop} : b2i p = 0 ↔ ¬ p := by
  rcases Classical.em p with h | h
  · rw [b2i_t h]; simp [h]
  · rw [b2i_f h]; simp [h]
theorem b2i_n0 {p : Prop} : ¬ b2i p = 0 ↔ p := by rw [b2i_0]; exact Classical.not_not
theorem b2i_congr {p q : Prop} (h : p ↔ q) : b2i p = b2i q := by rw [propext h]
theorem cif_congr {α : Type} {p q : Prop} {a b : α} (h : p ↔ q) : cif p a b = cif q a b := by rw [propext h]
theorem oAnd_1 (x : Int) : 0 ≤ oAnd x 1 ∧ oAnd x 1 ≤ 1 := by
  unfold oAnd
  have h : ∀ y : Int32, 0 ≤ (y &&& 1).toInt ∧ (y &&& 1).toInt ≤ 1 := by
    intro y
    obtain ⟨j, hj, e⟩ := pk_andE y (m := 1) 1 (by decide)
    rw [e, nI_toInt (by omega)]
    omega
  exact h (iS x)
theorem wr_tdiv {a b : Int} (ha : 0 ≤ a) (ha2 : a ≤ 2147483647) (hb : 0 < b) : wr (a.tdiv b) = a / b := by
  rw [Int.tdiv_eq_ediv_of_nonneg ha]
  exact wr_id ⟨by have := Int.ediv_nonneg ha (Int.le_of_lt hb); omega, by have := Int.ediv_le_self b ha; omega⟩
theorem wr_tmod {a b : Int} (ha : 0 ≤ a) (hb : 0 < b) (hb2 : b ≤ 2147483647) : wr (a.tmod b) = a % b := by
  rw [Int.tmod_eq_emod_of_nonneg ha]
  exact wr_id ⟨by have := Int.emod_nonneg a (show b ≠ 0 by omega); omega, by have := Int.emod_lt_of_pos a hb; omega⟩
end
section
/-! the reference's leaves -/
def rOf (s : Int → Int) (h w : Int) : Int := s (8 + 10 * h + w)
def rIts (s : Int → Int) (u w : Int) : Int := s (58 + 4 * u + w)
def rFr (s : Int → Int) (f w : Int) : Int := s (448 + 27 * f + w)
theorem eqK {Q : Int → HP → Prop} {a b : Int} {h : HP} (K : Q a h) (e : a = b) : Q b h := e ▸ K
set_option maxRecDepth 20000 in
theorem sp_m_in {d : Nat} {h : HP} {v lo hi : Int} {Q : Int → HP → Prop} (K : Q (b2i (lo ≤ v ∧ v ≤ hi)) h) : CaI d 2 [.inl v, .inl lo, .inl hi] h Q := by
  have hC : cod 2 = c_m_in := rfl
  refine CaI.start rfl ?_
  refine x_1 (p' := 1) hC rfl rfl rfl rfl ?_
  refine x_1 (p' := 2) hC rfl rfl rfl rfl ?_
  refine x_iclt (p' := 3) hC rfl rfl (fun c2 => ?_) (fun c2 => ?_)
  · refine x_1 (p' := 9) hC rfl rfl rfl rfl ?_
    refine x_zret hC rfl rfl rfl (by first | omega | exact b2i_01 _) ⟨_, rfl, ?_⟩
    refine eqK K ?_
    first | exact b2i_t (by omega) | exact b2i_f (by omega)
  · refine x_1 (p' := 4) hC rfl rfl rfl rfl ?_
    refine x_1 (p' := 5) hC rfl rfl rfl rfl ?_
    refine x_icgt (p' := 6) hC rfl rfl (fun c5 => ?_) (fun c5 => ?_)
    · refine x_1 (p' := 9) hC rfl rfl rfl rfl ?_
      refine x_zret hC rfl rfl rfl (by first | omega | exact b2i_01 _) ⟨_, rfl, ?_⟩
      refine eqK K ?_
      first | exact b2i_t (by omega) | exact b2i_f (by omega)
    · refine x_1 (p' := 7) hC rfl rfl rfl rfl ?_
      refine x_1 (p' := 9) hC rfl rfl rfl rfl ?_
      refine x_zret hC rfl rfl rfl (by first | omega | exact b2i_01 _) ⟨_, rfl, ?_⟩
      refine eqK K ?_
      first | exact b2i_t (by omega) | exact b2i_f (by omega)
set_option maxRecDepth 20000 in
theorem sp_m_of {d : Nat} {m : Nat} {h : HP} (hO : RO m h) {X : Nat → Int → Int} {f w : Int} (hf : 0 ≤ f ∧ f < 5) (hw : 0 ≤ w ∧ w < 10) {Q : Int → HP → Prop} (K : Q (rOf (X 1) f w) (wX m h X)) : CaI d 3 [.inr (some m), .inl f, .inl w] (wX m h X) Q := by
  have hC : cod 3 = c_m_of := rfl
  refine CaI.start rfl ?_
  refine x_1 (p' := 1) hC rfl rfl rfl rfl ?_
  refine y_gR (p' := 2) (n := 1) hO hC rfl rfl rfl rfl ?_
  refine x_1 (p' := 3) hC rfl rfl rfl rfl ?_
  refine x_1 (p' := 4) hC rfl rfl rfl rfl ?_
  refine x_1 (p' := 5) hC rfl rfl rfl rfl ?_
  refine x_mul (p' := 6) hC rfl rfl rfl (⟨by omega, by omega⟩) ?_
  refine x_add (p' := 7) hC rfl rfl rfl (⟨by omega, by omega⟩) ?_
  refine x_1 (p' := 8) hC rfl rfl rfl rfl ?_
  refine x_add (p' := 9) hC rfl rfl rfl (⟨by omega, by omega⟩) ?_
  refine y_ld (p' := 10) (L := 15568) hO hC rfl rfl rfl rfl (by omega) (by omega) ?_
  refine x_iret hC rfl rfl rfl ⟨_, rfl, ?_⟩
  exact K
set_option maxRecDepth 20000 in
theorem sp_m_its {d : Nat} {m : Nat} {h : HP} (hO : RO m h) {X : Nat → Int → Int} {f w : Int} (hf : 0 ≤ f ∧ f < 10) (hw : 0 ≤ w ∧ w < 4) {Q : Int → HP → Prop} (K : Q (rIts (X 1) f w) (wX m h X)) : CaI d 4 [.inr (some m), .inl f, .inl w] (wX m h X) Q := by
  have hC : cod 4 = c_m_its := rfl
  refine CaI.start rfl ?_
  refine x_1 (p' := 1) hC rfl rfl rfl rfl ?_
  refine y_gR (p' := 2) (n := 1) hO hC rfl rfl rfl rfl ?_
  refine x_1 (p' := 3) hC rfl rfl rfl rfl ?_
  refine x_1 (p' := 4) hC rfl rfl rfl rfl ?_
  refine x_1 (p' := 5) hC rfl rfl rfl rfl ?_
  refine x_mul (p' := 6) hC rfl rfl rfl (⟨by omega, by omega⟩) ?_
  refine x_add (p' := 7) hC rfl rfl rfl (⟨by omega, by omega⟩) ?_
  refine x_1 (p' := 8) hC rfl rfl rfl rfl ?_
  refine x_add (p' := 9) hC rfl rfl rfl (⟨by omega, by omega⟩) ?_
  refine y_ld (p' := 10) (L := 15568) hO hC rfl rfl rfl rfl (by omega) (by omega) ?_
  refine x_iret hC rfl rfl rfl ⟨_, rfl, ?_⟩
  exact K
set_option maxRecDepth 20000 in
theorem sp_m_fr {d : Nat} {m : Nat} {h : HP} (hO : RO m h) {X : Nat → Int → Int} {f w : Int} (hf : 0 ≤ f ∧ f < 560) (hw : 0 ≤ w ∧ w < 27) {Q : Int → HP → Prop} (K : Q (rFr (X 1) f w) (wX m h X)) : CaI d 5 [.inr (some m), .inl f, .inl w] (wX m h X) Q := by
  have hC : cod 5 = c_m_fr := rfl
  refine CaI.start rfl ?_
  refine x_1 (p' := 1) hC rfl rfl rfl rfl ?_
  refine y_gR (p' := 2) (n := 1) hO hC rfl rfl rfl rfl ?_
  refine x_1 (p' := 3) hC rfl rfl rfl rfl ?_
  refine x_1 (p' := 4) hC rfl rfl rfl rfl ?_
  refine x_1 (p' := 5) hC rfl rfl rfl rfl ?_
  refine x_mul (p' := 6) hC rfl rfl rfl (⟨by omega, by omega⟩) ?_
  refine x_add (p' := 7) hC rfl rfl rfl (⟨by omega, by omega⟩) ?_
  refine x_1 (p' := 8) hC rfl rfl rfl rfl ?_
  refine x_add (p' := 9) hC rfl rfl rfl (⟨by omega, by omega⟩) ?_
  refine y_ld (p' := 10) (L := 15568) hO hC rfl rfl rfl rfl (by omega) (by omega) ?_
  refine x_iret hC rfl rfl rfl ⟨_, rfl, ?_⟩
  exact K
set_option maxRecDepth 20000 in
theorem sp_m_lays {d : Nat} {m : Nat} {h : HP} (hO : RO m h) {X : Nat → Int → Int} {f w v : Int} (hf : 0 ≤ f ∧ f < 560) (hw : 0 ≤ w ∧ w < 27) {Q : HP → Prop} (K : Q (wX m h (upX X 1 (448 + 27 * f + w) v))) : CaV d 6 [.inr (some m), .inl f, .inl w, .inl v] (wX m h X) Q := by
  have hC : cod 6 = c_m_lays := rfl
  refine CaV.start rfl ?_
  refine x_1 (p' := 1) hC rfl rfl rfl rfl ?_
  refine y_gR (p' := 2) (n := 1) hO hC rfl rfl rfl rfl ?_
  refine x_1 (p' := 3) hC rfl rfl rfl rfl ?_
  refine x_1 (p' := 4) hC rfl rfl rfl rfl ?_
  refine x_1 (p' := 5) hC rfl rfl rfl rfl ?_
  refine x_mul (p' := 6) hC rfl rfl rfl (⟨by omega, by omega⟩) ?_
  refine x_add (p' := 7) hC rfl rfl rfl (⟨by omega, by omega⟩) ?_
  refine x_1 (p' := 8) hC rfl rfl rfl rfl ?_
  refine x_add (p' := 9) hC rfl rfl rfl (⟨by omega, by omega⟩) ?_
  refine x_1 (p' := 10) hC rfl rfl rfl rfl ?_
  refine y_st (p' := 11) (L := 15568) hO hC rfl rfl rfl rfl (by omega) (by omega) ?_
  refine x_ret hC rfl rfl rfl ⟨rfl, ?_⟩
  exact K
def isHubR (s : Int → Int) (f : Int) : Prop := 0 ≤ f ∧ f ≤ s 0 - 1
def isUnitR (s : Int → Int) (f : Int) : Prop := 0 ≤ f ∧ f ≤ s 1 - 1
set_option maxRecDepth 20000 in
theorem sp_m_isHub {d : Nat} {m : Nat} {h : HP} (hO : RO m h) {X : Nat → Int → Int} (hs : 0 ≤ X 1 0 ∧ X 1 0 ≤ 5) {f : Int} {Q : Int → HP → Prop} (K : Q (b2i (0 ≤ f ∧ f ≤ X 1 0 - 1)) (wX m h X)) : CaI (d + 1) 7 [.inr (some m), .inl f] (wX m h X) Q := by
  have hC : cod 7 = c_m_isHub := rfl
  refine CaI.start rfl ?_
  refine x_1 (p' := 1) hC rfl rfl rfl rfl ?_
  refine x_1 (p' := 2) hC rfl rfl rfl rfl ?_
  refine x_1 (p' := 3) hC rfl rfl rfl rfl ?_
  refine y_gR (p' := 4) (n := 1) hO hC rfl rfl rfl rfl ?_
  refine x_1 (p' := 5) hC rfl rfl rfl rfl ?_
  refine y_ld (p' := 6) (L := 15568) hO hC rfl rfl rfl rfl (by omega) (by omega) ?_
  refine x_1 (p' := 7) hC rfl rfl rfl rfl ?_
  refine x_sub (p' := 8) hC rfl rfl rfl (⟨by omega, by omega⟩) ?_
  refine x_cIS3 (p' := 9) (n := 2) hC rfl rfl rfl rfl rfl ?_
  refine sp_m_in ?_
  refine x_zret hC rfl rfl rfl (by first | omega | exact b2i_01 _) ⟨_, rfl, ?_⟩
  exact K
set_option maxRecDepth 20000 in
theorem sp_m_isUnit {d : Nat} {m : Nat} {h : HP} (hO : RO m h) {X : Nat → Int → Int} (hs : 0 ≤ X 1 1 ∧ X 1 1 ≤ 10) {f : Int} {Q : Int → HP → Prop} (K : Q (b2i (0 ≤ f ∧ f ≤ X 1 1 - 1)) (wX m h X)) : CaI (d + 1) 8 [.inr (some m), .inl f] (wX m h X) Q := by
  have hC : cod 8 = c_m_isUnit := rfl
  refine CaI.start rfl ?_
  refine x_1 (p' := 1) hC rfl rfl rfl rfl ?_
  refine x_1 (p' := 2) hC rfl rfl rfl rfl ?_
  refine x_1 (p' := 3) hC rfl rfl rfl rfl ?_
  refine y_gR (p' := 4) (n := 1) hO hC rfl rfl rfl rfl ?_
  refine x_1 (p' := 5) hC rfl rfl rfl rfl ?_
  refine y_ld (p' := 6) (L := 15568) hO hC rfl rfl rfl rfl (by omega) (by omega) ?_
  refine x_1 (p' := 7) hC rfl rfl rfl rfl ?_
  refine x_sub (p' := 8) hC rfl rfl rfl (⟨by omega, by omega⟩) ?_
  refine x_cIS3 (p' := 9) (n := 2) hC rfl rfl rfl rfl rfl ?_
  refine sp_m_in ?_
  refine x_zret hC rfl rfl rfl (by first | omega | exact b2i_01 _) ⟨_, rfl, ?_⟩
  exact K
set_option maxRecDepth 20000 in
theorem sp_m_isOn {d : Nat} {m : Nat} {h : HP} (hO : RO m h) {X : Nat → Int → Int} {f : Int} (hf : 0 ≤ f ∧ f < 10) {Q : Int → HP → Prop} (K : Q (b2i (rIts (X 1) f 2 = 0)) (wX m h X)) : CaI (d + 1) 9 [.inr (some m), .inl f] (wX m h X) Q := by
  have hC : cod 9 = c_m_isOn := rfl
  refine CaI.start rfl ?_
  refine x_1 (p' := 1) hC rfl rfl rfl rfl ?_
  refine x_1 (p' := 2) hC rfl rfl rfl rfl ?_
  refine x_1 (p' := 3) hC rfl rfl rfl rfl ?_
  refine x_cIV2 (p' := 4) (n := 4) hC rfl rfl rfl rfl rfl (hO.ty) ?_
  refine sp_m_its hO (by omega) (by omega) ?_
  refine x_ifne (p' := 5) hC rfl rfl (fun c4 => ?_) (fun c4 => ?_)
  · refine x_1 (p' := 8) hC rfl rfl rfl rfl ?_
    refine x_zret hC rfl rfl rfl (by first | omega | exact b2i_01 _) ⟨_, rfl, ?_⟩
    refine eqK K ?_
    first | exact b2i_t (by omega) | exact b2i_f (by omega)
  · refine x_1 (p' := 6) hC rfl rfl rfl rfl ?_
    refine x_1 (p' := 8) hC rfl rfl rfl rfl ?_
    refine x_zret hC rfl rfl rfl (by first | omega | exact b2i_01 _) ⟨_, rfl, ?_⟩
    refine eqK K ?_
    first | exact b2i_t (by omega) | exact b2i_f (by omega)
set_option maxRecDepth 20000 in
theorem sp_m_goWith {d : Nat} {h : HP} {a b : Int} (ha : 1 ≤ a ∧ a ≤ 20) (hb : 1 ≤ b ∧ b ≤ 20) {Q : Int → HP → Prop} (K : Q (b2i (a % b = 0 ∨ b % a = 0)) h) : CaI d 14 [.inl a, .inl b] h Q := by
  have e1 : wr (a.tmod b) = a % b := by rw [Int.tmod_eq_emod_of_nonneg (by omega)]; exact wr_id ⟨by have := Int.emod_nonneg a (show b ≠ 0 by omega); omega, by have := Int.emod_lt_of_pos a (show 0 < b by omega); omega⟩
  have e2 : wr (b.tmod a) = b % a := by rw [Int.tmod_eq_emod_of_nonneg (by omega)]; exact wr_id ⟨by have := Int.emod_nonneg b (show a ≠ 0 by omega); omega, by have := Int.emod_lt_of_pos b (show 0 < a by omega); omega⟩
  have hC : cod 14 = c_m_goWith := rfl
  refine CaI.start rfl ?_
  refine x_1 (p' := 1) hC rfl rfl rfl rfl ?_
  refine x_1 (p' := 2) hC rfl rfl rfl rfl ?_
  refine x_rem (p' := 3) hC rfl rfl rfl (by omega) ?_
  refine x_ifeq (p' := 4) hC rfl rfl (fun c3 => ?_) (fun c3 => ?_)
  · refine x_1 (p' := 9) hC rfl rfl rfl rfl ?_
    refine x_1 (p' := 11) hC rfl rfl rfl rfl ?_
    refine x_zret hC rfl rfl rfl (by first | omega | exact b2i_01 _) ⟨_, rfl, ?_⟩
    rw [e1] at *
    rw [e2] at *
    refine eqK K ?_
    first | exact b2i_t (by omega) | exact b2i_f (by omega)
  · refine x_1 (p' := 5) hC rfl rfl rfl rfl ?_
    refine x_1 (p' := 6) hC rfl rfl rfl rfl ?_
    refine x_rem (p' := 7) hC rfl rfl rfl (by omega) ?_
    refine x_ifne (p' := 8) hC rfl rfl (fun c7 => ?_) (fun c7 => ?_)
    · refine x_1 (p' := 11) hC rfl rfl rfl rfl ?_
      refine x_zret hC rfl rfl rfl (by first | omega | exact b2i_01 _) ⟨_, rfl, ?_⟩
      rw [e1] at *
      rw [e2] at *
      refine eqK K ?_
      first | exact b2i_t (by omega) | exact b2i_f (by omega)
    · refine x_1 (p' := 9) hC rfl rfl rfl rfl ?_
      refine x_1 (p' := 11) hC rfl rfl rfl rfl ?_
      refine x_zret hC rfl rfl rfl (by first | omega | exact b2i_01 _) ⟨_, rfl, ?_⟩
      rw [e1] at *
      rw [e2] at *
      refine eqK K ?_
      first | exact b2i_t (by omega) | exact b2i_f (by omega)
end
section
/-! the reference's readers -/
def fI {α : Type} (n : Int) (g : Int → α → α) (a : α) : α := (List.range n.toNat).foldl (fun acc (k : Nat) => g ((k : Nat) : Int) acc) a
theorem fI_0 {α : Type} {g : Int → α → α} {a : α} : fI 0 g a = a := rfl
theorem fI_succ {α : Type} {g : Int → α → α} {a : α} {i : Int} (h : 0 ≤ i) : fI (i + 1) g a = g i (fI i g a) := by
  unfold fI
  rw [show (i + 1).toNat = i.toNat + 1 by omega, List.range_succ, List.foldl_append]
  show g ((i.toNat : Nat) : Int) _ = _
  rw [Int.toNat_of_nonneg h]
/-- the row's ranges, as the readers need them -/
def RI (s : Int → Int) : Prop := (1 ≤ s 0 ∧ s 0 ≤ 5) ∧ (0 ≤ s 1 ∧ s 1 ≤ 10) ∧ (0 ≤ s 7 ∧ s 7 ≤ 559) ∧ (0 ≤ s 5 ∧ s 5 ≤ 8) ∧
  (∀ h, 0 ≤ h → h < s 0 → -1 ≤ rOf s h 5 ∧ rOf s h 5 < h ∧ 1 ≤ rOf s h 4 ∧ rOf s h 4 ≤ 20) ∧ ∀ u, 0 ≤ u → u < s 1 → 0 ≤ rIts s u 0 ∧ rIts s u 0 < s 0 ∧ 1 ≤ rIts s u 1 ∧ rIts s u 1 ≤ 20
abbrev rChild (s : Int → Int) (h c : Int) : Prop := (c < 10 ∧ 0 ≤ c ∧ c ≤ s 1 - 1 ∧ rIts s c 2 = 0 ∧ rIts s c 0 = h) ∨ (10 ≤ c ∧ 0 ≤ c - 10 ∧ c - 10 ≤ s 0 - 1 ∧ rOf s (c - 10) 5 = h)
def rPer (s : Int → Int) (c : Int) : Int := if c < 10 then rIts s c 1 else rOf s (c - 10) 4
set_option maxRecDepth 20000 in
theorem sp_m_isChild {d : Nat} {m : Nat} {h : HP} (hO : RO m h) {X : Nat → Int → Int} (hs : RI (X 1)) {f c : Int} (hc : 0 ≤ c ∧ c < 15) {Q : Int → HP → Prop} (K : Q (b2i (rChild (X 1) f c)) (wX m h X)) : CaI (d + 2) 15 [.inr (some m), .inl f, .inl c] (wX m h X) Q := by
  have hC : cod 15 = c_m_isChild := rfl
  refine CaI.start rfl ?_
  have hs1 := hs.1
  have hs2 := hs.2.1
  refine x_1 (p' := 1) hC rfl rfl rfl rfl ?_
  refine x_1 (p' := 2) hC rfl rfl rfl rfl ?_
  refine x_icge (p' := 3) hC rfl rfl (fun c2 => ?_) (fun c2 => ?_)
  · refine x_1 (p' := 22) hC rfl rfl rfl rfl ?_
    refine x_1 (p' := 23) hC rfl rfl rfl rfl ?_
    refine x_1 (p' := 24) hC rfl rfl rfl rfl ?_
    refine x_sub (p' := 25) hC rfl rfl rfl (⟨by omega, by omega⟩) ?_
    refine x_cIV1 (p' := 26) (n := 7) hC rfl rfl rfl rfl rfl (hO.ty) ?_
    refine sp_m_isHub hO (by have := hs.1; omega) ?_
    refine x_ifeq (p' := 27) hC rfl rfl (fun c26 => ?_) (fun c26 => ?_)
    · have c26 := b2i_0.mp c26
      refine x_1 (p' := 38) hC rfl rfl rfl rfl ?_
      refine x_zret hC rfl rfl rfl (by first | omega | exact b2i_01 _) ⟨_, rfl, ?_⟩
      refine eqK K ?_
      first | exact b2i_t (by omega) | exact b2i_f (by omega)
    · have c26 := b2i_n0.mp c26
      refine x_1 (p' := 28) hC rfl rfl rfl rfl ?_
      refine x_1 (p' := 29) hC rfl rfl rfl rfl ?_
      refine x_1 (p' := 30) hC rfl rfl rfl rfl ?_
      refine x_sub (p' := 31) hC rfl rfl rfl (⟨by omega, by omega⟩) ?_
      refine x_1 (p' := 32) hC rfl rfl rfl rfl ?_
      refine x_cIV2 (p' := 33) (n := 3) hC rfl rfl rfl rfl rfl (hO.ty) ?_
      refine sp_m_of hO (by omega) (by omega) ?_
      refine x_1 (p' := 34) hC rfl rfl rfl rfl ?_
      refine x_icne (p' := 35) hC rfl rfl (fun c34 => ?_) (fun c34 => ?_)
      · refine x_1 (p' := 38) hC rfl rfl rfl rfl ?_
        refine x_zret hC rfl rfl rfl (by first | omega | exact b2i_01 _) ⟨_, rfl, ?_⟩
        refine eqK K ?_
        first | exact b2i_t (by omega) | exact b2i_f (by omega)
      · refine x_1 (p' := 36) hC rfl rfl rfl rfl ?_
        refine x_1 (p' := 38) hC rfl rfl rfl rfl ?_
        refine x_zret hC rfl rfl rfl (by first | omega | exact b2i_01 _) ⟨_, rfl, ?_⟩
        refine eqK K ?_
        first | exact b2i_t (by omega) | exact b2i_f (by omega)
  · refine x_1 (p' := 4) hC rfl rfl rfl rfl ?_
    refine x_1 (p' := 5) hC rfl rfl rfl rfl ?_
    refine x_cIV1 (p' := 6) (n := 8) hC rfl rfl rfl rfl rfl (hO.ty) ?_
    refine sp_m_isUnit hO hs.2.1 ?_
    refine x_ifeq (p' := 7) hC rfl rfl (fun c6 => ?_) (fun c6 => ?_)
    · have c6 := b2i_0.mp c6
      refine x_1 (p' := 20) hC rfl rfl rfl rfl ?_
      refine x_zret hC rfl rfl rfl (by first | omega | exact b2i_01 _) ⟨_, rfl, ?_⟩
      refine eqK K ?_
      first | exact b2i_t (by omega) | exact b2i_f (by omega)
    · have c6 := b2i_n0.mp c6
      refine x_1 (p' := 8) hC rfl rfl rfl rfl ?_
      refine x_1 (p' := 9) hC rfl rfl rfl rfl ?_
      refine x_cIV1 (p' := 10) (n := 9) hC rfl rfl rfl rfl rfl (hO.ty) ?_
      refine sp_m_isOn hO (by omega) ?_
      refine x_ifeq (p' := 11) hC rfl rfl (fun c10 => ?_) (fun c10 => ?_)
      · have c10 := b2i_0.mp c10
        refine x_1 (p' := 20) hC rfl rfl rfl rfl ?_
        refine x_zret hC rfl rfl rfl (by first | omega | exact b2i_01 _) ⟨_, rfl, ?_⟩
        refine eqK K ?_
        first | exact b2i_t (by omega) | exact b2i_f (by omega)
      · have c10 := b2i_n0.mp c10
        refine x_1 (p' := 12) hC rfl rfl rfl rfl ?_
        refine x_1 (p' := 13) hC rfl rfl rfl rfl ?_
        refine x_1 (p' := 14) hC rfl rfl rfl rfl ?_
        refine x_cIV2 (p' := 15) (n := 4) hC rfl rfl rfl rfl rfl (hO.ty) ?_
        refine sp_m_its hO (by omega) (by omega) ?_
        refine x_1 (p' := 16) hC rfl rfl rfl rfl ?_
        refine x_icne (p' := 17) hC rfl rfl (fun c16 => ?_) (fun c16 => ?_)
        · refine x_1 (p' := 20) hC rfl rfl rfl rfl ?_
          refine x_zret hC rfl rfl rfl (by first | omega | exact b2i_01 _) ⟨_, rfl, ?_⟩
          refine eqK K ?_
          first | exact b2i_t (by omega) | exact b2i_f (by omega)
        · refine x_1 (p' := 18) hC rfl rfl rfl rfl ?_
          refine x_1 (p' := 20) hC rfl rfl rfl rfl ?_
          refine x_zret hC rfl rfl rfl (by first | omega | exact b2i_01 _) ⟨_, rfl, ?_⟩
          refine eqK K ?_
          first | exact b2i_t (by omega) | exact b2i_f (by omega)
set_option maxRecDepth 20000 in
theorem sp_m_periodOf {d : Nat} {m : Nat} {h : HP} (hO : RO m h) {X : Nat → Int → Int} {c : Int} (hc : 0 ≤ c ∧ c < 15) {Q : Int → HP → Prop} (K : Q (rPer (X 1) c) (wX m h X)) : CaI (d + 1) 16 [.inr (some m), .inl c] (wX m h X) Q := by
  have hC : cod 16 = c_m_periodOf := rfl
  refine CaI.start rfl ?_
  refine x_1 (p' := 1) hC rfl rfl rfl rfl ?_
  refine x_1 (p' := 2) hC rfl rfl rfl rfl ?_
  refine x_icge (p' := 3) hC rfl rfl (fun c2 => ?_) (fun c2 => ?_)
  · refine x_1 (p' := 9) hC rfl rfl rfl rfl ?_
    refine x_1 (p' := 10) hC rfl rfl rfl rfl ?_
    refine x_1 (p' := 11) hC rfl rfl rfl rfl ?_
    refine x_sub (p' := 12) hC rfl rfl rfl (⟨by omega, by omega⟩) ?_
    refine x_1 (p' := 13) hC rfl rfl rfl rfl ?_
    refine x_cIV2 (p' := 14) (n := 3) hC rfl rfl rfl rfl rfl (hO.ty) ?_
    refine sp_m_of hO (by omega) (by omega) ?_
    refine x_iret hC rfl rfl rfl ⟨_, rfl, ?_⟩
    refine eqK K ?_
    unfold rPer
    first | exact if_pos (by omega) | exact if_neg (by omega)
  · refine x_1 (p' := 4) hC rfl rfl rfl rfl ?_
    refine x_1 (p' := 5) hC rfl rfl rfl rfl ?_
    refine x_1 (p' := 6) hC rfl rfl rfl rfl ?_
    refine x_cIV2 (p' := 7) (n := 4) hC rfl rfl rfl rfl rfl (hO.ty) ?_
    refine sp_m_its hO (by omega) (by omega) ?_
    refine x_1 (p' := 14) hC rfl rfl rfl rfl ?_
    refine x_iret hC rfl rfl rfl ⟨_, rfl, ?_⟩
    refine eqK K ?_
    unfold rPer
    first | exact if_pos (by omega) | exact if_neg (by omega)
/-- from hub x up to hub f: the child that is passed last -/
def rThr (s : Int → Int) (f : Int) : Nat → Int → Int → Int
  | 0, _, _ => -1
  | n + 1, c, x => if x < 0 then -1 else if x = f then c else rThr s f n (10 + x) (rOf s x 5)
def rThrough (s : Int → Int) (f u : Int) : Int := rThr s f 6 u (rIts s u 0)
set_option maxRecDepth 20000 in
theorem lp_m_through {d : Nat} {m : Nat} {h : HP} (hO : RO m h) {X : Nat → Int → Int} (hs : RI (X 1)) {f u : Int} (hf : 0 ≤ f) {Q : Int → HP → Prop} {Kf : Int} (K : Q Kf (wX m h X)) (k : Nat) : ∀ (c : Int) (x : Int), (x + 1).toNat < k → (-1 ≤ x ∧ x < 5 ∧ x < X 1 0) → (∃ n : Nat, x + 1 ≤ n ∧ rThr (X 1) f (n + 1) c x = Kf) → At (d + 1) 17 7 [some (.inr (some m)), some (.inl f), some (.inl u), some (.inl c), some (.inl x)] [] (wX m h X) (fun v h' => ∃ x, v = some (.inl x) ∧ Q x h') := by
  have hC : cod 17 = c_m_through := rfl
  induction k with
  | zero =>
    intro c x hk
    exact absurd hk (Nat.not_lt_zero _)
  | succ k ih =>
    intro c x hk hI0 hI1
    obtain ⟨n, hn, hT⟩ := hI1
    refine x_1 (p' := 8) hC rfl rfl rfl rfl ?_
    refine x_iflt (p' := 9) hC rfl rfl (fun c8 => ?_) (fun c8 => ?_)
    · refine x_1 (p' := 23) hC rfl rfl rfl rfl ?_
      refine x_1 (p' := 24) hC rfl rfl rfl rfl ?_
      refine x_icne (p' := 25) hC rfl rfl (fun c24 => ?_) (fun c24 => ?_)
      · refine x_1 (p' := 28) hC rfl rfl rfl rfl ?_
        refine x_iret hC rfl rfl rfl ⟨_, rfl, ?_⟩
        refine eqK K ?_
        rw [← hT, rThr]
        first | exact if_pos (by omega) | (rw [if_neg (by omega)]; first | exact if_pos (by omega) | exact if_neg (by omega))
      · refine x_1 (p' := 26) hC rfl rfl rfl rfl ?_
        refine x_1 (p' := 28) hC rfl rfl rfl rfl ?_
        refine x_iret hC rfl rfl rfl ⟨_, rfl, ?_⟩
        refine eqK K ?_
        rw [← hT, rThr]
        first | exact if_pos (by omega) | (rw [if_neg (by omega)]; first | exact if_pos (by omega) | exact if_neg (by omega))
    · refine x_1 (p' := 10) hC rfl rfl rfl rfl ?_
      refine x_1 (p' := 11) hC rfl rfl rfl rfl ?_
      refine x_iceq (p' := 12) hC rfl rfl (fun c11 => ?_) (fun c11 => ?_)
      · refine x_1 (p' := 23) hC rfl rfl rfl rfl ?_
        refine x_1 (p' := 24) hC rfl rfl rfl rfl ?_
        refine x_icne (p' := 25) hC rfl rfl (fun c24 => ?_) (fun c24 => ?_)
        · refine x_1 (p' := 28) hC rfl rfl rfl rfl ?_
          refine x_iret hC rfl rfl rfl ⟨_, rfl, ?_⟩
          refine eqK K ?_
          rw [← hT, rThr]
          first | exact if_pos (by omega) | (rw [if_neg (by omega)]; first | exact if_pos (by omega) | exact if_neg (by omega))
        · refine x_1 (p' := 26) hC rfl rfl rfl rfl ?_
          refine x_1 (p' := 28) hC rfl rfl rfl rfl ?_
          refine x_iret hC rfl rfl rfl ⟨_, rfl, ?_⟩
          refine eqK K ?_
          rw [← hT, rThr]
          first | exact if_pos (by omega) | (rw [if_neg (by omega)]; first | exact if_pos (by omega) | exact if_neg (by omega))
      · have hx := hs.2.2.2.2.1 x (by omega) (by omega)
        refine x_1 (p' := 13) hC rfl rfl rfl rfl ?_
        refine x_1 (p' := 14) hC rfl rfl rfl rfl ?_
        refine x_add (p' := 15) hC rfl rfl rfl (⟨by omega, by omega⟩) ?_
        refine x_stI3 (p' := 16) hC rfl rfl rfl ?_
        refine x_1 (p' := 17) hC rfl rfl rfl rfl ?_
        refine x_1 (p' := 18) hC rfl rfl rfl rfl ?_
        refine x_1 (p' := 19) hC rfl rfl rfl rfl ?_
        refine x_cIV2 (p' := 20) (n := 3) hC rfl rfl rfl rfl rfl (hO.ty) ?_
        refine sp_m_of hO (by omega) (by omega) ?_
        refine x_stI4 (p' := 21) hC rfl rfl rfl ?_
        refine x_1 (p' := 7) hC rfl rfl rfl rfl ?_
        have hx := hs.2.2.2.2.1 x (by omega) (by omega)
        exact ih _ _ (by omega) (by omega) ⟨n - 1, by omega, by rw [← hT, show n - 1 + 1 = n by omega, show rThr (X 1) f (n + 1) c x = rThr (X 1) f n (10 + x) (rOf (X 1) x 5) by rw [rThr, if_neg (by omega), if_neg (by omega)]]⟩
set_option maxRecDepth 20000 in
theorem sp_m_through {d : Nat} {m : Nat} {h : HP} (hO : RO m h) {X : Nat → Int → Int} (hs : RI (X 1)) {f u : Int} (hf : 0 ≤ f) (hu : 0 ≤ u ∧ u < X 1 1) {Q : Int → HP → Prop} (K : Q (rThrough (X 1) f u) (wX m h X)) : CaI (d + 1) 17 [.inr (some m), .inl f, .inl u] (wX m h X) Q := by
  have hC : cod 17 = c_m_through := rfl
  refine CaI.start rfl ?_
  have hu1 := hs.2.1
  have hu2 := hs.2.2.2.2.2 u hu.1 hu.2
  have hu3 := hs.1
  refine x_1 (p' := 1) hC rfl rfl rfl rfl ?_
  refine x_stI3 (p' := 2) hC rfl rfl rfl ?_
  refine x_1 (p' := 3) hC rfl rfl rfl rfl ?_
  refine x_1 (p' := 4) hC rfl rfl rfl rfl ?_
  refine x_1 (p' := 5) hC rfl rfl rfl rfl ?_
  refine x_cIV2 (p' := 6) (n := 4) hC rfl rfl rfl rfl rfl (hO.ty) ?_
  refine sp_m_its hO (by omega) (by omega) ?_
  refine x_stI4 (p' := 7) hC rfl rfl rfl ?_
  exact lp_m_through hO hs hf K _ _ _ (Nat.lt_succ_self _) (by omega) ⟨5, by omega, rfl⟩
abbrev rIsOf (s : Int → Int) (f u : Int) : Prop := rIts s u 2 = 0 ∧ 0 ≤ rThrough s f u
set_option maxRecDepth 20000 in
theorem sp_m_isOf {d : Nat} {m : Nat} {h : HP} (hO : RO m h) {X : Nat → Int → Int} (hs : RI (X 1)) {f u : Int} (hf : 0 ≤ f) (hu : 0 ≤ u ∧ u < X 1 1) {Q : Int → HP → Prop} (K : Q (b2i (rIsOf (X 1) f u)) (wX m h X)) : CaI (d + 2) 18 [.inr (some m), .inl f, .inl u] (wX m h X) Q := by
  have hC : cod 18 = c_m_isOf := rfl
  refine CaI.start rfl ?_
  have hu1 := hs.2.1
  refine x_1 (p' := 1) hC rfl rfl rfl rfl ?_
  refine x_1 (p' := 2) hC rfl rfl rfl rfl ?_
  refine x_cIV1 (p' := 3) (n := 9) hC rfl rfl rfl rfl rfl (hO.ty) ?_
  refine sp_m_isOn hO (by omega) ?_
  refine x_ifeq (p' := 4) hC rfl rfl (fun c3 => ?_) (fun c3 => ?_)
  · have c3 := b2i_0.mp c3
    refine x_1 (p' := 12) hC rfl rfl rfl rfl ?_
    refine x_zret hC rfl rfl rfl (by first | omega | exact b2i_01 _) ⟨_, rfl, ?_⟩
    refine eqK K ?_
    first | exact b2i_t (by omega) | exact b2i_f (by omega)
  · have c3 := b2i_n0.mp c3
    refine x_1 (p' := 5) hC rfl rfl rfl rfl ?_
    refine x_1 (p' := 6) hC rfl rfl rfl rfl ?_
    refine x_1 (p' := 7) hC rfl rfl rfl rfl ?_
    refine x_cIV2 (p' := 8) (n := 17) hC rfl rfl rfl rfl rfl (hO.ty) ?_
    refine sp_m_through hO hs (by omega) (by omega) ?_
    refine x_iflt (p' := 9) hC rfl rfl (fun c8 => ?_) (fun c8 => ?_)
    · refine x_1 (p' := 12) hC rfl rfl rfl rfl ?_
      refine x_zret hC rfl rfl rfl (by first | omega | exact b2i_01 _) ⟨_, rfl, ?_⟩
      refine eqK K ?_
      first | exact b2i_t (by omega) | exact b2i_f (by omega)
    · refine x_1 (p' := 10) hC rfl rfl rfl rfl ?_
      refine x_1 (p' := 12) hC rfl rfl rfl rfl ?_
      refine x_zret hC rfl rfl rfl (by first | omega | exact b2i_01 _) ⟨_, rfl, ?_⟩
      refine eqK K ?_
      first | exact b2i_t (by omega) | exact b2i_f (by omega)
def rDep (s : Int → Int) : Nat → Int → Int
  | 0, _ => 0
  | n + 1, x => if x < 0 then 0 else 1 + rDep s n (rOf s x 5)
def rDepth (s : Int → Int) (f : Int) : Int := rDep s 6 (rOf s f 5)
theorem rDep_le (s : Int → Int) : ∀ (n : Nat) (x : Int), 0 ≤ rDep s n x ∧ rDep s n x ≤ n
  | 0, x => ⟨Int.le_refl _, Int.le_refl _⟩
  | n + 1, x => by
    have := rDep_le s n (rOf s x 5)
    unfold rDep
    split <;> omega
set_option maxRecDepth 20000 in
theorem lp_m_depth {d : Nat} {m : Nat} {h : HP} (hO : RO m h) {X : Nat → Int → Int} (hs : RI (X 1)) {f : Int} {Q : Int → HP → Prop} {Kf : Int} (K : Q Kf (wX m h X)) (k : Nat) : ∀ (n : Int) (x : Int), (x + 1).toNat < k → (-1 ≤ x ∧ x < 5 ∧ x < X 1 0 ∧ 0 ≤ n ∧ n ≤ 1000 - x) → (∃ q : Nat, x + 1 ≤ q ∧ n + rDep (X 1) (q + 1) x = Kf) → At (d + 1) 19 7 [some (.inr (some m)), some (.inl f), some (.inl n), some (.inl x)] [] (wX m h X) (fun v h' => ∃ x, v = some (.inl x) ∧ Q x h') := by
  have hC : cod 19 = c_m_depth := rfl
  induction k with
  | zero =>
    intro n x hk
    exact absurd hk (Nat.not_lt_zero _)
  | succ k ih =>
    intro n x hk hI0 hI1
    obtain ⟨q, hq, hT⟩ := hI1
    refine x_1 (p' := 8) hC rfl rfl rfl rfl ?_
    refine x_iflt (p' := 9) hC rfl rfl (fun c8 => ?_) (fun c8 => ?_)
    · refine x_1 (p' := 17) hC rfl rfl rfl rfl ?_
      refine x_iret hC rfl rfl rfl ⟨_, rfl, ?_⟩
      refine eqK K ?_
      rw [← hT, rDep, if_pos (by omega)]; omega
    · have hx := hs.2.2.2.2.1 x (by omega) (by omega)
      refine x_inc2 (p' := 10) hC rfl rfl (⟨by omega, by omega⟩) ?_
      refine x_1 (p' := 11) hC rfl rfl rfl rfl ?_
      refine x_1 (p' := 12) hC rfl rfl rfl rfl ?_
      refine x_1 (p' := 13) hC rfl rfl rfl rfl ?_
      refine x_cIV2 (p' := 14) (n := 3) hC rfl rfl rfl rfl rfl (hO.ty) ?_
      refine sp_m_of hO (by omega) (by omega) ?_
      refine x_stI3 (p' := 15) hC rfl rfl rfl ?_
      refine x_1 (p' := 7) hC rfl rfl rfl rfl ?_
      exact ih _ _ (by omega) (by omega) ⟨q - 1, by omega, by rw [← hT, show q - 1 + 1 = q by omega, show rDep (X 1) (q + 1) x = 1 + rDep (X 1) q (rOf (X 1) x 5) by rw [rDep, if_neg (by omega)]]; omega⟩
set_option maxRecDepth 20000 in
theorem sp_m_depth {d : Nat} {m : Nat} {h : HP} (hO : RO m h) {X : Nat → Int → Int} (hs : RI (X 1)) {f : Int} (hf : 0 ≤ f ∧ f < X 1 0) {Q : Int → HP → Prop} (K : Q (rDepth (X 1) f) (wX m h X)) : CaI (d + 1) 19 [.inr (some m), .inl f] (wX m h X) Q := by
  have hC : cod 19 = c_m_depth := rfl
  refine CaI.start rfl ?_
  have hu1 := hs.1
  have hu2 := hs.2.2.2.2.1 f hf.1 hf.2
  refine x_1 (p' := 1) hC rfl rfl rfl rfl ?_
  refine x_stI2 (p' := 2) hC rfl rfl rfl ?_
  refine x_1 (p' := 3) hC rfl rfl rfl rfl ?_
  refine x_1 (p' := 4) hC rfl rfl rfl rfl ?_
  refine x_1 (p' := 5) hC rfl rfl rfl rfl ?_
  refine x_cIV2 (p' := 6) (n := 3) hC rfl rfl rfl rfl rfl (hO.ty) ?_
  refine sp_m_of hO (by omega) (by omega) ?_
  refine x_stI3 (p' := 7) hC rfl rfl rfl ?_
  exact lp_m_depth hO hs K _ _ _ (Nat.lt_succ_self _) (by omega) ⟨5, by omega, Int.zero_add _⟩
noncomputable def rOn (s : Int → Int) : Int := fI (s 1) (fun u n => n + b2i (rIts s u 2 = 0)) 0
set_option maxRecDepth 20000 in
theorem lp_m_on {d : Nat} {m : Nat} {h : HP} (hO : RO m h) {X : Nat → Int → Int} (hs : RI (X 1)) {Q : Int → HP → Prop} (K : Q (rOn (X 1)) (wX m h X)) (k : Nat) : ∀ (n : Int) (u : Int), (X 1 1 - u).toNat < k → (0 ≤ u ∧ u ≤ X 1 1) → (0 ≤ n ∧ n ≤ u) → (n = fI u (fun u n => n + b2i (rIts (X 1) u 2 = 0)) 0) → At (d + 2) 20 4 [some (.inr (some m)), some (.inl n), some (.inl u)] [] (wX m h X) (fun v h' => ∃ x, v = some (.inl x) ∧ Q x h') := by
  have hC : cod 20 = c_m_on := rfl
  induction k with
  | zero =>
    intro n u hk
    exact absurd hk (Nat.not_lt_zero _)
  | succ k ih =>
    intro n u hk hI0 hI1 hI2
    have hs2 := hs.2.1
    refine x_1 (p' := 5) hC rfl rfl rfl rfl ?_
    refine x_1 (p' := 6) hC rfl rfl rfl rfl ?_
    refine y_gR (p' := 7) (n := 1) hO hC rfl rfl rfl rfl ?_
    refine x_1 (p' := 8) hC rfl rfl rfl rfl ?_
    refine y_ld (p' := 9) (L := 15568) hO hC rfl rfl rfl rfl (by omega) (by omega) ?_
    refine x_icge (p' := 10) hC rfl rfl (fun c9 => ?_) (fun c9 => ?_)
    · refine x_1 (p' := 23) hC rfl rfl rfl rfl ?_
      refine x_iret hC rfl rfl rfl ⟨_, rfl, ?_⟩
      refine eqK K ?_
      rw [hI2, show u = X 1 1 by omega]; rfl
    · refine x_1 (p' := 11) hC rfl rfl rfl rfl ?_
      refine x_1 (p' := 12) hC rfl rfl rfl rfl ?_
      refine x_1 (p' := 13) hC rfl rfl rfl rfl ?_
      refine x_cIV1 (p' := 14) (n := 9) hC rfl rfl rfl rfl rfl (hO.ty) ?_
      refine sp_m_isOn hO (by omega) ?_
      refine x_ifeq (p' := 15) hC rfl rfl (fun c14 => ?_) (fun c14 => ?_)
      · have c14 := b2i_0.mp c14
        refine x_1 (p' := 18) hC rfl rfl rfl rfl ?_
        refine x_add (p' := 19) hC rfl rfl rfl (⟨by omega, by omega⟩) ?_
        refine x_stI1 (p' := 20) hC rfl rfl rfl ?_
        refine x_inc2 (p' := 21) hC rfl rfl (⟨by omega, by omega⟩) ?_
        refine x_1 (p' := 4) hC rfl rfl rfl rfl ?_
        exact ih _ _ (by omega) (by omega) (by omega) (by rw [fI_succ (by omega), ← hI2]; first | (rw [b2i_t (by omega)]) | (rw [b2i_f (by omega)]))
      · have c14 := b2i_n0.mp c14
        refine x_1 (p' := 16) hC rfl rfl rfl rfl ?_
        refine x_1 (p' := 18) hC rfl rfl rfl rfl ?_
        refine x_add (p' := 19) hC rfl rfl rfl (⟨by omega, by omega⟩) ?_
        refine x_stI1 (p' := 20) hC rfl rfl rfl ?_
        refine x_inc2 (p' := 21) hC rfl rfl (⟨by omega, by omega⟩) ?_
        refine x_1 (p' := 4) hC rfl rfl rfl rfl ?_
        exact ih _ _ (by omega) (by omega) (by omega) (by rw [fI_succ (by omega), ← hI2]; first | (rw [b2i_t (by omega)]) | (rw [b2i_f (by omega)]))
set_option maxRecDepth 20000 in
theorem sp_m_on {d : Nat} {m : Nat} {h : HP} (hO : RO m h) {X : Nat → Int → Int} (hs : RI (X 1)) {Q : Int → HP → Prop} (K : Q (rOn (X 1)) (wX m h X)) : CaI (d + 2) 20 [.inr (some m)] (wX m h X) Q := by
  have hC : cod 20 = c_m_on := rfl
  refine CaI.start rfl ?_
  have hs2 := hs.2.1
  refine x_1 (p' := 1) hC rfl rfl rfl rfl ?_
  refine x_stI1 (p' := 2) hC rfl rfl rfl ?_
  refine x_1 (p' := 3) hC rfl rfl rfl rfl ?_
  refine x_stI2 (p' := 4) hC rfl rfl rfl ?_
  exact lp_m_on hO hs K _ _ _ (Nat.lt_succ_self _) (by omega) (by omega) rfl
noncomputable def rChildren (s : Int → Int) (f : Int) : Int := fI 15 (fun c n => n + b2i (rChild s f c)) 0
set_option maxRecDepth 20000 in
theorem lp_m_children {d : Nat} {m : Nat} {h : HP} (hO : RO m h) {X : Nat → Int → Int} (hs : RI (X 1)) {f : Int} {Q : Int → HP → Prop} (K : Q (rChildren (X 1) f) (wX m h X)) (k : Nat) : ∀ (n : Int) (u : Int), (15 - u).toNat < k → (0 ≤ u ∧ u ≤ 15) → (0 ≤ n ∧ n ≤ u) → (n = fI u (fun c n => n + b2i (rChild (X 1) f c)) 0) → At (d + 3) 27 4 [some (.inr (some m)), some (.inl f), some (.inl n), some (.inl u)] [] (wX m h X) (fun v h' => ∃ x, v = some (.inl x) ∧ Q x h') := by
  have hC : cod 27 = c_m_children := rfl
  induction k with
  | zero =>
    intro n u hk
    exact absurd hk (Nat.not_lt_zero _)
  | succ k ih =>
    intro n u hk hI0 hI1 hI2
    refine x_1 (p' := 5) hC rfl rfl rfl rfl ?_
    refine x_1 (p' := 6) hC rfl rfl rfl rfl ?_
    refine x_icge (p' := 7) hC rfl rfl (fun c6 => ?_) (fun c6 => ?_)
    · refine x_1 (p' := 21) hC rfl rfl rfl rfl ?_
      refine x_iret hC rfl rfl rfl ⟨_, rfl, ?_⟩
      refine eqK K ?_
      rw [hI2, show u = 15 by omega]; rfl
    · refine x_1 (p' := 8) hC rfl rfl rfl rfl ?_
      refine x_1 (p' := 9) hC rfl rfl rfl rfl ?_
      refine x_1 (p' := 10) hC rfl rfl rfl rfl ?_
      refine x_1 (p' := 11) hC rfl rfl rfl rfl ?_
      refine x_cIV2 (p' := 12) (n := 15) hC rfl rfl rfl rfl rfl (hO.ty) ?_
      refine sp_m_isChild hO hs (by omega) ?_
      refine x_ifeq (p' := 13) hC rfl rfl (fun c12 => ?_) (fun c12 => ?_)
      · have c12 := b2i_0.mp c12
        refine x_1 (p' := 16) hC rfl rfl rfl rfl ?_
        refine x_add (p' := 17) hC rfl rfl rfl (⟨by omega, by omega⟩) ?_
        refine x_stI2 (p' := 18) hC rfl rfl rfl ?_
        refine x_inc3 (p' := 19) hC rfl rfl (⟨by omega, by omega⟩) ?_
        refine x_1 (p' := 4) hC rfl rfl rfl rfl ?_
        exact ih _ _ (by omega) (by omega) (by omega) (by rw [fI_succ (by omega), ← hI2]; first | (rw [b2i_t (by omega)]) | (rw [b2i_f (by omega)]))
      · have c12 := b2i_n0.mp c12
        refine x_1 (p' := 14) hC rfl rfl rfl rfl ?_
        refine x_1 (p' := 16) hC rfl rfl rfl rfl ?_
        refine x_add (p' := 17) hC rfl rfl rfl (⟨by omega, by omega⟩) ?_
        refine x_stI2 (p' := 18) hC rfl rfl rfl ?_
        refine x_inc3 (p' := 19) hC rfl rfl (⟨by omega, by omega⟩) ?_
        refine x_1 (p' := 4) hC rfl rfl rfl rfl ?_
        exact ih _ _ (by omega) (by omega) (by omega) (by rw [fI_succ (by omega), ← hI2]; first | (rw [b2i_t (by omega)]) | (rw [b2i_f (by omega)]))
set_option maxRecDepth 20000 in
theorem sp_m_children {d : Nat} {m : Nat} {h : HP} (hO : RO m h) {X : Nat → Int → Int} (hs : RI (X 1)) {f : Int} {Q : Int → HP → Prop} (K : Q (rChildren (X 1) f) (wX m h X)) : CaI (d + 3) 27 [.inr (some m), .inl f] (wX m h X) Q := by
  have hC : cod 27 = c_m_children := rfl
  refine CaI.start rfl ?_
  refine x_1 (p' := 1) hC rfl rfl rfl rfl ?_
  refine x_stI2 (p' := 2) hC rfl rfl rfl ?_
  refine x_1 (p' := 3) hC rfl rfl rfl rfl ?_
  refine x_stI3 (p' := 4) hC rfl rfl rfl ?_
  exact lp_m_children hO hs K _ _ _ (Nat.lt_succ_self _) (by omega) (by omega) rfl
noncomputable def rUnitsOf (s : Int → Int) (f : Int) : Int := fI (s 1) (fun u n => n + b2i (rIsOf s f u)) 0
set_option maxRecDepth 20000 in
theorem lp_m_unitsOf {d : Nat} {m : Nat} {h : HP} (hO : RO m h) {X : Nat → Int → Int} (hs : RI (X 1)) {f : Int} (hf : 0 ≤ f) {Q : Int → HP → Prop} (K : Q (rUnitsOf (X 1) f) (wX m h X)) (k : Nat) : ∀ (n : Int) (u : Int), (X 1 1 - u).toNat < k → (0 ≤ u ∧ u ≤ X 1 1) → (0 ≤ n ∧ n ≤ u) → (n = fI u (fun u n => n + b2i (rIsOf (X 1) f u)) 0) → At (d + 3) 28 4 [some (.inr (some m)), some (.inl f), some (.inl n), some (.inl u)] [] (wX m h X) (fun v h' => ∃ x, v = some (.inl x) ∧ Q x h') := by
  have hC : cod 28 = c_m_unitsOf := rfl
  induction k with
  | zero =>
    intro n u hk
    exact absurd hk (Nat.not_lt_zero _)
  | succ k ih =>
    intro n u hk hI0 hI1 hI2
    have hs2 := hs.2.1
    refine x_1 (p' := 5) hC rfl rfl rfl rfl ?_
    refine x_1 (p' := 6) hC rfl rfl rfl rfl ?_
    refine y_gR (p' := 7) (n := 1) hO hC rfl rfl rfl rfl ?_
    refine x_1 (p' := 8) hC rfl rfl rfl rfl ?_
    refine y_ld (p' := 9) (L := 15568) hO hC rfl rfl rfl rfl (by omega) (by omega) ?_
    refine x_icge (p' := 10) hC rfl rfl (fun c9 => ?_) (fun c9 => ?_)
    · refine x_1 (p' := 24) hC rfl rfl rfl rfl ?_
      refine x_iret hC rfl rfl rfl ⟨_, rfl, ?_⟩
      refine eqK K ?_
      rw [hI2, show u = X 1 1 by omega]; rfl
    · refine x_1 (p' := 11) hC rfl rfl rfl rfl ?_
      refine x_1 (p' := 12) hC rfl rfl rfl rfl ?_
      refine x_1 (p' := 13) hC rfl rfl rfl rfl ?_
      refine x_1 (p' := 14) hC rfl rfl rfl rfl ?_
      refine x_cIV2 (p' := 15) (n := 18) hC rfl rfl rfl rfl rfl (hO.ty) ?_
      refine sp_m_isOf hO hs (by omega) (by omega) ?_
      refine x_ifeq (p' := 16) hC rfl rfl (fun c15 => ?_) (fun c15 => ?_)
      · have c15 := b2i_0.mp c15
        refine x_1 (p' := 19) hC rfl rfl rfl rfl ?_
        refine x_add (p' := 20) hC rfl rfl rfl (⟨by omega, by omega⟩) ?_
        refine x_stI2 (p' := 21) hC rfl rfl rfl ?_
        refine x_inc3 (p' := 22) hC rfl rfl (⟨by omega, by omega⟩) ?_
        refine x_1 (p' := 4) hC rfl rfl rfl rfl ?_
        exact ih _ _ (by omega) (by omega) (by omega) (by rw [fI_succ (by omega), ← hI2]; first | (rw [b2i_t (by assumption)]) | (rw [b2i_f (by assumption)]))
      · have c15 := b2i_n0.mp c15
        refine x_1 (p' := 17) hC rfl rfl rfl rfl ?_
        refine x_1 (p' := 19) hC rfl rfl rfl rfl ?_
        refine x_add (p' := 20) hC rfl rfl rfl (⟨by omega, by omega⟩) ?_
        refine x_stI2 (p' := 21) hC rfl rfl rfl ?_
        refine x_inc3 (p' := 22) hC rfl rfl (⟨by omega, by omega⟩) ?_
        refine x_1 (p' := 4) hC rfl rfl rfl rfl ?_
        exact ih _ _ (by omega) (by omega) (by omega) (by rw [fI_succ (by omega), ← hI2]; first | (rw [b2i_t (by assumption)]) | (rw [b2i_f (by assumption)]))
set_option maxRecDepth 20000 in
theorem sp_m_unitsOf {d : Nat} {m : Nat} {h : HP} (hO : RO m h) {X : Nat → Int → Int} (hs : RI (X 1)) {f : Int} (hf : 0 ≤ f) {Q : Int → HP → Prop} (K : Q (rUnitsOf (X 1) f) (wX m h X)) : CaI (d + 3) 28 [.inr (some m), .inl f] (wX m h X) Q := by
  have hC : cod 28 = c_m_unitsOf := rfl
  refine CaI.start rfl ?_
  have hs2 := hs.2.1
  refine x_1 (p' := 1) hC rfl rfl rfl rfl ?_
  refine x_stI2 (p' := 2) hC rfl rfl rfl ?_
  refine x_1 (p' := 3) hC rfl rfl rfl rfl ?_
  refine x_stI3 (p' := 4) hC rfl rfl rfl ?_
  exact lp_m_unitsOf hO hs hf K _ _ _ (Nat.lt_succ_self _) (by omega) (by omega) rfl
noncomputable def rOnWay (s : Int → Int) (c : Int) : Int := fI (s 7) (fun f n => n + b2i (rFr s f 0 = 1 ∧ rFr s f 2 = c)) 0
set_option maxRecDepth 20000 in
theorem lp_m_onWay {d : Nat} {m : Nat} {h : HP} (hO : RO m h) {X : Nat → Int → Int} (hs : RI (X 1)) {c : Int} {Q : Int → HP → Prop} (K : Q (rOnWay (X 1) c) (wX m h X)) (k : Nat) : ∀ (n : Int) (u : Int), (X 1 7 - u).toNat < k → (0 ≤ u ∧ u ≤ X 1 7) → (0 ≤ n ∧ n ≤ u) → (n = fI u (fun f n => n + b2i (rFr (X 1) f 0 = 1 ∧ rFr (X 1) f 2 = c)) 0) → At (d + 1) 29 4 [some (.inr (some m)), some (.inl c), some (.inl n), some (.inl u)] [] (wX m h X) (fun v h' => ∃ x, v = some (.inl x) ∧ Q x h') := by
  have hC : cod 29 = c_m_onWay := rfl
  induction k with
  | zero =>
    intro n u hk
    exact absurd hk (Nat.not_lt_zero _)
  | succ k ih =>
    intro n u hk hI0 hI1 hI2
    have hs2 := hs.2.2.1
    refine x_1 (p' := 5) hC rfl rfl rfl rfl ?_
    refine x_1 (p' := 6) hC rfl rfl rfl rfl ?_
    refine y_gR (p' := 7) (n := 1) hO hC rfl rfl rfl rfl ?_
    refine x_1 (p' := 8) hC rfl rfl rfl rfl ?_
    refine y_ld (p' := 9) (L := 15568) hO hC rfl rfl rfl rfl (by omega) (by omega) ?_
    refine x_icge (p' := 10) hC rfl rfl (fun c9 => ?_) (fun c9 => ?_)
    · refine x_1 (p' := 31) hC rfl rfl rfl rfl ?_
      refine x_iret hC rfl rfl rfl ⟨_, rfl, ?_⟩
      refine eqK K ?_
      rw [hI2, show u = X 1 7 by omega]; rfl
    · refine x_1 (p' := 11) hC rfl rfl rfl rfl ?_
      refine x_1 (p' := 12) hC rfl rfl rfl rfl ?_
      refine x_1 (p' := 13) hC rfl rfl rfl rfl ?_
      refine x_1 (p' := 14) hC rfl rfl rfl rfl ?_
      refine x_cIV2 (p' := 15) (n := 5) hC rfl rfl rfl rfl rfl (hO.ty) ?_
      refine sp_m_fr hO (by omega) (by omega) ?_
      refine x_1 (p' := 16) hC rfl rfl rfl rfl ?_
      refine x_icne (p' := 17) hC rfl rfl (fun c16 => ?_) (fun c16 => ?_)
      · refine x_1 (p' := 26) hC rfl rfl rfl rfl ?_
        refine x_add (p' := 27) hC rfl rfl rfl (⟨by omega, by omega⟩) ?_
        refine x_stI2 (p' := 28) hC rfl rfl rfl ?_
        refine x_inc3 (p' := 29) hC rfl rfl (⟨by omega, by omega⟩) ?_
        refine x_1 (p' := 4) hC rfl rfl rfl rfl ?_
        exact ih _ _ (by omega) (by omega) (by omega) (by rw [fI_succ (by omega), ← hI2]; first | (rw [b2i_t (by omega)]) | (rw [b2i_f (by omega)]))
      · refine x_1 (p' := 18) hC rfl rfl rfl rfl ?_
        refine x_1 (p' := 19) hC rfl rfl rfl rfl ?_
        refine x_1 (p' := 20) hC rfl rfl rfl rfl ?_
        refine x_cIV2 (p' := 21) (n := 5) hC rfl rfl rfl rfl rfl (hO.ty) ?_
        refine sp_m_fr hO (by omega) (by omega) ?_
        refine x_1 (p' := 22) hC rfl rfl rfl rfl ?_
        refine x_icne (p' := 23) hC rfl rfl (fun c22 => ?_) (fun c22 => ?_)
        · refine x_1 (p' := 26) hC rfl rfl rfl rfl ?_
          refine x_add (p' := 27) hC rfl rfl rfl (⟨by omega, by omega⟩) ?_
          refine x_stI2 (p' := 28) hC rfl rfl rfl ?_
          refine x_inc3 (p' := 29) hC rfl rfl (⟨by omega, by omega⟩) ?_
          refine x_1 (p' := 4) hC rfl rfl rfl rfl ?_
          exact ih _ _ (by omega) (by omega) (by omega) (by rw [fI_succ (by omega), ← hI2]; first | (rw [b2i_t (by omega)]) | (rw [b2i_f (by omega)]))
        · refine x_1 (p' := 24) hC rfl rfl rfl rfl ?_
          refine x_1 (p' := 26) hC rfl rfl rfl rfl ?_
          refine x_add (p' := 27) hC rfl rfl rfl (⟨by omega, by omega⟩) ?_
          refine x_stI2 (p' := 28) hC rfl rfl rfl ?_
          refine x_inc3 (p' := 29) hC rfl rfl (⟨by omega, by omega⟩) ?_
          refine x_1 (p' := 4) hC rfl rfl rfl rfl ?_
          exact ih _ _ (by omega) (by omega) (by omega) (by rw [fI_succ (by omega), ← hI2]; first | (rw [b2i_t (by omega)]) | (rw [b2i_f (by omega)]))
set_option maxRecDepth 20000 in
theorem sp_m_onWay {d : Nat} {m : Nat} {h : HP} (hO : RO m h) {X : Nat → Int → Int} (hs : RI (X 1)) {c : Int} {Q : Int → HP → Prop} (K : Q (rOnWay (X 1) c) (wX m h X)) : CaI (d + 1) 29 [.inr (some m), .inl c] (wX m h X) Q := by
  have hC : cod 29 = c_m_onWay := rfl
  refine CaI.start rfl ?_
  have hs2 := hs.2.2.1
  refine x_1 (p' := 1) hC rfl rfl rfl rfl ?_
  refine x_stI2 (p' := 2) hC rfl rfl rfl ?_
  refine x_1 (p' := 3) hC rfl rfl rfl rfl ?_
  refine x_stI3 (p' := 4) hC rfl rfl rfl ?_
  exact lp_m_onWay hO hs K _ _ _ (Nat.lt_succ_self _) (by omega) (by omega) rfl
end
section
/-! the reference's readers of frames -/
abbrev rIn (s : Int → Int) (f h slot : Int) : Prop := rFr s f 0 = 2 ∧ rFr s f 1 = h ∧ rFr s f 4 = slot
noncomputable def rBehind (s : Int → Int) (h slot : Int) : Int := fI (s 7) (fun f found => cif (rFr s f 0 = 2 ∧ rFr s f 1 = h ∧ slot < rFr s f 4 ∧ (found < 0 ∨ rFr s f 4 < found)) (rFr s f 4) found) (-1)
noncomputable def rExp (s : Int → Int) (h c slot : Int) : Int := if rPer s c ≤ rOf s h 4 then rOf s h 4 / rPer s c else b2i (slot % rPer s c = 0)
noncomputable def rFrames (s : Int → Int) (h c slot : Int) : Int := fI (s 7) (fun f n => n + b2i (rIn s f h slot ∧ (c < 0 ∨ rFr s f 2 = c))) 0
noncomputable def rExpected (s : Int → Int) (h slot : Int) : Int := fI 15 (fun c n => n + cif (rChild s h c) (rExp s h c slot) 0) 0
def rComplN (s : Int → Int) (h slot n : Int) : Prop := ∀ c, 0 ≤ c → c < n → rChild s h c → rExp s h c slot ≤ rFrames s h c slot
abbrev rCompl (s : Int → Int) (h slot : Int) : Prop := rComplN s h slot 15
noncomputable def rFirst (s : Int → Int) (h slot : Int) : Int := fI (s 7) (fun f found => cif (rIn s f h slot ∧ (found < 0 ∨ rFr s f 5 < found)) (rFr s f 5) found) (-1)
noncomputable def rEnd (s : Int → Int) (h slot : Int) : Int := (if rOf s h 1 = 0 then slot else rFirst s h slot) + rOf s h 0
noncomputable def rLasts (s : Int → Int) (h slot : Int) : Int := if s 2 < rEnd s h slot then rEnd s h slot - s 2 else 0
noncomputable def rNext (s : Int → Int) : Int := fI (s 7) (fun f found => cif (rFr s f 0 = 1 ∧ rFr s f 4 ≤ s 2 ∧ (found < 0 ∨ rFr s f 4 < rFr s found 4 ∨ (rFr s f 4 = rFr s found 4 ∧ rFr s f 5 < rFr s found 5))) f found) (-1)
noncomputable def rAllWay (s : Int → Int) : Int := fI (s 7) (fun f n => n + b2i (rFr s f 0 = 1)) 0
def rSum (s : Int → Int) (w : Int) : Int := fI (s 0) (fun h n => wr (n + rOf s h w)) 0
def rOnes (x : Int) : Int := fI 10 (fun k n => n + oAnd (oShr x k) 1) 0
def rFree0 (s : Int → Int) : Nat → Int → Int
  | 0, f => f
  | n + 1, f => if f < s 7 ∧ ¬ rFr s f 0 = 0 then rFree0 s n (f + 1) else f
def rFree (s : Int → Int) : Int := rFree0 s 560 0
/-- a child's or hub's period is one -/
abbrev okPer (s : Int → Int) (c : Int) : Prop := 1 ≤ rPer s c ∧ rPer s c ≤ 20
theorem rComplN_succ {s : Int → Int} {h slot n : Int} (hn : 0 ≤ n) : rComplN s h slot (n + 1) ↔ rComplN s h slot n ∧ (rChild s h n → rExp s h n slot ≤ rFrames s h n slot) := by
  constructor
  · exact fun q => ⟨fun c h0 h1 => q c h0 (by omega), q n hn (by omega)⟩
  · intro q c h0 h1
    rcases (show c < n ∨ c = n by omega) with h2 | h2
    · exact q.1 c h0 h2
    · rw [h2]; exact q.2
theorem per_child {s : Int → Int} (hs : RI s) {h c : Int} (hc : rChild s h c) : okPer s c := by
  unfold okPer rPer
  rcases hc with ⟨h1, h2, h3, -⟩ | ⟨h1, h2, h3, -⟩
  · rw [if_pos h1]
    have := hs.2.2.2.2.2 c h2 (by omega)
    omega
  · rw [if_neg (by omega)]
    have := hs.2.2.2.2.1 (c - 10) h2 (by omega)
    omega
set_option maxRecDepth 20000 in
theorem sp_m_isIn {d : Nat} {m : Nat} {h : HP} (hO : RO m h) {X : Nat → Int → Int} {f g sl : Int} (hf : 0 ≤ f ∧ f < 560) {Q : Int → HP → Prop} (K : Q (b2i (rIn (X 1) f g sl)) (wX m h X)) : CaI (d + 1) 33 [.inr (some m), .inl f, .inl g, .inl sl] (wX m h X) Q := by
  have hC : cod 33 = c_m_isIn := rfl
  refine CaI.start rfl ?_
  refine x_1 (p' := 1) hC rfl rfl rfl rfl ?_
  refine x_1 (p' := 2) hC rfl rfl rfl rfl ?_
  refine x_1 (p' := 3) hC rfl rfl rfl rfl ?_
  refine x_cIV2 (p' := 4) (n := 5) hC rfl rfl rfl rfl rfl (hO.ty) ?_
  refine sp_m_fr hO (by omega) (by omega) ?_
  refine x_1 (p' := 5) hC rfl rfl rfl rfl ?_
  refine x_icne (p' := 6) hC rfl rfl (fun c5 => ?_) (fun c5 => ?_)
  · refine x_1 (p' := 21) hC rfl rfl rfl rfl ?_
    refine x_zret hC rfl rfl rfl (by first | omega | exact b2i_01 _) ⟨_, rfl, ?_⟩
    refine eqK K ?_
    first | exact b2i_t (by omega) | exact b2i_f (by omega)
  · refine x_1 (p' := 7) hC rfl rfl rfl rfl ?_
    refine x_1 (p' := 8) hC rfl rfl rfl rfl ?_
    refine x_1 (p' := 9) hC rfl rfl rfl rfl ?_
    refine x_cIV2 (p' := 10) (n := 5) hC rfl rfl rfl rfl rfl (hO.ty) ?_
    refine sp_m_fr hO (by omega) (by omega) ?_
    refine x_1 (p' := 11) hC rfl rfl rfl rfl ?_
    refine x_icne (p' := 12) hC rfl rfl (fun c11 => ?_) (fun c11 => ?_)
    · refine x_1 (p' := 21) hC rfl rfl rfl rfl ?_
      refine x_zret hC rfl rfl rfl (by first | omega | exact b2i_01 _) ⟨_, rfl, ?_⟩
      refine eqK K ?_
      first | exact b2i_t (by omega) | exact b2i_f (by omega)
    · refine x_1 (p' := 13) hC rfl rfl rfl rfl ?_
      refine x_1 (p' := 14) hC rfl rfl rfl rfl ?_
      refine x_1 (p' := 15) hC rfl rfl rfl rfl ?_
      refine x_cIV2 (p' := 16) (n := 5) hC rfl rfl rfl rfl rfl (hO.ty) ?_
      refine sp_m_fr hO (by omega) (by omega) ?_
      refine x_1 (p' := 17) hC rfl rfl rfl rfl ?_
      refine x_icne (p' := 18) hC rfl rfl (fun c17 => ?_) (fun c17 => ?_)
      · refine x_1 (p' := 21) hC rfl rfl rfl rfl ?_
        refine x_zret hC rfl rfl rfl (by first | omega | exact b2i_01 _) ⟨_, rfl, ?_⟩
        refine eqK K ?_
        first | exact b2i_t (by omega) | exact b2i_f (by omega)
      · refine x_1 (p' := 19) hC rfl rfl rfl rfl ?_
        refine x_1 (p' := 21) hC rfl rfl rfl rfl ?_
        refine x_zret hC rfl rfl rfl (by first | omega | exact b2i_01 _) ⟨_, rfl, ?_⟩
        refine eqK K ?_
        first | exact b2i_t (by omega) | exact b2i_f (by omega)
set_option maxRecDepth 20000 in
theorem lp_m_behind {d : Nat} {m : Nat} {h : HP} (hO : RO m h) {X : Nat → Int → Int} (hs : RI (X 1)) {g sl : Int} {Q : Int → HP → Prop} {st0 : Option AV} (K : Q (rBehind (X 1) g sl) (wX m h X)) (k : Nat) : ∀ (n : Int) (u : Int) (z : Option AV), (X 1 7 - u).toNat < k → (0 ≤ u ∧ u ≤ X 1 7) → (n = fI u (fun f found => cif (rFr (X 1) f 0 = 2 ∧ rFr (X 1) f 1 = g ∧ sl < rFr (X 1) f 4 ∧ (found < 0 ∨ rFr (X 1) f 4 < found)) (rFr (X 1) f 4) found) (-1)) → At (d + 1) 34 4 [some (.inr (some m)), some (.inl g), some (.inl sl), some (.inl n), some (.inl u), z] [] (wX m h X) (fun v h' => ∃ x, v = some (.inl x) ∧ Q x h') := by
  have hC : cod 34 = c_m_behind := rfl
  induction k with
  | zero =>
    intro n u z hk
    exact absurd hk (Nat.not_lt_zero _)
  | succ k ih =>
    intro n u z hk hI0 hI1
    have hs2 := hs.2.2.1
    refine x_1 (p' := 5) hC rfl rfl rfl rfl ?_
    refine x_1 (p' := 6) hC rfl rfl rfl rfl ?_
    refine y_gR (p' := 7) (n := 1) hO hC rfl rfl rfl rfl ?_
    refine x_1 (p' := 8) hC rfl rfl rfl rfl ?_
    refine y_ld (p' := 9) (L := 15568) hO hC rfl rfl rfl rfl (by omega) (by omega) ?_
    refine x_icge (p' := 10) hC rfl rfl (fun c9 => ?_) (fun c9 => ?_)
    · refine x_1 (p' := 52) hC rfl rfl rfl rfl ?_
      refine x_iret hC rfl rfl rfl ⟨_, rfl, ?_⟩
      refine eqK K ?_
      rw [hI1, show u = X 1 7 by omega]; rfl
    · refine x_1 (p' := 11) hC rfl rfl rfl rfl ?_
      refine x_1 (p' := 12) hC rfl rfl rfl rfl ?_
      refine x_1 (p' := 13) hC rfl rfl rfl rfl ?_
      refine x_cIV2 (p' := 14) (n := 5) hC rfl rfl rfl rfl rfl (hO.ty) ?_
      refine sp_m_fr hO (by omega) (by omega) ?_
      refine x_1 (p' := 15) hC rfl rfl rfl rfl ?_
      refine x_icne (p' := 16) hC rfl rfl (fun c15 => ?_) (fun c15 => ?_)
      · refine x_1 (p' := 39) hC rfl rfl rfl rfl ?_
        refine x_stI5 (p' := 40) hC rfl rfl rfl ?_
        refine x_1 (p' := 41) hC rfl rfl rfl rfl ?_
        refine x_ifeq (p' := 42) hC rfl rfl (fun _ => ?_) (fun c => absurd c (by decide))
        refine x_1 (p' := 48) hC rfl rfl rfl rfl ?_
        refine x_stI3 (p' := 49) hC rfl rfl rfl ?_
        refine x_inc4 (p' := 50) hC rfl rfl (⟨by omega, by omega⟩) ?_
        refine x_1 (p' := 4) hC rfl rfl rfl rfl ?_
        exact ih _ _ _ (by omega) (by omega) (by rw [fI_succ (by omega), ← hI1]; first | rw [cif_t (by omega)] | rw [cif_f (by omega)])
      · refine x_1 (p' := 17) hC rfl rfl rfl rfl ?_
        refine x_1 (p' := 18) hC rfl rfl rfl rfl ?_
        refine x_1 (p' := 19) hC rfl rfl rfl rfl ?_
        refine x_cIV2 (p' := 20) (n := 5) hC rfl rfl rfl rfl rfl (hO.ty) ?_
        refine sp_m_fr hO (by omega) (by omega) ?_
        refine x_1 (p' := 21) hC rfl rfl rfl rfl ?_
        refine x_icne (p' := 22) hC rfl rfl (fun c21 => ?_) (fun c21 => ?_)
        · refine x_1 (p' := 39) hC rfl rfl rfl rfl ?_
          refine x_stI5 (p' := 40) hC rfl rfl rfl ?_
          refine x_1 (p' := 41) hC rfl rfl rfl rfl ?_
          refine x_ifeq (p' := 42) hC rfl rfl (fun _ => ?_) (fun c => absurd c (by decide))
          refine x_1 (p' := 48) hC rfl rfl rfl rfl ?_
          refine x_stI3 (p' := 49) hC rfl rfl rfl ?_
          refine x_inc4 (p' := 50) hC rfl rfl (⟨by omega, by omega⟩) ?_
          refine x_1 (p' := 4) hC rfl rfl rfl rfl ?_
          exact ih _ _ _ (by omega) (by omega) (by rw [fI_succ (by omega), ← hI1]; first | rw [cif_t (by omega)] | rw [cif_f (by omega)])
        · refine x_1 (p' := 23) hC rfl rfl rfl rfl ?_
          refine x_1 (p' := 24) hC rfl rfl rfl rfl ?_
          refine x_1 (p' := 25) hC rfl rfl rfl rfl ?_
          refine x_cIV2 (p' := 26) (n := 5) hC rfl rfl rfl rfl rfl (hO.ty) ?_
          refine sp_m_fr hO (by omega) (by omega) ?_
          refine x_1 (p' := 27) hC rfl rfl rfl rfl ?_
          refine x_icle (p' := 28) hC rfl rfl (fun c27 => ?_) (fun c27 => ?_)
          · refine x_1 (p' := 39) hC rfl rfl rfl rfl ?_
            refine x_stI5 (p' := 40) hC rfl rfl rfl ?_
            refine x_1 (p' := 41) hC rfl rfl rfl rfl ?_
            refine x_ifeq (p' := 42) hC rfl rfl (fun _ => ?_) (fun c => absurd c (by decide))
            refine x_1 (p' := 48) hC rfl rfl rfl rfl ?_
            refine x_stI3 (p' := 49) hC rfl rfl rfl ?_
            refine x_inc4 (p' := 50) hC rfl rfl (⟨by omega, by omega⟩) ?_
            refine x_1 (p' := 4) hC rfl rfl rfl rfl ?_
            exact ih _ _ _ (by omega) (by omega) (by rw [fI_succ (by omega), ← hI1]; first | rw [cif_t (by omega)] | rw [cif_f (by omega)])
          · refine x_1 (p' := 29) hC rfl rfl rfl rfl ?_
            refine x_iflt (p' := 30) hC rfl rfl (fun c29 => ?_) (fun c29 => ?_)
            · refine x_1 (p' := 37) hC rfl rfl rfl rfl ?_
              refine x_1 (p' := 39) hC rfl rfl rfl rfl ?_
              refine x_stI5 (p' := 40) hC rfl rfl rfl ?_
              refine x_1 (p' := 41) hC rfl rfl rfl rfl ?_
              refine x_ifeq (p' := 42) hC rfl rfl (fun c => absurd c (by decide)) (fun _ => ?_)
              refine x_1 (p' := 43) hC rfl rfl rfl rfl ?_
              refine x_1 (p' := 44) hC rfl rfl rfl rfl ?_
              refine x_1 (p' := 45) hC rfl rfl rfl rfl ?_
              refine x_cIV2 (p' := 46) (n := 5) hC rfl rfl rfl rfl rfl (hO.ty) ?_
              refine sp_m_fr hO (by omega) (by omega) ?_
              refine x_1 (p' := 48) hC rfl rfl rfl rfl ?_
              refine x_stI3 (p' := 49) hC rfl rfl rfl ?_
              refine x_inc4 (p' := 50) hC rfl rfl (⟨by omega, by omega⟩) ?_
              refine x_1 (p' := 4) hC rfl rfl rfl rfl ?_
              exact ih _ _ _ (by omega) (by omega) (by rw [fI_succ (by omega), ← hI1]; first | rw [cif_t (by omega)] | rw [cif_f (by omega)])
            · refine x_1 (p' := 31) hC rfl rfl rfl rfl ?_
              refine x_1 (p' := 32) hC rfl rfl rfl rfl ?_
              refine x_1 (p' := 33) hC rfl rfl rfl rfl ?_
              refine x_cIV2 (p' := 34) (n := 5) hC rfl rfl rfl rfl rfl (hO.ty) ?_
              refine sp_m_fr hO (by omega) (by omega) ?_
              refine x_1 (p' := 35) hC rfl rfl rfl rfl ?_
              refine x_icge (p' := 36) hC rfl rfl (fun c35 => ?_) (fun c35 => ?_)
              · refine x_1 (p' := 39) hC rfl rfl rfl rfl ?_
                refine x_stI5 (p' := 40) hC rfl rfl rfl ?_
                refine x_1 (p' := 41) hC rfl rfl rfl rfl ?_
                refine x_ifeq (p' := 42) hC rfl rfl (fun _ => ?_) (fun c => absurd c (by decide))
                refine x_1 (p' := 48) hC rfl rfl rfl rfl ?_
                refine x_stI3 (p' := 49) hC rfl rfl rfl ?_
                refine x_inc4 (p' := 50) hC rfl rfl (⟨by omega, by omega⟩) ?_
                refine x_1 (p' := 4) hC rfl rfl rfl rfl ?_
                exact ih _ _ _ (by omega) (by omega) (by rw [fI_succ (by omega), ← hI1]; first | rw [cif_t (by omega)] | rw [cif_f (by omega)])
              · refine x_1 (p' := 37) hC rfl rfl rfl rfl ?_
                refine x_1 (p' := 39) hC rfl rfl rfl rfl ?_
                refine x_stI5 (p' := 40) hC rfl rfl rfl ?_
                refine x_1 (p' := 41) hC rfl rfl rfl rfl ?_
                refine x_ifeq (p' := 42) hC rfl rfl (fun c => absurd c (by decide)) (fun _ => ?_)
                refine x_1 (p' := 43) hC rfl rfl rfl rfl ?_
                refine x_1 (p' := 44) hC rfl rfl rfl rfl ?_
                refine x_1 (p' := 45) hC rfl rfl rfl rfl ?_
                refine x_cIV2 (p' := 46) (n := 5) hC rfl rfl rfl rfl rfl (hO.ty) ?_
                refine sp_m_fr hO (by omega) (by omega) ?_
                refine x_1 (p' := 48) hC rfl rfl rfl rfl ?_
                refine x_stI3 (p' := 49) hC rfl rfl rfl ?_
                refine x_inc4 (p' := 50) hC rfl rfl (⟨by omega, by omega⟩) ?_
                refine x_1 (p' := 4) hC rfl rfl rfl rfl ?_
                exact ih _ _ _ (by omega) (by omega) (by rw [fI_succ (by omega), ← hI1]; first | rw [cif_t (by omega)] | rw [cif_f (by omega)])
set_option maxRecDepth 20000 in
theorem sp_m_behind {d : Nat} {m : Nat} {h : HP} (hO : RO m h) {X : Nat → Int → Int} (hs : RI (X 1)) {g sl : Int} {Q : Int → HP → Prop} (K : Q (rBehind (X 1) g sl) (wX m h X)) : CaI (d + 1) 34 [.inr (some m), .inl g, .inl sl] (wX m h X) Q := by
  have hC : cod 34 = c_m_behind := rfl
  refine CaI.start rfl ?_
  have hs2 := hs.2.2.1
  refine x_1 (p' := 1) hC rfl rfl rfl rfl ?_
  refine x_stI3 (p' := 2) hC rfl rfl rfl ?_
  refine x_1 (p' := 3) hC rfl rfl rfl rfl ?_
  refine x_stI4 (p' := 4) hC rfl rfl rfl ?_
  exact lp_m_behind hO hs (st0 := none) K _ _ _ _ (Nat.lt_succ_self _) (by omega) rfl
set_option maxRecDepth 20000 in
theorem sp_m_isQuick {d : Nat} {m : Nat} {h : HP} (hO : RO m h) {X : Nat → Int → Int} {g c : Int} (hg : 0 ≤ g ∧ g < 5) (hc : 0 ≤ c ∧ c < 15) {Q : Int → HP → Prop} (K : Q (b2i (rPer (X 1) c ≤ rOf (X 1) g 4)) (wX m h X)) : CaI (d + 2) 36 [.inr (some m), .inl g, .inl c] (wX m h X) Q := by
  have hC : cod 36 = c_m_isQuick := rfl
  refine CaI.start rfl ?_
  refine x_1 (p' := 1) hC rfl rfl rfl rfl ?_
  refine x_1 (p' := 2) hC rfl rfl rfl rfl ?_
  refine x_cIV1 (p' := 3) (n := 16) hC rfl rfl rfl rfl rfl (hO.ty) ?_
  refine sp_m_periodOf hO (by omega) ?_
  refine x_1 (p' := 4) hC rfl rfl rfl rfl ?_
  refine x_1 (p' := 5) hC rfl rfl rfl rfl ?_
  refine x_1 (p' := 6) hC rfl rfl rfl rfl ?_
  refine x_cIV2 (p' := 7) (n := 3) hC rfl rfl rfl rfl rfl (hO.ty) ?_
  refine sp_m_of hO (by omega) (by omega) ?_
  refine x_icgt (p' := 8) hC rfl rfl (fun c7 => ?_) (fun c7 => ?_)
  · refine x_1 (p' := 11) hC rfl rfl rfl rfl ?_
    refine x_zret hC rfl rfl rfl (by first | omega | exact b2i_01 _) ⟨_, rfl, ?_⟩
    refine eqK K ?_
    first | exact b2i_t (by omega) | exact b2i_f (by omega)
  · refine x_1 (p' := 9) hC rfl rfl rfl rfl ?_
    refine x_1 (p' := 11) hC rfl rfl rfl rfl ?_
    refine x_zret hC rfl rfl rfl (by first | omega | exact b2i_01 _) ⟨_, rfl, ?_⟩
    refine eqK K ?_
    first | exact b2i_t (by omega) | exact b2i_f (by omega)
set_option maxRecDepth 20000 in
theorem sp_m_expects {d : Nat} {m : Nat} {h : HP} (hO : RO m h) {X : Nat → Int → Int} {g c sl : Int} (hg : 0 ≤ g ∧ g < 5) (hc : 0 ≤ c ∧ c < 15) (hp : okPer (X 1) c) (hpg : 1 ≤ rOf (X 1) g 4 ∧ rOf (X 1) g 4 ≤ 20) (hsl : 0 ≤ sl) {Q : Int → HP → Prop} (K : Q (rExp (X 1) g c sl) (wX m h X)) : CaI (d + 3) 37 [.inr (some m), .inl g, .inl c, .inl sl] (wX m h X) Q := by
  have hC : cod 37 = c_m_expects := rfl
  refine CaI.start rfl ?_
  refine x_1 (p' := 1) hC rfl rfl rfl rfl ?_
  refine x_1 (p' := 2) hC rfl rfl rfl rfl ?_
  refine x_1 (p' := 3) hC rfl rfl rfl rfl ?_
  refine x_cIV2 (p' := 4) (n := 36) hC rfl rfl rfl rfl rfl (hO.ty) ?_
  refine sp_m_isQuick hO (by omega) (by omega) ?_
  refine x_ifeq (p' := 5) hC rfl rfl (fun c4 => ?_) (fun c4 => ?_)
  · have c4 := b2i_0.mp c4
    refine x_1 (p' := 15) hC rfl rfl rfl rfl ?_
    refine x_1 (p' := 16) hC rfl rfl rfl rfl ?_
    refine x_1 (p' := 17) hC rfl rfl rfl rfl ?_
    refine x_cIV1 (p' := 18) (n := 16) hC rfl rfl rfl rfl rfl (hO.ty) ?_
    refine sp_m_periodOf hO (by omega) ?_
    refine x_rem (p' := 19) hC rfl rfl rfl (by omega) ?_
    refine x_ifne (p' := 20) hC rfl rfl (fun c19 => ?_) (fun c19 => ?_)
    · refine x_1 (p' := 23) hC rfl rfl rfl rfl ?_
      refine x_iret hC rfl rfl rfl ⟨_, rfl, ?_⟩
      refine eqK K ?_
      unfold rExp
      first | (rw [if_pos (by omega), wr_tdiv (by omega) (by omega) (by omega)]) | (rw [wr_tmod (by omega) (by omega) (by omega)] at c19; rw [if_neg (by omega)]; first | exact b2i_t c19 | exact b2i_f c19)
    · refine x_1 (p' := 21) hC rfl rfl rfl rfl ?_
      refine x_1 (p' := 23) hC rfl rfl rfl rfl ?_
      refine x_iret hC rfl rfl rfl ⟨_, rfl, ?_⟩
      refine eqK K ?_
      unfold rExp
      first | (rw [if_pos (by omega), wr_tdiv (by omega) (by omega) (by omega)]) | (rw [wr_tmod (by omega) (by omega) (by omega)] at c19; rw [if_neg (by omega)]; first | exact b2i_t c19 | exact b2i_f c19)
  · have c4 := b2i_n0.mp c4
    refine x_1 (p' := 6) hC rfl rfl rfl rfl ?_
    refine x_1 (p' := 7) hC rfl rfl rfl rfl ?_
    refine x_1 (p' := 8) hC rfl rfl rfl rfl ?_
    refine x_cIV2 (p' := 9) (n := 3) hC rfl rfl rfl rfl rfl (hO.ty) ?_
    refine sp_m_of hO (by omega) (by omega) ?_
    refine x_1 (p' := 10) hC rfl rfl rfl rfl ?_
    refine x_1 (p' := 11) hC rfl rfl rfl rfl ?_
    refine x_cIV1 (p' := 12) (n := 16) hC rfl rfl rfl rfl rfl (hO.ty) ?_
    refine sp_m_periodOf hO (by omega) ?_
    refine x_div (p' := 13) hC rfl rfl rfl (by omega) ?_
    refine x_1 (p' := 23) hC rfl rfl rfl rfl ?_
    refine x_iret hC rfl rfl rfl ⟨_, rfl, ?_⟩
    refine eqK K ?_
    unfold rExp
    first | (rw [if_pos (by omega), wr_tdiv (by omega) (by omega) (by omega)]) | (rw [wr_tmod (by omega) (by omega) (by omega)] at c19; rw [if_neg (by omega)]; first | exact b2i_t c19 | exact b2i_f c19)
set_option maxRecDepth 20000 in
theorem lp_m_frames {d : Nat} {m : Nat} {h : HP} (hO : RO m h) {X : Nat → Int → Int} (hs : RI (X 1)) {g c sl : Int} {Q : Int → HP → Prop} (K : Q (rFrames (X 1) g c sl) (wX m h X)) (k : Nat) : ∀ (n : Int) (u : Int), (X 1 7 - u).toNat < k → (0 ≤ u ∧ u ≤ X 1 7) → (0 ≤ n ∧ n ≤ u) → (n = fI u (fun f n => n + b2i (rIn (X 1) f g sl ∧ (c < 0 ∨ rFr (X 1) f 2 = c))) 0) → At (d + 2) 38 4 [some (.inr (some m)), some (.inl g), some (.inl c), some (.inl sl), some (.inl n), some (.inl u)] [] (wX m h X) (fun v h' => ∃ x, v = some (.inl x) ∧ Q x h') := by
  have hC : cod 38 = c_m_frames := rfl
  induction k with
  | zero =>
    intro n u hk
    exact absurd hk (Nat.not_lt_zero _)
  | succ k ih =>
    intro n u hk hI0 hI1 hI2
    have hs2 := hs.2.2.1
    refine x_1 (p' := 5) hC rfl rfl rfl rfl ?_
    refine x_1 (p' := 6) hC rfl rfl rfl rfl ?_
    refine y_gR (p' := 7) (n := 1) hO hC rfl rfl rfl rfl ?_
    refine x_1 (p' := 8) hC rfl rfl rfl rfl ?_
    refine y_ld (p' := 9) (L := 15568) hO hC rfl rfl rfl rfl (by omega) (by omega) ?_
    refine x_icge (p' := 10) hC rfl rfl (fun c9 => ?_) (fun c9 => ?_)
    · refine x_1 (p' := 33) hC rfl rfl rfl rfl ?_
      refine x_iret hC rfl rfl rfl ⟨_, rfl, ?_⟩
      refine eqK K ?_
      rw [hI2, show u = X 1 7 by omega]; rfl
    · refine x_1 (p' := 11) hC rfl rfl rfl rfl ?_
      refine x_1 (p' := 12) hC rfl rfl rfl rfl ?_
      refine x_1 (p' := 13) hC rfl rfl rfl rfl ?_
      refine x_1 (p' := 14) hC rfl rfl rfl rfl ?_
      refine x_1 (p' := 15) hC rfl rfl rfl rfl ?_
      refine x_cIV3 (p' := 16) (n := 33) hC rfl rfl rfl rfl rfl (hO.ty) ?_
      refine sp_m_isIn hO (by omega) ?_
      refine x_ifeq (p' := 17) hC rfl rfl (fun c16 => ?_) (fun c16 => ?_)
      · have c16 := b2i_0.mp c16
        refine x_1 (p' := 28) hC rfl rfl rfl rfl ?_
        refine x_add (p' := 29) hC rfl rfl rfl (⟨by omega, by omega⟩) ?_
        refine x_stI4 (p' := 30) hC rfl rfl rfl ?_
        refine x_inc5 (p' := 31) hC rfl rfl (⟨by omega, by omega⟩) ?_
        refine x_1 (p' := 4) hC rfl rfl rfl rfl ?_
        exact ih _ _ (by omega) (by omega) (by omega) (by rw [fI_succ (by omega), ← hI2]; first | (rw [b2i_t (by omega)]) | (rw [b2i_f (by omega)]))
      · have c16 := b2i_n0.mp c16
        refine x_1 (p' := 18) hC rfl rfl rfl rfl ?_
        refine x_iflt (p' := 19) hC rfl rfl (fun c18 => ?_) (fun c18 => ?_)
        · refine x_1 (p' := 26) hC rfl rfl rfl rfl ?_
          refine x_1 (p' := 28) hC rfl rfl rfl rfl ?_
          refine x_add (p' := 29) hC rfl rfl rfl (⟨by omega, by omega⟩) ?_
          refine x_stI4 (p' := 30) hC rfl rfl rfl ?_
          refine x_inc5 (p' := 31) hC rfl rfl (⟨by omega, by omega⟩) ?_
          refine x_1 (p' := 4) hC rfl rfl rfl rfl ?_
          exact ih _ _ (by omega) (by omega) (by omega) (by rw [fI_succ (by omega), ← hI2]; first | (rw [b2i_t (by omega)]) | (rw [b2i_f (by omega)]))
        · refine x_1 (p' := 20) hC rfl rfl rfl rfl ?_
          refine x_1 (p' := 21) hC rfl rfl rfl rfl ?_
          refine x_1 (p' := 22) hC rfl rfl rfl rfl ?_
          refine x_cIV2 (p' := 23) (n := 5) hC rfl rfl rfl rfl rfl (hO.ty) ?_
          refine sp_m_fr hO (by omega) (by omega) ?_
          refine x_1 (p' := 24) hC rfl rfl rfl rfl ?_
          refine x_icne (p' := 25) hC rfl rfl (fun c24 => ?_) (fun c24 => ?_)
          · refine x_1 (p' := 28) hC rfl rfl rfl rfl ?_
            refine x_add (p' := 29) hC rfl rfl rfl (⟨by omega, by omega⟩) ?_
            refine x_stI4 (p' := 30) hC rfl rfl rfl ?_
            refine x_inc5 (p' := 31) hC rfl rfl (⟨by omega, by omega⟩) ?_
            refine x_1 (p' := 4) hC rfl rfl rfl rfl ?_
            exact ih _ _ (by omega) (by omega) (by omega) (by rw [fI_succ (by omega), ← hI2]; first | (rw [b2i_t (by omega)]) | (rw [b2i_f (by omega)]))
          · refine x_1 (p' := 26) hC rfl rfl rfl rfl ?_
            refine x_1 (p' := 28) hC rfl rfl rfl rfl ?_
            refine x_add (p' := 29) hC rfl rfl rfl (⟨by omega, by omega⟩) ?_
            refine x_stI4 (p' := 30) hC rfl rfl rfl ?_
            refine x_inc5 (p' := 31) hC rfl rfl (⟨by omega, by omega⟩) ?_
            refine x_1 (p' := 4) hC rfl rfl rfl rfl ?_
            exact ih _ _ (by omega) (by omega) (by omega) (by rw [fI_succ (by omega), ← hI2]; first | (rw [b2i_t (by omega)]) | (rw [b2i_f (by omega)]))
set_option maxRecDepth 20000 in
theorem sp_m_frames {d : Nat} {m : Nat} {h : HP} (hO : RO m h) {X : Nat → Int → Int} (hs : RI (X 1)) {g c sl : Int} {Q : Int → HP → Prop} (K : Q (rFrames (X 1) g c sl) (wX m h X)) : CaI (d + 2) 38 [.inr (some m), .inl g, .inl c, .inl sl] (wX m h X) Q := by
  have hC : cod 38 = c_m_frames := rfl
  refine CaI.start rfl ?_
  have hs2 := hs.2.2.1
  refine x_1 (p' := 1) hC rfl rfl rfl rfl ?_
  refine x_stI4 (p' := 2) hC rfl rfl rfl ?_
  refine x_1 (p' := 3) hC rfl rfl rfl rfl ?_
  refine x_stI5 (p' := 4) hC rfl rfl rfl ?_
  exact lp_m_frames hO hs K _ _ _ (Nat.lt_succ_self _) (by omega) (by omega) rfl
theorem rExp_le {s : Int → Int} (hs : RI s) {h c slot : Int} (hp : okPer s c) (hg : 1 ≤ rOf s h 4 ∧ rOf s h 4 ≤ 20) : 0 ≤ rExp s h c slot ∧ rExp s h c slot ≤ 20 := by
  unfold rExp
  split
  · have h1 := Int.ediv_nonneg (show 0 ≤ rOf s h 4 by omega) (show 0 ≤ rPer s c by omega)
    have h2 := Int.ediv_le_self (rPer s c) (show 0 ≤ rOf s h 4 by omega)
    omega
  · have := b2i_01 (slot % rPer s c = 0)
    omega
set_option maxRecDepth 20000 in
theorem lp_m_expected {d : Nat} {m : Nat} {h : HP} (hO : RO m h) {X : Nat → Int → Int} (hs : RI (X 1)) {g sl : Int} (hg : 0 ≤ g ∧ g < X 1 0) (hsl : 0 ≤ sl) {Q : Int → HP → Prop} (K : Q (rExpected (X 1) g sl) (wX m h X)) (k : Nat) : ∀ (n : Int) (u : Int), (15 - u).toNat < k → (0 ≤ u ∧ u ≤ 15) → (0 ≤ n ∧ n ≤ 20 * u) → (n = fI u (fun c n => n + cif (rChild (X 1) g c) (rExp (X 1) g c sl) 0) 0) → At (d + 4) 39 4 [some (.inr (some m)), some (.inl g), some (.inl sl), some (.inl n), some (.inl u)] [] (wX m h X) (fun v h' => ∃ x, v = some (.inl x) ∧ Q x h') := by
  have hC : cod 39 = c_m_expected := rfl
  induction k with
  | zero =>
    intro n u hk
    exact absurd hk (Nat.not_lt_zero _)
  | succ k ih =>
    intro n u hk hI0 hI1 hI2
    have hg1 := hs.1
    have hpg : 1 ≤ rOf (X 1) g 4 ∧ rOf (X 1) g 4 ≤ 20 := by have := hs.2.2.2.2.1 g hg.1 hg.2; omega
    refine x_1 (p' := 5) hC rfl rfl rfl rfl ?_
    refine x_1 (p' := 6) hC rfl rfl rfl rfl ?_
    refine x_icge (p' := 7) hC rfl rfl (fun c6 => ?_) (fun c6 => ?_)
    · refine x_1 (p' := 25) hC rfl rfl rfl rfl ?_
      refine x_iret hC rfl rfl rfl ⟨_, rfl, ?_⟩
      refine eqK K ?_
      rw [hI2, show u = 15 by omega]; rfl
    · refine x_1 (p' := 8) hC rfl rfl rfl rfl ?_
      refine x_1 (p' := 9) hC rfl rfl rfl rfl ?_
      refine x_1 (p' := 10) hC rfl rfl rfl rfl ?_
      refine x_1 (p' := 11) hC rfl rfl rfl rfl ?_
      refine x_cIV2 (p' := 12) (n := 15) hC rfl rfl rfl rfl rfl (hO.ty) ?_
      refine sp_m_isChild hO hs (by omega) ?_
      refine x_ifeq (p' := 13) hC rfl rfl (fun c12 => ?_) (fun c12 => ?_)
      · have c12 := b2i_0.mp c12
        refine x_1 (p' := 20) hC rfl rfl rfl rfl ?_
        refine x_add (p' := 21) hC rfl rfl rfl (⟨by omega, by omega⟩) ?_
        refine x_stI3 (p' := 22) hC rfl rfl rfl ?_
        refine x_inc4 (p' := 23) hC rfl rfl (⟨by omega, by omega⟩) ?_
        refine x_1 (p' := 4) hC rfl rfl rfl rfl ?_
        exact ih _ _ (by omega) (by omega) (by omega) (by rw [fI_succ (by omega), ← hI2]; first | rw [cif_t c12] | rw [cif_f c12])
      · have c12 := b2i_n0.mp c12
        have hp := per_child hs c12
        have he := rExp_le hs (slot := sl) hp hpg
        refine x_1 (p' := 14) hC rfl rfl rfl rfl ?_
        refine x_1 (p' := 15) hC rfl rfl rfl rfl ?_
        refine x_1 (p' := 16) hC rfl rfl rfl rfl ?_
        refine x_1 (p' := 17) hC rfl rfl rfl rfl ?_
        refine x_cIV3 (p' := 18) (n := 37) hC rfl rfl rfl rfl rfl (hO.ty) ?_
        refine sp_m_expects hO (by omega) (by omega) (by assumption) (by assumption) (by omega) ?_
        refine x_1 (p' := 20) hC rfl rfl rfl rfl ?_
        refine x_add (p' := 21) hC rfl rfl rfl (⟨by omega, by omega⟩) ?_
        refine x_stI3 (p' := 22) hC rfl rfl rfl ?_
        refine x_inc4 (p' := 23) hC rfl rfl (⟨by omega, by omega⟩) ?_
        refine x_1 (p' := 4) hC rfl rfl rfl rfl ?_
        exact ih _ _ (by omega) (by omega) (by omega) (by rw [fI_succ (by omega), ← hI2]; first | rw [cif_t c12] | rw [cif_f c12])
set_option maxRecDepth 20000 in
theorem sp_m_expected {d : Nat} {m : Nat} {h : HP} (hO : RO m h) {X : Nat → Int → Int} (hs : RI (X 1)) {g sl : Int} (hg : 0 ≤ g ∧ g < X 1 0) (hsl : 0 ≤ sl) {Q : Int → HP → Prop} (K : Q (rExpected (X 1) g sl) (wX m h X)) : CaI (d + 4) 39 [.inr (some m), .inl g, .inl sl] (wX m h X) Q := by
  have hC : cod 39 = c_m_expected := rfl
  refine CaI.start rfl ?_
  refine x_1 (p' := 1) hC rfl rfl rfl rfl ?_
  refine x_stI3 (p' := 2) hC rfl rfl rfl ?_
  refine x_1 (p' := 3) hC rfl rfl rfl rfl ?_
  refine x_stI4 (p' := 4) hC rfl rfl rfl ?_
  exact lp_m_expected hO hs hg hsl K _ _ _ (Nat.lt_succ_self _) (by omega) (by omega) rfl
set_option maxRecDepth 20000 in
theorem lp_m_isComplete {d : Nat} {m : Nat} {h : HP} (hO : RO m h) {X : Nat → Int → Int} (hs : RI (X 1)) {g sl : Int} (hg : 0 ≤ g ∧ g < X 1 0) (hsl : 0 ≤ sl) {Q : Int → HP → Prop} (K : Q (b2i (rCompl (X 1) g sl)) (wX m h X)) (k : Nat) : ∀ (n : Int) (u : Int), (15 - u).toNat < k → (0 ≤ u ∧ u ≤ 15) → (n = b2i (rComplN (X 1) g sl u)) → At (d + 4) 40 4 [some (.inr (some m)), some (.inl g), some (.inl sl), some (.inl n), some (.inl u)] [] (wX m h X) (fun v h' => ∃ x, v = some (.inl x) ∧ Q x h') := by
  have hC : cod 40 = c_m_isComplete := rfl
  induction k with
  | zero =>
    intro n u hk
    exact absurd hk (Nat.not_lt_zero _)
  | succ k ih =>
    intro n u hk hI0 hI1
    have hg1 := hs.1
    have hpg : 1 ≤ rOf (X 1) g 4 ∧ rOf (X 1) g 4 ≤ 20 := by have := hs.2.2.2.2.1 g hg.1 hg.2; omega
    have hn01 : 0 ≤ n ∧ n ≤ 1 := by rw [hI1]; exact b2i_01 _
    refine x_1 (p' := 5) hC rfl rfl rfl rfl ?_
    refine x_1 (p' := 6) hC rfl rfl rfl rfl ?_
    refine x_icge (p' := 7) hC rfl rfl (fun c6 => ?_) (fun c6 => ?_)
    · refine x_1 (p' := 32) hC rfl rfl rfl rfl ?_
      refine x_zret hC rfl rfl rfl (by first | omega | exact b2i_01 _) ⟨_, rfl, ?_⟩
      refine eqK K ?_
      first
        | (rw [hI1, show u = 15 by omega])
        | (have c0 : n = 0 := by omega
           rw [c0]
           rw [c0] at hI1
           exact b2i_f (fun q => b2i_0.mp hI1.symm (fun c h0 h1 => q c h0 (by omega))))
    · refine x_1 (p' := 8) hC rfl rfl rfl rfl ?_
      refine x_ifeq (p' := 9) hC rfl rfl (fun c8 => ?_) (fun c8 => ?_)
      · refine x_1 (p' := 32) hC rfl rfl rfl rfl ?_
        refine x_zret hC rfl rfl rfl (by first | omega | exact b2i_01 _) ⟨_, rfl, ?_⟩
        refine eqK K ?_
        first
          | (rw [hI1, show u = 15 by omega])
          | (have c0 : n = 0 := by omega
             rw [c0]
             rw [c0] at hI1
             exact b2i_f (fun q => b2i_0.mp hI1.symm (fun c h0 h1 => q c h0 (by omega))))
      · refine x_1 (p' := 10) hC rfl rfl rfl rfl ?_
        refine x_1 (p' := 11) hC rfl rfl rfl rfl ?_
        refine x_1 (p' := 12) hC rfl rfl rfl rfl ?_
        refine x_cIV2 (p' := 13) (n := 15) hC rfl rfl rfl rfl rfl (hO.ty) ?_
        refine sp_m_isChild hO hs (by omega) ?_
        refine x_ifeq (p' := 14) hC rfl rfl (fun c13 => ?_) (fun c13 => ?_)
        · have c13 := b2i_0.mp c13
          refine x_1 (p' := 26) hC rfl rfl rfl rfl ?_
          refine x_1 (p' := 28) hC rfl rfl rfl rfl ?_
          refine x_stI3 (p' := 29) hC rfl rfl rfl ?_
          refine x_inc4 (p' := 30) hC rfl rfl (⟨by omega, by omega⟩) ?_
          refine x_1 (p' := 4) hC rfl rfl rfl rfl ?_
          refine ih _ _ (by omega) (by omega) ?_
          first
            | exact (b2i_t ((rComplN_succ (by omega)).mpr ⟨b2i_n0.mp (by rw [← hI1]; omega), fun q => absurd q c13⟩)).symm
            | exact (b2i_t ((rComplN_succ (by omega)).mpr ⟨b2i_n0.mp (by rw [← hI1]; omega), fun q => by omega⟩)).symm
            | exact (b2i_f (fun q => by have := ((rComplN_succ (by omega)).mp q).2 c13; omega)).symm
        · have c13 := b2i_n0.mp c13
          have hp := per_child hs c13
          refine x_1 (p' := 15) hC rfl rfl rfl rfl ?_
          refine x_1 (p' := 16) hC rfl rfl rfl rfl ?_
          refine x_1 (p' := 17) hC rfl rfl rfl rfl ?_
          refine x_1 (p' := 18) hC rfl rfl rfl rfl ?_
          refine x_cIV3 (p' := 19) (n := 38) hC rfl rfl rfl rfl rfl (hO.ty) ?_
          refine sp_m_frames hO hs ?_
          refine x_1 (p' := 20) hC rfl rfl rfl rfl ?_
          refine x_1 (p' := 21) hC rfl rfl rfl rfl ?_
          refine x_1 (p' := 22) hC rfl rfl rfl rfl ?_
          refine x_1 (p' := 23) hC rfl rfl rfl rfl ?_
          refine x_cIV3 (p' := 24) (n := 37) hC rfl rfl rfl rfl rfl (hO.ty) ?_
          refine sp_m_expects hO (by omega) (by omega) (by assumption) (by assumption) (by omega) ?_
          refine x_iclt (p' := 25) hC rfl rfl (fun c24 => ?_) (fun c24 => ?_)
          · refine x_1 (p' := 28) hC rfl rfl rfl rfl ?_
            refine x_stI3 (p' := 29) hC rfl rfl rfl ?_
            refine x_inc4 (p' := 30) hC rfl rfl (⟨by omega, by omega⟩) ?_
            refine x_1 (p' := 4) hC rfl rfl rfl rfl ?_
            refine ih _ _ (by omega) (by omega) ?_
            first
              | exact (b2i_t ((rComplN_succ (by omega)).mpr ⟨b2i_n0.mp (by rw [← hI1]; omega), fun q => absurd q c13⟩)).symm
              | exact (b2i_t ((rComplN_succ (by omega)).mpr ⟨b2i_n0.mp (by rw [← hI1]; omega), fun q => by omega⟩)).symm
              | exact (b2i_f (fun q => by have := ((rComplN_succ (by omega)).mp q).2 c13; omega)).symm
          · refine x_1 (p' := 26) hC rfl rfl rfl rfl ?_
            refine x_1 (p' := 28) hC rfl rfl rfl rfl ?_
            refine x_stI3 (p' := 29) hC rfl rfl rfl ?_
            refine x_inc4 (p' := 30) hC rfl rfl (⟨by omega, by omega⟩) ?_
            refine x_1 (p' := 4) hC rfl rfl rfl rfl ?_
            refine ih _ _ (by omega) (by omega) ?_
            first
              | exact (b2i_t ((rComplN_succ (by omega)).mpr ⟨b2i_n0.mp (by rw [← hI1]; omega), fun q => absurd q c13⟩)).symm
              | exact (b2i_t ((rComplN_succ (by omega)).mpr ⟨b2i_n0.mp (by rw [← hI1]; omega), fun q => by omega⟩)).symm
              | exact (b2i_f (fun q => by have := ((rComplN_succ (by omega)).mp q).2 c13; omega)).symm
set_option maxRecDepth 20000 in
theorem sp_m_isComplete {d : Nat} {m : Nat} {h : HP} (hO : RO m h) {X : Nat → Int → Int} (hs : RI (X 1)) {g sl : Int} (hg : 0 ≤ g ∧ g < X 1 0) (hsl : 0 ≤ sl) {Q : Int → HP → Prop} (K : Q (b2i (rCompl (X 1) g sl)) (wX m h X)) : CaI (d + 4) 40 [.inr (some m), .inl g, .inl sl] (wX m h X) Q := by
  have hC : cod 40 = c_m_isComplete := rfl
  refine CaI.start rfl ?_
  refine x_1 (p' := 1) hC rfl rfl rfl rfl ?_
  refine x_stI3 (p' := 2) hC rfl rfl rfl ?_
  refine x_1 (p' := 3) hC rfl rfl rfl rfl ?_
  refine x_stI4 (p' := 4) hC rfl rfl rfl ?_
  exact lp_m_isComplete hO hs hg hsl K _ _ _ (Nat.lt_succ_self _) (by omega) (b2i_t (fun c h0 h1 => by omega)).symm
set_option maxRecDepth 20000 in
theorem lp_m_firstCame {d : Nat} {m : Nat} {h : HP} (hO : RO m h) {X : Nat → Int → Int} (hs : RI (X 1)) {g sl : Int} {Q : Int → HP → Prop} (K : Q (rFirst (X 1) g sl) (wX m h X)) (k : Nat) : ∀ (n : Int) (u : Int), (X 1 7 - u).toNat < k → (0 ≤ u ∧ u ≤ X 1 7) → (n = fI u (fun f found => cif (rIn (X 1) f g sl ∧ (found < 0 ∨ rFr (X 1) f 5 < found)) (rFr (X 1) f 5) found) (-1)) → At (d + 2) 41 4 [some (.inr (some m)), some (.inl g), some (.inl sl), some (.inl n), some (.inl u)] [] (wX m h X) (fun v h' => ∃ x, v = some (.inl x) ∧ Q x h') := by
  have hC : cod 41 = c_m_firstCame := rfl
  induction k with
  | zero =>
    intro n u hk
    exact absurd hk (Nat.not_lt_zero _)
  | succ k ih =>
    intro n u hk hI0 hI1
    have hs2 := hs.2.2.1
    refine x_1 (p' := 5) hC rfl rfl rfl rfl ?_
    refine x_1 (p' := 6) hC rfl rfl rfl rfl ?_
    refine y_gR (p' := 7) (n := 1) hO hC rfl rfl rfl rfl ?_
    refine x_1 (p' := 8) hC rfl rfl rfl rfl ?_
    refine y_ld (p' := 9) (L := 15568) hO hC rfl rfl rfl rfl (by omega) (by omega) ?_
    refine x_icge (p' := 10) hC rfl rfl (fun c9 => ?_) (fun c9 => ?_)
    · refine x_1 (p' := 34) hC rfl rfl rfl rfl ?_
      refine x_iret hC rfl rfl rfl ⟨_, rfl, ?_⟩
      refine eqK K ?_
      rw [hI1, show u = X 1 7 by omega]; rfl
    · refine x_1 (p' := 11) hC rfl rfl rfl rfl ?_
      refine x_1 (p' := 12) hC rfl rfl rfl rfl ?_
      refine x_1 (p' := 13) hC rfl rfl rfl rfl ?_
      refine x_1 (p' := 14) hC rfl rfl rfl rfl ?_
      refine x_cIV3 (p' := 15) (n := 33) hC rfl rfl rfl rfl rfl (hO.ty) ?_
      refine sp_m_isIn hO (by omega) ?_
      refine x_ifeq (p' := 16) hC rfl rfl (fun c15 => ?_) (fun c15 => ?_)
      · have c15 := b2i_0.mp c15
        refine x_1 (p' := 30) hC rfl rfl rfl rfl ?_
        refine x_stI3 (p' := 31) hC rfl rfl rfl ?_
        refine x_inc4 (p' := 32) hC rfl rfl (⟨by omega, by omega⟩) ?_
        refine x_1 (p' := 4) hC rfl rfl rfl rfl ?_
        exact ih _ _ (by omega) (by omega) (by rw [fI_succ (by omega), ← hI1]; first | rw [cif_t (by omega)] | rw [cif_f (by omega)])
      · have c15 := b2i_n0.mp c15
        refine x_1 (p' := 17) hC rfl rfl rfl rfl ?_
        refine x_iflt (p' := 18) hC rfl rfl (fun c17 => ?_) (fun c17 => ?_)
        · refine x_1 (p' := 25) hC rfl rfl rfl rfl ?_
          refine x_1 (p' := 26) hC rfl rfl rfl rfl ?_
          refine x_1 (p' := 27) hC rfl rfl rfl rfl ?_
          refine x_cIV2 (p' := 28) (n := 5) hC rfl rfl rfl rfl rfl (hO.ty) ?_
          refine sp_m_fr hO (by omega) (by omega) ?_
          refine x_1 (p' := 30) hC rfl rfl rfl rfl ?_
          refine x_stI3 (p' := 31) hC rfl rfl rfl ?_
          refine x_inc4 (p' := 32) hC rfl rfl (⟨by omega, by omega⟩) ?_
          refine x_1 (p' := 4) hC rfl rfl rfl rfl ?_
          exact ih _ _ (by omega) (by omega) (by rw [fI_succ (by omega), ← hI1]; first | rw [cif_t (by omega)] | rw [cif_f (by omega)])
        · refine x_1 (p' := 19) hC rfl rfl rfl rfl ?_
          refine x_1 (p' := 20) hC rfl rfl rfl rfl ?_
          refine x_1 (p' := 21) hC rfl rfl rfl rfl ?_
          refine x_cIV2 (p' := 22) (n := 5) hC rfl rfl rfl rfl rfl (hO.ty) ?_
          refine sp_m_fr hO (by omega) (by omega) ?_
          refine x_1 (p' := 23) hC rfl rfl rfl rfl ?_
          refine x_icge (p' := 24) hC rfl rfl (fun c23 => ?_) (fun c23 => ?_)
          · refine x_1 (p' := 30) hC rfl rfl rfl rfl ?_
            refine x_stI3 (p' := 31) hC rfl rfl rfl ?_
            refine x_inc4 (p' := 32) hC rfl rfl (⟨by omega, by omega⟩) ?_
            refine x_1 (p' := 4) hC rfl rfl rfl rfl ?_
            exact ih _ _ (by omega) (by omega) (by rw [fI_succ (by omega), ← hI1]; first | rw [cif_t (by omega)] | rw [cif_f (by omega)])
          · refine x_1 (p' := 25) hC rfl rfl rfl rfl ?_
            refine x_1 (p' := 26) hC rfl rfl rfl rfl ?_
            refine x_1 (p' := 27) hC rfl rfl rfl rfl ?_
            refine x_cIV2 (p' := 28) (n := 5) hC rfl rfl rfl rfl rfl (hO.ty) ?_
            refine sp_m_fr hO (by omega) (by omega) ?_
            refine x_1 (p' := 30) hC rfl rfl rfl rfl ?_
            refine x_stI3 (p' := 31) hC rfl rfl rfl ?_
            refine x_inc4 (p' := 32) hC rfl rfl (⟨by omega, by omega⟩) ?_
            refine x_1 (p' := 4) hC rfl rfl rfl rfl ?_
            exact ih _ _ (by omega) (by omega) (by rw [fI_succ (by omega), ← hI1]; first | rw [cif_t (by omega)] | rw [cif_f (by omega)])
set_option maxRecDepth 20000 in
theorem sp_m_firstCame {d : Nat} {m : Nat} {h : HP} (hO : RO m h) {X : Nat → Int → Int} (hs : RI (X 1)) {g sl : Int} {Q : Int → HP → Prop} (K : Q (rFirst (X 1) g sl) (wX m h X)) : CaI (d + 2) 41 [.inr (some m), .inl g, .inl sl] (wX m h X) Q := by
  have hC : cod 41 = c_m_firstCame := rfl
  refine CaI.start rfl ?_
  have hs2 := hs.2.2.1
  refine x_1 (p' := 1) hC rfl rfl rfl rfl ?_
  refine x_stI3 (p' := 2) hC rfl rfl rfl ?_
  refine x_1 (p' := 3) hC rfl rfl rfl rfl ?_
  refine x_stI4 (p' := 4) hC rfl rfl rfl ?_
  exact lp_m_firstCame hO hs K _ _ _ (Nat.lt_succ_self _) (by omega) rfl
set_option maxRecDepth 20000 in
theorem sp_m_lasts {d : Nat} {m : Nat} {h : HP} (hO : RO m h) {X : Nat → Int → Int} (hs : RI (X 1)) {g sl : Int} (hg : 0 ≤ g ∧ g < 5) (hw : 0 ≤ rOf (X 1) g 0 ∧ rOf (X 1) g 0 ≤ 40) (hsl : -1 ≤ sl ∧ sl ≤ 100000) (hfc : -1 ≤ rFirst (X 1) g sl ∧ rFirst (X 1) g sl ≤ 100000) (ht : 0 ≤ X 1 2 ∧ X 1 2 ≤ 100000) {Q : Int → HP → Prop} (K : Q (rLasts (X 1) g sl) (wX m h X)) : CaI (d + 3) 42 [.inr (some m), .inl g, .inl sl] (wX m h X) Q := by
  have hC : cod 42 = c_m_lasts := rfl
  refine CaI.start rfl ?_
  refine x_1 (p' := 1) hC rfl rfl rfl rfl ?_
  refine x_1 (p' := 2) hC rfl rfl rfl rfl ?_
  refine x_1 (p' := 3) hC rfl rfl rfl rfl ?_
  refine x_cIV2 (p' := 4) (n := 3) hC rfl rfl rfl rfl rfl (hO.ty) ?_
  refine sp_m_of hO (by omega) (by omega) ?_
  refine x_ifne (p' := 5) hC rfl rfl (fun c4 => ?_) (fun c4 => ?_)
  · refine x_1 (p' := 8) hC rfl rfl rfl rfl ?_
    refine x_1 (p' := 9) hC rfl rfl rfl rfl ?_
    refine x_1 (p' := 10) hC rfl rfl rfl rfl ?_
    refine x_cIV2 (p' := 11) (n := 41) hC rfl rfl rfl rfl rfl (hO.ty) ?_
    refine sp_m_firstCame hO hs ?_
    refine x_1 (p' := 12) hC rfl rfl rfl rfl ?_
    refine x_1 (p' := 13) hC rfl rfl rfl rfl ?_
    refine x_1 (p' := 14) hC rfl rfl rfl rfl ?_
    refine x_cIV2 (p' := 15) (n := 3) hC rfl rfl rfl rfl rfl (hO.ty) ?_
    refine sp_m_of hO (by omega) (by omega) ?_
    refine x_add (p' := 16) hC rfl rfl rfl (⟨by omega, by omega⟩) ?_
    refine x_stI3 (p' := 17) hC rfl rfl rfl ?_
    refine x_1 (p' := 18) hC rfl rfl rfl rfl ?_
    refine x_1 (p' := 19) hC rfl rfl rfl rfl ?_
    refine y_gR (p' := 20) (n := 1) hO hC rfl rfl rfl rfl ?_
    refine x_1 (p' := 21) hC rfl rfl rfl rfl ?_
    refine y_ld (p' := 22) (L := 15568) hO hC rfl rfl rfl rfl (by omega) (by omega) ?_
    refine x_icle (p' := 23) hC rfl rfl (fun c22 => ?_) (fun c22 => ?_)
    · refine x_1 (p' := 31) hC rfl rfl rfl rfl ?_
      refine x_iret hC rfl rfl rfl ⟨_, rfl, ?_⟩
      refine eqK K ?_
      unfold rLasts rEnd
      first
        | rw [if_pos (show rOf (X 1) g 1 = 0 by omega)]
        | rw [if_neg (show ¬ rOf (X 1) g 1 = 0 by omega)]
      first | exact if_pos (by omega) | exact if_neg (by omega)
    · refine x_1 (p' := 24) hC rfl rfl rfl rfl ?_
      refine x_1 (p' := 25) hC rfl rfl rfl rfl ?_
      refine y_gR (p' := 26) (n := 1) hO hC rfl rfl rfl rfl ?_
      refine x_1 (p' := 27) hC rfl rfl rfl rfl ?_
      refine y_ld (p' := 28) (L := 15568) hO hC rfl rfl rfl rfl (by omega) (by omega) ?_
      refine x_sub (p' := 29) hC rfl rfl rfl (⟨by omega, by omega⟩) ?_
      refine x_1 (p' := 31) hC rfl rfl rfl rfl ?_
      refine x_iret hC rfl rfl rfl ⟨_, rfl, ?_⟩
      refine eqK K ?_
      unfold rLasts rEnd
      first
        | rw [if_pos (show rOf (X 1) g 1 = 0 by omega)]
        | rw [if_neg (show ¬ rOf (X 1) g 1 = 0 by omega)]
      first | exact if_pos (by omega) | exact if_neg (by omega)
  · refine x_1 (p' := 6) hC rfl rfl rfl rfl ?_
    refine x_1 (p' := 11) hC rfl rfl rfl rfl ?_
    refine x_1 (p' := 12) hC rfl rfl rfl rfl ?_
    refine x_1 (p' := 13) hC rfl rfl rfl rfl ?_
    refine x_1 (p' := 14) hC rfl rfl rfl rfl ?_
    refine x_cIV2 (p' := 15) (n := 3) hC rfl rfl rfl rfl rfl (hO.ty) ?_
    refine sp_m_of hO (by omega) (by omega) ?_
    refine x_add (p' := 16) hC rfl rfl rfl (⟨by omega, by omega⟩) ?_
    refine x_stI3 (p' := 17) hC rfl rfl rfl ?_
    refine x_1 (p' := 18) hC rfl rfl rfl rfl ?_
    refine x_1 (p' := 19) hC rfl rfl rfl rfl ?_
    refine y_gR (p' := 20) (n := 1) hO hC rfl rfl rfl rfl ?_
    refine x_1 (p' := 21) hC rfl rfl rfl rfl ?_
    refine y_ld (p' := 22) (L := 15568) hO hC rfl rfl rfl rfl (by omega) (by omega) ?_
    refine x_icle (p' := 23) hC rfl rfl (fun c22 => ?_) (fun c22 => ?_)
    · refine x_1 (p' := 31) hC rfl rfl rfl rfl ?_
      refine x_iret hC rfl rfl rfl ⟨_, rfl, ?_⟩
      refine eqK K ?_
      unfold rLasts rEnd
      first
        | rw [if_pos (show rOf (X 1) g 1 = 0 by omega)]
        | rw [if_neg (show ¬ rOf (X 1) g 1 = 0 by omega)]
      first | exact if_pos (by omega) | exact if_neg (by omega)
    · refine x_1 (p' := 24) hC rfl rfl rfl rfl ?_
      refine x_1 (p' := 25) hC rfl rfl rfl rfl ?_
      refine y_gR (p' := 26) (n := 1) hO hC rfl rfl rfl rfl ?_
      refine x_1 (p' := 27) hC rfl rfl rfl rfl ?_
      refine y_ld (p' := 28) (L := 15568) hO hC rfl rfl rfl rfl (by omega) (by omega) ?_
      refine x_sub (p' := 29) hC rfl rfl rfl (⟨by omega, by omega⟩) ?_
      refine x_1 (p' := 31) hC rfl rfl rfl rfl ?_
      refine x_iret hC rfl rfl rfl ⟨_, rfl, ?_⟩
      refine eqK K ?_
      unfold rLasts rEnd
      first
        | rw [if_pos (show rOf (X 1) g 1 = 0 by omega)]
        | rw [if_neg (show ¬ rOf (X 1) g 1 = 0 by omega)]
      first | exact if_pos (by omega) | exact if_neg (by omega)
set_option maxRecDepth 20000 in
theorem lp_m_nextFrame {d : Nat} {m : Nat} {h : HP} (hO : RO m h) {X : Nat → Int → Int} (hs : RI (X 1)) {Q : Int → HP → Prop} (K : Q (rNext (X 1)) (wX m h X)) (k : Nat) : ∀ (n : Int) (u : Int) (z1 : Option AV) (z2 : Option AV), (X 1 7 - u).toNat < k → (0 ≤ u ∧ u ≤ X 1 7) → (-1 ≤ n ∧ n < u) → (n = fI u (fun f found => cif (rFr (X 1) f 0 = 1 ∧ rFr (X 1) f 4 ≤ X 1 2 ∧ (found < 0 ∨ rFr (X 1) f 4 < rFr (X 1) found 4 ∨ (rFr (X 1) f 4 = rFr (X 1) found 4 ∧ rFr (X 1) f 5 < rFr (X 1) found 5))) f found) (-1)) → At (d + 1) 54 4 [some (.inr (some m)), some (.inl n), some (.inl u), z1, z2] [] (wX m h X) (fun v h' => ∃ x, v = some (.inl x) ∧ Q x h') := by
  have hC : cod 54 = c_m_nextFrame := rfl
  induction k with
  | zero =>
    intro n u z1 z2 hk
    exact absurd hk (Nat.not_lt_zero _)
  | succ k ih =>
    intro n u z1 z2 hk hI0 hI1 hI2
    have hs2 := hs.2.2.1
    refine x_1 (p' := 5) hC rfl rfl rfl rfl ?_
    refine x_1 (p' := 6) hC rfl rfl rfl rfl ?_
    refine y_gR (p' := 7) (n := 1) hO hC rfl rfl rfl rfl ?_
    refine x_1 (p' := 8) hC rfl rfl rfl rfl ?_
    refine y_ld (p' := 9) (L := 15568) hO hC rfl rfl rfl rfl (by omega) (by omega) ?_
    refine x_icge (p' := 10) hC rfl rfl (fun c9 => ?_) (fun c9 => ?_)
    · refine x_1 (p' := 73) hC rfl rfl rfl rfl ?_
      refine x_iret hC rfl rfl rfl ⟨_, rfl, ?_⟩
      refine eqK K ?_
      rw [hI2, show u = X 1 7 by omega]; rfl
    · refine x_1 (p' := 11) hC rfl rfl rfl rfl ?_
      refine x_1 (p' := 12) hC rfl rfl rfl rfl ?_
      refine x_1 (p' := 13) hC rfl rfl rfl rfl ?_
      refine x_cIV2 (p' := 14) (n := 5) hC rfl rfl rfl rfl rfl (hO.ty) ?_
      refine sp_m_fr hO (by omega) (by omega) ?_
      refine x_1 (p' := 15) hC rfl rfl rfl rfl ?_
      refine x_icne (p' := 16) hC rfl rfl (fun c15 => ?_) (fun c15 => ?_)
      · refine x_1 (p' := 28) hC rfl rfl rfl rfl ?_
        refine x_stI3 (p' := 29) hC rfl rfl rfl ?_
        refine x_1 (p' := 30) hC rfl rfl rfl rfl ?_
        refine x_iflt (p' := 31) hC rfl rfl (fun c30 => ?_) (fun c30 => ?_)
        · refine x_1 (p' := 59) hC rfl rfl rfl rfl ?_
          refine x_1 (p' := 61) hC rfl rfl rfl rfl ?_
          refine x_stI4 (p' := 62) hC rfl rfl rfl ?_
          refine x_1 (p' := 63) hC rfl rfl rfl rfl ?_
          refine x_ifeq (p' := 64) hC rfl rfl (fun _ => ?_) (fun c => absurd c (by decide))
          refine x_1 (p' := 69) hC rfl rfl rfl rfl ?_
          refine x_stI1 (p' := 70) hC rfl rfl rfl ?_
          refine x_inc2 (p' := 71) hC rfl rfl (⟨by omega, by omega⟩) ?_
          refine x_1 (p' := 4) hC rfl rfl rfl rfl ?_
          exact ih _ _ _ _ (by omega) (by omega) (by omega) (by rw [fI_succ (by omega), ← hI2]; first | rw [cif_t (by omega)] | rw [cif_f (by omega)])
        · refine x_1 (p' := 32) hC rfl rfl rfl rfl ?_
          refine x_1 (p' := 33) hC rfl rfl rfl rfl ?_
          refine x_1 (p' := 34) hC rfl rfl rfl rfl ?_
          refine x_cIV2 (p' := 35) (n := 5) hC rfl rfl rfl rfl rfl (hO.ty) ?_
          refine sp_m_fr hO (by omega) (by omega) ?_
          refine x_1 (p' := 36) hC rfl rfl rfl rfl ?_
          refine x_1 (p' := 37) hC rfl rfl rfl rfl ?_
          refine x_1 (p' := 38) hC rfl rfl rfl rfl ?_
          refine x_cIV2 (p' := 39) (n := 5) hC rfl rfl rfl rfl rfl (hO.ty) ?_
          refine sp_m_fr hO (by omega) (by omega) ?_
          refine x_iclt (p' := 40) hC rfl rfl (fun c39 => ?_) (fun c39 => ?_)
          · refine x_1 (p' := 59) hC rfl rfl rfl rfl ?_
            refine x_1 (p' := 61) hC rfl rfl rfl rfl ?_
            refine x_stI4 (p' := 62) hC rfl rfl rfl ?_
            refine x_1 (p' := 63) hC rfl rfl rfl rfl ?_
            refine x_ifeq (p' := 64) hC rfl rfl (fun _ => ?_) (fun c => absurd c (by decide))
            refine x_1 (p' := 69) hC rfl rfl rfl rfl ?_
            refine x_stI1 (p' := 70) hC rfl rfl rfl ?_
            refine x_inc2 (p' := 71) hC rfl rfl (⟨by omega, by omega⟩) ?_
            refine x_1 (p' := 4) hC rfl rfl rfl rfl ?_
            exact ih _ _ _ _ (by omega) (by omega) (by omega) (by rw [fI_succ (by omega), ← hI2]; first | rw [cif_t (by omega)] | rw [cif_f (by omega)])
          · refine x_1 (p' := 41) hC rfl rfl rfl rfl ?_
            refine x_1 (p' := 42) hC rfl rfl rfl rfl ?_
            refine x_1 (p' := 43) hC rfl rfl rfl rfl ?_
            refine x_cIV2 (p' := 44) (n := 5) hC rfl rfl rfl rfl rfl (hO.ty) ?_
            refine sp_m_fr hO (by omega) (by omega) ?_
            refine x_1 (p' := 45) hC rfl rfl rfl rfl ?_
            refine x_1 (p' := 46) hC rfl rfl rfl rfl ?_
            refine x_1 (p' := 47) hC rfl rfl rfl rfl ?_
            refine x_cIV2 (p' := 48) (n := 5) hC rfl rfl rfl rfl rfl (hO.ty) ?_
            refine sp_m_fr hO (by omega) (by omega) ?_
            refine x_icne (p' := 49) hC rfl rfl (fun c48 => ?_) (fun c48 => ?_)
            · refine x_1 (p' := 61) hC rfl rfl rfl rfl ?_
              refine x_stI4 (p' := 62) hC rfl rfl rfl ?_
              refine x_1 (p' := 63) hC rfl rfl rfl rfl ?_
              refine x_ifeq (p' := 64) hC rfl rfl (fun _ => ?_) (fun c => absurd c (by decide))
              refine x_1 (p' := 69) hC rfl rfl rfl rfl ?_
              refine x_stI1 (p' := 70) hC rfl rfl rfl ?_
              refine x_inc2 (p' := 71) hC rfl rfl (⟨by omega, by omega⟩) ?_
              refine x_1 (p' := 4) hC rfl rfl rfl rfl ?_
              exact ih _ _ _ _ (by omega) (by omega) (by omega) (by rw [fI_succ (by omega), ← hI2]; first | rw [cif_t (by omega)] | rw [cif_f (by omega)])
            · refine x_1 (p' := 50) hC rfl rfl rfl rfl ?_
              refine x_1 (p' := 51) hC rfl rfl rfl rfl ?_
              refine x_1 (p' := 52) hC rfl rfl rfl rfl ?_
              refine x_cIV2 (p' := 53) (n := 5) hC rfl rfl rfl rfl rfl (hO.ty) ?_
              refine sp_m_fr hO (by omega) (by omega) ?_
              refine x_1 (p' := 54) hC rfl rfl rfl rfl ?_
              refine x_1 (p' := 55) hC rfl rfl rfl rfl ?_
              refine x_1 (p' := 56) hC rfl rfl rfl rfl ?_
              refine x_cIV2 (p' := 57) (n := 5) hC rfl rfl rfl rfl rfl (hO.ty) ?_
              refine sp_m_fr hO (by omega) (by omega) ?_
              refine x_icge (p' := 58) hC rfl rfl (fun c57 => ?_) (fun c57 => ?_)
              · refine x_1 (p' := 61) hC rfl rfl rfl rfl ?_
                refine x_stI4 (p' := 62) hC rfl rfl rfl ?_
                refine x_1 (p' := 63) hC rfl rfl rfl rfl ?_
                refine x_ifeq (p' := 64) hC rfl rfl (fun _ => ?_) (fun c => absurd c (by decide))
                refine x_1 (p' := 69) hC rfl rfl rfl rfl ?_
                refine x_stI1 (p' := 70) hC rfl rfl rfl ?_
                refine x_inc2 (p' := 71) hC rfl rfl (⟨by omega, by omega⟩) ?_
                refine x_1 (p' := 4) hC rfl rfl rfl rfl ?_
                exact ih _ _ _ _ (by omega) (by omega) (by omega) (by rw [fI_succ (by omega), ← hI2]; first | rw [cif_t (by omega)] | rw [cif_f (by omega)])
              · refine x_1 (p' := 59) hC rfl rfl rfl rfl ?_
                refine x_1 (p' := 61) hC rfl rfl rfl rfl ?_
                refine x_stI4 (p' := 62) hC rfl rfl rfl ?_
                refine x_1 (p' := 63) hC rfl rfl rfl rfl ?_
                refine x_ifeq (p' := 64) hC rfl rfl (fun _ => ?_) (fun c => absurd c (by decide))
                refine x_1 (p' := 69) hC rfl rfl rfl rfl ?_
                refine x_stI1 (p' := 70) hC rfl rfl rfl ?_
                refine x_inc2 (p' := 71) hC rfl rfl (⟨by omega, by omega⟩) ?_
                refine x_1 (p' := 4) hC rfl rfl rfl rfl ?_
                exact ih _ _ _ _ (by omega) (by omega) (by omega) (by rw [fI_succ (by omega), ← hI2]; first | rw [cif_t (by omega)] | rw [cif_f (by omega)])
      · refine x_1 (p' := 17) hC rfl rfl rfl rfl ?_
        refine x_1 (p' := 18) hC rfl rfl rfl rfl ?_
        refine x_1 (p' := 19) hC rfl rfl rfl rfl ?_
        refine x_cIV2 (p' := 20) (n := 5) hC rfl rfl rfl rfl rfl (hO.ty) ?_
        refine sp_m_fr hO (by omega) (by omega) ?_
        refine x_1 (p' := 21) hC rfl rfl rfl rfl ?_
        refine y_gR (p' := 22) (n := 1) hO hC rfl rfl rfl rfl ?_
        refine x_1 (p' := 23) hC rfl rfl rfl rfl ?_
        refine y_ld (p' := 24) (L := 15568) hO hC rfl rfl rfl rfl (by omega) (by omega) ?_
        refine x_icgt (p' := 25) hC rfl rfl (fun c24 => ?_) (fun c24 => ?_)
        · refine x_1 (p' := 28) hC rfl rfl rfl rfl ?_
          refine x_stI3 (p' := 29) hC rfl rfl rfl ?_
          refine x_1 (p' := 30) hC rfl rfl rfl rfl ?_
          refine x_iflt (p' := 31) hC rfl rfl (fun c30 => ?_) (fun c30 => ?_)
          · refine x_1 (p' := 59) hC rfl rfl rfl rfl ?_
            refine x_1 (p' := 61) hC rfl rfl rfl rfl ?_
            refine x_stI4 (p' := 62) hC rfl rfl rfl ?_
            refine x_1 (p' := 63) hC rfl rfl rfl rfl ?_
            refine x_ifeq (p' := 64) hC rfl rfl (fun _ => ?_) (fun c => absurd c (by decide))
            refine x_1 (p' := 69) hC rfl rfl rfl rfl ?_
            refine x_stI1 (p' := 70) hC rfl rfl rfl ?_
            refine x_inc2 (p' := 71) hC rfl rfl (⟨by omega, by omega⟩) ?_
            refine x_1 (p' := 4) hC rfl rfl rfl rfl ?_
            exact ih _ _ _ _ (by omega) (by omega) (by omega) (by rw [fI_succ (by omega), ← hI2]; first | rw [cif_t (by omega)] | rw [cif_f (by omega)])
          · refine x_1 (p' := 32) hC rfl rfl rfl rfl ?_
            refine x_1 (p' := 33) hC rfl rfl rfl rfl ?_
            refine x_1 (p' := 34) hC rfl rfl rfl rfl ?_
            refine x_cIV2 (p' := 35) (n := 5) hC rfl rfl rfl rfl rfl (hO.ty) ?_
            refine sp_m_fr hO (by omega) (by omega) ?_
            refine x_1 (p' := 36) hC rfl rfl rfl rfl ?_
            refine x_1 (p' := 37) hC rfl rfl rfl rfl ?_
            refine x_1 (p' := 38) hC rfl rfl rfl rfl ?_
            refine x_cIV2 (p' := 39) (n := 5) hC rfl rfl rfl rfl rfl (hO.ty) ?_
            refine sp_m_fr hO (by omega) (by omega) ?_
            refine x_iclt (p' := 40) hC rfl rfl (fun c39 => ?_) (fun c39 => ?_)
            · refine x_1 (p' := 59) hC rfl rfl rfl rfl ?_
              refine x_1 (p' := 61) hC rfl rfl rfl rfl ?_
              refine x_stI4 (p' := 62) hC rfl rfl rfl ?_
              refine x_1 (p' := 63) hC rfl rfl rfl rfl ?_
              refine x_ifeq (p' := 64) hC rfl rfl (fun _ => ?_) (fun c => absurd c (by decide))
              refine x_1 (p' := 69) hC rfl rfl rfl rfl ?_
              refine x_stI1 (p' := 70) hC rfl rfl rfl ?_
              refine x_inc2 (p' := 71) hC rfl rfl (⟨by omega, by omega⟩) ?_
              refine x_1 (p' := 4) hC rfl rfl rfl rfl ?_
              exact ih _ _ _ _ (by omega) (by omega) (by omega) (by rw [fI_succ (by omega), ← hI2]; first | rw [cif_t (by omega)] | rw [cif_f (by omega)])
            · refine x_1 (p' := 41) hC rfl rfl rfl rfl ?_
              refine x_1 (p' := 42) hC rfl rfl rfl rfl ?_
              refine x_1 (p' := 43) hC rfl rfl rfl rfl ?_
              refine x_cIV2 (p' := 44) (n := 5) hC rfl rfl rfl rfl rfl (hO.ty) ?_
              refine sp_m_fr hO (by omega) (by omega) ?_
              refine x_1 (p' := 45) hC rfl rfl rfl rfl ?_
              refine x_1 (p' := 46) hC rfl rfl rfl rfl ?_
              refine x_1 (p' := 47) hC rfl rfl rfl rfl ?_
              refine x_cIV2 (p' := 48) (n := 5) hC rfl rfl rfl rfl rfl (hO.ty) ?_
              refine sp_m_fr hO (by omega) (by omega) ?_
              refine x_icne (p' := 49) hC rfl rfl (fun c48 => ?_) (fun c48 => ?_)
              · refine x_1 (p' := 61) hC rfl rfl rfl rfl ?_
                refine x_stI4 (p' := 62) hC rfl rfl rfl ?_
                refine x_1 (p' := 63) hC rfl rfl rfl rfl ?_
                refine x_ifeq (p' := 64) hC rfl rfl (fun _ => ?_) (fun c => absurd c (by decide))
                refine x_1 (p' := 69) hC rfl rfl rfl rfl ?_
                refine x_stI1 (p' := 70) hC rfl rfl rfl ?_
                refine x_inc2 (p' := 71) hC rfl rfl (⟨by omega, by omega⟩) ?_
                refine x_1 (p' := 4) hC rfl rfl rfl rfl ?_
                exact ih _ _ _ _ (by omega) (by omega) (by omega) (by rw [fI_succ (by omega), ← hI2]; first | rw [cif_t (by omega)] | rw [cif_f (by omega)])
              · refine x_1 (p' := 50) hC rfl rfl rfl rfl ?_
                refine x_1 (p' := 51) hC rfl rfl rfl rfl ?_
                refine x_1 (p' := 52) hC rfl rfl rfl rfl ?_
                refine x_cIV2 (p' := 53) (n := 5) hC rfl rfl rfl rfl rfl (hO.ty) ?_
                refine sp_m_fr hO (by omega) (by omega) ?_
                refine x_1 (p' := 54) hC rfl rfl rfl rfl ?_
                refine x_1 (p' := 55) hC rfl rfl rfl rfl ?_
                refine x_1 (p' := 56) hC rfl rfl rfl rfl ?_
                refine x_cIV2 (p' := 57) (n := 5) hC rfl rfl rfl rfl rfl (hO.ty) ?_
                refine sp_m_fr hO (by omega) (by omega) ?_
                refine x_icge (p' := 58) hC rfl rfl (fun c57 => ?_) (fun c57 => ?_)
                · refine x_1 (p' := 61) hC rfl rfl rfl rfl ?_
                  refine x_stI4 (p' := 62) hC rfl rfl rfl ?_
                  refine x_1 (p' := 63) hC rfl rfl rfl rfl ?_
                  refine x_ifeq (p' := 64) hC rfl rfl (fun _ => ?_) (fun c => absurd c (by decide))
                  refine x_1 (p' := 69) hC rfl rfl rfl rfl ?_
                  refine x_stI1 (p' := 70) hC rfl rfl rfl ?_
                  refine x_inc2 (p' := 71) hC rfl rfl (⟨by omega, by omega⟩) ?_
                  refine x_1 (p' := 4) hC rfl rfl rfl rfl ?_
                  exact ih _ _ _ _ (by omega) (by omega) (by omega) (by rw [fI_succ (by omega), ← hI2]; first | rw [cif_t (by omega)] | rw [cif_f (by omega)])
                · refine x_1 (p' := 59) hC rfl rfl rfl rfl ?_
                  refine x_1 (p' := 61) hC rfl rfl rfl rfl ?_
                  refine x_stI4 (p' := 62) hC rfl rfl rfl ?_
                  refine x_1 (p' := 63) hC rfl rfl rfl rfl ?_
                  refine x_ifeq (p' := 64) hC rfl rfl (fun _ => ?_) (fun c => absurd c (by decide))
                  refine x_1 (p' := 69) hC rfl rfl rfl rfl ?_
                  refine x_stI1 (p' := 70) hC rfl rfl rfl ?_
                  refine x_inc2 (p' := 71) hC rfl rfl (⟨by omega, by omega⟩) ?_
                  refine x_1 (p' := 4) hC rfl rfl rfl rfl ?_
                  exact ih _ _ _ _ (by omega) (by omega) (by omega) (by rw [fI_succ (by omega), ← hI2]; first | rw [cif_t (by omega)] | rw [cif_f (by omega)])
        · refine x_1 (p' := 26) hC rfl rfl rfl rfl ?_
          refine x_1 (p' := 28) hC rfl rfl rfl rfl ?_
          refine x_stI3 (p' := 29) hC rfl rfl rfl ?_
          refine x_1 (p' := 30) hC rfl rfl rfl rfl ?_
          refine x_iflt (p' := 31) hC rfl rfl (fun c30 => ?_) (fun c30 => ?_)
          · refine x_1 (p' := 59) hC rfl rfl rfl rfl ?_
            refine x_1 (p' := 61) hC rfl rfl rfl rfl ?_
            refine x_stI4 (p' := 62) hC rfl rfl rfl ?_
            refine x_1 (p' := 63) hC rfl rfl rfl rfl ?_
            refine x_ifeq (p' := 64) hC rfl rfl (fun c => absurd c (by decide)) (fun _ => ?_)
            refine x_1 (p' := 65) hC rfl rfl rfl rfl ?_
            refine x_ifeq (p' := 66) hC rfl rfl (fun c => absurd c (by decide)) (fun _ => ?_)
            refine x_1 (p' := 67) hC rfl rfl rfl rfl ?_
            refine x_1 (p' := 69) hC rfl rfl rfl rfl ?_
            refine x_stI1 (p' := 70) hC rfl rfl rfl ?_
            refine x_inc2 (p' := 71) hC rfl rfl (⟨by omega, by omega⟩) ?_
            refine x_1 (p' := 4) hC rfl rfl rfl rfl ?_
            exact ih _ _ _ _ (by omega) (by omega) (by omega) (by rw [fI_succ (by omega), ← hI2]; first | rw [cif_t (by omega)] | rw [cif_f (by omega)])
          · refine x_1 (p' := 32) hC rfl rfl rfl rfl ?_
            refine x_1 (p' := 33) hC rfl rfl rfl rfl ?_
            refine x_1 (p' := 34) hC rfl rfl rfl rfl ?_
            refine x_cIV2 (p' := 35) (n := 5) hC rfl rfl rfl rfl rfl (hO.ty) ?_
            refine sp_m_fr hO (by omega) (by omega) ?_
            refine x_1 (p' := 36) hC rfl rfl rfl rfl ?_
            refine x_1 (p' := 37) hC rfl rfl rfl rfl ?_
            refine x_1 (p' := 38) hC rfl rfl rfl rfl ?_
            refine x_cIV2 (p' := 39) (n := 5) hC rfl rfl rfl rfl rfl (hO.ty) ?_
            refine sp_m_fr hO (by omega) (by omega) ?_
            refine x_iclt (p' := 40) hC rfl rfl (fun c39 => ?_) (fun c39 => ?_)
            · refine x_1 (p' := 59) hC rfl rfl rfl rfl ?_
              refine x_1 (p' := 61) hC rfl rfl rfl rfl ?_
              refine x_stI4 (p' := 62) hC rfl rfl rfl ?_
              refine x_1 (p' := 63) hC rfl rfl rfl rfl ?_
              refine x_ifeq (p' := 64) hC rfl rfl (fun c => absurd c (by decide)) (fun _ => ?_)
              refine x_1 (p' := 65) hC rfl rfl rfl rfl ?_
              refine x_ifeq (p' := 66) hC rfl rfl (fun c => absurd c (by decide)) (fun _ => ?_)
              refine x_1 (p' := 67) hC rfl rfl rfl rfl ?_
              refine x_1 (p' := 69) hC rfl rfl rfl rfl ?_
              refine x_stI1 (p' := 70) hC rfl rfl rfl ?_
              refine x_inc2 (p' := 71) hC rfl rfl (⟨by omega, by omega⟩) ?_
              refine x_1 (p' := 4) hC rfl rfl rfl rfl ?_
              exact ih _ _ _ _ (by omega) (by omega) (by omega) (by rw [fI_succ (by omega), ← hI2]; first | rw [cif_t (by omega)] | rw [cif_f (by omega)])
            · refine x_1 (p' := 41) hC rfl rfl rfl rfl ?_
              refine x_1 (p' := 42) hC rfl rfl rfl rfl ?_
              refine x_1 (p' := 43) hC rfl rfl rfl rfl ?_
              refine x_cIV2 (p' := 44) (n := 5) hC rfl rfl rfl rfl rfl (hO.ty) ?_
              refine sp_m_fr hO (by omega) (by omega) ?_
              refine x_1 (p' := 45) hC rfl rfl rfl rfl ?_
              refine x_1 (p' := 46) hC rfl rfl rfl rfl ?_
              refine x_1 (p' := 47) hC rfl rfl rfl rfl ?_
              refine x_cIV2 (p' := 48) (n := 5) hC rfl rfl rfl rfl rfl (hO.ty) ?_
              refine sp_m_fr hO (by omega) (by omega) ?_
              refine x_icne (p' := 49) hC rfl rfl (fun c48 => ?_) (fun c48 => ?_)
              · refine x_1 (p' := 61) hC rfl rfl rfl rfl ?_
                refine x_stI4 (p' := 62) hC rfl rfl rfl ?_
                refine x_1 (p' := 63) hC rfl rfl rfl rfl ?_
                refine x_ifeq (p' := 64) hC rfl rfl (fun c => absurd c (by decide)) (fun _ => ?_)
                refine x_1 (p' := 65) hC rfl rfl rfl rfl ?_
                refine x_ifeq (p' := 66) hC rfl rfl (fun _ => ?_) (fun c => absurd c (by decide))
                refine x_1 (p' := 69) hC rfl rfl rfl rfl ?_
                refine x_stI1 (p' := 70) hC rfl rfl rfl ?_
                refine x_inc2 (p' := 71) hC rfl rfl (⟨by omega, by omega⟩) ?_
                refine x_1 (p' := 4) hC rfl rfl rfl rfl ?_
                exact ih _ _ _ _ (by omega) (by omega) (by omega) (by rw [fI_succ (by omega), ← hI2]; first | rw [cif_t (by omega)] | rw [cif_f (by omega)])
              · refine x_1 (p' := 50) hC rfl rfl rfl rfl ?_
                refine x_1 (p' := 51) hC rfl rfl rfl rfl ?_
                refine x_1 (p' := 52) hC rfl rfl rfl rfl ?_
                refine x_cIV2 (p' := 53) (n := 5) hC rfl rfl rfl rfl rfl (hO.ty) ?_
                refine sp_m_fr hO (by omega) (by omega) ?_
                refine x_1 (p' := 54) hC rfl rfl rfl rfl ?_
                refine x_1 (p' := 55) hC rfl rfl rfl rfl ?_
                refine x_1 (p' := 56) hC rfl rfl rfl rfl ?_
                refine x_cIV2 (p' := 57) (n := 5) hC rfl rfl rfl rfl rfl (hO.ty) ?_
                refine sp_m_fr hO (by omega) (by omega) ?_
                refine x_icge (p' := 58) hC rfl rfl (fun c57 => ?_) (fun c57 => ?_)
                · refine x_1 (p' := 61) hC rfl rfl rfl rfl ?_
                  refine x_stI4 (p' := 62) hC rfl rfl rfl ?_
                  refine x_1 (p' := 63) hC rfl rfl rfl rfl ?_
                  refine x_ifeq (p' := 64) hC rfl rfl (fun c => absurd c (by decide)) (fun _ => ?_)
                  refine x_1 (p' := 65) hC rfl rfl rfl rfl ?_
                  refine x_ifeq (p' := 66) hC rfl rfl (fun _ => ?_) (fun c => absurd c (by decide))
                  refine x_1 (p' := 69) hC rfl rfl rfl rfl ?_
                  refine x_stI1 (p' := 70) hC rfl rfl rfl ?_
                  refine x_inc2 (p' := 71) hC rfl rfl (⟨by omega, by omega⟩) ?_
                  refine x_1 (p' := 4) hC rfl rfl rfl rfl ?_
                  exact ih _ _ _ _ (by omega) (by omega) (by omega) (by rw [fI_succ (by omega), ← hI2]; first | rw [cif_t (by omega)] | rw [cif_f (by omega)])
                · refine x_1 (p' := 59) hC rfl rfl rfl rfl ?_
                  refine x_1 (p' := 61) hC rfl rfl rfl rfl ?_
                  refine x_stI4 (p' := 62) hC rfl rfl rfl ?_
                  refine x_1 (p' := 63) hC rfl rfl rfl rfl ?_
                  refine x_ifeq (p' := 64) hC rfl rfl (fun c => absurd c (by decide)) (fun _ => ?_)
                  refine x_1 (p' := 65) hC rfl rfl rfl rfl ?_
                  refine x_ifeq (p' := 66) hC rfl rfl (fun c => absurd c (by decide)) (fun _ => ?_)
                  refine x_1 (p' := 67) hC rfl rfl rfl rfl ?_
                  refine x_1 (p' := 69) hC rfl rfl rfl rfl ?_
                  refine x_stI1 (p' := 70) hC rfl rfl rfl ?_
                  refine x_inc2 (p' := 71) hC rfl rfl (⟨by omega, by omega⟩) ?_
                  refine x_1 (p' := 4) hC rfl rfl rfl rfl ?_
                  exact ih _ _ _ _ (by omega) (by omega) (by omega) (by rw [fI_succ (by omega), ← hI2]; first | rw [cif_t (by omega)] | rw [cif_f (by omega)])
set_option maxRecDepth 20000 in
theorem sp_m_nextFrame {d : Nat} {m : Nat} {h : HP} (hO : RO m h) {X : Nat → Int → Int} (hs : RI (X 1)) {Q : Int → HP → Prop} (K : Q (rNext (X 1)) (wX m h X)) : CaI (d + 1) 54 [.inr (some m)] (wX m h X) Q := by
  have hC : cod 54 = c_m_nextFrame := rfl
  refine CaI.start rfl ?_
  have hs2 := hs.2.2.1
  refine x_1 (p' := 1) hC rfl rfl rfl rfl ?_
  refine x_stI1 (p' := 2) hC rfl rfl rfl ?_
  refine x_1 (p' := 3) hC rfl rfl rfl rfl ?_
  refine x_stI2 (p' := 4) hC rfl rfl rfl ?_
  exact lp_m_nextFrame hO hs K _ _ _ _ _ (Nat.lt_succ_self _) (by omega) (by omega) rfl
set_option maxRecDepth 20000 in
theorem lp_m_allOnWay {d : Nat} {m : Nat} {h : HP} (hO : RO m h) {X : Nat → Int → Int} (hs : RI (X 1)) {Q : Int → HP → Prop} (K : Q (rAllWay (X 1)) (wX m h X)) (k : Nat) : ∀ (n : Int) (u : Int), (X 1 7 - u).toNat < k → (0 ≤ u ∧ u ≤ X 1 7) → (0 ≤ n ∧ n ≤ u) → (n = fI u (fun f n => n + b2i (rFr (X 1) f 0 = 1)) 0) → At (d + 1) 56 4 [some (.inr (some m)), some (.inl n), some (.inl u)] [] (wX m h X) (fun v h' => ∃ x, v = some (.inl x) ∧ Q x h') := by
  have hC : cod 56 = c_m_allOnWay := rfl
  induction k with
  | zero =>
    intro n u hk
    exact absurd hk (Nat.not_lt_zero _)
  | succ k ih =>
    intro n u hk hI0 hI1 hI2
    have hs2 := hs.2.2.1
    refine x_1 (p' := 5) hC rfl rfl rfl rfl ?_
    refine x_1 (p' := 6) hC rfl rfl rfl rfl ?_
    refine y_gR (p' := 7) (n := 1) hO hC rfl rfl rfl rfl ?_
    refine x_1 (p' := 8) hC rfl rfl rfl rfl ?_
    refine y_ld (p' := 9) (L := 15568) hO hC rfl rfl rfl rfl (by omega) (by omega) ?_
    refine x_icge (p' := 10) hC rfl rfl (fun c9 => ?_) (fun c9 => ?_)
    · refine x_1 (p' := 25) hC rfl rfl rfl rfl ?_
      refine x_iret hC rfl rfl rfl ⟨_, rfl, ?_⟩
      refine eqK K ?_
      rw [hI2, show u = X 1 7 by omega]; rfl
    · refine x_1 (p' := 11) hC rfl rfl rfl rfl ?_
      refine x_1 (p' := 12) hC rfl rfl rfl rfl ?_
      refine x_1 (p' := 13) hC rfl rfl rfl rfl ?_
      refine x_1 (p' := 14) hC rfl rfl rfl rfl ?_
      refine x_cIV2 (p' := 15) (n := 5) hC rfl rfl rfl rfl rfl (hO.ty) ?_
      refine sp_m_fr hO (by omega) (by omega) ?_
      refine x_1 (p' := 16) hC rfl rfl rfl rfl ?_
      refine x_icne (p' := 17) hC rfl rfl (fun c16 => ?_) (fun c16 => ?_)
      · refine x_1 (p' := 20) hC rfl rfl rfl rfl ?_
        refine x_add (p' := 21) hC rfl rfl rfl (⟨by omega, by omega⟩) ?_
        refine x_stI1 (p' := 22) hC rfl rfl rfl ?_
        refine x_inc2 (p' := 23) hC rfl rfl (⟨by omega, by omega⟩) ?_
        refine x_1 (p' := 4) hC rfl rfl rfl rfl ?_
        exact ih _ _ (by omega) (by omega) (by omega) (by rw [fI_succ (by omega), ← hI2]; first | (rw [b2i_t (by omega)]) | (rw [b2i_f (by omega)]))
      · refine x_1 (p' := 18) hC rfl rfl rfl rfl ?_
        refine x_1 (p' := 20) hC rfl rfl rfl rfl ?_
        refine x_add (p' := 21) hC rfl rfl rfl (⟨by omega, by omega⟩) ?_
        refine x_stI1 (p' := 22) hC rfl rfl rfl ?_
        refine x_inc2 (p' := 23) hC rfl rfl (⟨by omega, by omega⟩) ?_
        refine x_1 (p' := 4) hC rfl rfl rfl rfl ?_
        exact ih _ _ (by omega) (by omega) (by omega) (by rw [fI_succ (by omega), ← hI2]; first | (rw [b2i_t (by omega)]) | (rw [b2i_f (by omega)]))
set_option maxRecDepth 20000 in
theorem sp_m_allOnWay {d : Nat} {m : Nat} {h : HP} (hO : RO m h) {X : Nat → Int → Int} (hs : RI (X 1)) {Q : Int → HP → Prop} (K : Q (rAllWay (X 1)) (wX m h X)) : CaI (d + 1) 56 [.inr (some m)] (wX m h X) Q := by
  have hC : cod 56 = c_m_allOnWay := rfl
  refine CaI.start rfl ?_
  have hs2 := hs.2.2.1
  refine x_1 (p' := 1) hC rfl rfl rfl rfl ?_
  refine x_stI1 (p' := 2) hC rfl rfl rfl ?_
  refine x_1 (p' := 3) hC rfl rfl rfl rfl ?_
  refine x_stI2 (p' := 4) hC rfl rfl rfl ?_
  exact lp_m_allOnWay hO hs K _ _ _ (Nat.lt_succ_self _) (by omega) (by omega) rfl
set_option maxRecDepth 20000 in
theorem lp_m_sumOf {d : Nat} {m : Nat} {h : HP} (hO : RO m h) {X : Nat → Int → Int} (hs : RI (X 1)) {w : Int} (hw : 0 ≤ w ∧ w < 10) {Q : Int → HP → Prop} (K : Q (rSum (X 1) w) (wX m h X)) (k : Nat) : ∀ (n : Int) (u : Int), (X 1 0 - u).toNat < k → (0 ≤ u ∧ u ≤ X 1 0) → (n = fI u (fun h n => wr (n + rOf (X 1) h w)) 0) → At (d + 1) 68 4 [some (.inr (some m)), some (.inl w), some (.inl n), some (.inl u)] [] (wX m h X) (fun v h' => ∃ x, v = some (.inl x) ∧ Q x h') := by
  have hC : cod 68 = c_m_sumOf := rfl
  induction k with
  | zero =>
    intro n u hk
    exact absurd hk (Nat.not_lt_zero _)
  | succ k ih =>
    intro n u hk hI0 hI1
    have hs2 := hs.1
    refine x_1 (p' := 5) hC rfl rfl rfl rfl ?_
    refine x_1 (p' := 6) hC rfl rfl rfl rfl ?_
    refine y_gR (p' := 7) (n := 1) hO hC rfl rfl rfl rfl ?_
    refine x_1 (p' := 8) hC rfl rfl rfl rfl ?_
    refine y_ld (p' := 9) (L := 15568) hO hC rfl rfl rfl rfl (by omega) (by omega) ?_
    refine x_icge (p' := 10) hC rfl rfl (fun c9 => ?_) (fun c9 => ?_)
    · refine x_1 (p' := 20) hC rfl rfl rfl rfl ?_
      refine x_iret hC rfl rfl rfl ⟨_, rfl, ?_⟩
      refine eqK K ?_
      rw [hI1, show u = X 1 0 by omega]; rfl
    · refine x_1 (p' := 11) hC rfl rfl rfl rfl ?_
      refine x_1 (p' := 12) hC rfl rfl rfl rfl ?_
      refine x_1 (p' := 13) hC rfl rfl rfl rfl ?_
      refine x_1 (p' := 14) hC rfl rfl rfl rfl ?_
      refine x_cIV2 (p' := 15) (n := 3) hC rfl rfl rfl rfl rfl (hO.ty) ?_
      refine sp_m_of hO (by omega) (by omega) ?_
      refine x_1 (p' := 16) hC rfl rfl rfl rfl ?_
      refine x_stI2 (p' := 17) hC rfl rfl rfl ?_
      refine x_inc3 (p' := 18) hC rfl rfl (⟨by omega, by omega⟩) ?_
      refine x_1 (p' := 4) hC rfl rfl rfl rfl ?_
      exact ih _ _ (by omega) (by omega) (by rw [fI_succ (by omega), ← hI1])
set_option maxRecDepth 20000 in
theorem sp_m_sumOf {d : Nat} {m : Nat} {h : HP} (hO : RO m h) {X : Nat → Int → Int} (hs : RI (X 1)) {w : Int} (hw : 0 ≤ w ∧ w < 10) {Q : Int → HP → Prop} (K : Q (rSum (X 1) w) (wX m h X)) : CaI (d + 1) 68 [.inr (some m), .inl w] (wX m h X) Q := by
  have hC : cod 68 = c_m_sumOf := rfl
  refine CaI.start rfl ?_
  have hs2 := hs.1
  refine x_1 (p' := 1) hC rfl rfl rfl rfl ?_
  refine x_stI2 (p' := 2) hC rfl rfl rfl ?_
  refine x_1 (p' := 3) hC rfl rfl rfl rfl ?_
  refine x_stI3 (p' := 4) hC rfl rfl rfl ?_
  exact lp_m_sumOf hO hs hw K _ _ _ (Nat.lt_succ_self _) (by omega) rfl
set_option maxRecDepth 20000 in
theorem lp_m_ones {d : Nat} {h : HP} {v : Int} {Q : Int → HP → Prop} (K : Q (rOnes v) h) (k : Nat) : ∀ (n : Int) (u : Int), (10 - u).toNat < k → (0 ≤ u ∧ u ≤ 10) → (0 ≤ n ∧ n ≤ u) → (n = fI u (fun k n => n + oAnd (oShr v k) 1) 0) → At (d) 62 4 [some (.inl v), some (.inl n), some (.inl u)] [] h (fun v h' => ∃ x, v = some (.inl x) ∧ Q x h') := by
  have hC : cod 62 = c_m_ones := rfl
  induction k with
  | zero =>
    intro n u hk
    exact absurd hk (Nat.not_lt_zero _)
  | succ k ih =>
    intro n u hk hI0 hI1 hI2
    refine x_1 (p' := 5) hC rfl rfl rfl rfl ?_
    refine x_1 (p' := 6) hC rfl rfl rfl rfl ?_
    refine x_icge (p' := 7) hC rfl rfl (fun c6 => ?_) (fun c6 => ?_)
    · refine x_1 (p' := 18) hC rfl rfl rfl rfl ?_
      refine x_iret hC rfl rfl rfl ⟨_, rfl, ?_⟩
      refine eqK K ?_
      rw [hI2, show u = 10 by omega]; rfl
    · refine x_1 (p' := 8) hC rfl rfl rfl rfl ?_
      refine x_1 (p' := 9) hC rfl rfl rfl rfl ?_
      refine x_1 (p' := 10) hC rfl rfl rfl rfl ?_
      refine x_1 (p' := 11) hC rfl rfl rfl rfl ?_
      refine x_1 (p' := 12) hC rfl rfl rfl rfl ?_
      refine x_1 (p' := 13) hC rfl rfl rfl rfl ?_
      have h1 := oAnd_1 (oShr v u)
      refine x_add (p' := 14) hC rfl rfl rfl (⟨by omega, by omega⟩) ?_
      refine x_stI1 (p' := 15) hC rfl rfl rfl ?_
      refine x_inc2 (p' := 16) hC rfl rfl (⟨by omega, by omega⟩) ?_
      refine x_1 (p' := 4) hC rfl rfl rfl rfl ?_
      exact ih _ _ (by omega) (by omega) (by omega) (by rw [fI_succ (by omega), ← hI2])
set_option maxRecDepth 20000 in
theorem sp_m_ones {d : Nat} {h : HP} {v : Int} {Q : Int → HP → Prop} (K : Q (rOnes v) h) : CaI d 62 [.inl v] h Q := by
  have hC : cod 62 = c_m_ones := rfl
  refine CaI.start rfl ?_
  refine x_1 (p' := 1) hC rfl rfl rfl rfl ?_
  refine x_stI1 (p' := 2) hC rfl rfl rfl ?_
  refine x_1 (p' := 3) hC rfl rfl rfl rfl ?_
  refine x_stI2 (p' := 4) hC rfl rfl rfl ?_
  exact lp_m_ones K _ _ _ (Nat.lt_succ_self _) (by omega) (by omega) rfl
end
section
/-! the reference's copies of its row -/
/-- the first 15568 places of array i are g's -/
def cpX (X : Nat → Int → Int) (i : Nat) (n : Int) (g : Int → Int) : Nat → Int → Int := fun a b => if a = i ∧ 0 ≤ b ∧ b < n then g b else X a b
theorem cpX_0 {X : Nat → Int → Int} {i : Nat} {g : Int → Int} : cpX X i 0 g = X := by funext a b; unfold cpX; rw [if_neg (by omega)]
theorem cpX_succ {X : Nat → Int → Int} {i : Nat} {n : Int} {g : Int → Int} (hn : 0 ≤ n) : upX (cpX X i n g) i n (g n) = cpX X i (n + 1) g := by
  funext a b
  unfold upX cpX
  by_cases h1 : a = i ∧ b = n
  · obtain ⟨rfl, rfl⟩ := h1
    rw [if_pos ⟨rfl, rfl⟩, if_pos ⟨rfl, hn, by omega⟩]
  · rw [if_neg h1]
    by_cases h2 : a = i ∧ 0 ≤ b ∧ b < n
    · rw [if_pos h2, if_pos ⟨h2.1, h2.2.1, by omega⟩]
    · rw [if_neg h2, if_neg (fun q => by
        by_cases h3 : b = n
        · exact h1 ⟨q.1, h3⟩
        · exact h2 ⟨q.1, q.2.1, by omega⟩)]
theorem cpX_ne {X : Nat → Int → Int} {i a : Nat} {n : Int} {g : Int → Int} (h : a ≠ i) : cpX X i n g a = X a := by funext b; unfold cpX; rw [if_neg (fun q => h q.1)]
set_option maxRecDepth 20000 in
theorem lp_m_keeps {d : Nat} {m : Nat} {h : HP} (hO : RO m h) {X : Nat → Int → Int} {Q : HP → Prop} (K : Q (wX m h (cpX X 3 15568 (X 1)))) (k : Nat) : ∀ (i : Int), (15568 - i).toNat < k → (0 ≤ i ∧ i ≤ 15568) → At (d) 10 2 [some (.inr (some m)), some (.inl i)] [] (wX m h (cpX X 3 i (X 1))) (fun v h' => v = none ∧ Q h') := by
  have hC : cod 10 = c_m_keeps := rfl
  induction k with
  | zero =>
    intro i hk
    exact absurd hk (Nat.not_lt_zero _)
  | succ k ih =>
    intro i hk hI0
    refine x_1 (p' := 3) hC rfl rfl rfl rfl ?_
    refine x_1 (p' := 4) hC rfl rfl rfl rfl ?_
    refine x_icge (p' := 5) hC rfl rfl (fun c4 => ?_) (fun c4 => ?_)
    · refine x_ret hC rfl rfl rfl ⟨rfl, ?_⟩
      rw [show i = 15568 by omega]; exact K
    · refine x_1 (p' := 6) hC rfl rfl rfl rfl ?_
      refine y_gR (p' := 7) (n := 3) hO hC rfl rfl rfl rfl ?_
      refine x_1 (p' := 8) hC rfl rfl rfl rfl ?_
      refine x_1 (p' := 9) hC rfl rfl rfl rfl ?_
      refine y_gR (p' := 10) (n := 1) hO hC rfl rfl rfl rfl ?_
      refine x_1 (p' := 11) hC rfl rfl rfl rfl ?_
      refine y_ld (p' := 12) (L := 15568) hO hC rfl rfl rfl rfl (by omega) (by omega) ?_
      refine y_st (p' := 13) (L := 15568) hO hC rfl rfl rfl rfl (by omega) (by omega) ?_
      refine x_inc1 (p' := 14) hC rfl rfl (⟨by omega, by omega⟩) ?_
      refine x_1 (p' := 2) hC rfl rfl rfl rfl ?_
      rw [show cpX X 3 i (X 1) 1 i = X 1 i from by rw [cpX_ne (by decide)], cpX_succ (by omega)]
      exact ih _ (by omega) (by omega)
set_option maxRecDepth 20000 in
theorem sp_m_keeps {d : Nat} {m : Nat} {h : HP} (hO : RO m h) {X : Nat → Int → Int} {Q : HP → Prop} (K : Q (wX m h (cpX X 3 15568 (X 1)))) : CaV d 10 [.inr (some m)] (wX m h X) Q := by
  have hC : cod 10 = c_m_keeps := rfl
  refine CaV.start rfl ?_
  refine x_1 (p' := 1) hC rfl rfl rfl rfl ?_
  refine x_stI1 (p' := 2) hC rfl rfl rfl ?_
  have e := lp_m_keeps (d := d) hO K _ 0 (Nat.lt_succ_self _) (by omega)
  rw [cpX_0] at e
  exact e
set_option maxRecDepth 20000 in
theorem lp_m_puts {d : Nat} {m : Nat} {h : HP} (hO : RO m h) {X : Nat → Int → Int} {Q : HP → Prop} (K : Q (wX m h (cpX X 4 15568 (X 1)))) (k : Nat) : ∀ (i : Int), (15568 - i).toNat < k → (0 ≤ i ∧ i ≤ 15568) → At (d) 12 2 [some (.inr (some m)), some (.inl i)] [] (wX m h (cpX X 4 i (X 1))) (fun v h' => v = none ∧ Q h') := by
  have hC : cod 12 = c_m_puts := rfl
  induction k with
  | zero =>
    intro i hk
    exact absurd hk (Nat.not_lt_zero _)
  | succ k ih =>
    intro i hk hI0
    refine x_1 (p' := 3) hC rfl rfl rfl rfl ?_
    refine x_1 (p' := 4) hC rfl rfl rfl rfl ?_
    refine x_icge (p' := 5) hC rfl rfl (fun c4 => ?_) (fun c4 => ?_)
    · refine x_ret hC rfl rfl rfl ⟨rfl, ?_⟩
      rw [show i = 15568 by omega]; exact K
    · refine x_1 (p' := 6) hC rfl rfl rfl rfl ?_
      refine y_gR (p' := 7) (n := 4) hO hC rfl rfl rfl rfl ?_
      refine x_1 (p' := 8) hC rfl rfl rfl rfl ?_
      refine x_1 (p' := 9) hC rfl rfl rfl rfl ?_
      refine y_gR (p' := 10) (n := 1) hO hC rfl rfl rfl rfl ?_
      refine x_1 (p' := 11) hC rfl rfl rfl rfl ?_
      refine y_ld (p' := 12) (L := 15568) hO hC rfl rfl rfl rfl (by omega) (by omega) ?_
      refine y_st (p' := 13) (L := 15568) hO hC rfl rfl rfl rfl (by omega) (by omega) ?_
      refine x_inc1 (p' := 14) hC rfl rfl (⟨by omega, by omega⟩) ?_
      refine x_1 (p' := 2) hC rfl rfl rfl rfl ?_
      rw [show cpX X 4 i (X 1) 1 i = X 1 i from by rw [cpX_ne (by decide)], cpX_succ (by omega)]
      exact ih _ (by omega) (by omega)
set_option maxRecDepth 20000 in
theorem sp_m_puts {d : Nat} {m : Nat} {h : HP} (hO : RO m h) {X : Nat → Int → Int} {Q : HP → Prop} (K : Q (wX m h (cpX X 4 15568 (X 1)))) : CaV d 12 [.inr (some m)] (wX m h X) Q := by
  have hC : cod 12 = c_m_puts := rfl
  refine CaV.start rfl ?_
  refine x_1 (p' := 1) hC rfl rfl rfl rfl ?_
  refine x_stI1 (p' := 2) hC rfl rfl rfl ?_
  have e := lp_m_puts (d := d) hO K _ 0 (Nat.lt_succ_self _) (by omega)
  rw [cpX_0] at e
  exact e
set_option maxRecDepth 20000 in
theorem lp_m_restores {d : Nat} {m : Nat} {h : HP} (hO : RO m h) {X : Nat → Int → Int} {Q : HP → Prop} (K : Q (wX m h (cpX X 1 15568 (X 4)))) (k : Nat) : ∀ (i : Int), (15568 - i).toNat < k → (0 ≤ i ∧ i ≤ 15568) → At (d) 13 2 [some (.inr (some m)), some (.inl i)] [] (wX m h (cpX X 1 i (X 4))) (fun v h' => v = none ∧ Q h') := by
  have hC : cod 13 = c_m_restores := rfl
  induction k with
  | zero =>
    intro i hk
    exact absurd hk (Nat.not_lt_zero _)
  | succ k ih =>
    intro i hk hI0
    refine x_1 (p' := 3) hC rfl rfl rfl rfl ?_
    refine x_1 (p' := 4) hC rfl rfl rfl rfl ?_
    refine x_icge (p' := 5) hC rfl rfl (fun c4 => ?_) (fun c4 => ?_)
    · refine x_ret hC rfl rfl rfl ⟨rfl, ?_⟩
      rw [show i = 15568 by omega]; exact K
    · refine x_1 (p' := 6) hC rfl rfl rfl rfl ?_
      refine y_gR (p' := 7) (n := 1) hO hC rfl rfl rfl rfl ?_
      refine x_1 (p' := 8) hC rfl rfl rfl rfl ?_
      refine x_1 (p' := 9) hC rfl rfl rfl rfl ?_
      refine y_gR (p' := 10) (n := 4) hO hC rfl rfl rfl rfl ?_
      refine x_1 (p' := 11) hC rfl rfl rfl rfl ?_
      refine y_ld (p' := 12) (L := 15568) hO hC rfl rfl rfl rfl (by omega) (by omega) ?_
      refine y_st (p' := 13) (L := 15568) hO hC rfl rfl rfl rfl (by omega) (by omega) ?_
      refine x_inc1 (p' := 14) hC rfl rfl (⟨by omega, by omega⟩) ?_
      refine x_1 (p' := 2) hC rfl rfl rfl rfl ?_
      rw [show cpX X 1 i (X 4) 4 i = X 4 i from by rw [cpX_ne (by decide)], cpX_succ (by omega)]
      exact ih _ (by omega) (by omega)
set_option maxRecDepth 20000 in
theorem sp_m_restores {d : Nat} {m : Nat} {h : HP} (hO : RO m h) {X : Nat → Int → Int} {Q : HP → Prop} (K : Q (wX m h (cpX X 1 15568 (X 4)))) : CaV d 13 [.inr (some m)] (wX m h X) Q := by
  have hC : cod 13 = c_m_restores := rfl
  refine CaV.start rfl ?_
  refine x_1 (p' := 1) hC rfl rfl rfl rfl ?_
  refine x_stI1 (p' := 2) hC rfl rfl rfl ?_
  have e := lp_m_restores (d := d) hO K _ 0 (Nat.lt_succ_self _) (by omega)
  rw [cpX_0] at e
  exact e
/-- the history's row moved down by one state -/
def shX (X : Nat → Int → Int) (n : Int) : Nat → Int → Int := fun a b => if a = 2 ∧ 0 ≤ b ∧ b < n then X 2 (b + 15568) else X a b
theorem shX_0 {X : Nat → Int → Int} : shX X 0 = X := by funext a b; unfold shX; rw [if_neg (by omega)]
theorem shX_succ {X : Nat → Int → Int} {n : Int} (hn : 0 ≤ n) : upX (shX X n) 2 n (X 2 (n + 15568)) = shX X (n + 1) := by
  funext a b
  unfold upX shX
  by_cases h1 : a = 2 ∧ b = n
  · obtain ⟨rfl, rfl⟩ := h1
    rw [if_pos ⟨rfl, rfl⟩, if_pos ⟨rfl, hn, by omega⟩]
  · rw [if_neg h1]
    by_cases h2 : a = 2 ∧ 0 ≤ b ∧ b < n
    · rw [if_pos h2, if_pos ⟨h2.1, h2.2.1, by omega⟩]
    · rw [if_neg h2, if_neg (fun q => by
        by_cases h3 : b = n
        · exact h1 ⟨q.1, h3⟩
        · exact h2 ⟨q.1, q.2.1, by omega⟩)]
/-- the state that was kept is laid behind the q states of the history -/
def laX (X : Nat → Int → Int) (q n : Int) : Nat → Int → Int := fun a b => if a = 2 ∧ 15568 * q ≤ b ∧ b < 15568 * q + n then X 3 (b - 15568 * q) else X a b
theorem laX_0 {X : Nat → Int → Int} {q : Int} : laX X q 0 = X := by funext a b; unfold laX; rw [if_neg (by omega)]
theorem laX_succ {X : Nat → Int → Int} {q n : Int} (hn : 0 ≤ n) : upX (laX X q n) 2 (15568 * q + n) (X 3 n) = laX X q (n + 1) := by
  funext a b
  unfold upX laX
  by_cases h1 : a = 2 ∧ b = 15568 * q + n
  · obtain ⟨rfl, rfl⟩ := h1
    rw [if_pos ⟨rfl, rfl⟩, if_pos ⟨rfl, by omega, by omega⟩]
    congr 1
    omega
  · rw [if_neg h1]
    by_cases h2 : a = 2 ∧ 15568 * q ≤ b ∧ b < 15568 * q + n
    · rw [if_pos h2, if_pos ⟨h2.1, h2.2.1, by omega⟩]
    · rw [if_neg h2, if_neg (fun z => by
        by_cases h3 : b = 15568 * q + n
        · exact h1 ⟨z.1, h3⟩
        · exact h2 ⟨z.1, z.2.1, by omega⟩)]
/-- what a recorded change does to the history: the oldest state goes if there are four -/
def acY (X : Nat → Int → Int) : Nat → Int → Int := if X 0 4 = 4 then upX (shX X 46704) 0 4 (X 0 4 - 1) else X
def acX (X : Nat → Int → Int) : Nat → Int → Int := upX (laX (acY X) (acY X 0 4) 15568) 0 4 (acY X 0 4 + 1)
set_option maxRecDepth 20000 in
theorem lp_m_acted1 {d : Nat} {m : Nat} {h : HP} (hO : RO m h) {X : Nat → Int → Int} {v : Int} {Q : Option AV → HP → Prop} (K : ∀ z, At d 11 24 [some (.inr (some m)), some (.inl v), z] [] (wX m h (shX X 46704)) Q) (k : Nat) : ∀ (i : Int), (46704 - i).toNat < k → (0 ≤ i ∧ i ≤ 46704) → At (d) 11 9 [some (.inr (some m)), some (.inl v), some (.inl i)] [] (wX m h (shX X i)) Q := by
  have hC : cod 11 = c_m_acted := rfl
  induction k with
  | zero =>
    intro i hk
    exact absurd hk (Nat.not_lt_zero _)
  | succ k ih =>
    intro i hk hI0
    refine x_1 (p' := 10) hC rfl rfl rfl rfl ?_
    refine x_ldc (p' := 11) (v := 46704) hC rfl rfl (by decide) ?_
    refine x_icge (p' := 12) hC rfl rfl (fun c11 => ?_) (fun c11 => ?_)
    · rw [show i = 46704 by omega]; exact K _
    · refine x_1 (p' := 13) hC rfl rfl rfl rfl ?_
      refine y_gR (p' := 14) (n := 2) hO hC rfl rfl rfl rfl ?_
      refine x_1 (p' := 15) hC rfl rfl rfl rfl ?_
      refine x_1 (p' := 16) hC rfl rfl rfl rfl ?_
      refine y_gR (p' := 17) (n := 2) hO hC rfl rfl rfl rfl ?_
      refine x_1 (p' := 18) hC rfl rfl rfl rfl ?_
      refine x_1 (p' := 19) hC rfl rfl rfl rfl ?_
      refine x_add (p' := 20) hC rfl rfl rfl (⟨by omega, by omega⟩) ?_
      refine y_ld (p' := 21) (L := 62272) hO hC rfl rfl rfl rfl (by omega) (by omega) ?_
      refine y_st (p' := 22) (L := 62272) hO hC rfl rfl rfl rfl (by omega) (by omega) ?_
      refine x_inc2 (p' := 23) hC rfl rfl (⟨by omega, by omega⟩) ?_
      refine x_1 (p' := 9) hC rfl rfl rfl rfl ?_
      rw [show shX X i 2 (i + 15568) = X 2 (i + 15568) by unfold shX; rw [if_neg (by omega)], shX_succ (by omega)]
      exact ih _ (by omega) (by omega)
set_option maxRecDepth 20000 in
theorem lp_m_acted2 {d : Nat} {m : Nat} {h : HP} (hO : RO m h) {X : Nat → Int → Int} {v : Int} (hq : 0 ≤ X 0 4 ∧ X 0 4 < 4) {Q : Int → HP → Prop} (K : Q v (wX m h (upX (laX X (X 0 4) 15568) 0 4 (X 0 4 + 1)))) (k : Nat) : ∀ (i : Int), (15568 - i).toNat < k → (0 ≤ i ∧ i ≤ 15568) → At (d) 11 32 [some (.inr (some m)), some (.inl v), some (.inl i)] [] (wX m h (laX X (X 0 4) i)) (fun v h' => ∃ x, v = some (.inl x) ∧ Q x h') := by
  have hC : cod 11 = c_m_acted := rfl
  induction k with
  | zero =>
    intro i hk
    exact absurd hk (Nat.not_lt_zero _)
  | succ k ih =>
    intro i hk hI0
    have e4 : laX X (X 0 4) i 0 4 = X 0 4 := by unfold laX; rw [if_neg (by omega)]
    have e3 : laX X (X 0 4) i 3 i = X 3 i := by unfold laX; rw [if_neg (by omega)]
    refine x_1 (p' := 33) hC rfl rfl rfl rfl ?_
    refine x_1 (p' := 34) hC rfl rfl rfl rfl ?_
    refine x_icge (p' := 35) hC rfl rfl (fun c34 => ?_) (fun c34 => ?_)
    · refine x_1 (p' := 51) hC rfl rfl rfl rfl ?_
      refine x_1 (p' := 52) hC rfl rfl rfl rfl ?_
      refine y_gI (p' := 53) (kz := 4) hO hC rfl rfl rfl rfl ?_
      refine x_1 (p' := 54) hC rfl rfl rfl rfl ?_
      refine x_add (p' := 55) hC rfl rfl rfl (⟨by omega, by omega⟩) ?_
      refine y_pI (p' := 56) (kz := 4) hO hC rfl rfl rfl rfl ?_
      refine x_1 (p' := 57) hC rfl rfl rfl rfl ?_
      refine x_iret hC rfl rfl rfl ⟨_, rfl, ?_⟩
      rw [e4, show i = 15568 by omega]
      exact K
    · refine x_1 (p' := 36) hC rfl rfl rfl rfl ?_
      refine y_gR (p' := 37) (n := 2) hO hC rfl rfl rfl rfl ?_
      refine x_1 (p' := 38) hC rfl rfl rfl rfl ?_
      refine x_1 (p' := 39) hC rfl rfl rfl rfl ?_
      refine y_gI (p' := 40) (kz := 4) hO hC rfl rfl rfl rfl ?_
      refine x_mul (p' := 41) hC rfl rfl rfl (⟨by omega, by omega⟩) ?_
      refine x_1 (p' := 42) hC rfl rfl rfl rfl ?_
      refine x_add (p' := 43) hC rfl rfl rfl (⟨by omega, by omega⟩) ?_
      refine x_1 (p' := 44) hC rfl rfl rfl rfl ?_
      refine y_gR (p' := 45) (n := 3) hO hC rfl rfl rfl rfl ?_
      refine x_1 (p' := 46) hC rfl rfl rfl rfl ?_
      refine y_ld (p' := 47) (L := 15568) hO hC rfl rfl rfl rfl (by omega) (by omega) ?_
      refine y_st (p' := 48) (L := 62272) hO hC rfl rfl rfl rfl (by omega) (by omega) ?_
      refine x_inc2 (p' := 49) hC rfl rfl (⟨by omega, by omega⟩) ?_
      refine x_1 (p' := 32) hC rfl rfl rfl rfl ?_
      rw [e4, e3, laX_succ (by omega)]
      exact ih _ (by omega) (by omega)
theorem acY_4 {X : Nat → Int → Int} (hq : 0 ≤ X 0 4 ∧ X 0 4 ≤ 4) : 0 ≤ acY X 0 4 ∧ acY X 0 4 < 4 := by
  unfold acY
  split
  · show 0 ≤ (if (0 : Nat) = 0 ∧ (4 : Int) = 4 then X 0 4 - 1 else _) ∧ (if (0 : Nat) = 0 ∧ (4 : Int) = 4 then X 0 4 - 1 else _) < 4
    rw [if_pos ⟨rfl, rfl⟩]
    omega
  · omega
set_option maxRecDepth 20000 in
theorem sp_m_acted {d : Nat} {m : Nat} {h : HP} (hO : RO m h) {X : Nat → Int → Int} {v : Int} (hq : 0 ≤ X 0 4 ∧ X 0 4 ≤ 4) {Q : Int → HP → Prop} (K1 : v ≤ -1000001 → Q v (wX m h X)) (K2 : -1000001 < v → Q v (wX m h (acX X))) : CaI d 11 [.inr (some m), .inl v] (wX m h X) Q := by
  have hC : cod 11 = c_m_acted := rfl
  refine CaI.start rfl ?_
  refine x_1 (p' := 1) hC rfl rfl rfl rfl ?_
  refine x_ldc (p' := 2) (v := (-1000001)) hC rfl rfl (by decide) ?_
  refine x_icle (p' := 3) hC rfl rfl (fun c2 => ?_) (fun c2 => ?_)
  · refine x_1 (p' := 57) hC rfl rfl rfl rfl ?_
    refine x_iret hC rfl rfl rfl ⟨_, rfl, ?_⟩
    exact K1 (by omega)
  · refine x_1 (p' := 4) hC rfl rfl rfl rfl ?_
    refine y_gI (p' := 5) (kz := 4) hO hC rfl rfl rfl rfl ?_
    refine x_1 (p' := 6) hC rfl rfl rfl rfl ?_
    refine x_icne (p' := 7) hC rfl rfl (fun c6 => ?_) (fun c6 => ?_)
    · refine x_1 (p' := 31) hC rfl rfl rfl rfl ?_
      refine x_stI2 (p' := 32) hC rfl rfl rfl ?_
      have e := lp_m_acted2 (d := d) (v := v) hO (X := acY X) (acY_4 hq) (Q := Q) (K2 (by omega)) _ 0 (Nat.lt_succ_self _) (by omega)
      rw [laX_0] at e
      unfold acY at e
      rw [if_neg (by omega)] at e
      exact e
    · refine x_1 (p' := 8) hC rfl rfl rfl rfl ?_
      refine x_stI2 (p' := 9) hC rfl rfl rfl ?_
      have e := lp_m_acted1 (d := d) (v := v) hO (X := X) (Q := (fun v h' => ∃ x, v = some (.inl x) ∧ Q x h')) ?_ _ 0 (Nat.lt_succ_self _) (by omega)
      · rw [shX_0] at e
        exact e
      · intro z
        have e4 : shX X 46704 0 4 = X 0 4 := by unfold shX; rw [if_neg (by omega)]
        refine x_1 (p' := 25) hC rfl rfl rfl rfl ?_
        refine x_1 (p' := 26) hC rfl rfl rfl rfl ?_
        refine y_gI (p' := 27) (kz := 4) hO hC rfl rfl rfl rfl ?_
        refine x_1 (p' := 28) hC rfl rfl rfl rfl ?_
        refine x_sub (p' := 29) hC rfl rfl rfl (⟨by omega, by omega⟩) ?_
        refine y_pI (p' := 30) (kz := 4) hO hC rfl rfl rfl rfl ?_
        refine x_1 (p' := 31) hC rfl rfl rfl rfl ?_
        refine x_stI2 (p' := 32) hC rfl rfl rfl ?_
        rw [show shX X 46704 0 4 = X 0 4 by unfold shX; rw [if_neg (by omega)]]
        have e := lp_m_acted2 (d := d) (v := v) hO (X := acY X) (acY_4 hq) (Q := Q) (K2 (by omega)) _ 0 (Nat.lt_succ_self _) (by omega)
        rw [laX_0] at e
        unfold acY at e
        rw [if_pos (by omega)] at e
        exact e
end
section
/-! the reference's frames: one free, one that comes -/
def setS (X : Nat → Int → Int) (s : Int → Int) : Nat → Int → Int := fun a => if a = 1 then s else X a
theorem setS_1 {X : Nat → Int → Int} {s : Int → Int} : setS X s 1 = s := if_pos rfl
theorem setS_ne {X : Nat → Int → Int} {s : Int → Int} {a : Nat} (h : a ≠ 1) : setS X s a = X a := if_neg h
theorem setS_setS {X : Nat → Int → Int} {s s' : Int → Int} : setS (setS X s) s' = setS X s' := by funext a; unfold setS; split <;> rfl
theorem upX_1 {X : Nat → Int → Int} {j v : Int} : upX X 1 j v = setS X (ups (X 1) j v) := by
  funext a b
  unfold upX setS ups
  by_cases h : a = 1
  · subst h; simp
  · simp [h]
theorem setS_id {X : Nat → Int → Int} : setS X (X 1) = X := by
  funext a
  unfold setS
  split
  · rename_i h; rw [h]
  · rfl
theorem ups_eq {s : Int → Int} {j v k : Int} (h : k = j) : ups s j v k = v := if_pos h
theorem ups_ne {s : Int → Int} {j v k : Int} (h : ¬ k = j) : ups s j v k = s k := if_neg h
noncomputable def rFreed (s : Int → Int) : Int → Int := ups s 7 (s 7 + b2i (rFree s = s 7 ∧ rFree s < 559))
set_option maxRecDepth 20000 in
theorem lp_m_free {d : Nat} {m : Nat} {h : HP} (hO : RO m h) {X : Nat → Int → Int} (hs : RI (X 1)) {Kf : Int} {Q : Option AV → HP → Prop} (K : At (d + 1) 43 15 [some (.inr (some m)), some (.inl Kf)] [] (wX m h X) Q) (k : Nat) : ∀ (f : Int), (X 1 7 - f).toNat < k → (0 ≤ f ∧ f ≤ X 1 7) → (∃ n : Nat, X 1 7 ≤ n + f ∧ rFree0 (X 1) n f = Kf) → At (d + 1) 43 2 [some (.inr (some m)), some (.inl f)] [] (wX m h X) Q := by
  have hC : cod 43 = c_m_free := rfl
  induction k with
  | zero =>
    intro f hk
    exact absurd hk (Nat.not_lt_zero _)
  | succ k ih =>
    intro f hk hI0 hI1
    have hs2 := hs.2.2.1
    obtain ⟨n, hn, hT⟩ := hI1
    refine x_1 (p' := 3) hC rfl rfl rfl rfl ?_
    refine x_1 (p' := 4) hC rfl rfl rfl rfl ?_
    refine y_gR (p' := 5) (n := 1) hO hC rfl rfl rfl rfl ?_
    refine x_1 (p' := 6) hC rfl rfl rfl rfl ?_
    refine y_ld (p' := 7) (L := 15568) hO hC rfl rfl rfl rfl (by omega) (by omega) ?_
    refine x_icge (p' := 8) hC rfl rfl (fun c7 => ?_) (fun c7 => ?_)
    · have e : f = Kf := by
        rw [← hT]
        cases n with
        | zero => rfl
        | succ n => exact (if_neg (by omega)).symm
      rw [e]
      exact K
    · refine x_1 (p' := 9) hC rfl rfl rfl rfl ?_
      refine x_1 (p' := 10) hC rfl rfl rfl rfl ?_
      refine x_1 (p' := 11) hC rfl rfl rfl rfl ?_
      refine x_cIV2 (p' := 12) (n := 5) hC rfl rfl rfl rfl rfl (hO.ty) ?_
      refine sp_m_fr hO (by omega) (by omega) ?_
      refine x_ifeq (p' := 13) hC rfl rfl (fun c12 => ?_) (fun c12 => ?_)
      · have e : f = Kf := by
          rw [← hT]
          cases n with
          | zero => rfl
          | succ n => exact (if_neg (by omega)).symm
        rw [e]
        exact K
      · refine x_inc1 (p' := 14) hC rfl rfl (⟨by omega, by omega⟩) ?_
        refine x_1 (p' := 2) hC rfl rfl rfl rfl ?_
        exact ih _ (by omega) (by omega) ⟨n - 1, by omega, by
          rw [← hT]
          obtain ⟨q, rfl⟩ : ∃ q, n = q + 1 := ⟨n - 1, by omega⟩
          show rFree0 (X 1) q (f + 1) = rFree0 (X 1) (q + 1) f
          rw [rFree0, if_pos (by omega)]⟩
theorem rFree0_le (s : Int → Int) : ∀ (n : Nat) (f : Int), 0 ≤ f → f ≤ s 7 → 0 ≤ rFree0 s n f ∧ rFree0 s n f ≤ s 7
  | 0, f, h0, h1 => ⟨h0, h1⟩
  | n + 1, f, h0, h1 => by
    unfold rFree0
    split
    · exact rFree0_le s n (f + 1) (by omega) (by omega)
    · exact ⟨h0, h1⟩
set_option maxRecDepth 20000 in
set_option maxHeartbeats 2000000 in
theorem sp_m_free {d : Nat} {m : Nat} {h : HP} (hO : RO m h) {X : Nat → Int → Int} (hs : RI (X 1)) {Q : Int → HP → Prop} (K : Q (rFree (X 1)) (wX m h (setS X (rFreed (X 1))))) : CaI (d + 1) 43 [.inr (some m)] (wX m h X) Q := by
  have hC : cod 43 = c_m_free := rfl
  refine CaI.start rfl ?_
  have hs2 := hs.2.2.1
  have hfl := rFree0_le (X 1) 560 0 (by omega) (by omega)
  have hfd : rFree (X 1) = rFree0 (X 1) 560 0 := rfl
  refine x_1 (p' := 1) hC rfl rfl rfl rfl ?_
  refine x_stI1 (p' := 2) hC rfl rfl rfl ?_
  refine lp_m_free hO hs (Kf := rFree (X 1)) ?_ _ 0 (Nat.lt_succ_self _) (by omega) ⟨560, by omega, rfl⟩
  refine x_1 (p' := 16) hC rfl rfl rfl rfl ?_
  refine y_gR (p' := 17) (n := 1) hO hC rfl rfl rfl rfl ?_
  refine x_1 (p' := 18) hC rfl rfl rfl rfl ?_
  refine x_1 (p' := 19) hC rfl rfl rfl rfl ?_
  refine y_ld (p' := 20) (L := 15568) hO hC rfl rfl rfl rfl (by omega) (by omega) ?_
  refine x_1 (p' := 21) hC rfl rfl rfl rfl ?_
  refine x_1 (p' := 22) hC rfl rfl rfl rfl ?_
  refine y_gR (p' := 23) (n := 1) hO hC rfl rfl rfl rfl ?_
  refine x_1 (p' := 24) hC rfl rfl rfl rfl ?_
  refine y_ld (p' := 25) (L := 15568) hO hC rfl rfl rfl rfl (by omega) (by omega) ?_
  refine x_icne (p' := 26) hC rfl rfl (fun c25 => ?_) (fun c25 => ?_)
  · refine x_1 (p' := 32) hC rfl rfl rfl rfl ?_
    refine x_add (p' := 33) hC rfl rfl rfl (⟨by omega, by omega⟩) ?_
    refine y_st (p' := 34) (L := 15568) hO hC rfl rfl rfl rfl (by omega) (by omega) ?_
    refine x_1 (p' := 35) hC rfl rfl rfl rfl ?_
    refine x_iret hC rfl rfl rfl ⟨_, rfl, ?_⟩
    rw [upX_1]
    first
      | (unfold rFreed at K; rw [b2i_t (by omega)] at K; exact K)
      | (unfold rFreed at K; rw [b2i_f (by omega)] at K; exact K)
  · refine x_1 (p' := 27) hC rfl rfl rfl rfl ?_
    refine x_1 (p' := 28) hC rfl rfl rfl rfl ?_
    refine x_icge (p' := 29) hC rfl rfl (fun c28 => ?_) (fun c28 => ?_)
    · refine x_1 (p' := 32) hC rfl rfl rfl rfl ?_
      refine x_add (p' := 33) hC rfl rfl rfl (⟨by omega, by omega⟩) ?_
      refine y_st (p' := 34) (L := 15568) hO hC rfl rfl rfl rfl (by omega) (by omega) ?_
      refine x_1 (p' := 35) hC rfl rfl rfl rfl ?_
      refine x_iret hC rfl rfl rfl ⟨_, rfl, ?_⟩
      rw [upX_1]
      first
        | (unfold rFreed at K; rw [b2i_t (by omega)] at K; exact K)
        | (unfold rFreed at K; rw [b2i_f (by omega)] at K; exact K)
    · refine x_1 (p' := 30) hC rfl rfl rfl rfl ?_
      refine x_1 (p' := 32) hC rfl rfl rfl rfl ?_
      refine x_add (p' := 33) hC rfl rfl rfl (⟨by omega, by omega⟩) ?_
      refine y_st (p' := 34) (L := 15568) hO hC rfl rfl rfl rfl (by omega) (by omega) ?_
      refine x_1 (p' := 35) hC rfl rfl rfl rfl ?_
      refine x_iret hC rfl rfl rfl ⟨_, rfl, ?_⟩
      rw [upX_1]
      first
        | (unfold rFreed at K; rw [b2i_t (by omega)] at K; exact K)
        | (unfold rFreed at K; rw [b2i_f (by omega)] at K; exact K)
def rOff (s : Int → Int) (c : Int) : Prop := c < 10 ∧ ¬ rIts s c 2 = 0
noncomputable def rSlot (s : Int → Int) (h c st : Int) : Int := cif (rOff s c ∨ ¬ rPer s c ≤ rOf s h 4) st ((st + rOf s h 4 - 1) / rOf s h 4 * rOf s h 4)
def rLate (s : Int → Int) (h c sl : Int) : Prop := rOff s c ∨ (0 < rOf s h 6 ∧ sl ≤ rOf s h 9)
def rDblN (s : Int → Int) (f h c sl n : Int) : Prop := ∃ q, 0 ≤ q ∧ q < n ∧ rIn s q h sl ∧ rFr s q 2 = c ∧ rFr s q 3 = rFr s f 3
def rDrop (s : Int → Int) (f h w : Int) : Int → Int := ups (ups s (8 + 10 * h + w) (wr (s (8 + 10 * h + w) + 1))) (448 + 27 * f) 0
def rKeep (s : Int → Int) (f sl : Int) : Int → Int := ups (ups (ups s (448 + 27 * f) 2) (448 + 27 * f + 4) sl) (448 + 27 * f + 5) (s 2)
noncomputable def rComes (s : Int → Int) (f : Int) : Int → Int :=
  cif (rLate s (rFr s f 1) (rFr s f 2) (rSlot s (rFr s f 1) (rFr s f 2) (rFr s f 3))) (rDrop s f (rFr s f 1) 7)
    (cif (rDblN s f (rFr s f 1) (rFr s f 2) (rSlot s (rFr s f 1) (rFr s f 2) (rFr s f 3)) (s 7)) (rDrop s f (rFr s f 1) 8) (rKeep s f (rSlot s (rFr s f 1) (rFr s f 2) (rFr s f 3))))
theorem rDblN_succ {s : Int → Int} {f h c sl n : Int} (hn : 0 ≤ n) : rDblN s f h c sl (n + 1) ↔ rDblN s f h c sl n ∨ (rIn s n h sl ∧ rFr s n 2 = c ∧ rFr s n 3 = rFr s f 3) := by
  constructor
  · rintro ⟨q, h0, h1, h2⟩
    rcases (show q < n ∨ q = n by omega) with h3 | h3
    · exact Or.inl ⟨q, h0, h3, h2⟩
    · rw [h3] at h2; exact Or.inr h2
  · rintro (⟨q, h0, h1, h2⟩ | h2)
    · exact ⟨q, h0, by omega, h2⟩
    · exact ⟨n, hn, by omega, h2⟩
theorem mul_div_le {a p : Int} (ha : 0 ≤ a) (hp : 0 < p) : 0 ≤ a / p * p ∧ a / p * p ≤ a := ⟨Int.mul_nonneg (Int.ediv_nonneg ha (Int.le_of_lt hp)) (Int.le_of_lt hp), Int.ediv_mul_le a (by omega)⟩
theorem comes_fin {Q : HP → Prop} {m : Nat} {h : HP} {X Y : Nat → Int → Int} (K : Q (wX m h Y)) (e : X = Y) : Q (wX m h X) := e ▸ K
set_option maxRecDepth 20000 in
theorem lp_m_comes {d : Nat} {m : Nat} {h : HP} (hO : RO m h) {X : Nat → Int → Int} (hs : RI (X 1)) {f g c P sl lt : Int} (hf : 0 ≤ f ∧ f < 560) (hg : 0 ≤ g ∧ g < 5) (hlt : lt = 0 ∨ lt = 1) {Q : HP → Prop} (K1 : lt = 1 → Q (wX m h (setS X (rDrop (X 1) f g 7)))) (K2 : lt = 0 → rDblN (X 1) f g c sl (X 1 7) → Q (wX m h (setS X (rDrop (X 1) f g 8)))) (K3 : lt = 0 → ¬ rDblN (X 1) f g c sl (X 1 7) → Q (wX m h (setS X (rKeep (X 1) f sl)))) (k : Nat) : ∀ (b : Int) (u : Int), (X 1 7 - u).toNat < k → (0 ≤ u ∧ u ≤ X 1 7) → (b = b2i (rDblN (X 1) f g c sl u)) → At (d + 2) 44 71 [some (.inr (some m)), some (.inl f), some (.inl g), some (.inl c), some (.inl P), some (.inl sl), some (.inl lt), some (.inl b), some (.inl u)] [] (wX m h X) (fun v h' => v = none ∧ Q h') := by
  have hC : cod 44 = c_m_comes := rfl
  induction k with
  | zero =>
    intro b u hk
    exact absurd hk (Nat.not_lt_zero _)
  | succ k ih =>
    intro b u hk hI0 hI1
    have hs2 := hs.2.2.1
    have hs3 : u = X 1 7 → b = b2i (rDblN (X 1) f g c sl (X 1 7)) := fun e => by rw [← e]; exact hI1
    have hb01 : 0 ≤ b ∧ b ≤ 1 := by rw [hI1]; exact b2i_01 _
    refine x_1 (p' := 72) hC rfl rfl rfl rfl ?_
    refine x_1 (p' := 73) hC rfl rfl rfl rfl ?_
    refine y_gR (p' := 74) (n := 1) hO hC rfl rfl rfl rfl ?_
    refine x_1 (p' := 75) hC rfl rfl rfl rfl ?_
    refine y_ld (p' := 76) (L := 15568) hO hC rfl rfl rfl rfl (by omega) (by omega) ?_
    refine x_icge (p' := 77) hC rfl rfl (fun c76 => ?_) (fun c76 => ?_)
    · refine x_1 (p' := 107) hC rfl rfl rfl rfl ?_
      refine x_ifne (p' := 108) hC rfl rfl (fun c107 => ?_) (fun c107 => ?_)
      · refine x_1 (p' := 111) hC rfl rfl rfl rfl ?_
        refine y_gR (p' := 112) (n := 1) hO hC rfl rfl rfl rfl ?_
        refine x_1 (p' := 113) hC rfl rfl rfl rfl ?_
        refine x_1 (p' := 114) hC rfl rfl rfl rfl ?_
        refine x_1 (p' := 115) hC rfl rfl rfl rfl ?_
        refine x_mul (p' := 116) hC rfl rfl rfl (⟨by omega, by omega⟩) ?_
        refine x_add (p' := 117) hC rfl rfl rfl (⟨by omega, by omega⟩) ?_
        refine x_1 (p' := 118) hC rfl rfl rfl rfl ?_
        refine x_ifeq (p' := 119) hC rfl rfl (fun c118 => ?_) (fun c118 => ?_)
        · refine x_1 (p' := 122) hC rfl rfl rfl rfl ?_
          refine x_add (p' := 123) hC rfl rfl rfl (⟨by omega, by omega⟩) ?_
          refine x_1 (p' := 124) hC rfl rfl rfl rfl ?_
          refine y_ld (p' := 125) (L := 15568) hO hC rfl rfl rfl rfl (by omega) (by omega) ?_
          refine x_1 (p' := 126) hC rfl rfl rfl rfl ?_
          refine x_1 (p' := 127) hC rfl rfl rfl rfl ?_
          refine y_st (p' := 128) (L := 15568) hO hC rfl rfl rfl rfl (by omega) (by omega) ?_
          refine x_1 (p' := 129) hC rfl rfl rfl rfl ?_
          refine x_1 (p' := 130) hC rfl rfl rfl rfl ?_
          refine x_1 (p' := 131) hC rfl rfl rfl rfl ?_
          refine x_1 (p' := 132) hC rfl rfl rfl rfl ?_
          refine x_cVV3 (p' := 133) (n := 6) hC rfl rfl rfl rfl rfl (hO.ty) ?_
          refine sp_m_lays hO (by omega) (by omega) ?_
          refine x_ret hC rfl rfl rfl ⟨rfl, ?_⟩
          simp only [upX_1, setS_setS, setS_1]
          first
            | (exfalso; omega)
            | exact comes_fin (K1 (by omega)) (by simp only [rDrop, Int.add_zero])
            | exact comes_fin (K2 (by omega) (b2i_n0.mp (by rw [← hs3 (by omega)]; omega))) (by simp only [rDrop, Int.add_zero])
        · refine x_1 (p' := 120) hC rfl rfl rfl rfl ?_
          refine x_1 (p' := 122) hC rfl rfl rfl rfl ?_
          refine x_add (p' := 123) hC rfl rfl rfl (⟨by omega, by omega⟩) ?_
          refine x_1 (p' := 124) hC rfl rfl rfl rfl ?_
          refine y_ld (p' := 125) (L := 15568) hO hC rfl rfl rfl rfl (by omega) (by omega) ?_
          refine x_1 (p' := 126) hC rfl rfl rfl rfl ?_
          refine x_1 (p' := 127) hC rfl rfl rfl rfl ?_
          refine y_st (p' := 128) (L := 15568) hO hC rfl rfl rfl rfl (by omega) (by omega) ?_
          refine x_1 (p' := 129) hC rfl rfl rfl rfl ?_
          refine x_1 (p' := 130) hC rfl rfl rfl rfl ?_
          refine x_1 (p' := 131) hC rfl rfl rfl rfl ?_
          refine x_1 (p' := 132) hC rfl rfl rfl rfl ?_
          refine x_cVV3 (p' := 133) (n := 6) hC rfl rfl rfl rfl rfl (hO.ty) ?_
          refine sp_m_lays hO (by omega) (by omega) ?_
          refine x_ret hC rfl rfl rfl ⟨rfl, ?_⟩
          simp only [upX_1, setS_setS, setS_1]
          first
            | (exfalso; omega)
            | exact comes_fin (K1 (by omega)) (by simp only [rDrop, Int.add_zero])
            | exact comes_fin (K2 (by omega) (b2i_n0.mp (by rw [← hs3 (by omega)]; omega))) (by simp only [rDrop, Int.add_zero])
      · refine x_1 (p' := 109) hC rfl rfl rfl rfl ?_
        refine x_ifeq (p' := 110) hC rfl rfl (fun c109 => ?_) (fun c109 => ?_)
        · refine x_1 (p' := 135) hC rfl rfl rfl rfl ?_
          refine x_1 (p' := 136) hC rfl rfl rfl rfl ?_
          refine x_1 (p' := 137) hC rfl rfl rfl rfl ?_
          refine x_1 (p' := 138) hC rfl rfl rfl rfl ?_
          refine x_cVV3 (p' := 139) (n := 6) hC rfl rfl rfl rfl rfl (hO.ty) ?_
          refine sp_m_lays hO (by omega) (by omega) ?_
          refine x_1 (p' := 140) hC rfl rfl rfl rfl ?_
          refine x_1 (p' := 141) hC rfl rfl rfl rfl ?_
          refine x_1 (p' := 142) hC rfl rfl rfl rfl ?_
          refine x_1 (p' := 143) hC rfl rfl rfl rfl ?_
          refine x_cVV3 (p' := 144) (n := 6) hC rfl rfl rfl rfl rfl (hO.ty) ?_
          refine sp_m_lays hO (by omega) (by omega) ?_
          refine x_1 (p' := 145) hC rfl rfl rfl rfl ?_
          refine x_1 (p' := 146) hC rfl rfl rfl rfl ?_
          refine x_1 (p' := 147) hC rfl rfl rfl rfl ?_
          refine x_1 (p' := 148) hC rfl rfl rfl rfl ?_
          refine y_gR (p' := 149) (n := 1) hO hC rfl rfl rfl rfl ?_
          refine x_1 (p' := 150) hC rfl rfl rfl rfl ?_
          refine y_ld (p' := 151) (L := 15568) hO hC rfl rfl rfl rfl (by omega) (by omega) ?_
          refine x_cVV3 (p' := 152) (n := 6) hC rfl rfl rfl rfl rfl (hO.ty) ?_
          refine sp_m_lays hO (by omega) (by omega) ?_
          refine x_ret hC rfl rfl rfl ⟨rfl, ?_⟩
          simp only [upX_1, setS_setS, setS_1]
          refine comes_fin (K3 (by omega) (b2i_0.mp (by rw [← hs3 (by omega)]; omega))) ?_
          rw [ups_ne (by omega), ups_ne (by omega), Int.add_zero]
          rfl
        · refine x_1 (p' := 111) hC rfl rfl rfl rfl ?_
          refine y_gR (p' := 112) (n := 1) hO hC rfl rfl rfl rfl ?_
          refine x_1 (p' := 113) hC rfl rfl rfl rfl ?_
          refine x_1 (p' := 114) hC rfl rfl rfl rfl ?_
          refine x_1 (p' := 115) hC rfl rfl rfl rfl ?_
          refine x_mul (p' := 116) hC rfl rfl rfl (⟨by omega, by omega⟩) ?_
          refine x_add (p' := 117) hC rfl rfl rfl (⟨by omega, by omega⟩) ?_
          refine x_1 (p' := 118) hC rfl rfl rfl rfl ?_
          refine x_ifeq (p' := 119) hC rfl rfl (fun c118 => ?_) (fun c118 => ?_)
          · refine x_1 (p' := 122) hC rfl rfl rfl rfl ?_
            refine x_add (p' := 123) hC rfl rfl rfl (⟨by omega, by omega⟩) ?_
            refine x_1 (p' := 124) hC rfl rfl rfl rfl ?_
            refine y_ld (p' := 125) (L := 15568) hO hC rfl rfl rfl rfl (by omega) (by omega) ?_
            refine x_1 (p' := 126) hC rfl rfl rfl rfl ?_
            refine x_1 (p' := 127) hC rfl rfl rfl rfl ?_
            refine y_st (p' := 128) (L := 15568) hO hC rfl rfl rfl rfl (by omega) (by omega) ?_
            refine x_1 (p' := 129) hC rfl rfl rfl rfl ?_
            refine x_1 (p' := 130) hC rfl rfl rfl rfl ?_
            refine x_1 (p' := 131) hC rfl rfl rfl rfl ?_
            refine x_1 (p' := 132) hC rfl rfl rfl rfl ?_
            refine x_cVV3 (p' := 133) (n := 6) hC rfl rfl rfl rfl rfl (hO.ty) ?_
            refine sp_m_lays hO (by omega) (by omega) ?_
            refine x_ret hC rfl rfl rfl ⟨rfl, ?_⟩
            simp only [upX_1, setS_setS, setS_1]
            first
              | (exfalso; omega)
              | exact comes_fin (K1 (by omega)) (by simp only [rDrop, Int.add_zero])
              | exact comes_fin (K2 (by omega) (b2i_n0.mp (by rw [← hs3 (by omega)]; omega))) (by simp only [rDrop, Int.add_zero])
          · refine x_1 (p' := 120) hC rfl rfl rfl rfl ?_
            refine x_1 (p' := 122) hC rfl rfl rfl rfl ?_
            refine x_add (p' := 123) hC rfl rfl rfl (⟨by omega, by omega⟩) ?_
            refine x_1 (p' := 124) hC rfl rfl rfl rfl ?_
            refine y_ld (p' := 125) (L := 15568) hO hC rfl rfl rfl rfl (by omega) (by omega) ?_
            refine x_1 (p' := 126) hC rfl rfl rfl rfl ?_
            refine x_1 (p' := 127) hC rfl rfl rfl rfl ?_
            refine y_st (p' := 128) (L := 15568) hO hC rfl rfl rfl rfl (by omega) (by omega) ?_
            refine x_1 (p' := 129) hC rfl rfl rfl rfl ?_
            refine x_1 (p' := 130) hC rfl rfl rfl rfl ?_
            refine x_1 (p' := 131) hC rfl rfl rfl rfl ?_
            refine x_1 (p' := 132) hC rfl rfl rfl rfl ?_
            refine x_cVV3 (p' := 133) (n := 6) hC rfl rfl rfl rfl rfl (hO.ty) ?_
            refine sp_m_lays hO (by omega) (by omega) ?_
            refine x_ret hC rfl rfl rfl ⟨rfl, ?_⟩
            simp only [upX_1, setS_setS, setS_1]
            first
              | (exfalso; omega)
              | exact comes_fin (K1 (by omega)) (by simp only [rDrop, Int.add_zero])
              | exact comes_fin (K2 (by omega) (b2i_n0.mp (by rw [← hs3 (by omega)]; omega))) (by simp only [rDrop, Int.add_zero])
    · refine x_1 (p' := 78) hC rfl rfl rfl rfl ?_
      refine x_ifne (p' := 79) hC rfl rfl (fun c78 => ?_) (fun c78 => ?_)
      · refine x_1 (p' := 101) hC rfl rfl rfl rfl ?_
        refine x_1 (p' := 103) hC rfl rfl rfl rfl ?_
        refine x_stI7 (p' := 104) hC rfl rfl rfl ?_
        refine x_inc8 (p' := 105) hC rfl rfl (⟨by omega, by omega⟩) ?_
        refine x_1 (p' := 71) hC rfl rfl rfl rfl ?_
        refine ih _ _ (by omega) (by omega) ?_
        first
          | exact (b2i_t ((rDblN_succ (by omega)).mpr (Or.inl (b2i_n0.mp (by rw [← hI1]; omega))))).symm
          | exact (b2i_t ((rDblN_succ (by omega)).mpr (Or.inr (by omega)))).symm
          | exact (b2i_f (fun q => by
              rcases (rDblN_succ (by omega)).mp q with q | q
              · exact b2i_0.mp (by rw [← hI1]; omega) q
              · omega)).symm
      · refine x_1 (p' := 80) hC rfl rfl rfl rfl ?_
        refine x_1 (p' := 81) hC rfl rfl rfl rfl ?_
        refine x_1 (p' := 82) hC rfl rfl rfl rfl ?_
        refine x_1 (p' := 83) hC rfl rfl rfl rfl ?_
        refine x_cIV3 (p' := 84) (n := 33) hC rfl rfl rfl rfl rfl (hO.ty) ?_
        refine sp_m_isIn hO (by omega) ?_
        refine x_ifeq (p' := 85) hC rfl rfl (fun c84 => ?_) (fun c84 => ?_)
        · have c84 := b2i_0.mp c84
          refine x_1 (p' := 103) hC rfl rfl rfl rfl ?_
          refine x_stI7 (p' := 104) hC rfl rfl rfl ?_
          refine x_inc8 (p' := 105) hC rfl rfl (⟨by omega, by omega⟩) ?_
          refine x_1 (p' := 71) hC rfl rfl rfl rfl ?_
          refine ih _ _ (by omega) (by omega) ?_
          first
            | exact (b2i_t ((rDblN_succ (by omega)).mpr (Or.inl (b2i_n0.mp (by rw [← hI1]; omega))))).symm
            | exact (b2i_t ((rDblN_succ (by omega)).mpr (Or.inr (by omega)))).symm
            | exact (b2i_f (fun q => by
                rcases (rDblN_succ (by omega)).mp q with q | q
                · exact b2i_0.mp (by rw [← hI1]; omega) q
                · omega)).symm
        · have c84 := b2i_n0.mp c84
          
          refine x_1 (p' := 86) hC rfl rfl rfl rfl ?_
          refine x_1 (p' := 87) hC rfl rfl rfl rfl ?_
          refine x_1 (p' := 88) hC rfl rfl rfl rfl ?_
          refine x_cIV2 (p' := 89) (n := 5) hC rfl rfl rfl rfl rfl (hO.ty) ?_
          refine sp_m_fr hO (by omega) (by omega) ?_
          refine x_1 (p' := 90) hC rfl rfl rfl rfl ?_
          refine x_icne (p' := 91) hC rfl rfl (fun c90 => ?_) (fun c90 => ?_)
          · refine x_1 (p' := 103) hC rfl rfl rfl rfl ?_
            refine x_stI7 (p' := 104) hC rfl rfl rfl ?_
            refine x_inc8 (p' := 105) hC rfl rfl (⟨by omega, by omega⟩) ?_
            refine x_1 (p' := 71) hC rfl rfl rfl rfl ?_
            refine ih _ _ (by omega) (by omega) ?_
            first
              | exact (b2i_t ((rDblN_succ (by omega)).mpr (Or.inl (b2i_n0.mp (by rw [← hI1]; omega))))).symm
              | exact (b2i_t ((rDblN_succ (by omega)).mpr (Or.inr (by omega)))).symm
              | exact (b2i_f (fun q => by
                  rcases (rDblN_succ (by omega)).mp q with q | q
                  · exact b2i_0.mp (by rw [← hI1]; omega) q
                  · omega)).symm
          · refine x_1 (p' := 92) hC rfl rfl rfl rfl ?_
            refine x_1 (p' := 93) hC rfl rfl rfl rfl ?_
            refine x_1 (p' := 94) hC rfl rfl rfl rfl ?_
            refine x_cIV2 (p' := 95) (n := 5) hC rfl rfl rfl rfl rfl (hO.ty) ?_
            refine sp_m_fr hO (by omega) (by omega) ?_
            refine x_1 (p' := 96) hC rfl rfl rfl rfl ?_
            refine x_1 (p' := 97) hC rfl rfl rfl rfl ?_
            refine x_1 (p' := 98) hC rfl rfl rfl rfl ?_
            refine x_cIV2 (p' := 99) (n := 5) hC rfl rfl rfl rfl rfl (hO.ty) ?_
            refine sp_m_fr hO (by omega) (by omega) ?_
            refine x_icne (p' := 100) hC rfl rfl (fun c99 => ?_) (fun c99 => ?_)
            · refine x_1 (p' := 103) hC rfl rfl rfl rfl ?_
              refine x_stI7 (p' := 104) hC rfl rfl rfl ?_
              refine x_inc8 (p' := 105) hC rfl rfl (⟨by omega, by omega⟩) ?_
              refine x_1 (p' := 71) hC rfl rfl rfl rfl ?_
              refine ih _ _ (by omega) (by omega) ?_
              first
                | exact (b2i_t ((rDblN_succ (by omega)).mpr (Or.inl (b2i_n0.mp (by rw [← hI1]; omega))))).symm
                | exact (b2i_t ((rDblN_succ (by omega)).mpr (Or.inr (by omega)))).symm
                | exact (b2i_f (fun q => by
                    rcases (rDblN_succ (by omega)).mp q with q | q
                    · exact b2i_0.mp (by rw [← hI1]; omega) q
                    · omega)).symm
            · refine x_1 (p' := 101) hC rfl rfl rfl rfl ?_
              refine x_1 (p' := 103) hC rfl rfl rfl rfl ?_
              refine x_stI7 (p' := 104) hC rfl rfl rfl ?_
              refine x_inc8 (p' := 105) hC rfl rfl (⟨by omega, by omega⟩) ?_
              refine x_1 (p' := 71) hC rfl rfl rfl rfl ?_
              refine ih _ _ (by omega) (by omega) ?_
              first
                | exact (b2i_t ((rDblN_succ (by omega)).mpr (Or.inl (b2i_n0.mp (by rw [← hI1]; omega))))).symm
                | exact (b2i_t ((rDblN_succ (by omega)).mpr (Or.inr (by omega)))).symm
                | exact (b2i_f (fun q => by
                    rcases (rDblN_succ (by omega)).mp q with q | q
                    · exact b2i_0.mp (by rw [← hI1]; omega) q
                    · omega)).symm
set_option maxRecDepth 20000 in
set_option maxHeartbeats 2000000 in
theorem sp_m_comes {d : Nat} {m : Nat} {h : HP} (hO : RO m h) {X : Nat → Int → Int} (hs : RI (X 1)) {f : Int} (hf : 0 ≤ f ∧ f < 560) (hg : 0 ≤ rFr (X 1) f 1 ∧ rFr (X 1) f 1 < 5) (hc : 0 ≤ rFr (X 1) f 2 ∧ rFr (X 1) f 2 < 15) (hP : 1 ≤ rOf (X 1) (rFr (X 1) f 1) 4 ∧ rOf (X 1) (rFr (X 1) f 1) 4 ≤ 20) (hst : 0 ≤ rFr (X 1) f 3 ∧ rFr (X 1) f 3 ≤ 100000) {Q : HP → Prop} (K : Q (wX m h (setS X (rComes (X 1) f)))) : CaV (d + 3) 44 [.inr (some m), .inl f] (wX m h X) Q := by
  have hC : cod 44 = c_m_comes := rfl
  refine CaV.start rfl ?_
  have hs2 := hs.2.2.1
  have hdv := mul_div_le (a := rFr (X 1) f 3 + rOf (X 1) (rFr (X 1) f 1) 4 - 1) (p := rOf (X 1) (rFr (X 1) f 1) 4) (by omega) (by omega)
  refine x_1 (p' := 1) hC rfl rfl rfl rfl ?_
  refine x_1 (p' := 2) hC rfl rfl rfl rfl ?_
  refine x_1 (p' := 3) hC rfl rfl rfl rfl ?_
  refine x_cIV2 (p' := 4) (n := 5) hC rfl rfl rfl rfl rfl (hO.ty) ?_
  refine sp_m_fr hO (by omega) (by omega) ?_
  refine x_stI2 (p' := 5) hC rfl rfl rfl ?_
  refine x_1 (p' := 6) hC rfl rfl rfl rfl ?_
  refine x_1 (p' := 7) hC rfl rfl rfl rfl ?_
  refine x_1 (p' := 8) hC rfl rfl rfl rfl ?_
  refine x_cIV2 (p' := 9) (n := 5) hC rfl rfl rfl rfl rfl (hO.ty) ?_
  refine sp_m_fr hO (by omega) (by omega) ?_
  refine x_stI3 (p' := 10) hC rfl rfl rfl ?_
  refine x_1 (p' := 11) hC rfl rfl rfl rfl ?_
  refine x_1 (p' := 12) hC rfl rfl rfl rfl ?_
  refine x_1 (p' := 13) hC rfl rfl rfl rfl ?_
  refine x_cIV2 (p' := 14) (n := 3) hC rfl rfl rfl rfl rfl (hO.ty) ?_
  refine sp_m_of hO (by omega) (by omega) ?_
  refine x_stI4 (p' := 15) hC rfl rfl rfl ?_
  refine x_1 (p' := 16) hC rfl rfl rfl rfl ?_
  refine x_1 (p' := 17) hC rfl rfl rfl rfl ?_
  refine x_icge (p' := 18) hC rfl rfl (fun c17 => ?_) (fun c17 => ?_)
  · refine x_1 (p' := 23) hC rfl rfl rfl rfl ?_
    refine x_1 (p' := 24) hC rfl rfl rfl rfl ?_
    refine x_1 (p' := 25) hC rfl rfl rfl rfl ?_
    refine x_cIV2 (p' := 26) (n := 36) hC rfl rfl rfl rfl rfl (hO.ty) ?_
    refine sp_m_isQuick hO (by omega) (by omega) ?_
    refine x_ifne (p' := 27) hC rfl rfl (fun c26 => ?_) (fun c26 => ?_)
    · have c26 := b2i_n0.mp c26
      refine x_1 (p' := 33) hC rfl rfl rfl rfl ?_
      refine x_1 (p' := 34) hC rfl rfl rfl rfl ?_
      refine x_1 (p' := 35) hC rfl rfl rfl rfl ?_
      refine x_cIV2 (p' := 36) (n := 5) hC rfl rfl rfl rfl rfl (hO.ty) ?_
      refine sp_m_fr hO (by omega) (by omega) ?_
      refine x_1 (p' := 37) hC rfl rfl rfl rfl ?_
      refine x_add (p' := 38) hC rfl rfl rfl (⟨by omega, by omega⟩) ?_
      refine x_1 (p' := 39) hC rfl rfl rfl rfl ?_
      refine x_sub (p' := 40) hC rfl rfl rfl (⟨by omega, by omega⟩) ?_
      refine x_1 (p' := 41) hC rfl rfl rfl rfl ?_
      refine x_div (p' := 42) hC rfl rfl rfl (by omega) ?_
      rw [wr_tdiv (by omega) (by omega) (by omega)]
      refine x_1 (p' := 43) hC rfl rfl rfl rfl ?_
      refine x_mul (p' := 44) hC rfl rfl rfl (⟨by omega, by omega⟩) ?_
      refine x_stI5 (p' := 45) hC rfl rfl rfl ?_
      refine x_1 (p' := 46) hC rfl rfl rfl rfl ?_
      refine x_1 (p' := 47) hC rfl rfl rfl rfl ?_
      refine x_icge (p' := 48) hC rfl rfl (fun c47 => ?_) (fun c47 => ?_)
      · refine x_1 (p' := 53) hC rfl rfl rfl rfl ?_
        refine x_1 (p' := 54) hC rfl rfl rfl rfl ?_
        refine x_1 (p' := 55) hC rfl rfl rfl rfl ?_
        refine x_cIV2 (p' := 56) (n := 3) hC rfl rfl rfl rfl rfl (hO.ty) ?_
        refine sp_m_of hO (by omega) (by omega) ?_
        refine x_ifle (p' := 57) hC rfl rfl (fun c56 => ?_) (fun c56 => ?_)
        · refine x_1 (p' := 66) hC rfl rfl rfl rfl ?_
          refine x_stI6 (p' := 67) hC rfl rfl rfl ?_
          refine x_1 (p' := 68) hC rfl rfl rfl rfl ?_
          refine x_stI7 (p' := 69) hC rfl rfl rfl ?_
          refine x_1 (p' := 70) hC rfl rfl rfl rfl ?_
          refine x_stI8 (p' := 71) hC rfl rfl rfl ?_
          refine lp_m_comes hO hs (f := f) (g := rFr (X 1) f 1) (c := rFr (X 1) f 2) (P := rOf (X 1) (rFr (X 1) f 1) 4) (sl := _) (lt := _) hf hg (by omega) (fun hl => ?_) (fun hl hd => ?_) (fun hl hd => ?_) _ 0 0 (Nat.lt_succ_self _) (by omega) (b2i_f (fun ⟨q, h0, h1, _⟩ => by omega)).symm
          all_goals first
            | (exfalso; omega)
            | (have e1 : rSlot (X 1) (rFr (X 1) f 1) (rFr (X 1) f 2) (rFr (X 1) f 3) = rFr (X 1) f 3 := by
                  unfold rSlot rOff
                  exact cif_t (by omega)
               refine comes_fin K ?_
               unfold rComes
               rw [e1]
               unfold rLate rOff
               first
                 | rw [cif_t (by omega)]
                 | (rw [cif_f (by omega)]; first | rw [cif_t hd] | rw [cif_f hd]))
            | (have e1 : rSlot (X 1) (rFr (X 1) f 1) (rFr (X 1) f 2) (rFr (X 1) f 3) = (rFr (X 1) f 3 + rOf (X 1) (rFr (X 1) f 1) 4 - 1) / rOf (X 1) (rFr (X 1) f 1) 4 * rOf (X 1) (rFr (X 1) f 1) 4 := by
                  unfold rSlot rOff
                  exact cif_f (by omega)
               refine comes_fin K ?_
               unfold rComes
               rw [e1]
               unfold rLate rOff
               first
                 | rw [cif_t (by omega)]
                 | (rw [cif_f (by omega)]; first | rw [cif_t hd] | rw [cif_f hd]))
        · refine x_1 (p' := 58) hC rfl rfl rfl rfl ?_
          refine x_1 (p' := 59) hC rfl rfl rfl rfl ?_
          refine x_1 (p' := 60) hC rfl rfl rfl rfl ?_
          refine x_1 (p' := 61) hC rfl rfl rfl rfl ?_
          refine x_cIV2 (p' := 62) (n := 3) hC rfl rfl rfl rfl rfl (hO.ty) ?_
          refine sp_m_of hO (by omega) (by omega) ?_
          refine x_icgt (p' := 63) hC rfl rfl (fun c62 => ?_) (fun c62 => ?_)
          · refine x_1 (p' := 66) hC rfl rfl rfl rfl ?_
            refine x_stI6 (p' := 67) hC rfl rfl rfl ?_
            refine x_1 (p' := 68) hC rfl rfl rfl rfl ?_
            refine x_stI7 (p' := 69) hC rfl rfl rfl ?_
            refine x_1 (p' := 70) hC rfl rfl rfl rfl ?_
            refine x_stI8 (p' := 71) hC rfl rfl rfl ?_
            refine lp_m_comes hO hs (f := f) (g := rFr (X 1) f 1) (c := rFr (X 1) f 2) (P := rOf (X 1) (rFr (X 1) f 1) 4) (sl := _) (lt := _) hf hg (by omega) (fun hl => ?_) (fun hl hd => ?_) (fun hl hd => ?_) _ 0 0 (Nat.lt_succ_self _) (by omega) (b2i_f (fun ⟨q, h0, h1, _⟩ => by omega)).symm
            all_goals first
              | (exfalso; omega)
              | (have e1 : rSlot (X 1) (rFr (X 1) f 1) (rFr (X 1) f 2) (rFr (X 1) f 3) = rFr (X 1) f 3 := by
                    unfold rSlot rOff
                    exact cif_t (by omega)
                 refine comes_fin K ?_
                 unfold rComes
                 rw [e1]
                 unfold rLate rOff
                 first
                   | rw [cif_t (by omega)]
                   | (rw [cif_f (by omega)]; first | rw [cif_t hd] | rw [cif_f hd]))
              | (have e1 : rSlot (X 1) (rFr (X 1) f 1) (rFr (X 1) f 2) (rFr (X 1) f 3) = (rFr (X 1) f 3 + rOf (X 1) (rFr (X 1) f 1) 4 - 1) / rOf (X 1) (rFr (X 1) f 1) 4 * rOf (X 1) (rFr (X 1) f 1) 4 := by
                    unfold rSlot rOff
                    exact cif_f (by omega)
                 refine comes_fin K ?_
                 unfold rComes
                 rw [e1]
                 unfold rLate rOff
                 first
                   | rw [cif_t (by omega)]
                   | (rw [cif_f (by omega)]; first | rw [cif_t hd] | rw [cif_f hd]))
          · refine x_1 (p' := 64) hC rfl rfl rfl rfl ?_
            refine x_1 (p' := 66) hC rfl rfl rfl rfl ?_
            refine x_stI6 (p' := 67) hC rfl rfl rfl ?_
            refine x_1 (p' := 68) hC rfl rfl rfl rfl ?_
            refine x_stI7 (p' := 69) hC rfl rfl rfl ?_
            refine x_1 (p' := 70) hC rfl rfl rfl rfl ?_
            refine x_stI8 (p' := 71) hC rfl rfl rfl ?_
            refine lp_m_comes hO hs (f := f) (g := rFr (X 1) f 1) (c := rFr (X 1) f 2) (P := rOf (X 1) (rFr (X 1) f 1) 4) (sl := _) (lt := _) hf hg (by omega) (fun hl => ?_) (fun hl hd => ?_) (fun hl hd => ?_) _ 0 0 (Nat.lt_succ_self _) (by omega) (b2i_f (fun ⟨q, h0, h1, _⟩ => by omega)).symm
            all_goals first
              | (exfalso; omega)
              | (have e1 : rSlot (X 1) (rFr (X 1) f 1) (rFr (X 1) f 2) (rFr (X 1) f 3) = rFr (X 1) f 3 := by
                    unfold rSlot rOff
                    exact cif_t (by omega)
                 refine comes_fin K ?_
                 unfold rComes
                 rw [e1]
                 unfold rLate rOff
                 first
                   | rw [cif_t (by omega)]
                   | (rw [cif_f (by omega)]; first | rw [cif_t hd] | rw [cif_f hd]))
              | (have e1 : rSlot (X 1) (rFr (X 1) f 1) (rFr (X 1) f 2) (rFr (X 1) f 3) = (rFr (X 1) f 3 + rOf (X 1) (rFr (X 1) f 1) 4 - 1) / rOf (X 1) (rFr (X 1) f 1) 4 * rOf (X 1) (rFr (X 1) f 1) 4 := by
                    unfold rSlot rOff
                    exact cif_f (by omega)
                 refine comes_fin K ?_
                 unfold rComes
                 rw [e1]
                 unfold rLate rOff
                 first
                   | rw [cif_t (by omega)]
                   | (rw [cif_f (by omega)]; first | rw [cif_t hd] | rw [cif_f hd]))
      · refine x_1 (p' := 49) hC rfl rfl rfl rfl ?_
        refine x_1 (p' := 50) hC rfl rfl rfl rfl ?_
        refine x_cIV1 (p' := 51) (n := 9) hC rfl rfl rfl rfl rfl (hO.ty) ?_
        refine sp_m_isOn hO (by omega) ?_
        refine x_ifeq (p' := 52) hC rfl rfl (fun c51 => ?_) (fun c51 => ?_)
        · have c51 := b2i_0.mp c51
          refine x_1 (p' := 64) hC rfl rfl rfl rfl ?_
          refine x_1 (p' := 66) hC rfl rfl rfl rfl ?_
          refine x_stI6 (p' := 67) hC rfl rfl rfl ?_
          refine x_1 (p' := 68) hC rfl rfl rfl rfl ?_
          refine x_stI7 (p' := 69) hC rfl rfl rfl ?_
          refine x_1 (p' := 70) hC rfl rfl rfl rfl ?_
          refine x_stI8 (p' := 71) hC rfl rfl rfl ?_
          refine lp_m_comes hO hs (f := f) (g := rFr (X 1) f 1) (c := rFr (X 1) f 2) (P := rOf (X 1) (rFr (X 1) f 1) 4) (sl := _) (lt := _) hf hg (by omega) (fun hl => ?_) (fun hl hd => ?_) (fun hl hd => ?_) _ 0 0 (Nat.lt_succ_self _) (by omega) (b2i_f (fun ⟨q, h0, h1, _⟩ => by omega)).symm
          all_goals first
            | (exfalso; omega)
            | (have e1 : rSlot (X 1) (rFr (X 1) f 1) (rFr (X 1) f 2) (rFr (X 1) f 3) = rFr (X 1) f 3 := by
                  unfold rSlot rOff
                  exact cif_t (by omega)
               refine comes_fin K ?_
               unfold rComes
               rw [e1]
               unfold rLate rOff
               first
                 | rw [cif_t (by omega)]
                 | (rw [cif_f (by omega)]; first | rw [cif_t hd] | rw [cif_f hd]))
            | (have e1 : rSlot (X 1) (rFr (X 1) f 1) (rFr (X 1) f 2) (rFr (X 1) f 3) = (rFr (X 1) f 3 + rOf (X 1) (rFr (X 1) f 1) 4 - 1) / rOf (X 1) (rFr (X 1) f 1) 4 * rOf (X 1) (rFr (X 1) f 1) 4 := by
                  unfold rSlot rOff
                  exact cif_f (by omega)
               refine comes_fin K ?_
               unfold rComes
               rw [e1]
               unfold rLate rOff
               first
                 | rw [cif_t (by omega)]
                 | (rw [cif_f (by omega)]; first | rw [cif_t hd] | rw [cif_f hd]))
        · have c51 := b2i_n0.mp c51
          refine x_1 (p' := 53) hC rfl rfl rfl rfl ?_
          refine x_1 (p' := 54) hC rfl rfl rfl rfl ?_
          refine x_1 (p' := 55) hC rfl rfl rfl rfl ?_
          refine x_cIV2 (p' := 56) (n := 3) hC rfl rfl rfl rfl rfl (hO.ty) ?_
          refine sp_m_of hO (by omega) (by omega) ?_
          refine x_ifle (p' := 57) hC rfl rfl (fun c56 => ?_) (fun c56 => ?_)
          · refine x_1 (p' := 66) hC rfl rfl rfl rfl ?_
            refine x_stI6 (p' := 67) hC rfl rfl rfl ?_
            refine x_1 (p' := 68) hC rfl rfl rfl rfl ?_
            refine x_stI7 (p' := 69) hC rfl rfl rfl ?_
            refine x_1 (p' := 70) hC rfl rfl rfl rfl ?_
            refine x_stI8 (p' := 71) hC rfl rfl rfl ?_
            refine lp_m_comes hO hs (f := f) (g := rFr (X 1) f 1) (c := rFr (X 1) f 2) (P := rOf (X 1) (rFr (X 1) f 1) 4) (sl := _) (lt := _) hf hg (by omega) (fun hl => ?_) (fun hl hd => ?_) (fun hl hd => ?_) _ 0 0 (Nat.lt_succ_self _) (by omega) (b2i_f (fun ⟨q, h0, h1, _⟩ => by omega)).symm
            all_goals first
              | (exfalso; omega)
              | (have e1 : rSlot (X 1) (rFr (X 1) f 1) (rFr (X 1) f 2) (rFr (X 1) f 3) = rFr (X 1) f 3 := by
                    unfold rSlot rOff
                    exact cif_t (by omega)
                 refine comes_fin K ?_
                 unfold rComes
                 rw [e1]
                 unfold rLate rOff
                 first
                   | rw [cif_t (by omega)]
                   | (rw [cif_f (by omega)]; first | rw [cif_t hd] | rw [cif_f hd]))
              | (have e1 : rSlot (X 1) (rFr (X 1) f 1) (rFr (X 1) f 2) (rFr (X 1) f 3) = (rFr (X 1) f 3 + rOf (X 1) (rFr (X 1) f 1) 4 - 1) / rOf (X 1) (rFr (X 1) f 1) 4 * rOf (X 1) (rFr (X 1) f 1) 4 := by
                    unfold rSlot rOff
                    exact cif_f (by omega)
                 refine comes_fin K ?_
                 unfold rComes
                 rw [e1]
                 unfold rLate rOff
                 first
                   | rw [cif_t (by omega)]
                   | (rw [cif_f (by omega)]; first | rw [cif_t hd] | rw [cif_f hd]))
          · refine x_1 (p' := 58) hC rfl rfl rfl rfl ?_
            refine x_1 (p' := 59) hC rfl rfl rfl rfl ?_
            refine x_1 (p' := 60) hC rfl rfl rfl rfl ?_
            refine x_1 (p' := 61) hC rfl rfl rfl rfl ?_
            refine x_cIV2 (p' := 62) (n := 3) hC rfl rfl rfl rfl rfl (hO.ty) ?_
            refine sp_m_of hO (by omega) (by omega) ?_
            refine x_icgt (p' := 63) hC rfl rfl (fun c62 => ?_) (fun c62 => ?_)
            · refine x_1 (p' := 66) hC rfl rfl rfl rfl ?_
              refine x_stI6 (p' := 67) hC rfl rfl rfl ?_
              refine x_1 (p' := 68) hC rfl rfl rfl rfl ?_
              refine x_stI7 (p' := 69) hC rfl rfl rfl ?_
              refine x_1 (p' := 70) hC rfl rfl rfl rfl ?_
              refine x_stI8 (p' := 71) hC rfl rfl rfl ?_
              refine lp_m_comes hO hs (f := f) (g := rFr (X 1) f 1) (c := rFr (X 1) f 2) (P := rOf (X 1) (rFr (X 1) f 1) 4) (sl := _) (lt := _) hf hg (by omega) (fun hl => ?_) (fun hl hd => ?_) (fun hl hd => ?_) _ 0 0 (Nat.lt_succ_self _) (by omega) (b2i_f (fun ⟨q, h0, h1, _⟩ => by omega)).symm
              all_goals first
                | (exfalso; omega)
                | (have e1 : rSlot (X 1) (rFr (X 1) f 1) (rFr (X 1) f 2) (rFr (X 1) f 3) = rFr (X 1) f 3 := by
                      unfold rSlot rOff
                      exact cif_t (by omega)
                   refine comes_fin K ?_
                   unfold rComes
                   rw [e1]
                   unfold rLate rOff
                   first
                     | rw [cif_t (by omega)]
                     | (rw [cif_f (by omega)]; first | rw [cif_t hd] | rw [cif_f hd]))
                | (have e1 : rSlot (X 1) (rFr (X 1) f 1) (rFr (X 1) f 2) (rFr (X 1) f 3) = (rFr (X 1) f 3 + rOf (X 1) (rFr (X 1) f 1) 4 - 1) / rOf (X 1) (rFr (X 1) f 1) 4 * rOf (X 1) (rFr (X 1) f 1) 4 := by
                      unfold rSlot rOff
                      exact cif_f (by omega)
                   refine comes_fin K ?_
                   unfold rComes
                   rw [e1]
                   unfold rLate rOff
                   first
                     | rw [cif_t (by omega)]
                     | (rw [cif_f (by omega)]; first | rw [cif_t hd] | rw [cif_f hd]))
            · refine x_1 (p' := 64) hC rfl rfl rfl rfl ?_
              refine x_1 (p' := 66) hC rfl rfl rfl rfl ?_
              refine x_stI6 (p' := 67) hC rfl rfl rfl ?_
              refine x_1 (p' := 68) hC rfl rfl rfl rfl ?_
              refine x_stI7 (p' := 69) hC rfl rfl rfl ?_
              refine x_1 (p' := 70) hC rfl rfl rfl rfl ?_
              refine x_stI8 (p' := 71) hC rfl rfl rfl ?_
              refine lp_m_comes hO hs (f := f) (g := rFr (X 1) f 1) (c := rFr (X 1) f 2) (P := rOf (X 1) (rFr (X 1) f 1) 4) (sl := _) (lt := _) hf hg (by omega) (fun hl => ?_) (fun hl hd => ?_) (fun hl hd => ?_) _ 0 0 (Nat.lt_succ_self _) (by omega) (b2i_f (fun ⟨q, h0, h1, _⟩ => by omega)).symm
              all_goals first
                | (exfalso; omega)
                | (have e1 : rSlot (X 1) (rFr (X 1) f 1) (rFr (X 1) f 2) (rFr (X 1) f 3) = rFr (X 1) f 3 := by
                      unfold rSlot rOff
                      exact cif_t (by omega)
                   refine comes_fin K ?_
                   unfold rComes
                   rw [e1]
                   unfold rLate rOff
                   first
                     | rw [cif_t (by omega)]
                     | (rw [cif_f (by omega)]; first | rw [cif_t hd] | rw [cif_f hd]))
                | (have e1 : rSlot (X 1) (rFr (X 1) f 1) (rFr (X 1) f 2) (rFr (X 1) f 3) = (rFr (X 1) f 3 + rOf (X 1) (rFr (X 1) f 1) 4 - 1) / rOf (X 1) (rFr (X 1) f 1) 4 * rOf (X 1) (rFr (X 1) f 1) 4 := by
                      unfold rSlot rOff
                      exact cif_f (by omega)
                   refine comes_fin K ?_
                   unfold rComes
                   rw [e1]
                   unfold rLate rOff
                   first
                     | rw [cif_t (by omega)]
                     | (rw [cif_f (by omega)]; first | rw [cif_t hd] | rw [cif_f hd]))
    · have c26 := b2i_0.mp c26
      refine x_1 (p' := 28) hC rfl rfl rfl rfl ?_
      refine x_1 (p' := 29) hC rfl rfl rfl rfl ?_
      refine x_1 (p' := 30) hC rfl rfl rfl rfl ?_
      refine x_cIV2 (p' := 31) (n := 5) hC rfl rfl rfl rfl rfl (hO.ty) ?_
      refine sp_m_fr hO (by omega) (by omega) ?_
      refine x_1 (p' := 44) hC rfl rfl rfl rfl ?_
      refine x_stI5 (p' := 45) hC rfl rfl rfl ?_
      refine x_1 (p' := 46) hC rfl rfl rfl rfl ?_
      refine x_1 (p' := 47) hC rfl rfl rfl rfl ?_
      refine x_icge (p' := 48) hC rfl rfl (fun c47 => ?_) (fun c47 => ?_)
      · refine x_1 (p' := 53) hC rfl rfl rfl rfl ?_
        refine x_1 (p' := 54) hC rfl rfl rfl rfl ?_
        refine x_1 (p' := 55) hC rfl rfl rfl rfl ?_
        refine x_cIV2 (p' := 56) (n := 3) hC rfl rfl rfl rfl rfl (hO.ty) ?_
        refine sp_m_of hO (by omega) (by omega) ?_
        refine x_ifle (p' := 57) hC rfl rfl (fun c56 => ?_) (fun c56 => ?_)
        · refine x_1 (p' := 66) hC rfl rfl rfl rfl ?_
          refine x_stI6 (p' := 67) hC rfl rfl rfl ?_
          refine x_1 (p' := 68) hC rfl rfl rfl rfl ?_
          refine x_stI7 (p' := 69) hC rfl rfl rfl ?_
          refine x_1 (p' := 70) hC rfl rfl rfl rfl ?_
          refine x_stI8 (p' := 71) hC rfl rfl rfl ?_
          refine lp_m_comes hO hs (f := f) (g := rFr (X 1) f 1) (c := rFr (X 1) f 2) (P := rOf (X 1) (rFr (X 1) f 1) 4) (sl := _) (lt := _) hf hg (by omega) (fun hl => ?_) (fun hl hd => ?_) (fun hl hd => ?_) _ 0 0 (Nat.lt_succ_self _) (by omega) (b2i_f (fun ⟨q, h0, h1, _⟩ => by omega)).symm
          all_goals first
            | (exfalso; omega)
            | (have e1 : rSlot (X 1) (rFr (X 1) f 1) (rFr (X 1) f 2) (rFr (X 1) f 3) = rFr (X 1) f 3 := by
                  unfold rSlot rOff
                  exact cif_t (by omega)
               refine comes_fin K ?_
               unfold rComes
               rw [e1]
               unfold rLate rOff
               first
                 | rw [cif_t (by omega)]
                 | (rw [cif_f (by omega)]; first | rw [cif_t hd] | rw [cif_f hd]))
            | (have e1 : rSlot (X 1) (rFr (X 1) f 1) (rFr (X 1) f 2) (rFr (X 1) f 3) = (rFr (X 1) f 3 + rOf (X 1) (rFr (X 1) f 1) 4 - 1) / rOf (X 1) (rFr (X 1) f 1) 4 * rOf (X 1) (rFr (X 1) f 1) 4 := by
                  unfold rSlot rOff
                  exact cif_f (by omega)
               refine comes_fin K ?_
               unfold rComes
               rw [e1]
               unfold rLate rOff
               first
                 | rw [cif_t (by omega)]
                 | (rw [cif_f (by omega)]; first | rw [cif_t hd] | rw [cif_f hd]))
        · refine x_1 (p' := 58) hC rfl rfl rfl rfl ?_
          refine x_1 (p' := 59) hC rfl rfl rfl rfl ?_
          refine x_1 (p' := 60) hC rfl rfl rfl rfl ?_
          refine x_1 (p' := 61) hC rfl rfl rfl rfl ?_
          refine x_cIV2 (p' := 62) (n := 3) hC rfl rfl rfl rfl rfl (hO.ty) ?_
          refine sp_m_of hO (by omega) (by omega) ?_
          refine x_icgt (p' := 63) hC rfl rfl (fun c62 => ?_) (fun c62 => ?_)
          · refine x_1 (p' := 66) hC rfl rfl rfl rfl ?_
            refine x_stI6 (p' := 67) hC rfl rfl rfl ?_
            refine x_1 (p' := 68) hC rfl rfl rfl rfl ?_
            refine x_stI7 (p' := 69) hC rfl rfl rfl ?_
            refine x_1 (p' := 70) hC rfl rfl rfl rfl ?_
            refine x_stI8 (p' := 71) hC rfl rfl rfl ?_
            refine lp_m_comes hO hs (f := f) (g := rFr (X 1) f 1) (c := rFr (X 1) f 2) (P := rOf (X 1) (rFr (X 1) f 1) 4) (sl := _) (lt := _) hf hg (by omega) (fun hl => ?_) (fun hl hd => ?_) (fun hl hd => ?_) _ 0 0 (Nat.lt_succ_self _) (by omega) (b2i_f (fun ⟨q, h0, h1, _⟩ => by omega)).symm
            all_goals first
              | (exfalso; omega)
              | (have e1 : rSlot (X 1) (rFr (X 1) f 1) (rFr (X 1) f 2) (rFr (X 1) f 3) = rFr (X 1) f 3 := by
                    unfold rSlot rOff
                    exact cif_t (by omega)
                 refine comes_fin K ?_
                 unfold rComes
                 rw [e1]
                 unfold rLate rOff
                 first
                   | rw [cif_t (by omega)]
                   | (rw [cif_f (by omega)]; first | rw [cif_t hd] | rw [cif_f hd]))
              | (have e1 : rSlot (X 1) (rFr (X 1) f 1) (rFr (X 1) f 2) (rFr (X 1) f 3) = (rFr (X 1) f 3 + rOf (X 1) (rFr (X 1) f 1) 4 - 1) / rOf (X 1) (rFr (X 1) f 1) 4 * rOf (X 1) (rFr (X 1) f 1) 4 := by
                    unfold rSlot rOff
                    exact cif_f (by omega)
                 refine comes_fin K ?_
                 unfold rComes
                 rw [e1]
                 unfold rLate rOff
                 first
                   | rw [cif_t (by omega)]
                   | (rw [cif_f (by omega)]; first | rw [cif_t hd] | rw [cif_f hd]))
          · refine x_1 (p' := 64) hC rfl rfl rfl rfl ?_
            refine x_1 (p' := 66) hC rfl rfl rfl rfl ?_
            refine x_stI6 (p' := 67) hC rfl rfl rfl ?_
            refine x_1 (p' := 68) hC rfl rfl rfl rfl ?_
            refine x_stI7 (p' := 69) hC rfl rfl rfl ?_
            refine x_1 (p' := 70) hC rfl rfl rfl rfl ?_
            refine x_stI8 (p' := 71) hC rfl rfl rfl ?_
            refine lp_m_comes hO hs (f := f) (g := rFr (X 1) f 1) (c := rFr (X 1) f 2) (P := rOf (X 1) (rFr (X 1) f 1) 4) (sl := _) (lt := _) hf hg (by omega) (fun hl => ?_) (fun hl hd => ?_) (fun hl hd => ?_) _ 0 0 (Nat.lt_succ_self _) (by omega) (b2i_f (fun ⟨q, h0, h1, _⟩ => by omega)).symm
            all_goals first
              | (exfalso; omega)
              | (have e1 : rSlot (X 1) (rFr (X 1) f 1) (rFr (X 1) f 2) (rFr (X 1) f 3) = rFr (X 1) f 3 := by
                    unfold rSlot rOff
                    exact cif_t (by omega)
                 refine comes_fin K ?_
                 unfold rComes
                 rw [e1]
                 unfold rLate rOff
                 first
                   | rw [cif_t (by omega)]
                   | (rw [cif_f (by omega)]; first | rw [cif_t hd] | rw [cif_f hd]))
              | (have e1 : rSlot (X 1) (rFr (X 1) f 1) (rFr (X 1) f 2) (rFr (X 1) f 3) = (rFr (X 1) f 3 + rOf (X 1) (rFr (X 1) f 1) 4 - 1) / rOf (X 1) (rFr (X 1) f 1) 4 * rOf (X 1) (rFr (X 1) f 1) 4 := by
                    unfold rSlot rOff
                    exact cif_f (by omega)
                 refine comes_fin K ?_
                 unfold rComes
                 rw [e1]
                 unfold rLate rOff
                 first
                   | rw [cif_t (by omega)]
                   | (rw [cif_f (by omega)]; first | rw [cif_t hd] | rw [cif_f hd]))
      · refine x_1 (p' := 49) hC rfl rfl rfl rfl ?_
        refine x_1 (p' := 50) hC rfl rfl rfl rfl ?_
        refine x_cIV1 (p' := 51) (n := 9) hC rfl rfl rfl rfl rfl (hO.ty) ?_
        refine sp_m_isOn hO (by omega) ?_
        refine x_ifeq (p' := 52) hC rfl rfl (fun c51 => ?_) (fun c51 => ?_)
        · have c51 := b2i_0.mp c51
          refine x_1 (p' := 64) hC rfl rfl rfl rfl ?_
          refine x_1 (p' := 66) hC rfl rfl rfl rfl ?_
          refine x_stI6 (p' := 67) hC rfl rfl rfl ?_
          refine x_1 (p' := 68) hC rfl rfl rfl rfl ?_
          refine x_stI7 (p' := 69) hC rfl rfl rfl ?_
          refine x_1 (p' := 70) hC rfl rfl rfl rfl ?_
          refine x_stI8 (p' := 71) hC rfl rfl rfl ?_
          refine lp_m_comes hO hs (f := f) (g := rFr (X 1) f 1) (c := rFr (X 1) f 2) (P := rOf (X 1) (rFr (X 1) f 1) 4) (sl := _) (lt := _) hf hg (by omega) (fun hl => ?_) (fun hl hd => ?_) (fun hl hd => ?_) _ 0 0 (Nat.lt_succ_self _) (by omega) (b2i_f (fun ⟨q, h0, h1, _⟩ => by omega)).symm
          all_goals first
            | (exfalso; omega)
            | (have e1 : rSlot (X 1) (rFr (X 1) f 1) (rFr (X 1) f 2) (rFr (X 1) f 3) = rFr (X 1) f 3 := by
                  unfold rSlot rOff
                  exact cif_t (by omega)
               refine comes_fin K ?_
               unfold rComes
               rw [e1]
               unfold rLate rOff
               first
                 | rw [cif_t (by omega)]
                 | (rw [cif_f (by omega)]; first | rw [cif_t hd] | rw [cif_f hd]))
            | (have e1 : rSlot (X 1) (rFr (X 1) f 1) (rFr (X 1) f 2) (rFr (X 1) f 3) = (rFr (X 1) f 3 + rOf (X 1) (rFr (X 1) f 1) 4 - 1) / rOf (X 1) (rFr (X 1) f 1) 4 * rOf (X 1) (rFr (X 1) f 1) 4 := by
                  unfold rSlot rOff
                  exact cif_f (by omega)
               refine comes_fin K ?_
               unfold rComes
               rw [e1]
               unfold rLate rOff
               first
                 | rw [cif_t (by omega)]
                 | (rw [cif_f (by omega)]; first | rw [cif_t hd] | rw [cif_f hd]))
        · have c51 := b2i_n0.mp c51
          refine x_1 (p' := 53) hC rfl rfl rfl rfl ?_
          refine x_1 (p' := 54) hC rfl rfl rfl rfl ?_
          refine x_1 (p' := 55) hC rfl rfl rfl rfl ?_
          refine x_cIV2 (p' := 56) (n := 3) hC rfl rfl rfl rfl rfl (hO.ty) ?_
          refine sp_m_of hO (by omega) (by omega) ?_
          refine x_ifle (p' := 57) hC rfl rfl (fun c56 => ?_) (fun c56 => ?_)
          · refine x_1 (p' := 66) hC rfl rfl rfl rfl ?_
            refine x_stI6 (p' := 67) hC rfl rfl rfl ?_
            refine x_1 (p' := 68) hC rfl rfl rfl rfl ?_
            refine x_stI7 (p' := 69) hC rfl rfl rfl ?_
            refine x_1 (p' := 70) hC rfl rfl rfl rfl ?_
            refine x_stI8 (p' := 71) hC rfl rfl rfl ?_
            refine lp_m_comes hO hs (f := f) (g := rFr (X 1) f 1) (c := rFr (X 1) f 2) (P := rOf (X 1) (rFr (X 1) f 1) 4) (sl := _) (lt := _) hf hg (by omega) (fun hl => ?_) (fun hl hd => ?_) (fun hl hd => ?_) _ 0 0 (Nat.lt_succ_self _) (by omega) (b2i_f (fun ⟨q, h0, h1, _⟩ => by omega)).symm
            all_goals first
              | (exfalso; omega)
              | (have e1 : rSlot (X 1) (rFr (X 1) f 1) (rFr (X 1) f 2) (rFr (X 1) f 3) = rFr (X 1) f 3 := by
                    unfold rSlot rOff
                    exact cif_t (by omega)
                 refine comes_fin K ?_
                 unfold rComes
                 rw [e1]
                 unfold rLate rOff
                 first
                   | rw [cif_t (by omega)]
                   | (rw [cif_f (by omega)]; first | rw [cif_t hd] | rw [cif_f hd]))
              | (have e1 : rSlot (X 1) (rFr (X 1) f 1) (rFr (X 1) f 2) (rFr (X 1) f 3) = (rFr (X 1) f 3 + rOf (X 1) (rFr (X 1) f 1) 4 - 1) / rOf (X 1) (rFr (X 1) f 1) 4 * rOf (X 1) (rFr (X 1) f 1) 4 := by
                    unfold rSlot rOff
                    exact cif_f (by omega)
                 refine comes_fin K ?_
                 unfold rComes
                 rw [e1]
                 unfold rLate rOff
                 first
                   | rw [cif_t (by omega)]
                   | (rw [cif_f (by omega)]; first | rw [cif_t hd] | rw [cif_f hd]))
          · refine x_1 (p' := 58) hC rfl rfl rfl rfl ?_
            refine x_1 (p' := 59) hC rfl rfl rfl rfl ?_
            refine x_1 (p' := 60) hC rfl rfl rfl rfl ?_
            refine x_1 (p' := 61) hC rfl rfl rfl rfl ?_
            refine x_cIV2 (p' := 62) (n := 3) hC rfl rfl rfl rfl rfl (hO.ty) ?_
            refine sp_m_of hO (by omega) (by omega) ?_
            refine x_icgt (p' := 63) hC rfl rfl (fun c62 => ?_) (fun c62 => ?_)
            · refine x_1 (p' := 66) hC rfl rfl rfl rfl ?_
              refine x_stI6 (p' := 67) hC rfl rfl rfl ?_
              refine x_1 (p' := 68) hC rfl rfl rfl rfl ?_
              refine x_stI7 (p' := 69) hC rfl rfl rfl ?_
              refine x_1 (p' := 70) hC rfl rfl rfl rfl ?_
              refine x_stI8 (p' := 71) hC rfl rfl rfl ?_
              refine lp_m_comes hO hs (f := f) (g := rFr (X 1) f 1) (c := rFr (X 1) f 2) (P := rOf (X 1) (rFr (X 1) f 1) 4) (sl := _) (lt := _) hf hg (by omega) (fun hl => ?_) (fun hl hd => ?_) (fun hl hd => ?_) _ 0 0 (Nat.lt_succ_self _) (by omega) (b2i_f (fun ⟨q, h0, h1, _⟩ => by omega)).symm
              all_goals first
                | (exfalso; omega)
                | (have e1 : rSlot (X 1) (rFr (X 1) f 1) (rFr (X 1) f 2) (rFr (X 1) f 3) = rFr (X 1) f 3 := by
                      unfold rSlot rOff
                      exact cif_t (by omega)
                   refine comes_fin K ?_
                   unfold rComes
                   rw [e1]
                   unfold rLate rOff
                   first
                     | rw [cif_t (by omega)]
                     | (rw [cif_f (by omega)]; first | rw [cif_t hd] | rw [cif_f hd]))
                | (have e1 : rSlot (X 1) (rFr (X 1) f 1) (rFr (X 1) f 2) (rFr (X 1) f 3) = (rFr (X 1) f 3 + rOf (X 1) (rFr (X 1) f 1) 4 - 1) / rOf (X 1) (rFr (X 1) f 1) 4 * rOf (X 1) (rFr (X 1) f 1) 4 := by
                      unfold rSlot rOff
                      exact cif_f (by omega)
                   refine comes_fin K ?_
                   unfold rComes
                   rw [e1]
                   unfold rLate rOff
                   first
                     | rw [cif_t (by omega)]
                     | (rw [cif_f (by omega)]; first | rw [cif_t hd] | rw [cif_f hd]))
            · refine x_1 (p' := 64) hC rfl rfl rfl rfl ?_
              refine x_1 (p' := 66) hC rfl rfl rfl rfl ?_
              refine x_stI6 (p' := 67) hC rfl rfl rfl ?_
              refine x_1 (p' := 68) hC rfl rfl rfl rfl ?_
              refine x_stI7 (p' := 69) hC rfl rfl rfl ?_
              refine x_1 (p' := 70) hC rfl rfl rfl rfl ?_
              refine x_stI8 (p' := 71) hC rfl rfl rfl ?_
              refine lp_m_comes hO hs (f := f) (g := rFr (X 1) f 1) (c := rFr (X 1) f 2) (P := rOf (X 1) (rFr (X 1) f 1) 4) (sl := _) (lt := _) hf hg (by omega) (fun hl => ?_) (fun hl hd => ?_) (fun hl hd => ?_) _ 0 0 (Nat.lt_succ_self _) (by omega) (b2i_f (fun ⟨q, h0, h1, _⟩ => by omega)).symm
              all_goals first
                | (exfalso; omega)
                | (have e1 : rSlot (X 1) (rFr (X 1) f 1) (rFr (X 1) f 2) (rFr (X 1) f 3) = rFr (X 1) f 3 := by
                      unfold rSlot rOff
                      exact cif_t (by omega)
                   refine comes_fin K ?_
                   unfold rComes
                   rw [e1]
                   unfold rLate rOff
                   first
                     | rw [cif_t (by omega)]
                     | (rw [cif_f (by omega)]; first | rw [cif_t hd] | rw [cif_f hd]))
                | (have e1 : rSlot (X 1) (rFr (X 1) f 1) (rFr (X 1) f 2) (rFr (X 1) f 3) = (rFr (X 1) f 3 + rOf (X 1) (rFr (X 1) f 1) 4 - 1) / rOf (X 1) (rFr (X 1) f 1) 4 * rOf (X 1) (rFr (X 1) f 1) 4 := by
                      unfold rSlot rOff
                      exact cif_f (by omega)
                   refine comes_fin K ?_
                   unfold rComes
                   rw [e1]
                   unfold rLate rOff
                   first
                     | rw [cif_t (by omega)]
                     | (rw [cif_f (by omega)]; first | rw [cif_t hd] | rw [cif_f hd]))
  · refine x_1 (p' := 19) hC rfl rfl rfl rfl ?_
    refine x_1 (p' := 20) hC rfl rfl rfl rfl ?_
    refine x_cIV1 (p' := 21) (n := 9) hC rfl rfl rfl rfl rfl (hO.ty) ?_
    refine sp_m_isOn hO (by omega) ?_
    refine x_ifeq (p' := 22) hC rfl rfl (fun c21 => ?_) (fun c21 => ?_)
    · have c21 := b2i_0.mp c21
      refine x_1 (p' := 28) hC rfl rfl rfl rfl ?_
      refine x_1 (p' := 29) hC rfl rfl rfl rfl ?_
      refine x_1 (p' := 30) hC rfl rfl rfl rfl ?_
      refine x_cIV2 (p' := 31) (n := 5) hC rfl rfl rfl rfl rfl (hO.ty) ?_
      refine sp_m_fr hO (by omega) (by omega) ?_
      refine x_1 (p' := 44) hC rfl rfl rfl rfl ?_
      refine x_stI5 (p' := 45) hC rfl rfl rfl ?_
      refine x_1 (p' := 46) hC rfl rfl rfl rfl ?_
      refine x_1 (p' := 47) hC rfl rfl rfl rfl ?_
      refine x_icge (p' := 48) hC rfl rfl (fun c47 => ?_) (fun c47 => ?_)
      · refine x_1 (p' := 53) hC rfl rfl rfl rfl ?_
        refine x_1 (p' := 54) hC rfl rfl rfl rfl ?_
        refine x_1 (p' := 55) hC rfl rfl rfl rfl ?_
        refine x_cIV2 (p' := 56) (n := 3) hC rfl rfl rfl rfl rfl (hO.ty) ?_
        refine sp_m_of hO (by omega) (by omega) ?_
        refine x_ifle (p' := 57) hC rfl rfl (fun c56 => ?_) (fun c56 => ?_)
        · refine x_1 (p' := 66) hC rfl rfl rfl rfl ?_
          refine x_stI6 (p' := 67) hC rfl rfl rfl ?_
          refine x_1 (p' := 68) hC rfl rfl rfl rfl ?_
          refine x_stI7 (p' := 69) hC rfl rfl rfl ?_
          refine x_1 (p' := 70) hC rfl rfl rfl rfl ?_
          refine x_stI8 (p' := 71) hC rfl rfl rfl ?_
          refine lp_m_comes hO hs (f := f) (g := rFr (X 1) f 1) (c := rFr (X 1) f 2) (P := rOf (X 1) (rFr (X 1) f 1) 4) (sl := _) (lt := _) hf hg (by omega) (fun hl => ?_) (fun hl hd => ?_) (fun hl hd => ?_) _ 0 0 (Nat.lt_succ_self _) (by omega) (b2i_f (fun ⟨q, h0, h1, _⟩ => by omega)).symm
          all_goals first
            | (exfalso; omega)
            | (have e1 : rSlot (X 1) (rFr (X 1) f 1) (rFr (X 1) f 2) (rFr (X 1) f 3) = rFr (X 1) f 3 := by
                  unfold rSlot rOff
                  exact cif_t (by omega)
               refine comes_fin K ?_
               unfold rComes
               rw [e1]
               unfold rLate rOff
               first
                 | rw [cif_t (by omega)]
                 | (rw [cif_f (by omega)]; first | rw [cif_t hd] | rw [cif_f hd]))
            | (have e1 : rSlot (X 1) (rFr (X 1) f 1) (rFr (X 1) f 2) (rFr (X 1) f 3) = (rFr (X 1) f 3 + rOf (X 1) (rFr (X 1) f 1) 4 - 1) / rOf (X 1) (rFr (X 1) f 1) 4 * rOf (X 1) (rFr (X 1) f 1) 4 := by
                  unfold rSlot rOff
                  exact cif_f (by omega)
               refine comes_fin K ?_
               unfold rComes
               rw [e1]
               unfold rLate rOff
               first
                 | rw [cif_t (by omega)]
                 | (rw [cif_f (by omega)]; first | rw [cif_t hd] | rw [cif_f hd]))
        · refine x_1 (p' := 58) hC rfl rfl rfl rfl ?_
          refine x_1 (p' := 59) hC rfl rfl rfl rfl ?_
          refine x_1 (p' := 60) hC rfl rfl rfl rfl ?_
          refine x_1 (p' := 61) hC rfl rfl rfl rfl ?_
          refine x_cIV2 (p' := 62) (n := 3) hC rfl rfl rfl rfl rfl (hO.ty) ?_
          refine sp_m_of hO (by omega) (by omega) ?_
          refine x_icgt (p' := 63) hC rfl rfl (fun c62 => ?_) (fun c62 => ?_)
          · refine x_1 (p' := 66) hC rfl rfl rfl rfl ?_
            refine x_stI6 (p' := 67) hC rfl rfl rfl ?_
            refine x_1 (p' := 68) hC rfl rfl rfl rfl ?_
            refine x_stI7 (p' := 69) hC rfl rfl rfl ?_
            refine x_1 (p' := 70) hC rfl rfl rfl rfl ?_
            refine x_stI8 (p' := 71) hC rfl rfl rfl ?_
            refine lp_m_comes hO hs (f := f) (g := rFr (X 1) f 1) (c := rFr (X 1) f 2) (P := rOf (X 1) (rFr (X 1) f 1) 4) (sl := _) (lt := _) hf hg (by omega) (fun hl => ?_) (fun hl hd => ?_) (fun hl hd => ?_) _ 0 0 (Nat.lt_succ_self _) (by omega) (b2i_f (fun ⟨q, h0, h1, _⟩ => by omega)).symm
            all_goals first
              | (exfalso; omega)
              | (have e1 : rSlot (X 1) (rFr (X 1) f 1) (rFr (X 1) f 2) (rFr (X 1) f 3) = rFr (X 1) f 3 := by
                    unfold rSlot rOff
                    exact cif_t (by omega)
                 refine comes_fin K ?_
                 unfold rComes
                 rw [e1]
                 unfold rLate rOff
                 first
                   | rw [cif_t (by omega)]
                   | (rw [cif_f (by omega)]; first | rw [cif_t hd] | rw [cif_f hd]))
              | (have e1 : rSlot (X 1) (rFr (X 1) f 1) (rFr (X 1) f 2) (rFr (X 1) f 3) = (rFr (X 1) f 3 + rOf (X 1) (rFr (X 1) f 1) 4 - 1) / rOf (X 1) (rFr (X 1) f 1) 4 * rOf (X 1) (rFr (X 1) f 1) 4 := by
                    unfold rSlot rOff
                    exact cif_f (by omega)
                 refine comes_fin K ?_
                 unfold rComes
                 rw [e1]
                 unfold rLate rOff
                 first
                   | rw [cif_t (by omega)]
                   | (rw [cif_f (by omega)]; first | rw [cif_t hd] | rw [cif_f hd]))
          · refine x_1 (p' := 64) hC rfl rfl rfl rfl ?_
            refine x_1 (p' := 66) hC rfl rfl rfl rfl ?_
            refine x_stI6 (p' := 67) hC rfl rfl rfl ?_
            refine x_1 (p' := 68) hC rfl rfl rfl rfl ?_
            refine x_stI7 (p' := 69) hC rfl rfl rfl ?_
            refine x_1 (p' := 70) hC rfl rfl rfl rfl ?_
            refine x_stI8 (p' := 71) hC rfl rfl rfl ?_
            refine lp_m_comes hO hs (f := f) (g := rFr (X 1) f 1) (c := rFr (X 1) f 2) (P := rOf (X 1) (rFr (X 1) f 1) 4) (sl := _) (lt := _) hf hg (by omega) (fun hl => ?_) (fun hl hd => ?_) (fun hl hd => ?_) _ 0 0 (Nat.lt_succ_self _) (by omega) (b2i_f (fun ⟨q, h0, h1, _⟩ => by omega)).symm
            all_goals first
              | (exfalso; omega)
              | (have e1 : rSlot (X 1) (rFr (X 1) f 1) (rFr (X 1) f 2) (rFr (X 1) f 3) = rFr (X 1) f 3 := by
                    unfold rSlot rOff
                    exact cif_t (by omega)
                 refine comes_fin K ?_
                 unfold rComes
                 rw [e1]
                 unfold rLate rOff
                 first
                   | rw [cif_t (by omega)]
                   | (rw [cif_f (by omega)]; first | rw [cif_t hd] | rw [cif_f hd]))
              | (have e1 : rSlot (X 1) (rFr (X 1) f 1) (rFr (X 1) f 2) (rFr (X 1) f 3) = (rFr (X 1) f 3 + rOf (X 1) (rFr (X 1) f 1) 4 - 1) / rOf (X 1) (rFr (X 1) f 1) 4 * rOf (X 1) (rFr (X 1) f 1) 4 := by
                    unfold rSlot rOff
                    exact cif_f (by omega)
                 refine comes_fin K ?_
                 unfold rComes
                 rw [e1]
                 unfold rLate rOff
                 first
                   | rw [cif_t (by omega)]
                   | (rw [cif_f (by omega)]; first | rw [cif_t hd] | rw [cif_f hd]))
      · refine x_1 (p' := 49) hC rfl rfl rfl rfl ?_
        refine x_1 (p' := 50) hC rfl rfl rfl rfl ?_
        refine x_cIV1 (p' := 51) (n := 9) hC rfl rfl rfl rfl rfl (hO.ty) ?_
        refine sp_m_isOn hO (by omega) ?_
        refine x_ifeq (p' := 52) hC rfl rfl (fun c51 => ?_) (fun c51 => ?_)
        · have c51 := b2i_0.mp c51
          refine x_1 (p' := 64) hC rfl rfl rfl rfl ?_
          refine x_1 (p' := 66) hC rfl rfl rfl rfl ?_
          refine x_stI6 (p' := 67) hC rfl rfl rfl ?_
          refine x_1 (p' := 68) hC rfl rfl rfl rfl ?_
          refine x_stI7 (p' := 69) hC rfl rfl rfl ?_
          refine x_1 (p' := 70) hC rfl rfl rfl rfl ?_
          refine x_stI8 (p' := 71) hC rfl rfl rfl ?_
          refine lp_m_comes hO hs (f := f) (g := rFr (X 1) f 1) (c := rFr (X 1) f 2) (P := rOf (X 1) (rFr (X 1) f 1) 4) (sl := _) (lt := _) hf hg (by omega) (fun hl => ?_) (fun hl hd => ?_) (fun hl hd => ?_) _ 0 0 (Nat.lt_succ_self _) (by omega) (b2i_f (fun ⟨q, h0, h1, _⟩ => by omega)).symm
          all_goals first
            | (exfalso; omega)
            | (have e1 : rSlot (X 1) (rFr (X 1) f 1) (rFr (X 1) f 2) (rFr (X 1) f 3) = rFr (X 1) f 3 := by
                  unfold rSlot rOff
                  exact cif_t (by omega)
               refine comes_fin K ?_
               unfold rComes
               rw [e1]
               unfold rLate rOff
               first
                 | rw [cif_t (by omega)]
                 | (rw [cif_f (by omega)]; first | rw [cif_t hd] | rw [cif_f hd]))
            | (have e1 : rSlot (X 1) (rFr (X 1) f 1) (rFr (X 1) f 2) (rFr (X 1) f 3) = (rFr (X 1) f 3 + rOf (X 1) (rFr (X 1) f 1) 4 - 1) / rOf (X 1) (rFr (X 1) f 1) 4 * rOf (X 1) (rFr (X 1) f 1) 4 := by
                  unfold rSlot rOff
                  exact cif_f (by omega)
               refine comes_fin K ?_
               unfold rComes
               rw [e1]
               unfold rLate rOff
               first
                 | rw [cif_t (by omega)]
                 | (rw [cif_f (by omega)]; first | rw [cif_t hd] | rw [cif_f hd]))
        · have c51 := b2i_n0.mp c51
          refine x_1 (p' := 53) hC rfl rfl rfl rfl ?_
          refine x_1 (p' := 54) hC rfl rfl rfl rfl ?_
          refine x_1 (p' := 55) hC rfl rfl rfl rfl ?_
          refine x_cIV2 (p' := 56) (n := 3) hC rfl rfl rfl rfl rfl (hO.ty) ?_
          refine sp_m_of hO (by omega) (by omega) ?_
          refine x_ifle (p' := 57) hC rfl rfl (fun c56 => ?_) (fun c56 => ?_)
          · refine x_1 (p' := 66) hC rfl rfl rfl rfl ?_
            refine x_stI6 (p' := 67) hC rfl rfl rfl ?_
            refine x_1 (p' := 68) hC rfl rfl rfl rfl ?_
            refine x_stI7 (p' := 69) hC rfl rfl rfl ?_
            refine x_1 (p' := 70) hC rfl rfl rfl rfl ?_
            refine x_stI8 (p' := 71) hC rfl rfl rfl ?_
            refine lp_m_comes hO hs (f := f) (g := rFr (X 1) f 1) (c := rFr (X 1) f 2) (P := rOf (X 1) (rFr (X 1) f 1) 4) (sl := _) (lt := _) hf hg (by omega) (fun hl => ?_) (fun hl hd => ?_) (fun hl hd => ?_) _ 0 0 (Nat.lt_succ_self _) (by omega) (b2i_f (fun ⟨q, h0, h1, _⟩ => by omega)).symm
            all_goals first
              | (exfalso; omega)
              | (have e1 : rSlot (X 1) (rFr (X 1) f 1) (rFr (X 1) f 2) (rFr (X 1) f 3) = rFr (X 1) f 3 := by
                    unfold rSlot rOff
                    exact cif_t (by omega)
                 refine comes_fin K ?_
                 unfold rComes
                 rw [e1]
                 unfold rLate rOff
                 first
                   | rw [cif_t (by omega)]
                   | (rw [cif_f (by omega)]; first | rw [cif_t hd] | rw [cif_f hd]))
              | (have e1 : rSlot (X 1) (rFr (X 1) f 1) (rFr (X 1) f 2) (rFr (X 1) f 3) = (rFr (X 1) f 3 + rOf (X 1) (rFr (X 1) f 1) 4 - 1) / rOf (X 1) (rFr (X 1) f 1) 4 * rOf (X 1) (rFr (X 1) f 1) 4 := by
                    unfold rSlot rOff
                    exact cif_f (by omega)
                 refine comes_fin K ?_
                 unfold rComes
                 rw [e1]
                 unfold rLate rOff
                 first
                   | rw [cif_t (by omega)]
                   | (rw [cif_f (by omega)]; first | rw [cif_t hd] | rw [cif_f hd]))
          · refine x_1 (p' := 58) hC rfl rfl rfl rfl ?_
            refine x_1 (p' := 59) hC rfl rfl rfl rfl ?_
            refine x_1 (p' := 60) hC rfl rfl rfl rfl ?_
            refine x_1 (p' := 61) hC rfl rfl rfl rfl ?_
            refine x_cIV2 (p' := 62) (n := 3) hC rfl rfl rfl rfl rfl (hO.ty) ?_
            refine sp_m_of hO (by omega) (by omega) ?_
            refine x_icgt (p' := 63) hC rfl rfl (fun c62 => ?_) (fun c62 => ?_)
            · refine x_1 (p' := 66) hC rfl rfl rfl rfl ?_
              refine x_stI6 (p' := 67) hC rfl rfl rfl ?_
              refine x_1 (p' := 68) hC rfl rfl rfl rfl ?_
              refine x_stI7 (p' := 69) hC rfl rfl rfl ?_
              refine x_1 (p' := 70) hC rfl rfl rfl rfl ?_
              refine x_stI8 (p' := 71) hC rfl rfl rfl ?_
              refine lp_m_comes hO hs (f := f) (g := rFr (X 1) f 1) (c := rFr (X 1) f 2) (P := rOf (X 1) (rFr (X 1) f 1) 4) (sl := _) (lt := _) hf hg (by omega) (fun hl => ?_) (fun hl hd => ?_) (fun hl hd => ?_) _ 0 0 (Nat.lt_succ_self _) (by omega) (b2i_f (fun ⟨q, h0, h1, _⟩ => by omega)).symm
              all_goals first
                | (exfalso; omega)
                | (have e1 : rSlot (X 1) (rFr (X 1) f 1) (rFr (X 1) f 2) (rFr (X 1) f 3) = rFr (X 1) f 3 := by
                      unfold rSlot rOff
                      exact cif_t (by omega)
                   refine comes_fin K ?_
                   unfold rComes
                   rw [e1]
                   unfold rLate rOff
                   first
                     | rw [cif_t (by omega)]
                     | (rw [cif_f (by omega)]; first | rw [cif_t hd] | rw [cif_f hd]))
                | (have e1 : rSlot (X 1) (rFr (X 1) f 1) (rFr (X 1) f 2) (rFr (X 1) f 3) = (rFr (X 1) f 3 + rOf (X 1) (rFr (X 1) f 1) 4 - 1) / rOf (X 1) (rFr (X 1) f 1) 4 * rOf (X 1) (rFr (X 1) f 1) 4 := by
                      unfold rSlot rOff
                      exact cif_f (by omega)
                   refine comes_fin K ?_
                   unfold rComes
                   rw [e1]
                   unfold rLate rOff
                   first
                     | rw [cif_t (by omega)]
                     | (rw [cif_f (by omega)]; first | rw [cif_t hd] | rw [cif_f hd]))
            · refine x_1 (p' := 64) hC rfl rfl rfl rfl ?_
              refine x_1 (p' := 66) hC rfl rfl rfl rfl ?_
              refine x_stI6 (p' := 67) hC rfl rfl rfl ?_
              refine x_1 (p' := 68) hC rfl rfl rfl rfl ?_
              refine x_stI7 (p' := 69) hC rfl rfl rfl ?_
              refine x_1 (p' := 70) hC rfl rfl rfl rfl ?_
              refine x_stI8 (p' := 71) hC rfl rfl rfl ?_
              refine lp_m_comes hO hs (f := f) (g := rFr (X 1) f 1) (c := rFr (X 1) f 2) (P := rOf (X 1) (rFr (X 1) f 1) 4) (sl := _) (lt := _) hf hg (by omega) (fun hl => ?_) (fun hl hd => ?_) (fun hl hd => ?_) _ 0 0 (Nat.lt_succ_self _) (by omega) (b2i_f (fun ⟨q, h0, h1, _⟩ => by omega)).symm
              all_goals first
                | (exfalso; omega)
                | (have e1 : rSlot (X 1) (rFr (X 1) f 1) (rFr (X 1) f 2) (rFr (X 1) f 3) = rFr (X 1) f 3 := by
                      unfold rSlot rOff
                      exact cif_t (by omega)
                   refine comes_fin K ?_
                   unfold rComes
                   rw [e1]
                   unfold rLate rOff
                   first
                     | rw [cif_t (by omega)]
                     | (rw [cif_f (by omega)]; first | rw [cif_t hd] | rw [cif_f hd]))
                | (have e1 : rSlot (X 1) (rFr (X 1) f 1) (rFr (X 1) f 2) (rFr (X 1) f 3) = (rFr (X 1) f 3 + rOf (X 1) (rFr (X 1) f 1) 4 - 1) / rOf (X 1) (rFr (X 1) f 1) 4 * rOf (X 1) (rFr (X 1) f 1) 4 := by
                      unfold rSlot rOff
                      exact cif_f (by omega)
                   refine comes_fin K ?_
                   unfold rComes
                   rw [e1]
                   unfold rLate rOff
                   first
                     | rw [cif_t (by omega)]
                     | (rw [cif_f (by omega)]; first | rw [cif_t hd] | rw [cif_f hd]))
    · have c21 := b2i_n0.mp c21
      refine x_1 (p' := 23) hC rfl rfl rfl rfl ?_
      refine x_1 (p' := 24) hC rfl rfl rfl rfl ?_
      refine x_1 (p' := 25) hC rfl rfl rfl rfl ?_
      refine x_cIV2 (p' := 26) (n := 36) hC rfl rfl rfl rfl rfl (hO.ty) ?_
      refine sp_m_isQuick hO (by omega) (by omega) ?_
      refine x_ifne (p' := 27) hC rfl rfl (fun c26 => ?_) (fun c26 => ?_)
      · have c26 := b2i_n0.mp c26
        refine x_1 (p' := 33) hC rfl rfl rfl rfl ?_
        refine x_1 (p' := 34) hC rfl rfl rfl rfl ?_
        refine x_1 (p' := 35) hC rfl rfl rfl rfl ?_
        refine x_cIV2 (p' := 36) (n := 5) hC rfl rfl rfl rfl rfl (hO.ty) ?_
        refine sp_m_fr hO (by omega) (by omega) ?_
        refine x_1 (p' := 37) hC rfl rfl rfl rfl ?_
        refine x_add (p' := 38) hC rfl rfl rfl (⟨by omega, by omega⟩) ?_
        refine x_1 (p' := 39) hC rfl rfl rfl rfl ?_
        refine x_sub (p' := 40) hC rfl rfl rfl (⟨by omega, by omega⟩) ?_
        refine x_1 (p' := 41) hC rfl rfl rfl rfl ?_
        refine x_div (p' := 42) hC rfl rfl rfl (by omega) ?_
        rw [wr_tdiv (by omega) (by omega) (by omega)]
        refine x_1 (p' := 43) hC rfl rfl rfl rfl ?_
        refine x_mul (p' := 44) hC rfl rfl rfl (⟨by omega, by omega⟩) ?_
        refine x_stI5 (p' := 45) hC rfl rfl rfl ?_
        refine x_1 (p' := 46) hC rfl rfl rfl rfl ?_
        refine x_1 (p' := 47) hC rfl rfl rfl rfl ?_
        refine x_icge (p' := 48) hC rfl rfl (fun c47 => ?_) (fun c47 => ?_)
        · refine x_1 (p' := 53) hC rfl rfl rfl rfl ?_
          refine x_1 (p' := 54) hC rfl rfl rfl rfl ?_
          refine x_1 (p' := 55) hC rfl rfl rfl rfl ?_
          refine x_cIV2 (p' := 56) (n := 3) hC rfl rfl rfl rfl rfl (hO.ty) ?_
          refine sp_m_of hO (by omega) (by omega) ?_
          refine x_ifle (p' := 57) hC rfl rfl (fun c56 => ?_) (fun c56 => ?_)
          · refine x_1 (p' := 66) hC rfl rfl rfl rfl ?_
            refine x_stI6 (p' := 67) hC rfl rfl rfl ?_
            refine x_1 (p' := 68) hC rfl rfl rfl rfl ?_
            refine x_stI7 (p' := 69) hC rfl rfl rfl ?_
            refine x_1 (p' := 70) hC rfl rfl rfl rfl ?_
            refine x_stI8 (p' := 71) hC rfl rfl rfl ?_
            refine lp_m_comes hO hs (f := f) (g := rFr (X 1) f 1) (c := rFr (X 1) f 2) (P := rOf (X 1) (rFr (X 1) f 1) 4) (sl := _) (lt := _) hf hg (by omega) (fun hl => ?_) (fun hl hd => ?_) (fun hl hd => ?_) _ 0 0 (Nat.lt_succ_self _) (by omega) (b2i_f (fun ⟨q, h0, h1, _⟩ => by omega)).symm
            all_goals first
              | (exfalso; omega)
              | (have e1 : rSlot (X 1) (rFr (X 1) f 1) (rFr (X 1) f 2) (rFr (X 1) f 3) = rFr (X 1) f 3 := by
                    unfold rSlot rOff
                    exact cif_t (by omega)
                 refine comes_fin K ?_
                 unfold rComes
                 rw [e1]
                 unfold rLate rOff
                 first
                   | rw [cif_t (by omega)]
                   | (rw [cif_f (by omega)]; first | rw [cif_t hd] | rw [cif_f hd]))
              | (have e1 : rSlot (X 1) (rFr (X 1) f 1) (rFr (X 1) f 2) (rFr (X 1) f 3) = (rFr (X 1) f 3 + rOf (X 1) (rFr (X 1) f 1) 4 - 1) / rOf (X 1) (rFr (X 1) f 1) 4 * rOf (X 1) (rFr (X 1) f 1) 4 := by
                    unfold rSlot rOff
                    exact cif_f (by omega)
                 refine comes_fin K ?_
                 unfold rComes
                 rw [e1]
                 unfold rLate rOff
                 first
                   | rw [cif_t (by omega)]
                   | (rw [cif_f (by omega)]; first | rw [cif_t hd] | rw [cif_f hd]))
          · refine x_1 (p' := 58) hC rfl rfl rfl rfl ?_
            refine x_1 (p' := 59) hC rfl rfl rfl rfl ?_
            refine x_1 (p' := 60) hC rfl rfl rfl rfl ?_
            refine x_1 (p' := 61) hC rfl rfl rfl rfl ?_
            refine x_cIV2 (p' := 62) (n := 3) hC rfl rfl rfl rfl rfl (hO.ty) ?_
            refine sp_m_of hO (by omega) (by omega) ?_
            refine x_icgt (p' := 63) hC rfl rfl (fun c62 => ?_) (fun c62 => ?_)
            · refine x_1 (p' := 66) hC rfl rfl rfl rfl ?_
              refine x_stI6 (p' := 67) hC rfl rfl rfl ?_
              refine x_1 (p' := 68) hC rfl rfl rfl rfl ?_
              refine x_stI7 (p' := 69) hC rfl rfl rfl ?_
              refine x_1 (p' := 70) hC rfl rfl rfl rfl ?_
              refine x_stI8 (p' := 71) hC rfl rfl rfl ?_
              refine lp_m_comes hO hs (f := f) (g := rFr (X 1) f 1) (c := rFr (X 1) f 2) (P := rOf (X 1) (rFr (X 1) f 1) 4) (sl := _) (lt := _) hf hg (by omega) (fun hl => ?_) (fun hl hd => ?_) (fun hl hd => ?_) _ 0 0 (Nat.lt_succ_self _) (by omega) (b2i_f (fun ⟨q, h0, h1, _⟩ => by omega)).symm
              all_goals first
                | (exfalso; omega)
                | (have e1 : rSlot (X 1) (rFr (X 1) f 1) (rFr (X 1) f 2) (rFr (X 1) f 3) = rFr (X 1) f 3 := by
                      unfold rSlot rOff
                      exact cif_t (by omega)
                   refine comes_fin K ?_
                   unfold rComes
                   rw [e1]
                   unfold rLate rOff
                   first
                     | rw [cif_t (by omega)]
                     | (rw [cif_f (by omega)]; first | rw [cif_t hd] | rw [cif_f hd]))
                | (have e1 : rSlot (X 1) (rFr (X 1) f 1) (rFr (X 1) f 2) (rFr (X 1) f 3) = (rFr (X 1) f 3 + rOf (X 1) (rFr (X 1) f 1) 4 - 1) / rOf (X 1) (rFr (X 1) f 1) 4 * rOf (X 1) (rFr (X 1) f 1) 4 := by
                      unfold rSlot rOff
                      exact cif_f (by omega)
                   refine comes_fin K ?_
                   unfold rComes
                   rw [e1]
                   unfold rLate rOff
                   first
                     | rw [cif_t (by omega)]
                     | (rw [cif_f (by omega)]; first | rw [cif_t hd] | rw [cif_f hd]))
            · refine x_1 (p' := 64) hC rfl rfl rfl rfl ?_
              refine x_1 (p' := 66) hC rfl rfl rfl rfl ?_
              refine x_stI6 (p' := 67) hC rfl rfl rfl ?_
              refine x_1 (p' := 68) hC rfl rfl rfl rfl ?_
              refine x_stI7 (p' := 69) hC rfl rfl rfl ?_
              refine x_1 (p' := 70) hC rfl rfl rfl rfl ?_
              refine x_stI8 (p' := 71) hC rfl rfl rfl ?_
              refine lp_m_comes hO hs (f := f) (g := rFr (X 1) f 1) (c := rFr (X 1) f 2) (P := rOf (X 1) (rFr (X 1) f 1) 4) (sl := _) (lt := _) hf hg (by omega) (fun hl => ?_) (fun hl hd => ?_) (fun hl hd => ?_) _ 0 0 (Nat.lt_succ_self _) (by omega) (b2i_f (fun ⟨q, h0, h1, _⟩ => by omega)).symm
              all_goals first
                | (exfalso; omega)
                | (have e1 : rSlot (X 1) (rFr (X 1) f 1) (rFr (X 1) f 2) (rFr (X 1) f 3) = rFr (X 1) f 3 := by
                      unfold rSlot rOff
                      exact cif_t (by omega)
                   refine comes_fin K ?_
                   unfold rComes
                   rw [e1]
                   unfold rLate rOff
                   first
                     | rw [cif_t (by omega)]
                     | (rw [cif_f (by omega)]; first | rw [cif_t hd] | rw [cif_f hd]))
                | (have e1 : rSlot (X 1) (rFr (X 1) f 1) (rFr (X 1) f 2) (rFr (X 1) f 3) = (rFr (X 1) f 3 + rOf (X 1) (rFr (X 1) f 1) 4 - 1) / rOf (X 1) (rFr (X 1) f 1) 4 * rOf (X 1) (rFr (X 1) f 1) 4 := by
                      unfold rSlot rOff
                      exact cif_f (by omega)
                   refine comes_fin K ?_
                   unfold rComes
                   rw [e1]
                   unfold rLate rOff
                   first
                     | rw [cif_t (by omega)]
                     | (rw [cif_f (by omega)]; first | rw [cif_t hd] | rw [cif_f hd]))
        · refine x_1 (p' := 49) hC rfl rfl rfl rfl ?_
          refine x_1 (p' := 50) hC rfl rfl rfl rfl ?_
          refine x_cIV1 (p' := 51) (n := 9) hC rfl rfl rfl rfl rfl (hO.ty) ?_
          refine sp_m_isOn hO (by omega) ?_
          refine x_ifeq (p' := 52) hC rfl rfl (fun c51 => ?_) (fun c51 => ?_)
          · have c51 := b2i_0.mp c51
            refine x_1 (p' := 64) hC rfl rfl rfl rfl ?_
            refine x_1 (p' := 66) hC rfl rfl rfl rfl ?_
            refine x_stI6 (p' := 67) hC rfl rfl rfl ?_
            refine x_1 (p' := 68) hC rfl rfl rfl rfl ?_
            refine x_stI7 (p' := 69) hC rfl rfl rfl ?_
            refine x_1 (p' := 70) hC rfl rfl rfl rfl ?_
            refine x_stI8 (p' := 71) hC rfl rfl rfl ?_
            refine lp_m_comes hO hs (f := f) (g := rFr (X 1) f 1) (c := rFr (X 1) f 2) (P := rOf (X 1) (rFr (X 1) f 1) 4) (sl := _) (lt := _) hf hg (by omega) (fun hl => ?_) (fun hl hd => ?_) (fun hl hd => ?_) _ 0 0 (Nat.lt_succ_self _) (by omega) (b2i_f (fun ⟨q, h0, h1, _⟩ => by omega)).symm
            all_goals first
              | (exfalso; omega)
              | (have e1 : rSlot (X 1) (rFr (X 1) f 1) (rFr (X 1) f 2) (rFr (X 1) f 3) = rFr (X 1) f 3 := by
                    unfold rSlot rOff
                    exact cif_t (by omega)
                 refine comes_fin K ?_
                 unfold rComes
                 rw [e1]
                 unfold rLate rOff
                 first
                   | rw [cif_t (by omega)]
                   | (rw [cif_f (by omega)]; first | rw [cif_t hd] | rw [cif_f hd]))
              | (have e1 : rSlot (X 1) (rFr (X 1) f 1) (rFr (X 1) f 2) (rFr (X 1) f 3) = (rFr (X 1) f 3 + rOf (X 1) (rFr (X 1) f 1) 4 - 1) / rOf (X 1) (rFr (X 1) f 1) 4 * rOf (X 1) (rFr (X 1) f 1) 4 := by
                    unfold rSlot rOff
                    exact cif_f (by omega)
                 refine comes_fin K ?_
                 unfold rComes
                 rw [e1]
                 unfold rLate rOff
                 first
                   | rw [cif_t (by omega)]
                   | (rw [cif_f (by omega)]; first | rw [cif_t hd] | rw [cif_f hd]))
          · have c51 := b2i_n0.mp c51
            refine x_1 (p' := 53) hC rfl rfl rfl rfl ?_
            refine x_1 (p' := 54) hC rfl rfl rfl rfl ?_
            refine x_1 (p' := 55) hC rfl rfl rfl rfl ?_
            refine x_cIV2 (p' := 56) (n := 3) hC rfl rfl rfl rfl rfl (hO.ty) ?_
            refine sp_m_of hO (by omega) (by omega) ?_
            refine x_ifle (p' := 57) hC rfl rfl (fun c56 => ?_) (fun c56 => ?_)
            · refine x_1 (p' := 66) hC rfl rfl rfl rfl ?_
              refine x_stI6 (p' := 67) hC rfl rfl rfl ?_
              refine x_1 (p' := 68) hC rfl rfl rfl rfl ?_
              refine x_stI7 (p' := 69) hC rfl rfl rfl ?_
              refine x_1 (p' := 70) hC rfl rfl rfl rfl ?_
              refine x_stI8 (p' := 71) hC rfl rfl rfl ?_
              refine lp_m_comes hO hs (f := f) (g := rFr (X 1) f 1) (c := rFr (X 1) f 2) (P := rOf (X 1) (rFr (X 1) f 1) 4) (sl := _) (lt := _) hf hg (by omega) (fun hl => ?_) (fun hl hd => ?_) (fun hl hd => ?_) _ 0 0 (Nat.lt_succ_self _) (by omega) (b2i_f (fun ⟨q, h0, h1, _⟩ => by omega)).symm
              all_goals first
                | (exfalso; omega)
                | (have e1 : rSlot (X 1) (rFr (X 1) f 1) (rFr (X 1) f 2) (rFr (X 1) f 3) = rFr (X 1) f 3 := by
                      unfold rSlot rOff
                      exact cif_t (by omega)
                   refine comes_fin K ?_
                   unfold rComes
                   rw [e1]
                   unfold rLate rOff
                   first
                     | rw [cif_t (by omega)]
                     | (rw [cif_f (by omega)]; first | rw [cif_t hd] | rw [cif_f hd]))
                | (have e1 : rSlot (X 1) (rFr (X 1) f 1) (rFr (X 1) f 2) (rFr (X 1) f 3) = (rFr (X 1) f 3 + rOf (X 1) (rFr (X 1) f 1) 4 - 1) / rOf (X 1) (rFr (X 1) f 1) 4 * rOf (X 1) (rFr (X 1) f 1) 4 := by
                      unfold rSlot rOff
                      exact cif_f (by omega)
                   refine comes_fin K ?_
                   unfold rComes
                   rw [e1]
                   unfold rLate rOff
                   first
                     | rw [cif_t (by omega)]
                     | (rw [cif_f (by omega)]; first | rw [cif_t hd] | rw [cif_f hd]))
            · refine x_1 (p' := 58) hC rfl rfl rfl rfl ?_
              refine x_1 (p' := 59) hC rfl rfl rfl rfl ?_
              refine x_1 (p' := 60) hC rfl rfl rfl rfl ?_
              refine x_1 (p' := 61) hC rfl rfl rfl rfl ?_
              refine x_cIV2 (p' := 62) (n := 3) hC rfl rfl rfl rfl rfl (hO.ty) ?_
              refine sp_m_of hO (by omega) (by omega) ?_
              refine x_icgt (p' := 63) hC rfl rfl (fun c62 => ?_) (fun c62 => ?_)
              · refine x_1 (p' := 66) hC rfl rfl rfl rfl ?_
                refine x_stI6 (p' := 67) hC rfl rfl rfl ?_
                refine x_1 (p' := 68) hC rfl rfl rfl rfl ?_
                refine x_stI7 (p' := 69) hC rfl rfl rfl ?_
                refine x_1 (p' := 70) hC rfl rfl rfl rfl ?_
                refine x_stI8 (p' := 71) hC rfl rfl rfl ?_
                refine lp_m_comes hO hs (f := f) (g := rFr (X 1) f 1) (c := rFr (X 1) f 2) (P := rOf (X 1) (rFr (X 1) f 1) 4) (sl := _) (lt := _) hf hg (by omega) (fun hl => ?_) (fun hl hd => ?_) (fun hl hd => ?_) _ 0 0 (Nat.lt_succ_self _) (by omega) (b2i_f (fun ⟨q, h0, h1, _⟩ => by omega)).symm
                all_goals first
                  | (exfalso; omega)
                  | (have e1 : rSlot (X 1) (rFr (X 1) f 1) (rFr (X 1) f 2) (rFr (X 1) f 3) = rFr (X 1) f 3 := by
                        unfold rSlot rOff
                        exact cif_t (by omega)
                     refine comes_fin K ?_
                     unfold rComes
                     rw [e1]
                     unfold rLate rOff
                     first
                       | rw [cif_t (by omega)]
                       | (rw [cif_f (by omega)]; first | rw [cif_t hd] | rw [cif_f hd]))
                  | (have e1 : rSlot (X 1) (rFr (X 1) f 1) (rFr (X 1) f 2) (rFr (X 1) f 3) = (rFr (X 1) f 3 + rOf (X 1) (rFr (X 1) f 1) 4 - 1) / rOf (X 1) (rFr (X 1) f 1) 4 * rOf (X 1) (rFr (X 1) f 1) 4 := by
                        unfold rSlot rOff
                        exact cif_f (by omega)
                     refine comes_fin K ?_
                     unfold rComes
                     rw [e1]
                     unfold rLate rOff
                     first
                       | rw [cif_t (by omega)]
                       | (rw [cif_f (by omega)]; first | rw [cif_t hd] | rw [cif_f hd]))
              · refine x_1 (p' := 64) hC rfl rfl rfl rfl ?_
                refine x_1 (p' := 66) hC rfl rfl rfl rfl ?_
                refine x_stI6 (p' := 67) hC rfl rfl rfl ?_
                refine x_1 (p' := 68) hC rfl rfl rfl rfl ?_
                refine x_stI7 (p' := 69) hC rfl rfl rfl ?_
                refine x_1 (p' := 70) hC rfl rfl rfl rfl ?_
                refine x_stI8 (p' := 71) hC rfl rfl rfl ?_
                refine lp_m_comes hO hs (f := f) (g := rFr (X 1) f 1) (c := rFr (X 1) f 2) (P := rOf (X 1) (rFr (X 1) f 1) 4) (sl := _) (lt := _) hf hg (by omega) (fun hl => ?_) (fun hl hd => ?_) (fun hl hd => ?_) _ 0 0 (Nat.lt_succ_self _) (by omega) (b2i_f (fun ⟨q, h0, h1, _⟩ => by omega)).symm
                all_goals first
                  | (exfalso; omega)
                  | (have e1 : rSlot (X 1) (rFr (X 1) f 1) (rFr (X 1) f 2) (rFr (X 1) f 3) = rFr (X 1) f 3 := by
                        unfold rSlot rOff
                        exact cif_t (by omega)
                     refine comes_fin K ?_
                     unfold rComes
                     rw [e1]
                     unfold rLate rOff
                     first
                       | rw [cif_t (by omega)]
                       | (rw [cif_f (by omega)]; first | rw [cif_t hd] | rw [cif_f hd]))
                  | (have e1 : rSlot (X 1) (rFr (X 1) f 1) (rFr (X 1) f 2) (rFr (X 1) f 3) = (rFr (X 1) f 3 + rOf (X 1) (rFr (X 1) f 1) 4 - 1) / rOf (X 1) (rFr (X 1) f 1) 4 * rOf (X 1) (rFr (X 1) f 1) 4 := by
                        unfold rSlot rOff
                        exact cif_f (by omega)
                     refine comes_fin K ?_
                     unfold rComes
                     rw [e1]
                     unfold rLate rOff
                     first
                       | rw [cif_t (by omega)]
                       | (rw [cif_f (by omega)]; first | rw [cif_t hd] | rw [cif_f hd]))
      · have c26 := b2i_0.mp c26
        refine x_1 (p' := 28) hC rfl rfl rfl rfl ?_
        refine x_1 (p' := 29) hC rfl rfl rfl rfl ?_
        refine x_1 (p' := 30) hC rfl rfl rfl rfl ?_
        refine x_cIV2 (p' := 31) (n := 5) hC rfl rfl rfl rfl rfl (hO.ty) ?_
        refine sp_m_fr hO (by omega) (by omega) ?_
        refine x_1 (p' := 44) hC rfl rfl rfl rfl ?_
        refine x_stI5 (p' := 45) hC rfl rfl rfl ?_
        refine x_1 (p' := 46) hC rfl rfl rfl rfl ?_
        refine x_1 (p' := 47) hC rfl rfl rfl rfl ?_
        refine x_icge (p' := 48) hC rfl rfl (fun c47 => ?_) (fun c47 => ?_)
        · refine x_1 (p' := 53) hC rfl rfl rfl rfl ?_
          refine x_1 (p' := 54) hC rfl rfl rfl rfl ?_
          refine x_1 (p' := 55) hC rfl rfl rfl rfl ?_
          refine x_cIV2 (p' := 56) (n := 3) hC rfl rfl rfl rfl rfl (hO.ty) ?_
          refine sp_m_of hO (by omega) (by omega) ?_
          refine x_ifle (p' := 57) hC rfl rfl (fun c56 => ?_) (fun c56 => ?_)
          · refine x_1 (p' := 66) hC rfl rfl rfl rfl ?_
            refine x_stI6 (p' := 67) hC rfl rfl rfl ?_
            refine x_1 (p' := 68) hC rfl rfl rfl rfl ?_
            refine x_stI7 (p' := 69) hC rfl rfl rfl ?_
            refine x_1 (p' := 70) hC rfl rfl rfl rfl ?_
            refine x_stI8 (p' := 71) hC rfl rfl rfl ?_
            refine lp_m_comes hO hs (f := f) (g := rFr (X 1) f 1) (c := rFr (X 1) f 2) (P := rOf (X 1) (rFr (X 1) f 1) 4) (sl := _) (lt := _) hf hg (by omega) (fun hl => ?_) (fun hl hd => ?_) (fun hl hd => ?_) _ 0 0 (Nat.lt_succ_self _) (by omega) (b2i_f (fun ⟨q, h0, h1, _⟩ => by omega)).symm
            all_goals first
              | (exfalso; omega)
              | (have e1 : rSlot (X 1) (rFr (X 1) f 1) (rFr (X 1) f 2) (rFr (X 1) f 3) = rFr (X 1) f 3 := by
                    unfold rSlot rOff
                    exact cif_t (by omega)
                 refine comes_fin K ?_
                 unfold rComes
                 rw [e1]
                 unfold rLate rOff
                 first
                   | rw [cif_t (by omega)]
                   | (rw [cif_f (by omega)]; first | rw [cif_t hd] | rw [cif_f hd]))
              | (have e1 : rSlot (X 1) (rFr (X 1) f 1) (rFr (X 1) f 2) (rFr (X 1) f 3) = (rFr (X 1) f 3 + rOf (X 1) (rFr (X 1) f 1) 4 - 1) / rOf (X 1) (rFr (X 1) f 1) 4 * rOf (X 1) (rFr (X 1) f 1) 4 := by
                    unfold rSlot rOff
                    exact cif_f (by omega)
                 refine comes_fin K ?_
                 unfold rComes
                 rw [e1]
                 unfold rLate rOff
                 first
                   | rw [cif_t (by omega)]
                   | (rw [cif_f (by omega)]; first | rw [cif_t hd] | rw [cif_f hd]))
          · refine x_1 (p' := 58) hC rfl rfl rfl rfl ?_
            refine x_1 (p' := 59) hC rfl rfl rfl rfl ?_
            refine x_1 (p' := 60) hC rfl rfl rfl rfl ?_
            refine x_1 (p' := 61) hC rfl rfl rfl rfl ?_
            refine x_cIV2 (p' := 62) (n := 3) hC rfl rfl rfl rfl rfl (hO.ty) ?_
            refine sp_m_of hO (by omega) (by omega) ?_
            refine x_icgt (p' := 63) hC rfl rfl (fun c62 => ?_) (fun c62 => ?_)
            · refine x_1 (p' := 66) hC rfl rfl rfl rfl ?_
              refine x_stI6 (p' := 67) hC rfl rfl rfl ?_
              refine x_1 (p' := 68) hC rfl rfl rfl rfl ?_
              refine x_stI7 (p' := 69) hC rfl rfl rfl ?_
              refine x_1 (p' := 70) hC rfl rfl rfl rfl ?_
              refine x_stI8 (p' := 71) hC rfl rfl rfl ?_
              refine lp_m_comes hO hs (f := f) (g := rFr (X 1) f 1) (c := rFr (X 1) f 2) (P := rOf (X 1) (rFr (X 1) f 1) 4) (sl := _) (lt := _) hf hg (by omega) (fun hl => ?_) (fun hl hd => ?_) (fun hl hd => ?_) _ 0 0 (Nat.lt_succ_self _) (by omega) (b2i_f (fun ⟨q, h0, h1, _⟩ => by omega)).symm
              all_goals first
                | (exfalso; omega)
                | (have e1 : rSlot (X 1) (rFr (X 1) f 1) (rFr (X 1) f 2) (rFr (X 1) f 3) = rFr (X 1) f 3 := by
                      unfold rSlot rOff
                      exact cif_t (by omega)
                   refine comes_fin K ?_
                   unfold rComes
                   rw [e1]
                   unfold rLate rOff
                   first
                     | rw [cif_t (by omega)]
                     | (rw [cif_f (by omega)]; first | rw [cif_t hd] | rw [cif_f hd]))
                | (have e1 : rSlot (X 1) (rFr (X 1) f 1) (rFr (X 1) f 2) (rFr (X 1) f 3) = (rFr (X 1) f 3 + rOf (X 1) (rFr (X 1) f 1) 4 - 1) / rOf (X 1) (rFr (X 1) f 1) 4 * rOf (X 1) (rFr (X 1) f 1) 4 := by
                      unfold rSlot rOff
                      exact cif_f (by omega)
                   refine comes_fin K ?_
                   unfold rComes
                   rw [e1]
                   unfold rLate rOff
                   first
                     | rw [cif_t (by omega)]
                     | (rw [cif_f (by omega)]; first | rw [cif_t hd] | rw [cif_f hd]))
            · refine x_1 (p' := 64) hC rfl rfl rfl rfl ?_
              refine x_1 (p' := 66) hC rfl rfl rfl rfl ?_
              refine x_stI6 (p' := 67) hC rfl rfl rfl ?_
              refine x_1 (p' := 68) hC rfl rfl rfl rfl ?_
              refine x_stI7 (p' := 69) hC rfl rfl rfl ?_
              refine x_1 (p' := 70) hC rfl rfl rfl rfl ?_
              refine x_stI8 (p' := 71) hC rfl rfl rfl ?_
              refine lp_m_comes hO hs (f := f) (g := rFr (X 1) f 1) (c := rFr (X 1) f 2) (P := rOf (X 1) (rFr (X 1) f 1) 4) (sl := _) (lt := _) hf hg (by omega) (fun hl => ?_) (fun hl hd => ?_) (fun hl hd => ?_) _ 0 0 (Nat.lt_succ_self _) (by omega) (b2i_f (fun ⟨q, h0, h1, _⟩ => by omega)).symm
              all_goals first
                | (exfalso; omega)
                | (have e1 : rSlot (X 1) (rFr (X 1) f 1) (rFr (X 1) f 2) (rFr (X 1) f 3) = rFr (X 1) f 3 := by
                      unfold rSlot rOff
                      exact cif_t (by omega)
                   refine comes_fin K ?_
                   unfold rComes
                   rw [e1]
                   unfold rLate rOff
                   first
                     | rw [cif_t (by omega)]
                     | (rw [cif_f (by omega)]; first | rw [cif_t hd] | rw [cif_f hd]))
                | (have e1 : rSlot (X 1) (rFr (X 1) f 1) (rFr (X 1) f 2) (rFr (X 1) f 3) = (rFr (X 1) f 3 + rOf (X 1) (rFr (X 1) f 1) 4 - 1) / rOf (X 1) (rFr (X 1) f 1) 4 * rOf (X 1) (rFr (X 1) f 1) 4 := by
                      unfold rSlot rOff
                      exact cif_f (by omega)
                   refine comes_fin K ?_
                   unfold rComes
                   rw [e1]
                   unfold rLate rOff
                   first
                     | rw [cif_t (by omega)]
                     | (rw [cif_f (by omega)]; first | rw [cif_t hd] | rw [cif_f hd]))
        · refine x_1 (p' := 49) hC rfl rfl rfl rfl ?_
          refine x_1 (p' := 50) hC rfl rfl rfl rfl ?_
          refine x_cIV1 (p' := 51) (n := 9) hC rfl rfl rfl rfl rfl (hO.ty) ?_
          refine sp_m_isOn hO (by omega) ?_
          refine x_ifeq (p' := 52) hC rfl rfl (fun c51 => ?_) (fun c51 => ?_)
          · have c51 := b2i_0.mp c51
            refine x_1 (p' := 64) hC rfl rfl rfl rfl ?_
            refine x_1 (p' := 66) hC rfl rfl rfl rfl ?_
            refine x_stI6 (p' := 67) hC rfl rfl rfl ?_
            refine x_1 (p' := 68) hC rfl rfl rfl rfl ?_
            refine x_stI7 (p' := 69) hC rfl rfl rfl ?_
            refine x_1 (p' := 70) hC rfl rfl rfl rfl ?_
            refine x_stI8 (p' := 71) hC rfl rfl rfl ?_
            refine lp_m_comes hO hs (f := f) (g := rFr (X 1) f 1) (c := rFr (X 1) f 2) (P := rOf (X 1) (rFr (X 1) f 1) 4) (sl := _) (lt := _) hf hg (by omega) (fun hl => ?_) (fun hl hd => ?_) (fun hl hd => ?_) _ 0 0 (Nat.lt_succ_self _) (by omega) (b2i_f (fun ⟨q, h0, h1, _⟩ => by omega)).symm
            all_goals first
              | (exfalso; omega)
              | (have e1 : rSlot (X 1) (rFr (X 1) f 1) (rFr (X 1) f 2) (rFr (X 1) f 3) = rFr (X 1) f 3 := by
                    unfold rSlot rOff
                    exact cif_t (by omega)
                 refine comes_fin K ?_
                 unfold rComes
                 rw [e1]
                 unfold rLate rOff
                 first
                   | rw [cif_t (by omega)]
                   | (rw [cif_f (by omega)]; first | rw [cif_t hd] | rw [cif_f hd]))
              | (have e1 : rSlot (X 1) (rFr (X 1) f 1) (rFr (X 1) f 2) (rFr (X 1) f 3) = (rFr (X 1) f 3 + rOf (X 1) (rFr (X 1) f 1) 4 - 1) / rOf (X 1) (rFr (X 1) f 1) 4 * rOf (X 1) (rFr (X 1) f 1) 4 := by
                    unfold rSlot rOff
                    exact cif_f (by omega)
                 refine comes_fin K ?_
                 unfold rComes
                 rw [e1]
                 unfold rLate rOff
                 first
                   | rw [cif_t (by omega)]
                   | (rw [cif_f (by omega)]; first | rw [cif_t hd] | rw [cif_f hd]))
          · have c51 := b2i_n0.mp c51
            refine x_1 (p' := 53) hC rfl rfl rfl rfl ?_
            refine x_1 (p' := 54) hC rfl rfl rfl rfl ?_
            refine x_1 (p' := 55) hC rfl rfl rfl rfl ?_
            refine x_cIV2 (p' := 56) (n := 3) hC rfl rfl rfl rfl rfl (hO.ty) ?_
            refine sp_m_of hO (by omega) (by omega) ?_
            refine x_ifle (p' := 57) hC rfl rfl (fun c56 => ?_) (fun c56 => ?_)
            · refine x_1 (p' := 66) hC rfl rfl rfl rfl ?_
              refine x_stI6 (p' := 67) hC rfl rfl rfl ?_
              refine x_1 (p' := 68) hC rfl rfl rfl rfl ?_
              refine x_stI7 (p' := 69) hC rfl rfl rfl ?_
              refine x_1 (p' := 70) hC rfl rfl rfl rfl ?_
              refine x_stI8 (p' := 71) hC rfl rfl rfl ?_
              refine lp_m_comes hO hs (f := f) (g := rFr (X 1) f 1) (c := rFr (X 1) f 2) (P := rOf (X 1) (rFr (X 1) f 1) 4) (sl := _) (lt := _) hf hg (by omega) (fun hl => ?_) (fun hl hd => ?_) (fun hl hd => ?_) _ 0 0 (Nat.lt_succ_self _) (by omega) (b2i_f (fun ⟨q, h0, h1, _⟩ => by omega)).symm
              all_goals first
                | (exfalso; omega)
                | (have e1 : rSlot (X 1) (rFr (X 1) f 1) (rFr (X 1) f 2) (rFr (X 1) f 3) = rFr (X 1) f 3 := by
                      unfold rSlot rOff
                      exact cif_t (by omega)
                   refine comes_fin K ?_
                   unfold rComes
                   rw [e1]
                   unfold rLate rOff
                   first
                     | rw [cif_t (by omega)]
                     | (rw [cif_f (by omega)]; first | rw [cif_t hd] | rw [cif_f hd]))
                | (have e1 : rSlot (X 1) (rFr (X 1) f 1) (rFr (X 1) f 2) (rFr (X 1) f 3) = (rFr (X 1) f 3 + rOf (X 1) (rFr (X 1) f 1) 4 - 1) / rOf (X 1) (rFr (X 1) f 1) 4 * rOf (X 1) (rFr (X 1) f 1) 4 := by
                      unfold rSlot rOff
                      exact cif_f (by omega)
                   refine comes_fin K ?_
                   unfold rComes
                   rw [e1]
                   unfold rLate rOff
                   first
                     | rw [cif_t (by omega)]
                     | (rw [cif_f (by omega)]; first | rw [cif_t hd] | rw [cif_f hd]))
            · refine x_1 (p' := 58) hC rfl rfl rfl rfl ?_
              refine x_1 (p' := 59) hC rfl rfl rfl rfl ?_
              refine x_1 (p' := 60) hC rfl rfl rfl rfl ?_
              refine x_1 (p' := 61) hC rfl rfl rfl rfl ?_
              refine x_cIV2 (p' := 62) (n := 3) hC rfl rfl rfl rfl rfl (hO.ty) ?_
              refine sp_m_of hO (by omega) (by omega) ?_
              refine x_icgt (p' := 63) hC rfl rfl (fun c62 => ?_) (fun c62 => ?_)
              · refine x_1 (p' := 66) hC rfl rfl rfl rfl ?_
                refine x_stI6 (p' := 67) hC rfl rfl rfl ?_
                refine x_1 (p' := 68) hC rfl rfl rfl rfl ?_
                refine x_stI7 (p' := 69) hC rfl rfl rfl ?_
                refine x_1 (p' := 70) hC rfl rfl rfl rfl ?_
                refine x_stI8 (p' := 71) hC rfl rfl rfl ?_
                refine lp_m_comes hO hs (f := f) (g := rFr (X 1) f 1) (c := rFr (X 1) f 2) (P := rOf (X 1) (rFr (X 1) f 1) 4) (sl := _) (lt := _) hf hg (by omega) (fun hl => ?_) (fun hl hd => ?_) (fun hl hd => ?_) _ 0 0 (Nat.lt_succ_self _) (by omega) (b2i_f (fun ⟨q, h0, h1, _⟩ => by omega)).symm
                all_goals first
                  | (exfalso; omega)
                  | (have e1 : rSlot (X 1) (rFr (X 1) f 1) (rFr (X 1) f 2) (rFr (X 1) f 3) = rFr (X 1) f 3 := by
                        unfold rSlot rOff
                        exact cif_t (by omega)
                     refine comes_fin K ?_
                     unfold rComes
                     rw [e1]
                     unfold rLate rOff
                     first
                       | rw [cif_t (by omega)]
                       | (rw [cif_f (by omega)]; first | rw [cif_t hd] | rw [cif_f hd]))
                  | (have e1 : rSlot (X 1) (rFr (X 1) f 1) (rFr (X 1) f 2) (rFr (X 1) f 3) = (rFr (X 1) f 3 + rOf (X 1) (rFr (X 1) f 1) 4 - 1) / rOf (X 1) (rFr (X 1) f 1) 4 * rOf (X 1) (rFr (X 1) f 1) 4 := by
                        unfold rSlot rOff
                        exact cif_f (by omega)
                     refine comes_fin K ?_
                     unfold rComes
                     rw [e1]
                     unfold rLate rOff
                     first
                       | rw [cif_t (by omega)]
                       | (rw [cif_f (by omega)]; first | rw [cif_t hd] | rw [cif_f hd]))
              · refine x_1 (p' := 64) hC rfl rfl rfl rfl ?_
                refine x_1 (p' := 66) hC rfl rfl rfl rfl ?_
                refine x_stI6 (p' := 67) hC rfl rfl rfl ?_
                refine x_1 (p' := 68) hC rfl rfl rfl rfl ?_
                refine x_stI7 (p' := 69) hC rfl rfl rfl ?_
                refine x_1 (p' := 70) hC rfl rfl rfl rfl ?_
                refine x_stI8 (p' := 71) hC rfl rfl rfl ?_
                refine lp_m_comes hO hs (f := f) (g := rFr (X 1) f 1) (c := rFr (X 1) f 2) (P := rOf (X 1) (rFr (X 1) f 1) 4) (sl := _) (lt := _) hf hg (by omega) (fun hl => ?_) (fun hl hd => ?_) (fun hl hd => ?_) _ 0 0 (Nat.lt_succ_self _) (by omega) (b2i_f (fun ⟨q, h0, h1, _⟩ => by omega)).symm
                all_goals first
                  | (exfalso; omega)
                  | (have e1 : rSlot (X 1) (rFr (X 1) f 1) (rFr (X 1) f 2) (rFr (X 1) f 3) = rFr (X 1) f 3 := by
                        unfold rSlot rOff
                        exact cif_t (by omega)
                     refine comes_fin K ?_
                     unfold rComes
                     rw [e1]
                     unfold rLate rOff
                     first
                       | rw [cif_t (by omega)]
                       | (rw [cif_f (by omega)]; first | rw [cif_t hd] | rw [cif_f hd]))
                  | (have e1 : rSlot (X 1) (rFr (X 1) f 1) (rFr (X 1) f 2) (rFr (X 1) f 3) = (rFr (X 1) f 3 + rOf (X 1) (rFr (X 1) f 1) 4 - 1) / rOf (X 1) (rFr (X 1) f 1) 4 * rOf (X 1) (rFr (X 1) f 1) 4 := by
                        unfold rSlot rOff
                        exact cif_f (by omega)
                     refine comes_fin K ?_
                     unfold rComes
                     rw [e1]
                     unfold rLate rOff
                     first
                       | rw [cif_t (by omega)]
                       | (rw [cif_f (by omega)]; first | rw [cif_t hd] | rw [cif_f hd]))
end
