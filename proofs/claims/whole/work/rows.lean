section
-- ===== PART A: goes FIRST, ahead of the names: the tables' words, and 'selects' of the private methods out of them =====
/-- a private method of a class that the tables say can be made, by its rows of tables_1 -/
def lw_okq (q : MethodName × Nat) : Prop := (q.1.cls ≠ "java/lang/invoke/MethodHandle" ∧ q.1.cls ≠ "java/lang/invoke/VarHandle") ∧ Cond.instantiable q.1.cls q.2 ∈ tables_1 ∧ Cond.privateMethod q.1 ∈ tables_1 ∧ Cond.instanceMethod q.1 ∈ tables_1
theorem lw_p0 : lw_okq (⟨"RopeSeals$House", "knows", "(I)Z"⟩, 11) := ⟨⟨by decide +kernel, by decide +kernel⟩, List.mem_of_getElem? (i := 18) (by decide +kernel), List.mem_of_getElem? (i := 138) (by decide +kernel), List.mem_of_getElem? (i := 139) (by decide +kernel)⟩
theorem lw_p1 : lw_okq (⟨"RopeSeals$House", "rightSeal", "(I)I"⟩, 11) := ⟨⟨by decide +kernel, by decide +kernel⟩, List.mem_of_getElem? (i := 18) (by decide +kernel), List.mem_of_getElem? (i := 145) (by decide +kernel), List.mem_of_getElem? (i := 146) (by decide +kernel)⟩
theorem lw_p2 : lw_okq (⟨"RopeSeals$House", "sealFor", "(II)I"⟩, 11) := ⟨⟨by decide +kernel, by decide +kernel⟩, List.mem_of_getElem? (i := 18) (by decide +kernel), List.mem_of_getElem? (i := 149) (by decide +kernel), List.mem_of_getElem? (i := 150) (by decide +kernel)⟩
theorem lw_p3 : lw_okq (⟨"RopeSeals", "recorded", "(I)I"⟩, 6) := ⟨⟨by decide +kernel, by decide +kernel⟩, List.mem_of_getElem? (i := 10) (by decide +kernel), List.mem_of_getElem? (i := 153) (by decide +kernel), List.mem_of_getElem? (i := 154) (by decide +kernel)⟩
theorem lw_p4 : lw_okq (⟨"RopeSeals$History", "dropOldest", "()V"⟩, 2) := ⟨⟨by decide +kernel, by decide +kernel⟩, List.mem_of_getElem? (i := 59) (by decide +kernel), List.mem_of_getElem? (i := 161) (by decide +kernel), List.mem_of_getElem? (i := 162) (by decide +kernel)⟩
theorem lw_p5 : lw_okq (⟨"RopeSeals$House", "isWhole", "(I)Z"⟩, 11) := ⟨⟨by decide +kernel, by decide +kernel⟩, List.mem_of_getElem? (i := 18) (by decide +kernel), List.mem_of_getElem? (i := 188) (by decide +kernel), List.mem_of_getElem? (i := 189) (by decide +kernel)⟩
theorem lw_p6 : lw_okq (⟨"RopeSeals$House", "ownFine", "(II)I"⟩, 11) := ⟨⟨by decide +kernel, by decide +kernel⟩, List.mem_of_getElem? (i := 18) (by decide +kernel), List.mem_of_getElem? (i := 200) (by decide +kernel), List.mem_of_getElem? (i := 201) (by decide +kernel)⟩
theorem lw_p7 : lw_okq (⟨"RopeSeals$House", "isLie", "(II)Z"⟩, 11) := ⟨⟨by decide +kernel, by decide +kernel⟩, List.mem_of_getElem? (i := 18) (by decide +kernel), List.mem_of_getElem? (i := 204) (by decide +kernel), List.mem_of_getElem? (i := 205) (by decide +kernel)⟩
theorem lw_p8 : lw_okq (⟨"RopeSeals$House", "exposeLiar", "(I)V"⟩, 11) := ⟨⟨by decide +kernel, by decide +kernel⟩, List.mem_of_getElem? (i := 18) (by decide +kernel), List.mem_of_getElem? (i := 211) (by decide +kernel), List.mem_of_getElem? (i := 212) (by decide +kernel)⟩
theorem lw_p9 : lw_okq (⟨"RopeSeals$House", "wholeVouchers", "(I)I"⟩, 11) := ⟨⟨by decide +kernel, by decide +kernel⟩, List.mem_of_getElem? (i := 18) (by decide +kernel), List.mem_of_getElem? (i := 215) (by decide +kernel), List.mem_of_getElem? (i := 216) (by decide +kernel)⟩
theorem lw_p10 : lw_okq (⟨"RopeSeals$House", "clearedIfHonest", "(I)I"⟩, 11) := ⟨⟨by decide +kernel, by decide +kernel⟩, List.mem_of_getElem? (i := 18) (by decide +kernel), List.mem_of_getElem? (i := 219) (by decide +kernel), List.mem_of_getElem? (i := 220) (by decide +kernel)⟩
theorem lw_p11 : lw_okq (⟨"RopeSeals$House", "reachedFrom", "(I)I"⟩, 11) := ⟨⟨by decide +kernel, by decide +kernel⟩, List.mem_of_getElem? (i := 18) (by decide +kernel), List.mem_of_getElem? (i := 223) (by decide +kernel), List.mem_of_getElem? (i := 224) (by decide +kernel)⟩
theorem lw_p12 : lw_okq (⟨"RopeSeals$House", "waiting", "()I"⟩, 11) := ⟨⟨by decide +kernel, by decide +kernel⟩, List.mem_of_getElem? (i := 18) (by decide +kernel), List.mem_of_getElem? (i := 241) (by decide +kernel), List.mem_of_getElem? (i := 242) (by decide +kernel)⟩
theorem lw_p13 : lw_okq (⟨"RopeSeals$House", "all", "()I"⟩, 11) := ⟨⟨by decide +kernel, by decide +kernel⟩, List.mem_of_getElem? (i := 18) (by decide +kernel), List.mem_of_getElem? (i := 245) (by decide +kernel), List.mem_of_getElem? (i := 246) (by decide +kernel)⟩
theorem lw_p14 : lw_okq (⟨"RopeSeals$OrderText", "readOrder", "()Z"⟩, 7) := ⟨⟨by decide +kernel, by decide +kernel⟩, List.mem_of_getElem? (i := 75) (by decide +kernel), List.mem_of_getElem? (i := 290) (by decide +kernel), List.mem_of_getElem? (i := 291) (by decide +kernel)⟩
theorem lw_p15 : lw_okq (⟨"RopeSeals$OrderText", "takesKind", "(C)Z"⟩, 7) := ⟨⟨by decide +kernel, by decide +kernel⟩, List.mem_of_getElem? (i := 75) (by decide +kernel), List.mem_of_getElem? (i := 294) (by decide +kernel), List.mem_of_getElem? (i := 295) (by decide +kernel)⟩
def lw_privs_1 : List (MethodName × Nat) := [(⟨"RopeSeals$House", "knows", "(I)Z"⟩, 11), (⟨"RopeSeals$House", "rightSeal", "(I)I"⟩, 11), (⟨"RopeSeals$House", "sealFor", "(II)I"⟩, 11), (⟨"RopeSeals", "recorded", "(I)I"⟩, 6), (⟨"RopeSeals$History", "dropOldest", "()V"⟩, 2), (⟨"RopeSeals$House", "isWhole", "(I)Z"⟩, 11), (⟨"RopeSeals$House", "ownFine", "(II)I"⟩, 11), (⟨"RopeSeals$House", "isLie", "(II)Z"⟩, 11), (⟨"RopeSeals$House", "exposeLiar", "(I)V"⟩, 11), (⟨"RopeSeals$House", "wholeVouchers", "(I)I"⟩, 11), (⟨"RopeSeals$House", "clearedIfHonest", "(I)I"⟩, 11), (⟨"RopeSeals$House", "reachedFrom", "(I)I"⟩, 11), (⟨"RopeSeals$House", "waiting", "()I"⟩, 11), (⟨"RopeSeals$House", "all", "()I"⟩, 11), (⟨"RopeSeals$OrderText", "readOrder", "()Z"⟩, 7), (⟨"RopeSeals$OrderText", "takesKind", "(C)Z"⟩, 7)]
theorem lw_r1 : ∀ q ∈ lw_privs_1, lw_okq q := List.forall_mem_cons.mpr ⟨lw_p0, List.forall_mem_cons.mpr ⟨lw_p1, List.forall_mem_cons.mpr ⟨lw_p2, List.forall_mem_cons.mpr ⟨lw_p3, List.forall_mem_cons.mpr ⟨lw_p4, List.forall_mem_cons.mpr ⟨lw_p5, List.forall_mem_cons.mpr ⟨lw_p6, List.forall_mem_cons.mpr ⟨lw_p7, List.forall_mem_cons.mpr ⟨lw_p8, List.forall_mem_cons.mpr ⟨lw_p9, List.forall_mem_cons.mpr ⟨lw_p10, List.forall_mem_cons.mpr ⟨lw_p11, List.forall_mem_cons.mpr ⟨lw_p12, List.forall_mem_cons.mpr ⟨lw_p13, List.forall_mem_cons.mpr ⟨lw_p14, List.forall_mem_cons.mpr ⟨lw_p15, fun _ h => absurd h List.not_mem_nil⟩⟩⟩⟩⟩⟩⟩⟩⟩⟩⟩⟩⟩⟩⟩⟩
theorem lw_p16 : lw_okq (⟨"RopeSeals$OrderText", "takes", "(C)Z"⟩, 7) := ⟨⟨by decide +kernel, by decide +kernel⟩, List.mem_of_getElem? (i := 75) (by decide +kernel), List.mem_of_getElem? (i := 298) (by decide +kernel), List.mem_of_getElem? (i := 299) (by decide +kernel)⟩
theorem lw_p17 : lw_okq (⟨"RopeSeals$OrderText", "readClaim", "()Z"⟩, 7) := ⟨⟨by decide +kernel, by decide +kernel⟩, List.mem_of_getElem? (i := 75) (by decide +kernel), List.mem_of_getElem? (i := 302) (by decide +kernel), List.mem_of_getElem? (i := 303) (by decide +kernel)⟩
theorem lw_p18 : lw_okq (⟨"RopeSeals$OrderText", "takeNumber", "(I)I"⟩, 7) := ⟨⟨by decide +kernel, by decide +kernel⟩, List.mem_of_getElem? (i := 75) (by decide +kernel), List.mem_of_getElem? (i := 306) (by decide +kernel), List.mem_of_getElem? (i := 307) (by decide +kernel)⟩
theorem lw_p19 : lw_okq (⟨"RopeSeals$OrderText", "digitHere", "()I"⟩, 7) := ⟨⟨by decide +kernel, by decide +kernel⟩, List.mem_of_getElem? (i := 75) (by decide +kernel), List.mem_of_getElem? (i := 310) (by decide +kernel), List.mem_of_getElem? (i := 311) (by decide +kernel)⟩
theorem lw_p20 : lw_okq (⟨"RopeSeals$OrderText", "readLoad", "()Z"⟩, 7) := ⟨⟨by decide +kernel, by decide +kernel⟩, List.mem_of_getElem? (i := 75) (by decide +kernel), List.mem_of_getElem? (i := 314) (by decide +kernel), List.mem_of_getElem? (i := 315) (by decide +kernel)⟩
theorem lw_p21 : lw_okq (⟨"RopeSeals$OrderText", "readCart", "()Z"⟩, 7) := ⟨⟨by decide +kernel, by decide +kernel⟩, List.mem_of_getElem? (i := 75) (by decide +kernel), List.mem_of_getElem? (i := 318) (by decide +kernel), List.mem_of_getElem? (i := 319) (by decide +kernel)⟩
theorem lw_p22 : lw_okq (⟨"RopeSeals", "carryOutOrder", "()I"⟩, 6) := ⟨⟨by decide +kernel, by decide +kernel⟩, List.mem_of_getElem? (i := 10) (by decide +kernel), List.mem_of_getElem? (i := 331) (by decide +kernel), List.mem_of_getElem? (i := 332) (by decide +kernel)⟩
theorem lw_p23 : lw_okq (⟨"RopeSeals$House", "chainOf", "(I)I"⟩, 11) := ⟨⟨by decide +kernel, by decide +kernel⟩, List.mem_of_getElem? (i := 18) (by decide +kernel), List.mem_of_getElem? (i := 382) (by decide +kernel), List.mem_of_getElem? (i := 383) (by decide +kernel)⟩
theorem lw_p24 : lw_okq (⟨"RopeSeals$House", "vouchers", "(I)I"⟩, 11) := ⟨⟨by decide +kernel, by decide +kernel⟩, List.mem_of_getElem? (i := 18) (by decide +kernel), List.mem_of_getElem? (i := 386) (by decide +kernel), List.mem_of_getElem? (i := 387) (by decide +kernel)⟩
theorem lw_p25 : lw_okq (⟨"RopeSeals$House", "countChainsWith", "(I)I"⟩, 11) := ⟨⟨by decide +kernel, by decide +kernel⟩, List.mem_of_getElem? (i := 18) (by decide +kernel), List.mem_of_getElem? (i := 390) (by decide +kernel), List.mem_of_getElem? (i := 391) (by decide +kernel)⟩
theorem lw_p26 : lw_okq (⟨"RopeSeals$House", "whyNotCleared", "(I)I"⟩, 11) := ⟨⟨by decide +kernel, by decide +kernel⟩, List.mem_of_getElem? (i := 18) (by decide +kernel), List.mem_of_getElem? (i := 394) (by decide +kernel), List.mem_of_getElem? (i := 395) (by decide +kernel)⟩
theorem lw_p27 : lw_okq (⟨"RopeSeals$House", "countBroken", "()I"⟩, 11) := ⟨⟨by decide +kernel, by decide +kernel⟩, List.mem_of_getElem? (i := 18) (by decide +kernel), List.mem_of_getElem? (i := 430) (by decide +kernel), List.mem_of_getElem? (i := 431) (by decide +kernel)⟩
theorem lw_p28 : lw_okq (⟨"RopeSeals$House", "finesOfAll", "()I"⟩, 11) := ⟨⟨by decide +kernel, by decide +kernel⟩, List.mem_of_getElem? (i := 18) (by decide +kernel), List.mem_of_getElem? (i := 434) (by decide +kernel), List.mem_of_getElem? (i := 435) (by decide +kernel)⟩
theorem lw_p29 : lw_okq (⟨"RopeSeals$House", "greatestDepth", "()I"⟩, 11) := ⟨⟨by decide +kernel, by decide +kernel⟩, List.mem_of_getElem? (i := 18) (by decide +kernel), List.mem_of_getElem? (i := 438) (by decide +kernel), List.mem_of_getElem? (i := 439) (by decide +kernel)⟩
theorem lw_p30 : lw_okq (⟨"RopeSeals$House", "countUnvouched", "()I"⟩, 11) := ⟨⟨by decide +kernel, by decide +kernel⟩, List.mem_of_getElem? (i := 18) (by decide +kernel), List.mem_of_getElem? (i := 445) (by decide +kernel), List.mem_of_getElem? (i := 446) (by decide +kernel)⟩
theorem lw_p31 : lw_okq (⟨"RopeSeals$House", "sacksFound", "()I"⟩, 11) := ⟨⟨by decide +kernel, by decide +kernel⟩, List.mem_of_getElem? (i := 18) (by decide +kernel), List.mem_of_getElem? (i := 449) (by decide +kernel), List.mem_of_getElem? (i := 450) (by decide +kernel)⟩
def lw_privs_2 : List (MethodName × Nat) := [(⟨"RopeSeals$OrderText", "takes", "(C)Z"⟩, 7), (⟨"RopeSeals$OrderText", "readClaim", "()Z"⟩, 7), (⟨"RopeSeals$OrderText", "takeNumber", "(I)I"⟩, 7), (⟨"RopeSeals$OrderText", "digitHere", "()I"⟩, 7), (⟨"RopeSeals$OrderText", "readLoad", "()Z"⟩, 7), (⟨"RopeSeals$OrderText", "readCart", "()Z"⟩, 7), (⟨"RopeSeals", "carryOutOrder", "()I"⟩, 6), (⟨"RopeSeals$House", "chainOf", "(I)I"⟩, 11), (⟨"RopeSeals$House", "vouchers", "(I)I"⟩, 11), (⟨"RopeSeals$House", "countChainsWith", "(I)I"⟩, 11), (⟨"RopeSeals$House", "whyNotCleared", "(I)I"⟩, 11), (⟨"RopeSeals$House", "countBroken", "()I"⟩, 11), (⟨"RopeSeals$House", "finesOfAll", "()I"⟩, 11), (⟨"RopeSeals$House", "greatestDepth", "()I"⟩, 11), (⟨"RopeSeals$House", "countUnvouched", "()I"⟩, 11), (⟨"RopeSeals$House", "sacksFound", "()I"⟩, 11)]
theorem lw_r2 : ∀ q ∈ lw_privs_2, lw_okq q := List.forall_mem_cons.mpr ⟨lw_p16, List.forall_mem_cons.mpr ⟨lw_p17, List.forall_mem_cons.mpr ⟨lw_p18, List.forall_mem_cons.mpr ⟨lw_p19, List.forall_mem_cons.mpr ⟨lw_p20, List.forall_mem_cons.mpr ⟨lw_p21, List.forall_mem_cons.mpr ⟨lw_p22, List.forall_mem_cons.mpr ⟨lw_p23, List.forall_mem_cons.mpr ⟨lw_p24, List.forall_mem_cons.mpr ⟨lw_p25, List.forall_mem_cons.mpr ⟨lw_p26, List.forall_mem_cons.mpr ⟨lw_p27, List.forall_mem_cons.mpr ⟨lw_p28, List.forall_mem_cons.mpr ⟨lw_p29, List.forall_mem_cons.mpr ⟨lw_p30, List.forall_mem_cons.mpr ⟨lw_p31, fun _ h => absurd h List.not_mem_nil⟩⟩⟩⟩⟩⟩⟩⟩⟩⟩⟩⟩⟩⟩⟩⟩
theorem lw_p32 : lw_okq (⟨"RopeSealsModel", "refusesCart", "(III)I"⟩, 13) := ⟨⟨by decide +kernel, by decide +kernel⟩, List.mem_of_getElem? (i := 489) (by decide +kernel), List.mem_of_getElem? (i := 539) (by decide +kernel), List.mem_of_getElem? (i := 540) (by decide +kernel)⟩
theorem lw_p33 : lw_okq (⟨"RopeSealsModel", "isCart", "(I)Z"⟩, 13) := ⟨⟨by decide +kernel, by decide +kernel⟩, List.mem_of_getElem? (i := 489) (by decide +kernel), List.mem_of_getElem? (i := 543) (by decide +kernel), List.mem_of_getElem? (i := 544) (by decide +kernel)⟩
theorem lw_p34 : lw_okq (⟨"RopeSealsModel", "records", "()V"⟩, 13) := ⟨⟨by decide +kernel, by decide +kernel⟩, List.mem_of_getElem? (i := 489) (by decide +kernel), List.mem_of_getElem? (i := 550) (by decide +kernel), List.mem_of_getElem? (i := 551) (by decide +kernel)⟩
theorem lw_p35 : lw_okq (⟨"RopeSealsModel", "comes", "(III)I"⟩, 13) := ⟨⟨by decide +kernel, by decide +kernel⟩, List.mem_of_getElem? (i := 489) (by decide +kernel), List.mem_of_getElem? (i := 554) (by decide +kernel), List.mem_of_getElem? (i := 555) (by decide +kernel)⟩
theorem lw_p36 : lw_okq (⟨"RopeSealsModel", "lay", "(III)V"⟩, 13) := ⟨⟨by decide +kernel, by decide +kernel⟩, List.mem_of_getElem? (i := 489) (by decide +kernel), List.mem_of_getElem? (i := 558) (by decide +kernel), List.mem_of_getElem? (i := 559) (by decide +kernel)⟩
theorem lw_p37 : lw_okq (⟨"RopeSealsModel", "rightSeal", "(I)I"⟩, 13) := ⟨⟨by decide +kernel, by decide +kernel⟩, List.mem_of_getElem? (i := 489) (by decide +kernel), List.mem_of_getElem? (i := 562) (by decide +kernel), List.mem_of_getElem? (i := 563) (by decide +kernel)⟩
theorem lw_p38 : lw_okq (⟨"RopeSealsModel", "of", "(II)I"⟩, 13) := ⟨⟨by decide +kernel, by decide +kernel⟩, List.mem_of_getElem? (i := 489) (by decide +kernel), List.mem_of_getElem? (i := 566) (by decide +kernel), List.mem_of_getElem? (i := 567) (by decide +kernel)⟩
theorem lw_p39 : lw_okq (⟨"RopeSealsModel", "sealBy", "(II)I"⟩, 13) := ⟨⟨by decide +kernel, by decide +kernel⟩, List.mem_of_getElem? (i := 489) (by decide +kernel), List.mem_of_getElem? (i := 570) (by decide +kernel), List.mem_of_getElem? (i := 571) (by decide +kernel)⟩
theorem lw_p40 : lw_okq (⟨"RopeSealsModel", "refusesAltering", "(II)I"⟩, 13) := ⟨⟨by decide +kernel, by decide +kernel⟩, List.mem_of_getElem? (i := 489) (by decide +kernel), List.mem_of_getElem? (i := 578) (by decide +kernel), List.mem_of_getElem? (i := 579) (by decide +kernel)⟩
theorem lw_p41 : lw_okq (⟨"RopeSealsModel", "refusesSeal", "(I)I"⟩, 13) := ⟨⟨by decide +kernel, by decide +kernel⟩, List.mem_of_getElem? (i := 489) (by decide +kernel), List.mem_of_getElem? (i := 586) (by decide +kernel), List.mem_of_getElem? (i := 587) (by decide +kernel)⟩
theorem lw_p42 : lw_okq (⟨"RopeSealsModel", "isWhole", "(I)Z"⟩, 13) := ⟨⟨by decide +kernel, by decide +kernel⟩, List.mem_of_getElem? (i := 489) (by decide +kernel), List.mem_of_getElem? (i := 590) (by decide +kernel), List.mem_of_getElem? (i := 591) (by decide +kernel)⟩
theorem lw_p43 : lw_okq (⟨"RopeSealsModel", "refusesOpening", "(I)I"⟩, 13) := ⟨⟨by decide +kernel, by decide +kernel⟩, List.mem_of_getElem? (i := 489) (by decide +kernel), List.mem_of_getElem? (i := 598) (by decide +kernel), List.mem_of_getElem? (i := 599) (by decide +kernel)⟩
theorem lw_p44 : lw_okq (⟨"RopeSealsModel", "opens", "(I)I"⟩, 13) := ⟨⟨by decide +kernel, by decide +kernel⟩, List.mem_of_getElem? (i := 489) (by decide +kernel), List.mem_of_getElem? (i := 602) (by decide +kernel), List.mem_of_getElem? (i := 603) (by decide +kernel)⟩
theorem lw_p45 : lw_okq (⟨"RopeSealsModel", "fines", "(II)V"⟩, 13) := ⟨⟨by decide +kernel, by decide +kernel⟩, List.mem_of_getElem? (i := 489) (by decide +kernel), List.mem_of_getElem? (i := 606) (by decide +kernel), List.mem_of_getElem? (i := 607) (by decide +kernel)⟩
theorem lw_p46 : lw_okq (⟨"RopeSealsModel", "clears", "(I)I"⟩, 13) := ⟨⟨by decide +kernel, by decide +kernel⟩, List.mem_of_getElem? (i := 489) (by decide +kernel), List.mem_of_getElem? (i := 610) (by decide +kernel), List.mem_of_getElem? (i := 611) (by decide +kernel)⟩
theorem lw_p47 : lw_okq (⟨"RopeSealsModel", "fineOfLie", "(II)I"⟩, 13) := ⟨⟨by decide +kernel, by decide +kernel⟩, List.mem_of_getElem? (i := 489) (by decide +kernel), List.mem_of_getElem? (i := 614) (by decide +kernel), List.mem_of_getElem? (i := 615) (by decide +kernel)⟩
def lw_privs_3 : List (MethodName × Nat) := [(⟨"RopeSealsModel", "refusesCart", "(III)I"⟩, 13), (⟨"RopeSealsModel", "isCart", "(I)Z"⟩, 13), (⟨"RopeSealsModel", "records", "()V"⟩, 13), (⟨"RopeSealsModel", "comes", "(III)I"⟩, 13), (⟨"RopeSealsModel", "lay", "(III)V"⟩, 13), (⟨"RopeSealsModel", "rightSeal", "(I)I"⟩, 13), (⟨"RopeSealsModel", "of", "(II)I"⟩, 13), (⟨"RopeSealsModel", "sealBy", "(II)I"⟩, 13), (⟨"RopeSealsModel", "refusesAltering", "(II)I"⟩, 13), (⟨"RopeSealsModel", "refusesSeal", "(I)I"⟩, 13), (⟨"RopeSealsModel", "isWhole", "(I)Z"⟩, 13), (⟨"RopeSealsModel", "refusesOpening", "(I)I"⟩, 13), (⟨"RopeSealsModel", "opens", "(I)I"⟩, 13), (⟨"RopeSealsModel", "fines", "(II)V"⟩, 13), (⟨"RopeSealsModel", "clears", "(I)I"⟩, 13), (⟨"RopeSealsModel", "fineOfLie", "(II)I"⟩, 13)]
theorem lw_r3 : ∀ q ∈ lw_privs_3, lw_okq q := List.forall_mem_cons.mpr ⟨lw_p32, List.forall_mem_cons.mpr ⟨lw_p33, List.forall_mem_cons.mpr ⟨lw_p34, List.forall_mem_cons.mpr ⟨lw_p35, List.forall_mem_cons.mpr ⟨lw_p36, List.forall_mem_cons.mpr ⟨lw_p37, List.forall_mem_cons.mpr ⟨lw_p38, List.forall_mem_cons.mpr ⟨lw_p39, List.forall_mem_cons.mpr ⟨lw_p40, List.forall_mem_cons.mpr ⟨lw_p41, List.forall_mem_cons.mpr ⟨lw_p42, List.forall_mem_cons.mpr ⟨lw_p43, List.forall_mem_cons.mpr ⟨lw_p44, List.forall_mem_cons.mpr ⟨lw_p45, List.forall_mem_cons.mpr ⟨lw_p46, List.forall_mem_cons.mpr ⟨lw_p47, fun _ h => absurd h List.not_mem_nil⟩⟩⟩⟩⟩⟩⟩⟩⟩⟩⟩⟩⟩⟩⟩⟩
theorem lw_p48 : lw_okq (⟨"RopeSealsModel", "lastLeft", "()I"⟩, 13) := ⟨⟨by decide +kernel, by decide +kernel⟩, List.mem_of_getElem? (i := 489) (by decide +kernel), List.mem_of_getElem? (i := 622) (by decide +kernel), List.mem_of_getElem? (i := 623) (by decide +kernel)⟩
theorem lw_p49 : lw_okq (⟨"RopeSealsModel", "isLeft", "(I)Z"⟩, 13) := ⟨⟨by decide +kernel, by decide +kernel⟩, List.mem_of_getElem? (i := 489) (by decide +kernel), List.mem_of_getElem? (i := 626) (by decide +kernel), List.mem_of_getElem? (i := 627) (by decide +kernel)⟩
theorem lw_p50 : lw_okq (⟨"RopeSealsModel", "reads", "()I"⟩, 13) := ⟨⟨by decide +kernel, by decide +kernel⟩, List.mem_of_getElem? (i := 489) (by decide +kernel), List.mem_of_getElem? (i := 649) (by decide +kernel), List.mem_of_getElem? (i := 650) (by decide +kernel)⟩
theorem lw_p51 : lw_okq (⟨"RopeSealsModel", "readsOrder", "()V"⟩, 13) := ⟨⟨by decide +kernel, by decide +kernel⟩, List.mem_of_getElem? (i := 489) (by decide +kernel), List.mem_of_getElem? (i := 653) (by decide +kernel), List.mem_of_getElem? (i := 654) (by decide +kernel)⟩
theorem lw_p52 : lw_okq (⟨"RopeSealsModel", "sign", "()I"⟩, 13) := ⟨⟨by decide +kernel, by decide +kernel⟩, List.mem_of_getElem? (i := 489) (by decide +kernel), List.mem_of_getElem? (i := 657) (by decide +kernel), List.mem_of_getElem? (i := 658) (by decide +kernel)⟩
theorem lw_p53 : lw_okq (⟨"RopeSealsModel", "readsCart", "(I)V"⟩, 13) := ⟨⟨by decide +kernel, by decide +kernel⟩, List.mem_of_getElem? (i := 489) (by decide +kernel), List.mem_of_getElem? (i := 661) (by decide +kernel), List.mem_of_getElem? (i := 662) (by decide +kernel)⟩
theorem lw_p54 : lw_okq (⟨"RopeSealsModel", "number", "(I)I"⟩, 13) := ⟨⟨by decide +kernel, by decide +kernel⟩, List.mem_of_getElem? (i := 489) (by decide +kernel), List.mem_of_getElem? (i := 665) (by decide +kernel), List.mem_of_getElem? (i := 666) (by decide +kernel)⟩
theorem lw_p55 : lw_okq (⟨"RopeSealsModel", "wants", "(I)V"⟩, 13) := ⟨⟨by decide +kernel, by decide +kernel⟩, List.mem_of_getElem? (i := 489) (by decide +kernel), List.mem_of_getElem? (i := 669) (by decide +kernel), List.mem_of_getElem? (i := 670) (by decide +kernel)⟩
theorem lw_p56 : lw_okq (⟨"RopeSealsModel", "putAside", "()V"⟩, 13) := ⟨⟨by decide +kernel, by decide +kernel⟩, List.mem_of_getElem? (i := 489) (by decide +kernel), List.mem_of_getElem? (i := 673) (by decide +kernel), List.mem_of_getElem? (i := 674) (by decide +kernel)⟩
theorem lw_p57 : lw_okq (⟨"RopeSealsModel", "refuses", "(I)I"⟩, 13) := ⟨⟨by decide +kernel, by decide +kernel⟩, List.mem_of_getElem? (i := 489) (by decide +kernel), List.mem_of_getElem? (i := 677) (by decide +kernel), List.mem_of_getElem? (i := 678) (by decide +kernel)⟩
theorem lw_p58 : lw_okq (⟨"RopeSealsModel", "does", "(I)V"⟩, 13) := ⟨⟨by decide +kernel, by decide +kernel⟩, List.mem_of_getElem? (i := 489) (by decide +kernel), List.mem_of_getElem? (i := 681) (by decide +kernel), List.mem_of_getElem? (i := 682) (by decide +kernel)⟩
theorem lw_p59 : lw_okq (⟨"RopeSealsModel", "takeBack", "()V"⟩, 13) := ⟨⟨by decide +kernel, by decide +kernel⟩, List.mem_of_getElem? (i := 489) (by decide +kernel), List.mem_of_getElem? (i := 685) (by decide +kernel), List.mem_of_getElem? (i := 686) (by decide +kernel)⟩
theorem lw_p60 : lw_okq (⟨"RopeSealsModel", "depth", "(I)I"⟩, 13) := ⟨⟨by decide +kernel, by decide +kernel⟩, List.mem_of_getElem? (i := 489) (by decide +kernel), List.mem_of_getElem? (i := 705) (by decide +kernel), List.mem_of_getElem? (i := 706) (by decide +kernel)⟩
theorem lw_p61 : lw_okq (⟨"RopeSealsModel", "vouchers", "(I)I"⟩, 13) := ⟨⟨by decide +kernel, by decide +kernel⟩, List.mem_of_getElem? (i := 489) (by decide +kernel), List.mem_of_getElem? (i := 709) (by decide +kernel), List.mem_of_getElem? (i := 710) (by decide +kernel)⟩
theorem lw_p62 : lw_okq (⟨"RopeSealsModel", "inChains", "(I)I"⟩, 13) := ⟨⟨by decide +kernel, by decide +kernel⟩, List.mem_of_getElem? (i := 489) (by decide +kernel), List.mem_of_getElem? (i := 713) (by decide +kernel), List.mem_of_getElem? (i := 714) (by decide +kernel)⟩
theorem lw_p63 : lw_okq (⟨"RopeSealsModel", "isInChain", "(II)Z"⟩, 13) := ⟨⟨by decide +kernel, by decide +kernel⟩, List.mem_of_getElem? (i := 489) (by decide +kernel), List.mem_of_getElem? (i := 717) (by decide +kernel), List.mem_of_getElem? (i := 718) (by decide +kernel)⟩
def lw_privs_4 : List (MethodName × Nat) := [(⟨"RopeSealsModel", "lastLeft", "()I"⟩, 13), (⟨"RopeSealsModel", "isLeft", "(I)Z"⟩, 13), (⟨"RopeSealsModel", "reads", "()I"⟩, 13), (⟨"RopeSealsModel", "readsOrder", "()V"⟩, 13), (⟨"RopeSealsModel", "sign", "()I"⟩, 13), (⟨"RopeSealsModel", "readsCart", "(I)V"⟩, 13), (⟨"RopeSealsModel", "number", "(I)I"⟩, 13), (⟨"RopeSealsModel", "wants", "(I)V"⟩, 13), (⟨"RopeSealsModel", "putAside", "()V"⟩, 13), (⟨"RopeSealsModel", "refuses", "(I)I"⟩, 13), (⟨"RopeSealsModel", "does", "(I)V"⟩, 13), (⟨"RopeSealsModel", "takeBack", "()V"⟩, 13), (⟨"RopeSealsModel", "depth", "(I)I"⟩, 13), (⟨"RopeSealsModel", "vouchers", "(I)I"⟩, 13), (⟨"RopeSealsModel", "inChains", "(I)I"⟩, 13), (⟨"RopeSealsModel", "isInChain", "(II)Z"⟩, 13)]
theorem lw_r4 : ∀ q ∈ lw_privs_4, lw_okq q := List.forall_mem_cons.mpr ⟨lw_p48, List.forall_mem_cons.mpr ⟨lw_p49, List.forall_mem_cons.mpr ⟨lw_p50, List.forall_mem_cons.mpr ⟨lw_p51, List.forall_mem_cons.mpr ⟨lw_p52, List.forall_mem_cons.mpr ⟨lw_p53, List.forall_mem_cons.mpr ⟨lw_p54, List.forall_mem_cons.mpr ⟨lw_p55, List.forall_mem_cons.mpr ⟨lw_p56, List.forall_mem_cons.mpr ⟨lw_p57, List.forall_mem_cons.mpr ⟨lw_p58, List.forall_mem_cons.mpr ⟨lw_p59, List.forall_mem_cons.mpr ⟨lw_p60, List.forall_mem_cons.mpr ⟨lw_p61, List.forall_mem_cons.mpr ⟨lw_p62, List.forall_mem_cons.mpr ⟨lw_p63, fun _ h => absurd h List.not_mem_nil⟩⟩⟩⟩⟩⟩⟩⟩⟩⟩⟩⟩⟩⟩⟩⟩
theorem lw_p64 : lw_okq (⟨"RopeSealsModel", "whyNot", "(I)I"⟩, 13) := ⟨⟨by decide +kernel, by decide +kernel⟩, List.mem_of_getElem? (i := 489) (by decide +kernel), List.mem_of_getElem? (i := 721) (by decide +kernel), List.mem_of_getElem? (i := 722) (by decide +kernel)⟩
theorem lw_p65 : lw_okq (⟨"RopeSealsModel", "tellsTotal", "(I)I"⟩, 13) := ⟨⟨by decide +kernel, by decide +kernel⟩, List.mem_of_getElem? (i := 489) (by decide +kernel), List.mem_of_getElem? (i := 737) (by decide +kernel), List.mem_of_getElem? (i := 738) (by decide +kernel)⟩
theorem lw_p66 : lw_okq (⟨"RopeSealsModel", "sumOf", "(I)I"⟩, 13) := ⟨⟨by decide +kernel, by decide +kernel⟩, List.mem_of_getElem? (i := 489) (by decide +kernel), List.mem_of_getElem? (i := 741) (by decide +kernel), List.mem_of_getElem? (i := 742) (by decide +kernel)⟩
theorem lw_p67 : lw_okq (⟨"RopeSealsModel", "brokenMany", "()I"⟩, 13) := ⟨⟨by decide +kernel, by decide +kernel⟩, List.mem_of_getElem? (i := 489) (by decide +kernel), List.mem_of_getElem? (i := 745) (by decide +kernel), List.mem_of_getElem? (i := 746) (by decide +kernel)⟩
theorem lw_p68 : lw_okq (⟨"RopeSealsModel", "deepest", "()I"⟩, 13) := ⟨⟨by decide +kernel, by decide +kernel⟩, List.mem_of_getElem? (i := 489) (by decide +kernel), List.mem_of_getElem? (i := 749) (by decide +kernel), List.mem_of_getElem? (i := 750) (by decide +kernel)⟩
theorem lw_p69 : lw_okq (⟨"RopeSealsModel", "ends", "()I"⟩, 13) := ⟨⟨by decide +kernel, by decide +kernel⟩, List.mem_of_getElem? (i := 489) (by decide +kernel), List.mem_of_getElem? (i := 753) (by decide +kernel), List.mem_of_getElem? (i := 754) (by decide +kernel)⟩
theorem lw_p70 : lw_okq (⟨"RopeSealsModel", "found", "()I"⟩, 13) := ⟨⟨by decide +kernel, by decide +kernel⟩, List.mem_of_getElem? (i := 489) (by decide +kernel), List.mem_of_getElem? (i := 757) (by decide +kernel), List.mem_of_getElem? (i := 758) (by decide +kernel)⟩
theorem lw_p71 : lw_okq (⟨"RopeSealsModel", "wouldClear", "(I)I"⟩, 13) := ⟨⟨by decide +kernel, by decide +kernel⟩, List.mem_of_getElem? (i := 489) (by decide +kernel), List.mem_of_getElem? (i := 765) (by decide +kernel), List.mem_of_getElem? (i := 766) (by decide +kernel)⟩
theorem lw_p72 : lw_okq (⟨"RopeSealsModel", "finesOfOthers", "(I)I"⟩, 13) := ⟨⟨by decide +kernel, by decide +kernel⟩, List.mem_of_getElem? (i := 489) (by decide +kernel), List.mem_of_getElem? (i := 769) (by decide +kernel), List.mem_of_getElem? (i := 770) (by decide +kernel)⟩
theorem lw_p73 : lw_okq (⟨"RopeSealsModel", "byEnds", "()I"⟩, 13) := ⟨⟨by decide +kernel, by decide +kernel⟩, List.mem_of_getElem? (i := 489) (by decide +kernel), List.mem_of_getElem? (i := 777) (by decide +kernel), List.mem_of_getElem? (i := 778) (by decide +kernel)⟩
theorem lw_p74 : lw_okq (⟨"RopeSealsModel", "reaches", "(II)Z"⟩, 13) := ⟨⟨by decide +kernel, by decide +kernel⟩, List.mem_of_getElem? (i := 489) (by decide +kernel), List.mem_of_getElem? (i := 781) (by decide +kernel), List.mem_of_getElem? (i := 782) (by decide +kernel)⟩
theorem lw_p75 : lw_okq (⟨"RopeSealsModel", "byOpening", "()I"⟩, 13) := ⟨⟨by decide +kernel, by decide +kernel⟩, List.mem_of_getElem? (i := 489) (by decide +kernel), List.mem_of_getElem? (i := 785) (by decide +kernel), List.mem_of_getElem? (i := 786) (by decide +kernel)⟩
def lw_privs_5 : List (MethodName × Nat) := [(⟨"RopeSealsModel", "whyNot", "(I)I"⟩, 13), (⟨"RopeSealsModel", "tellsTotal", "(I)I"⟩, 13), (⟨"RopeSealsModel", "sumOf", "(I)I"⟩, 13), (⟨"RopeSealsModel", "brokenMany", "()I"⟩, 13), (⟨"RopeSealsModel", "deepest", "()I"⟩, 13), (⟨"RopeSealsModel", "ends", "()I"⟩, 13), (⟨"RopeSealsModel", "found", "()I"⟩, 13), (⟨"RopeSealsModel", "wouldClear", "(I)I"⟩, 13), (⟨"RopeSealsModel", "finesOfOthers", "(I)I"⟩, 13), (⟨"RopeSealsModel", "byEnds", "()I"⟩, 13), (⟨"RopeSealsModel", "reaches", "(II)Z"⟩, 13), (⟨"RopeSealsModel", "byOpening", "()I"⟩, 13)]
theorem lw_r5 : ∀ q ∈ lw_privs_5, lw_okq q := List.forall_mem_cons.mpr ⟨lw_p64, List.forall_mem_cons.mpr ⟨lw_p65, List.forall_mem_cons.mpr ⟨lw_p66, List.forall_mem_cons.mpr ⟨lw_p67, List.forall_mem_cons.mpr ⟨lw_p68, List.forall_mem_cons.mpr ⟨lw_p69, List.forall_mem_cons.mpr ⟨lw_p70, List.forall_mem_cons.mpr ⟨lw_p71, List.forall_mem_cons.mpr ⟨lw_p72, List.forall_mem_cons.mpr ⟨lw_p73, List.forall_mem_cons.mpr ⟨lw_p74, List.forall_mem_cons.mpr ⟨lw_p75, fun _ h => absurd h List.not_mem_nil⟩⟩⟩⟩⟩⟩⟩⟩⟩⟩⟩⟩
def lw_privs : List (MethodName × Nat) := lw_privs_1 ++ (lw_privs_2 ++ (lw_privs_3 ++ (lw_privs_4 ++ (lw_privs_5))))
def lw_tbl : List Cond := k2_sels lw_privs ++ tables_1
theorem lw_privs_ok : ∀ q ∈ lw_privs, lw_okq q := by
  show ∀ q ∈ lw_privs_1 ++ (lw_privs_2 ++ (lw_privs_3 ++ (lw_privs_4 ++ (lw_privs_5)))), lw_okq q
  exact List.forall_mem_append.mpr ⟨lw_r1, List.forall_mem_append.mpr ⟨lw_r2, List.forall_mem_append.mpr ⟨lw_r3, List.forall_mem_append.mpr ⟨lw_r4, lw_r5⟩⟩⟩⟩
end
section
/-! ===== BEGIN words of one list among another's, by their places ===== -/
theorem goodIn_r {big : List Cond} (ws : List Cond) (ps : List Nat) (hp : ws = ps.filterMap (fun i => big[i]?)) (h : ws.all goodWord = true) : GoodIn big ws := by
  intro w hw
  have h1 := List.all_eq_true.mp h w hw
  rw [hp] at hw
  obtain ⟨i, -, hi⟩ := List.mem_filterMap.mp hw
  have hm : w ∈ big := by first | exact List.mem_of_getElem? hi | exact List.getElem?_mem hi
  exact ⟨hm, good_of_word h1⟩
theorem goodIn_app {big a b : List Cond} (ha : GoodIn big a) (hb : GoodIn big b) : GoodIn big (a ++ b) := fun w h => (List.mem_append.mp h).elim (ha w) (hb w)
theorem goodIn_ca {big a b : List Cond} {c : Cond} (ha : GoodIn big (c :: a)) (hb : GoodIn big b) : GoodIn big (c :: (a ++ b)) := fun w h => (List.mem_cons.mp h).elim (fun e => ha w (List.mem_cons.mpr (Or.inl e))) (fun h => (List.mem_append.mp h).elim (fun h => ha w (List.mem_cons.mpr (Or.inr h))) (hb w))
theorem goodIn_sub {big ws : List Cond} (hm : ∀ w ∈ ws, w ∈ big) (h : ws.all goodWord = true) : GoodIn big ws := fun w hw => ⟨hm w hw, good_of_word (List.all_eq_true.mp h w hw)⟩
/-! ===== END ===== -/

/-! ===== BEGIN printed: names, fields, word lists, decode rows ===== -/
def RX0 : String := "RopeSeals$History"
def TX0 : u_T := fun k => match k with
  | 0 => ("RopeSeals$History", "rows", "[LRopeSeals$House;", true)
  | _ => ("RopeSeals$History", "size", "I", false)
def tyX0 : Nat → FieldType := fun k => match k with
  | 0 => .array (.object "RopeSeals$House")
  | _ => .int
abbrev wsX00 : List Cond := u_ws RX0 TX0 2
theorem nmX0 : ∀ a, a < 2 → ∀ b, b < 2 → a ≠ b → (TX0 a).2.1 ≠ (TX0 b).2.1 := by decide +kernel
theorem tyX0_ok : ∀ k, k < 2 → parseFieldDescriptor (TX0 k).2.2.1 = some (tyX0 k) := by decide +kernel
abbrev cX0_init : ByteArray := prog_2_method_1_code
def yX0_init : MethodName := ⟨RX0, "<init>", "()V"⟩
abbrev cX0_states : ByteArray := prog_2_method_2_code
def yX0_states : MethodName := ⟨RX0, "states", "()I"⟩
abbrev cX0_add : ByteArray := prog_2_method_3_code
def yX0_add : MethodName := ⟨RX0, "add", "(LRopeSeals$House;)V"⟩
abbrev cX0_dropOldest : ByteArray := prog_2_method_4_code
def yX0_dropOldest : MethodName := ⟨RX0, "dropOldest", "()V"⟩
abbrev cX0_takeLatest : ByteArray := prog_2_method_5_code
def yX0_takeLatest : MethodName := ⟨RX0, "takeLatest", "(LRopeSeals$House;)I"⟩
def RX1 : String := "RopeSeals$House"
def TX1 : u_T := fun k => match k with
  | 0 => ("RopeSeals$House", "settings", "[I", true)
  | 1 => ("RopeSeals$House", "claims", "[I", true)
  | 2 => ("RopeSeals$House", "loads", "[I", true)
  | 3 => ("RopeSeals$House", "vouched", "[I", true)
  | 4 => ("RopeSeals$House", "seals", "[I", true)
  | 5 => ("RopeSeals$House", "fines", "[I", true)
  | 6 => ("RopeSeals$House", "count", "I", false)
  | 7 => ("RopeSeals$House", "opened", "I", false)
  | 8 => ("RopeSeals$House", "lied", "I", false)
  | 9 => ("RopeSeals$House", "cleared", "I", false)
  | _ => ("RopeSeals$House", "tolls", "I", false)
def tyX1 : Nat → FieldType := fun k => match k with
  | 0 => .array .int
  | 1 => .array .int
  | 2 => .array .int
  | 3 => .array .int
  | 4 => .array .int
  | 5 => .array .int
  | 6 => .int
  | 7 => .int
  | 8 => .int
  | 9 => .int
  | _ => .int
abbrev wsX10 : List Cond := u_ws RX1 TX1 11
theorem nmX1 : ∀ a, a < 11 → ∀ b, b < 11 → a ≠ b → (TX1 a).2.1 ≠ (TX1 b).2.1 := by decide +kernel
theorem tyX1_ok : ∀ k, k < 11 → parseFieldDescriptor (TX1 k).2.2.1 = some (tyX1 k) := by decide +kernel
abbrev cX1_init : ByteArray := prog_3_method_1_code
def yX1_init : MethodName := ⟨RX1, "<init>", "()V"⟩
abbrev cX1_copyFrom : ByteArray := prog_3_method_2_code
def yX1_copyFrom : MethodName := ⟨RX1, "copyFrom", "(LRopeSeals$House;)V"⟩
abbrev cX1_carts : ByteArray := prog_3_method_3_code
def yX1_carts : MethodName := ⟨RX1, "carts", "()I"⟩
abbrev cX1_admit : ByteArray := prog_3_method_4_code
def yX1_admit : MethodName := ⟨RX1, "admit", "(III)I"⟩
abbrev cX1_changeClaim : ByteArray := prog_3_method_5_code
def yX1_changeClaim : MethodName := ⟨RX1, "changeClaim", "(II)I"⟩
abbrev cX1_mendSeal : ByteArray := prog_3_method_6_code
def yX1_mendSeal : MethodName := ⟨RX1, "mendSeal", "(I)I"⟩
abbrev cX1_inspect : ByteArray := prog_3_method_7_code
def yX1_inspect : MethodName := ⟨RX1, "inspect", "(I)I"⟩
abbrev cX1_exposeLiar : ByteArray := prog_3_method_8_code
def yX1_exposeLiar : MethodName := ⟨RX1, "exposeLiar", "(I)V"⟩
abbrev cX1_inspectAll : ByteArray := prog_3_method_9_code
def yX1_inspectAll : MethodName := ⟨RX1, "inspectAll", "()I"⟩
abbrev cX1_changeSetting : ByteArray := prog_3_method_10_code
def yX1_changeSetting : MethodName := ⟨RX1, "changeSetting", "(II)I"⟩
abbrev cX1_tellOfCart : ByteArray := prog_3_method_11_code
def yX1_tellOfCart : MethodName := ⟨RX1, "tellOfCart", "(II)I"⟩
abbrev cX1_countChainsWith : ByteArray := prog_3_method_12_code
def yX1_countChainsWith : MethodName := ⟨RX1, "countChainsWith", "(I)I"⟩
abbrev cX1_whyNotCleared : ByteArray := prog_3_method_13_code
def yX1_whyNotCleared : MethodName := ⟨RX1, "whyNotCleared", "(I)I"⟩
abbrev cX1_cartOfChain : ByteArray := prog_3_method_14_code
def yX1_cartOfChain : MethodName := ⟨RX1, "cartOfChain", "(II)I"⟩
abbrev cX1_firstBroken : ByteArray := prog_3_method_15_code
def yX1_firstBroken : MethodName := ⟨RX1, "firstBroken", "(I)I"⟩
abbrev cX1_tellOfAll : ByteArray := prog_3_method_16_code
def yX1_tellOfAll : MethodName := ⟨RX1, "tellOfAll", "(I)I"⟩
abbrev cX1_countBroken : ByteArray := prog_3_method_17_code
def yX1_countBroken : MethodName := ⟨RX1, "countBroken", "()I"⟩
abbrev cX1_greatestDepth : ByteArray := prog_3_method_18_code
def yX1_greatestDepth : MethodName := ⟨RX1, "greatestDepth", "()I"⟩
abbrev cX1_countUnvouched : ByteArray := prog_3_method_19_code
def yX1_countUnvouched : MethodName := ⟨RX1, "countUnvouched", "()I"⟩
abbrev cX1_finesOfAll : ByteArray := prog_3_method_20_code
def yX1_finesOfAll : MethodName := ⟨RX1, "finesOfAll", "()I"⟩
abbrev cX1_sacksFound : ByteArray := prog_3_method_21_code
def yX1_sacksFound : MethodName := ⟨RX1, "sacksFound", "()I"⟩
abbrev cX1_foretell : ByteArray := prog_3_method_22_code
def yX1_foretell : MethodName := ⟨RX1, "foretell", "(II)I"⟩
abbrev cX1_countEnds : ByteArray := prog_3_method_23_code
def yX1_countEnds : MethodName := ⟨RX1, "countEnds", "()I"⟩
abbrev cX1_countHonestOpenings : ByteArray := prog_3_method_24_code
def yX1_countHonestOpenings : MethodName := ⟨RX1, "countHonestOpenings", "()I"⟩
abbrev cX1_mostClearing : ByteArray := prog_3_method_25_code
def yX1_mostClearing : MethodName := ⟨RX1, "mostClearing", "()I"⟩
abbrev cX1_otherClaimForSeal : ByteArray := prog_3_method_26_code
def yX1_otherClaimForSeal : MethodName := ⟨RX1, "otherClaimForSeal", "(I)I"⟩
abbrev cX1_rightSeal : ByteArray := prog_3_method_27_code
def yX1_rightSeal : MethodName := ⟨RX1, "rightSeal", "(I)I"⟩
abbrev cX1_sealFor : ByteArray := prog_3_method_28_code
def yX1_sealFor : MethodName := ⟨RX1, "sealFor", "(II)I"⟩
abbrev cX1_isWhole : ByteArray := prog_3_method_29_code
def yX1_isWhole : MethodName := ⟨RX1, "isWhole", "(I)Z"⟩
abbrev cX1_isLie : ByteArray := prog_3_method_30_code
def yX1_isLie : MethodName := ⟨RX1, "isLie", "(II)Z"⟩
abbrev cX1_ownFine : ByteArray := prog_3_method_31_code
def yX1_ownFine : MethodName := ⟨RX1, "ownFine", "(II)I"⟩
abbrev cX1_knows : ByteArray := prog_3_method_32_code
def yX1_knows : MethodName := ⟨RX1, "knows", "(I)Z"⟩
abbrev cX1_isSacks : ByteArray := prog_3_method_33_code
def yX1_isSacks : MethodName := ⟨RX1, "isSacks", "(I)Z"⟩
abbrev cX1_bit : ByteArray := prog_3_method_34_code
def yX1_bit : MethodName := ⟨RX1, "bit", "(I)I"⟩
abbrev cX1_isIn : ByteArray := prog_3_method_35_code
def yX1_isIn : MethodName := ⟨RX1, "isIn", "(II)Z"⟩
abbrev cX1_all : ByteArray := prog_3_method_36_code
def yX1_all : MethodName := ⟨RX1, "all", "()I"⟩
abbrev cX1_waiting : ByteArray := prog_3_method_37_code
def yX1_waiting : MethodName := ⟨RX1, "waiting", "()I"⟩
abbrev cX1_chainOf : ByteArray := prog_3_method_38_code
def yX1_chainOf : MethodName := ⟨RX1, "chainOf", "(I)I"⟩
abbrev cX1_reachedFrom : ByteArray := prog_3_method_39_code
def yX1_reachedFrom : MethodName := ⟨RX1, "reachedFrom", "(I)I"⟩
abbrev cX1_clearedIfHonest : ByteArray := prog_3_method_40_code
def yX1_clearedIfHonest : MethodName := ⟨RX1, "clearedIfHonest", "(I)I"⟩
abbrev cX1_vouchers : ByteArray := prog_3_method_41_code
def yX1_vouchers : MethodName := ⟨RX1, "vouchers", "(I)I"⟩
abbrev cX1_wholeVouchers : ByteArray := prog_3_method_42_code
def yX1_wholeVouchers : MethodName := ⟨RX1, "wholeVouchers", "(I)I"⟩
def RX2 : String := "RopeSeals$OrderText"
def TX2 : u_T := fun k => match k with
  | 0 => ("RopeSeals$OrderText", "characters", "[C", true)
  | 1 => ("RopeSeals$OrderText", "size", "I", false)
  | 2 => ("RopeSeals$OrderText", "place", "I", false)
  | 3 => ("RopeSeals$OrderText", "kind", "C", false)
  | 4 => ("RopeSeals$OrderText", "cartNumber", "I", false)
  | 5 => ("RopeSeals$OrderText", "claim", "I", false)
  | _ => ("RopeSeals$OrderText", "load", "I", false)
def tyX2 : Nat → FieldType := fun k => match k with
  | 0 => .array .char
  | 1 => .int
  | 2 => .int
  | 3 => .char
  | 4 => .int
  | 5 => .int
  | _ => .int
abbrev wsX20 : List Cond := u_ws RX2 TX2 7
theorem nmX2 : ∀ a, a < 7 → ∀ b, b < 7 → a ≠ b → (TX2 a).2.1 ≠ (TX2 b).2.1 := by decide +kernel
theorem tyX2_ok : ∀ k, k < 7 → parseFieldDescriptor (TX2 k).2.2.1 = some (tyX2 k) := by decide +kernel
abbrev cX2_init : ByteArray := prog_4_method_1_code
def yX2_init : MethodName := ⟨RX2, "<init>", "()V"⟩
abbrev cX2_append : ByteArray := prog_4_method_2_code
def yX2_append : MethodName := ⟨RX2, "append", "(C)I"⟩
abbrev cX2_empty : ByteArray := prog_4_method_3_code
def yX2_empty : MethodName := ⟨RX2, "empty", "()I"⟩
abbrev cX2_length : ByteArray := prog_4_method_4_code
def yX2_length : MethodName := ⟨RX2, "length", "()I"⟩
abbrev cX2_reached : ByteArray := prog_4_method_5_code
def yX2_reached : MethodName := ⟨RX2, "reached", "()I"⟩
abbrev cX2_kind : ByteArray := prog_4_method_6_code
def yX2_kind : MethodName := ⟨RX2, "kind", "()C"⟩
abbrev cX2_cartNumber : ByteArray := prog_4_method_7_code
def yX2_cartNumber : MethodName := ⟨RX2, "cartNumber", "()I"⟩
abbrev cX2_claim : ByteArray := prog_4_method_8_code
def yX2_claim : MethodName := ⟨RX2, "claim", "()I"⟩
abbrev cX2_load : ByteArray := prog_4_method_9_code
def yX2_load : MethodName := ⟨RX2, "load", "()I"⟩
abbrev cX2_countOrders : ByteArray := prog_4_method_10_code
def yX2_countOrders : MethodName := ⟨RX2, "countOrders", "()I"⟩
abbrev cX2_rewind : ByteArray := prog_4_method_11_code
def yX2_rewind : MethodName := ⟨RX2, "rewind", "()V"⟩
abbrev cX2_nextOrder : ByteArray := prog_4_method_12_code
def yX2_nextOrder : MethodName := ⟨RX2, "nextOrder", "()V"⟩
abbrev cX2_readOrder : ByteArray := prog_4_method_13_code
def yX2_readOrder : MethodName := ⟨RX2, "readOrder", "()Z"⟩
abbrev cX2_takesKind : ByteArray := prog_4_method_14_code
def yX2_takesKind : MethodName := ⟨RX2, "takesKind", "(C)Z"⟩
abbrev cX2_readClaim : ByteArray := prog_4_method_15_code
def yX2_readClaim : MethodName := ⟨RX2, "readClaim", "()Z"⟩
abbrev cX2_readLoad : ByteArray := prog_4_method_16_code
def yX2_readLoad : MethodName := ⟨RX2, "readLoad", "()Z"⟩
abbrev cX2_readCart : ByteArray := prog_4_method_17_code
def yX2_readCart : MethodName := ⟨RX2, "readCart", "()Z"⟩
abbrev cX2_takes : ByteArray := prog_4_method_18_code
def yX2_takes : MethodName := ⟨RX2, "takes", "(C)Z"⟩
abbrev cX2_takeNumber : ByteArray := prog_4_method_19_code
def yX2_takeNumber : MethodName := ⟨RX2, "takeNumber", "(I)I"⟩
abbrev cX2_digitHere : ByteArray := prog_4_method_20_code
def yX2_digitHere : MethodName := ⟨RX2, "digitHere", "()I"⟩
def RX3 : String := "RopeSeals"
def TX3 : u_T := fun k => match k with
  | 0 => ("RopeSeals", "house", "LRopeSeals$House;", true)
  | 1 => ("RopeSeals", "before", "LRopeSeals$House;", true)
  | 2 => ("RopeSeals", "snapshot", "LRopeSeals$House;", true)
  | 3 => ("RopeSeals", "hasSnapshot", "Z", false)
  | 4 => ("RopeSeals", "history", "LRopeSeals$History;", true)
  | _ => ("RopeSeals", "text", "LRopeSeals$OrderText;", true)
def tyX3 : Nat → FieldType := fun k => match k with
  | 0 => .object "RopeSeals$House"
  | 1 => .object "RopeSeals$House"
  | 2 => .object "RopeSeals$House"
  | 3 => .boolean
  | 4 => .object "RopeSeals$History"
  | _ => .object "RopeSeals$OrderText"
abbrev wsX30 : List Cond := u_ws RX3 TX3 6
theorem nmX3 : ∀ a, a < 6 → ∀ b, b < 6 → a ≠ b → (TX3 a).2.1 ≠ (TX3 b).2.1 := by decide +kernel
theorem tyX3_ok : ∀ k, k < 6 → parseFieldDescriptor (TX3 k).2.2.1 = some (tyX3 k) := by decide +kernel
abbrev cX3_init : ByteArray := prog_1_method_1_code
def yX3_init : MethodName := ⟨RX3, "<init>", "()V"⟩
abbrev cX3_come : ByteArray := prog_1_method_2_code
def yX3_come : MethodName := ⟨RX3, "come", "(III)I"⟩
abbrev cX3_alter : ByteArray := prog_1_method_3_code
def yX3_alter : MethodName := ⟨RX3, "alter", "(II)I"⟩
abbrev cX3_reseal : ByteArray := prog_1_method_4_code
def yX3_reseal : MethodName := ⟨RX3, "reseal", "(I)I"⟩
abbrev cX3_open : ByteArray := prog_1_method_5_code
def yX3_open : MethodName := ⟨RX3, "open", "(I)I"⟩
abbrev cX3_openAll : ByteArray := prog_1_method_6_code
def yX3_openAll : MethodName := ⟨RX3, "openAll", "()I"⟩
abbrev cX3_set : ByteArray := prog_1_method_7_code
def yX3_set : MethodName := ⟨RX3, "set", "(II)I"⟩
abbrev cX3_type : ByteArray := prog_1_method_8_code
def yX3_type : MethodName := ⟨RX3, "type", "(C)I"⟩
abbrev cX3_clearText : ByteArray := prog_1_method_9_code
def yX3_clearText : MethodName := ⟨RX3, "clearText", "()I"⟩
abbrev cX3_perform : ByteArray := prog_1_method_10_code
def yX3_perform : MethodName := ⟨RX3, "perform", "()I"⟩
abbrev cX3_undo : ByteArray := prog_1_method_11_code
def yX3_undo : MethodName := ⟨RX3, "undo", "()I"⟩
abbrev cX3_keep : ByteArray := prog_1_method_12_code
def yX3_keep : MethodName := ⟨RX3, "keep", "()I"⟩
abbrev cX3_restore : ByteArray := prog_1_method_13_code
def yX3_restore : MethodName := ⟨RX3, "restore", "()I"⟩
abbrev cX3_cart : ByteArray := prog_1_method_14_code
def yX3_cart : MethodName := ⟨RX3, "cart", "(II)I"⟩
abbrev cX3_chain : ByteArray := prog_1_method_15_code
def yX3_chain : MethodName := ⟨RX3, "chain", "(II)I"⟩
abbrev cX3_brokenIn : ByteArray := prog_1_method_16_code
def yX3_brokenIn : MethodName := ⟨RX3, "brokenIn", "(I)I"⟩
abbrev cX3_total : ByteArray := prog_1_method_17_code
def yX3_total : MethodName := ⟨RX3, "total", "(I)I"⟩
abbrev cX3_ifOpened : ByteArray := prog_1_method_18_code
def yX3_ifOpened : MethodName := ⟨RX3, "ifOpened", "(II)I"⟩
abbrev cX3_fewestOpenings : ByteArray := prog_1_method_19_code
def yX3_fewestOpenings : MethodName := ⟨RX3, "fewestOpenings", "(I)I"⟩
abbrev cX3_bestOpening : ByteArray := prog_1_method_20_code
def yX3_bestOpening : MethodName := ⟨RX3, "bestOpening", "()I"⟩
abbrev cX3_sameSeal : ByteArray := prog_1_method_21_code
def yX3_sameSeal : MethodName := ⟨RX3, "sameSeal", "(I)I"⟩
abbrev cX3_recorded : ByteArray := prog_1_method_22_code
def yX3_recorded : MethodName := ⟨RX3, "recorded", "(I)I"⟩
abbrev cX3_isError : ByteArray := prog_1_method_23_code
def yX3_isError : MethodName := ⟨RX3, "isError", "(I)Z"⟩
abbrev cX3_carryOutOrder : ByteArray := prog_1_method_24_code
def yX3_carryOutOrder : MethodName := ⟨RX3, "carryOutOrder", "()I"⟩
def RX4 : String := "RopeSealsModel"
def TX4 : u_T := fun k => match k with
  | 0 => ("RopeSealsModel", "thrown", "I", false)
  | 1 => ("RopeSealsModel", "s", "[I", true)
  | 2 => ("RopeSealsModel", "aside", "[I", true)
  | 3 => ("RopeSealsModel", "states", "[I", true)
  | 4 => ("RopeSealsModel", "stateMany", "I", false)
  | 5 => ("RopeSealsModel", "snapshot", "[I", true)
  | 6 => ("RopeSealsModel", "hasSnapshot", "Z", false)
  | 7 => ("RopeSealsModel", "text", "[I", true)
  | 8 => ("RopeSealsModel", "length", "I", false)
  | 9 => ("RopeSealsModel", "at", "I", false)
  | 10 => ("RopeSealsModel", "isWell", "Z", false)
  | 11 => ("RopeSealsModel", "read", "[I", true)
  | _ => ("RopeSealsModel", "readMany", "I", false)
def tyX4 : Nat → FieldType := fun k => match k with
  | 0 => .int
  | 1 => .array .int
  | 2 => .array .int
  | 3 => .array .int
  | 4 => .int
  | 5 => .array .int
  | 6 => .boolean
  | 7 => .array .int
  | 8 => .int
  | 9 => .int
  | 10 => .boolean
  | 11 => .array .int
  | _ => .int
abbrev wsX40 : List Cond := u_ws RX4 TX4 13
theorem nmX4 : ∀ a, a < 13 → ∀ b, b < 13 → a ≠ b → (TX4 a).2.1 ≠ (TX4 b).2.1 := by decide +kernel
theorem tyX4_ok : ∀ k, k < 13 → parseFieldDescriptor (TX4 k).2.2.1 = some (tyX4 k) := by decide +kernel
abbrev cX4_init : ByteArray := prog_6_method_1_code
def yX4_init : MethodName := ⟨RX4, "<init>", "()V"⟩
abbrev cX4_in : ByteArray := prog_6_method_3_code
def yX4_in : MethodName := ⟨RX4, "in", "(III)Z"⟩
abbrev cX4_isCart : ByteArray := prog_6_method_4_code
def yX4_isCart : MethodName := ⟨RX4, "isCart", "(I)Z"⟩
abbrev cX4_of : ByteArray := prog_6_method_5_code
def yX4_of : MethodName := ⟨RX4, "of", "(II)I"⟩
abbrev cX4_lay : ByteArray := prog_6_method_6_code
def yX4_lay : MethodName := ⟨RX4, "lay", "(III)V"⟩
abbrev cX4_records : ByteArray := prog_6_method_7_code
def yX4_records : MethodName := ⟨RX4, "records", "()V"⟩
abbrev cX4_putAside : ByteArray := prog_6_method_8_code
def yX4_putAside : MethodName := ⟨RX4, "putAside", "()V"⟩
abbrev cX4_takeBack : ByteArray := prog_6_method_9_code
def yX4_takeBack : MethodName := ⟨RX4, "takeBack", "()V"⟩
abbrev cX4_sealBy : ByteArray := prog_6_method_10_code
def yX4_sealBy : MethodName := ⟨RX4, "sealBy", "(II)I"⟩
abbrev cX4_rightSeal : ByteArray := prog_6_method_11_code
def yX4_rightSeal : MethodName := ⟨RX4, "rightSeal", "(I)I"⟩
abbrev cX4_isWhole : ByteArray := prog_6_method_12_code
def yX4_isWhole : MethodName := ⟨RX4, "isWhole", "(I)Z"⟩
abbrev cX4_depth : ByteArray := prog_6_method_13_code
def yX4_depth : MethodName := ⟨RX4, "depth", "(I)I"⟩
abbrev cX4_vouchers : ByteArray := prog_6_method_14_code
def yX4_vouchers : MethodName := ⟨RX4, "vouchers", "(I)I"⟩
abbrev cX4_isInChain : ByteArray := prog_6_method_15_code
def yX4_isInChain : MethodName := ⟨RX4, "isInChain", "(II)Z"⟩
abbrev cX4_refusesCart : ByteArray := prog_6_method_16_code
def yX4_refusesCart : MethodName := ⟨RX4, "refusesCart", "(III)I"⟩
abbrev cX4_comes : ByteArray := prog_6_method_17_code
def yX4_comes : MethodName := ⟨RX4, "comes", "(III)I"⟩
abbrev cX4_come : ByteArray := prog_6_method_18_code
def yX4_come : MethodName := ⟨RX4, "come", "(III)I"⟩
abbrev cX4_refusesAltering : ByteArray := prog_6_method_19_code
def yX4_refusesAltering : MethodName := ⟨RX4, "refusesAltering", "(II)I"⟩
abbrev cX4_alter : ByteArray := prog_6_method_20_code
def yX4_alter : MethodName := ⟨RX4, "alter", "(II)I"⟩
abbrev cX4_refusesSeal : ByteArray := prog_6_method_21_code
def yX4_refusesSeal : MethodName := ⟨RX4, "refusesSeal", "(I)I"⟩
abbrev cX4_reseal : ByteArray := prog_6_method_22_code
def yX4_reseal : MethodName := ⟨RX4, "reseal", "(I)I"⟩
abbrev cX4_clears : ByteArray := prog_6_method_23_code
def yX4_clears : MethodName := ⟨RX4, "clears", "(I)I"⟩
abbrev cX4_fines : ByteArray := prog_6_method_24_code
def yX4_fines : MethodName := ⟨RX4, "fines", "(II)V"⟩
abbrev cX4_fineOfLie : ByteArray := prog_6_method_25_code
def yX4_fineOfLie : MethodName := ⟨RX4, "fineOfLie", "(II)I"⟩
abbrev cX4_opens : ByteArray := prog_6_method_26_code
def yX4_opens : MethodName := ⟨RX4, "opens", "(I)I"⟩
abbrev cX4_refusesOpening : ByteArray := prog_6_method_27_code
def yX4_refusesOpening : MethodName := ⟨RX4, "refusesOpening", "(I)I"⟩
abbrev cX4_open : ByteArray := prog_6_method_28_code
def yX4_open : MethodName := ⟨RX4, "open", "(I)I"⟩
abbrev cX4_isLeft : ByteArray := prog_6_method_29_code
def yX4_isLeft : MethodName := ⟨RX4, "isLeft", "(I)Z"⟩
abbrev cX4_lastLeft : ByteArray := prog_6_method_30_code
def yX4_lastLeft : MethodName := ⟨RX4, "lastLeft", "()I"⟩
abbrev cX4_openAll : ByteArray := prog_6_method_31_code
def yX4_openAll : MethodName := ⟨RX4, "openAll", "()I"⟩
abbrev cX4_leastOf : ByteArray := prog_6_method_32_code
def yX4_leastOf : MethodName := ⟨RX4, "leastOf", "(I)I"⟩
abbrev cX4_set : ByteArray := prog_6_method_33_code
def yX4_set : MethodName := ⟨RX4, "set", "(II)I"⟩
abbrev cX4_type : ByteArray := prog_6_method_34_code
def yX4_type : MethodName := ⟨RX4, "type", "(C)I"⟩
abbrev cX4_clearText : ByteArray := prog_6_method_35_code
def yX4_clearText : MethodName := ⟨RX4, "clearText", "()I"⟩
abbrev cX4_sign : ByteArray := prog_6_method_36_code
def yX4_sign : MethodName := ⟨RX4, "sign", "()I"⟩
abbrev cX4_wants : ByteArray := prog_6_method_37_code
def yX4_wants : MethodName := ⟨RX4, "wants", "(I)V"⟩
abbrev cX4_number : ByteArray := prog_6_method_38_code
def yX4_number : MethodName := ⟨RX4, "number", "(I)I"⟩
abbrev cX4_readsCart : ByteArray := prog_6_method_39_code
def yX4_readsCart : MethodName := ⟨RX4, "readsCart", "(I)V"⟩
abbrev cX4_readsOrder : ByteArray := prog_6_method_40_code
def yX4_readsOrder : MethodName := ⟨RX4, "readsOrder", "()V"⟩
abbrev cX4_reads : ByteArray := prog_6_method_41_code
def yX4_reads : MethodName := ⟨RX4, "reads", "()I"⟩
abbrev cX4_refuses : ByteArray := prog_6_method_42_code
def yX4_refuses : MethodName := ⟨RX4, "refuses", "(I)I"⟩
abbrev cX4_does : ByteArray := prog_6_method_43_code
def yX4_does : MethodName := ⟨RX4, "does", "(I)V"⟩
abbrev cX4_perform : ByteArray := prog_6_method_44_code
def yX4_perform : MethodName := ⟨RX4, "perform", "()I"⟩
abbrev cX4_undo : ByteArray := prog_6_method_45_code
def yX4_undo : MethodName := ⟨RX4, "undo", "()I"⟩
abbrev cX4_keep : ByteArray := prog_6_method_46_code
def yX4_keep : MethodName := ⟨RX4, "keep", "()I"⟩
abbrev cX4_restore : ByteArray := prog_6_method_47_code
def yX4_restore : MethodName := ⟨RX4, "restore", "()I"⟩
abbrev cX4_inChains : ByteArray := prog_6_method_48_code
def yX4_inChains : MethodName := ⟨RX4, "inChains", "(I)I"⟩
abbrev cX4_whyNot : ByteArray := prog_6_method_49_code
def yX4_whyNot : MethodName := ⟨RX4, "whyNot", "(I)I"⟩
abbrev cX4_cart : ByteArray := prog_6_method_50_code
def yX4_cart : MethodName := ⟨RX4, "cart", "(II)I"⟩
abbrev cX4_chain : ByteArray := prog_6_method_51_code
def yX4_chain : MethodName := ⟨RX4, "chain", "(II)I"⟩
abbrev cX4_brokenIn : ByteArray := prog_6_method_52_code
def yX4_brokenIn : MethodName := ⟨RX4, "brokenIn", "(I)I"⟩
abbrev cX4_sumOf : ByteArray := prog_6_method_53_code
def yX4_sumOf : MethodName := ⟨RX4, "sumOf", "(I)I"⟩
abbrev cX4_brokenMany : ByteArray := prog_6_method_54_code
def yX4_brokenMany : MethodName := ⟨RX4, "brokenMany", "()I"⟩
abbrev cX4_deepest : ByteArray := prog_6_method_55_code
def yX4_deepest : MethodName := ⟨RX4, "deepest", "()I"⟩
abbrev cX4_ends : ByteArray := prog_6_method_56_code
def yX4_ends : MethodName := ⟨RX4, "ends", "()I"⟩
abbrev cX4_found : ByteArray := prog_6_method_57_code
def yX4_found : MethodName := ⟨RX4, "found", "()I"⟩
abbrev cX4_tellsTotal : ByteArray := prog_6_method_58_code
def yX4_tellsTotal : MethodName := ⟨RX4, "tellsTotal", "(I)I"⟩
abbrev cX4_total : ByteArray := prog_6_method_59_code
def yX4_total : MethodName := ⟨RX4, "total", "(I)I"⟩
abbrev cX4_wouldClear : ByteArray := prog_6_method_60_code
def yX4_wouldClear : MethodName := ⟨RX4, "wouldClear", "(I)I"⟩
abbrev cX4_finesOfOthers : ByteArray := prog_6_method_61_code
def yX4_finesOfOthers : MethodName := ⟨RX4, "finesOfOthers", "(I)I"⟩
abbrev cX4_ifOpened : ByteArray := prog_6_method_62_code
def yX4_ifOpened : MethodName := ⟨RX4, "ifOpened", "(II)I"⟩
abbrev cX4_reaches : ByteArray := prog_6_method_63_code
def yX4_reaches : MethodName := ⟨RX4, "reaches", "(II)Z"⟩
abbrev cX4_byEnds : ByteArray := prog_6_method_64_code
def yX4_byEnds : MethodName := ⟨RX4, "byEnds", "()I"⟩
abbrev cX4_byOpening : ByteArray := prog_6_method_65_code
def yX4_byOpening : MethodName := ⟨RX4, "byOpening", "()I"⟩
abbrev cX4_fewestOpenings : ByteArray := prog_6_method_66_code
def yX4_fewestOpenings : MethodName := ⟨RX4, "fewestOpenings", "(I)I"⟩
abbrev cX4_bestOpening : ByteArray := prog_6_method_67_code
def yX4_bestOpening : MethodName := ⟨RX4, "bestOpening", "()I"⟩
abbrev cX4_sameSeal : ByteArray := prog_6_method_68_code
def yX4_sameSeal : MethodName := ⟨RX4, "sameSeal", "(I)I"⟩
def RJ6 : String := "java/lang/Integer"
def TJ6 : u_T := fun k => match k with
  | _ => ("", "", "", false)
def tyJ6 : Nat → FieldType := fun k => match k with
  | _ => .int
abbrev wsJ60 : List Cond := u_ws RJ6 TJ6 0
theorem nmJ6 : ∀ a, a < 0 → ∀ b, b < 0 → a ≠ b → (TJ6 a).2.1 ≠ (TJ6 b).2.1 := by decide +kernel
theorem tyJ6_ok : ∀ k, k < 0 → parseFieldDescriptor (TJ6 k).2.2.1 = some (tyJ6 k) := by decide +kernel
abbrev cJ6_bitCount_0f7a4 : ByteArray := prog_7_method_49_code
def yJ6_bitCount_0f7a4 : MethodName := ⟨RJ6, "bitCount", "(I)I"⟩
def RJ9 : String := "java/lang/Math"
def TJ9 : u_T := fun k => match k with
  | _ => ("", "", "", false)
def tyJ9 : Nat → FieldType := fun k => match k with
  | _ => .int
abbrev wsJ90 : List Cond := u_ws RJ9 TJ9 0
theorem nmJ9 : ∀ a, a < 0 → ∀ b, b < 0 → a ≠ b → (TJ9 a).2.1 ≠ (TJ9 b).2.1 := by decide +kernel
theorem tyJ9_ok : ∀ k, k < 0 → parseFieldDescriptor (TJ9 k).2.2.1 = some (tyJ9 k) := by decide +kernel
abbrev cJ9_abs_0f7a4 : ByteArray := prog_8_method_59_code
def yJ9_abs_0f7a4 : MethodName := ⟨RJ9, "abs", "(I)I"⟩
abbrev cJ9_max_7cf53 : ByteArray := prog_8_method_65_code
def yJ9_max_7cf53 : MethodName := ⟨RJ9, "max", "(II)I"⟩
def RJ10 : String := "java/lang/System"
def TJ10 : u_T := fun k => match k with
  | _ => ("", "", "", false)
def tyJ10 : Nat → FieldType := fun k => match k with
  | _ => .int
abbrev wsJ100 : List Cond := u_ws RJ10 TJ10 0
theorem nmJ10 : ∀ a, a < 0 → ∀ b, b < 0 → a ≠ b → (TJ10 a).2.1 ≠ (TJ10 b).2.1 := by decide +kernel
theorem tyJ10_ok : ∀ k, k < 0 → parseFieldDescriptor (TJ10 k).2.2.1 = some (tyJ10 k) := by decide +kernel
def RL : String := "RopeSealsLaw"
abbrev cL_law : ByteArray := code
def yL_law : MethodName := ⟨RL, "law", "([I)Z"⟩
def wsX1_init : List Cond := .code yX1_init cX1_init 1 none :: ([.methodLink RX1 3 objectInit, .instanceMethod objectInit, .code objectInit ⟨#[0xb1]⟩ 1 none, .arrayClass .int, .fieldLink RX1 9 "RopeSeals$House" "settings" "[I", .fieldLink RX1 15 "RopeSeals$House" "claims" "[I", .fieldLink RX1 18 "RopeSeals$House" "loads" "[I", .fieldLink RX1 21 "RopeSeals$House" "vouched" "[I", .fieldLink RX1 24 "RopeSeals$House" "seals" "[I", .fieldLink RX1 27 "RopeSeals$House" "fines" "[I", .fieldLink RX1 30 "RopeSeals$House" "count" "I", .fieldLink RX1 34 "RopeSeals$House" "opened" "I", .fieldLink RX1 37 "RopeSeals$House" "lied" "I", .fieldLink RX1 40 "RopeSeals$House" "cleared" "I", .fieldLink RX1 43 "RopeSeals$House" "tolls" "I"] ++ wsX10)
def wsX0_init : List Cond := .code yX0_init cX0_init 2 none :: ([.methodLink RX0 3 objectInit, .instanceMethod objectInit, .code objectInit ⟨#[0xb1]⟩ 1 none, .classLink RX0 11 RX1, .fieldLink RX0 13 "RopeSeals$History" "rows" "[LRopeSeals$House;", .fieldLink RX0 17 "RopeSeals$History" "size" "I", .instantiable RX1 11, .initialized RX1, .instanceMethod yX1_init, .code yX1_init cX1_init 1 none, .methodLink RX1 3 objectInit, .arrayClass .int, .fieldLink RX1 9 "RopeSeals$House" "settings" "[I", .fieldLink RX1 15 "RopeSeals$House" "claims" "[I", .fieldLink RX1 18 "RopeSeals$House" "loads" "[I", .fieldLink RX1 21 "RopeSeals$House" "vouched" "[I", .fieldLink RX1 24 "RopeSeals$House" "seals" "[I", .fieldLink RX1 27 "RopeSeals$House" "fines" "[I", .fieldLink RX1 30 "RopeSeals$House" "count" "I", .fieldLink RX1 34 "RopeSeals$House" "opened" "I", .fieldLink RX1 37 "RopeSeals$House" "lied" "I", .fieldLink RX1 40 "RopeSeals$House" "cleared" "I", .fieldLink RX1 43 "RopeSeals$House" "tolls" "I"] ++ wsX00 ++ wsX10)
def wsX0_states : List Cond := .code yX0_states cX0_states 1 (some .int) :: ([.fieldLink RX0 17 "RopeSeals$History" "size" "I"] ++ wsX00)
def wsX0_dropOldest : List Cond := .code yX0_dropOldest cX0_dropOldest 3 none :: ([.fieldLink RX0 13 "RopeSeals$History" "rows" "[LRopeSeals$House;", .fieldLink RX0 17 "RopeSeals$History" "size" "I"] ++ wsX00)
def wsX1_copyFrom : List Cond := .code yX1_copyFrom cX1_copyFrom 2 none :: ([.fieldLink RX1 9 "RopeSeals$House" "settings" "[I", .methodLink RX1 46 arraycopyName, .native arraycopyName, .static arraycopyName, .initialized "java/lang/System", .fieldLink RX1 15 "RopeSeals$House" "claims" "[I", .fieldLink RX1 18 "RopeSeals$House" "loads" "[I", .fieldLink RX1 21 "RopeSeals$House" "vouched" "[I", .fieldLink RX1 24 "RopeSeals$House" "seals" "[I", .fieldLink RX1 27 "RopeSeals$House" "fines" "[I", .fieldLink RX1 30 "RopeSeals$House" "count" "I", .fieldLink RX1 34 "RopeSeals$House" "opened" "I", .fieldLink RX1 37 "RopeSeals$House" "lied" "I", .fieldLink RX1 40 "RopeSeals$House" "cleared" "I", .fieldLink RX1 43 "RopeSeals$House" "tolls" "I"] ++ wsX10)
def wsX0_add_r1 : List Cond := [Cond.fieldLink RX0 17 "RopeSeals$History" "size" "I", Cond.fieldLink RX0 13 "RopeSeals$History" "rows" "[LRopeSeals$House;", Cond.methodLink RX0 22 yX0_dropOldest, Cond.instanceMethod yX0_dropOldest, Cond.selects RX0 yX0_dropOldest yX0_dropOldest, Cond.initialized RX0, Cond.code yX0_dropOldest cX0_dropOldest 3 none, Cond.methodLink RX0 25 yX1_copyFrom, Cond.instanceMethod yX1_copyFrom, Cond.selects RX1 yX1_copyFrom yX1_copyFrom, Cond.initialized RX1, Cond.code yX1_copyFrom cX1_copyFrom 2 none, Cond.fieldLink RX1 9 "RopeSeals$House" "settings" "[I", Cond.methodLink RX1 46 arraycopyName, Cond.native arraycopyName, Cond.static arraycopyName, Cond.initialized "java/lang/System", Cond.fieldLink RX1 15 "RopeSeals$House" "claims" "[I", Cond.fieldLink RX1 18 "RopeSeals$House" "loads" "[I", Cond.fieldLink RX1 21 "RopeSeals$House" "vouched" "[I", Cond.fieldLink RX1 24 "RopeSeals$House" "seals" "[I", Cond.fieldLink RX1 27 "RopeSeals$House" "fines" "[I", Cond.fieldLink RX1 30 "RopeSeals$House" "count" "I", Cond.fieldLink RX1 34 "RopeSeals$House" "opened" "I"]
def wsX0_add_r2 : List Cond := [Cond.fieldLink RX1 37 "RopeSeals$House" "lied" "I", Cond.fieldLink RX1 40 "RopeSeals$House" "cleared" "I", Cond.fieldLink RX1 43 "RopeSeals$House" "tolls" "I"]
def wsX0_add : List Cond := .code yX0_add cX0_add 3 none :: ((wsX0_add_r1 ++ wsX0_add_r2) ++ wsX00 ++ wsX10)
def wsX0_takeLatest : List Cond := .code yX0_takeLatest cX0_takeLatest 2 (some .int) :: ([.fieldLink RX0 17 "RopeSeals$History" "size" "I", .fieldLink RX0 13 "RopeSeals$History" "rows" "[LRopeSeals$House;", .methodLink RX0 25 yX1_copyFrom, .instanceMethod yX1_copyFrom, .selects RX1 yX1_copyFrom yX1_copyFrom, .initialized RX1, .code yX1_copyFrom cX1_copyFrom 2 none, .fieldLink RX1 9 "RopeSeals$House" "settings" "[I", .methodLink RX1 46 arraycopyName, .native arraycopyName, .static arraycopyName, .initialized "java/lang/System", .fieldLink RX1 15 "RopeSeals$House" "claims" "[I", .fieldLink RX1 18 "RopeSeals$House" "loads" "[I", .fieldLink RX1 21 "RopeSeals$House" "vouched" "[I", .fieldLink RX1 24 "RopeSeals$House" "seals" "[I", .fieldLink RX1 27 "RopeSeals$House" "fines" "[I", .fieldLink RX1 30 "RopeSeals$House" "count" "I", .fieldLink RX1 34 "RopeSeals$House" "opened" "I", .fieldLink RX1 37 "RopeSeals$House" "lied" "I", .fieldLink RX1 40 "RopeSeals$House" "cleared" "I", .fieldLink RX1 43 "RopeSeals$House" "tolls" "I"] ++ wsX00 ++ wsX10)
def wsX1_carts : List Cond := .code yX1_carts cX1_carts 1 (some .int) :: ([.fieldLink RX1 30 "RopeSeals$House" "count" "I"] ++ wsX10)
def wsX1_knows : List Cond := .code yX1_knows cX1_knows 2 (some .boolean) :: ([.fieldLink RX1 30 "RopeSeals$House" "count" "I"] ++ wsX10)
def wsX1_isSacks : List Cond := .code yX1_isSacks cX1_isSacks 1 (some .boolean) :: ([])
def wsX1_sealFor : List Cond := .code yX1_sealFor cX1_sealFor 6 (some .int) :: ([.fieldLink RX1 9 "RopeSeals$House" "settings" "[I", .fieldLink RX1 21 "RopeSeals$House" "vouched" "[I", .fieldLink RX1 30 "RopeSeals$House" "count" "I", .fieldLink RX1 24 "RopeSeals$House" "seals" "[I"] ++ wsX10)
def wsX1_rightSeal : List Cond := .code yX1_rightSeal cX1_rightSeal 2 (some .int) :: ([.fieldLink RX1 15 "RopeSeals$House" "claims" "[I", .methodLink RX1 143 yX1_sealFor, .instanceMethod yX1_sealFor, .selects RX1 yX1_sealFor yX1_sealFor, .initialized RX1, .code yX1_sealFor cX1_sealFor 6 (some .int), .fieldLink RX1 9 "RopeSeals$House" "settings" "[I", .fieldLink RX1 21 "RopeSeals$House" "vouched" "[I", .fieldLink RX1 30 "RopeSeals$House" "count" "I", .fieldLink RX1 24 "RopeSeals$House" "seals" "[I"] ++ wsX10)
def wsX1_admit : List Cond := .code yX1_admit cX1_admit 5 (some .int) :: ([.fieldLink RX1 30 "RopeSeals$House" "count" "I", .fieldLink RX1 15 "RopeSeals$House" "claims" "[I", .fieldLink RX1 18 "RopeSeals$House" "loads" "[I", .fieldLink RX1 21 "RopeSeals$House" "vouched" "[I", .fieldLink RX1 27 "RopeSeals$House" "fines" "[I", .fieldLink RX1 24 "RopeSeals$House" "seals" "[I", .fieldLink RX1 43 "RopeSeals$House" "tolls" "I", .methodLink RX1 52 yX1_knows, .instanceMethod yX1_knows, .selects RX1 yX1_knows yX1_knows, .initialized RX1, .code yX1_knows cX1_knows 2 (some .boolean), .methodLink RX1 56 yX1_isSacks, .static yX1_isSacks, .code yX1_isSacks cX1_isSacks 1 (some .boolean), .methodLink RX1 59 yX1_rightSeal, .instanceMethod yX1_rightSeal, .selects RX1 yX1_rightSeal yX1_rightSeal, .code yX1_rightSeal cX1_rightSeal 2 (some .int), .methodLink RX1 143 yX1_sealFor, .instanceMethod yX1_sealFor, .selects RX1 yX1_sealFor yX1_sealFor, .code yX1_sealFor cX1_sealFor 6 (some .int), .fieldLink RX1 9 "RopeSeals$House" "settings" "[I"] ++ wsX10)
def wsX1_bit : List Cond := .code yX1_bit cX1_bit 1 (some .int) :: ([])
def wsX1_isIn : List Cond := .code yX1_isIn cX1_isIn 2 (some .boolean) :: ([.methodLink RX1 70 yX1_bit, .static yX1_bit, .initialized RX1, .code yX1_bit cX1_bit 1 (some .int)])
def wsX1_changeClaim : List Cond := .code yX1_changeClaim cX1_changeClaim 4 (some .int) :: ([.fieldLink RX1 34 "RopeSeals$House" "opened" "I", .fieldLink RX1 15 "RopeSeals$House" "claims" "[I", .methodLink RX1 52 yX1_knows, .instanceMethod yX1_knows, .selects RX1 yX1_knows yX1_knows, .initialized RX1, .code yX1_knows cX1_knows 2 (some .boolean), .fieldLink RX1 30 "RopeSeals$House" "count" "I", .methodLink RX1 56 yX1_isSacks, .static yX1_isSacks, .code yX1_isSacks cX1_isSacks 1 (some .boolean), .methodLink RX1 63 yX1_isIn, .static yX1_isIn, .code yX1_isIn cX1_isIn 2 (some .boolean), .methodLink RX1 70 yX1_bit, .static yX1_bit, .code yX1_bit cX1_bit 1 (some .int)] ++ wsX10)
def wsX1_isWhole : List Cond := .code yX1_isWhole cX1_isWhole 2 (some .boolean) :: ([.fieldLink RX1 24 "RopeSeals$House" "seals" "[I", .fieldLink RX1 15 "RopeSeals$House" "claims" "[I", .methodLink RX1 143 yX1_sealFor, .instanceMethod yX1_sealFor, .selects RX1 yX1_sealFor yX1_sealFor, .initialized RX1, .code yX1_sealFor cX1_sealFor 6 (some .int), .fieldLink RX1 9 "RopeSeals$House" "settings" "[I", .fieldLink RX1 21 "RopeSeals$House" "vouched" "[I", .fieldLink RX1 30 "RopeSeals$House" "count" "I"] ++ wsX10)
def wsX1_mendSeal : List Cond := .code yX1_mendSeal cX1_mendSeal 3 (some .int) :: ([.fieldLink RX1 24 "RopeSeals$House" "seals" "[I", .methodLink RX1 52 yX1_knows, .instanceMethod yX1_knows, .selects RX1 yX1_knows yX1_knows, .initialized RX1, .code yX1_knows cX1_knows 2 (some .boolean), .fieldLink RX1 30 "RopeSeals$House" "count" "I", .methodLink RX1 67 yX1_isWhole, .instanceMethod yX1_isWhole, .selects RX1 yX1_isWhole yX1_isWhole, .code yX1_isWhole cX1_isWhole 2 (some .boolean), .fieldLink RX1 15 "RopeSeals$House" "claims" "[I", .methodLink RX1 143 yX1_sealFor, .instanceMethod yX1_sealFor, .selects RX1 yX1_sealFor yX1_sealFor, .code yX1_sealFor cX1_sealFor 6 (some .int), .fieldLink RX1 9 "RopeSeals$House" "settings" "[I", .fieldLink RX1 21 "RopeSeals$House" "vouched" "[I", .methodLink RX1 59 yX1_rightSeal, .instanceMethod yX1_rightSeal, .selects RX1 yX1_rightSeal yX1_rightSeal, .code yX1_rightSeal cX1_rightSeal 2 (some .int)] ++ wsX10)
def wsX1_isLie : List Cond := .code yX1_isLie cX1_isLie 3 (some .boolean) :: ([.fieldLink RX1 15 "RopeSeals$House" "claims" "[I"] ++ wsX10)
def wsX1_ownFine : List Cond := .code yX1_ownFine cX1_ownFine 4 (some .int) :: ([.fieldLink RX1 9 "RopeSeals$House" "settings" "[I", .fieldLink RX1 15 "RopeSeals$House" "claims" "[I", .methodLink RX1 146 Lib.Math.abs.name, .static Lib.Math.abs.name, .initialized "java/lang/Math", .code Lib.Math.abs.name Lib.Math.abs.code 1 (some .int), .methodLink RX1 67 yX1_isWhole, .instanceMethod yX1_isWhole, .selects RX1 yX1_isWhole yX1_isWhole, .initialized RX1, .code yX1_isWhole cX1_isWhole 2 (some .boolean), .fieldLink RX1 24 "RopeSeals$House" "seals" "[I", .methodLink RX1 143 yX1_sealFor, .instanceMethod yX1_sealFor, .selects RX1 yX1_sealFor yX1_sealFor, .code yX1_sealFor cX1_sealFor 6 (some .int), .fieldLink RX1 21 "RopeSeals$House" "vouched" "[I", .fieldLink RX1 30 "RopeSeals$House" "count" "I", .methodLink RX1 77 yX1_isLie, .instanceMethod yX1_isLie, .selects RX1 yX1_isLie yX1_isLie, .code yX1_isLie cX1_isLie 3 (some .boolean)] ++ wsX10)
def wsX1_wholeVouchers : List Cond := .code yX1_wholeVouchers cX1_wholeVouchers 4 (some .int) :: ([.fieldLink RX1 30 "RopeSeals$House" "count" "I", .fieldLink RX1 21 "RopeSeals$House" "vouched" "[I", .methodLink RX1 67 yX1_isWhole, .instanceMethod yX1_isWhole, .selects RX1 yX1_isWhole yX1_isWhole, .initialized RX1, .code yX1_isWhole cX1_isWhole 2 (some .boolean), .fieldLink RX1 24 "RopeSeals$House" "seals" "[I", .fieldLink RX1 15 "RopeSeals$House" "claims" "[I", .methodLink RX1 143 yX1_sealFor, .instanceMethod yX1_sealFor, .selects RX1 yX1_sealFor yX1_sealFor, .code yX1_sealFor cX1_sealFor 6 (some .int), .fieldLink RX1 9 "RopeSeals$House" "settings" "[I", .methodLink RX1 70 yX1_bit, .static yX1_bit, .code yX1_bit cX1_bit 1 (some .int)] ++ wsX10)
def wsX1_exposeLiar_r1 : List Cond := [Cond.fieldLink RX1 37 "RopeSeals$House" "lied" "I", Cond.fieldLink RX1 40 "RopeSeals$House" "cleared" "I", Cond.fieldLink RX1 30 "RopeSeals$House" "count" "I", Cond.fieldLink RX1 27 "RopeSeals$House" "fines" "[I", Cond.fieldLink RX1 9 "RopeSeals$House" "settings" "[I", Cond.methodLink RX1 70 yX1_bit, Cond.static yX1_bit, Cond.initialized RX1, Cond.code yX1_bit cX1_bit 1 (some .int), Cond.methodLink RX1 92 yX1_wholeVouchers, Cond.instanceMethod yX1_wholeVouchers, Cond.selects RX1 yX1_wholeVouchers yX1_wholeVouchers, Cond.code yX1_wholeVouchers cX1_wholeVouchers 4 (some .int), Cond.fieldLink RX1 21 "RopeSeals$House" "vouched" "[I", Cond.methodLink RX1 67 yX1_isWhole, Cond.instanceMethod yX1_isWhole, Cond.selects RX1 yX1_isWhole yX1_isWhole, Cond.code yX1_isWhole cX1_isWhole 2 (some .boolean), Cond.fieldLink RX1 24 "RopeSeals$House" "seals" "[I", Cond.fieldLink RX1 15 "RopeSeals$House" "claims" "[I", Cond.methodLink RX1 143 yX1_sealFor, Cond.instanceMethod yX1_sealFor, Cond.selects RX1 yX1_sealFor yX1_sealFor, Cond.code yX1_sealFor cX1_sealFor 6 (some .int)]
def wsX1_exposeLiar_r2 : List Cond := [Cond.methodLink RX1 63 yX1_isIn, Cond.static yX1_isIn, Cond.code yX1_isIn cX1_isIn 2 (some .boolean)]
def wsX1_exposeLiar : List Cond := .code yX1_exposeLiar cX1_exposeLiar 4 none :: ((wsX1_exposeLiar_r1 ++ wsX1_exposeLiar_r2) ++ wsX10)
def wsX1_reachedFrom : List Cond := .code yX1_reachedFrom cX1_reachedFrom 5 (some .int) :: ([.fieldLink RX1 21 "RopeSeals$House" "vouched" "[I", .methodLink RX1 52 yX1_knows, .instanceMethod yX1_knows, .selects RX1 yX1_knows yX1_knows, .initialized RX1, .code yX1_knows cX1_knows 2 (some .boolean), .fieldLink RX1 30 "RopeSeals$House" "count" "I", .methodLink RX1 70 yX1_bit, .static yX1_bit, .code yX1_bit cX1_bit 1 (some .int), .methodLink RX1 67 yX1_isWhole, .instanceMethod yX1_isWhole, .selects RX1 yX1_isWhole yX1_isWhole, .code yX1_isWhole cX1_isWhole 2 (some .boolean), .fieldLink RX1 24 "RopeSeals$House" "seals" "[I", .fieldLink RX1 15 "RopeSeals$House" "claims" "[I", .methodLink RX1 143 yX1_sealFor, .instanceMethod yX1_sealFor, .selects RX1 yX1_sealFor yX1_sealFor, .code yX1_sealFor cX1_sealFor 6 (some .int), .fieldLink RX1 9 "RopeSeals$House" "settings" "[I"] ++ wsX10)
def wsX1_clearedIfHonest_r1 : List Cond := [Cond.fieldLink RX1 37 "RopeSeals$House" "lied" "I", Cond.fieldLink RX1 40 "RopeSeals$House" "cleared" "I", Cond.methodLink RX1 140 yX1_reachedFrom, Cond.instanceMethod yX1_reachedFrom, Cond.selects RX1 yX1_reachedFrom yX1_reachedFrom, Cond.initialized RX1, Cond.code yX1_reachedFrom cX1_reachedFrom 5 (some .int), Cond.fieldLink RX1 21 "RopeSeals$House" "vouched" "[I", Cond.methodLink RX1 52 yX1_knows, Cond.instanceMethod yX1_knows, Cond.selects RX1 yX1_knows yX1_knows, Cond.code yX1_knows cX1_knows 2 (some .boolean), Cond.fieldLink RX1 30 "RopeSeals$House" "count" "I", Cond.methodLink RX1 70 yX1_bit, Cond.static yX1_bit, Cond.code yX1_bit cX1_bit 1 (some .int), Cond.methodLink RX1 67 yX1_isWhole, Cond.instanceMethod yX1_isWhole, Cond.selects RX1 yX1_isWhole yX1_isWhole, Cond.code yX1_isWhole cX1_isWhole 2 (some .boolean), Cond.fieldLink RX1 24 "RopeSeals$House" "seals" "[I", Cond.fieldLink RX1 15 "RopeSeals$House" "claims" "[I", Cond.methodLink RX1 143 yX1_sealFor, Cond.instanceMethod yX1_sealFor]
def wsX1_clearedIfHonest_r2 : List Cond := [Cond.selects RX1 yX1_sealFor yX1_sealFor, Cond.code yX1_sealFor cX1_sealFor 6 (some .int), Cond.fieldLink RX1 9 "RopeSeals$House" "settings" "[I"]
def wsX1_clearedIfHonest : List Cond := .code yX1_clearedIfHonest cX1_clearedIfHonest 2 (some .int) :: ((wsX1_clearedIfHonest_r1 ++ wsX1_clearedIfHonest_r2) ++ wsX10)
def wsJ6_bitCount_0f7a4 : List Cond := .code yJ6_bitCount_0f7a4 cJ6_bitCount_0f7a4 1 (some .int) :: ([.constant RJ6 265 (1431655765), .constant RJ6 266 (858993459), .constant RJ6 267 (252645135)])
def wsX1_inspect_r1 : List Cond := [Cond.fieldLink RX1 34 "RopeSeals$House" "opened" "I", Cond.fieldLink RX1 27 "RopeSeals$House" "fines" "[I", Cond.fieldLink RX1 18 "RopeSeals$House" "loads" "[I", Cond.fieldLink RX1 40 "RopeSeals$House" "cleared" "I", Cond.methodLink RX1 52 yX1_knows, Cond.instanceMethod yX1_knows, Cond.selects RX1 yX1_knows yX1_knows, Cond.initialized RX1, Cond.code yX1_knows cX1_knows 2 (some .boolean), Cond.fieldLink RX1 30 "RopeSeals$House" "count" "I", Cond.methodLink RX1 63 yX1_isIn, Cond.static yX1_isIn, Cond.code yX1_isIn cX1_isIn 2 (some .boolean), Cond.methodLink RX1 70 yX1_bit, Cond.static yX1_bit, Cond.code yX1_bit cX1_bit 1 (some .int), Cond.methodLink RX1 73 yX1_ownFine, Cond.instanceMethod yX1_ownFine, Cond.selects RX1 yX1_ownFine yX1_ownFine, Cond.code yX1_ownFine cX1_ownFine 4 (some .int), Cond.fieldLink RX1 9 "RopeSeals$House" "settings" "[I", Cond.fieldLink RX1 15 "RopeSeals$House" "claims" "[I", Cond.methodLink RX1 146 Lib.Math.abs.name, Cond.static Lib.Math.abs.name]
def wsX1_inspect_r2 : List Cond := [Cond.initialized "java/lang/Math", Cond.code Lib.Math.abs.name Lib.Math.abs.code 1 (some .int), Cond.methodLink RX1 67 yX1_isWhole, Cond.instanceMethod yX1_isWhole, Cond.selects RX1 yX1_isWhole yX1_isWhole, Cond.code yX1_isWhole cX1_isWhole 2 (some .boolean), Cond.fieldLink RX1 24 "RopeSeals$House" "seals" "[I", Cond.methodLink RX1 143 yX1_sealFor, Cond.instanceMethod yX1_sealFor, Cond.selects RX1 yX1_sealFor yX1_sealFor, Cond.code yX1_sealFor cX1_sealFor 6 (some .int), Cond.fieldLink RX1 21 "RopeSeals$House" "vouched" "[I", Cond.methodLink RX1 77 yX1_isLie, Cond.instanceMethod yX1_isLie, Cond.selects RX1 yX1_isLie yX1_isLie, Cond.code yX1_isLie cX1_isLie 3 (some .boolean), Cond.methodLink RX1 80 yX1_exposeLiar, Cond.instanceMethod yX1_exposeLiar, Cond.selects RX1 yX1_exposeLiar yX1_exposeLiar, Cond.code yX1_exposeLiar cX1_exposeLiar 4 none, Cond.fieldLink RX1 37 "RopeSeals$House" "lied" "I", Cond.methodLink RX1 92 yX1_wholeVouchers, Cond.instanceMethod yX1_wholeVouchers, Cond.selects RX1 yX1_wholeVouchers yX1_wholeVouchers]
def wsX1_inspect_r3 : List Cond := [Cond.code yX1_wholeVouchers cX1_wholeVouchers 4 (some .int), Cond.methodLink RX1 84 yX1_clearedIfHonest, Cond.instanceMethod yX1_clearedIfHonest, Cond.selects RX1 yX1_clearedIfHonest yX1_clearedIfHonest, Cond.code yX1_clearedIfHonest cX1_clearedIfHonest 2 (some .int), Cond.methodLink RX1 140 yX1_reachedFrom, Cond.instanceMethod yX1_reachedFrom, Cond.selects RX1 yX1_reachedFrom yX1_reachedFrom, Cond.code yX1_reachedFrom cX1_reachedFrom 5 (some .int), Cond.methodLink RX1 87 yJ6_bitCount_0f7a4, Cond.static yJ6_bitCount_0f7a4, Cond.initialized RJ6, Cond.code yJ6_bitCount_0f7a4 cJ6_bitCount_0f7a4 1 (some .int), Cond.constant RJ6 265 (1431655765), Cond.constant RJ6 266 (858993459), Cond.constant RJ6 267 (252645135)]
def wsX1_inspect : List Cond := .code yX1_inspect cX1_inspect 3 (some .int) :: ((wsX1_inspect_r1 ++ (wsX1_inspect_r2 ++ wsX1_inspect_r3)) ++ wsX10)
def wsX1_all : List Cond := .code yX1_all cX1_all 1 (some .int) :: ([.fieldLink RX1 30 "RopeSeals$House" "count" "I", .methodLink RX1 70 yX1_bit, .static yX1_bit, .initialized RX1, .code yX1_bit cX1_bit 1 (some .int)] ++ wsX10)
def wsX1_waiting : List Cond := .code yX1_waiting cX1_waiting 1 (some .int) :: ([.fieldLink RX1 40 "RopeSeals$House" "cleared" "I", .fieldLink RX1 34 "RopeSeals$House" "opened" "I", .methodLink RX1 149 yX1_all, .instanceMethod yX1_all, .selects RX1 yX1_all yX1_all, .initialized RX1, .code yX1_all cX1_all 1 (some .int), .fieldLink RX1 30 "RopeSeals$House" "count" "I", .methodLink RX1 70 yX1_bit, .static yX1_bit, .code yX1_bit cX1_bit 1 (some .int)] ++ wsX10)
def wsX1_inspectAll_r1 : List Cond := [Cond.fieldLink RX1 30 "RopeSeals$House" "count" "I", Cond.methodLink RX1 95 yX1_waiting, Cond.instanceMethod yX1_waiting, Cond.selects RX1 yX1_waiting yX1_waiting, Cond.initialized RX1, Cond.code yX1_waiting cX1_waiting 1 (some .int), Cond.fieldLink RX1 40 "RopeSeals$House" "cleared" "I", Cond.fieldLink RX1 34 "RopeSeals$House" "opened" "I", Cond.methodLink RX1 149 yX1_all, Cond.instanceMethod yX1_all, Cond.selects RX1 yX1_all yX1_all, Cond.code yX1_all cX1_all 1 (some .int), Cond.methodLink RX1 70 yX1_bit, Cond.static yX1_bit, Cond.code yX1_bit cX1_bit 1 (some .int), Cond.methodLink RX1 63 yX1_isIn, Cond.static yX1_isIn, Cond.code yX1_isIn cX1_isIn 2 (some .boolean), Cond.methodLink RX1 99 yX1_inspect, Cond.instanceMethod yX1_inspect, Cond.selects RX1 yX1_inspect yX1_inspect, Cond.code yX1_inspect cX1_inspect 3 (some .int), Cond.fieldLink RX1 27 "RopeSeals$House" "fines" "[I", Cond.fieldLink RX1 18 "RopeSeals$House" "loads" "[I"]
def wsX1_inspectAll_r2 : List Cond := [Cond.methodLink RX1 52 yX1_knows, Cond.instanceMethod yX1_knows, Cond.selects RX1 yX1_knows yX1_knows, Cond.code yX1_knows cX1_knows 2 (some .boolean), Cond.methodLink RX1 73 yX1_ownFine, Cond.instanceMethod yX1_ownFine, Cond.selects RX1 yX1_ownFine yX1_ownFine, Cond.code yX1_ownFine cX1_ownFine 4 (some .int), Cond.fieldLink RX1 9 "RopeSeals$House" "settings" "[I", Cond.fieldLink RX1 15 "RopeSeals$House" "claims" "[I", Cond.methodLink RX1 146 Lib.Math.abs.name, Cond.static Lib.Math.abs.name, Cond.initialized "java/lang/Math", Cond.code Lib.Math.abs.name Lib.Math.abs.code 1 (some .int), Cond.methodLink RX1 67 yX1_isWhole, Cond.instanceMethod yX1_isWhole, Cond.selects RX1 yX1_isWhole yX1_isWhole, Cond.code yX1_isWhole cX1_isWhole 2 (some .boolean), Cond.fieldLink RX1 24 "RopeSeals$House" "seals" "[I", Cond.methodLink RX1 143 yX1_sealFor, Cond.instanceMethod yX1_sealFor, Cond.selects RX1 yX1_sealFor yX1_sealFor, Cond.code yX1_sealFor cX1_sealFor 6 (some .int), Cond.fieldLink RX1 21 "RopeSeals$House" "vouched" "[I"]
def wsX1_inspectAll_r3 : List Cond := [Cond.methodLink RX1 77 yX1_isLie, Cond.instanceMethod yX1_isLie, Cond.selects RX1 yX1_isLie yX1_isLie, Cond.code yX1_isLie cX1_isLie 3 (some .boolean), Cond.methodLink RX1 80 yX1_exposeLiar, Cond.instanceMethod yX1_exposeLiar, Cond.selects RX1 yX1_exposeLiar yX1_exposeLiar, Cond.code yX1_exposeLiar cX1_exposeLiar 4 none, Cond.fieldLink RX1 37 "RopeSeals$House" "lied" "I", Cond.methodLink RX1 92 yX1_wholeVouchers, Cond.instanceMethod yX1_wholeVouchers, Cond.selects RX1 yX1_wholeVouchers yX1_wholeVouchers, Cond.code yX1_wholeVouchers cX1_wholeVouchers 4 (some .int), Cond.methodLink RX1 84 yX1_clearedIfHonest, Cond.instanceMethod yX1_clearedIfHonest, Cond.selects RX1 yX1_clearedIfHonest yX1_clearedIfHonest, Cond.code yX1_clearedIfHonest cX1_clearedIfHonest 2 (some .int), Cond.methodLink RX1 140 yX1_reachedFrom, Cond.instanceMethod yX1_reachedFrom, Cond.selects RX1 yX1_reachedFrom yX1_reachedFrom, Cond.code yX1_reachedFrom cX1_reachedFrom 5 (some .int), Cond.methodLink RX1 87 yJ6_bitCount_0f7a4, Cond.static yJ6_bitCount_0f7a4, Cond.initialized RJ6]
def wsX1_inspectAll_r4 : List Cond := [Cond.code yJ6_bitCount_0f7a4 cJ6_bitCount_0f7a4 1 (some .int), Cond.constant RJ6 265 (1431655765), Cond.constant RJ6 266 (858993459), Cond.constant RJ6 267 (252645135)]
def wsX1_inspectAll : List Cond := .code yX1_inspectAll cX1_inspectAll 3 (some .int) :: ((wsX1_inspectAll_r1 ++ (wsX1_inspectAll_r2 ++ (wsX1_inspectAll_r3 ++ wsX1_inspectAll_r4))) ++ wsX10)
def wsX1_changeSetting : List Cond := .code yX1_changeSetting cX1_changeSetting 4 (some .int) :: ([.fieldLink RX1 102 "RopeSeals$House" "LEAST" "[I", .fieldLink RX1 105 "RopeSeals$House" "GREATEST" "[I", .fieldLink RX1 9 "RopeSeals$House" "settings" "[I"] ++ wsX10)
def wsX1_chainOf : List Cond := .code yX1_chainOf cX1_chainOf 5 (some .int) :: ([.fieldLink RX1 21 "RopeSeals$House" "vouched" "[I", .methodLink RX1 52 yX1_knows, .instanceMethod yX1_knows, .selects RX1 yX1_knows yX1_knows, .initialized RX1, .code yX1_knows cX1_knows 2 (some .boolean), .fieldLink RX1 30 "RopeSeals$House" "count" "I", .methodLink RX1 70 yX1_bit, .static yX1_bit, .code yX1_bit cX1_bit 1 (some .int)] ++ wsX10)
def wsX1_vouchers : List Cond := .code yX1_vouchers cX1_vouchers 4 (some .int) :: ([.fieldLink RX1 30 "RopeSeals$House" "count" "I", .fieldLink RX1 21 "RopeSeals$House" "vouched" "[I", .methodLink RX1 70 yX1_bit, .static yX1_bit, .initialized RX1, .code yX1_bit cX1_bit 1 (some .int)] ++ wsX10)
def wsX1_countChainsWith : List Cond := .code yX1_countChainsWith cX1_countChainsWith 4 (some .int) :: ([.fieldLink RX1 30 "RopeSeals$House" "count" "I", .methodLink RX1 108 yX1_chainOf, .instanceMethod yX1_chainOf, .selects RX1 yX1_chainOf yX1_chainOf, .initialized RX1, .code yX1_chainOf cX1_chainOf 5 (some .int), .fieldLink RX1 21 "RopeSeals$House" "vouched" "[I", .methodLink RX1 52 yX1_knows, .instanceMethod yX1_knows, .selects RX1 yX1_knows yX1_knows, .code yX1_knows cX1_knows 2 (some .boolean), .methodLink RX1 70 yX1_bit, .static yX1_bit, .code yX1_bit cX1_bit 1 (some .int), .methodLink RX1 63 yX1_isIn, .static yX1_isIn, .code yX1_isIn cX1_isIn 2 (some .boolean)] ++ wsX10)
def wsX1_whyNotCleared : List Cond := .code yX1_whyNotCleared cX1_whyNotCleared 3 (some .int) :: ([.fieldLink RX1 40 "RopeSeals$House" "cleared" "I", .fieldLink RX1 37 "RopeSeals$House" "lied" "I", .methodLink RX1 63 yX1_isIn, .static yX1_isIn, .initialized RX1, .code yX1_isIn cX1_isIn 2 (some .boolean), .methodLink RX1 70 yX1_bit, .static yX1_bit, .code yX1_bit cX1_bit 1 (some .int), .methodLink RX1 111 yX1_vouchers, .instanceMethod yX1_vouchers, .selects RX1 yX1_vouchers yX1_vouchers, .code yX1_vouchers cX1_vouchers 4 (some .int), .fieldLink RX1 30 "RopeSeals$House" "count" "I", .fieldLink RX1 21 "RopeSeals$House" "vouched" "[I"] ++ wsX10)
def wsX1_tellOfCart_r1 : List Cond := [Cond.fieldLink RX1 15 "RopeSeals$House" "claims" "[I", Cond.fieldLink RX1 34 "RopeSeals$House" "opened" "I", Cond.fieldLink RX1 18 "RopeSeals$House" "loads" "[I", Cond.fieldLink RX1 21 "RopeSeals$House" "vouched" "[I", Cond.fieldLink RX1 24 "RopeSeals$House" "seals" "[I", Cond.fieldLink RX1 40 "RopeSeals$House" "cleared" "I", Cond.fieldLink RX1 27 "RopeSeals$House" "fines" "[I", Cond.methodLink RX1 52 yX1_knows, Cond.instanceMethod yX1_knows, Cond.selects RX1 yX1_knows yX1_knows, Cond.initialized RX1, Cond.code yX1_knows cX1_knows 2 (some .boolean), Cond.fieldLink RX1 30 "RopeSeals$House" "count" "I", Cond.methodLink RX1 63 yX1_isIn, Cond.static yX1_isIn, Cond.code yX1_isIn cX1_isIn 2 (some .boolean), Cond.methodLink RX1 70 yX1_bit, Cond.static yX1_bit, Cond.code yX1_bit cX1_bit 1 (some .int), Cond.methodLink RX1 59 yX1_rightSeal, Cond.instanceMethod yX1_rightSeal, Cond.selects RX1 yX1_rightSeal yX1_rightSeal, Cond.code yX1_rightSeal cX1_rightSeal 2 (some .int), Cond.methodLink RX1 143 yX1_sealFor]
def wsX1_tellOfCart_r2 : List Cond := [Cond.instanceMethod yX1_sealFor, Cond.selects RX1 yX1_sealFor yX1_sealFor, Cond.code yX1_sealFor cX1_sealFor 6 (some .int), Cond.fieldLink RX1 9 "RopeSeals$House" "settings" "[I", Cond.methodLink RX1 67 yX1_isWhole, Cond.instanceMethod yX1_isWhole, Cond.selects RX1 yX1_isWhole yX1_isWhole, Cond.code yX1_isWhole cX1_isWhole 2 (some .boolean), Cond.methodLink RX1 108 yX1_chainOf, Cond.instanceMethod yX1_chainOf, Cond.selects RX1 yX1_chainOf yX1_chainOf, Cond.code yX1_chainOf cX1_chainOf 5 (some .int), Cond.methodLink RX1 87 yJ6_bitCount_0f7a4, Cond.static yJ6_bitCount_0f7a4, Cond.initialized RJ6, Cond.code yJ6_bitCount_0f7a4 cJ6_bitCount_0f7a4 1 (some .int), Cond.constant RJ6 265 (1431655765), Cond.constant RJ6 266 (858993459), Cond.constant RJ6 267 (252645135), Cond.methodLink RX1 111 yX1_vouchers, Cond.instanceMethod yX1_vouchers, Cond.selects RX1 yX1_vouchers yX1_vouchers, Cond.code yX1_vouchers cX1_vouchers 4 (some .int), Cond.methodLink RX1 114 yX1_countChainsWith]
def wsX1_tellOfCart_r3 : List Cond := [Cond.instanceMethod yX1_countChainsWith, Cond.selects RX1 yX1_countChainsWith yX1_countChainsWith, Cond.code yX1_countChainsWith cX1_countChainsWith 4 (some .int), Cond.methodLink RX1 117 yX1_whyNotCleared, Cond.instanceMethod yX1_whyNotCleared, Cond.selects RX1 yX1_whyNotCleared yX1_whyNotCleared, Cond.code yX1_whyNotCleared cX1_whyNotCleared 3 (some .int), Cond.fieldLink RX1 37 "RopeSeals$House" "lied" "I"]
def wsX1_tellOfCart : List Cond := .code yX1_tellOfCart cX1_tellOfCart 3 (some .int) :: ((wsX1_tellOfCart_r1 ++ (wsX1_tellOfCart_r2 ++ wsX1_tellOfCart_r3)) ++ wsX10)
def wsX1_cartOfChain : List Cond := .code yX1_cartOfChain cX1_cartOfChain 5 (some .int) :: ([.fieldLink RX1 21 "RopeSeals$House" "vouched" "[I", .methodLink RX1 52 yX1_knows, .instanceMethod yX1_knows, .selects RX1 yX1_knows yX1_knows, .initialized RX1, .code yX1_knows cX1_knows 2 (some .boolean), .fieldLink RX1 30 "RopeSeals$House" "count" "I"] ++ wsX10)
def wsX1_firstBroken : List Cond := .code yX1_firstBroken cX1_firstBroken 4 (some .int) :: ([.fieldLink RX1 21 "RopeSeals$House" "vouched" "[I", .methodLink RX1 52 yX1_knows, .instanceMethod yX1_knows, .selects RX1 yX1_knows yX1_knows, .initialized RX1, .code yX1_knows cX1_knows 2 (some .boolean), .fieldLink RX1 30 "RopeSeals$House" "count" "I", .methodLink RX1 67 yX1_isWhole, .instanceMethod yX1_isWhole, .selects RX1 yX1_isWhole yX1_isWhole, .code yX1_isWhole cX1_isWhole 2 (some .boolean), .fieldLink RX1 24 "RopeSeals$House" "seals" "[I", .fieldLink RX1 15 "RopeSeals$House" "claims" "[I", .methodLink RX1 143 yX1_sealFor, .instanceMethod yX1_sealFor, .selects RX1 yX1_sealFor yX1_sealFor, .code yX1_sealFor cX1_sealFor 6 (some .int), .fieldLink RX1 9 "RopeSeals$House" "settings" "[I"] ++ wsX10)
def wsX1_countBroken : List Cond := .code yX1_countBroken cX1_countBroken 3 (some .int) :: ([.fieldLink RX1 30 "RopeSeals$House" "count" "I", .methodLink RX1 67 yX1_isWhole, .instanceMethod yX1_isWhole, .selects RX1 yX1_isWhole yX1_isWhole, .initialized RX1, .code yX1_isWhole cX1_isWhole 2 (some .boolean), .fieldLink RX1 24 "RopeSeals$House" "seals" "[I", .fieldLink RX1 15 "RopeSeals$House" "claims" "[I", .methodLink RX1 143 yX1_sealFor, .instanceMethod yX1_sealFor, .selects RX1 yX1_sealFor yX1_sealFor, .code yX1_sealFor cX1_sealFor 6 (some .int), .fieldLink RX1 9 "RopeSeals$House" "settings" "[I", .fieldLink RX1 21 "RopeSeals$House" "vouched" "[I"] ++ wsX10)
def wsX1_finesOfAll : List Cond := .code yX1_finesOfAll cX1_finesOfAll 3 (some .int) :: ([.fieldLink RX1 30 "RopeSeals$House" "count" "I", .fieldLink RX1 27 "RopeSeals$House" "fines" "[I"] ++ wsX10)
def wsX1_greatestDepth_r1 : List Cond := [Cond.fieldLink RX1 30 "RopeSeals$House" "count" "I", Cond.methodLink RX1 135 Lib.Math.max.name, Cond.static Lib.Math.max.name, Cond.initialized "java/lang/Math", Cond.code Lib.Math.max.name Lib.Math.max.code 2 (some .int), Cond.methodLink RX1 108 yX1_chainOf, Cond.instanceMethod yX1_chainOf, Cond.selects RX1 yX1_chainOf yX1_chainOf, Cond.initialized RX1, Cond.code yX1_chainOf cX1_chainOf 5 (some .int), Cond.fieldLink RX1 21 "RopeSeals$House" "vouched" "[I", Cond.methodLink RX1 52 yX1_knows, Cond.instanceMethod yX1_knows, Cond.selects RX1 yX1_knows yX1_knows, Cond.code yX1_knows cX1_knows 2 (some .boolean), Cond.methodLink RX1 70 yX1_bit, Cond.static yX1_bit, Cond.code yX1_bit cX1_bit 1 (some .int), Cond.methodLink RX1 87 yJ6_bitCount_0f7a4, Cond.static yJ6_bitCount_0f7a4, Cond.initialized RJ6, Cond.code yJ6_bitCount_0f7a4 cJ6_bitCount_0f7a4 1 (some .int), Cond.constant RJ6 265 (1431655765), Cond.constant RJ6 266 (858993459)]
def wsX1_greatestDepth_r2 : List Cond := [Cond.constant RJ6 267 (252645135)]
def wsX1_greatestDepth : List Cond := .code yX1_greatestDepth cX1_greatestDepth 3 (some .int) :: ((wsX1_greatestDepth_r1 ++ wsX1_greatestDepth_r2) ++ wsX10)
def wsX1_countUnvouched : List Cond := .code yX1_countUnvouched cX1_countUnvouched 3 (some .int) :: ([.fieldLink RX1 30 "RopeSeals$House" "count" "I", .methodLink RX1 111 yX1_vouchers, .instanceMethod yX1_vouchers, .selects RX1 yX1_vouchers yX1_vouchers, .initialized RX1, .code yX1_vouchers cX1_vouchers 4 (some .int), .fieldLink RX1 21 "RopeSeals$House" "vouched" "[I", .methodLink RX1 70 yX1_bit, .static yX1_bit, .code yX1_bit cX1_bit 1 (some .int)] ++ wsX10)
def wsX1_sacksFound : List Cond := .code yX1_sacksFound cX1_sacksFound 3 (some .int) :: ([.fieldLink RX1 30 "RopeSeals$House" "count" "I", .fieldLink RX1 34 "RopeSeals$House" "opened" "I", .fieldLink RX1 18 "RopeSeals$House" "loads" "[I", .methodLink RX1 63 yX1_isIn, .static yX1_isIn, .initialized RX1, .code yX1_isIn cX1_isIn 2 (some .boolean), .methodLink RX1 70 yX1_bit, .static yX1_bit, .code yX1_bit cX1_bit 1 (some .int)] ++ wsX10)
def wsX1_tellOfAll_r1 : List Cond := [Cond.fieldLink RX1 9 "RopeSeals$House" "settings" "[I", Cond.fieldLink RX1 30 "RopeSeals$House" "count" "I", Cond.fieldLink RX1 34 "RopeSeals$House" "opened" "I", Cond.fieldLink RX1 40 "RopeSeals$House" "cleared" "I", Cond.fieldLink RX1 37 "RopeSeals$House" "lied" "I", Cond.fieldLink RX1 43 "RopeSeals$House" "tolls" "I", Cond.methodLink RX1 87 yJ6_bitCount_0f7a4, Cond.static yJ6_bitCount_0f7a4, Cond.initialized RJ6, Cond.code yJ6_bitCount_0f7a4 cJ6_bitCount_0f7a4 1 (some .int), Cond.constant RJ6 265 (1431655765), Cond.constant RJ6 266 (858993459), Cond.constant RJ6 267 (252645135), Cond.methodLink RX1 120 yX1_countBroken, Cond.instanceMethod yX1_countBroken, Cond.selects RX1 yX1_countBroken yX1_countBroken, Cond.initialized RX1, Cond.code yX1_countBroken cX1_countBroken 3 (some .int), Cond.methodLink RX1 67 yX1_isWhole, Cond.instanceMethod yX1_isWhole, Cond.selects RX1 yX1_isWhole yX1_isWhole, Cond.code yX1_isWhole cX1_isWhole 2 (some .boolean), Cond.fieldLink RX1 24 "RopeSeals$House" "seals" "[I", Cond.fieldLink RX1 15 "RopeSeals$House" "claims" "[I"]
def wsX1_tellOfAll_r2 : List Cond := [Cond.methodLink RX1 143 yX1_sealFor, Cond.instanceMethod yX1_sealFor, Cond.selects RX1 yX1_sealFor yX1_sealFor, Cond.code yX1_sealFor cX1_sealFor 6 (some .int), Cond.fieldLink RX1 21 "RopeSeals$House" "vouched" "[I", Cond.methodLink RX1 123 yX1_finesOfAll, Cond.instanceMethod yX1_finesOfAll, Cond.selects RX1 yX1_finesOfAll yX1_finesOfAll, Cond.code yX1_finesOfAll cX1_finesOfAll 3 (some .int), Cond.fieldLink RX1 27 "RopeSeals$House" "fines" "[I", Cond.methodLink RX1 126 yX1_greatestDepth, Cond.instanceMethod yX1_greatestDepth, Cond.selects RX1 yX1_greatestDepth yX1_greatestDepth, Cond.code yX1_greatestDepth cX1_greatestDepth 3 (some .int), Cond.methodLink RX1 135 Lib.Math.max.name, Cond.static Lib.Math.max.name, Cond.initialized "java/lang/Math", Cond.code Lib.Math.max.name Lib.Math.max.code 2 (some .int), Cond.methodLink RX1 108 yX1_chainOf, Cond.instanceMethod yX1_chainOf, Cond.selects RX1 yX1_chainOf yX1_chainOf, Cond.code yX1_chainOf cX1_chainOf 5 (some .int), Cond.methodLink RX1 52 yX1_knows, Cond.instanceMethod yX1_knows]
def wsX1_tellOfAll_r3 : List Cond := [Cond.selects RX1 yX1_knows yX1_knows, Cond.code yX1_knows cX1_knows 2 (some .boolean), Cond.methodLink RX1 70 yX1_bit, Cond.static yX1_bit, Cond.code yX1_bit cX1_bit 1 (some .int), Cond.methodLink RX1 129 yX1_countUnvouched, Cond.instanceMethod yX1_countUnvouched, Cond.selects RX1 yX1_countUnvouched yX1_countUnvouched, Cond.code yX1_countUnvouched cX1_countUnvouched 3 (some .int), Cond.methodLink RX1 111 yX1_vouchers, Cond.instanceMethod yX1_vouchers, Cond.selects RX1 yX1_vouchers yX1_vouchers, Cond.code yX1_vouchers cX1_vouchers 4 (some .int), Cond.methodLink RX1 132 yX1_sacksFound, Cond.instanceMethod yX1_sacksFound, Cond.selects RX1 yX1_sacksFound yX1_sacksFound, Cond.code yX1_sacksFound cX1_sacksFound 3 (some .int), Cond.fieldLink RX1 18 "RopeSeals$House" "loads" "[I", Cond.methodLink RX1 63 yX1_isIn, Cond.static yX1_isIn, Cond.code yX1_isIn cX1_isIn 2 (some .boolean)]
def wsX1_tellOfAll : List Cond := .code yX1_tellOfAll cX1_tellOfAll 2 (some .int) :: ((wsX1_tellOfAll_r1 ++ (wsX1_tellOfAll_r2 ++ wsX1_tellOfAll_r3)) ++ wsX10)
def wsX1_foretell_r1 : List Cond := [Cond.fieldLink RX1 34 "RopeSeals$House" "opened" "I", Cond.fieldLink RX1 9 "RopeSeals$House" "settings" "[I", Cond.methodLink RX1 52 yX1_knows, Cond.instanceMethod yX1_knows, Cond.selects RX1 yX1_knows yX1_knows, Cond.initialized RX1, Cond.code yX1_knows cX1_knows 2 (some .boolean), Cond.fieldLink RX1 30 "RopeSeals$House" "count" "I", Cond.methodLink RX1 63 yX1_isIn, Cond.static yX1_isIn, Cond.code yX1_isIn cX1_isIn 2 (some .boolean), Cond.methodLink RX1 70 yX1_bit, Cond.static yX1_bit, Cond.code yX1_bit cX1_bit 1 (some .int), Cond.methodLink RX1 84 yX1_clearedIfHonest, Cond.instanceMethod yX1_clearedIfHonest, Cond.selects RX1 yX1_clearedIfHonest yX1_clearedIfHonest, Cond.code yX1_clearedIfHonest cX1_clearedIfHonest 2 (some .int), Cond.fieldLink RX1 37 "RopeSeals$House" "lied" "I", Cond.fieldLink RX1 40 "RopeSeals$House" "cleared" "I", Cond.methodLink RX1 140 yX1_reachedFrom, Cond.instanceMethod yX1_reachedFrom, Cond.selects RX1 yX1_reachedFrom yX1_reachedFrom, Cond.code yX1_reachedFrom cX1_reachedFrom 5 (some .int)]
def wsX1_foretell_r2 : List Cond := [Cond.fieldLink RX1 21 "RopeSeals$House" "vouched" "[I", Cond.methodLink RX1 67 yX1_isWhole, Cond.instanceMethod yX1_isWhole, Cond.selects RX1 yX1_isWhole yX1_isWhole, Cond.code yX1_isWhole cX1_isWhole 2 (some .boolean), Cond.fieldLink RX1 24 "RopeSeals$House" "seals" "[I", Cond.fieldLink RX1 15 "RopeSeals$House" "claims" "[I", Cond.methodLink RX1 143 yX1_sealFor, Cond.instanceMethod yX1_sealFor, Cond.selects RX1 yX1_sealFor yX1_sealFor, Cond.code yX1_sealFor cX1_sealFor 6 (some .int), Cond.methodLink RX1 87 yJ6_bitCount_0f7a4, Cond.static yJ6_bitCount_0f7a4, Cond.initialized RJ6, Cond.code yJ6_bitCount_0f7a4 cJ6_bitCount_0f7a4 1 (some .int), Cond.constant RJ6 265 (1431655765), Cond.constant RJ6 266 (858993459), Cond.constant RJ6 267 (252645135), Cond.methodLink RX1 73 yX1_ownFine, Cond.instanceMethod yX1_ownFine, Cond.selects RX1 yX1_ownFine yX1_ownFine, Cond.code yX1_ownFine cX1_ownFine 4 (some .int), Cond.methodLink RX1 146 Lib.Math.abs.name, Cond.static Lib.Math.abs.name]
def wsX1_foretell_r3 : List Cond := [Cond.initialized "java/lang/Math", Cond.code Lib.Math.abs.name Lib.Math.abs.code 1 (some .int), Cond.methodLink RX1 77 yX1_isLie, Cond.instanceMethod yX1_isLie, Cond.selects RX1 yX1_isLie yX1_isLie, Cond.code yX1_isLie cX1_isLie 3 (some .boolean), Cond.methodLink RX1 92 yX1_wholeVouchers, Cond.instanceMethod yX1_wholeVouchers, Cond.selects RX1 yX1_wholeVouchers yX1_wholeVouchers, Cond.code yX1_wholeVouchers cX1_wholeVouchers 4 (some .int)]
def wsX1_foretell : List Cond := .code yX1_foretell cX1_foretell 3 (some .int) :: ((wsX1_foretell_r1 ++ (wsX1_foretell_r2 ++ wsX1_foretell_r3)) ++ wsX10)
def wsX1_countEnds_r1 : List Cond := [Cond.fieldLink RX1 30 "RopeSeals$House" "count" "I", Cond.methodLink RX1 95 yX1_waiting, Cond.instanceMethod yX1_waiting, Cond.selects RX1 yX1_waiting yX1_waiting, Cond.initialized RX1, Cond.code yX1_waiting cX1_waiting 1 (some .int), Cond.fieldLink RX1 40 "RopeSeals$House" "cleared" "I", Cond.fieldLink RX1 34 "RopeSeals$House" "opened" "I", Cond.methodLink RX1 149 yX1_all, Cond.instanceMethod yX1_all, Cond.selects RX1 yX1_all yX1_all, Cond.code yX1_all cX1_all 1 (some .int), Cond.methodLink RX1 70 yX1_bit, Cond.static yX1_bit, Cond.code yX1_bit cX1_bit 1 (some .int), Cond.methodLink RX1 63 yX1_isIn, Cond.static yX1_isIn, Cond.code yX1_isIn cX1_isIn 2 (some .boolean), Cond.methodLink RX1 140 yX1_reachedFrom, Cond.instanceMethod yX1_reachedFrom, Cond.selects RX1 yX1_reachedFrom yX1_reachedFrom, Cond.code yX1_reachedFrom cX1_reachedFrom 5 (some .int), Cond.fieldLink RX1 21 "RopeSeals$House" "vouched" "[I", Cond.methodLink RX1 52 yX1_knows]
def wsX1_countEnds_r2 : List Cond := [Cond.instanceMethod yX1_knows, Cond.selects RX1 yX1_knows yX1_knows, Cond.code yX1_knows cX1_knows 2 (some .boolean), Cond.methodLink RX1 67 yX1_isWhole, Cond.instanceMethod yX1_isWhole, Cond.selects RX1 yX1_isWhole yX1_isWhole, Cond.code yX1_isWhole cX1_isWhole 2 (some .boolean), Cond.fieldLink RX1 24 "RopeSeals$House" "seals" "[I", Cond.fieldLink RX1 15 "RopeSeals$House" "claims" "[I", Cond.methodLink RX1 143 yX1_sealFor, Cond.instanceMethod yX1_sealFor, Cond.selects RX1 yX1_sealFor yX1_sealFor, Cond.code yX1_sealFor cX1_sealFor 6 (some .int), Cond.fieldLink RX1 9 "RopeSeals$House" "settings" "[I", Cond.methodLink RX1 87 yJ6_bitCount_0f7a4, Cond.static yJ6_bitCount_0f7a4, Cond.initialized RJ6, Cond.code yJ6_bitCount_0f7a4 cJ6_bitCount_0f7a4 1 (some .int), Cond.constant RJ6 265 (1431655765), Cond.constant RJ6 266 (858993459), Cond.constant RJ6 267 (252645135)]
def wsX1_countEnds : List Cond := .code yX1_countEnds cX1_countEnds 4 (some .int) :: ((wsX1_countEnds_r1 ++ wsX1_countEnds_r2) ++ wsX10)
def wsX1_countHonestOpenings_r1 : List Cond := [Cond.fieldLink RX1 30 "RopeSeals$House" "count" "I", Cond.methodLink RX1 95 yX1_waiting, Cond.instanceMethod yX1_waiting, Cond.selects RX1 yX1_waiting yX1_waiting, Cond.initialized RX1, Cond.code yX1_waiting cX1_waiting 1 (some .int), Cond.fieldLink RX1 40 "RopeSeals$House" "cleared" "I", Cond.fieldLink RX1 34 "RopeSeals$House" "opened" "I", Cond.methodLink RX1 149 yX1_all, Cond.instanceMethod yX1_all, Cond.selects RX1 yX1_all yX1_all, Cond.code yX1_all cX1_all 1 (some .int), Cond.methodLink RX1 70 yX1_bit, Cond.static yX1_bit, Cond.code yX1_bit cX1_bit 1 (some .int), Cond.methodLink RX1 63 yX1_isIn, Cond.static yX1_isIn, Cond.code yX1_isIn cX1_isIn 2 (some .boolean), Cond.methodLink RX1 140 yX1_reachedFrom, Cond.instanceMethod yX1_reachedFrom, Cond.selects RX1 yX1_reachedFrom yX1_reachedFrom, Cond.code yX1_reachedFrom cX1_reachedFrom 5 (some .int), Cond.fieldLink RX1 21 "RopeSeals$House" "vouched" "[I", Cond.methodLink RX1 52 yX1_knows]
def wsX1_countHonestOpenings_r2 : List Cond := [Cond.instanceMethod yX1_knows, Cond.selects RX1 yX1_knows yX1_knows, Cond.code yX1_knows cX1_knows 2 (some .boolean), Cond.methodLink RX1 67 yX1_isWhole, Cond.instanceMethod yX1_isWhole, Cond.selects RX1 yX1_isWhole yX1_isWhole, Cond.code yX1_isWhole cX1_isWhole 2 (some .boolean), Cond.fieldLink RX1 24 "RopeSeals$House" "seals" "[I", Cond.fieldLink RX1 15 "RopeSeals$House" "claims" "[I", Cond.methodLink RX1 143 yX1_sealFor, Cond.instanceMethod yX1_sealFor, Cond.selects RX1 yX1_sealFor yX1_sealFor, Cond.code yX1_sealFor cX1_sealFor 6 (some .int), Cond.fieldLink RX1 9 "RopeSeals$House" "settings" "[I"]
def wsX1_countHonestOpenings : List Cond := .code yX1_countHonestOpenings cX1_countHonestOpenings 4 (some .int) :: ((wsX1_countHonestOpenings_r1 ++ wsX1_countHonestOpenings_r2) ++ wsX10)
def wsX1_mostClearing_r1 : List Cond := [Cond.fieldLink RX1 30 "RopeSeals$House" "count" "I", Cond.fieldLink RX1 34 "RopeSeals$House" "opened" "I", Cond.methodLink RX1 84 yX1_clearedIfHonest, Cond.instanceMethod yX1_clearedIfHonest, Cond.selects RX1 yX1_clearedIfHonest yX1_clearedIfHonest, Cond.initialized RX1, Cond.code yX1_clearedIfHonest cX1_clearedIfHonest 2 (some .int), Cond.fieldLink RX1 37 "RopeSeals$House" "lied" "I", Cond.fieldLink RX1 40 "RopeSeals$House" "cleared" "I", Cond.methodLink RX1 140 yX1_reachedFrom, Cond.instanceMethod yX1_reachedFrom, Cond.selects RX1 yX1_reachedFrom yX1_reachedFrom, Cond.code yX1_reachedFrom cX1_reachedFrom 5 (some .int), Cond.fieldLink RX1 21 "RopeSeals$House" "vouched" "[I", Cond.methodLink RX1 52 yX1_knows, Cond.instanceMethod yX1_knows, Cond.selects RX1 yX1_knows yX1_knows, Cond.code yX1_knows cX1_knows 2 (some .boolean), Cond.methodLink RX1 70 yX1_bit, Cond.static yX1_bit, Cond.code yX1_bit cX1_bit 1 (some .int), Cond.methodLink RX1 67 yX1_isWhole, Cond.instanceMethod yX1_isWhole, Cond.selects RX1 yX1_isWhole yX1_isWhole]
def wsX1_mostClearing_r2 : List Cond := [Cond.code yX1_isWhole cX1_isWhole 2 (some .boolean), Cond.fieldLink RX1 24 "RopeSeals$House" "seals" "[I", Cond.fieldLink RX1 15 "RopeSeals$House" "claims" "[I", Cond.methodLink RX1 143 yX1_sealFor, Cond.instanceMethod yX1_sealFor, Cond.selects RX1 yX1_sealFor yX1_sealFor, Cond.code yX1_sealFor cX1_sealFor 6 (some .int), Cond.fieldLink RX1 9 "RopeSeals$House" "settings" "[I", Cond.methodLink RX1 87 yJ6_bitCount_0f7a4, Cond.static yJ6_bitCount_0f7a4, Cond.initialized RJ6, Cond.code yJ6_bitCount_0f7a4 cJ6_bitCount_0f7a4 1 (some .int), Cond.constant RJ6 265 (1431655765), Cond.constant RJ6 266 (858993459), Cond.constant RJ6 267 (252645135), Cond.methodLink RX1 63 yX1_isIn, Cond.static yX1_isIn, Cond.code yX1_isIn cX1_isIn 2 (some .boolean)]
def wsX1_mostClearing : List Cond := .code yX1_mostClearing cX1_mostClearing 5 (some .int) :: ((wsX1_mostClearing_r1 ++ wsX1_mostClearing_r2) ++ wsX10)
def wsX1_otherClaimForSeal : List Cond := .code yX1_otherClaimForSeal cX1_otherClaimForSeal 4 (some .int) :: ([.fieldLink RX1 15 "RopeSeals$House" "claims" "[I", .methodLink RX1 52 yX1_knows, .instanceMethod yX1_knows, .selects RX1 yX1_knows yX1_knows, .initialized RX1, .code yX1_knows cX1_knows 2 (some .boolean), .fieldLink RX1 30 "RopeSeals$House" "count" "I", .methodLink RX1 59 yX1_rightSeal, .instanceMethod yX1_rightSeal, .selects RX1 yX1_rightSeal yX1_rightSeal, .code yX1_rightSeal cX1_rightSeal 2 (some .int), .methodLink RX1 143 yX1_sealFor, .instanceMethod yX1_sealFor, .selects RX1 yX1_sealFor yX1_sealFor, .code yX1_sealFor cX1_sealFor 6 (some .int), .fieldLink RX1 9 "RopeSeals$House" "settings" "[I", .fieldLink RX1 21 "RopeSeals$House" "vouched" "[I", .fieldLink RX1 24 "RopeSeals$House" "seals" "[I"] ++ wsX10)
def wsX2_init : List Cond := .code yX2_init cX2_init 1 none :: ([.methodLink RX2 3 objectInit, .instanceMethod objectInit, .code objectInit ⟨#[0xb1]⟩ 1 none, .arrayClass .char, .fieldLink RX2 11 "RopeSeals$OrderText" "characters" "[C", .fieldLink RX2 15 "RopeSeals$OrderText" "size" "I", .fieldLink RX2 19 "RopeSeals$OrderText" "place" "I", .fieldLink RX2 22 "RopeSeals$OrderText" "kind" "C", .fieldLink RX2 26 "RopeSeals$OrderText" "cartNumber" "I", .fieldLink RX2 29 "RopeSeals$OrderText" "claim" "I", .fieldLink RX2 32 "RopeSeals$OrderText" "load" "I"] ++ wsX20)
def wsX2_append : List Cond := .code yX2_append cX2_append 2 (some .int) :: ([.fieldLink RX2 15 "RopeSeals$OrderText" "size" "I", .fieldLink RX2 11 "RopeSeals$OrderText" "characters" "[C"] ++ wsX20)
def wsX2_empty : List Cond := .code yX2_empty cX2_empty 2 (some .int) :: ([.fieldLink RX2 15 "RopeSeals$OrderText" "size" "I"] ++ wsX20)
def wsX2_length : List Cond := .code yX2_length cX2_length 1 (some .int) :: ([.fieldLink RX2 15 "RopeSeals$OrderText" "size" "I"] ++ wsX20)
def wsX2_reached : List Cond := .code yX2_reached cX2_reached 1 (some .int) :: ([.fieldLink RX2 19 "RopeSeals$OrderText" "place" "I"] ++ wsX20)
def wsX2_kind : List Cond := .code yX2_kind cX2_kind 1 (some .char) :: ([.fieldLink RX2 22 "RopeSeals$OrderText" "kind" "C"] ++ wsX20)
def wsX2_cartNumber : List Cond := .code yX2_cartNumber cX2_cartNumber 1 (some .int) :: ([.fieldLink RX2 26 "RopeSeals$OrderText" "cartNumber" "I"] ++ wsX20)
def wsX2_claim : List Cond := .code yX2_claim cX2_claim 1 (some .int) :: ([.fieldLink RX2 29 "RopeSeals$OrderText" "claim" "I"] ++ wsX20)
def wsX2_load : List Cond := .code yX2_load cX2_load 1 (some .int) :: ([.fieldLink RX2 32 "RopeSeals$OrderText" "load" "I"] ++ wsX20)
def wsX2_rewind : List Cond := .code yX2_rewind cX2_rewind 1 none :: ([.fieldLink RX2 19 "RopeSeals$OrderText" "place" "I"] ++ wsX20)
def wsX2_takes : List Cond := .code yX2_takes cX2_takes 2 (some .boolean) :: ([.fieldLink RX2 19 "RopeSeals$OrderText" "place" "I", .fieldLink RX2 15 "RopeSeals$OrderText" "size" "I", .fieldLink RX2 11 "RopeSeals$OrderText" "characters" "[C"] ++ wsX20)
def wsX2_takesKind : List Cond := .code yX2_takesKind cX2_takesKind 2 (some .boolean) :: ([.fieldLink RX2 22 "RopeSeals$OrderText" "kind" "C", .methodLink RX2 42 yX2_takes, .instanceMethod yX2_takes, .selects RX2 yX2_takes yX2_takes, .initialized RX2, .code yX2_takes cX2_takes 2 (some .boolean), .fieldLink RX2 19 "RopeSeals$OrderText" "place" "I", .fieldLink RX2 15 "RopeSeals$OrderText" "size" "I", .fieldLink RX2 11 "RopeSeals$OrderText" "characters" "[C"] ++ wsX20)
def wsX2_digitHere : List Cond := .code yX2_digitHere cX2_digitHere 2 (some .int) :: ([.fieldLink RX2 19 "RopeSeals$OrderText" "place" "I", .fieldLink RX2 15 "RopeSeals$OrderText" "size" "I", .fieldLink RX2 11 "RopeSeals$OrderText" "characters" "[C"] ++ wsX20)
def wsX2_takeNumber : List Cond := .code yX2_takeNumber cX2_takeNumber 4 (some .int) :: ([.fieldLink RX2 19 "RopeSeals$OrderText" "place" "I", .methodLink RX2 62 yX2_digitHere, .instanceMethod yX2_digitHere, .selects RX2 yX2_digitHere yX2_digitHere, .initialized RX2, .code yX2_digitHere cX2_digitHere 2 (some .int), .fieldLink RX2 15 "RopeSeals$OrderText" "size" "I", .fieldLink RX2 11 "RopeSeals$OrderText" "characters" "[C"] ++ wsX20)
def wsX2_readClaim : List Cond := .code yX2_readClaim cX2_readClaim 1 (some .boolean) :: ([.fieldLink RX2 29 "RopeSeals$OrderText" "claim" "I", .methodLink RX2 58 yX2_takeNumber, .instanceMethod yX2_takeNumber, .selects RX2 yX2_takeNumber yX2_takeNumber, .initialized RX2, .code yX2_takeNumber cX2_takeNumber 4 (some .int), .fieldLink RX2 19 "RopeSeals$OrderText" "place" "I", .methodLink RX2 62 yX2_digitHere, .instanceMethod yX2_digitHere, .selects RX2 yX2_digitHere yX2_digitHere, .code yX2_digitHere cX2_digitHere 2 (some .int), .fieldLink RX2 15 "RopeSeals$OrderText" "size" "I", .fieldLink RX2 11 "RopeSeals$OrderText" "characters" "[C"] ++ wsX20)
def wsX2_readLoad : List Cond := .code yX2_readLoad cX2_readLoad 1 (some .boolean) :: ([.fieldLink RX2 32 "RopeSeals$OrderText" "load" "I", .methodLink RX2 58 yX2_takeNumber, .instanceMethod yX2_takeNumber, .selects RX2 yX2_takeNumber yX2_takeNumber, .initialized RX2, .code yX2_takeNumber cX2_takeNumber 4 (some .int), .fieldLink RX2 19 "RopeSeals$OrderText" "place" "I", .methodLink RX2 62 yX2_digitHere, .instanceMethod yX2_digitHere, .selects RX2 yX2_digitHere yX2_digitHere, .code yX2_digitHere cX2_digitHere 2 (some .int), .fieldLink RX2 15 "RopeSeals$OrderText" "size" "I", .fieldLink RX2 11 "RopeSeals$OrderText" "characters" "[C"] ++ wsX20)
def wsX2_readCart : List Cond := .code yX2_readCart cX2_readCart 1 (some .boolean) :: ([.fieldLink RX2 26 "RopeSeals$OrderText" "cartNumber" "I", .methodLink RX2 58 yX2_takeNumber, .instanceMethod yX2_takeNumber, .selects RX2 yX2_takeNumber yX2_takeNumber, .initialized RX2, .code yX2_takeNumber cX2_takeNumber 4 (some .int), .fieldLink RX2 19 "RopeSeals$OrderText" "place" "I", .methodLink RX2 62 yX2_digitHere, .instanceMethod yX2_digitHere, .selects RX2 yX2_digitHere yX2_digitHere, .code yX2_digitHere cX2_digitHere 2 (some .int), .fieldLink RX2 15 "RopeSeals$OrderText" "size" "I", .fieldLink RX2 11 "RopeSeals$OrderText" "characters" "[C"] ++ wsX20)
def wsX2_readOrder_r1 : List Cond := [Cond.fieldLink RX2 26 "RopeSeals$OrderText" "cartNumber" "I", Cond.methodLink RX2 46 yX2_takesKind, Cond.instanceMethod yX2_takesKind, Cond.selects RX2 yX2_takesKind yX2_takesKind, Cond.initialized RX2, Cond.code yX2_takesKind cX2_takesKind 2 (some .boolean), Cond.fieldLink RX2 22 "RopeSeals$OrderText" "kind" "C", Cond.methodLink RX2 42 yX2_takes, Cond.instanceMethod yX2_takes, Cond.selects RX2 yX2_takes yX2_takes, Cond.code yX2_takes cX2_takes 2 (some .boolean), Cond.fieldLink RX2 19 "RopeSeals$OrderText" "place" "I", Cond.fieldLink RX2 15 "RopeSeals$OrderText" "size" "I", Cond.fieldLink RX2 11 "RopeSeals$OrderText" "characters" "[C", Cond.methodLink RX2 49 yX2_readClaim, Cond.instanceMethod yX2_readClaim, Cond.selects RX2 yX2_readClaim yX2_readClaim, Cond.code yX2_readClaim cX2_readClaim 1 (some .boolean), Cond.fieldLink RX2 29 "RopeSeals$OrderText" "claim" "I", Cond.methodLink RX2 58 yX2_takeNumber, Cond.instanceMethod yX2_takeNumber, Cond.selects RX2 yX2_takeNumber yX2_takeNumber, Cond.code yX2_takeNumber cX2_takeNumber 4 (some .int), Cond.methodLink RX2 62 yX2_digitHere]
def wsX2_readOrder_r2 : List Cond := [Cond.instanceMethod yX2_digitHere, Cond.selects RX2 yX2_digitHere yX2_digitHere, Cond.code yX2_digitHere cX2_digitHere 2 (some .int), Cond.methodLink RX2 52 yX2_readLoad, Cond.instanceMethod yX2_readLoad, Cond.selects RX2 yX2_readLoad yX2_readLoad, Cond.code yX2_readLoad cX2_readLoad 1 (some .boolean), Cond.fieldLink RX2 32 "RopeSeals$OrderText" "load" "I", Cond.methodLink RX2 55 yX2_readCart, Cond.instanceMethod yX2_readCart, Cond.selects RX2 yX2_readCart yX2_readCart, Cond.code yX2_readCart cX2_readCart 1 (some .boolean)]
def wsX2_readOrder : List Cond := .code yX2_readOrder cX2_readOrder 1 (some .boolean) :: ((wsX2_readOrder_r1 ++ wsX2_readOrder_r2) ++ wsX20)
def wsX2_countOrders_r1 : List Cond := [Cond.fieldLink RX2 19 "RopeSeals$OrderText" "place" "I", Cond.fieldLink RX2 15 "RopeSeals$OrderText" "size" "I", Cond.methodLink RX2 35 yX2_rewind, Cond.instanceMethod yX2_rewind, Cond.selects RX2 yX2_rewind yX2_rewind, Cond.initialized RX2, Cond.code yX2_rewind cX2_rewind 1 none, Cond.methodLink RX2 38 yX2_readOrder, Cond.instanceMethod yX2_readOrder, Cond.selects RX2 yX2_readOrder yX2_readOrder, Cond.code yX2_readOrder cX2_readOrder 1 (some .boolean), Cond.fieldLink RX2 26 "RopeSeals$OrderText" "cartNumber" "I", Cond.methodLink RX2 46 yX2_takesKind, Cond.instanceMethod yX2_takesKind, Cond.selects RX2 yX2_takesKind yX2_takesKind, Cond.code yX2_takesKind cX2_takesKind 2 (some .boolean), Cond.fieldLink RX2 22 "RopeSeals$OrderText" "kind" "C", Cond.methodLink RX2 42 yX2_takes, Cond.instanceMethod yX2_takes, Cond.selects RX2 yX2_takes yX2_takes, Cond.code yX2_takes cX2_takes 2 (some .boolean), Cond.fieldLink RX2 11 "RopeSeals$OrderText" "characters" "[C", Cond.methodLink RX2 49 yX2_readClaim, Cond.instanceMethod yX2_readClaim]
def wsX2_countOrders_r2 : List Cond := [Cond.selects RX2 yX2_readClaim yX2_readClaim, Cond.code yX2_readClaim cX2_readClaim 1 (some .boolean), Cond.fieldLink RX2 29 "RopeSeals$OrderText" "claim" "I", Cond.methodLink RX2 58 yX2_takeNumber, Cond.instanceMethod yX2_takeNumber, Cond.selects RX2 yX2_takeNumber yX2_takeNumber, Cond.code yX2_takeNumber cX2_takeNumber 4 (some .int), Cond.methodLink RX2 62 yX2_digitHere, Cond.instanceMethod yX2_digitHere, Cond.selects RX2 yX2_digitHere yX2_digitHere, Cond.code yX2_digitHere cX2_digitHere 2 (some .int), Cond.methodLink RX2 52 yX2_readLoad, Cond.instanceMethod yX2_readLoad, Cond.selects RX2 yX2_readLoad yX2_readLoad, Cond.code yX2_readLoad cX2_readLoad 1 (some .boolean), Cond.fieldLink RX2 32 "RopeSeals$OrderText" "load" "I", Cond.methodLink RX2 55 yX2_readCart, Cond.instanceMethod yX2_readCart, Cond.selects RX2 yX2_readCart yX2_readCart, Cond.code yX2_readCart cX2_readCart 1 (some .boolean)]
def wsX2_countOrders : List Cond := .code yX2_countOrders cX2_countOrders 2 (some .int) :: ((wsX2_countOrders_r1 ++ wsX2_countOrders_r2) ++ wsX20)
def wsX2_nextOrder_r1 : List Cond := [Cond.methodLink RX2 42 yX2_takes, Cond.instanceMethod yX2_takes, Cond.selects RX2 yX2_takes yX2_takes, Cond.initialized RX2, Cond.code yX2_takes cX2_takes 2 (some .boolean), Cond.fieldLink RX2 19 "RopeSeals$OrderText" "place" "I", Cond.fieldLink RX2 15 "RopeSeals$OrderText" "size" "I", Cond.fieldLink RX2 11 "RopeSeals$OrderText" "characters" "[C", Cond.methodLink RX2 38 yX2_readOrder, Cond.instanceMethod yX2_readOrder, Cond.selects RX2 yX2_readOrder yX2_readOrder, Cond.code yX2_readOrder cX2_readOrder 1 (some .boolean), Cond.fieldLink RX2 26 "RopeSeals$OrderText" "cartNumber" "I", Cond.methodLink RX2 46 yX2_takesKind, Cond.instanceMethod yX2_takesKind, Cond.selects RX2 yX2_takesKind yX2_takesKind, Cond.code yX2_takesKind cX2_takesKind 2 (some .boolean), Cond.fieldLink RX2 22 "RopeSeals$OrderText" "kind" "C", Cond.methodLink RX2 49 yX2_readClaim, Cond.instanceMethod yX2_readClaim, Cond.selects RX2 yX2_readClaim yX2_readClaim, Cond.code yX2_readClaim cX2_readClaim 1 (some .boolean), Cond.fieldLink RX2 29 "RopeSeals$OrderText" "claim" "I", Cond.methodLink RX2 58 yX2_takeNumber]
def wsX2_nextOrder_r2 : List Cond := [Cond.instanceMethod yX2_takeNumber, Cond.selects RX2 yX2_takeNumber yX2_takeNumber, Cond.code yX2_takeNumber cX2_takeNumber 4 (some .int), Cond.methodLink RX2 62 yX2_digitHere, Cond.instanceMethod yX2_digitHere, Cond.selects RX2 yX2_digitHere yX2_digitHere, Cond.code yX2_digitHere cX2_digitHere 2 (some .int), Cond.methodLink RX2 52 yX2_readLoad, Cond.instanceMethod yX2_readLoad, Cond.selects RX2 yX2_readLoad yX2_readLoad, Cond.code yX2_readLoad cX2_readLoad 1 (some .boolean), Cond.fieldLink RX2 32 "RopeSeals$OrderText" "load" "I", Cond.methodLink RX2 55 yX2_readCart, Cond.instanceMethod yX2_readCart, Cond.selects RX2 yX2_readCart yX2_readCart, Cond.code yX2_readCart cX2_readCart 1 (some .boolean)]
def wsX2_nextOrder : List Cond := .code yX2_nextOrder cX2_nextOrder 1 none :: ((wsX2_nextOrder_r1 ++ wsX2_nextOrder_r2) ++ wsX20)
def wsX3_init_r1 : List Cond := [Cond.methodLink RX3 1 objectInit, Cond.instanceMethod objectInit, Cond.code objectInit ⟨#[0xb1]⟩ 1 none, Cond.classLink RX3 7 RX1, Cond.instantiable RX1 11, Cond.initialized RX1, Cond.fieldLink RX3 10 "RopeSeals" "house" "LRopeSeals$House;", Cond.fieldLink RX3 16 "RopeSeals" "before" "LRopeSeals$House;", Cond.fieldLink RX3 19 "RopeSeals" "snapshot" "LRopeSeals$House;", Cond.fieldLink RX3 22 "RopeSeals" "hasSnapshot" "Z", Cond.classLink RX3 26 RX0, Cond.instantiable RX0 2, Cond.initialized RX0, Cond.fieldLink RX3 29 "RopeSeals" "history" "LRopeSeals$History;", Cond.classLink RX3 33 RX2, Cond.instantiable RX2 7, Cond.initialized RX2, Cond.fieldLink RX3 36 "RopeSeals" "text" "LRopeSeals$OrderText;", Cond.instanceMethod yX1_init, Cond.code yX1_init cX1_init 1 none, Cond.methodLink RX1 3 objectInit, Cond.arrayClass .int, Cond.fieldLink RX1 9 "RopeSeals$House" "settings" "[I", Cond.fieldLink RX1 15 "RopeSeals$House" "claims" "[I"]
def wsX3_init_r2 : List Cond := [Cond.fieldLink RX1 18 "RopeSeals$House" "loads" "[I", Cond.fieldLink RX1 21 "RopeSeals$House" "vouched" "[I", Cond.fieldLink RX1 24 "RopeSeals$House" "seals" "[I", Cond.fieldLink RX1 27 "RopeSeals$House" "fines" "[I", Cond.fieldLink RX1 30 "RopeSeals$House" "count" "I", Cond.fieldLink RX1 34 "RopeSeals$House" "opened" "I", Cond.fieldLink RX1 37 "RopeSeals$House" "lied" "I", Cond.fieldLink RX1 40 "RopeSeals$House" "cleared" "I", Cond.fieldLink RX1 43 "RopeSeals$House" "tolls" "I", Cond.methodLink RX3 28 yX0_init, Cond.instanceMethod yX0_init, Cond.code yX0_init cX0_init 2 none, Cond.methodLink RX0 3 objectInit, Cond.classLink RX0 11 RX1, Cond.fieldLink RX0 13 "RopeSeals$History" "rows" "[LRopeSeals$House;", Cond.fieldLink RX0 17 "RopeSeals$History" "size" "I", Cond.instanceMethod yX2_init, Cond.code yX2_init cX2_init 1 none, Cond.methodLink RX2 3 objectInit, Cond.arrayClass .char, Cond.fieldLink RX2 11 "RopeSeals$OrderText" "characters" "[C", Cond.fieldLink RX2 15 "RopeSeals$OrderText" "size" "I", Cond.fieldLink RX2 19 "RopeSeals$OrderText" "place" "I", Cond.fieldLink RX2 22 "RopeSeals$OrderText" "kind" "C"]
def wsX3_init_r3 : List Cond := [Cond.fieldLink RX2 26 "RopeSeals$OrderText" "cartNumber" "I", Cond.fieldLink RX2 29 "RopeSeals$OrderText" "claim" "I", Cond.fieldLink RX2 32 "RopeSeals$OrderText" "load" "I"]
def wsX3_init : List Cond := .code yX3_init cX3_init 1 none :: ((wsX3_init_r1 ++ (wsX3_init_r2 ++ wsX3_init_r3)) ++ wsX10 ++ wsX30 ++ wsX00 ++ wsX20)
def wsX3_recorded_r1 : List Cond := [Cond.fieldLink RX3 29 "RopeSeals" "history" "LRopeSeals$History;", Cond.fieldLink RX3 16 "RopeSeals" "before" "LRopeSeals$House;", Cond.methodLink RX3 135 yX0_add, Cond.instanceMethod yX0_add, Cond.selects RX0 yX0_add yX0_add, Cond.initialized RX0, Cond.code yX0_add cX0_add 3 none, Cond.fieldLink RX0 17 "RopeSeals$History" "size" "I", Cond.fieldLink RX0 13 "RopeSeals$History" "rows" "[LRopeSeals$House;", Cond.methodLink RX0 22 yX0_dropOldest, Cond.instanceMethod yX0_dropOldest, Cond.selects RX0 yX0_dropOldest yX0_dropOldest, Cond.code yX0_dropOldest cX0_dropOldest 3 none, Cond.methodLink RX0 25 yX1_copyFrom, Cond.instanceMethod yX1_copyFrom, Cond.selects RX1 yX1_copyFrom yX1_copyFrom, Cond.initialized RX1, Cond.code yX1_copyFrom cX1_copyFrom 2 none, Cond.fieldLink RX1 9 "RopeSeals$House" "settings" "[I", Cond.methodLink RX1 46 arraycopyName, Cond.native arraycopyName, Cond.static arraycopyName, Cond.initialized "java/lang/System", Cond.fieldLink RX1 15 "RopeSeals$House" "claims" "[I"]
def wsX3_recorded_r2 : List Cond := [Cond.fieldLink RX1 18 "RopeSeals$House" "loads" "[I", Cond.fieldLink RX1 21 "RopeSeals$House" "vouched" "[I", Cond.fieldLink RX1 24 "RopeSeals$House" "seals" "[I", Cond.fieldLink RX1 27 "RopeSeals$House" "fines" "[I", Cond.fieldLink RX1 30 "RopeSeals$House" "count" "I", Cond.fieldLink RX1 34 "RopeSeals$House" "opened" "I", Cond.fieldLink RX1 37 "RopeSeals$House" "lied" "I", Cond.fieldLink RX1 40 "RopeSeals$House" "cleared" "I", Cond.fieldLink RX1 43 "RopeSeals$House" "tolls" "I"]
def wsX3_recorded : List Cond := .code yX3_recorded cX3_recorded 2 (some .int) :: ((wsX3_recorded_r1 ++ wsX3_recorded_r2) ++ wsX30 ++ wsX00 ++ wsX10)
def wsX3_come_r1 : List Cond := [Cond.fieldLink RX3 16 "RopeSeals" "before" "LRopeSeals$House;", Cond.fieldLink RX3 10 "RopeSeals" "house" "LRopeSeals$House;", Cond.methodLink RX3 40 yX1_copyFrom, Cond.instanceMethod yX1_copyFrom, Cond.selects RX1 yX1_copyFrom yX1_copyFrom, Cond.initialized RX1, Cond.code yX1_copyFrom cX1_copyFrom 2 none, Cond.fieldLink RX1 9 "RopeSeals$House" "settings" "[I", Cond.methodLink RX1 46 arraycopyName, Cond.native arraycopyName, Cond.static arraycopyName, Cond.initialized "java/lang/System", Cond.fieldLink RX1 15 "RopeSeals$House" "claims" "[I", Cond.fieldLink RX1 18 "RopeSeals$House" "loads" "[I", Cond.fieldLink RX1 21 "RopeSeals$House" "vouched" "[I", Cond.fieldLink RX1 24 "RopeSeals$House" "seals" "[I", Cond.fieldLink RX1 27 "RopeSeals$House" "fines" "[I", Cond.fieldLink RX1 30 "RopeSeals$House" "count" "I", Cond.fieldLink RX1 34 "RopeSeals$House" "opened" "I", Cond.fieldLink RX1 37 "RopeSeals$House" "lied" "I", Cond.fieldLink RX1 40 "RopeSeals$House" "cleared" "I", Cond.fieldLink RX1 43 "RopeSeals$House" "tolls" "I", Cond.methodLink RX3 44 yX1_admit, Cond.instanceMethod yX1_admit]
def wsX3_come_r2 : List Cond := [Cond.selects RX1 yX1_admit yX1_admit, Cond.code yX1_admit cX1_admit 5 (some .int), Cond.methodLink RX1 52 yX1_knows, Cond.instanceMethod yX1_knows, Cond.selects RX1 yX1_knows yX1_knows, Cond.code yX1_knows cX1_knows 2 (some .boolean), Cond.methodLink RX1 56 yX1_isSacks, Cond.static yX1_isSacks, Cond.code yX1_isSacks cX1_isSacks 1 (some .boolean), Cond.methodLink RX1 59 yX1_rightSeal, Cond.instanceMethod yX1_rightSeal, Cond.selects RX1 yX1_rightSeal yX1_rightSeal, Cond.code yX1_rightSeal cX1_rightSeal 2 (some .int), Cond.methodLink RX1 143 yX1_sealFor, Cond.instanceMethod yX1_sealFor, Cond.selects RX1 yX1_sealFor yX1_sealFor, Cond.code yX1_sealFor cX1_sealFor 6 (some .int), Cond.methodLink RX3 48 yX3_recorded, Cond.instanceMethod yX3_recorded, Cond.selects RX3 yX3_recorded yX3_recorded, Cond.initialized RX3, Cond.code yX3_recorded cX3_recorded 2 (some .int), Cond.fieldLink RX3 29 "RopeSeals" "history" "LRopeSeals$History;", Cond.methodLink RX3 135 yX0_add]
def wsX3_come_r3 : List Cond := [Cond.instanceMethod yX0_add, Cond.selects RX0 yX0_add yX0_add, Cond.initialized RX0, Cond.code yX0_add cX0_add 3 none, Cond.fieldLink RX0 17 "RopeSeals$History" "size" "I", Cond.fieldLink RX0 13 "RopeSeals$History" "rows" "[LRopeSeals$House;", Cond.methodLink RX0 22 yX0_dropOldest, Cond.instanceMethod yX0_dropOldest, Cond.selects RX0 yX0_dropOldest yX0_dropOldest, Cond.code yX0_dropOldest cX0_dropOldest 3 none, Cond.methodLink RX0 25 yX1_copyFrom]
def wsX3_come : List Cond := .code yX3_come cX3_come 4 (some .int) :: ((wsX3_come_r1 ++ (wsX3_come_r2 ++ wsX3_come_r3)) ++ wsX30 ++ wsX10 ++ wsX00)
def wsX3_alter_r1 : List Cond := [Cond.fieldLink RX3 16 "RopeSeals" "before" "LRopeSeals$House;", Cond.fieldLink RX3 10 "RopeSeals" "house" "LRopeSeals$House;", Cond.methodLink RX3 40 yX1_copyFrom, Cond.instanceMethod yX1_copyFrom, Cond.selects RX1 yX1_copyFrom yX1_copyFrom, Cond.initialized RX1, Cond.code yX1_copyFrom cX1_copyFrom 2 none, Cond.fieldLink RX1 9 "RopeSeals$House" "settings" "[I", Cond.methodLink RX1 46 arraycopyName, Cond.native arraycopyName, Cond.static arraycopyName, Cond.initialized "java/lang/System", Cond.fieldLink RX1 15 "RopeSeals$House" "claims" "[I", Cond.fieldLink RX1 18 "RopeSeals$House" "loads" "[I", Cond.fieldLink RX1 21 "RopeSeals$House" "vouched" "[I", Cond.fieldLink RX1 24 "RopeSeals$House" "seals" "[I", Cond.fieldLink RX1 27 "RopeSeals$House" "fines" "[I", Cond.fieldLink RX1 30 "RopeSeals$House" "count" "I", Cond.fieldLink RX1 34 "RopeSeals$House" "opened" "I", Cond.fieldLink RX1 37 "RopeSeals$House" "lied" "I", Cond.fieldLink RX1 40 "RopeSeals$House" "cleared" "I", Cond.fieldLink RX1 43 "RopeSeals$House" "tolls" "I", Cond.methodLink RX3 52 yX1_changeClaim, Cond.instanceMethod yX1_changeClaim]
def wsX3_alter_r2 : List Cond := [Cond.selects RX1 yX1_changeClaim yX1_changeClaim, Cond.code yX1_changeClaim cX1_changeClaim 4 (some .int), Cond.methodLink RX1 52 yX1_knows, Cond.instanceMethod yX1_knows, Cond.selects RX1 yX1_knows yX1_knows, Cond.code yX1_knows cX1_knows 2 (some .boolean), Cond.methodLink RX1 56 yX1_isSacks, Cond.static yX1_isSacks, Cond.code yX1_isSacks cX1_isSacks 1 (some .boolean), Cond.methodLink RX1 63 yX1_isIn, Cond.static yX1_isIn, Cond.code yX1_isIn cX1_isIn 2 (some .boolean), Cond.methodLink RX1 70 yX1_bit, Cond.static yX1_bit, Cond.code yX1_bit cX1_bit 1 (some .int), Cond.methodLink RX3 48 yX3_recorded, Cond.instanceMethod yX3_recorded, Cond.selects RX3 yX3_recorded yX3_recorded, Cond.initialized RX3, Cond.code yX3_recorded cX3_recorded 2 (some .int), Cond.fieldLink RX3 29 "RopeSeals" "history" "LRopeSeals$History;", Cond.methodLink RX3 135 yX0_add, Cond.instanceMethod yX0_add, Cond.selects RX0 yX0_add yX0_add]
def wsX3_alter_r3 : List Cond := [Cond.initialized RX0, Cond.code yX0_add cX0_add 3 none, Cond.fieldLink RX0 17 "RopeSeals$History" "size" "I", Cond.fieldLink RX0 13 "RopeSeals$History" "rows" "[LRopeSeals$House;", Cond.methodLink RX0 22 yX0_dropOldest, Cond.instanceMethod yX0_dropOldest, Cond.selects RX0 yX0_dropOldest yX0_dropOldest, Cond.code yX0_dropOldest cX0_dropOldest 3 none, Cond.methodLink RX0 25 yX1_copyFrom]
def wsX3_alter : List Cond := .code yX3_alter cX3_alter 3 (some .int) :: ((wsX3_alter_r1 ++ (wsX3_alter_r2 ++ wsX3_alter_r3)) ++ wsX30 ++ wsX10 ++ wsX00)
def wsX3_reseal_r1 : List Cond := [Cond.fieldLink RX3 16 "RopeSeals" "before" "LRopeSeals$House;", Cond.fieldLink RX3 10 "RopeSeals" "house" "LRopeSeals$House;", Cond.methodLink RX3 40 yX1_copyFrom, Cond.instanceMethod yX1_copyFrom, Cond.selects RX1 yX1_copyFrom yX1_copyFrom, Cond.initialized RX1, Cond.code yX1_copyFrom cX1_copyFrom 2 none, Cond.fieldLink RX1 9 "RopeSeals$House" "settings" "[I", Cond.methodLink RX1 46 arraycopyName, Cond.native arraycopyName, Cond.static arraycopyName, Cond.initialized "java/lang/System", Cond.fieldLink RX1 15 "RopeSeals$House" "claims" "[I", Cond.fieldLink RX1 18 "RopeSeals$House" "loads" "[I", Cond.fieldLink RX1 21 "RopeSeals$House" "vouched" "[I", Cond.fieldLink RX1 24 "RopeSeals$House" "seals" "[I", Cond.fieldLink RX1 27 "RopeSeals$House" "fines" "[I", Cond.fieldLink RX1 30 "RopeSeals$House" "count" "I", Cond.fieldLink RX1 34 "RopeSeals$House" "opened" "I", Cond.fieldLink RX1 37 "RopeSeals$House" "lied" "I", Cond.fieldLink RX1 40 "RopeSeals$House" "cleared" "I", Cond.fieldLink RX1 43 "RopeSeals$House" "tolls" "I", Cond.methodLink RX3 56 yX1_mendSeal, Cond.instanceMethod yX1_mendSeal]
def wsX3_reseal_r2 : List Cond := [Cond.selects RX1 yX1_mendSeal yX1_mendSeal, Cond.code yX1_mendSeal cX1_mendSeal 3 (some .int), Cond.methodLink RX1 52 yX1_knows, Cond.instanceMethod yX1_knows, Cond.selects RX1 yX1_knows yX1_knows, Cond.code yX1_knows cX1_knows 2 (some .boolean), Cond.methodLink RX1 67 yX1_isWhole, Cond.instanceMethod yX1_isWhole, Cond.selects RX1 yX1_isWhole yX1_isWhole, Cond.code yX1_isWhole cX1_isWhole 2 (some .boolean), Cond.methodLink RX1 143 yX1_sealFor, Cond.instanceMethod yX1_sealFor, Cond.selects RX1 yX1_sealFor yX1_sealFor, Cond.code yX1_sealFor cX1_sealFor 6 (some .int), Cond.methodLink RX1 59 yX1_rightSeal, Cond.instanceMethod yX1_rightSeal, Cond.selects RX1 yX1_rightSeal yX1_rightSeal, Cond.code yX1_rightSeal cX1_rightSeal 2 (some .int), Cond.methodLink RX3 48 yX3_recorded, Cond.instanceMethod yX3_recorded, Cond.selects RX3 yX3_recorded yX3_recorded, Cond.initialized RX3, Cond.code yX3_recorded cX3_recorded 2 (some .int), Cond.fieldLink RX3 29 "RopeSeals" "history" "LRopeSeals$History;"]
def wsX3_reseal_r3 : List Cond := [Cond.methodLink RX3 135 yX0_add, Cond.instanceMethod yX0_add, Cond.selects RX0 yX0_add yX0_add, Cond.initialized RX0, Cond.code yX0_add cX0_add 3 none, Cond.fieldLink RX0 17 "RopeSeals$History" "size" "I", Cond.fieldLink RX0 13 "RopeSeals$History" "rows" "[LRopeSeals$House;", Cond.methodLink RX0 22 yX0_dropOldest, Cond.instanceMethod yX0_dropOldest, Cond.selects RX0 yX0_dropOldest yX0_dropOldest, Cond.code yX0_dropOldest cX0_dropOldest 3 none, Cond.methodLink RX0 25 yX1_copyFrom]
def wsX3_reseal : List Cond := .code yX3_reseal cX3_reseal 2 (some .int) :: ((wsX3_reseal_r1 ++ (wsX3_reseal_r2 ++ wsX3_reseal_r3)) ++ wsX30 ++ wsX10 ++ wsX00)
def wsX3_open_r1 : List Cond := [Cond.fieldLink RX3 16 "RopeSeals" "before" "LRopeSeals$House;", Cond.fieldLink RX3 10 "RopeSeals" "house" "LRopeSeals$House;", Cond.methodLink RX3 40 yX1_copyFrom, Cond.instanceMethod yX1_copyFrom, Cond.selects RX1 yX1_copyFrom yX1_copyFrom, Cond.initialized RX1, Cond.code yX1_copyFrom cX1_copyFrom 2 none, Cond.fieldLink RX1 9 "RopeSeals$House" "settings" "[I", Cond.methodLink RX1 46 arraycopyName, Cond.native arraycopyName, Cond.static arraycopyName, Cond.initialized "java/lang/System", Cond.fieldLink RX1 15 "RopeSeals$House" "claims" "[I", Cond.fieldLink RX1 18 "RopeSeals$House" "loads" "[I", Cond.fieldLink RX1 21 "RopeSeals$House" "vouched" "[I", Cond.fieldLink RX1 24 "RopeSeals$House" "seals" "[I", Cond.fieldLink RX1 27 "RopeSeals$House" "fines" "[I", Cond.fieldLink RX1 30 "RopeSeals$House" "count" "I", Cond.fieldLink RX1 34 "RopeSeals$House" "opened" "I", Cond.fieldLink RX1 37 "RopeSeals$House" "lied" "I", Cond.fieldLink RX1 40 "RopeSeals$House" "cleared" "I", Cond.fieldLink RX1 43 "RopeSeals$House" "tolls" "I", Cond.methodLink RX3 59 yX1_inspect, Cond.instanceMethod yX1_inspect]
def wsX3_open_r2 : List Cond := [Cond.selects RX1 yX1_inspect yX1_inspect, Cond.code yX1_inspect cX1_inspect 3 (some .int), Cond.methodLink RX1 52 yX1_knows, Cond.instanceMethod yX1_knows, Cond.selects RX1 yX1_knows yX1_knows, Cond.code yX1_knows cX1_knows 2 (some .boolean), Cond.methodLink RX1 63 yX1_isIn, Cond.static yX1_isIn, Cond.code yX1_isIn cX1_isIn 2 (some .boolean), Cond.methodLink RX1 70 yX1_bit, Cond.static yX1_bit, Cond.code yX1_bit cX1_bit 1 (some .int), Cond.methodLink RX1 73 yX1_ownFine, Cond.instanceMethod yX1_ownFine, Cond.selects RX1 yX1_ownFine yX1_ownFine, Cond.code yX1_ownFine cX1_ownFine 4 (some .int), Cond.methodLink RX1 146 Lib.Math.abs.name, Cond.static Lib.Math.abs.name, Cond.initialized "java/lang/Math", Cond.code Lib.Math.abs.name Lib.Math.abs.code 1 (some .int), Cond.methodLink RX1 67 yX1_isWhole, Cond.instanceMethod yX1_isWhole, Cond.selects RX1 yX1_isWhole yX1_isWhole, Cond.code yX1_isWhole cX1_isWhole 2 (some .boolean)]
def wsX3_open_r3 : List Cond := [Cond.methodLink RX1 143 yX1_sealFor, Cond.instanceMethod yX1_sealFor, Cond.selects RX1 yX1_sealFor yX1_sealFor, Cond.code yX1_sealFor cX1_sealFor 6 (some .int), Cond.methodLink RX1 77 yX1_isLie, Cond.instanceMethod yX1_isLie, Cond.selects RX1 yX1_isLie yX1_isLie, Cond.code yX1_isLie cX1_isLie 3 (some .boolean), Cond.methodLink RX1 80 yX1_exposeLiar, Cond.instanceMethod yX1_exposeLiar, Cond.selects RX1 yX1_exposeLiar yX1_exposeLiar, Cond.code yX1_exposeLiar cX1_exposeLiar 4 none, Cond.methodLink RX1 92 yX1_wholeVouchers, Cond.instanceMethod yX1_wholeVouchers, Cond.selects RX1 yX1_wholeVouchers yX1_wholeVouchers, Cond.code yX1_wholeVouchers cX1_wholeVouchers 4 (some .int), Cond.methodLink RX1 84 yX1_clearedIfHonest, Cond.instanceMethod yX1_clearedIfHonest, Cond.selects RX1 yX1_clearedIfHonest yX1_clearedIfHonest, Cond.code yX1_clearedIfHonest cX1_clearedIfHonest 2 (some .int), Cond.methodLink RX1 140 yX1_reachedFrom, Cond.instanceMethod yX1_reachedFrom, Cond.selects RX1 yX1_reachedFrom yX1_reachedFrom, Cond.code yX1_reachedFrom cX1_reachedFrom 5 (some .int)]
def wsX3_open_r4 : List Cond := [Cond.methodLink RX1 87 yJ6_bitCount_0f7a4, Cond.static yJ6_bitCount_0f7a4, Cond.initialized RJ6, Cond.code yJ6_bitCount_0f7a4 cJ6_bitCount_0f7a4 1 (some .int), Cond.constant RJ6 265 (1431655765), Cond.constant RJ6 266 (858993459), Cond.constant RJ6 267 (252645135), Cond.methodLink RX3 48 yX3_recorded, Cond.instanceMethod yX3_recorded, Cond.selects RX3 yX3_recorded yX3_recorded, Cond.initialized RX3, Cond.code yX3_recorded cX3_recorded 2 (some .int), Cond.fieldLink RX3 29 "RopeSeals" "history" "LRopeSeals$History;", Cond.methodLink RX3 135 yX0_add, Cond.instanceMethod yX0_add, Cond.selects RX0 yX0_add yX0_add, Cond.initialized RX0, Cond.code yX0_add cX0_add 3 none, Cond.fieldLink RX0 17 "RopeSeals$History" "size" "I", Cond.fieldLink RX0 13 "RopeSeals$History" "rows" "[LRopeSeals$House;", Cond.methodLink RX0 22 yX0_dropOldest, Cond.instanceMethod yX0_dropOldest, Cond.selects RX0 yX0_dropOldest yX0_dropOldest, Cond.code yX0_dropOldest cX0_dropOldest 3 none]
def wsX3_open_r5 : List Cond := [Cond.methodLink RX0 25 yX1_copyFrom]
def wsX3_open : List Cond := .code yX3_open cX3_open 2 (some .int) :: ((wsX3_open_r1 ++ (wsX3_open_r2 ++ (wsX3_open_r3 ++ (wsX3_open_r4 ++ wsX3_open_r5)))) ++ wsX30 ++ wsX10 ++ wsX00)
def wsX3_openAll_r1 : List Cond := [Cond.fieldLink RX3 16 "RopeSeals" "before" "LRopeSeals$House;", Cond.fieldLink RX3 10 "RopeSeals" "house" "LRopeSeals$House;", Cond.methodLink RX3 40 yX1_copyFrom, Cond.instanceMethod yX1_copyFrom, Cond.selects RX1 yX1_copyFrom yX1_copyFrom, Cond.initialized RX1, Cond.code yX1_copyFrom cX1_copyFrom 2 none, Cond.fieldLink RX1 9 "RopeSeals$House" "settings" "[I", Cond.methodLink RX1 46 arraycopyName, Cond.native arraycopyName, Cond.static arraycopyName, Cond.initialized "java/lang/System", Cond.fieldLink RX1 15 "RopeSeals$House" "claims" "[I", Cond.fieldLink RX1 18 "RopeSeals$House" "loads" "[I", Cond.fieldLink RX1 21 "RopeSeals$House" "vouched" "[I", Cond.fieldLink RX1 24 "RopeSeals$House" "seals" "[I", Cond.fieldLink RX1 27 "RopeSeals$House" "fines" "[I", Cond.fieldLink RX1 30 "RopeSeals$House" "count" "I", Cond.fieldLink RX1 34 "RopeSeals$House" "opened" "I", Cond.fieldLink RX1 37 "RopeSeals$House" "lied" "I", Cond.fieldLink RX1 40 "RopeSeals$House" "cleared" "I", Cond.fieldLink RX1 43 "RopeSeals$House" "tolls" "I", Cond.methodLink RX3 62 yX1_inspectAll, Cond.instanceMethod yX1_inspectAll]
def wsX3_openAll_r2 : List Cond := [Cond.selects RX1 yX1_inspectAll yX1_inspectAll, Cond.code yX1_inspectAll cX1_inspectAll 3 (some .int), Cond.methodLink RX1 95 yX1_waiting, Cond.instanceMethod yX1_waiting, Cond.selects RX1 yX1_waiting yX1_waiting, Cond.code yX1_waiting cX1_waiting 1 (some .int), Cond.methodLink RX1 149 yX1_all, Cond.instanceMethod yX1_all, Cond.selects RX1 yX1_all yX1_all, Cond.code yX1_all cX1_all 1 (some .int), Cond.methodLink RX1 70 yX1_bit, Cond.static yX1_bit, Cond.code yX1_bit cX1_bit 1 (some .int), Cond.methodLink RX1 63 yX1_isIn, Cond.static yX1_isIn, Cond.code yX1_isIn cX1_isIn 2 (some .boolean), Cond.methodLink RX1 99 yX1_inspect, Cond.instanceMethod yX1_inspect, Cond.selects RX1 yX1_inspect yX1_inspect, Cond.code yX1_inspect cX1_inspect 3 (some .int), Cond.methodLink RX1 52 yX1_knows, Cond.instanceMethod yX1_knows, Cond.selects RX1 yX1_knows yX1_knows, Cond.code yX1_knows cX1_knows 2 (some .boolean)]
def wsX3_openAll_r3 : List Cond := [Cond.methodLink RX1 73 yX1_ownFine, Cond.instanceMethod yX1_ownFine, Cond.selects RX1 yX1_ownFine yX1_ownFine, Cond.code yX1_ownFine cX1_ownFine 4 (some .int), Cond.methodLink RX1 146 Lib.Math.abs.name, Cond.static Lib.Math.abs.name, Cond.initialized "java/lang/Math", Cond.code Lib.Math.abs.name Lib.Math.abs.code 1 (some .int), Cond.methodLink RX1 67 yX1_isWhole, Cond.instanceMethod yX1_isWhole, Cond.selects RX1 yX1_isWhole yX1_isWhole, Cond.code yX1_isWhole cX1_isWhole 2 (some .boolean), Cond.methodLink RX1 143 yX1_sealFor, Cond.instanceMethod yX1_sealFor, Cond.selects RX1 yX1_sealFor yX1_sealFor, Cond.code yX1_sealFor cX1_sealFor 6 (some .int), Cond.methodLink RX1 77 yX1_isLie, Cond.instanceMethod yX1_isLie, Cond.selects RX1 yX1_isLie yX1_isLie, Cond.code yX1_isLie cX1_isLie 3 (some .boolean), Cond.methodLink RX1 80 yX1_exposeLiar, Cond.instanceMethod yX1_exposeLiar, Cond.selects RX1 yX1_exposeLiar yX1_exposeLiar, Cond.code yX1_exposeLiar cX1_exposeLiar 4 none]
def wsX3_openAll_r4 : List Cond := [Cond.methodLink RX1 92 yX1_wholeVouchers, Cond.instanceMethod yX1_wholeVouchers, Cond.selects RX1 yX1_wholeVouchers yX1_wholeVouchers, Cond.code yX1_wholeVouchers cX1_wholeVouchers 4 (some .int), Cond.methodLink RX1 84 yX1_clearedIfHonest, Cond.instanceMethod yX1_clearedIfHonest, Cond.selects RX1 yX1_clearedIfHonest yX1_clearedIfHonest, Cond.code yX1_clearedIfHonest cX1_clearedIfHonest 2 (some .int), Cond.methodLink RX1 140 yX1_reachedFrom, Cond.instanceMethod yX1_reachedFrom, Cond.selects RX1 yX1_reachedFrom yX1_reachedFrom, Cond.code yX1_reachedFrom cX1_reachedFrom 5 (some .int), Cond.methodLink RX1 87 yJ6_bitCount_0f7a4, Cond.static yJ6_bitCount_0f7a4, Cond.initialized RJ6, Cond.code yJ6_bitCount_0f7a4 cJ6_bitCount_0f7a4 1 (some .int), Cond.constant RJ6 265 (1431655765), Cond.constant RJ6 266 (858993459), Cond.constant RJ6 267 (252645135), Cond.methodLink RX3 48 yX3_recorded, Cond.instanceMethod yX3_recorded, Cond.selects RX3 yX3_recorded yX3_recorded, Cond.initialized RX3, Cond.code yX3_recorded cX3_recorded 2 (some .int)]
def wsX3_openAll_r5 : List Cond := [Cond.fieldLink RX3 29 "RopeSeals" "history" "LRopeSeals$History;", Cond.methodLink RX3 135 yX0_add, Cond.instanceMethod yX0_add, Cond.selects RX0 yX0_add yX0_add, Cond.initialized RX0, Cond.code yX0_add cX0_add 3 none, Cond.fieldLink RX0 17 "RopeSeals$History" "size" "I", Cond.fieldLink RX0 13 "RopeSeals$History" "rows" "[LRopeSeals$House;", Cond.methodLink RX0 22 yX0_dropOldest, Cond.instanceMethod yX0_dropOldest, Cond.selects RX0 yX0_dropOldest yX0_dropOldest, Cond.code yX0_dropOldest cX0_dropOldest 3 none, Cond.methodLink RX0 25 yX1_copyFrom]
def wsX3_openAll : List Cond := .code yX3_openAll cX3_openAll 1 (some .int) :: ((wsX3_openAll_r1 ++ (wsX3_openAll_r2 ++ (wsX3_openAll_r3 ++ (wsX3_openAll_r4 ++ wsX3_openAll_r5)))) ++ wsX30 ++ wsX10 ++ wsX00)
def wsX3_set_r1 : List Cond := [Cond.fieldLink RX3 16 "RopeSeals" "before" "LRopeSeals$House;", Cond.fieldLink RX3 10 "RopeSeals" "house" "LRopeSeals$House;", Cond.methodLink RX3 40 yX1_copyFrom, Cond.instanceMethod yX1_copyFrom, Cond.selects RX1 yX1_copyFrom yX1_copyFrom, Cond.initialized RX1, Cond.code yX1_copyFrom cX1_copyFrom 2 none, Cond.fieldLink RX1 9 "RopeSeals$House" "settings" "[I", Cond.methodLink RX1 46 arraycopyName, Cond.native arraycopyName, Cond.static arraycopyName, Cond.initialized "java/lang/System", Cond.fieldLink RX1 15 "RopeSeals$House" "claims" "[I", Cond.fieldLink RX1 18 "RopeSeals$House" "loads" "[I", Cond.fieldLink RX1 21 "RopeSeals$House" "vouched" "[I", Cond.fieldLink RX1 24 "RopeSeals$House" "seals" "[I", Cond.fieldLink RX1 27 "RopeSeals$House" "fines" "[I", Cond.fieldLink RX1 30 "RopeSeals$House" "count" "I", Cond.fieldLink RX1 34 "RopeSeals$House" "opened" "I", Cond.fieldLink RX1 37 "RopeSeals$House" "lied" "I", Cond.fieldLink RX1 40 "RopeSeals$House" "cleared" "I", Cond.fieldLink RX1 43 "RopeSeals$House" "tolls" "I", Cond.methodLink RX3 66 yX1_changeSetting, Cond.instanceMethod yX1_changeSetting]
def wsX3_set_r2 : List Cond := [Cond.selects RX1 yX1_changeSetting yX1_changeSetting, Cond.code yX1_changeSetting cX1_changeSetting 4 (some .int), Cond.fieldLink RX1 102 "RopeSeals$House" "LEAST" "[I", Cond.fieldLink RX1 105 "RopeSeals$House" "GREATEST" "[I", Cond.methodLink RX3 48 yX3_recorded, Cond.instanceMethod yX3_recorded, Cond.selects RX3 yX3_recorded yX3_recorded, Cond.initialized RX3, Cond.code yX3_recorded cX3_recorded 2 (some .int), Cond.fieldLink RX3 29 "RopeSeals" "history" "LRopeSeals$History;", Cond.methodLink RX3 135 yX0_add, Cond.instanceMethod yX0_add, Cond.selects RX0 yX0_add yX0_add, Cond.initialized RX0, Cond.code yX0_add cX0_add 3 none, Cond.fieldLink RX0 17 "RopeSeals$History" "size" "I", Cond.fieldLink RX0 13 "RopeSeals$History" "rows" "[LRopeSeals$House;", Cond.methodLink RX0 22 yX0_dropOldest, Cond.instanceMethod yX0_dropOldest, Cond.selects RX0 yX0_dropOldest yX0_dropOldest, Cond.code yX0_dropOldest cX0_dropOldest 3 none, Cond.methodLink RX0 25 yX1_copyFrom]
def wsX3_set : List Cond := .code yX3_set cX3_set 3 (some .int) :: ((wsX3_set_r1 ++ wsX3_set_r2) ++ wsX30 ++ wsX10 ++ wsX00)
def wsX3_type : List Cond := .code yX3_type cX3_type 2 (some .int) :: ([.fieldLink RX3 36 "RopeSeals" "text" "LRopeSeals$OrderText;", .methodLink RX3 69 yX2_append, .instanceMethod yX2_append, .selects RX2 yX2_append yX2_append, .initialized RX2, .code yX2_append cX2_append 2 (some .int), .fieldLink RX2 15 "RopeSeals$OrderText" "size" "I", .fieldLink RX2 11 "RopeSeals$OrderText" "characters" "[C"] ++ wsX30 ++ wsX20)
def wsX3_clearText : List Cond := .code yX3_clearText cX3_clearText 1 (some .int) :: ([.fieldLink RX3 36 "RopeSeals" "text" "LRopeSeals$OrderText;", .methodLink RX3 73 yX2_empty, .instanceMethod yX2_empty, .selects RX2 yX2_empty yX2_empty, .initialized RX2, .code yX2_empty cX2_empty 2 (some .int), .fieldLink RX2 15 "RopeSeals$OrderText" "size" "I"] ++ wsX30 ++ wsX20)
def wsX3_carryOutOrder_r1 : List Cond := [Cond.fieldLink RX3 36 "RopeSeals" "text" "LRopeSeals$OrderText;", Cond.fieldLink RX3 10 "RopeSeals" "house" "LRopeSeals$House;", Cond.methodLink RX3 138 yX2_kind, Cond.instanceMethod yX2_kind, Cond.selects RX2 yX2_kind yX2_kind, Cond.initialized RX2, Cond.code yX2_kind cX2_kind 1 (some .char), Cond.fieldLink RX2 22 "RopeSeals$OrderText" "kind" "C", Cond.methodLink RX3 142 yX2_claim, Cond.instanceMethod yX2_claim, Cond.selects RX2 yX2_claim yX2_claim, Cond.code yX2_claim cX2_claim 1 (some .int), Cond.fieldLink RX2 29 "RopeSeals$OrderText" "claim" "I", Cond.methodLink RX3 145 yX2_load, Cond.instanceMethod yX2_load, Cond.selects RX2 yX2_load yX2_load, Cond.code yX2_load cX2_load 1 (some .int), Cond.fieldLink RX2 32 "RopeSeals$OrderText" "load" "I", Cond.methodLink RX3 148 yX2_cartNumber, Cond.instanceMethod yX2_cartNumber, Cond.selects RX2 yX2_cartNumber yX2_cartNumber, Cond.code yX2_cartNumber cX2_cartNumber 1 (some .int), Cond.fieldLink RX2 26 "RopeSeals$OrderText" "cartNumber" "I", Cond.methodLink RX3 44 yX1_admit]
def wsX3_carryOutOrder_r2 : List Cond := [Cond.instanceMethod yX1_admit, Cond.selects RX1 yX1_admit yX1_admit, Cond.initialized RX1, Cond.code yX1_admit cX1_admit 5 (some .int), Cond.fieldLink RX1 30 "RopeSeals$House" "count" "I", Cond.fieldLink RX1 15 "RopeSeals$House" "claims" "[I", Cond.fieldLink RX1 18 "RopeSeals$House" "loads" "[I", Cond.fieldLink RX1 21 "RopeSeals$House" "vouched" "[I", Cond.fieldLink RX1 27 "RopeSeals$House" "fines" "[I", Cond.fieldLink RX1 24 "RopeSeals$House" "seals" "[I", Cond.fieldLink RX1 43 "RopeSeals$House" "tolls" "I", Cond.methodLink RX1 52 yX1_knows, Cond.instanceMethod yX1_knows, Cond.selects RX1 yX1_knows yX1_knows, Cond.code yX1_knows cX1_knows 2 (some .boolean), Cond.methodLink RX1 56 yX1_isSacks, Cond.static yX1_isSacks, Cond.code yX1_isSacks cX1_isSacks 1 (some .boolean), Cond.methodLink RX1 59 yX1_rightSeal, Cond.instanceMethod yX1_rightSeal, Cond.selects RX1 yX1_rightSeal yX1_rightSeal, Cond.code yX1_rightSeal cX1_rightSeal 2 (some .int), Cond.methodLink RX1 143 yX1_sealFor, Cond.instanceMethod yX1_sealFor]
def wsX3_carryOutOrder_r3 : List Cond := [Cond.selects RX1 yX1_sealFor yX1_sealFor, Cond.code yX1_sealFor cX1_sealFor 6 (some .int), Cond.fieldLink RX1 9 "RopeSeals$House" "settings" "[I", Cond.methodLink RX3 59 yX1_inspect, Cond.instanceMethod yX1_inspect, Cond.selects RX1 yX1_inspect yX1_inspect, Cond.code yX1_inspect cX1_inspect 3 (some .int), Cond.fieldLink RX1 34 "RopeSeals$House" "opened" "I", Cond.fieldLink RX1 40 "RopeSeals$House" "cleared" "I", Cond.methodLink RX1 63 yX1_isIn, Cond.static yX1_isIn, Cond.code yX1_isIn cX1_isIn 2 (some .boolean), Cond.methodLink RX1 70 yX1_bit, Cond.static yX1_bit, Cond.code yX1_bit cX1_bit 1 (some .int), Cond.methodLink RX1 73 yX1_ownFine, Cond.instanceMethod yX1_ownFine, Cond.selects RX1 yX1_ownFine yX1_ownFine, Cond.code yX1_ownFine cX1_ownFine 4 (some .int), Cond.methodLink RX1 146 Lib.Math.abs.name, Cond.static Lib.Math.abs.name, Cond.initialized "java/lang/Math", Cond.code Lib.Math.abs.name Lib.Math.abs.code 1 (some .int), Cond.methodLink RX1 67 yX1_isWhole]
def wsX3_carryOutOrder_r4 : List Cond := [Cond.instanceMethod yX1_isWhole, Cond.selects RX1 yX1_isWhole yX1_isWhole, Cond.code yX1_isWhole cX1_isWhole 2 (some .boolean), Cond.methodLink RX1 77 yX1_isLie, Cond.instanceMethod yX1_isLie, Cond.selects RX1 yX1_isLie yX1_isLie, Cond.code yX1_isLie cX1_isLie 3 (some .boolean), Cond.methodLink RX1 80 yX1_exposeLiar, Cond.instanceMethod yX1_exposeLiar, Cond.selects RX1 yX1_exposeLiar yX1_exposeLiar, Cond.code yX1_exposeLiar cX1_exposeLiar 4 none, Cond.fieldLink RX1 37 "RopeSeals$House" "lied" "I", Cond.methodLink RX1 92 yX1_wholeVouchers, Cond.instanceMethod yX1_wholeVouchers, Cond.selects RX1 yX1_wholeVouchers yX1_wholeVouchers, Cond.code yX1_wholeVouchers cX1_wholeVouchers 4 (some .int), Cond.methodLink RX1 84 yX1_clearedIfHonest, Cond.instanceMethod yX1_clearedIfHonest, Cond.selects RX1 yX1_clearedIfHonest yX1_clearedIfHonest, Cond.code yX1_clearedIfHonest cX1_clearedIfHonest 2 (some .int), Cond.methodLink RX1 140 yX1_reachedFrom, Cond.instanceMethod yX1_reachedFrom, Cond.selects RX1 yX1_reachedFrom yX1_reachedFrom, Cond.code yX1_reachedFrom cX1_reachedFrom 5 (some .int)]
def wsX3_carryOutOrder_r5 : List Cond := [Cond.methodLink RX1 87 yJ6_bitCount_0f7a4, Cond.static yJ6_bitCount_0f7a4, Cond.initialized RJ6, Cond.code yJ6_bitCount_0f7a4 cJ6_bitCount_0f7a4 1 (some .int), Cond.constant RJ6 265 (1431655765), Cond.constant RJ6 266 (858993459), Cond.constant RJ6 267 (252645135), Cond.methodLink RX3 52 yX1_changeClaim, Cond.instanceMethod yX1_changeClaim, Cond.selects RX1 yX1_changeClaim yX1_changeClaim, Cond.code yX1_changeClaim cX1_changeClaim 4 (some .int), Cond.methodLink RX3 56 yX1_mendSeal, Cond.instanceMethod yX1_mendSeal, Cond.selects RX1 yX1_mendSeal yX1_mendSeal, Cond.code yX1_mendSeal cX1_mendSeal 3 (some .int)]
def wsX3_carryOutOrder : List Cond := .code yX3_carryOutOrder cX3_carryOutOrder 2 (some .int) :: ((wsX3_carryOutOrder_r1 ++ (wsX3_carryOutOrder_r2 ++ (wsX3_carryOutOrder_r3 ++ (wsX3_carryOutOrder_r4 ++ wsX3_carryOutOrder_r5)))) ++ wsX30 ++ wsX20 ++ wsX10)
def wsX3_isError : List Cond := .code yX3_isError cX3_isError 1 (some .boolean) :: ([])
def wsX3_perform_r1 : List Cond := [Cond.fieldLink RX3 36 "RopeSeals" "text" "LRopeSeals$OrderText;", Cond.fieldLink RX3 16 "RopeSeals" "before" "LRopeSeals$House;", Cond.fieldLink RX3 10 "RopeSeals" "house" "LRopeSeals$House;", Cond.methodLink RX3 76 yX2_countOrders, Cond.instanceMethod yX2_countOrders, Cond.selects RX2 yX2_countOrders yX2_countOrders, Cond.initialized RX2, Cond.code yX2_countOrders cX2_countOrders 2 (some .int), Cond.fieldLink RX2 19 "RopeSeals$OrderText" "place" "I", Cond.fieldLink RX2 15 "RopeSeals$OrderText" "size" "I", Cond.methodLink RX2 35 yX2_rewind, Cond.instanceMethod yX2_rewind, Cond.selects RX2 yX2_rewind yX2_rewind, Cond.code yX2_rewind cX2_rewind 1 none, Cond.methodLink RX2 38 yX2_readOrder, Cond.instanceMethod yX2_readOrder, Cond.selects RX2 yX2_readOrder yX2_readOrder, Cond.code yX2_readOrder cX2_readOrder 1 (some .boolean), Cond.fieldLink RX2 26 "RopeSeals$OrderText" "cartNumber" "I", Cond.methodLink RX2 46 yX2_takesKind, Cond.instanceMethod yX2_takesKind, Cond.selects RX2 yX2_takesKind yX2_takesKind, Cond.code yX2_takesKind cX2_takesKind 2 (some .boolean), Cond.fieldLink RX2 22 "RopeSeals$OrderText" "kind" "C"]
def wsX3_perform_r2 : List Cond := [Cond.methodLink RX2 42 yX2_takes, Cond.instanceMethod yX2_takes, Cond.selects RX2 yX2_takes yX2_takes, Cond.code yX2_takes cX2_takes 2 (some .boolean), Cond.fieldLink RX2 11 "RopeSeals$OrderText" "characters" "[C", Cond.methodLink RX2 49 yX2_readClaim, Cond.instanceMethod yX2_readClaim, Cond.selects RX2 yX2_readClaim yX2_readClaim, Cond.code yX2_readClaim cX2_readClaim 1 (some .boolean), Cond.fieldLink RX2 29 "RopeSeals$OrderText" "claim" "I", Cond.methodLink RX2 58 yX2_takeNumber, Cond.instanceMethod yX2_takeNumber, Cond.selects RX2 yX2_takeNumber yX2_takeNumber, Cond.code yX2_takeNumber cX2_takeNumber 4 (some .int), Cond.methodLink RX2 62 yX2_digitHere, Cond.instanceMethod yX2_digitHere, Cond.selects RX2 yX2_digitHere yX2_digitHere, Cond.code yX2_digitHere cX2_digitHere 2 (some .int), Cond.methodLink RX2 52 yX2_readLoad, Cond.instanceMethod yX2_readLoad, Cond.selects RX2 yX2_readLoad yX2_readLoad, Cond.code yX2_readLoad cX2_readLoad 1 (some .boolean), Cond.fieldLink RX2 32 "RopeSeals$OrderText" "load" "I", Cond.methodLink RX2 55 yX2_readCart]
def wsX3_perform_r3 : List Cond := [Cond.instanceMethod yX2_readCart, Cond.selects RX2 yX2_readCart yX2_readCart, Cond.code yX2_readCart cX2_readCart 1 (some .boolean), Cond.methodLink RX3 79 yX2_reached, Cond.instanceMethod yX2_reached, Cond.selects RX2 yX2_reached yX2_reached, Cond.code yX2_reached cX2_reached 1 (some .int), Cond.methodLink RX3 40 yX1_copyFrom, Cond.instanceMethod yX1_copyFrom, Cond.selects RX1 yX1_copyFrom yX1_copyFrom, Cond.initialized RX1, Cond.code yX1_copyFrom cX1_copyFrom 2 none, Cond.fieldLink RX1 9 "RopeSeals$House" "settings" "[I", Cond.methodLink RX1 46 arraycopyName, Cond.native arraycopyName, Cond.static arraycopyName, Cond.initialized "java/lang/System", Cond.fieldLink RX1 15 "RopeSeals$House" "claims" "[I", Cond.fieldLink RX1 18 "RopeSeals$House" "loads" "[I", Cond.fieldLink RX1 21 "RopeSeals$House" "vouched" "[I", Cond.fieldLink RX1 24 "RopeSeals$House" "seals" "[I", Cond.fieldLink RX1 27 "RopeSeals$House" "fines" "[I", Cond.fieldLink RX1 30 "RopeSeals$House" "count" "I", Cond.fieldLink RX1 34 "RopeSeals$House" "opened" "I"]
def wsX3_perform_r4 : List Cond := [Cond.fieldLink RX1 37 "RopeSeals$House" "lied" "I", Cond.fieldLink RX1 40 "RopeSeals$House" "cleared" "I", Cond.fieldLink RX1 43 "RopeSeals$House" "tolls" "I", Cond.methodLink RX3 82 yX2_rewind, Cond.methodLink RX3 85 yX2_nextOrder, Cond.instanceMethod yX2_nextOrder, Cond.selects RX2 yX2_nextOrder yX2_nextOrder, Cond.code yX2_nextOrder cX2_nextOrder 1 none, Cond.methodLink RX3 88 yX3_carryOutOrder, Cond.instanceMethod yX3_carryOutOrder, Cond.selects RX3 yX3_carryOutOrder yX3_carryOutOrder, Cond.initialized RX3, Cond.code yX3_carryOutOrder cX3_carryOutOrder 2 (some .int), Cond.methodLink RX3 138 yX2_kind, Cond.instanceMethod yX2_kind, Cond.selects RX2 yX2_kind yX2_kind, Cond.code yX2_kind cX2_kind 1 (some .char), Cond.methodLink RX3 142 yX2_claim, Cond.instanceMethod yX2_claim, Cond.selects RX2 yX2_claim yX2_claim, Cond.code yX2_claim cX2_claim 1 (some .int), Cond.methodLink RX3 145 yX2_load, Cond.instanceMethod yX2_load, Cond.selects RX2 yX2_load yX2_load]
def wsX3_perform_r5 : List Cond := [Cond.code yX2_load cX2_load 1 (some .int), Cond.methodLink RX3 148 yX2_cartNumber, Cond.instanceMethod yX2_cartNumber, Cond.selects RX2 yX2_cartNumber yX2_cartNumber, Cond.code yX2_cartNumber cX2_cartNumber 1 (some .int), Cond.methodLink RX3 44 yX1_admit, Cond.instanceMethod yX1_admit, Cond.selects RX1 yX1_admit yX1_admit, Cond.code yX1_admit cX1_admit 5 (some .int), Cond.methodLink RX1 52 yX1_knows, Cond.instanceMethod yX1_knows, Cond.selects RX1 yX1_knows yX1_knows, Cond.code yX1_knows cX1_knows 2 (some .boolean), Cond.methodLink RX1 56 yX1_isSacks, Cond.static yX1_isSacks, Cond.code yX1_isSacks cX1_isSacks 1 (some .boolean), Cond.methodLink RX1 59 yX1_rightSeal, Cond.instanceMethod yX1_rightSeal, Cond.selects RX1 yX1_rightSeal yX1_rightSeal, Cond.code yX1_rightSeal cX1_rightSeal 2 (some .int), Cond.methodLink RX1 143 yX1_sealFor, Cond.instanceMethod yX1_sealFor, Cond.selects RX1 yX1_sealFor yX1_sealFor, Cond.code yX1_sealFor cX1_sealFor 6 (some .int)]
def wsX3_perform_r6 : List Cond := [Cond.methodLink RX3 59 yX1_inspect, Cond.instanceMethod yX1_inspect, Cond.selects RX1 yX1_inspect yX1_inspect, Cond.code yX1_inspect cX1_inspect 3 (some .int), Cond.methodLink RX1 63 yX1_isIn, Cond.static yX1_isIn, Cond.code yX1_isIn cX1_isIn 2 (some .boolean), Cond.methodLink RX1 70 yX1_bit, Cond.static yX1_bit, Cond.code yX1_bit cX1_bit 1 (some .int), Cond.methodLink RX1 73 yX1_ownFine, Cond.instanceMethod yX1_ownFine, Cond.selects RX1 yX1_ownFine yX1_ownFine, Cond.code yX1_ownFine cX1_ownFine 4 (some .int), Cond.methodLink RX1 146 Lib.Math.abs.name, Cond.static Lib.Math.abs.name, Cond.initialized "java/lang/Math", Cond.code Lib.Math.abs.name Lib.Math.abs.code 1 (some .int), Cond.methodLink RX1 67 yX1_isWhole, Cond.instanceMethod yX1_isWhole, Cond.selects RX1 yX1_isWhole yX1_isWhole, Cond.code yX1_isWhole cX1_isWhole 2 (some .boolean), Cond.methodLink RX1 77 yX1_isLie, Cond.instanceMethod yX1_isLie]
def wsX3_perform_r7 : List Cond := [Cond.selects RX1 yX1_isLie yX1_isLie, Cond.code yX1_isLie cX1_isLie 3 (some .boolean), Cond.methodLink RX1 80 yX1_exposeLiar, Cond.instanceMethod yX1_exposeLiar, Cond.selects RX1 yX1_exposeLiar yX1_exposeLiar, Cond.code yX1_exposeLiar cX1_exposeLiar 4 none, Cond.methodLink RX1 92 yX1_wholeVouchers, Cond.instanceMethod yX1_wholeVouchers, Cond.selects RX1 yX1_wholeVouchers yX1_wholeVouchers, Cond.code yX1_wholeVouchers cX1_wholeVouchers 4 (some .int), Cond.methodLink RX1 84 yX1_clearedIfHonest, Cond.instanceMethod yX1_clearedIfHonest, Cond.selects RX1 yX1_clearedIfHonest yX1_clearedIfHonest, Cond.code yX1_clearedIfHonest cX1_clearedIfHonest 2 (some .int), Cond.methodLink RX1 140 yX1_reachedFrom, Cond.instanceMethod yX1_reachedFrom, Cond.selects RX1 yX1_reachedFrom yX1_reachedFrom, Cond.code yX1_reachedFrom cX1_reachedFrom 5 (some .int), Cond.methodLink RX1 87 yJ6_bitCount_0f7a4, Cond.static yJ6_bitCount_0f7a4, Cond.initialized RJ6, Cond.code yJ6_bitCount_0f7a4 cJ6_bitCount_0f7a4 1 (some .int), Cond.constant RJ6 265 (1431655765), Cond.constant RJ6 266 (858993459)]
def wsX3_perform_r8 : List Cond := [Cond.constant RJ6 267 (252645135), Cond.methodLink RX3 52 yX1_changeClaim, Cond.instanceMethod yX1_changeClaim, Cond.selects RX1 yX1_changeClaim yX1_changeClaim, Cond.code yX1_changeClaim cX1_changeClaim 4 (some .int), Cond.methodLink RX3 56 yX1_mendSeal, Cond.instanceMethod yX1_mendSeal, Cond.selects RX1 yX1_mendSeal yX1_mendSeal, Cond.code yX1_mendSeal cX1_mendSeal 3 (some .int), Cond.methodLink RX3 91 yX3_isError, Cond.static yX3_isError, Cond.code yX3_isError cX3_isError 1 (some .boolean), Cond.methodLink RX3 48 yX3_recorded, Cond.instanceMethod yX3_recorded, Cond.selects RX3 yX3_recorded yX3_recorded, Cond.code yX3_recorded cX3_recorded 2 (some .int), Cond.fieldLink RX3 29 "RopeSeals" "history" "LRopeSeals$History;", Cond.methodLink RX3 135 yX0_add, Cond.instanceMethod yX0_add, Cond.selects RX0 yX0_add yX0_add, Cond.initialized RX0, Cond.code yX0_add cX0_add 3 none, Cond.fieldLink RX0 17 "RopeSeals$History" "size" "I", Cond.fieldLink RX0 13 "RopeSeals$History" "rows" "[LRopeSeals$House;"]
def wsX3_perform_r9 : List Cond := [Cond.methodLink RX0 22 yX0_dropOldest, Cond.instanceMethod yX0_dropOldest, Cond.selects RX0 yX0_dropOldest yX0_dropOldest, Cond.code yX0_dropOldest cX0_dropOldest 3 none, Cond.methodLink RX0 25 yX1_copyFrom]
def wsX3_perform : List Cond := .code yX3_perform cX3_perform 4 (some .int) :: ((wsX3_perform_r1 ++ (wsX3_perform_r2 ++ (wsX3_perform_r3 ++ (wsX3_perform_r4 ++ (wsX3_perform_r5 ++ (wsX3_perform_r6 ++ (wsX3_perform_r7 ++ (wsX3_perform_r8 ++ wsX3_perform_r9)))))))) ++ wsX30 ++ wsX20 ++ wsX10 ++ wsX00)
def wsX3_undo_r1 : List Cond := [Cond.fieldLink RX3 29 "RopeSeals" "history" "LRopeSeals$History;", Cond.fieldLink RX3 10 "RopeSeals" "house" "LRopeSeals$House;", Cond.methodLink RX3 95 yX0_takeLatest, Cond.instanceMethod yX0_takeLatest, Cond.selects RX0 yX0_takeLatest yX0_takeLatest, Cond.initialized RX0, Cond.code yX0_takeLatest cX0_takeLatest 2 (some .int), Cond.fieldLink RX0 17 "RopeSeals$History" "size" "I", Cond.fieldLink RX0 13 "RopeSeals$History" "rows" "[LRopeSeals$House;", Cond.methodLink RX0 25 yX1_copyFrom, Cond.instanceMethod yX1_copyFrom, Cond.selects RX1 yX1_copyFrom yX1_copyFrom, Cond.initialized RX1, Cond.code yX1_copyFrom cX1_copyFrom 2 none, Cond.fieldLink RX1 9 "RopeSeals$House" "settings" "[I", Cond.methodLink RX1 46 arraycopyName, Cond.native arraycopyName, Cond.static arraycopyName, Cond.initialized "java/lang/System", Cond.fieldLink RX1 15 "RopeSeals$House" "claims" "[I", Cond.fieldLink RX1 18 "RopeSeals$House" "loads" "[I", Cond.fieldLink RX1 21 "RopeSeals$House" "vouched" "[I", Cond.fieldLink RX1 24 "RopeSeals$House" "seals" "[I", Cond.fieldLink RX1 27 "RopeSeals$House" "fines" "[I"]
def wsX3_undo_r2 : List Cond := [Cond.fieldLink RX1 30 "RopeSeals$House" "count" "I", Cond.fieldLink RX1 34 "RopeSeals$House" "opened" "I", Cond.fieldLink RX1 37 "RopeSeals$House" "lied" "I", Cond.fieldLink RX1 40 "RopeSeals$House" "cleared" "I", Cond.fieldLink RX1 43 "RopeSeals$House" "tolls" "I"]
def wsX3_undo : List Cond := .code yX3_undo cX3_undo 1 (some .int) :: ((wsX3_undo_r1 ++ wsX3_undo_r2) ++ wsX30 ++ wsX00 ++ wsX10)
def wsX3_keep_r1 : List Cond := [Cond.fieldLink RX3 19 "RopeSeals" "snapshot" "LRopeSeals$House;", Cond.fieldLink RX3 10 "RopeSeals" "house" "LRopeSeals$House;", Cond.fieldLink RX3 22 "RopeSeals" "hasSnapshot" "Z", Cond.methodLink RX3 40 yX1_copyFrom, Cond.instanceMethod yX1_copyFrom, Cond.selects RX1 yX1_copyFrom yX1_copyFrom, Cond.initialized RX1, Cond.code yX1_copyFrom cX1_copyFrom 2 none, Cond.fieldLink RX1 9 "RopeSeals$House" "settings" "[I", Cond.methodLink RX1 46 arraycopyName, Cond.native arraycopyName, Cond.static arraycopyName, Cond.initialized "java/lang/System", Cond.fieldLink RX1 15 "RopeSeals$House" "claims" "[I", Cond.fieldLink RX1 18 "RopeSeals$House" "loads" "[I", Cond.fieldLink RX1 21 "RopeSeals$House" "vouched" "[I", Cond.fieldLink RX1 24 "RopeSeals$House" "seals" "[I", Cond.fieldLink RX1 27 "RopeSeals$House" "fines" "[I", Cond.fieldLink RX1 30 "RopeSeals$House" "count" "I", Cond.fieldLink RX1 34 "RopeSeals$House" "opened" "I", Cond.fieldLink RX1 37 "RopeSeals$House" "lied" "I", Cond.fieldLink RX1 40 "RopeSeals$House" "cleared" "I", Cond.fieldLink RX1 43 "RopeSeals$House" "tolls" "I", Cond.methodLink RX3 99 yX1_carts]
def wsX3_keep_r2 : List Cond := [Cond.instanceMethod yX1_carts, Cond.selects RX1 yX1_carts yX1_carts, Cond.code yX1_carts cX1_carts 1 (some .int)]
def wsX3_keep : List Cond := .code yX3_keep cX3_keep 1 (some .int) :: ((wsX3_keep_r1 ++ wsX3_keep_r2) ++ wsX30 ++ wsX10)
def wsX3_restore_r1 : List Cond := [Cond.fieldLink RX3 22 "RopeSeals" "hasSnapshot" "Z", Cond.fieldLink RX3 16 "RopeSeals" "before" "LRopeSeals$House;", Cond.fieldLink RX3 10 "RopeSeals" "house" "LRopeSeals$House;", Cond.fieldLink RX3 19 "RopeSeals" "snapshot" "LRopeSeals$House;", Cond.methodLink RX3 40 yX1_copyFrom, Cond.instanceMethod yX1_copyFrom, Cond.selects RX1 yX1_copyFrom yX1_copyFrom, Cond.initialized RX1, Cond.code yX1_copyFrom cX1_copyFrom 2 none, Cond.fieldLink RX1 9 "RopeSeals$House" "settings" "[I", Cond.methodLink RX1 46 arraycopyName, Cond.native arraycopyName, Cond.static arraycopyName, Cond.initialized "java/lang/System", Cond.fieldLink RX1 15 "RopeSeals$House" "claims" "[I", Cond.fieldLink RX1 18 "RopeSeals$House" "loads" "[I", Cond.fieldLink RX1 21 "RopeSeals$House" "vouched" "[I", Cond.fieldLink RX1 24 "RopeSeals$House" "seals" "[I", Cond.fieldLink RX1 27 "RopeSeals$House" "fines" "[I", Cond.fieldLink RX1 30 "RopeSeals$House" "count" "I", Cond.fieldLink RX1 34 "RopeSeals$House" "opened" "I", Cond.fieldLink RX1 37 "RopeSeals$House" "lied" "I", Cond.fieldLink RX1 40 "RopeSeals$House" "cleared" "I", Cond.fieldLink RX1 43 "RopeSeals$House" "tolls" "I"]
def wsX3_restore_r2 : List Cond := [Cond.methodLink RX3 99 yX1_carts, Cond.instanceMethod yX1_carts, Cond.selects RX1 yX1_carts yX1_carts, Cond.code yX1_carts cX1_carts 1 (some .int), Cond.methodLink RX3 48 yX3_recorded, Cond.instanceMethod yX3_recorded, Cond.selects RX3 yX3_recorded yX3_recorded, Cond.initialized RX3, Cond.code yX3_recorded cX3_recorded 2 (some .int), Cond.fieldLink RX3 29 "RopeSeals" "history" "LRopeSeals$History;", Cond.methodLink RX3 135 yX0_add, Cond.instanceMethod yX0_add, Cond.selects RX0 yX0_add yX0_add, Cond.initialized RX0, Cond.code yX0_add cX0_add 3 none, Cond.fieldLink RX0 17 "RopeSeals$History" "size" "I", Cond.fieldLink RX0 13 "RopeSeals$History" "rows" "[LRopeSeals$House;", Cond.methodLink RX0 22 yX0_dropOldest, Cond.instanceMethod yX0_dropOldest, Cond.selects RX0 yX0_dropOldest yX0_dropOldest, Cond.code yX0_dropOldest cX0_dropOldest 3 none, Cond.methodLink RX0 25 yX1_copyFrom]
def wsX3_restore : List Cond := .code yX3_restore cX3_restore 1 (some .int) :: ((wsX3_restore_r1 ++ wsX3_restore_r2) ++ wsX30 ++ wsX10 ++ wsX00)
def wsX3_cart_r1 : List Cond := [Cond.fieldLink RX3 10 "RopeSeals" "house" "LRopeSeals$House;", Cond.methodLink RX3 102 yX1_tellOfCart, Cond.instanceMethod yX1_tellOfCart, Cond.selects RX1 yX1_tellOfCart yX1_tellOfCart, Cond.initialized RX1, Cond.code yX1_tellOfCart cX1_tellOfCart 3 (some .int), Cond.fieldLink RX1 15 "RopeSeals$House" "claims" "[I", Cond.fieldLink RX1 34 "RopeSeals$House" "opened" "I", Cond.fieldLink RX1 18 "RopeSeals$House" "loads" "[I", Cond.fieldLink RX1 21 "RopeSeals$House" "vouched" "[I", Cond.fieldLink RX1 24 "RopeSeals$House" "seals" "[I", Cond.fieldLink RX1 40 "RopeSeals$House" "cleared" "I", Cond.fieldLink RX1 27 "RopeSeals$House" "fines" "[I", Cond.methodLink RX1 52 yX1_knows, Cond.instanceMethod yX1_knows, Cond.selects RX1 yX1_knows yX1_knows, Cond.code yX1_knows cX1_knows 2 (some .boolean), Cond.fieldLink RX1 30 "RopeSeals$House" "count" "I", Cond.methodLink RX1 63 yX1_isIn, Cond.static yX1_isIn, Cond.code yX1_isIn cX1_isIn 2 (some .boolean), Cond.methodLink RX1 70 yX1_bit, Cond.static yX1_bit, Cond.code yX1_bit cX1_bit 1 (some .int)]
def wsX3_cart_r2 : List Cond := [Cond.methodLink RX1 59 yX1_rightSeal, Cond.instanceMethod yX1_rightSeal, Cond.selects RX1 yX1_rightSeal yX1_rightSeal, Cond.code yX1_rightSeal cX1_rightSeal 2 (some .int), Cond.methodLink RX1 143 yX1_sealFor, Cond.instanceMethod yX1_sealFor, Cond.selects RX1 yX1_sealFor yX1_sealFor, Cond.code yX1_sealFor cX1_sealFor 6 (some .int), Cond.fieldLink RX1 9 "RopeSeals$House" "settings" "[I", Cond.methodLink RX1 67 yX1_isWhole, Cond.instanceMethod yX1_isWhole, Cond.selects RX1 yX1_isWhole yX1_isWhole, Cond.code yX1_isWhole cX1_isWhole 2 (some .boolean), Cond.methodLink RX1 108 yX1_chainOf, Cond.instanceMethod yX1_chainOf, Cond.selects RX1 yX1_chainOf yX1_chainOf, Cond.code yX1_chainOf cX1_chainOf 5 (some .int), Cond.methodLink RX1 87 yJ6_bitCount_0f7a4, Cond.static yJ6_bitCount_0f7a4, Cond.initialized RJ6, Cond.code yJ6_bitCount_0f7a4 cJ6_bitCount_0f7a4 1 (some .int), Cond.constant RJ6 265 (1431655765), Cond.constant RJ6 266 (858993459), Cond.constant RJ6 267 (252645135)]
def wsX3_cart_r3 : List Cond := [Cond.methodLink RX1 111 yX1_vouchers, Cond.instanceMethod yX1_vouchers, Cond.selects RX1 yX1_vouchers yX1_vouchers, Cond.code yX1_vouchers cX1_vouchers 4 (some .int), Cond.methodLink RX1 114 yX1_countChainsWith, Cond.instanceMethod yX1_countChainsWith, Cond.selects RX1 yX1_countChainsWith yX1_countChainsWith, Cond.code yX1_countChainsWith cX1_countChainsWith 4 (some .int), Cond.methodLink RX1 117 yX1_whyNotCleared, Cond.instanceMethod yX1_whyNotCleared, Cond.selects RX1 yX1_whyNotCleared yX1_whyNotCleared, Cond.code yX1_whyNotCleared cX1_whyNotCleared 3 (some .int), Cond.fieldLink RX1 37 "RopeSeals$House" "lied" "I"]
def wsX3_cart : List Cond := .code yX3_cart cX3_cart 3 (some .int) :: ((wsX3_cart_r1 ++ (wsX3_cart_r2 ++ wsX3_cart_r3)) ++ wsX30 ++ wsX10)
def wsX3_chain : List Cond := .code yX3_chain cX3_chain 3 (some .int) :: ([.fieldLink RX3 10 "RopeSeals" "house" "LRopeSeals$House;", .methodLink RX3 105 yX1_cartOfChain, .instanceMethod yX1_cartOfChain, .selects RX1 yX1_cartOfChain yX1_cartOfChain, .initialized RX1, .code yX1_cartOfChain cX1_cartOfChain 5 (some .int), .fieldLink RX1 21 "RopeSeals$House" "vouched" "[I", .methodLink RX1 52 yX1_knows, .instanceMethod yX1_knows, .selects RX1 yX1_knows yX1_knows, .code yX1_knows cX1_knows 2 (some .boolean), .fieldLink RX1 30 "RopeSeals$House" "count" "I"] ++ wsX30 ++ wsX10)
def wsX3_brokenIn : List Cond := .code yX3_brokenIn cX3_brokenIn 2 (some .int) :: ([.fieldLink RX3 10 "RopeSeals" "house" "LRopeSeals$House;", .methodLink RX3 108 yX1_firstBroken, .instanceMethod yX1_firstBroken, .selects RX1 yX1_firstBroken yX1_firstBroken, .initialized RX1, .code yX1_firstBroken cX1_firstBroken 4 (some .int), .fieldLink RX1 21 "RopeSeals$House" "vouched" "[I", .methodLink RX1 52 yX1_knows, .instanceMethod yX1_knows, .selects RX1 yX1_knows yX1_knows, .code yX1_knows cX1_knows 2 (some .boolean), .fieldLink RX1 30 "RopeSeals$House" "count" "I", .methodLink RX1 67 yX1_isWhole, .instanceMethod yX1_isWhole, .selects RX1 yX1_isWhole yX1_isWhole, .code yX1_isWhole cX1_isWhole 2 (some .boolean), .fieldLink RX1 24 "RopeSeals$House" "seals" "[I", .fieldLink RX1 15 "RopeSeals$House" "claims" "[I", .methodLink RX1 143 yX1_sealFor, .instanceMethod yX1_sealFor, .selects RX1 yX1_sealFor yX1_sealFor, .code yX1_sealFor cX1_sealFor 6 (some .int), .fieldLink RX1 9 "RopeSeals$House" "settings" "[I"] ++ wsX30 ++ wsX10)
def wsX3_total_r1 : List Cond := [Cond.fieldLink RX3 29 "RopeSeals" "history" "LRopeSeals$History;", Cond.fieldLink RX3 36 "RopeSeals" "text" "LRopeSeals$OrderText;", Cond.fieldLink RX3 10 "RopeSeals" "house" "LRopeSeals$House;", Cond.methodLink RX3 111 yX0_states, Cond.instanceMethod yX0_states, Cond.selects RX0 yX0_states yX0_states, Cond.initialized RX0, Cond.code yX0_states cX0_states 1 (some .int), Cond.fieldLink RX0 17 "RopeSeals$History" "size" "I", Cond.methodLink RX3 114 yX2_length, Cond.instanceMethod yX2_length, Cond.selects RX2 yX2_length yX2_length, Cond.initialized RX2, Cond.code yX2_length cX2_length 1 (some .int), Cond.fieldLink RX2 15 "RopeSeals$OrderText" "size" "I", Cond.methodLink RX3 117 yX1_tellOfAll, Cond.instanceMethod yX1_tellOfAll, Cond.selects RX1 yX1_tellOfAll yX1_tellOfAll, Cond.initialized RX1, Cond.code yX1_tellOfAll cX1_tellOfAll 2 (some .int), Cond.fieldLink RX1 9 "RopeSeals$House" "settings" "[I", Cond.fieldLink RX1 30 "RopeSeals$House" "count" "I", Cond.fieldLink RX1 34 "RopeSeals$House" "opened" "I", Cond.fieldLink RX1 40 "RopeSeals$House" "cleared" "I"]
def wsX3_total_r2 : List Cond := [Cond.fieldLink RX1 37 "RopeSeals$House" "lied" "I", Cond.fieldLink RX1 43 "RopeSeals$House" "tolls" "I", Cond.methodLink RX1 87 yJ6_bitCount_0f7a4, Cond.static yJ6_bitCount_0f7a4, Cond.initialized RJ6, Cond.code yJ6_bitCount_0f7a4 cJ6_bitCount_0f7a4 1 (some .int), Cond.constant RJ6 265 (1431655765), Cond.constant RJ6 266 (858993459), Cond.constant RJ6 267 (252645135), Cond.methodLink RX1 120 yX1_countBroken, Cond.instanceMethod yX1_countBroken, Cond.selects RX1 yX1_countBroken yX1_countBroken, Cond.code yX1_countBroken cX1_countBroken 3 (some .int), Cond.methodLink RX1 67 yX1_isWhole, Cond.instanceMethod yX1_isWhole, Cond.selects RX1 yX1_isWhole yX1_isWhole, Cond.code yX1_isWhole cX1_isWhole 2 (some .boolean), Cond.fieldLink RX1 24 "RopeSeals$House" "seals" "[I", Cond.fieldLink RX1 15 "RopeSeals$House" "claims" "[I", Cond.methodLink RX1 143 yX1_sealFor, Cond.instanceMethod yX1_sealFor, Cond.selects RX1 yX1_sealFor yX1_sealFor, Cond.code yX1_sealFor cX1_sealFor 6 (some .int), Cond.fieldLink RX1 21 "RopeSeals$House" "vouched" "[I"]
def wsX3_total_r3 : List Cond := [Cond.methodLink RX1 123 yX1_finesOfAll, Cond.instanceMethod yX1_finesOfAll, Cond.selects RX1 yX1_finesOfAll yX1_finesOfAll, Cond.code yX1_finesOfAll cX1_finesOfAll 3 (some .int), Cond.fieldLink RX1 27 "RopeSeals$House" "fines" "[I", Cond.methodLink RX1 126 yX1_greatestDepth, Cond.instanceMethod yX1_greatestDepth, Cond.selects RX1 yX1_greatestDepth yX1_greatestDepth, Cond.code yX1_greatestDepth cX1_greatestDepth 3 (some .int), Cond.methodLink RX1 135 Lib.Math.max.name, Cond.static Lib.Math.max.name, Cond.initialized "java/lang/Math", Cond.code Lib.Math.max.name Lib.Math.max.code 2 (some .int), Cond.methodLink RX1 108 yX1_chainOf, Cond.instanceMethod yX1_chainOf, Cond.selects RX1 yX1_chainOf yX1_chainOf, Cond.code yX1_chainOf cX1_chainOf 5 (some .int), Cond.methodLink RX1 52 yX1_knows, Cond.instanceMethod yX1_knows, Cond.selects RX1 yX1_knows yX1_knows, Cond.code yX1_knows cX1_knows 2 (some .boolean), Cond.methodLink RX1 70 yX1_bit, Cond.static yX1_bit, Cond.code yX1_bit cX1_bit 1 (some .int)]
def wsX3_total_r4 : List Cond := [Cond.methodLink RX1 129 yX1_countUnvouched, Cond.instanceMethod yX1_countUnvouched, Cond.selects RX1 yX1_countUnvouched yX1_countUnvouched, Cond.code yX1_countUnvouched cX1_countUnvouched 3 (some .int), Cond.methodLink RX1 111 yX1_vouchers, Cond.instanceMethod yX1_vouchers, Cond.selects RX1 yX1_vouchers yX1_vouchers, Cond.code yX1_vouchers cX1_vouchers 4 (some .int), Cond.methodLink RX1 132 yX1_sacksFound, Cond.instanceMethod yX1_sacksFound, Cond.selects RX1 yX1_sacksFound yX1_sacksFound, Cond.code yX1_sacksFound cX1_sacksFound 3 (some .int), Cond.fieldLink RX1 18 "RopeSeals$House" "loads" "[I", Cond.methodLink RX1 63 yX1_isIn, Cond.static yX1_isIn, Cond.code yX1_isIn cX1_isIn 2 (some .boolean)]
def wsX3_total : List Cond := .code yX3_total cX3_total 2 (some .int) :: ((wsX3_total_r1 ++ (wsX3_total_r2 ++ (wsX3_total_r3 ++ wsX3_total_r4))) ++ wsX30 ++ wsX00 ++ wsX20 ++ wsX10)
def wsX3_ifOpened_r1 : List Cond := [Cond.fieldLink RX3 10 "RopeSeals" "house" "LRopeSeals$House;", Cond.methodLink RX3 120 yX1_foretell, Cond.instanceMethod yX1_foretell, Cond.selects RX1 yX1_foretell yX1_foretell, Cond.initialized RX1, Cond.code yX1_foretell cX1_foretell 3 (some .int), Cond.fieldLink RX1 34 "RopeSeals$House" "opened" "I", Cond.fieldLink RX1 9 "RopeSeals$House" "settings" "[I", Cond.methodLink RX1 52 yX1_knows, Cond.instanceMethod yX1_knows, Cond.selects RX1 yX1_knows yX1_knows, Cond.code yX1_knows cX1_knows 2 (some .boolean), Cond.fieldLink RX1 30 "RopeSeals$House" "count" "I", Cond.methodLink RX1 63 yX1_isIn, Cond.static yX1_isIn, Cond.code yX1_isIn cX1_isIn 2 (some .boolean), Cond.methodLink RX1 70 yX1_bit, Cond.static yX1_bit, Cond.code yX1_bit cX1_bit 1 (some .int), Cond.methodLink RX1 84 yX1_clearedIfHonest, Cond.instanceMethod yX1_clearedIfHonest, Cond.selects RX1 yX1_clearedIfHonest yX1_clearedIfHonest, Cond.code yX1_clearedIfHonest cX1_clearedIfHonest 2 (some .int), Cond.fieldLink RX1 37 "RopeSeals$House" "lied" "I"]
def wsX3_ifOpened_r2 : List Cond := [Cond.fieldLink RX1 40 "RopeSeals$House" "cleared" "I", Cond.methodLink RX1 140 yX1_reachedFrom, Cond.instanceMethod yX1_reachedFrom, Cond.selects RX1 yX1_reachedFrom yX1_reachedFrom, Cond.code yX1_reachedFrom cX1_reachedFrom 5 (some .int), Cond.fieldLink RX1 21 "RopeSeals$House" "vouched" "[I", Cond.methodLink RX1 67 yX1_isWhole, Cond.instanceMethod yX1_isWhole, Cond.selects RX1 yX1_isWhole yX1_isWhole, Cond.code yX1_isWhole cX1_isWhole 2 (some .boolean), Cond.fieldLink RX1 24 "RopeSeals$House" "seals" "[I", Cond.fieldLink RX1 15 "RopeSeals$House" "claims" "[I", Cond.methodLink RX1 143 yX1_sealFor, Cond.instanceMethod yX1_sealFor, Cond.selects RX1 yX1_sealFor yX1_sealFor, Cond.code yX1_sealFor cX1_sealFor 6 (some .int), Cond.methodLink RX1 87 yJ6_bitCount_0f7a4, Cond.static yJ6_bitCount_0f7a4, Cond.initialized RJ6, Cond.code yJ6_bitCount_0f7a4 cJ6_bitCount_0f7a4 1 (some .int), Cond.constant RJ6 265 (1431655765), Cond.constant RJ6 266 (858993459), Cond.constant RJ6 267 (252645135), Cond.methodLink RX1 73 yX1_ownFine]
def wsX3_ifOpened_r3 : List Cond := [Cond.instanceMethod yX1_ownFine, Cond.selects RX1 yX1_ownFine yX1_ownFine, Cond.code yX1_ownFine cX1_ownFine 4 (some .int), Cond.methodLink RX1 146 Lib.Math.abs.name, Cond.static Lib.Math.abs.name, Cond.initialized "java/lang/Math", Cond.code Lib.Math.abs.name Lib.Math.abs.code 1 (some .int), Cond.methodLink RX1 77 yX1_isLie, Cond.instanceMethod yX1_isLie, Cond.selects RX1 yX1_isLie yX1_isLie, Cond.code yX1_isLie cX1_isLie 3 (some .boolean), Cond.methodLink RX1 92 yX1_wholeVouchers, Cond.instanceMethod yX1_wholeVouchers, Cond.selects RX1 yX1_wholeVouchers yX1_wholeVouchers, Cond.code yX1_wholeVouchers cX1_wholeVouchers 4 (some .int)]
def wsX3_ifOpened : List Cond := .code yX3_ifOpened cX3_ifOpened 3 (some .int) :: ((wsX3_ifOpened_r1 ++ (wsX3_ifOpened_r2 ++ wsX3_ifOpened_r3)) ++ wsX30 ++ wsX10)
def wsX3_fewestOpenings_r1 : List Cond := [Cond.fieldLink RX3 10 "RopeSeals" "house" "LRopeSeals$House;", Cond.methodLink RX3 123 yX1_countEnds, Cond.instanceMethod yX1_countEnds, Cond.selects RX1 yX1_countEnds yX1_countEnds, Cond.initialized RX1, Cond.code yX1_countEnds cX1_countEnds 4 (some .int), Cond.fieldLink RX1 30 "RopeSeals$House" "count" "I", Cond.methodLink RX1 95 yX1_waiting, Cond.instanceMethod yX1_waiting, Cond.selects RX1 yX1_waiting yX1_waiting, Cond.code yX1_waiting cX1_waiting 1 (some .int), Cond.fieldLink RX1 40 "RopeSeals$House" "cleared" "I", Cond.fieldLink RX1 34 "RopeSeals$House" "opened" "I", Cond.methodLink RX1 149 yX1_all, Cond.instanceMethod yX1_all, Cond.selects RX1 yX1_all yX1_all, Cond.code yX1_all cX1_all 1 (some .int), Cond.methodLink RX1 70 yX1_bit, Cond.static yX1_bit, Cond.code yX1_bit cX1_bit 1 (some .int), Cond.methodLink RX1 63 yX1_isIn, Cond.static yX1_isIn, Cond.code yX1_isIn cX1_isIn 2 (some .boolean), Cond.methodLink RX1 140 yX1_reachedFrom]
def wsX3_fewestOpenings_r2 : List Cond := [Cond.instanceMethod yX1_reachedFrom, Cond.selects RX1 yX1_reachedFrom yX1_reachedFrom, Cond.code yX1_reachedFrom cX1_reachedFrom 5 (some .int), Cond.fieldLink RX1 21 "RopeSeals$House" "vouched" "[I", Cond.methodLink RX1 52 yX1_knows, Cond.instanceMethod yX1_knows, Cond.selects RX1 yX1_knows yX1_knows, Cond.code yX1_knows cX1_knows 2 (some .boolean), Cond.methodLink RX1 67 yX1_isWhole, Cond.instanceMethod yX1_isWhole, Cond.selects RX1 yX1_isWhole yX1_isWhole, Cond.code yX1_isWhole cX1_isWhole 2 (some .boolean), Cond.fieldLink RX1 24 "RopeSeals$House" "seals" "[I", Cond.fieldLink RX1 15 "RopeSeals$House" "claims" "[I", Cond.methodLink RX1 143 yX1_sealFor, Cond.instanceMethod yX1_sealFor, Cond.selects RX1 yX1_sealFor yX1_sealFor, Cond.code yX1_sealFor cX1_sealFor 6 (some .int), Cond.fieldLink RX1 9 "RopeSeals$House" "settings" "[I", Cond.methodLink RX1 87 yJ6_bitCount_0f7a4, Cond.static yJ6_bitCount_0f7a4, Cond.initialized RJ6, Cond.code yJ6_bitCount_0f7a4 cJ6_bitCount_0f7a4 1 (some .int), Cond.constant RJ6 265 (1431655765)]
def wsX3_fewestOpenings_r3 : List Cond := [Cond.constant RJ6 266 (858993459), Cond.constant RJ6 267 (252645135), Cond.methodLink RX3 126 yX1_countHonestOpenings, Cond.instanceMethod yX1_countHonestOpenings, Cond.selects RX1 yX1_countHonestOpenings yX1_countHonestOpenings, Cond.code yX1_countHonestOpenings cX1_countHonestOpenings 4 (some .int)]
def wsX3_fewestOpenings : List Cond := .code yX3_fewestOpenings cX3_fewestOpenings 2 (some .int) :: ((wsX3_fewestOpenings_r1 ++ (wsX3_fewestOpenings_r2 ++ wsX3_fewestOpenings_r3)) ++ wsX30 ++ wsX10)
def wsX3_bestOpening_r1 : List Cond := [Cond.fieldLink RX3 10 "RopeSeals" "house" "LRopeSeals$House;", Cond.methodLink RX3 129 yX1_mostClearing, Cond.instanceMethod yX1_mostClearing, Cond.selects RX1 yX1_mostClearing yX1_mostClearing, Cond.initialized RX1, Cond.code yX1_mostClearing cX1_mostClearing 5 (some .int), Cond.fieldLink RX1 30 "RopeSeals$House" "count" "I", Cond.fieldLink RX1 34 "RopeSeals$House" "opened" "I", Cond.methodLink RX1 84 yX1_clearedIfHonest, Cond.instanceMethod yX1_clearedIfHonest, Cond.selects RX1 yX1_clearedIfHonest yX1_clearedIfHonest, Cond.code yX1_clearedIfHonest cX1_clearedIfHonest 2 (some .int), Cond.fieldLink RX1 37 "RopeSeals$House" "lied" "I", Cond.fieldLink RX1 40 "RopeSeals$House" "cleared" "I", Cond.methodLink RX1 140 yX1_reachedFrom, Cond.instanceMethod yX1_reachedFrom, Cond.selects RX1 yX1_reachedFrom yX1_reachedFrom, Cond.code yX1_reachedFrom cX1_reachedFrom 5 (some .int), Cond.fieldLink RX1 21 "RopeSeals$House" "vouched" "[I", Cond.methodLink RX1 52 yX1_knows, Cond.instanceMethod yX1_knows, Cond.selects RX1 yX1_knows yX1_knows, Cond.code yX1_knows cX1_knows 2 (some .boolean), Cond.methodLink RX1 70 yX1_bit]
def wsX3_bestOpening_r2 : List Cond := [Cond.static yX1_bit, Cond.code yX1_bit cX1_bit 1 (some .int), Cond.methodLink RX1 67 yX1_isWhole, Cond.instanceMethod yX1_isWhole, Cond.selects RX1 yX1_isWhole yX1_isWhole, Cond.code yX1_isWhole cX1_isWhole 2 (some .boolean), Cond.fieldLink RX1 24 "RopeSeals$House" "seals" "[I", Cond.fieldLink RX1 15 "RopeSeals$House" "claims" "[I", Cond.methodLink RX1 143 yX1_sealFor, Cond.instanceMethod yX1_sealFor, Cond.selects RX1 yX1_sealFor yX1_sealFor, Cond.code yX1_sealFor cX1_sealFor 6 (some .int), Cond.fieldLink RX1 9 "RopeSeals$House" "settings" "[I", Cond.methodLink RX1 87 yJ6_bitCount_0f7a4, Cond.static yJ6_bitCount_0f7a4, Cond.initialized RJ6, Cond.code yJ6_bitCount_0f7a4 cJ6_bitCount_0f7a4 1 (some .int), Cond.constant RJ6 265 (1431655765), Cond.constant RJ6 266 (858993459), Cond.constant RJ6 267 (252645135), Cond.methodLink RX1 63 yX1_isIn, Cond.static yX1_isIn, Cond.code yX1_isIn cX1_isIn 2 (some .boolean)]
def wsX3_bestOpening : List Cond := .code yX3_bestOpening cX3_bestOpening 1 (some .int) :: ((wsX3_bestOpening_r1 ++ wsX3_bestOpening_r2) ++ wsX30 ++ wsX10)
def wsX3_sameSeal : List Cond := .code yX3_sameSeal cX3_sameSeal 2 (some .int) :: ([.fieldLink RX3 10 "RopeSeals" "house" "LRopeSeals$House;", .methodLink RX3 132 yX1_otherClaimForSeal, .instanceMethod yX1_otherClaimForSeal, .selects RX1 yX1_otherClaimForSeal yX1_otherClaimForSeal, .initialized RX1, .code yX1_otherClaimForSeal cX1_otherClaimForSeal 4 (some .int), .fieldLink RX1 15 "RopeSeals$House" "claims" "[I", .methodLink RX1 52 yX1_knows, .instanceMethod yX1_knows, .selects RX1 yX1_knows yX1_knows, .code yX1_knows cX1_knows 2 (some .boolean), .fieldLink RX1 30 "RopeSeals$House" "count" "I", .methodLink RX1 59 yX1_rightSeal, .instanceMethod yX1_rightSeal, .selects RX1 yX1_rightSeal yX1_rightSeal, .code yX1_rightSeal cX1_rightSeal 2 (some .int), .methodLink RX1 143 yX1_sealFor, .instanceMethod yX1_sealFor, .selects RX1 yX1_sealFor yX1_sealFor, .code yX1_sealFor cX1_sealFor 6 (some .int), .fieldLink RX1 9 "RopeSeals$House" "settings" "[I", .fieldLink RX1 21 "RopeSeals$House" "vouched" "[I", .fieldLink RX1 24 "RopeSeals$House" "seals" "[I"] ++ wsX30 ++ wsX10)
def wsX4_init : List Cond := .code yX4_init cX4_init 1 none :: ([.methodLink RX4 1 objectInit, .instanceMethod objectInit, .code objectInit ⟨#[0xb1]⟩ 1 none, .arrayClass .int, .fieldLink RX4 7 "RopeSealsModel" "s" "[I", .fieldLink RX4 13 "RopeSealsModel" "aside" "[I", .fieldLink RX4 16 "RopeSealsModel" "states" "[I", .fieldLink RX4 19 "RopeSealsModel" "snapshot" "[I", .fieldLink RX4 22 "RopeSealsModel" "text" "[I", .fieldLink RX4 25 "RopeSealsModel" "read" "[I", .fieldLink RX4 28 "RopeSealsModel" "thrown" "I"] ++ wsX40)
def wsX4_in : List Cond := .code yX4_in cX4_in 3 (some .boolean) :: ([])
def wsX4_isCart : List Cond := .code yX4_isCart cX4_isCart 2 (some .boolean) :: ([.fieldLink RX4 7 "RopeSealsModel" "s" "[I", .methodLink RX4 32 yX4_in, .static yX4_in, .initialized RX4, .code yX4_in cX4_in 3 (some .boolean)] ++ wsX40)
def wsX4_of : List Cond := .code yX4_of cX4_of 3 (some .int) :: ([.fieldLink RX4 7 "RopeSealsModel" "s" "[I"] ++ wsX40)
def wsX4_lay : List Cond := .code yX4_lay cX4_lay 4 none :: ([.fieldLink RX4 7 "RopeSealsModel" "s" "[I"] ++ wsX40)
def wsX4_records : List Cond := .code yX4_records cX4_records 2 none :: ([.fieldLink RX4 36 "RopeSealsModel" "stateMany" "I", .fieldLink RX4 16 "RopeSealsModel" "states" "[I", .fieldLink RX4 7 "RopeSealsModel" "s" "[I"] ++ wsX40)
def wsX4_putAside : List Cond := .code yX4_putAside cX4_putAside 2 none :: ([.fieldLink RX4 13 "RopeSealsModel" "aside" "[I", .fieldLink RX4 7 "RopeSealsModel" "s" "[I"] ++ wsX40)
def wsX4_takeBack : List Cond := .code yX4_takeBack cX4_takeBack 2 none :: ([.fieldLink RX4 7 "RopeSealsModel" "s" "[I", .fieldLink RX4 13 "RopeSealsModel" "aside" "[I"] ++ wsX40)
def wsX4_sealBy : List Cond := .code yX4_sealBy cX4_sealBy 4 (some .int) :: ([.fieldLink RX4 7 "RopeSealsModel" "s" "[I", .methodLink RX4 39 yX4_of, .instanceMethod yX4_of, .selects RX4 yX4_of yX4_of, .initialized RX4, .code yX4_of cX4_of 3 (some .int)] ++ wsX40)
def wsX4_rightSeal : List Cond := .code yX4_rightSeal cX4_rightSeal 2 (some .int) :: ([.methodLink RX4 39 yX4_of, .instanceMethod yX4_of, .selects RX4 yX4_of yX4_of, .initialized RX4, .code yX4_of cX4_of 3 (some .int), .fieldLink RX4 7 "RopeSealsModel" "s" "[I", .methodLink RX4 43 yX4_sealBy, .instanceMethod yX4_sealBy, .selects RX4 yX4_sealBy yX4_sealBy, .code yX4_sealBy cX4_sealBy 4 (some .int)] ++ wsX40)
def wsX4_isWhole : List Cond := .code yX4_isWhole cX4_isWhole 2 (some .boolean) :: ([.methodLink RX4 39 yX4_of, .instanceMethod yX4_of, .selects RX4 yX4_of yX4_of, .initialized RX4, .code yX4_of cX4_of 3 (some .int), .fieldLink RX4 7 "RopeSealsModel" "s" "[I", .methodLink RX4 46 yX4_rightSeal, .instanceMethod yX4_rightSeal, .selects RX4 yX4_rightSeal yX4_rightSeal, .code yX4_rightSeal cX4_rightSeal 2 (some .int), .methodLink RX4 43 yX4_sealBy, .instanceMethod yX4_sealBy, .selects RX4 yX4_sealBy yX4_sealBy, .code yX4_sealBy cX4_sealBy 4 (some .int)] ++ wsX40)
def wsX4_depth : List Cond := .code yX4_depth cX4_depth 4 (some .int) :: ([.methodLink RX4 39 yX4_of, .instanceMethod yX4_of, .selects RX4 yX4_of yX4_of, .initialized RX4, .code yX4_of cX4_of 3 (some .int), .fieldLink RX4 7 "RopeSealsModel" "s" "[I"] ++ wsX40)
def wsX4_vouchers : List Cond := .code yX4_vouchers cX4_vouchers 4 (some .int) :: ([.fieldLink RX4 7 "RopeSealsModel" "s" "[I", .methodLink RX4 39 yX4_of, .instanceMethod yX4_of, .selects RX4 yX4_of yX4_of, .initialized RX4, .code yX4_of cX4_of 3 (some .int)] ++ wsX40)
def wsX4_isInChain : List Cond := .code yX4_isInChain cX4_isInChain 4 (some .boolean) :: ([.methodLink RX4 39 yX4_of, .instanceMethod yX4_of, .selects RX4 yX4_of yX4_of, .initialized RX4, .code yX4_of cX4_of 3 (some .int), .fieldLink RX4 7 "RopeSealsModel" "s" "[I"] ++ wsX40)
def wsX4_refusesCart : List Cond := .code yX4_refusesCart cX4_refusesCart 4 (some .int) :: ([.fieldLink RX4 7 "RopeSealsModel" "s" "[I", .methodLink RX4 50 yX4_isCart, .instanceMethod yX4_isCart, .selects RX4 yX4_isCart yX4_isCart, .initialized RX4, .code yX4_isCart cX4_isCart 2 (some .boolean), .methodLink RX4 32 yX4_in, .static yX4_in, .code yX4_in cX4_in 3 (some .boolean)] ++ wsX40)
def wsX4_comes : List Cond := .code yX4_comes cX4_comes 5 (some .int) :: ([.fieldLink RX4 7 "RopeSealsModel" "s" "[I", .methodLink RX4 54 yX4_lay, .instanceMethod yX4_lay, .selects RX4 yX4_lay yX4_lay, .initialized RX4, .code yX4_lay cX4_lay 4 none, .methodLink RX4 46 yX4_rightSeal, .instanceMethod yX4_rightSeal, .selects RX4 yX4_rightSeal yX4_rightSeal, .code yX4_rightSeal cX4_rightSeal 2 (some .int), .methodLink RX4 39 yX4_of, .instanceMethod yX4_of, .selects RX4 yX4_of yX4_of, .code yX4_of cX4_of 3 (some .int), .methodLink RX4 43 yX4_sealBy, .instanceMethod yX4_sealBy, .selects RX4 yX4_sealBy yX4_sealBy, .code yX4_sealBy cX4_sealBy 4 (some .int)] ++ wsX40)
def wsX4_come_r1 : List Cond := [Cond.fieldLink RX4 28 "RopeSealsModel" "thrown" "I", Cond.methodLink RX4 58 yX4_refusesCart, Cond.instanceMethod yX4_refusesCart, Cond.selects RX4 yX4_refusesCart yX4_refusesCart, Cond.initialized RX4, Cond.code yX4_refusesCart cX4_refusesCart 4 (some .int), Cond.fieldLink RX4 7 "RopeSealsModel" "s" "[I", Cond.methodLink RX4 50 yX4_isCart, Cond.instanceMethod yX4_isCart, Cond.selects RX4 yX4_isCart yX4_isCart, Cond.code yX4_isCart cX4_isCart 2 (some .boolean), Cond.methodLink RX4 32 yX4_in, Cond.static yX4_in, Cond.code yX4_in cX4_in 3 (some .boolean), Cond.methodLink RX4 62 yX4_records, Cond.instanceMethod yX4_records, Cond.selects RX4 yX4_records yX4_records, Cond.code yX4_records cX4_records 2 none, Cond.fieldLink RX4 36 "RopeSealsModel" "stateMany" "I", Cond.fieldLink RX4 16 "RopeSealsModel" "states" "[I", Cond.methodLink RX4 65 yX4_comes, Cond.instanceMethod yX4_comes, Cond.selects RX4 yX4_comes yX4_comes, Cond.code yX4_comes cX4_comes 5 (some .int)]
def wsX4_come_r2 : List Cond := [Cond.methodLink RX4 54 yX4_lay, Cond.instanceMethod yX4_lay, Cond.selects RX4 yX4_lay yX4_lay, Cond.code yX4_lay cX4_lay 4 none, Cond.methodLink RX4 46 yX4_rightSeal, Cond.instanceMethod yX4_rightSeal, Cond.selects RX4 yX4_rightSeal yX4_rightSeal, Cond.code yX4_rightSeal cX4_rightSeal 2 (some .int), Cond.methodLink RX4 39 yX4_of, Cond.instanceMethod yX4_of, Cond.selects RX4 yX4_of yX4_of, Cond.code yX4_of cX4_of 3 (some .int), Cond.methodLink RX4 43 yX4_sealBy, Cond.instanceMethod yX4_sealBy, Cond.selects RX4 yX4_sealBy yX4_sealBy, Cond.code yX4_sealBy cX4_sealBy 4 (some .int)]
def wsX4_come : List Cond := .code yX4_come cX4_come 5 (some .int) :: ((wsX4_come_r1 ++ wsX4_come_r2) ++ wsX40)
def wsX4_refusesAltering : List Cond := .code yX4_refusesAltering cX4_refusesAltering 3 (some .int) :: ([.methodLink RX4 50 yX4_isCart, .instanceMethod yX4_isCart, .selects RX4 yX4_isCart yX4_isCart, .initialized RX4, .code yX4_isCart cX4_isCart 2 (some .boolean), .fieldLink RX4 7 "RopeSealsModel" "s" "[I", .methodLink RX4 32 yX4_in, .static yX4_in, .code yX4_in cX4_in 3 (some .boolean), .methodLink RX4 39 yX4_of, .instanceMethod yX4_of, .selects RX4 yX4_of yX4_of, .code yX4_of cX4_of 3 (some .int)] ++ wsX40)
def wsX4_alter_r1 : List Cond := [Cond.fieldLink RX4 28 "RopeSealsModel" "thrown" "I", Cond.methodLink RX4 68 yX4_refusesAltering, Cond.instanceMethod yX4_refusesAltering, Cond.selects RX4 yX4_refusesAltering yX4_refusesAltering, Cond.initialized RX4, Cond.code yX4_refusesAltering cX4_refusesAltering 3 (some .int), Cond.methodLink RX4 50 yX4_isCart, Cond.instanceMethod yX4_isCart, Cond.selects RX4 yX4_isCart yX4_isCart, Cond.code yX4_isCart cX4_isCart 2 (some .boolean), Cond.fieldLink RX4 7 "RopeSealsModel" "s" "[I", Cond.methodLink RX4 32 yX4_in, Cond.static yX4_in, Cond.code yX4_in cX4_in 3 (some .boolean), Cond.methodLink RX4 39 yX4_of, Cond.instanceMethod yX4_of, Cond.selects RX4 yX4_of yX4_of, Cond.code yX4_of cX4_of 3 (some .int), Cond.methodLink RX4 62 yX4_records, Cond.instanceMethod yX4_records, Cond.selects RX4 yX4_records yX4_records, Cond.code yX4_records cX4_records 2 none, Cond.fieldLink RX4 36 "RopeSealsModel" "stateMany" "I", Cond.fieldLink RX4 16 "RopeSealsModel" "states" "[I"]
def wsX4_alter_r2 : List Cond := [Cond.methodLink RX4 54 yX4_lay, Cond.instanceMethod yX4_lay, Cond.selects RX4 yX4_lay yX4_lay, Cond.code yX4_lay cX4_lay 4 none]
def wsX4_alter : List Cond := .code yX4_alter cX4_alter 5 (some .int) :: ((wsX4_alter_r1 ++ wsX4_alter_r2) ++ wsX40)
def wsX4_refusesSeal_r1 : List Cond := [Cond.methodLink RX4 50 yX4_isCart, Cond.instanceMethod yX4_isCart, Cond.selects RX4 yX4_isCart yX4_isCart, Cond.initialized RX4, Cond.code yX4_isCart cX4_isCart 2 (some .boolean), Cond.fieldLink RX4 7 "RopeSealsModel" "s" "[I", Cond.methodLink RX4 32 yX4_in, Cond.static yX4_in, Cond.code yX4_in cX4_in 3 (some .boolean), Cond.methodLink RX4 71 yX4_isWhole, Cond.instanceMethod yX4_isWhole, Cond.selects RX4 yX4_isWhole yX4_isWhole, Cond.code yX4_isWhole cX4_isWhole 2 (some .boolean), Cond.methodLink RX4 39 yX4_of, Cond.instanceMethod yX4_of, Cond.selects RX4 yX4_of yX4_of, Cond.code yX4_of cX4_of 3 (some .int), Cond.methodLink RX4 46 yX4_rightSeal, Cond.instanceMethod yX4_rightSeal, Cond.selects RX4 yX4_rightSeal yX4_rightSeal, Cond.code yX4_rightSeal cX4_rightSeal 2 (some .int), Cond.methodLink RX4 43 yX4_sealBy, Cond.instanceMethod yX4_sealBy, Cond.selects RX4 yX4_sealBy yX4_sealBy]
def wsX4_refusesSeal_r2 : List Cond := [Cond.code yX4_sealBy cX4_sealBy 4 (some .int)]
def wsX4_refusesSeal : List Cond := .code yX4_refusesSeal cX4_refusesSeal 2 (some .int) :: ((wsX4_refusesSeal_r1 ++ wsX4_refusesSeal_r2) ++ wsX40)
def wsX4_reseal_r1 : List Cond := [Cond.fieldLink RX4 28 "RopeSealsModel" "thrown" "I", Cond.methodLink RX4 74 yX4_refusesSeal, Cond.instanceMethod yX4_refusesSeal, Cond.selects RX4 yX4_refusesSeal yX4_refusesSeal, Cond.initialized RX4, Cond.code yX4_refusesSeal cX4_refusesSeal 2 (some .int), Cond.methodLink RX4 50 yX4_isCart, Cond.instanceMethod yX4_isCart, Cond.selects RX4 yX4_isCart yX4_isCart, Cond.code yX4_isCart cX4_isCart 2 (some .boolean), Cond.fieldLink RX4 7 "RopeSealsModel" "s" "[I", Cond.methodLink RX4 32 yX4_in, Cond.static yX4_in, Cond.code yX4_in cX4_in 3 (some .boolean), Cond.methodLink RX4 71 yX4_isWhole, Cond.instanceMethod yX4_isWhole, Cond.selects RX4 yX4_isWhole yX4_isWhole, Cond.code yX4_isWhole cX4_isWhole 2 (some .boolean), Cond.methodLink RX4 39 yX4_of, Cond.instanceMethod yX4_of, Cond.selects RX4 yX4_of yX4_of, Cond.code yX4_of cX4_of 3 (some .int), Cond.methodLink RX4 46 yX4_rightSeal, Cond.instanceMethod yX4_rightSeal]
def wsX4_reseal_r2 : List Cond := [Cond.selects RX4 yX4_rightSeal yX4_rightSeal, Cond.code yX4_rightSeal cX4_rightSeal 2 (some .int), Cond.methodLink RX4 43 yX4_sealBy, Cond.instanceMethod yX4_sealBy, Cond.selects RX4 yX4_sealBy yX4_sealBy, Cond.code yX4_sealBy cX4_sealBy 4 (some .int), Cond.methodLink RX4 62 yX4_records, Cond.instanceMethod yX4_records, Cond.selects RX4 yX4_records yX4_records, Cond.code yX4_records cX4_records 2 none, Cond.fieldLink RX4 36 "RopeSealsModel" "stateMany" "I", Cond.fieldLink RX4 16 "RopeSealsModel" "states" "[I", Cond.methodLink RX4 54 yX4_lay, Cond.instanceMethod yX4_lay, Cond.selects RX4 yX4_lay yX4_lay, Cond.code yX4_lay cX4_lay 4 none]
def wsX4_reseal : List Cond := .code yX4_reseal cX4_reseal 4 (some .int) :: ((wsX4_reseal_r1 ++ wsX4_reseal_r2) ++ wsX40)
def wsX4_clears : List Cond := .code yX4_clears cX4_clears 5 (some .int) :: ([.methodLink RX4 39 yX4_of, .instanceMethod yX4_of, .selects RX4 yX4_of yX4_of, .initialized RX4, .code yX4_of cX4_of 3 (some .int), .fieldLink RX4 7 "RopeSealsModel" "s" "[I", .methodLink RX4 54 yX4_lay, .instanceMethod yX4_lay, .selects RX4 yX4_lay yX4_lay, .code yX4_lay cX4_lay 4 none, .methodLink RX4 71 yX4_isWhole, .instanceMethod yX4_isWhole, .selects RX4 yX4_isWhole yX4_isWhole, .code yX4_isWhole cX4_isWhole 2 (some .boolean), .methodLink RX4 46 yX4_rightSeal, .instanceMethod yX4_rightSeal, .selects RX4 yX4_rightSeal yX4_rightSeal, .code yX4_rightSeal cX4_rightSeal 2 (some .int), .methodLink RX4 43 yX4_sealBy, .instanceMethod yX4_sealBy, .selects RX4 yX4_sealBy yX4_sealBy, .code yX4_sealBy cX4_sealBy 4 (some .int)] ++ wsX40)
def wsX4_fines : List Cond := .code yX4_fines cX4_fines 3 none :: ([.methodLink RX4 39 yX4_of, .instanceMethod yX4_of, .selects RX4 yX4_of yX4_of, .initialized RX4, .code yX4_of cX4_of 3 (some .int), .fieldLink RX4 7 "RopeSealsModel" "s" "[I", .methodLink RX4 54 yX4_lay, .instanceMethod yX4_lay, .selects RX4 yX4_lay yX4_lay, .code yX4_lay cX4_lay 4 none] ++ wsX40)
def wsX4_fineOfLie : List Cond := .code yX4_fineOfLie cX4_fineOfLie 4 (some .int) :: ([.fieldLink RX4 7 "RopeSealsModel" "s" "[I", .methodLink RX4 39 yX4_of, .instanceMethod yX4_of, .selects RX4 yX4_of yX4_of, .initialized RX4, .code yX4_of cX4_of 3 (some .int)] ++ wsX40)
def wsX4_opens_r1 : List Cond := [Cond.fieldLink RX4 7 "RopeSealsModel" "s" "[I", Cond.methodLink RX4 54 yX4_lay, Cond.instanceMethod yX4_lay, Cond.selects RX4 yX4_lay yX4_lay, Cond.initialized RX4, Cond.code yX4_lay cX4_lay 4 none, Cond.methodLink RX4 71 yX4_isWhole, Cond.instanceMethod yX4_isWhole, Cond.selects RX4 yX4_isWhole yX4_isWhole, Cond.code yX4_isWhole cX4_isWhole 2 (some .boolean), Cond.methodLink RX4 39 yX4_of, Cond.instanceMethod yX4_of, Cond.selects RX4 yX4_of yX4_of, Cond.code yX4_of cX4_of 3 (some .int), Cond.methodLink RX4 46 yX4_rightSeal, Cond.instanceMethod yX4_rightSeal, Cond.selects RX4 yX4_rightSeal yX4_rightSeal, Cond.code yX4_rightSeal cX4_rightSeal 2 (some .int), Cond.methodLink RX4 43 yX4_sealBy, Cond.instanceMethod yX4_sealBy, Cond.selects RX4 yX4_sealBy yX4_sealBy, Cond.code yX4_sealBy cX4_sealBy 4 (some .int), Cond.methodLink RX4 77 yX4_fines, Cond.instanceMethod yX4_fines]
def wsX4_opens_r2 : List Cond := [Cond.selects RX4 yX4_fines yX4_fines, Cond.code yX4_fines cX4_fines 3 none, Cond.methodLink RX4 81 yX4_clears, Cond.instanceMethod yX4_clears, Cond.selects RX4 yX4_clears yX4_clears, Cond.code yX4_clears cX4_clears 5 (some .int), Cond.methodLink RX4 84 yX4_fineOfLie, Cond.instanceMethod yX4_fineOfLie, Cond.selects RX4 yX4_fineOfLie yX4_fineOfLie, Cond.code yX4_fineOfLie cX4_fineOfLie 4 (some .int)]
def wsX4_opens : List Cond := .code yX4_opens cX4_opens 3 (some .int) :: ((wsX4_opens_r1 ++ wsX4_opens_r2) ++ wsX40)
def wsX4_refusesOpening : List Cond := .code yX4_refusesOpening cX4_refusesOpening 2 (some .int) :: ([.methodLink RX4 50 yX4_isCart, .instanceMethod yX4_isCart, .selects RX4 yX4_isCart yX4_isCart, .initialized RX4, .code yX4_isCart cX4_isCart 2 (some .boolean), .fieldLink RX4 7 "RopeSealsModel" "s" "[I", .methodLink RX4 32 yX4_in, .static yX4_in, .code yX4_in cX4_in 3 (some .boolean), .methodLink RX4 39 yX4_of, .instanceMethod yX4_of, .selects RX4 yX4_of yX4_of, .code yX4_of cX4_of 3 (some .int)] ++ wsX40)
def wsX4_open_r1 : List Cond := [Cond.fieldLink RX4 28 "RopeSealsModel" "thrown" "I", Cond.methodLink RX4 87 yX4_refusesOpening, Cond.instanceMethod yX4_refusesOpening, Cond.selects RX4 yX4_refusesOpening yX4_refusesOpening, Cond.initialized RX4, Cond.code yX4_refusesOpening cX4_refusesOpening 2 (some .int), Cond.methodLink RX4 50 yX4_isCart, Cond.instanceMethod yX4_isCart, Cond.selects RX4 yX4_isCart yX4_isCart, Cond.code yX4_isCart cX4_isCart 2 (some .boolean), Cond.fieldLink RX4 7 "RopeSealsModel" "s" "[I", Cond.methodLink RX4 32 yX4_in, Cond.static yX4_in, Cond.code yX4_in cX4_in 3 (some .boolean), Cond.methodLink RX4 39 yX4_of, Cond.instanceMethod yX4_of, Cond.selects RX4 yX4_of yX4_of, Cond.code yX4_of cX4_of 3 (some .int), Cond.methodLink RX4 62 yX4_records, Cond.instanceMethod yX4_records, Cond.selects RX4 yX4_records yX4_records, Cond.code yX4_records cX4_records 2 none, Cond.fieldLink RX4 36 "RopeSealsModel" "stateMany" "I", Cond.fieldLink RX4 16 "RopeSealsModel" "states" "[I"]
def wsX4_open_r2 : List Cond := [Cond.methodLink RX4 90 yX4_opens, Cond.instanceMethod yX4_opens, Cond.selects RX4 yX4_opens yX4_opens, Cond.code yX4_opens cX4_opens 3 (some .int), Cond.methodLink RX4 54 yX4_lay, Cond.instanceMethod yX4_lay, Cond.selects RX4 yX4_lay yX4_lay, Cond.code yX4_lay cX4_lay 4 none, Cond.methodLink RX4 71 yX4_isWhole, Cond.instanceMethod yX4_isWhole, Cond.selects RX4 yX4_isWhole yX4_isWhole, Cond.code yX4_isWhole cX4_isWhole 2 (some .boolean), Cond.methodLink RX4 46 yX4_rightSeal, Cond.instanceMethod yX4_rightSeal, Cond.selects RX4 yX4_rightSeal yX4_rightSeal, Cond.code yX4_rightSeal cX4_rightSeal 2 (some .int), Cond.methodLink RX4 43 yX4_sealBy, Cond.instanceMethod yX4_sealBy, Cond.selects RX4 yX4_sealBy yX4_sealBy, Cond.code yX4_sealBy cX4_sealBy 4 (some .int), Cond.methodLink RX4 77 yX4_fines, Cond.instanceMethod yX4_fines, Cond.selects RX4 yX4_fines yX4_fines, Cond.code yX4_fines cX4_fines 3 none]
def wsX4_open_r3 : List Cond := [Cond.methodLink RX4 81 yX4_clears, Cond.instanceMethod yX4_clears, Cond.selects RX4 yX4_clears yX4_clears, Cond.code yX4_clears cX4_clears 5 (some .int), Cond.methodLink RX4 84 yX4_fineOfLie, Cond.instanceMethod yX4_fineOfLie, Cond.selects RX4 yX4_fineOfLie yX4_fineOfLie, Cond.code yX4_fineOfLie cX4_fineOfLie 4 (some .int)]
def wsX4_open : List Cond := .code yX4_open cX4_open 3 (some .int) :: ((wsX4_open_r1 ++ (wsX4_open_r2 ++ wsX4_open_r3)) ++ wsX40)
def wsX4_isLeft : List Cond := .code yX4_isLeft cX4_isLeft 2 (some .boolean) :: ([.methodLink RX4 39 yX4_of, .instanceMethod yX4_of, .selects RX4 yX4_of yX4_of, .initialized RX4, .code yX4_of cX4_of 3 (some .int), .fieldLink RX4 7 "RopeSealsModel" "s" "[I"] ++ wsX40)
def wsX4_lastLeft : List Cond := .code yX4_lastLeft cX4_lastLeft 3 (some .int) :: ([.fieldLink RX4 7 "RopeSealsModel" "s" "[I", .methodLink RX4 93 yX4_isLeft, .instanceMethod yX4_isLeft, .selects RX4 yX4_isLeft yX4_isLeft, .initialized RX4, .code yX4_isLeft cX4_isLeft 2 (some .boolean), .methodLink RX4 39 yX4_of, .instanceMethod yX4_of, .selects RX4 yX4_of yX4_of, .code yX4_of cX4_of 3 (some .int)] ++ wsX40)
def wsX4_openAll_r1 : List Cond := [Cond.fieldLink RX4 28 "RopeSealsModel" "thrown" "I", Cond.methodLink RX4 96 yX4_lastLeft, Cond.instanceMethod yX4_lastLeft, Cond.selects RX4 yX4_lastLeft yX4_lastLeft, Cond.initialized RX4, Cond.code yX4_lastLeft cX4_lastLeft 3 (some .int), Cond.fieldLink RX4 7 "RopeSealsModel" "s" "[I", Cond.methodLink RX4 93 yX4_isLeft, Cond.instanceMethod yX4_isLeft, Cond.selects RX4 yX4_isLeft yX4_isLeft, Cond.code yX4_isLeft cX4_isLeft 2 (some .boolean), Cond.methodLink RX4 39 yX4_of, Cond.instanceMethod yX4_of, Cond.selects RX4 yX4_of yX4_of, Cond.code yX4_of cX4_of 3 (some .int), Cond.methodLink RX4 62 yX4_records, Cond.instanceMethod yX4_records, Cond.selects RX4 yX4_records yX4_records, Cond.code yX4_records cX4_records 2 none, Cond.fieldLink RX4 36 "RopeSealsModel" "stateMany" "I", Cond.fieldLink RX4 16 "RopeSealsModel" "states" "[I", Cond.methodLink RX4 90 yX4_opens, Cond.instanceMethod yX4_opens, Cond.selects RX4 yX4_opens yX4_opens]
def wsX4_openAll_r2 : List Cond := [Cond.code yX4_opens cX4_opens 3 (some .int), Cond.methodLink RX4 54 yX4_lay, Cond.instanceMethod yX4_lay, Cond.selects RX4 yX4_lay yX4_lay, Cond.code yX4_lay cX4_lay 4 none, Cond.methodLink RX4 71 yX4_isWhole, Cond.instanceMethod yX4_isWhole, Cond.selects RX4 yX4_isWhole yX4_isWhole, Cond.code yX4_isWhole cX4_isWhole 2 (some .boolean), Cond.methodLink RX4 46 yX4_rightSeal, Cond.instanceMethod yX4_rightSeal, Cond.selects RX4 yX4_rightSeal yX4_rightSeal, Cond.code yX4_rightSeal cX4_rightSeal 2 (some .int), Cond.methodLink RX4 43 yX4_sealBy, Cond.instanceMethod yX4_sealBy, Cond.selects RX4 yX4_sealBy yX4_sealBy, Cond.code yX4_sealBy cX4_sealBy 4 (some .int), Cond.methodLink RX4 77 yX4_fines, Cond.instanceMethod yX4_fines, Cond.selects RX4 yX4_fines yX4_fines, Cond.code yX4_fines cX4_fines 3 none, Cond.methodLink RX4 81 yX4_clears, Cond.instanceMethod yX4_clears, Cond.selects RX4 yX4_clears yX4_clears]
def wsX4_openAll_r3 : List Cond := [Cond.code yX4_clears cX4_clears 5 (some .int), Cond.methodLink RX4 84 yX4_fineOfLie, Cond.instanceMethod yX4_fineOfLie, Cond.selects RX4 yX4_fineOfLie yX4_fineOfLie, Cond.code yX4_fineOfLie cX4_fineOfLie 4 (some .int)]
def wsX4_openAll : List Cond := .code yX4_openAll cX4_openAll 2 (some .int) :: ((wsX4_openAll_r1 ++ (wsX4_openAll_r2 ++ wsX4_openAll_r3)) ++ wsX40)
def wsX4_leastOf : List Cond := .code yX4_leastOf cX4_leastOf 1 (some .int) :: ([])
def wsX4_set : List Cond := .code yX4_set cX4_set 4 (some .int) :: ([.fieldLink RX4 28 "RopeSealsModel" "thrown" "I", .fieldLink RX4 7 "RopeSealsModel" "s" "[I", .methodLink RX4 32 yX4_in, .static yX4_in, .initialized RX4, .code yX4_in cX4_in 3 (some .boolean), .methodLink RX4 100 yX4_leastOf, .static yX4_leastOf, .code yX4_leastOf cX4_leastOf 1 (some .int), .methodLink RX4 62 yX4_records, .instanceMethod yX4_records, .selects RX4 yX4_records yX4_records, .code yX4_records cX4_records 2 none, .fieldLink RX4 36 "RopeSealsModel" "stateMany" "I", .fieldLink RX4 16 "RopeSealsModel" "states" "[I"] ++ wsX40)
def wsX4_type : List Cond := .code yX4_type cX4_type 2 (some .int) :: ([.fieldLink RX4 28 "RopeSealsModel" "thrown" "I", .fieldLink RX4 103 "RopeSealsModel" "length" "I", .fieldLink RX4 22 "RopeSealsModel" "text" "[I"] ++ wsX40)
def wsX4_clearText : List Cond := .code yX4_clearText cX4_clearText 2 (some .int) :: ([.fieldLink RX4 28 "RopeSealsModel" "thrown" "I", .fieldLink RX4 103 "RopeSealsModel" "length" "I"] ++ wsX40)
def wsX4_sign : List Cond := .code yX4_sign cX4_sign 1 (some .int) :: ([.fieldLink RX4 106 "RopeSealsModel" "at" "I", .fieldLink RX4 103 "RopeSealsModel" "length" "I", .fieldLink RX4 22 "RopeSealsModel" "text" "[I"] ++ wsX40)
def wsX4_wants : List Cond := .code yX4_wants cX4_wants 2 none :: ([.fieldLink RX4 109 "RopeSealsModel" "isWell" "Z", .fieldLink RX4 106 "RopeSealsModel" "at" "I", .methodLink RX4 113 yX4_sign, .instanceMethod yX4_sign, .selects RX4 yX4_sign yX4_sign, .initialized RX4, .code yX4_sign cX4_sign 1 (some .int), .fieldLink RX4 103 "RopeSealsModel" "length" "I", .fieldLink RX4 22 "RopeSealsModel" "text" "[I"] ++ wsX40)
def wsX4_number : List Cond := .code yX4_number cX4_number 3 (some .int) :: ([.fieldLink RX4 109 "RopeSealsModel" "isWell" "Z", .fieldLink RX4 106 "RopeSealsModel" "at" "I", .methodLink RX4 113 yX4_sign, .instanceMethod yX4_sign, .selects RX4 yX4_sign yX4_sign, .initialized RX4, .code yX4_sign cX4_sign 1 (some .int), .fieldLink RX4 103 "RopeSealsModel" "length" "I", .fieldLink RX4 22 "RopeSealsModel" "text" "[I", .methodLink RX4 32 yX4_in, .static yX4_in, .code yX4_in cX4_in 3 (some .boolean)] ++ wsX40)
def wsX4_readsCart : List Cond := .code yX4_readsCart cX4_readsCart 2 none :: ([.fieldLink RX4 25 "RopeSealsModel" "read" "[I", .fieldLink RX4 109 "RopeSealsModel" "isWell" "Z", .fieldLink RX4 106 "RopeSealsModel" "at" "I", .methodLink RX4 116 yX4_number, .instanceMethod yX4_number, .selects RX4 yX4_number yX4_number, .initialized RX4, .code yX4_number cX4_number 3 (some .int), .methodLink RX4 113 yX4_sign, .instanceMethod yX4_sign, .selects RX4 yX4_sign yX4_sign, .code yX4_sign cX4_sign 1 (some .int), .fieldLink RX4 103 "RopeSealsModel" "length" "I", .fieldLink RX4 22 "RopeSealsModel" "text" "[I", .methodLink RX4 32 yX4_in, .static yX4_in, .code yX4_in cX4_in 3 (some .boolean), .methodLink RX4 119 yX4_wants, .instanceMethod yX4_wants, .selects RX4 yX4_wants yX4_wants, .code yX4_wants cX4_wants 2 none] ++ wsX40)
def wsX4_readsOrder_r1 : List Cond := [Cond.fieldLink RX4 123 "RopeSealsModel" "readMany" "I", Cond.fieldLink RX4 109 "RopeSealsModel" "isWell" "Z", Cond.fieldLink RX4 106 "RopeSealsModel" "at" "I", Cond.fieldLink RX4 25 "RopeSealsModel" "read" "[I", Cond.methodLink RX4 113 yX4_sign, Cond.instanceMethod yX4_sign, Cond.selects RX4 yX4_sign yX4_sign, Cond.initialized RX4, Cond.code yX4_sign cX4_sign 1 (some .int), Cond.fieldLink RX4 103 "RopeSealsModel" "length" "I", Cond.fieldLink RX4 22 "RopeSealsModel" "text" "[I", Cond.methodLink RX4 126 yX4_readsCart, Cond.instanceMethod yX4_readsCart, Cond.selects RX4 yX4_readsCart yX4_readsCart, Cond.code yX4_readsCart cX4_readsCart 2 none, Cond.methodLink RX4 116 yX4_number, Cond.instanceMethod yX4_number, Cond.selects RX4 yX4_number yX4_number, Cond.code yX4_number cX4_number 3 (some .int), Cond.methodLink RX4 32 yX4_in, Cond.static yX4_in, Cond.code yX4_in cX4_in 3 (some .boolean), Cond.methodLink RX4 119 yX4_wants, Cond.instanceMethod yX4_wants]
def wsX4_readsOrder_r2 : List Cond := [Cond.selects RX4 yX4_wants yX4_wants, Cond.code yX4_wants cX4_wants 2 none]
def wsX4_readsOrder : List Cond := .code yX4_readsOrder cX4_readsOrder 3 none :: ((wsX4_readsOrder_r1 ++ wsX4_readsOrder_r2) ++ wsX40)
def wsX4_reads_r1 : List Cond := [Cond.fieldLink RX4 106 "RopeSealsModel" "at" "I", Cond.fieldLink RX4 123 "RopeSealsModel" "readMany" "I", Cond.fieldLink RX4 109 "RopeSealsModel" "isWell" "Z", Cond.fieldLink RX4 103 "RopeSealsModel" "length" "I", Cond.methodLink RX4 129 yX4_readsOrder, Cond.instanceMethod yX4_readsOrder, Cond.selects RX4 yX4_readsOrder yX4_readsOrder, Cond.initialized RX4, Cond.code yX4_readsOrder cX4_readsOrder 3 none, Cond.fieldLink RX4 25 "RopeSealsModel" "read" "[I", Cond.methodLink RX4 113 yX4_sign, Cond.instanceMethod yX4_sign, Cond.selects RX4 yX4_sign yX4_sign, Cond.code yX4_sign cX4_sign 1 (some .int), Cond.fieldLink RX4 22 "RopeSealsModel" "text" "[I", Cond.methodLink RX4 126 yX4_readsCart, Cond.instanceMethod yX4_readsCart, Cond.selects RX4 yX4_readsCart yX4_readsCart, Cond.code yX4_readsCart cX4_readsCart 2 none, Cond.methodLink RX4 116 yX4_number, Cond.instanceMethod yX4_number, Cond.selects RX4 yX4_number yX4_number, Cond.code yX4_number cX4_number 3 (some .int), Cond.methodLink RX4 32 yX4_in]
def wsX4_reads_r2 : List Cond := [Cond.static yX4_in, Cond.code yX4_in cX4_in 3 (some .boolean), Cond.methodLink RX4 119 yX4_wants, Cond.instanceMethod yX4_wants, Cond.selects RX4 yX4_wants yX4_wants, Cond.code yX4_wants cX4_wants 2 none]
def wsX4_reads : List Cond := .code yX4_reads cX4_reads 1 (some .int) :: ((wsX4_reads_r1 ++ wsX4_reads_r2) ++ wsX40)
def wsX4_refuses_r1 : List Cond := [Cond.fieldLink RX4 25 "RopeSealsModel" "read" "[I", Cond.methodLink RX4 58 yX4_refusesCart, Cond.instanceMethod yX4_refusesCart, Cond.selects RX4 yX4_refusesCart yX4_refusesCart, Cond.initialized RX4, Cond.code yX4_refusesCart cX4_refusesCart 4 (some .int), Cond.fieldLink RX4 7 "RopeSealsModel" "s" "[I", Cond.methodLink RX4 50 yX4_isCart, Cond.instanceMethod yX4_isCart, Cond.selects RX4 yX4_isCart yX4_isCart, Cond.code yX4_isCart cX4_isCart 2 (some .boolean), Cond.methodLink RX4 32 yX4_in, Cond.static yX4_in, Cond.code yX4_in cX4_in 3 (some .boolean), Cond.methodLink RX4 87 yX4_refusesOpening, Cond.instanceMethod yX4_refusesOpening, Cond.selects RX4 yX4_refusesOpening yX4_refusesOpening, Cond.code yX4_refusesOpening cX4_refusesOpening 2 (some .int), Cond.methodLink RX4 39 yX4_of, Cond.instanceMethod yX4_of, Cond.selects RX4 yX4_of yX4_of, Cond.code yX4_of cX4_of 3 (some .int), Cond.methodLink RX4 68 yX4_refusesAltering, Cond.instanceMethod yX4_refusesAltering]
def wsX4_refuses_r2 : List Cond := [Cond.selects RX4 yX4_refusesAltering yX4_refusesAltering, Cond.code yX4_refusesAltering cX4_refusesAltering 3 (some .int), Cond.methodLink RX4 74 yX4_refusesSeal, Cond.instanceMethod yX4_refusesSeal, Cond.selects RX4 yX4_refusesSeal yX4_refusesSeal, Cond.code yX4_refusesSeal cX4_refusesSeal 2 (some .int), Cond.methodLink RX4 71 yX4_isWhole, Cond.instanceMethod yX4_isWhole, Cond.selects RX4 yX4_isWhole yX4_isWhole, Cond.code yX4_isWhole cX4_isWhole 2 (some .boolean), Cond.methodLink RX4 46 yX4_rightSeal, Cond.instanceMethod yX4_rightSeal, Cond.selects RX4 yX4_rightSeal yX4_rightSeal, Cond.code yX4_rightSeal cX4_rightSeal 2 (some .int), Cond.methodLink RX4 43 yX4_sealBy, Cond.instanceMethod yX4_sealBy, Cond.selects RX4 yX4_sealBy yX4_sealBy, Cond.code yX4_sealBy cX4_sealBy 4 (some .int)]
def wsX4_refuses : List Cond := .code yX4_refuses cX4_refuses 2 (some .int) :: ((wsX4_refuses_r1 ++ wsX4_refuses_r2) ++ wsX40)
def wsX4_does_r1 : List Cond := [Cond.fieldLink RX4 25 "RopeSealsModel" "read" "[I", Cond.methodLink RX4 65 yX4_comes, Cond.instanceMethod yX4_comes, Cond.selects RX4 yX4_comes yX4_comes, Cond.initialized RX4, Cond.code yX4_comes cX4_comes 5 (some .int), Cond.fieldLink RX4 7 "RopeSealsModel" "s" "[I", Cond.methodLink RX4 54 yX4_lay, Cond.instanceMethod yX4_lay, Cond.selects RX4 yX4_lay yX4_lay, Cond.code yX4_lay cX4_lay 4 none, Cond.methodLink RX4 46 yX4_rightSeal, Cond.instanceMethod yX4_rightSeal, Cond.selects RX4 yX4_rightSeal yX4_rightSeal, Cond.code yX4_rightSeal cX4_rightSeal 2 (some .int), Cond.methodLink RX4 39 yX4_of, Cond.instanceMethod yX4_of, Cond.selects RX4 yX4_of yX4_of, Cond.code yX4_of cX4_of 3 (some .int), Cond.methodLink RX4 43 yX4_sealBy, Cond.instanceMethod yX4_sealBy, Cond.selects RX4 yX4_sealBy yX4_sealBy, Cond.code yX4_sealBy cX4_sealBy 4 (some .int), Cond.methodLink RX4 90 yX4_opens]
def wsX4_does_r2 : List Cond := [Cond.instanceMethod yX4_opens, Cond.selects RX4 yX4_opens yX4_opens, Cond.code yX4_opens cX4_opens 3 (some .int), Cond.methodLink RX4 71 yX4_isWhole, Cond.instanceMethod yX4_isWhole, Cond.selects RX4 yX4_isWhole yX4_isWhole, Cond.code yX4_isWhole cX4_isWhole 2 (some .boolean), Cond.methodLink RX4 77 yX4_fines, Cond.instanceMethod yX4_fines, Cond.selects RX4 yX4_fines yX4_fines, Cond.code yX4_fines cX4_fines 3 none, Cond.methodLink RX4 81 yX4_clears, Cond.instanceMethod yX4_clears, Cond.selects RX4 yX4_clears yX4_clears, Cond.code yX4_clears cX4_clears 5 (some .int), Cond.methodLink RX4 84 yX4_fineOfLie, Cond.instanceMethod yX4_fineOfLie, Cond.selects RX4 yX4_fineOfLie yX4_fineOfLie, Cond.code yX4_fineOfLie cX4_fineOfLie 4 (some .int)]
def wsX4_does : List Cond := .code yX4_does cX4_does 2 none :: ((wsX4_does_r1 ++ wsX4_does_r2) ++ wsX40)
def wsX4_perform_r1 : List Cond := [Cond.fieldLink RX4 28 "RopeSealsModel" "thrown" "I", Cond.fieldLink RX4 123 "RopeSealsModel" "readMany" "I", Cond.fieldLink RX4 16 "RopeSealsModel" "states" "[I", Cond.fieldLink RX4 36 "RopeSealsModel" "stateMany" "I", Cond.fieldLink RX4 13 "RopeSealsModel" "aside" "[I", Cond.methodLink RX4 132 yX4_reads, Cond.instanceMethod yX4_reads, Cond.selects RX4 yX4_reads yX4_reads, Cond.initialized RX4, Cond.code yX4_reads cX4_reads 1 (some .int), Cond.fieldLink RX4 106 "RopeSealsModel" "at" "I", Cond.fieldLink RX4 109 "RopeSealsModel" "isWell" "Z", Cond.fieldLink RX4 103 "RopeSealsModel" "length" "I", Cond.methodLink RX4 129 yX4_readsOrder, Cond.instanceMethod yX4_readsOrder, Cond.selects RX4 yX4_readsOrder yX4_readsOrder, Cond.code yX4_readsOrder cX4_readsOrder 3 none, Cond.fieldLink RX4 25 "RopeSealsModel" "read" "[I", Cond.methodLink RX4 113 yX4_sign, Cond.instanceMethod yX4_sign, Cond.selects RX4 yX4_sign yX4_sign, Cond.code yX4_sign cX4_sign 1 (some .int), Cond.fieldLink RX4 22 "RopeSealsModel" "text" "[I", Cond.methodLink RX4 126 yX4_readsCart]
def wsX4_perform_r2 : List Cond := [Cond.instanceMethod yX4_readsCart, Cond.selects RX4 yX4_readsCart yX4_readsCart, Cond.code yX4_readsCart cX4_readsCart 2 none, Cond.methodLink RX4 116 yX4_number, Cond.instanceMethod yX4_number, Cond.selects RX4 yX4_number yX4_number, Cond.code yX4_number cX4_number 3 (some .int), Cond.methodLink RX4 32 yX4_in, Cond.static yX4_in, Cond.code yX4_in cX4_in 3 (some .boolean), Cond.methodLink RX4 119 yX4_wants, Cond.instanceMethod yX4_wants, Cond.selects RX4 yX4_wants yX4_wants, Cond.code yX4_wants cX4_wants 2 none, Cond.methodLink RX4 135 yX4_putAside, Cond.instanceMethod yX4_putAside, Cond.selects RX4 yX4_putAside yX4_putAside, Cond.code yX4_putAside cX4_putAside 2 none, Cond.fieldLink RX4 7 "RopeSealsModel" "s" "[I", Cond.methodLink RX4 138 yX4_refuses, Cond.instanceMethod yX4_refuses, Cond.selects RX4 yX4_refuses yX4_refuses, Cond.code yX4_refuses cX4_refuses 2 (some .int), Cond.methodLink RX4 58 yX4_refusesCart]
def wsX4_perform_r3 : List Cond := [Cond.instanceMethod yX4_refusesCart, Cond.selects RX4 yX4_refusesCart yX4_refusesCart, Cond.code yX4_refusesCart cX4_refusesCart 4 (some .int), Cond.methodLink RX4 50 yX4_isCart, Cond.instanceMethod yX4_isCart, Cond.selects RX4 yX4_isCart yX4_isCart, Cond.code yX4_isCart cX4_isCart 2 (some .boolean), Cond.methodLink RX4 87 yX4_refusesOpening, Cond.instanceMethod yX4_refusesOpening, Cond.selects RX4 yX4_refusesOpening yX4_refusesOpening, Cond.code yX4_refusesOpening cX4_refusesOpening 2 (some .int), Cond.methodLink RX4 39 yX4_of, Cond.instanceMethod yX4_of, Cond.selects RX4 yX4_of yX4_of, Cond.code yX4_of cX4_of 3 (some .int), Cond.methodLink RX4 68 yX4_refusesAltering, Cond.instanceMethod yX4_refusesAltering, Cond.selects RX4 yX4_refusesAltering yX4_refusesAltering, Cond.code yX4_refusesAltering cX4_refusesAltering 3 (some .int), Cond.methodLink RX4 74 yX4_refusesSeal, Cond.instanceMethod yX4_refusesSeal, Cond.selects RX4 yX4_refusesSeal yX4_refusesSeal, Cond.code yX4_refusesSeal cX4_refusesSeal 2 (some .int), Cond.methodLink RX4 71 yX4_isWhole]
def wsX4_perform_r4 : List Cond := [Cond.instanceMethod yX4_isWhole, Cond.selects RX4 yX4_isWhole yX4_isWhole, Cond.code yX4_isWhole cX4_isWhole 2 (some .boolean), Cond.methodLink RX4 46 yX4_rightSeal, Cond.instanceMethod yX4_rightSeal, Cond.selects RX4 yX4_rightSeal yX4_rightSeal, Cond.code yX4_rightSeal cX4_rightSeal 2 (some .int), Cond.methodLink RX4 43 yX4_sealBy, Cond.instanceMethod yX4_sealBy, Cond.selects RX4 yX4_sealBy yX4_sealBy, Cond.code yX4_sealBy cX4_sealBy 4 (some .int), Cond.methodLink RX4 141 yX4_does, Cond.instanceMethod yX4_does, Cond.selects RX4 yX4_does yX4_does, Cond.code yX4_does cX4_does 2 none, Cond.methodLink RX4 65 yX4_comes, Cond.instanceMethod yX4_comes, Cond.selects RX4 yX4_comes yX4_comes, Cond.code yX4_comes cX4_comes 5 (some .int), Cond.methodLink RX4 54 yX4_lay, Cond.instanceMethod yX4_lay, Cond.selects RX4 yX4_lay yX4_lay, Cond.code yX4_lay cX4_lay 4 none, Cond.methodLink RX4 90 yX4_opens]
def wsX4_perform_r5 : List Cond := [Cond.instanceMethod yX4_opens, Cond.selects RX4 yX4_opens yX4_opens, Cond.code yX4_opens cX4_opens 3 (some .int), Cond.methodLink RX4 77 yX4_fines, Cond.instanceMethod yX4_fines, Cond.selects RX4 yX4_fines yX4_fines, Cond.code yX4_fines cX4_fines 3 none, Cond.methodLink RX4 81 yX4_clears, Cond.instanceMethod yX4_clears, Cond.selects RX4 yX4_clears yX4_clears, Cond.code yX4_clears cX4_clears 5 (some .int), Cond.methodLink RX4 84 yX4_fineOfLie, Cond.instanceMethod yX4_fineOfLie, Cond.selects RX4 yX4_fineOfLie yX4_fineOfLie, Cond.code yX4_fineOfLie cX4_fineOfLie 4 (some .int), Cond.methodLink RX4 144 yX4_takeBack, Cond.instanceMethod yX4_takeBack, Cond.selects RX4 yX4_takeBack yX4_takeBack, Cond.code yX4_takeBack cX4_takeBack 2 none, Cond.methodLink RX4 62 yX4_records, Cond.instanceMethod yX4_records, Cond.selects RX4 yX4_records yX4_records, Cond.code yX4_records cX4_records 2 none]
def wsX4_perform : List Cond := .code yX4_perform cX4_perform 5 (some .int) :: ((wsX4_perform_r1 ++ (wsX4_perform_r2 ++ (wsX4_perform_r3 ++ (wsX4_perform_r4 ++ wsX4_perform_r5)))) ++ wsX40)
def wsX4_undo : List Cond := .code yX4_undo cX4_undo 2 (some .int) :: ([.fieldLink RX4 28 "RopeSealsModel" "thrown" "I", .fieldLink RX4 36 "RopeSealsModel" "stateMany" "I", .fieldLink RX4 7 "RopeSealsModel" "s" "[I", .fieldLink RX4 16 "RopeSealsModel" "states" "[I"] ++ wsX40)
def wsX4_keep : List Cond := .code yX4_keep cX4_keep 2 (some .int) :: ([.fieldLink RX4 28 "RopeSealsModel" "thrown" "I", .fieldLink RX4 19 "RopeSealsModel" "snapshot" "[I", .fieldLink RX4 7 "RopeSealsModel" "s" "[I", .fieldLink RX4 147 "RopeSealsModel" "hasSnapshot" "Z"] ++ wsX40)
def wsX4_restore : List Cond := .code yX4_restore cX4_restore 2 (some .int) :: ([.fieldLink RX4 28 "RopeSealsModel" "thrown" "I", .fieldLink RX4 147 "RopeSealsModel" "hasSnapshot" "Z", .fieldLink RX4 7 "RopeSealsModel" "s" "[I", .fieldLink RX4 19 "RopeSealsModel" "snapshot" "[I", .methodLink RX4 62 yX4_records, .instanceMethod yX4_records, .selects RX4 yX4_records yX4_records, .initialized RX4, .code yX4_records cX4_records 2 none, .fieldLink RX4 36 "RopeSealsModel" "stateMany" "I", .fieldLink RX4 16 "RopeSealsModel" "states" "[I"] ++ wsX40)
def wsX4_inChains : List Cond := .code yX4_inChains cX4_inChains 4 (some .int) :: ([.fieldLink RX4 7 "RopeSealsModel" "s" "[I", .methodLink RX4 150 yX4_isInChain, .instanceMethod yX4_isInChain, .selects RX4 yX4_isInChain yX4_isInChain, .initialized RX4, .code yX4_isInChain cX4_isInChain 4 (some .boolean), .methodLink RX4 39 yX4_of, .instanceMethod yX4_of, .selects RX4 yX4_of yX4_of, .code yX4_of cX4_of 3 (some .int)] ++ wsX40)
def wsX4_whyNot : List Cond := .code yX4_whyNot cX4_whyNot 4 (some .int) :: ([.fieldLink RX4 7 "RopeSealsModel" "s" "[I", .methodLink RX4 39 yX4_of, .instanceMethod yX4_of, .selects RX4 yX4_of yX4_of, .initialized RX4, .code yX4_of cX4_of 3 (some .int), .methodLink RX4 154 yX4_vouchers, .instanceMethod yX4_vouchers, .selects RX4 yX4_vouchers yX4_vouchers, .code yX4_vouchers cX4_vouchers 4 (some .int)] ++ wsX40)
def wsX4_cart_r1 : List Cond := [Cond.fieldLink RX4 28 "RopeSealsModel" "thrown" "I", Cond.methodLink RX4 50 yX4_isCart, Cond.instanceMethod yX4_isCart, Cond.selects RX4 yX4_isCart yX4_isCart, Cond.initialized RX4, Cond.code yX4_isCart cX4_isCart 2 (some .boolean), Cond.fieldLink RX4 7 "RopeSealsModel" "s" "[I", Cond.methodLink RX4 32 yX4_in, Cond.static yX4_in, Cond.code yX4_in cX4_in 3 (some .boolean), Cond.methodLink RX4 39 yX4_of, Cond.instanceMethod yX4_of, Cond.selects RX4 yX4_of yX4_of, Cond.code yX4_of cX4_of 3 (some .int), Cond.methodLink RX4 46 yX4_rightSeal, Cond.instanceMethod yX4_rightSeal, Cond.selects RX4 yX4_rightSeal yX4_rightSeal, Cond.code yX4_rightSeal cX4_rightSeal 2 (some .int), Cond.methodLink RX4 43 yX4_sealBy, Cond.instanceMethod yX4_sealBy, Cond.selects RX4 yX4_sealBy yX4_sealBy, Cond.code yX4_sealBy cX4_sealBy 4 (some .int), Cond.methodLink RX4 71 yX4_isWhole, Cond.instanceMethod yX4_isWhole]
def wsX4_cart_r2 : List Cond := [Cond.selects RX4 yX4_isWhole yX4_isWhole, Cond.code yX4_isWhole cX4_isWhole 2 (some .boolean), Cond.methodLink RX4 157 yX4_depth, Cond.instanceMethod yX4_depth, Cond.selects RX4 yX4_depth yX4_depth, Cond.code yX4_depth cX4_depth 4 (some .int), Cond.methodLink RX4 154 yX4_vouchers, Cond.instanceMethod yX4_vouchers, Cond.selects RX4 yX4_vouchers yX4_vouchers, Cond.code yX4_vouchers cX4_vouchers 4 (some .int), Cond.methodLink RX4 160 yX4_inChains, Cond.instanceMethod yX4_inChains, Cond.selects RX4 yX4_inChains yX4_inChains, Cond.code yX4_inChains cX4_inChains 4 (some .int), Cond.methodLink RX4 150 yX4_isInChain, Cond.instanceMethod yX4_isInChain, Cond.selects RX4 yX4_isInChain yX4_isInChain, Cond.code yX4_isInChain cX4_isInChain 4 (some .boolean), Cond.methodLink RX4 163 yX4_whyNot, Cond.instanceMethod yX4_whyNot, Cond.selects RX4 yX4_whyNot yX4_whyNot, Cond.code yX4_whyNot cX4_whyNot 4 (some .int)]
def wsX4_cart : List Cond := .code yX4_cart cX4_cart 3 (some .int) :: ((wsX4_cart_r1 ++ wsX4_cart_r2) ++ wsX40)
def wsX4_chain : List Cond := .code yX4_chain cX4_chain 5 (some .int) :: ([.fieldLink RX4 28 "RopeSealsModel" "thrown" "I", .methodLink RX4 50 yX4_isCart, .instanceMethod yX4_isCart, .selects RX4 yX4_isCart yX4_isCart, .initialized RX4, .code yX4_isCart cX4_isCart 2 (some .boolean), .fieldLink RX4 7 "RopeSealsModel" "s" "[I", .methodLink RX4 32 yX4_in, .static yX4_in, .code yX4_in cX4_in 3 (some .boolean), .methodLink RX4 39 yX4_of, .instanceMethod yX4_of, .selects RX4 yX4_of yX4_of, .code yX4_of cX4_of 3 (some .int)] ++ wsX40)
def wsX4_brokenIn_r1 : List Cond := [Cond.fieldLink RX4 28 "RopeSealsModel" "thrown" "I", Cond.methodLink RX4 50 yX4_isCart, Cond.instanceMethod yX4_isCart, Cond.selects RX4 yX4_isCart yX4_isCart, Cond.initialized RX4, Cond.code yX4_isCart cX4_isCart 2 (some .boolean), Cond.fieldLink RX4 7 "RopeSealsModel" "s" "[I", Cond.methodLink RX4 32 yX4_in, Cond.static yX4_in, Cond.code yX4_in cX4_in 3 (some .boolean), Cond.methodLink RX4 71 yX4_isWhole, Cond.instanceMethod yX4_isWhole, Cond.selects RX4 yX4_isWhole yX4_isWhole, Cond.code yX4_isWhole cX4_isWhole 2 (some .boolean), Cond.methodLink RX4 39 yX4_of, Cond.instanceMethod yX4_of, Cond.selects RX4 yX4_of yX4_of, Cond.code yX4_of cX4_of 3 (some .int), Cond.methodLink RX4 46 yX4_rightSeal, Cond.instanceMethod yX4_rightSeal, Cond.selects RX4 yX4_rightSeal yX4_rightSeal, Cond.code yX4_rightSeal cX4_rightSeal 2 (some .int), Cond.methodLink RX4 43 yX4_sealBy, Cond.instanceMethod yX4_sealBy]
def wsX4_brokenIn_r2 : List Cond := [Cond.selects RX4 yX4_sealBy yX4_sealBy, Cond.code yX4_sealBy cX4_sealBy 4 (some .int)]
def wsX4_brokenIn : List Cond := .code yX4_brokenIn cX4_brokenIn 3 (some .int) :: ((wsX4_brokenIn_r1 ++ wsX4_brokenIn_r2) ++ wsX40)
def wsX4_sumOf : List Cond := .code yX4_sumOf cX4_sumOf 4 (some .int) :: ([.fieldLink RX4 7 "RopeSealsModel" "s" "[I", .methodLink RX4 39 yX4_of, .instanceMethod yX4_of, .selects RX4 yX4_of yX4_of, .initialized RX4, .code yX4_of cX4_of 3 (some .int)] ++ wsX40)
def wsX4_brokenMany : List Cond := .code yX4_brokenMany cX4_brokenMany 3 (some .int) :: ([.fieldLink RX4 7 "RopeSealsModel" "s" "[I", .methodLink RX4 71 yX4_isWhole, .instanceMethod yX4_isWhole, .selects RX4 yX4_isWhole yX4_isWhole, .initialized RX4, .code yX4_isWhole cX4_isWhole 2 (some .boolean), .methodLink RX4 39 yX4_of, .instanceMethod yX4_of, .selects RX4 yX4_of yX4_of, .code yX4_of cX4_of 3 (some .int), .methodLink RX4 46 yX4_rightSeal, .instanceMethod yX4_rightSeal, .selects RX4 yX4_rightSeal yX4_rightSeal, .code yX4_rightSeal cX4_rightSeal 2 (some .int), .methodLink RX4 43 yX4_sealBy, .instanceMethod yX4_sealBy, .selects RX4 yX4_sealBy yX4_sealBy, .code yX4_sealBy cX4_sealBy 4 (some .int)] ++ wsX40)
def wsX4_deepest : List Cond := .code yX4_deepest cX4_deepest 3 (some .int) :: ([.fieldLink RX4 7 "RopeSealsModel" "s" "[I", .methodLink RX4 157 yX4_depth, .instanceMethod yX4_depth, .selects RX4 yX4_depth yX4_depth, .initialized RX4, .code yX4_depth cX4_depth 4 (some .int), .methodLink RX4 39 yX4_of, .instanceMethod yX4_of, .selects RX4 yX4_of yX4_of, .code yX4_of cX4_of 3 (some .int)] ++ wsX40)
def wsX4_ends : List Cond := .code yX4_ends cX4_ends 3 (some .int) :: ([.fieldLink RX4 7 "RopeSealsModel" "s" "[I", .methodLink RX4 154 yX4_vouchers, .instanceMethod yX4_vouchers, .selects RX4 yX4_vouchers yX4_vouchers, .initialized RX4, .code yX4_vouchers cX4_vouchers 4 (some .int), .methodLink RX4 39 yX4_of, .instanceMethod yX4_of, .selects RX4 yX4_of yX4_of, .code yX4_of cX4_of 3 (some .int)] ++ wsX40)
def wsX4_found : List Cond := .code yX4_found cX4_found 3 (some .int) :: ([.fieldLink RX4 7 "RopeSealsModel" "s" "[I", .methodLink RX4 39 yX4_of, .instanceMethod yX4_of, .selects RX4 yX4_of yX4_of, .initialized RX4, .code yX4_of cX4_of 3 (some .int)] ++ wsX40)
def wsX4_tellsTotal_r1 : List Cond := [Cond.fieldLink RX4 7 "RopeSealsModel" "s" "[I", Cond.fieldLink RX4 36 "RopeSealsModel" "stateMany" "I", Cond.fieldLink RX4 103 "RopeSealsModel" "length" "I", Cond.methodLink RX4 166 yX4_sumOf, Cond.instanceMethod yX4_sumOf, Cond.selects RX4 yX4_sumOf yX4_sumOf, Cond.initialized RX4, Cond.code yX4_sumOf cX4_sumOf 4 (some .int), Cond.methodLink RX4 39 yX4_of, Cond.instanceMethod yX4_of, Cond.selects RX4 yX4_of yX4_of, Cond.code yX4_of cX4_of 3 (some .int), Cond.methodLink RX4 169 yX4_brokenMany, Cond.instanceMethod yX4_brokenMany, Cond.selects RX4 yX4_brokenMany yX4_brokenMany, Cond.code yX4_brokenMany cX4_brokenMany 3 (some .int), Cond.methodLink RX4 71 yX4_isWhole, Cond.instanceMethod yX4_isWhole, Cond.selects RX4 yX4_isWhole yX4_isWhole, Cond.code yX4_isWhole cX4_isWhole 2 (some .boolean), Cond.methodLink RX4 46 yX4_rightSeal, Cond.instanceMethod yX4_rightSeal, Cond.selects RX4 yX4_rightSeal yX4_rightSeal, Cond.code yX4_rightSeal cX4_rightSeal 2 (some .int)]
def wsX4_tellsTotal_r2 : List Cond := [Cond.methodLink RX4 43 yX4_sealBy, Cond.instanceMethod yX4_sealBy, Cond.selects RX4 yX4_sealBy yX4_sealBy, Cond.code yX4_sealBy cX4_sealBy 4 (some .int), Cond.methodLink RX4 172 yX4_deepest, Cond.instanceMethod yX4_deepest, Cond.selects RX4 yX4_deepest yX4_deepest, Cond.code yX4_deepest cX4_deepest 3 (some .int), Cond.methodLink RX4 157 yX4_depth, Cond.instanceMethod yX4_depth, Cond.selects RX4 yX4_depth yX4_depth, Cond.code yX4_depth cX4_depth 4 (some .int), Cond.methodLink RX4 175 yX4_ends, Cond.instanceMethod yX4_ends, Cond.selects RX4 yX4_ends yX4_ends, Cond.code yX4_ends cX4_ends 3 (some .int), Cond.methodLink RX4 154 yX4_vouchers, Cond.instanceMethod yX4_vouchers, Cond.selects RX4 yX4_vouchers yX4_vouchers, Cond.code yX4_vouchers cX4_vouchers 4 (some .int), Cond.methodLink RX4 178 yX4_found, Cond.instanceMethod yX4_found, Cond.selects RX4 yX4_found yX4_found, Cond.code yX4_found cX4_found 3 (some .int)]
def wsX4_tellsTotal : List Cond := .code yX4_tellsTotal cX4_tellsTotal 2 (some .int) :: ((wsX4_tellsTotal_r1 ++ wsX4_tellsTotal_r2) ++ wsX40)
def wsX4_total_r1 : List Cond := [Cond.fieldLink RX4 28 "RopeSealsModel" "thrown" "I", Cond.methodLink RX4 32 yX4_in, Cond.static yX4_in, Cond.initialized RX4, Cond.code yX4_in cX4_in 3 (some .boolean), Cond.methodLink RX4 181 yX4_tellsTotal, Cond.instanceMethod yX4_tellsTotal, Cond.selects RX4 yX4_tellsTotal yX4_tellsTotal, Cond.code yX4_tellsTotal cX4_tellsTotal 2 (some .int), Cond.fieldLink RX4 7 "RopeSealsModel" "s" "[I", Cond.fieldLink RX4 36 "RopeSealsModel" "stateMany" "I", Cond.fieldLink RX4 103 "RopeSealsModel" "length" "I", Cond.methodLink RX4 166 yX4_sumOf, Cond.instanceMethod yX4_sumOf, Cond.selects RX4 yX4_sumOf yX4_sumOf, Cond.code yX4_sumOf cX4_sumOf 4 (some .int), Cond.methodLink RX4 39 yX4_of, Cond.instanceMethod yX4_of, Cond.selects RX4 yX4_of yX4_of, Cond.code yX4_of cX4_of 3 (some .int), Cond.methodLink RX4 169 yX4_brokenMany, Cond.instanceMethod yX4_brokenMany, Cond.selects RX4 yX4_brokenMany yX4_brokenMany, Cond.code yX4_brokenMany cX4_brokenMany 3 (some .int)]
def wsX4_total_r2 : List Cond := [Cond.methodLink RX4 71 yX4_isWhole, Cond.instanceMethod yX4_isWhole, Cond.selects RX4 yX4_isWhole yX4_isWhole, Cond.code yX4_isWhole cX4_isWhole 2 (some .boolean), Cond.methodLink RX4 46 yX4_rightSeal, Cond.instanceMethod yX4_rightSeal, Cond.selects RX4 yX4_rightSeal yX4_rightSeal, Cond.code yX4_rightSeal cX4_rightSeal 2 (some .int), Cond.methodLink RX4 43 yX4_sealBy, Cond.instanceMethod yX4_sealBy, Cond.selects RX4 yX4_sealBy yX4_sealBy, Cond.code yX4_sealBy cX4_sealBy 4 (some .int), Cond.methodLink RX4 172 yX4_deepest, Cond.instanceMethod yX4_deepest, Cond.selects RX4 yX4_deepest yX4_deepest, Cond.code yX4_deepest cX4_deepest 3 (some .int), Cond.methodLink RX4 157 yX4_depth, Cond.instanceMethod yX4_depth, Cond.selects RX4 yX4_depth yX4_depth, Cond.code yX4_depth cX4_depth 4 (some .int), Cond.methodLink RX4 175 yX4_ends, Cond.instanceMethod yX4_ends, Cond.selects RX4 yX4_ends yX4_ends, Cond.code yX4_ends cX4_ends 3 (some .int)]
def wsX4_total_r3 : List Cond := [Cond.methodLink RX4 154 yX4_vouchers, Cond.instanceMethod yX4_vouchers, Cond.selects RX4 yX4_vouchers yX4_vouchers, Cond.code yX4_vouchers cX4_vouchers 4 (some .int), Cond.methodLink RX4 178 yX4_found, Cond.instanceMethod yX4_found, Cond.selects RX4 yX4_found yX4_found, Cond.code yX4_found cX4_found 3 (some .int)]
def wsX4_total : List Cond := .code yX4_total cX4_total 2 (some .int) :: ((wsX4_total_r1 ++ (wsX4_total_r2 ++ wsX4_total_r3)) ++ wsX40)
def wsX4_wouldClear_r1 : List Cond := [Cond.methodLink RX4 135 yX4_putAside, Cond.instanceMethod yX4_putAside, Cond.selects RX4 yX4_putAside yX4_putAside, Cond.initialized RX4, Cond.code yX4_putAside cX4_putAside 2 none, Cond.fieldLink RX4 13 "RopeSealsModel" "aside" "[I", Cond.fieldLink RX4 7 "RopeSealsModel" "s" "[I", Cond.methodLink RX4 81 yX4_clears, Cond.instanceMethod yX4_clears, Cond.selects RX4 yX4_clears yX4_clears, Cond.code yX4_clears cX4_clears 5 (some .int), Cond.methodLink RX4 39 yX4_of, Cond.instanceMethod yX4_of, Cond.selects RX4 yX4_of yX4_of, Cond.code yX4_of cX4_of 3 (some .int), Cond.methodLink RX4 54 yX4_lay, Cond.instanceMethod yX4_lay, Cond.selects RX4 yX4_lay yX4_lay, Cond.code yX4_lay cX4_lay 4 none, Cond.methodLink RX4 71 yX4_isWhole, Cond.instanceMethod yX4_isWhole, Cond.selects RX4 yX4_isWhole yX4_isWhole, Cond.code yX4_isWhole cX4_isWhole 2 (some .boolean), Cond.methodLink RX4 46 yX4_rightSeal]
def wsX4_wouldClear_r2 : List Cond := [Cond.instanceMethod yX4_rightSeal, Cond.selects RX4 yX4_rightSeal yX4_rightSeal, Cond.code yX4_rightSeal cX4_rightSeal 2 (some .int), Cond.methodLink RX4 43 yX4_sealBy, Cond.instanceMethod yX4_sealBy, Cond.selects RX4 yX4_sealBy yX4_sealBy, Cond.code yX4_sealBy cX4_sealBy 4 (some .int), Cond.methodLink RX4 144 yX4_takeBack, Cond.instanceMethod yX4_takeBack, Cond.selects RX4 yX4_takeBack yX4_takeBack, Cond.code yX4_takeBack cX4_takeBack 2 none]
def wsX4_wouldClear : List Cond := .code yX4_wouldClear cX4_wouldClear 3 (some .int) :: ((wsX4_wouldClear_r1 ++ wsX4_wouldClear_r2) ++ wsX40)
def wsX4_finesOfOthers : List Cond := .code yX4_finesOfOthers cX4_finesOfOthers 4 (some .int) :: ([.fieldLink RX4 7 "RopeSealsModel" "s" "[I", .methodLink RX4 39 yX4_of, .instanceMethod yX4_of, .selects RX4 yX4_of yX4_of, .initialized RX4, .code yX4_of cX4_of 3 (some .int), .methodLink RX4 71 yX4_isWhole, .instanceMethod yX4_isWhole, .selects RX4 yX4_isWhole yX4_isWhole, .code yX4_isWhole cX4_isWhole 2 (some .boolean), .methodLink RX4 46 yX4_rightSeal, .instanceMethod yX4_rightSeal, .selects RX4 yX4_rightSeal yX4_rightSeal, .code yX4_rightSeal cX4_rightSeal 2 (some .int), .methodLink RX4 43 yX4_sealBy, .instanceMethod yX4_sealBy, .selects RX4 yX4_sealBy yX4_sealBy, .code yX4_sealBy cX4_sealBy 4 (some .int)] ++ wsX40)
def wsX4_ifOpened_r1 : List Cond := [Cond.fieldLink RX4 28 "RopeSealsModel" "thrown" "I", Cond.methodLink RX4 50 yX4_isCart, Cond.instanceMethod yX4_isCart, Cond.selects RX4 yX4_isCart yX4_isCart, Cond.initialized RX4, Cond.code yX4_isCart cX4_isCart 2 (some .boolean), Cond.fieldLink RX4 7 "RopeSealsModel" "s" "[I", Cond.methodLink RX4 32 yX4_in, Cond.static yX4_in, Cond.code yX4_in cX4_in 3 (some .boolean), Cond.methodLink RX4 39 yX4_of, Cond.instanceMethod yX4_of, Cond.selects RX4 yX4_of yX4_of, Cond.code yX4_of cX4_of 3 (some .int), Cond.methodLink RX4 71 yX4_isWhole, Cond.instanceMethod yX4_isWhole, Cond.selects RX4 yX4_isWhole yX4_isWhole, Cond.code yX4_isWhole cX4_isWhole 2 (some .boolean), Cond.methodLink RX4 46 yX4_rightSeal, Cond.instanceMethod yX4_rightSeal, Cond.selects RX4 yX4_rightSeal yX4_rightSeal, Cond.code yX4_rightSeal cX4_rightSeal 2 (some .int), Cond.methodLink RX4 43 yX4_sealBy, Cond.instanceMethod yX4_sealBy]
def wsX4_ifOpened_r2 : List Cond := [Cond.selects RX4 yX4_sealBy yX4_sealBy, Cond.code yX4_sealBy cX4_sealBy 4 (some .int), Cond.methodLink RX4 84 yX4_fineOfLie, Cond.instanceMethod yX4_fineOfLie, Cond.selects RX4 yX4_fineOfLie yX4_fineOfLie, Cond.code yX4_fineOfLie cX4_fineOfLie 4 (some .int), Cond.methodLink RX4 184 yX4_wouldClear, Cond.instanceMethod yX4_wouldClear, Cond.selects RX4 yX4_wouldClear yX4_wouldClear, Cond.code yX4_wouldClear cX4_wouldClear 3 (some .int), Cond.methodLink RX4 135 yX4_putAside, Cond.instanceMethod yX4_putAside, Cond.selects RX4 yX4_putAside yX4_putAside, Cond.code yX4_putAside cX4_putAside 2 none, Cond.fieldLink RX4 13 "RopeSealsModel" "aside" "[I", Cond.methodLink RX4 81 yX4_clears, Cond.instanceMethod yX4_clears, Cond.selects RX4 yX4_clears yX4_clears, Cond.code yX4_clears cX4_clears 5 (some .int), Cond.methodLink RX4 54 yX4_lay, Cond.instanceMethod yX4_lay, Cond.selects RX4 yX4_lay yX4_lay, Cond.code yX4_lay cX4_lay 4 none, Cond.methodLink RX4 144 yX4_takeBack]
def wsX4_ifOpened_r3 : List Cond := [Cond.instanceMethod yX4_takeBack, Cond.selects RX4 yX4_takeBack yX4_takeBack, Cond.code yX4_takeBack cX4_takeBack 2 none, Cond.methodLink RX4 187 yX4_finesOfOthers, Cond.instanceMethod yX4_finesOfOthers, Cond.selects RX4 yX4_finesOfOthers yX4_finesOfOthers, Cond.code yX4_finesOfOthers cX4_finesOfOthers 4 (some .int)]
def wsX4_ifOpened : List Cond := .code yX4_ifOpened cX4_ifOpened 4 (some .int) :: ((wsX4_ifOpened_r1 ++ (wsX4_ifOpened_r2 ++ wsX4_ifOpened_r3)) ++ wsX40)
def wsX4_reaches : List Cond := .code yX4_reaches cX4_reaches 4 (some .boolean) :: ([.methodLink RX4 71 yX4_isWhole, .instanceMethod yX4_isWhole, .selects RX4 yX4_isWhole yX4_isWhole, .initialized RX4, .code yX4_isWhole cX4_isWhole 2 (some .boolean), .methodLink RX4 39 yX4_of, .instanceMethod yX4_of, .selects RX4 yX4_of yX4_of, .code yX4_of cX4_of 3 (some .int), .fieldLink RX4 7 "RopeSealsModel" "s" "[I", .methodLink RX4 46 yX4_rightSeal, .instanceMethod yX4_rightSeal, .selects RX4 yX4_rightSeal yX4_rightSeal, .code yX4_rightSeal cX4_rightSeal 2 (some .int), .methodLink RX4 43 yX4_sealBy, .instanceMethod yX4_sealBy, .selects RX4 yX4_sealBy yX4_sealBy, .code yX4_sealBy cX4_sealBy 4 (some .int)] ++ wsX40)
def wsX4_byEnds_r1 : List Cond := [Cond.fieldLink RX4 7 "RopeSealsModel" "s" "[I", Cond.methodLink RX4 93 yX4_isLeft, Cond.instanceMethod yX4_isLeft, Cond.selects RX4 yX4_isLeft yX4_isLeft, Cond.initialized RX4, Cond.code yX4_isLeft cX4_isLeft 2 (some .boolean), Cond.methodLink RX4 39 yX4_of, Cond.instanceMethod yX4_of, Cond.selects RX4 yX4_of yX4_of, Cond.code yX4_of cX4_of 3 (some .int), Cond.methodLink RX4 190 yX4_reaches, Cond.instanceMethod yX4_reaches, Cond.selects RX4 yX4_reaches yX4_reaches, Cond.code yX4_reaches cX4_reaches 4 (some .boolean), Cond.methodLink RX4 71 yX4_isWhole, Cond.instanceMethod yX4_isWhole, Cond.selects RX4 yX4_isWhole yX4_isWhole, Cond.code yX4_isWhole cX4_isWhole 2 (some .boolean), Cond.methodLink RX4 46 yX4_rightSeal, Cond.instanceMethod yX4_rightSeal, Cond.selects RX4 yX4_rightSeal yX4_rightSeal, Cond.code yX4_rightSeal cX4_rightSeal 2 (some .int), Cond.methodLink RX4 43 yX4_sealBy, Cond.instanceMethod yX4_sealBy]
def wsX4_byEnds_r2 : List Cond := [Cond.selects RX4 yX4_sealBy yX4_sealBy, Cond.code yX4_sealBy cX4_sealBy 4 (some .int)]
def wsX4_byEnds : List Cond := .code yX4_byEnds cX4_byEnds 5 (some .int) :: ((wsX4_byEnds_r1 ++ wsX4_byEnds_r2) ++ wsX40)
def wsX4_byOpening_r1 : List Cond := [Cond.methodLink RX4 135 yX4_putAside, Cond.instanceMethod yX4_putAside, Cond.selects RX4 yX4_putAside yX4_putAside, Cond.initialized RX4, Cond.code yX4_putAside cX4_putAside 2 none, Cond.fieldLink RX4 13 "RopeSealsModel" "aside" "[I", Cond.fieldLink RX4 7 "RopeSealsModel" "s" "[I", Cond.methodLink RX4 96 yX4_lastLeft, Cond.instanceMethod yX4_lastLeft, Cond.selects RX4 yX4_lastLeft yX4_lastLeft, Cond.code yX4_lastLeft cX4_lastLeft 3 (some .int), Cond.methodLink RX4 93 yX4_isLeft, Cond.instanceMethod yX4_isLeft, Cond.selects RX4 yX4_isLeft yX4_isLeft, Cond.code yX4_isLeft cX4_isLeft 2 (some .boolean), Cond.methodLink RX4 39 yX4_of, Cond.instanceMethod yX4_of, Cond.selects RX4 yX4_of yX4_of, Cond.code yX4_of cX4_of 3 (some .int), Cond.methodLink RX4 54 yX4_lay, Cond.instanceMethod yX4_lay, Cond.selects RX4 yX4_lay yX4_lay, Cond.code yX4_lay cX4_lay 4 none, Cond.methodLink RX4 81 yX4_clears]
def wsX4_byOpening_r2 : List Cond := [Cond.instanceMethod yX4_clears, Cond.selects RX4 yX4_clears yX4_clears, Cond.code yX4_clears cX4_clears 5 (some .int), Cond.methodLink RX4 71 yX4_isWhole, Cond.instanceMethod yX4_isWhole, Cond.selects RX4 yX4_isWhole yX4_isWhole, Cond.code yX4_isWhole cX4_isWhole 2 (some .boolean), Cond.methodLink RX4 46 yX4_rightSeal, Cond.instanceMethod yX4_rightSeal, Cond.selects RX4 yX4_rightSeal yX4_rightSeal, Cond.code yX4_rightSeal cX4_rightSeal 2 (some .int), Cond.methodLink RX4 43 yX4_sealBy, Cond.instanceMethod yX4_sealBy, Cond.selects RX4 yX4_sealBy yX4_sealBy, Cond.code yX4_sealBy cX4_sealBy 4 (some .int), Cond.methodLink RX4 144 yX4_takeBack, Cond.instanceMethod yX4_takeBack, Cond.selects RX4 yX4_takeBack yX4_takeBack, Cond.code yX4_takeBack cX4_takeBack 2 none]
def wsX4_byOpening : List Cond := .code yX4_byOpening cX4_byOpening 3 (some .int) :: ((wsX4_byOpening_r1 ++ wsX4_byOpening_r2) ++ wsX40)
def wsX4_fewestOpenings_r1 : List Cond := [Cond.fieldLink RX4 28 "RopeSealsModel" "thrown" "I", Cond.methodLink RX4 193 yX4_byEnds, Cond.instanceMethod yX4_byEnds, Cond.selects RX4 yX4_byEnds yX4_byEnds, Cond.initialized RX4, Cond.code yX4_byEnds cX4_byEnds 5 (some .int), Cond.fieldLink RX4 7 "RopeSealsModel" "s" "[I", Cond.methodLink RX4 93 yX4_isLeft, Cond.instanceMethod yX4_isLeft, Cond.selects RX4 yX4_isLeft yX4_isLeft, Cond.code yX4_isLeft cX4_isLeft 2 (some .boolean), Cond.methodLink RX4 39 yX4_of, Cond.instanceMethod yX4_of, Cond.selects RX4 yX4_of yX4_of, Cond.code yX4_of cX4_of 3 (some .int), Cond.methodLink RX4 190 yX4_reaches, Cond.instanceMethod yX4_reaches, Cond.selects RX4 yX4_reaches yX4_reaches, Cond.code yX4_reaches cX4_reaches 4 (some .boolean), Cond.methodLink RX4 71 yX4_isWhole, Cond.instanceMethod yX4_isWhole, Cond.selects RX4 yX4_isWhole yX4_isWhole, Cond.code yX4_isWhole cX4_isWhole 2 (some .boolean), Cond.methodLink RX4 46 yX4_rightSeal]
def wsX4_fewestOpenings_r2 : List Cond := [Cond.instanceMethod yX4_rightSeal, Cond.selects RX4 yX4_rightSeal yX4_rightSeal, Cond.code yX4_rightSeal cX4_rightSeal 2 (some .int), Cond.methodLink RX4 43 yX4_sealBy, Cond.instanceMethod yX4_sealBy, Cond.selects RX4 yX4_sealBy yX4_sealBy, Cond.code yX4_sealBy cX4_sealBy 4 (some .int), Cond.methodLink RX4 196 yX4_byOpening, Cond.instanceMethod yX4_byOpening, Cond.selects RX4 yX4_byOpening yX4_byOpening, Cond.code yX4_byOpening cX4_byOpening 3 (some .int), Cond.methodLink RX4 135 yX4_putAside, Cond.instanceMethod yX4_putAside, Cond.selects RX4 yX4_putAside yX4_putAside, Cond.code yX4_putAside cX4_putAside 2 none, Cond.fieldLink RX4 13 "RopeSealsModel" "aside" "[I", Cond.methodLink RX4 96 yX4_lastLeft, Cond.instanceMethod yX4_lastLeft, Cond.selects RX4 yX4_lastLeft yX4_lastLeft, Cond.code yX4_lastLeft cX4_lastLeft 3 (some .int), Cond.methodLink RX4 54 yX4_lay, Cond.instanceMethod yX4_lay, Cond.selects RX4 yX4_lay yX4_lay, Cond.code yX4_lay cX4_lay 4 none]
def wsX4_fewestOpenings_r3 : List Cond := [Cond.methodLink RX4 81 yX4_clears, Cond.instanceMethod yX4_clears, Cond.selects RX4 yX4_clears yX4_clears, Cond.code yX4_clears cX4_clears 5 (some .int), Cond.methodLink RX4 144 yX4_takeBack, Cond.instanceMethod yX4_takeBack, Cond.selects RX4 yX4_takeBack yX4_takeBack, Cond.code yX4_takeBack cX4_takeBack 2 none]
def wsX4_fewestOpenings : List Cond := .code yX4_fewestOpenings cX4_fewestOpenings 2 (some .int) :: ((wsX4_fewestOpenings_r1 ++ (wsX4_fewestOpenings_r2 ++ wsX4_fewestOpenings_r3)) ++ wsX40)
def wsX4_bestOpening_r1 : List Cond := [Cond.fieldLink RX4 28 "RopeSealsModel" "thrown" "I", Cond.fieldLink RX4 7 "RopeSealsModel" "s" "[I", Cond.methodLink RX4 39 yX4_of, Cond.instanceMethod yX4_of, Cond.selects RX4 yX4_of yX4_of, Cond.initialized RX4, Cond.code yX4_of cX4_of 3 (some .int), Cond.methodLink RX4 184 yX4_wouldClear, Cond.instanceMethod yX4_wouldClear, Cond.selects RX4 yX4_wouldClear yX4_wouldClear, Cond.code yX4_wouldClear cX4_wouldClear 3 (some .int), Cond.methodLink RX4 135 yX4_putAside, Cond.instanceMethod yX4_putAside, Cond.selects RX4 yX4_putAside yX4_putAside, Cond.code yX4_putAside cX4_putAside 2 none, Cond.fieldLink RX4 13 "RopeSealsModel" "aside" "[I", Cond.methodLink RX4 81 yX4_clears, Cond.instanceMethod yX4_clears, Cond.selects RX4 yX4_clears yX4_clears, Cond.code yX4_clears cX4_clears 5 (some .int), Cond.methodLink RX4 54 yX4_lay, Cond.instanceMethod yX4_lay, Cond.selects RX4 yX4_lay yX4_lay, Cond.code yX4_lay cX4_lay 4 none]
def wsX4_bestOpening_r2 : List Cond := [Cond.methodLink RX4 71 yX4_isWhole, Cond.instanceMethod yX4_isWhole, Cond.selects RX4 yX4_isWhole yX4_isWhole, Cond.code yX4_isWhole cX4_isWhole 2 (some .boolean), Cond.methodLink RX4 46 yX4_rightSeal, Cond.instanceMethod yX4_rightSeal, Cond.selects RX4 yX4_rightSeal yX4_rightSeal, Cond.code yX4_rightSeal cX4_rightSeal 2 (some .int), Cond.methodLink RX4 43 yX4_sealBy, Cond.instanceMethod yX4_sealBy, Cond.selects RX4 yX4_sealBy yX4_sealBy, Cond.code yX4_sealBy cX4_sealBy 4 (some .int), Cond.methodLink RX4 144 yX4_takeBack, Cond.instanceMethod yX4_takeBack, Cond.selects RX4 yX4_takeBack yX4_takeBack, Cond.code yX4_takeBack cX4_takeBack 2 none]
def wsX4_bestOpening : List Cond := .code yX4_bestOpening cX4_bestOpening 5 (some .int) :: ((wsX4_bestOpening_r1 ++ wsX4_bestOpening_r2) ++ wsX40)
def wsX4_sameSeal : List Cond := .code yX4_sameSeal cX4_sameSeal 3 (some .int) :: ([.fieldLink RX4 28 "RopeSealsModel" "thrown" "I", .methodLink RX4 50 yX4_isCart, .instanceMethod yX4_isCart, .selects RX4 yX4_isCart yX4_isCart, .initialized RX4, .code yX4_isCart cX4_isCart 2 (some .boolean), .fieldLink RX4 7 "RopeSealsModel" "s" "[I", .methodLink RX4 32 yX4_in, .static yX4_in, .code yX4_in cX4_in 3 (some .boolean), .methodLink RX4 39 yX4_of, .instanceMethod yX4_of, .selects RX4 yX4_of yX4_of, .code yX4_of cX4_of 3 (some .int), .methodLink RX4 43 yX4_sealBy, .instanceMethod yX4_sealBy, .selects RX4 yX4_sealBy yX4_sealBy, .code yX4_sealBy cX4_sealBy 4 (some .int), .methodLink RX4 46 yX4_rightSeal, .instanceMethod yX4_rightSeal, .selects RX4 yX4_rightSeal yX4_rightSeal, .code yX4_rightSeal cX4_rightSeal 2 (some .int)] ++ wsX40)
def wsJ9_abs_0f7a4 : List Cond := .code yJ9_abs_0f7a4 cJ9_abs_0f7a4 1 (some .int) :: ([])
def wsJ9_max_7cf53 : List Cond := .code yJ9_max_7cf53 cJ9_max_7cf53 2 (some .int) :: ([])
def wsL_law_r1 : List Cond := [Cond.classLink RL 7 RX3, Cond.instantiable RX3 6, Cond.initialized RX3, Cond.classLink RL 10 RX4, Cond.instantiable RX4 13, Cond.initialized RX4, Cond.methodLink RL 9 yX3_init, Cond.instanceMethod yX3_init, Cond.code yX3_init cX3_init 1 none, Cond.methodLink RX3 1 objectInit, Cond.instanceMethod objectInit, Cond.code objectInit ⟨#[0xb1]⟩ 1 none, Cond.classLink RX3 7 RX1, Cond.instantiable RX1 11, Cond.initialized RX1, Cond.fieldLink RX3 10 "RopeSeals" "house" "LRopeSeals$House;", Cond.fieldLink RX3 16 "RopeSeals" "before" "LRopeSeals$House;", Cond.fieldLink RX3 19 "RopeSeals" "snapshot" "LRopeSeals$House;", Cond.fieldLink RX3 22 "RopeSeals" "hasSnapshot" "Z", Cond.classLink RX3 26 RX0, Cond.instantiable RX0 2, Cond.initialized RX0, Cond.fieldLink RX3 29 "RopeSeals" "history" "LRopeSeals$History;", Cond.classLink RX3 33 RX2]
def wsL_law_r2 : List Cond := [Cond.instantiable RX2 7, Cond.initialized RX2, Cond.fieldLink RX3 36 "RopeSeals" "text" "LRopeSeals$OrderText;", Cond.instanceMethod yX1_init, Cond.code yX1_init cX1_init 1 none, Cond.methodLink RX1 3 objectInit, Cond.arrayClass .int, Cond.fieldLink RX1 9 "RopeSeals$House" "settings" "[I", Cond.fieldLink RX1 15 "RopeSeals$House" "claims" "[I", Cond.fieldLink RX1 18 "RopeSeals$House" "loads" "[I", Cond.fieldLink RX1 21 "RopeSeals$House" "vouched" "[I", Cond.fieldLink RX1 24 "RopeSeals$House" "seals" "[I", Cond.fieldLink RX1 27 "RopeSeals$House" "fines" "[I", Cond.fieldLink RX1 30 "RopeSeals$House" "count" "I", Cond.fieldLink RX1 34 "RopeSeals$House" "opened" "I", Cond.fieldLink RX1 37 "RopeSeals$House" "lied" "I", Cond.fieldLink RX1 40 "RopeSeals$House" "cleared" "I", Cond.fieldLink RX1 43 "RopeSeals$House" "tolls" "I", Cond.methodLink RX3 28 yX0_init, Cond.instanceMethod yX0_init, Cond.code yX0_init cX0_init 2 none, Cond.methodLink RX0 3 objectInit, Cond.classLink RX0 11 RX1, Cond.fieldLink RX0 13 "RopeSeals$History" "rows" "[LRopeSeals$House;"]
def wsL_law_r3 : List Cond := [Cond.fieldLink RX0 17 "RopeSeals$History" "size" "I", Cond.instanceMethod yX2_init, Cond.code yX2_init cX2_init 1 none, Cond.methodLink RX2 3 objectInit, Cond.arrayClass .char, Cond.fieldLink RX2 11 "RopeSeals$OrderText" "characters" "[C", Cond.fieldLink RX2 15 "RopeSeals$OrderText" "size" "I", Cond.fieldLink RX2 19 "RopeSeals$OrderText" "place" "I", Cond.fieldLink RX2 22 "RopeSeals$OrderText" "kind" "C", Cond.fieldLink RX2 26 "RopeSeals$OrderText" "cartNumber" "I", Cond.fieldLink RX2 29 "RopeSeals$OrderText" "claim" "I", Cond.fieldLink RX2 32 "RopeSeals$OrderText" "load" "I", Cond.methodLink RL 12 yX4_init, Cond.instanceMethod yX4_init, Cond.code yX4_init cX4_init 1 none, Cond.methodLink RX4 1 objectInit, Cond.fieldLink RX4 7 "RopeSealsModel" "s" "[I", Cond.fieldLink RX4 13 "RopeSealsModel" "aside" "[I", Cond.fieldLink RX4 16 "RopeSealsModel" "states" "[I", Cond.fieldLink RX4 19 "RopeSealsModel" "snapshot" "[I", Cond.fieldLink RX4 22 "RopeSealsModel" "text" "[I", Cond.fieldLink RX4 25 "RopeSealsModel" "read" "[I", Cond.fieldLink RX4 28 "RopeSealsModel" "thrown" "I", Cond.methodLink RL 13 yX3_come]
def wsL_law_r4 : List Cond := [Cond.instanceMethod yX3_come, Cond.selects RX3 yX3_come yX3_come, Cond.code yX3_come cX3_come 4 (some .int), Cond.methodLink RX3 40 yX1_copyFrom, Cond.instanceMethod yX1_copyFrom, Cond.selects RX1 yX1_copyFrom yX1_copyFrom, Cond.code yX1_copyFrom cX1_copyFrom 2 none, Cond.methodLink RX1 46 arraycopyName, Cond.native arraycopyName, Cond.static arraycopyName, Cond.initialized "java/lang/System", Cond.methodLink RX3 44 yX1_admit, Cond.instanceMethod yX1_admit, Cond.selects RX1 yX1_admit yX1_admit, Cond.code yX1_admit cX1_admit 5 (some .int), Cond.methodLink RX1 52 yX1_knows, Cond.instanceMethod yX1_knows, Cond.selects RX1 yX1_knows yX1_knows, Cond.code yX1_knows cX1_knows 2 (some .boolean), Cond.methodLink RX1 56 yX1_isSacks, Cond.static yX1_isSacks, Cond.code yX1_isSacks cX1_isSacks 1 (some .boolean), Cond.methodLink RX1 59 yX1_rightSeal, Cond.instanceMethod yX1_rightSeal]
def wsL_law_r5 : List Cond := [Cond.selects RX1 yX1_rightSeal yX1_rightSeal, Cond.code yX1_rightSeal cX1_rightSeal 2 (some .int), Cond.methodLink RX1 143 yX1_sealFor, Cond.instanceMethod yX1_sealFor, Cond.selects RX1 yX1_sealFor yX1_sealFor, Cond.code yX1_sealFor cX1_sealFor 6 (some .int), Cond.methodLink RX3 48 yX3_recorded, Cond.instanceMethod yX3_recorded, Cond.selects RX3 yX3_recorded yX3_recorded, Cond.code yX3_recorded cX3_recorded 2 (some .int), Cond.methodLink RX3 135 yX0_add, Cond.instanceMethod yX0_add, Cond.selects RX0 yX0_add yX0_add, Cond.code yX0_add cX0_add 3 none, Cond.methodLink RX0 22 yX0_dropOldest, Cond.instanceMethod yX0_dropOldest, Cond.selects RX0 yX0_dropOldest yX0_dropOldest, Cond.code yX0_dropOldest cX0_dropOldest 3 none, Cond.methodLink RX0 25 yX1_copyFrom, Cond.methodLink RL 17 yX4_come, Cond.instanceMethod yX4_come, Cond.selects RX4 yX4_come yX4_come, Cond.code yX4_come cX4_come 5 (some .int), Cond.methodLink RX4 58 yX4_refusesCart]
def wsL_law_r6 : List Cond := [Cond.instanceMethod yX4_refusesCart, Cond.selects RX4 yX4_refusesCart yX4_refusesCart, Cond.code yX4_refusesCart cX4_refusesCart 4 (some .int), Cond.methodLink RX4 50 yX4_isCart, Cond.instanceMethod yX4_isCart, Cond.selects RX4 yX4_isCart yX4_isCart, Cond.code yX4_isCart cX4_isCart 2 (some .boolean), Cond.methodLink RX4 32 yX4_in, Cond.static yX4_in, Cond.code yX4_in cX4_in 3 (some .boolean), Cond.methodLink RX4 62 yX4_records, Cond.instanceMethod yX4_records, Cond.selects RX4 yX4_records yX4_records, Cond.code yX4_records cX4_records 2 none, Cond.fieldLink RX4 36 "RopeSealsModel" "stateMany" "I", Cond.methodLink RX4 65 yX4_comes, Cond.instanceMethod yX4_comes, Cond.selects RX4 yX4_comes yX4_comes, Cond.code yX4_comes cX4_comes 5 (some .int), Cond.methodLink RX4 54 yX4_lay, Cond.instanceMethod yX4_lay, Cond.selects RX4 yX4_lay yX4_lay, Cond.code yX4_lay cX4_lay 4 none, Cond.methodLink RX4 46 yX4_rightSeal]
def wsL_law_r7 : List Cond := [Cond.instanceMethod yX4_rightSeal, Cond.selects RX4 yX4_rightSeal yX4_rightSeal, Cond.code yX4_rightSeal cX4_rightSeal 2 (some .int), Cond.methodLink RX4 39 yX4_of, Cond.instanceMethod yX4_of, Cond.selects RX4 yX4_of yX4_of, Cond.code yX4_of cX4_of 3 (some .int), Cond.methodLink RX4 43 yX4_sealBy, Cond.instanceMethod yX4_sealBy, Cond.selects RX4 yX4_sealBy yX4_sealBy, Cond.code yX4_sealBy cX4_sealBy 4 (some .int), Cond.methodLink RL 18 yX3_alter, Cond.instanceMethod yX3_alter, Cond.selects RX3 yX3_alter yX3_alter, Cond.code yX3_alter cX3_alter 3 (some .int), Cond.methodLink RX3 52 yX1_changeClaim, Cond.instanceMethod yX1_changeClaim, Cond.selects RX1 yX1_changeClaim yX1_changeClaim, Cond.code yX1_changeClaim cX1_changeClaim 4 (some .int), Cond.methodLink RX1 63 yX1_isIn, Cond.static yX1_isIn, Cond.code yX1_isIn cX1_isIn 2 (some .boolean), Cond.methodLink RX1 70 yX1_bit, Cond.static yX1_bit]
def wsL_law_r8 : List Cond := [Cond.code yX1_bit cX1_bit 1 (some .int), Cond.methodLink RL 22 yX4_alter, Cond.instanceMethod yX4_alter, Cond.selects RX4 yX4_alter yX4_alter, Cond.code yX4_alter cX4_alter 5 (some .int), Cond.methodLink RX4 68 yX4_refusesAltering, Cond.instanceMethod yX4_refusesAltering, Cond.selects RX4 yX4_refusesAltering yX4_refusesAltering, Cond.code yX4_refusesAltering cX4_refusesAltering 3 (some .int), Cond.methodLink RL 23 yX3_reseal, Cond.instanceMethod yX3_reseal, Cond.selects RX3 yX3_reseal yX3_reseal, Cond.code yX3_reseal cX3_reseal 2 (some .int), Cond.methodLink RX3 56 yX1_mendSeal, Cond.instanceMethod yX1_mendSeal, Cond.selects RX1 yX1_mendSeal yX1_mendSeal, Cond.code yX1_mendSeal cX1_mendSeal 3 (some .int), Cond.methodLink RX1 67 yX1_isWhole, Cond.instanceMethod yX1_isWhole, Cond.selects RX1 yX1_isWhole yX1_isWhole, Cond.code yX1_isWhole cX1_isWhole 2 (some .boolean), Cond.methodLink RL 27 yX4_reseal, Cond.instanceMethod yX4_reseal, Cond.selects RX4 yX4_reseal yX4_reseal]
def wsL_law_r9 : List Cond := [Cond.code yX4_reseal cX4_reseal 4 (some .int), Cond.methodLink RX4 74 yX4_refusesSeal, Cond.instanceMethod yX4_refusesSeal, Cond.selects RX4 yX4_refusesSeal yX4_refusesSeal, Cond.code yX4_refusesSeal cX4_refusesSeal 2 (some .int), Cond.methodLink RX4 71 yX4_isWhole, Cond.instanceMethod yX4_isWhole, Cond.selects RX4 yX4_isWhole yX4_isWhole, Cond.code yX4_isWhole cX4_isWhole 2 (some .boolean), Cond.methodLink RL 28 yX3_open, Cond.instanceMethod yX3_open, Cond.selects RX3 yX3_open yX3_open, Cond.code yX3_open cX3_open 2 (some .int), Cond.methodLink RX3 59 yX1_inspect, Cond.instanceMethod yX1_inspect, Cond.selects RX1 yX1_inspect yX1_inspect, Cond.code yX1_inspect cX1_inspect 3 (some .int), Cond.methodLink RX1 73 yX1_ownFine, Cond.instanceMethod yX1_ownFine, Cond.selects RX1 yX1_ownFine yX1_ownFine, Cond.code yX1_ownFine cX1_ownFine 4 (some .int), Cond.methodLink RX1 146 Lib.Math.abs.name, Cond.static Lib.Math.abs.name, Cond.initialized "java/lang/Math"]
def wsL_law_r10 : List Cond := [Cond.code Lib.Math.abs.name Lib.Math.abs.code 1 (some .int), Cond.methodLink RX1 77 yX1_isLie, Cond.instanceMethod yX1_isLie, Cond.selects RX1 yX1_isLie yX1_isLie, Cond.code yX1_isLie cX1_isLie 3 (some .boolean), Cond.methodLink RX1 80 yX1_exposeLiar, Cond.instanceMethod yX1_exposeLiar, Cond.selects RX1 yX1_exposeLiar yX1_exposeLiar, Cond.code yX1_exposeLiar cX1_exposeLiar 4 none, Cond.methodLink RX1 92 yX1_wholeVouchers, Cond.instanceMethod yX1_wholeVouchers, Cond.selects RX1 yX1_wholeVouchers yX1_wholeVouchers, Cond.code yX1_wholeVouchers cX1_wholeVouchers 4 (some .int), Cond.methodLink RX1 84 yX1_clearedIfHonest, Cond.instanceMethod yX1_clearedIfHonest, Cond.selects RX1 yX1_clearedIfHonest yX1_clearedIfHonest, Cond.code yX1_clearedIfHonest cX1_clearedIfHonest 2 (some .int), Cond.methodLink RX1 140 yX1_reachedFrom, Cond.instanceMethod yX1_reachedFrom, Cond.selects RX1 yX1_reachedFrom yX1_reachedFrom, Cond.code yX1_reachedFrom cX1_reachedFrom 5 (some .int), Cond.methodLink RX1 87 yJ6_bitCount_0f7a4, Cond.static yJ6_bitCount_0f7a4, Cond.initialized RJ6]
def wsL_law_r11 : List Cond := [Cond.code yJ6_bitCount_0f7a4 cJ6_bitCount_0f7a4 1 (some .int), Cond.constant RJ6 265 (1431655765), Cond.constant RJ6 266 (858993459), Cond.constant RJ6 267 (252645135), Cond.methodLink RL 31 yX4_open, Cond.instanceMethod yX4_open, Cond.selects RX4 yX4_open yX4_open, Cond.code yX4_open cX4_open 3 (some .int), Cond.methodLink RX4 87 yX4_refusesOpening, Cond.instanceMethod yX4_refusesOpening, Cond.selects RX4 yX4_refusesOpening yX4_refusesOpening, Cond.code yX4_refusesOpening cX4_refusesOpening 2 (some .int), Cond.methodLink RX4 90 yX4_opens, Cond.instanceMethod yX4_opens, Cond.selects RX4 yX4_opens yX4_opens, Cond.code yX4_opens cX4_opens 3 (some .int), Cond.methodLink RX4 77 yX4_fines, Cond.instanceMethod yX4_fines, Cond.selects RX4 yX4_fines yX4_fines, Cond.code yX4_fines cX4_fines 3 none, Cond.methodLink RX4 81 yX4_clears, Cond.instanceMethod yX4_clears, Cond.selects RX4 yX4_clears yX4_clears, Cond.code yX4_clears cX4_clears 5 (some .int)]
def wsL_law_r12 : List Cond := [Cond.methodLink RX4 84 yX4_fineOfLie, Cond.instanceMethod yX4_fineOfLie, Cond.selects RX4 yX4_fineOfLie yX4_fineOfLie, Cond.code yX4_fineOfLie cX4_fineOfLie 4 (some .int), Cond.methodLink RL 32 yX3_openAll, Cond.instanceMethod yX3_openAll, Cond.selects RX3 yX3_openAll yX3_openAll, Cond.code yX3_openAll cX3_openAll 1 (some .int), Cond.methodLink RX3 62 yX1_inspectAll, Cond.instanceMethod yX1_inspectAll, Cond.selects RX1 yX1_inspectAll yX1_inspectAll, Cond.code yX1_inspectAll cX1_inspectAll 3 (some .int), Cond.methodLink RX1 95 yX1_waiting, Cond.instanceMethod yX1_waiting, Cond.selects RX1 yX1_waiting yX1_waiting, Cond.code yX1_waiting cX1_waiting 1 (some .int), Cond.methodLink RX1 149 yX1_all, Cond.instanceMethod yX1_all, Cond.selects RX1 yX1_all yX1_all, Cond.code yX1_all cX1_all 1 (some .int), Cond.methodLink RX1 99 yX1_inspect, Cond.methodLink RL 36 yX4_openAll, Cond.instanceMethod yX4_openAll, Cond.selects RX4 yX4_openAll yX4_openAll]
def wsL_law_r13 : List Cond := [Cond.code yX4_openAll cX4_openAll 2 (some .int), Cond.methodLink RX4 96 yX4_lastLeft, Cond.instanceMethod yX4_lastLeft, Cond.selects RX4 yX4_lastLeft yX4_lastLeft, Cond.code yX4_lastLeft cX4_lastLeft 3 (some .int), Cond.methodLink RX4 93 yX4_isLeft, Cond.instanceMethod yX4_isLeft, Cond.selects RX4 yX4_isLeft yX4_isLeft, Cond.code yX4_isLeft cX4_isLeft 2 (some .boolean), Cond.methodLink RL 37 yX3_set, Cond.instanceMethod yX3_set, Cond.selects RX3 yX3_set yX3_set, Cond.code yX3_set cX3_set 3 (some .int), Cond.methodLink RX3 66 yX1_changeSetting, Cond.instanceMethod yX1_changeSetting, Cond.selects RX1 yX1_changeSetting yX1_changeSetting, Cond.code yX1_changeSetting cX1_changeSetting 4 (some .int), Cond.fieldLink RX1 102 "RopeSeals$House" "LEAST" "[I", Cond.fieldLink RX1 105 "RopeSeals$House" "GREATEST" "[I", Cond.methodLink RL 40 yX4_set, Cond.instanceMethod yX4_set, Cond.selects RX4 yX4_set yX4_set, Cond.code yX4_set cX4_set 4 (some .int), Cond.methodLink RX4 100 yX4_leastOf]
def wsL_law_r14 : List Cond := [Cond.static yX4_leastOf, Cond.code yX4_leastOf cX4_leastOf 1 (some .int), Cond.methodLink RL 41 yX3_type, Cond.instanceMethod yX3_type, Cond.selects RX3 yX3_type yX3_type, Cond.code yX3_type cX3_type 2 (some .int), Cond.methodLink RX3 69 yX2_append, Cond.instanceMethod yX2_append, Cond.selects RX2 yX2_append yX2_append, Cond.code yX2_append cX2_append 2 (some .int), Cond.methodLink RL 45 yX4_type, Cond.instanceMethod yX4_type, Cond.selects RX4 yX4_type yX4_type, Cond.code yX4_type cX4_type 2 (some .int), Cond.fieldLink RX4 103 "RopeSealsModel" "length" "I", Cond.methodLink RL 46 yX3_clearText, Cond.instanceMethod yX3_clearText, Cond.selects RX3 yX3_clearText yX3_clearText, Cond.code yX3_clearText cX3_clearText 1 (some .int), Cond.methodLink RX3 73 yX2_empty, Cond.instanceMethod yX2_empty, Cond.selects RX2 yX2_empty yX2_empty, Cond.code yX2_empty cX2_empty 2 (some .int), Cond.methodLink RL 49 yX4_clearText]
def wsL_law_r15 : List Cond := [Cond.instanceMethod yX4_clearText, Cond.selects RX4 yX4_clearText yX4_clearText, Cond.code yX4_clearText cX4_clearText 2 (some .int), Cond.methodLink RL 50 yX3_perform, Cond.instanceMethod yX3_perform, Cond.selects RX3 yX3_perform yX3_perform, Cond.code yX3_perform cX3_perform 4 (some .int), Cond.methodLink RX3 76 yX2_countOrders, Cond.instanceMethod yX2_countOrders, Cond.selects RX2 yX2_countOrders yX2_countOrders, Cond.code yX2_countOrders cX2_countOrders 2 (some .int), Cond.methodLink RX2 35 yX2_rewind, Cond.instanceMethod yX2_rewind, Cond.selects RX2 yX2_rewind yX2_rewind, Cond.code yX2_rewind cX2_rewind 1 none, Cond.methodLink RX2 38 yX2_readOrder, Cond.instanceMethod yX2_readOrder, Cond.selects RX2 yX2_readOrder yX2_readOrder, Cond.code yX2_readOrder cX2_readOrder 1 (some .boolean), Cond.methodLink RX2 46 yX2_takesKind, Cond.instanceMethod yX2_takesKind, Cond.selects RX2 yX2_takesKind yX2_takesKind, Cond.code yX2_takesKind cX2_takesKind 2 (some .boolean), Cond.methodLink RX2 42 yX2_takes]
def wsL_law_r16 : List Cond := [Cond.instanceMethod yX2_takes, Cond.selects RX2 yX2_takes yX2_takes, Cond.code yX2_takes cX2_takes 2 (some .boolean), Cond.methodLink RX2 49 yX2_readClaim, Cond.instanceMethod yX2_readClaim, Cond.selects RX2 yX2_readClaim yX2_readClaim, Cond.code yX2_readClaim cX2_readClaim 1 (some .boolean), Cond.methodLink RX2 58 yX2_takeNumber, Cond.instanceMethod yX2_takeNumber, Cond.selects RX2 yX2_takeNumber yX2_takeNumber, Cond.code yX2_takeNumber cX2_takeNumber 4 (some .int), Cond.methodLink RX2 62 yX2_digitHere, Cond.instanceMethod yX2_digitHere, Cond.selects RX2 yX2_digitHere yX2_digitHere, Cond.code yX2_digitHere cX2_digitHere 2 (some .int), Cond.methodLink RX2 52 yX2_readLoad, Cond.instanceMethod yX2_readLoad, Cond.selects RX2 yX2_readLoad yX2_readLoad, Cond.code yX2_readLoad cX2_readLoad 1 (some .boolean), Cond.methodLink RX2 55 yX2_readCart, Cond.instanceMethod yX2_readCart, Cond.selects RX2 yX2_readCart yX2_readCart, Cond.code yX2_readCart cX2_readCart 1 (some .boolean), Cond.methodLink RX3 79 yX2_reached]
def wsL_law_r17 : List Cond := [Cond.instanceMethod yX2_reached, Cond.selects RX2 yX2_reached yX2_reached, Cond.code yX2_reached cX2_reached 1 (some .int), Cond.methodLink RX3 82 yX2_rewind, Cond.methodLink RX3 85 yX2_nextOrder, Cond.instanceMethod yX2_nextOrder, Cond.selects RX2 yX2_nextOrder yX2_nextOrder, Cond.code yX2_nextOrder cX2_nextOrder 1 none, Cond.methodLink RX3 88 yX3_carryOutOrder, Cond.instanceMethod yX3_carryOutOrder, Cond.selects RX3 yX3_carryOutOrder yX3_carryOutOrder, Cond.code yX3_carryOutOrder cX3_carryOutOrder 2 (some .int), Cond.methodLink RX3 138 yX2_kind, Cond.instanceMethod yX2_kind, Cond.selects RX2 yX2_kind yX2_kind, Cond.code yX2_kind cX2_kind 1 (some .char), Cond.methodLink RX3 142 yX2_claim, Cond.instanceMethod yX2_claim, Cond.selects RX2 yX2_claim yX2_claim, Cond.code yX2_claim cX2_claim 1 (some .int), Cond.methodLink RX3 145 yX2_load, Cond.instanceMethod yX2_load, Cond.selects RX2 yX2_load yX2_load, Cond.code yX2_load cX2_load 1 (some .int)]
def wsL_law_r18 : List Cond := [Cond.methodLink RX3 148 yX2_cartNumber, Cond.instanceMethod yX2_cartNumber, Cond.selects RX2 yX2_cartNumber yX2_cartNumber, Cond.code yX2_cartNumber cX2_cartNumber 1 (some .int), Cond.methodLink RX3 91 yX3_isError, Cond.static yX3_isError, Cond.code yX3_isError cX3_isError 1 (some .boolean), Cond.methodLink RL 53 yX4_perform, Cond.instanceMethod yX4_perform, Cond.selects RX4 yX4_perform yX4_perform, Cond.code yX4_perform cX4_perform 5 (some .int), Cond.fieldLink RX4 123 "RopeSealsModel" "readMany" "I", Cond.methodLink RX4 132 yX4_reads, Cond.instanceMethod yX4_reads, Cond.selects RX4 yX4_reads yX4_reads, Cond.code yX4_reads cX4_reads 1 (some .int), Cond.fieldLink RX4 106 "RopeSealsModel" "at" "I", Cond.fieldLink RX4 109 "RopeSealsModel" "isWell" "Z", Cond.methodLink RX4 129 yX4_readsOrder, Cond.instanceMethod yX4_readsOrder, Cond.selects RX4 yX4_readsOrder yX4_readsOrder, Cond.code yX4_readsOrder cX4_readsOrder 3 none, Cond.methodLink RX4 113 yX4_sign, Cond.instanceMethod yX4_sign]
def wsL_law_r19 : List Cond := [Cond.selects RX4 yX4_sign yX4_sign, Cond.code yX4_sign cX4_sign 1 (some .int), Cond.methodLink RX4 126 yX4_readsCart, Cond.instanceMethod yX4_readsCart, Cond.selects RX4 yX4_readsCart yX4_readsCart, Cond.code yX4_readsCart cX4_readsCart 2 none, Cond.methodLink RX4 116 yX4_number, Cond.instanceMethod yX4_number, Cond.selects RX4 yX4_number yX4_number, Cond.code yX4_number cX4_number 3 (some .int), Cond.methodLink RX4 119 yX4_wants, Cond.instanceMethod yX4_wants, Cond.selects RX4 yX4_wants yX4_wants, Cond.code yX4_wants cX4_wants 2 none, Cond.methodLink RX4 135 yX4_putAside, Cond.instanceMethod yX4_putAside, Cond.selects RX4 yX4_putAside yX4_putAside, Cond.code yX4_putAside cX4_putAside 2 none, Cond.methodLink RX4 138 yX4_refuses, Cond.instanceMethod yX4_refuses, Cond.selects RX4 yX4_refuses yX4_refuses, Cond.code yX4_refuses cX4_refuses 2 (some .int), Cond.methodLink RX4 141 yX4_does, Cond.instanceMethod yX4_does]
def wsL_law_r20 : List Cond := [Cond.selects RX4 yX4_does yX4_does, Cond.code yX4_does cX4_does 2 none, Cond.methodLink RX4 144 yX4_takeBack, Cond.instanceMethod yX4_takeBack, Cond.selects RX4 yX4_takeBack yX4_takeBack, Cond.code yX4_takeBack cX4_takeBack 2 none, Cond.methodLink RL 54 yX3_undo, Cond.instanceMethod yX3_undo, Cond.selects RX3 yX3_undo yX3_undo, Cond.code yX3_undo cX3_undo 1 (some .int), Cond.methodLink RX3 95 yX0_takeLatest, Cond.instanceMethod yX0_takeLatest, Cond.selects RX0 yX0_takeLatest yX0_takeLatest, Cond.code yX0_takeLatest cX0_takeLatest 2 (some .int), Cond.methodLink RL 57 yX4_undo, Cond.instanceMethod yX4_undo, Cond.selects RX4 yX4_undo yX4_undo, Cond.code yX4_undo cX4_undo 2 (some .int), Cond.methodLink RL 58 yX3_keep, Cond.instanceMethod yX3_keep, Cond.selects RX3 yX3_keep yX3_keep, Cond.code yX3_keep cX3_keep 1 (some .int), Cond.methodLink RX3 99 yX1_carts, Cond.instanceMethod yX1_carts]
def wsL_law_r21 : List Cond := [Cond.selects RX1 yX1_carts yX1_carts, Cond.code yX1_carts cX1_carts 1 (some .int), Cond.methodLink RL 61 yX4_keep, Cond.instanceMethod yX4_keep, Cond.selects RX4 yX4_keep yX4_keep, Cond.code yX4_keep cX4_keep 2 (some .int), Cond.fieldLink RX4 147 "RopeSealsModel" "hasSnapshot" "Z", Cond.methodLink RL 62 yX3_restore, Cond.instanceMethod yX3_restore, Cond.selects RX3 yX3_restore yX3_restore, Cond.code yX3_restore cX3_restore 1 (some .int), Cond.methodLink RL 65 yX4_restore, Cond.instanceMethod yX4_restore, Cond.selects RX4 yX4_restore yX4_restore, Cond.code yX4_restore cX4_restore 2 (some .int), Cond.methodLink RL 66 yX3_cart, Cond.instanceMethod yX3_cart, Cond.selects RX3 yX3_cart yX3_cart, Cond.code yX3_cart cX3_cart 3 (some .int), Cond.methodLink RX3 102 yX1_tellOfCart, Cond.instanceMethod yX1_tellOfCart, Cond.selects RX1 yX1_tellOfCart yX1_tellOfCart, Cond.code yX1_tellOfCart cX1_tellOfCart 3 (some .int), Cond.methodLink RX1 108 yX1_chainOf]
def wsL_law_r22 : List Cond := [Cond.instanceMethod yX1_chainOf, Cond.selects RX1 yX1_chainOf yX1_chainOf, Cond.code yX1_chainOf cX1_chainOf 5 (some .int), Cond.methodLink RX1 111 yX1_vouchers, Cond.instanceMethod yX1_vouchers, Cond.selects RX1 yX1_vouchers yX1_vouchers, Cond.code yX1_vouchers cX1_vouchers 4 (some .int), Cond.methodLink RX1 114 yX1_countChainsWith, Cond.instanceMethod yX1_countChainsWith, Cond.selects RX1 yX1_countChainsWith yX1_countChainsWith, Cond.code yX1_countChainsWith cX1_countChainsWith 4 (some .int), Cond.methodLink RX1 117 yX1_whyNotCleared, Cond.instanceMethod yX1_whyNotCleared, Cond.selects RX1 yX1_whyNotCleared yX1_whyNotCleared, Cond.code yX1_whyNotCleared cX1_whyNotCleared 3 (some .int), Cond.methodLink RL 69 yX4_cart, Cond.instanceMethod yX4_cart, Cond.selects RX4 yX4_cart yX4_cart, Cond.code yX4_cart cX4_cart 3 (some .int), Cond.methodLink RX4 157 yX4_depth, Cond.instanceMethod yX4_depth, Cond.selects RX4 yX4_depth yX4_depth, Cond.code yX4_depth cX4_depth 4 (some .int), Cond.methodLink RX4 154 yX4_vouchers]
def wsL_law_r23 : List Cond := [Cond.instanceMethod yX4_vouchers, Cond.selects RX4 yX4_vouchers yX4_vouchers, Cond.code yX4_vouchers cX4_vouchers 4 (some .int), Cond.methodLink RX4 160 yX4_inChains, Cond.instanceMethod yX4_inChains, Cond.selects RX4 yX4_inChains yX4_inChains, Cond.code yX4_inChains cX4_inChains 4 (some .int), Cond.methodLink RX4 150 yX4_isInChain, Cond.instanceMethod yX4_isInChain, Cond.selects RX4 yX4_isInChain yX4_isInChain, Cond.code yX4_isInChain cX4_isInChain 4 (some .boolean), Cond.methodLink RX4 163 yX4_whyNot, Cond.instanceMethod yX4_whyNot, Cond.selects RX4 yX4_whyNot yX4_whyNot, Cond.code yX4_whyNot cX4_whyNot 4 (some .int), Cond.methodLink RL 70 yX3_chain, Cond.instanceMethod yX3_chain, Cond.selects RX3 yX3_chain yX3_chain, Cond.code yX3_chain cX3_chain 3 (some .int), Cond.methodLink RX3 105 yX1_cartOfChain, Cond.instanceMethod yX1_cartOfChain, Cond.selects RX1 yX1_cartOfChain yX1_cartOfChain, Cond.code yX1_cartOfChain cX1_cartOfChain 5 (some .int), Cond.methodLink RL 73 yX4_chain]
def wsL_law_r24 : List Cond := [Cond.instanceMethod yX4_chain, Cond.selects RX4 yX4_chain yX4_chain, Cond.code yX4_chain cX4_chain 5 (some .int), Cond.methodLink RL 74 yX3_brokenIn, Cond.instanceMethod yX3_brokenIn, Cond.selects RX3 yX3_brokenIn yX3_brokenIn, Cond.code yX3_brokenIn cX3_brokenIn 2 (some .int), Cond.methodLink RX3 108 yX1_firstBroken, Cond.instanceMethod yX1_firstBroken, Cond.selects RX1 yX1_firstBroken yX1_firstBroken, Cond.code yX1_firstBroken cX1_firstBroken 4 (some .int), Cond.methodLink RL 77 yX4_brokenIn, Cond.instanceMethod yX4_brokenIn, Cond.selects RX4 yX4_brokenIn yX4_brokenIn, Cond.code yX4_brokenIn cX4_brokenIn 3 (some .int), Cond.methodLink RL 78 yX3_total, Cond.instanceMethod yX3_total, Cond.selects RX3 yX3_total yX3_total, Cond.code yX3_total cX3_total 2 (some .int), Cond.methodLink RX3 111 yX0_states, Cond.instanceMethod yX0_states, Cond.selects RX0 yX0_states yX0_states, Cond.code yX0_states cX0_states 1 (some .int), Cond.methodLink RX3 114 yX2_length]
def wsL_law_r25 : List Cond := [Cond.instanceMethod yX2_length, Cond.selects RX2 yX2_length yX2_length, Cond.code yX2_length cX2_length 1 (some .int), Cond.methodLink RX3 117 yX1_tellOfAll, Cond.instanceMethod yX1_tellOfAll, Cond.selects RX1 yX1_tellOfAll yX1_tellOfAll, Cond.code yX1_tellOfAll cX1_tellOfAll 2 (some .int), Cond.methodLink RX1 120 yX1_countBroken, Cond.instanceMethod yX1_countBroken, Cond.selects RX1 yX1_countBroken yX1_countBroken, Cond.code yX1_countBroken cX1_countBroken 3 (some .int), Cond.methodLink RX1 123 yX1_finesOfAll, Cond.instanceMethod yX1_finesOfAll, Cond.selects RX1 yX1_finesOfAll yX1_finesOfAll, Cond.code yX1_finesOfAll cX1_finesOfAll 3 (some .int), Cond.methodLink RX1 126 yX1_greatestDepth, Cond.instanceMethod yX1_greatestDepth, Cond.selects RX1 yX1_greatestDepth yX1_greatestDepth, Cond.code yX1_greatestDepth cX1_greatestDepth 3 (some .int), Cond.methodLink RX1 135 Lib.Math.max.name, Cond.static Lib.Math.max.name, Cond.code Lib.Math.max.name Lib.Math.max.code 2 (some .int), Cond.methodLink RX1 129 yX1_countUnvouched, Cond.instanceMethod yX1_countUnvouched]
def wsL_law_r26 : List Cond := [Cond.selects RX1 yX1_countUnvouched yX1_countUnvouched, Cond.code yX1_countUnvouched cX1_countUnvouched 3 (some .int), Cond.methodLink RX1 132 yX1_sacksFound, Cond.instanceMethod yX1_sacksFound, Cond.selects RX1 yX1_sacksFound yX1_sacksFound, Cond.code yX1_sacksFound cX1_sacksFound 3 (some .int), Cond.methodLink RL 81 yX4_total, Cond.instanceMethod yX4_total, Cond.selects RX4 yX4_total yX4_total, Cond.code yX4_total cX4_total 2 (some .int), Cond.methodLink RX4 181 yX4_tellsTotal, Cond.instanceMethod yX4_tellsTotal, Cond.selects RX4 yX4_tellsTotal yX4_tellsTotal, Cond.code yX4_tellsTotal cX4_tellsTotal 2 (some .int), Cond.methodLink RX4 166 yX4_sumOf, Cond.instanceMethod yX4_sumOf, Cond.selects RX4 yX4_sumOf yX4_sumOf, Cond.code yX4_sumOf cX4_sumOf 4 (some .int), Cond.methodLink RX4 169 yX4_brokenMany, Cond.instanceMethod yX4_brokenMany, Cond.selects RX4 yX4_brokenMany yX4_brokenMany, Cond.code yX4_brokenMany cX4_brokenMany 3 (some .int), Cond.methodLink RX4 172 yX4_deepest, Cond.instanceMethod yX4_deepest]
def wsL_law_r27 : List Cond := [Cond.selects RX4 yX4_deepest yX4_deepest, Cond.code yX4_deepest cX4_deepest 3 (some .int), Cond.methodLink RX4 175 yX4_ends, Cond.instanceMethod yX4_ends, Cond.selects RX4 yX4_ends yX4_ends, Cond.code yX4_ends cX4_ends 3 (some .int), Cond.methodLink RX4 178 yX4_found, Cond.instanceMethod yX4_found, Cond.selects RX4 yX4_found yX4_found, Cond.code yX4_found cX4_found 3 (some .int), Cond.methodLink RL 82 yX3_ifOpened, Cond.instanceMethod yX3_ifOpened, Cond.selects RX3 yX3_ifOpened yX3_ifOpened, Cond.code yX3_ifOpened cX3_ifOpened 3 (some .int), Cond.methodLink RX3 120 yX1_foretell, Cond.instanceMethod yX1_foretell, Cond.selects RX1 yX1_foretell yX1_foretell, Cond.code yX1_foretell cX1_foretell 3 (some .int), Cond.methodLink RL 85 yX4_ifOpened, Cond.instanceMethod yX4_ifOpened, Cond.selects RX4 yX4_ifOpened yX4_ifOpened, Cond.code yX4_ifOpened cX4_ifOpened 4 (some .int), Cond.methodLink RX4 184 yX4_wouldClear, Cond.instanceMethod yX4_wouldClear]
def wsL_law_r28 : List Cond := [Cond.selects RX4 yX4_wouldClear yX4_wouldClear, Cond.code yX4_wouldClear cX4_wouldClear 3 (some .int), Cond.methodLink RX4 187 yX4_finesOfOthers, Cond.instanceMethod yX4_finesOfOthers, Cond.selects RX4 yX4_finesOfOthers yX4_finesOfOthers, Cond.code yX4_finesOfOthers cX4_finesOfOthers 4 (some .int), Cond.methodLink RL 86 yX3_fewestOpenings, Cond.instanceMethod yX3_fewestOpenings, Cond.selects RX3 yX3_fewestOpenings yX3_fewestOpenings, Cond.code yX3_fewestOpenings cX3_fewestOpenings 2 (some .int), Cond.methodLink RX3 123 yX1_countEnds, Cond.instanceMethod yX1_countEnds, Cond.selects RX1 yX1_countEnds yX1_countEnds, Cond.code yX1_countEnds cX1_countEnds 4 (some .int), Cond.methodLink RX3 126 yX1_countHonestOpenings, Cond.instanceMethod yX1_countHonestOpenings, Cond.selects RX1 yX1_countHonestOpenings yX1_countHonestOpenings, Cond.code yX1_countHonestOpenings cX1_countHonestOpenings 4 (some .int), Cond.methodLink RL 89 yX4_fewestOpenings, Cond.instanceMethod yX4_fewestOpenings, Cond.selects RX4 yX4_fewestOpenings yX4_fewestOpenings, Cond.code yX4_fewestOpenings cX4_fewestOpenings 2 (some .int), Cond.methodLink RX4 193 yX4_byEnds, Cond.instanceMethod yX4_byEnds]
def wsL_law_r29 : List Cond := [Cond.selects RX4 yX4_byEnds yX4_byEnds, Cond.code yX4_byEnds cX4_byEnds 5 (some .int), Cond.methodLink RX4 190 yX4_reaches, Cond.instanceMethod yX4_reaches, Cond.selects RX4 yX4_reaches yX4_reaches, Cond.code yX4_reaches cX4_reaches 4 (some .boolean), Cond.methodLink RX4 196 yX4_byOpening, Cond.instanceMethod yX4_byOpening, Cond.selects RX4 yX4_byOpening yX4_byOpening, Cond.code yX4_byOpening cX4_byOpening 3 (some .int), Cond.methodLink RL 90 yX3_bestOpening, Cond.instanceMethod yX3_bestOpening, Cond.selects RX3 yX3_bestOpening yX3_bestOpening, Cond.code yX3_bestOpening cX3_bestOpening 1 (some .int), Cond.methodLink RX3 129 yX1_mostClearing, Cond.instanceMethod yX1_mostClearing, Cond.selects RX1 yX1_mostClearing yX1_mostClearing, Cond.code yX1_mostClearing cX1_mostClearing 5 (some .int), Cond.methodLink RL 93 yX4_bestOpening, Cond.instanceMethod yX4_bestOpening, Cond.selects RX4 yX4_bestOpening yX4_bestOpening, Cond.code yX4_bestOpening cX4_bestOpening 5 (some .int), Cond.methodLink RL 94 yX3_sameSeal, Cond.instanceMethod yX3_sameSeal]
def wsL_law_r30 : List Cond := [Cond.selects RX3 yX3_sameSeal yX3_sameSeal, Cond.code yX3_sameSeal cX3_sameSeal 2 (some .int), Cond.methodLink RX3 132 yX1_otherClaimForSeal, Cond.instanceMethod yX1_otherClaimForSeal, Cond.selects RX1 yX1_otherClaimForSeal yX1_otherClaimForSeal, Cond.code yX1_otherClaimForSeal cX1_otherClaimForSeal 4 (some .int), Cond.methodLink RL 97 yX4_sameSeal, Cond.instanceMethod yX4_sameSeal, Cond.selects RX4 yX4_sameSeal yX4_sameSeal, Cond.code yX4_sameSeal cX4_sameSeal 3 (some .int)]
def wsL_law : List Cond := (wsL_law_r1 ++ (wsL_law_r2 ++ (wsL_law_r3 ++ (wsL_law_r4 ++ (wsL_law_r5 ++ (wsL_law_r6 ++ (wsL_law_r7 ++ (wsL_law_r8 ++ (wsL_law_r9 ++ (wsL_law_r10 ++ (wsL_law_r11 ++ (wsL_law_r12 ++ (wsL_law_r13 ++ (wsL_law_r14 ++ (wsL_law_r15 ++ (wsL_law_r16 ++ (wsL_law_r17 ++ (wsL_law_r18 ++ (wsL_law_r19 ++ (wsL_law_r20 ++ (wsL_law_r21 ++ (wsL_law_r22 ++ (wsL_law_r23 ++ (wsL_law_r24 ++ (wsL_law_r25 ++ (wsL_law_r26 ++ (wsL_law_r27 ++ (wsL_law_r28 ++ (wsL_law_r29 ++ wsL_law_r30))))))))))))))))))))))))))))) ++ wsX30 ++ wsX40 ++ wsX10 ++ wsX00 ++ wsX20 ++ ([] : List Cond)
end
section
theorem in_r {big : List Cond} (ws : List Cond) (ps : List Nat) (hp : ws = ps.filterMap (fun i => big[i]?)) : ∀ w ∈ ws, w ∈ big := by
  intro w hw
  rw [hp] at hw
  obtain ⟨i, -, hi⟩ := List.mem_filterMap.mp hw
  first | exact List.mem_of_getElem? hi | exact List.getElem?_mem hi
set_option maxRecDepth 100000 in
theorem wl_1 : ∀ w ∈ wsL_law_r1, w ∈ lw_tbl := in_r _ [85, 86, 77, 564, 565, 81, 87, 88, 89, 90, 91, 92, 93, 94, 78, 179, 180, 181, 182, 134, 135, 79, 183, 150] rfl
set_option maxRecDepth 100000 in
theorem wl_2 : ∀ w ∈ wsL_law_r2, w ∈ lw_tbl := in_r _ [151, 80, 184, 96, 97, 98, 133, 99, 100, 101, 102, 103, 104, 105, 106, 107, 108, 109, 136, 137, 138, 139, 140, 143] rfl
set_option maxRecDepth 100000 in
theorem wl_3 : ∀ w ∈ wsL_law_r3, w ∈ lw_tbl := in_r _ [144, 153, 154, 155, 178, 156, 157, 158, 159, 160, 161, 162, 566, 567, 568, 569, 571, 572, 573, 575, 577, 581, 570, 198] rfl
set_option maxRecDepth 100000 in
theorem wl_4 : ∀ w ∈ wsL_law_r4, w ∈ lw_tbl := in_r _ [199, 200, 201, 202, 203, 204, 205, 206, 208, 207, 82, 209, 210, 211, 212, 213, 215, 0, 216, 217, 218, 219, 220, 222] rfl
set_option maxRecDepth 100000 in
theorem wl_5 : ∀ w ∈ wsL_law_r5, w ∈ lw_tbl := in_r _ [1, 223, 224, 226, 2, 227, 228, 230, 3, 231, 232, 233, 234, 235, 236, 238, 4, 239, 240, 610, 611, 612, 613, 614] rfl
set_option maxRecDepth 100000 in
theorem wl_6 : ∀ w ∈ wsL_law_r6, w ∈ lw_tbl := in_r _ [616, 32, 617, 618, 620, 33, 621, 622, 623, 624, 625, 627, 34, 628, 574, 629, 631, 35, 632, 633, 635, 36, 636, 637] rfl
set_option maxRecDepth 100000 in
theorem wl_7 : ∀ w ∈ wsL_law_r7, w ∈ lw_tbl := in_r _ [639, 37, 640, 641, 643, 38, 644, 645, 647, 39, 648, 241, 242, 243, 244, 245, 246, 247, 248, 249, 250, 251, 252, 253] rfl
set_option maxRecDepth 100000 in
theorem wl_8 : ∀ w ∈ wsL_law_r8, w ∈ lw_tbl := in_r _ [254, 649, 650, 651, 652, 653, 655, 40, 656, 255, 256, 257, 258, 259, 260, 261, 262, 263, 265, 5, 266, 657, 658, 659] rfl
set_option maxRecDepth 100000 in
theorem wl_9 : ∀ w ∈ wsL_law_r9, w ∈ lw_tbl := in_r _ [660, 661, 663, 41, 664, 665, 667, 42, 668, 267, 268, 269, 270, 271, 272, 273, 274, 275, 277, 6, 278, 283, 284, 83] rfl
set_option maxRecDepth 100000 in
theorem wl_10 : ∀ w ∈ wsL_law_r10, w ∈ lw_tbl := in_r _ [285, 279, 281, 7, 282, 286, 288, 8, 289, 290, 292, 9, 293, 294, 296, 10, 297, 298, 300, 11, 301, 302, 303, 84] rfl
set_option maxRecDepth 100000 in
theorem wl_11 : ∀ w ∈ wsL_law_r11, w ∈ lw_tbl := in_r _ [304, 305, 306, 307, 669, 670, 671, 672, 673, 675, 43, 676, 677, 679, 44, 680, 681, 683, 45, 684, 685, 687, 46, 688] rfl
set_option maxRecDepth 100000 in
theorem wl_12 : ∀ w ∈ wsL_law_r12, w ∈ lw_tbl := in_r _ [689, 691, 47, 692, 308, 309, 310, 311, 312, 313, 314, 315, 316, 318, 12, 319, 320, 322, 13, 323, 324, 693, 694, 695] rfl
set_option maxRecDepth 100000 in
theorem wl_13 : ∀ w ∈ wsL_law_r13, w ∈ lw_tbl := in_r _ [696, 697, 699, 48, 700, 701, 703, 49, 704, 325, 326, 327, 328, 329, 330, 331, 332, 333, 335, 705, 706, 707, 708, 709] rfl
set_option maxRecDepth 100000 in
theorem wl_14 : ∀ w ∈ wsL_law_r14, w ∈ lw_tbl := in_r _ [710, 711, 337, 338, 339, 340, 341, 342, 343, 344, 712, 713, 714, 715, 578, 345, 346, 347, 348, 349, 350, 351, 352, 716] rfl
set_option maxRecDepth 100000 in
theorem wl_15 : ∀ w ∈ wsL_law_r15, w ∈ lw_tbl := in_r _ [717, 718, 719, 353, 354, 355, 356, 357, 358, 359, 360, 361, 362, 363, 364, 365, 367, 14, 368, 369, 371, 15, 372, 373] rfl
set_option maxRecDepth 100000 in
theorem wl_16 : ∀ w ∈ wsL_law_r16, w ∈ lw_tbl := in_r _ [375, 16, 376, 377, 379, 17, 380, 381, 383, 18, 384, 385, 387, 19, 388, 389, 391, 20, 392, 393, 395, 21, 396, 397] rfl
set_option maxRecDepth 100000 in
theorem wl_17 : ∀ w ∈ wsL_law_r17, w ∈ lw_tbl := in_r _ [398, 399, 400, 401, 402, 403, 404, 405, 406, 408, 22, 409, 410, 411, 412, 413, 414, 415, 416, 417, 418, 419, 420, 421] rfl
set_option maxRecDepth 100000 in
theorem wl_18 : ∀ w ∈ wsL_law_r18, w ∈ lw_tbl := in_r _ [422, 423, 424, 425, 426, 427, 428, 720, 721, 722, 723, 582, 724, 726, 50, 727, 579, 580, 728, 730, 51, 731, 732, 734] rfl
set_option maxRecDepth 100000 in
theorem wl_19 : ∀ w ∈ wsL_law_r19, w ∈ lw_tbl := in_r _ [52, 735, 736, 738, 53, 739, 740, 742, 54, 743, 744, 746, 55, 747, 748, 750, 56, 751, 752, 754, 57, 755, 756, 758] rfl
set_option maxRecDepth 100000 in
theorem wl_20 : ∀ w ∈ wsL_law_r20, w ∈ lw_tbl := in_r _ [58, 759, 760, 762, 59, 763, 429, 430, 431, 432, 433, 434, 435, 436, 764, 765, 766, 767, 437, 438, 439, 440, 441, 442] rfl
set_option maxRecDepth 100000 in
theorem wl_21 : ∀ w ∈ wsL_law_r21, w ∈ lw_tbl := in_r _ [443, 444, 768, 769, 770, 771, 576, 445, 446, 447, 448, 772, 773, 774, 775, 449, 450, 451, 452, 453, 454, 455, 456, 457] rfl
set_option maxRecDepth 100000 in
theorem wl_22 : ∀ w ∈ wsL_law_r22, w ∈ lw_tbl := in_r _ [459, 23, 460, 461, 463, 24, 464, 465, 467, 25, 468, 469, 471, 26, 472, 776, 777, 778, 779, 780, 782, 60, 783, 784] rfl
set_option maxRecDepth 100000 in
theorem wl_23 : ∀ w ∈ wsL_law_r23, w ∈ lw_tbl := in_r _ [786, 61, 787, 788, 790, 62, 791, 792, 794, 63, 795, 796, 798, 64, 799, 473, 474, 475, 476, 477, 478, 479, 480, 800] rfl
set_option maxRecDepth 100000 in
theorem wl_24 : ∀ w ∈ wsL_law_r24, w ∈ lw_tbl := in_r _ [801, 802, 803, 481, 482, 483, 484, 485, 486, 487, 488, 804, 805, 806, 807, 489, 490, 491, 492, 493, 494, 495, 496, 497] rfl
set_option maxRecDepth 100000 in
theorem wl_25 : ∀ w ∈ wsL_law_r25, w ∈ lw_tbl := in_r _ [498, 499, 500, 501, 502, 503, 504, 505, 507, 27, 508, 509, 511, 28, 512, 513, 515, 29, 516, 517, 518, 519, 520, 522] rfl
set_option maxRecDepth 100000 in
theorem wl_26 : ∀ w ∈ wsL_law_r26, w ∈ lw_tbl := in_r _ [30, 523, 524, 526, 31, 527, 808, 809, 810, 811, 812, 814, 65, 815, 816, 818, 66, 819, 820, 822, 67, 823, 824, 826] rfl
set_option maxRecDepth 100000 in
theorem wl_27 : ∀ w ∈ wsL_law_r27, w ∈ lw_tbl := in_r _ [68, 827, 828, 830, 69, 831, 832, 834, 70, 835, 528, 529, 530, 531, 532, 533, 534, 535, 836, 837, 838, 839, 840, 842] rfl
set_option maxRecDepth 100000 in
theorem wl_28 : ∀ w ∈ wsL_law_r28, w ∈ lw_tbl := in_r _ [71, 843, 844, 846, 72, 847, 536, 537, 538, 539, 540, 541, 542, 543, 544, 545, 546, 547, 848, 849, 850, 851, 852, 854] rfl
set_option maxRecDepth 100000 in
theorem wl_29 : ∀ w ∈ wsL_law_r29, w ∈ lw_tbl := in_r _ [73, 855, 856, 858, 74, 859, 860, 862, 75, 863, 548, 549, 550, 551, 552, 553, 554, 555, 864, 865, 866, 867, 556, 557] rfl
set_option maxRecDepth 100000 in
theorem wl_30 : ∀ w ∈ wsL_law_r30, w ∈ lw_tbl := in_r _ [558, 559, 560, 561, 562, 563, 868, 869, 870, 871] rfl
set_option maxRecDepth 100000 in
theorem wl_wsX00 : ∀ w ∈ wsX00, w ∈ lw_tbl := in_r _ [145, 147] rfl
set_option maxRecDepth 100000 in
theorem wl_wsX10 : ∀ w ∈ wsX10, w ∈ lw_tbl := in_r _ [110, 112, 114, 116, 118, 120, 122, 124, 126, 128, 130] rfl
set_option maxRecDepth 100000 in
theorem wl_wsX20 : ∀ w ∈ wsX20, w ∈ lw_tbl := in_r _ [163, 165, 167, 169, 171, 173, 175] rfl
set_option maxRecDepth 100000 in
theorem wl_wsX30 : ∀ w ∈ wsX30, w ∈ lw_tbl := in_r _ [185, 187, 189, 191, 193, 195] rfl
set_option maxRecDepth 100000 in
theorem wl_wsX40 : ∀ w ∈ wsX40, w ∈ lw_tbl := in_r _ [583, 585, 587, 589, 591, 593, 595, 597, 599, 601, 603, 605, 607] rfl
set_option maxRecDepth 100000 in
theorem wl_wsJ60 : ∀ w ∈ wsJ60, w ∈ lw_tbl := in_r _ [] rfl
set_option maxRecDepth 100000 in
theorem wl_wsJ90 : ∀ w ∈ wsJ90, w ∈ lw_tbl := in_r _ [] rfl
set_option maxRecDepth 100000 in
theorem wl_wsJ100 : ∀ w ∈ wsJ100, w ∈ lw_tbl := in_r _ [] rfl
set_option maxRecDepth 100000 in
theorem wsL_law_in : ∀ w ∈ wsL_law, w ∈ lw_tbl := by
  show ∀ w ∈ (wsL_law_r1 ++ (wsL_law_r2 ++ (wsL_law_r3 ++ (wsL_law_r4 ++ (wsL_law_r5 ++ (wsL_law_r6 ++ (wsL_law_r7 ++ (wsL_law_r8 ++ (wsL_law_r9 ++ (wsL_law_r10 ++ (wsL_law_r11 ++ (wsL_law_r12 ++ (wsL_law_r13 ++ (wsL_law_r14 ++ (wsL_law_r15 ++ (wsL_law_r16 ++ (wsL_law_r17 ++ (wsL_law_r18 ++ (wsL_law_r19 ++ (wsL_law_r20 ++ (wsL_law_r21 ++ (wsL_law_r22 ++ (wsL_law_r23 ++ (wsL_law_r24 ++ (wsL_law_r25 ++ (wsL_law_r26 ++ (wsL_law_r27 ++ (wsL_law_r28 ++ (wsL_law_r29 ++ wsL_law_r30))))))))))))))))))))))))))))) ++ wsX30 ++ wsX40 ++ wsX10 ++ wsX00 ++ wsX20 ++ ([] : List Cond), w ∈ lw_tbl
  exact List.forall_mem_append.mpr ⟨(List.forall_mem_append.mpr ⟨(List.forall_mem_append.mpr ⟨(List.forall_mem_append.mpr ⟨(List.forall_mem_append.mpr ⟨(List.forall_mem_append.mpr ⟨(List.forall_mem_append.mpr ⟨wl_1, (List.forall_mem_append.mpr ⟨wl_2, (List.forall_mem_append.mpr ⟨wl_3, (List.forall_mem_append.mpr ⟨wl_4, (List.forall_mem_append.mpr ⟨wl_5, (List.forall_mem_append.mpr ⟨wl_6, (List.forall_mem_append.mpr ⟨wl_7, (List.forall_mem_append.mpr ⟨wl_8, (List.forall_mem_append.mpr ⟨wl_9, (List.forall_mem_append.mpr ⟨wl_10, (List.forall_mem_append.mpr ⟨wl_11, (List.forall_mem_append.mpr ⟨wl_12, (List.forall_mem_append.mpr ⟨wl_13, (List.forall_mem_append.mpr ⟨wl_14, (List.forall_mem_append.mpr ⟨wl_15, (List.forall_mem_append.mpr ⟨wl_16, (List.forall_mem_append.mpr ⟨wl_17, (List.forall_mem_append.mpr ⟨wl_18, (List.forall_mem_append.mpr ⟨wl_19, (List.forall_mem_append.mpr ⟨wl_20, (List.forall_mem_append.mpr ⟨wl_21, (List.forall_mem_append.mpr ⟨wl_22, (List.forall_mem_append.mpr ⟨wl_23, (List.forall_mem_append.mpr ⟨wl_24, (List.forall_mem_append.mpr ⟨wl_25, (List.forall_mem_append.mpr ⟨wl_26, (List.forall_mem_append.mpr ⟨wl_27, (List.forall_mem_append.mpr ⟨wl_28, (List.forall_mem_append.mpr ⟨wl_29, wl_30⟩)⟩)⟩)⟩)⟩)⟩)⟩)⟩)⟩)⟩)⟩)⟩)⟩)⟩)⟩)⟩)⟩)⟩)⟩)⟩)⟩)⟩)⟩)⟩)⟩)⟩)⟩)⟩)⟩), wl_wsX30⟩), wl_wsX40⟩), wl_wsX10⟩), wl_wsX00⟩), wl_wsX20⟩), fun _ h => absurd h List.not_mem_nil⟩
theorem inlX0 : ∀ w ∈ wsX00, w ∈ wsL_law := fun _ h => List.mem_append_left _ (List.mem_append_left _ (List.mem_append_right _ h))
theorem inX0 : ∀ w ∈ wsX00, w ∈ lw_tbl := fun w h => wsL_law_in w (inlX0 w h)
theorem inlX1 : ∀ w ∈ wsX10, w ∈ wsL_law := fun _ h => List.mem_append_left _ (List.mem_append_left _ (List.mem_append_left _ (List.mem_append_right _ h)))
theorem inX1 : ∀ w ∈ wsX10, w ∈ lw_tbl := fun w h => wsL_law_in w (inlX1 w h)
theorem inlX2 : ∀ w ∈ wsX20, w ∈ wsL_law := fun _ h => List.mem_append_left _ (List.mem_append_right _ h)
theorem inX2 : ∀ w ∈ wsX20, w ∈ lw_tbl := fun w h => wsL_law_in w (inlX2 w h)
theorem inlX3 : ∀ w ∈ wsX30, w ∈ wsL_law := fun _ h => List.mem_append_left _ (List.mem_append_left _ (List.mem_append_left _ (List.mem_append_left _ (List.mem_append_left _ (List.mem_append_right _ h)))))
theorem inX3 : ∀ w ∈ wsX30, w ∈ lw_tbl := fun w h => wsL_law_in w (inlX3 w h)
theorem inlX4 : ∀ w ∈ wsX40, w ∈ wsL_law := fun _ h => List.mem_append_left _ (List.mem_append_left _ (List.mem_append_left _ (List.mem_append_left _ (List.mem_append_right _ h))))
theorem inX4 : ∀ w ∈ wsX40, w ∈ lw_tbl := fun w h => wsL_law_in w (inlX4 w h)
theorem inJ6 : ∀ w ∈ wsJ60, w ∈ lw_tbl := by decide +kernel
theorem inJ9 : ∀ w ∈ wsJ90, w ∈ lw_tbl := by decide +kernel
theorem inJ10 : ∀ w ∈ wsJ100, w ∈ lw_tbl := by decide +kernel
abbrev vwCl : List vw_C := [(RX0, TX0, 2), (RX1, TX1, 11), (RX2, TX2, 7), (RX3, TX3, 6), (RX4, TX4, 13)]
end
section
set_option maxRecDepth 20000 in
theorem ggX0_init_X1_init : GoodIn wsX0_init wsX1_init := goodIn_r _ [10, 11, 2, 3, 12, 13, 14, 15, 16, 17, 18, 19, 20, 21, 22, 23, 26, 27, 28, 29, 30, 31, 32, 33, 34, 35, 36] (by decide +kernel) (by decide +kernel)
set_option maxRecDepth 20000 in
theorem gX0_init_X1_init_n21 : GoodIn wsX0_init (wsX1_init) := ggX0_init_X1_init
theorem dX0_init_0 : decode cX0_init 0 = .ok (.aload_n 0, 1) := by decide +kernel
theorem dX0_init_1 : decode cX0_init 1 = .ok (.invokespecial 3, 3) := by decide +kernel
theorem dX0_init_4 : decode cX0_init 4 = .ok (.aload_n 0, 1) := by decide +kernel
theorem dX0_init_5 : decode cX0_init 5 = .ok (.iconst 4, 1) := by decide +kernel
theorem dX0_init_6 : decode cX0_init 6 = .ok (.anewarray 11, 3) := by decide +kernel
theorem dX0_init_9 : decode cX0_init 9 = .ok (.putfield 13, 3) := by decide +kernel
theorem dX0_init_12 : decode cX0_init 12 = .ok (.aload_n 0, 1) := by decide +kernel
theorem dX0_init_13 : decode cX0_init 13 = .ok (.iconst 0, 1) := by decide +kernel
theorem dX0_init_14 : decode cX0_init 14 = .ok (.putfield 17, 3) := by decide +kernel
theorem dX0_init_17 : decode cX0_init 17 = .ok (.iconst 0, 1) := by decide +kernel
theorem dX0_init_18 : decode cX0_init 18 = .ok (.istore_n 1, 1) := by decide +kernel
theorem dX0_init_19 : decode cX0_init 19 = .ok (.iload_n 1, 1) := by decide +kernel
theorem dX0_init_20 : decode cX0_init 20 = .ok (.iconst 4, 1) := by decide +kernel
theorem dX0_init_21 : decode cX0_init 21 = .ok (.if_icmp .ge 22, 3) := by decide +kernel
theorem dX0_init_24 : decode cX0_init 24 = .ok (.aload_n 0, 1) := by decide +kernel
theorem dX0_init_25 : decode cX0_init 25 = .ok (.getfield 13, 3) := by decide +kernel
theorem dX0_init_28 : decode cX0_init 28 = .ok (.iload_n 1, 1) := by decide +kernel
theorem dX0_init_29 : decode cX0_init 29 = .ok (.new 11, 3) := by decide +kernel
theorem dX0_init_32 : decode cX0_init 32 = .ok (.dup, 1) := by decide +kernel
theorem dX0_init_33 : decode cX0_init 33 = .ok (.invokespecial 21, 3) := by decide +kernel
theorem dX0_init_36 : decode cX0_init 36 = .ok (.aastore, 1) := by decide +kernel
theorem dX0_init_37 : decode cX0_init 37 = .ok (.iinc 1 1, 3) := by decide +kernel
theorem dX0_init_40 : decode cX0_init 40 = .ok (.goto (-21), 3) := by decide +kernel
theorem dX0_init_43 : decode cX0_init 43 = .ok (.return_, 1) := by decide +kernel
theorem dX0_states_0 : decode cX0_states 0 = .ok (.aload_n 0, 1) := by decide +kernel
theorem dX0_states_1 : decode cX0_states 1 = .ok (.getfield 17, 3) := by decide +kernel
theorem dX0_states_4 : decode cX0_states 4 = .ok (.ireturn, 1) := by decide +kernel
set_option maxRecDepth 20000 in
theorem ggX0_add_X0_dropOldest : GoodIn wsX0_add wsX0_dropOldest := goodIn_r _ [7, 2, 1, 28, 29] (by decide +kernel) (by decide +kernel)
set_option maxRecDepth 20000 in
theorem gX0_add_X0_dropOldest : GoodIn wsX0_add (wsV RX0 22 RX0 yX0_dropOldest wsX0_dropOldest) := goodIn_app (goodIn_of _ (by decide +kernel)) ggX0_add_X0_dropOldest
set_option maxRecDepth 20000 in
theorem ggX0_add_X1_copyFrom : GoodIn wsX0_add wsX1_copyFrom := goodIn_r _ [12, 13, 14, 15, 16, 17, 18, 19, 20, 21, 22, 23, 24, 25, 26, 27, 30, 31, 32, 33, 34, 35, 36, 37, 38, 39, 40] (by decide +kernel) (by decide +kernel)
set_option maxRecDepth 20000 in
theorem gX0_add_X1_copyFrom : GoodIn wsX0_add (wsV RX0 25 RX1 yX1_copyFrom wsX1_copyFrom) := goodIn_app (goodIn_of _ (by decide +kernel)) ggX0_add_X1_copyFrom
theorem dX0_add_0 : decode cX0_add 0 = .ok (.aload_n 0, 1) := by decide +kernel
theorem dX0_add_1 : decode cX0_add 1 = .ok (.getfield 17, 3) := by decide +kernel
theorem dX0_add_4 : decode cX0_add 4 = .ok (.iconst 4, 1) := by decide +kernel
theorem dX0_add_5 : decode cX0_add 5 = .ok (.if_icmp .lt 7, 3) := by decide +kernel
theorem dX0_add_8 : decode cX0_add 8 = .ok (.aload_n 0, 1) := by decide +kernel
theorem dX0_add_9 : decode cX0_add 9 = .ok (.invokevirtual 22, 3) := by decide +kernel
theorem dX0_add_12 : decode cX0_add 12 = .ok (.aload_n 0, 1) := by decide +kernel
theorem dX0_add_13 : decode cX0_add 13 = .ok (.getfield 13, 3) := by decide +kernel
theorem dX0_add_16 : decode cX0_add 16 = .ok (.aload_n 0, 1) := by decide +kernel
theorem dX0_add_17 : decode cX0_add 17 = .ok (.getfield 17, 3) := by decide +kernel
theorem dX0_add_20 : decode cX0_add 20 = .ok (.aaload, 1) := by decide +kernel
theorem dX0_add_21 : decode cX0_add 21 = .ok (.astore_n 2, 1) := by decide +kernel
theorem dX0_add_22 : decode cX0_add 22 = .ok (.aload_n 2, 1) := by decide +kernel
theorem dX0_add_23 : decode cX0_add 23 = .ok (.ifnull 18, 3) := by decide +kernel
theorem dX0_add_26 : decode cX0_add 26 = .ok (.aload_n 2, 1) := by decide +kernel
theorem dX0_add_27 : decode cX0_add 27 = .ok (.aload_n 1, 1) := by decide +kernel
theorem dX0_add_28 : decode cX0_add 28 = .ok (.invokevirtual 25, 3) := by decide +kernel
theorem dX0_add_31 : decode cX0_add 31 = .ok (.aload_n 0, 1) := by decide +kernel
theorem dX0_add_32 : decode cX0_add 32 = .ok (.dup, 1) := by decide +kernel
theorem dX0_add_33 : decode cX0_add 33 = .ok (.getfield 17, 3) := by decide +kernel
theorem dX0_add_36 : decode cX0_add 36 = .ok (.iconst 1, 1) := by decide +kernel
theorem dX0_add_37 : decode cX0_add 37 = .ok (.iadd, 1) := by decide +kernel
theorem dX0_add_38 : decode cX0_add 38 = .ok (.putfield 17, 3) := by decide +kernel
theorem dX0_add_41 : decode cX0_add 41 = .ok (.return_, 1) := by decide +kernel
theorem dX0_dropOldest_0 : decode cX0_dropOldest 0 = .ok (.aload_n 0, 1) := by decide +kernel
theorem dX0_dropOldest_1 : decode cX0_dropOldest 1 = .ok (.getfield 13, 3) := by decide +kernel
theorem dX0_dropOldest_4 : decode cX0_dropOldest 4 = .ok (.iconst 0, 1) := by decide +kernel
theorem dX0_dropOldest_5 : decode cX0_dropOldest 5 = .ok (.aaload, 1) := by decide +kernel
theorem dX0_dropOldest_6 : decode cX0_dropOldest 6 = .ok (.astore_n 1, 1) := by decide +kernel
theorem dX0_dropOldest_7 : decode cX0_dropOldest 7 = .ok (.iconst 1, 1) := by decide +kernel
theorem dX0_dropOldest_8 : decode cX0_dropOldest 8 = .ok (.istore_n 2, 1) := by decide +kernel
theorem dX0_dropOldest_9 : decode cX0_dropOldest 9 = .ok (.iload_n 2, 1) := by decide +kernel
theorem dX0_dropOldest_10 : decode cX0_dropOldest 10 = .ok (.iconst 4, 1) := by decide +kernel
theorem dX0_dropOldest_11 : decode cX0_dropOldest 11 = .ok (.if_icmp .ge 23, 3) := by decide +kernel
theorem dX0_dropOldest_14 : decode cX0_dropOldest 14 = .ok (.aload_n 0, 1) := by decide +kernel
theorem dX0_dropOldest_15 : decode cX0_dropOldest 15 = .ok (.getfield 13, 3) := by decide +kernel
theorem dX0_dropOldest_18 : decode cX0_dropOldest 18 = .ok (.iload_n 2, 1) := by decide +kernel
theorem dX0_dropOldest_19 : decode cX0_dropOldest 19 = .ok (.iconst 1, 1) := by decide +kernel
theorem dX0_dropOldest_20 : decode cX0_dropOldest 20 = .ok (.isub, 1) := by decide +kernel
theorem dX0_dropOldest_21 : decode cX0_dropOldest 21 = .ok (.aload_n 0, 1) := by decide +kernel
theorem dX0_dropOldest_22 : decode cX0_dropOldest 22 = .ok (.getfield 13, 3) := by decide +kernel
theorem dX0_dropOldest_25 : decode cX0_dropOldest 25 = .ok (.iload_n 2, 1) := by decide +kernel
theorem dX0_dropOldest_26 : decode cX0_dropOldest 26 = .ok (.aaload, 1) := by decide +kernel
theorem dX0_dropOldest_27 : decode cX0_dropOldest 27 = .ok (.aastore, 1) := by decide +kernel
theorem dX0_dropOldest_28 : decode cX0_dropOldest 28 = .ok (.iinc 2 1, 3) := by decide +kernel
theorem dX0_dropOldest_31 : decode cX0_dropOldest 31 = .ok (.goto (-22), 3) := by decide +kernel
theorem dX0_dropOldest_34 : decode cX0_dropOldest 34 = .ok (.aload_n 0, 1) := by decide +kernel
theorem dX0_dropOldest_35 : decode cX0_dropOldest 35 = .ok (.getfield 13, 3) := by decide +kernel
theorem dX0_dropOldest_38 : decode cX0_dropOldest 38 = .ok (.iconst 3, 1) := by decide +kernel
theorem dX0_dropOldest_39 : decode cX0_dropOldest 39 = .ok (.aload_n 1, 1) := by decide +kernel
theorem dX0_dropOldest_40 : decode cX0_dropOldest 40 = .ok (.aastore, 1) := by decide +kernel
theorem dX0_dropOldest_41 : decode cX0_dropOldest 41 = .ok (.aload_n 0, 1) := by decide +kernel
theorem dX0_dropOldest_42 : decode cX0_dropOldest 42 = .ok (.iconst 3, 1) := by decide +kernel
theorem dX0_dropOldest_43 : decode cX0_dropOldest 43 = .ok (.putfield 17, 3) := by decide +kernel
theorem dX0_dropOldest_46 : decode cX0_dropOldest 46 = .ok (.return_, 1) := by decide +kernel
set_option maxRecDepth 20000 in
theorem ggX0_takeLatest_X1_copyFrom : GoodIn wsX0_takeLatest wsX1_copyFrom := goodIn_r _ [7, 8, 9, 10, 11, 12, 13, 14, 15, 16, 17, 18, 19, 20, 21, 22, 25, 26, 27, 28, 29, 30, 31, 32, 33, 34, 35] (by decide +kernel) (by decide +kernel)
set_option maxRecDepth 20000 in
theorem gX0_takeLatest_X1_copyFrom : GoodIn wsX0_takeLatest (wsV RX0 25 RX1 yX1_copyFrom wsX1_copyFrom) := goodIn_app (goodIn_of _ (by decide +kernel)) ggX0_takeLatest_X1_copyFrom
theorem dX0_takeLatest_0 : decode cX0_takeLatest 0 = .ok (.aload_n 0, 1) := by decide +kernel
theorem dX0_takeLatest_1 : decode cX0_takeLatest 1 = .ok (.getfield 17, 3) := by decide +kernel
theorem dX0_takeLatest_4 : decode cX0_takeLatest 4 = .ok (.ifCond .le 7, 3) := by decide +kernel
theorem dX0_takeLatest_7 : decode cX0_takeLatest 7 = .ok (.aload_n 1, 1) := by decide +kernel
theorem dX0_takeLatest_8 : decode cX0_takeLatest 8 = .ok (.ifnonnull 6, 3) := by decide +kernel
theorem dX0_takeLatest_11 : decode cX0_takeLatest 11 = .ok (.bipush (-5), 2) := by decide +kernel
theorem dX0_takeLatest_13 : decode cX0_takeLatest 13 = .ok (.ireturn, 1) := by decide +kernel
theorem dX0_takeLatest_14 : decode cX0_takeLatest 14 = .ok (.aload_n 0, 1) := by decide +kernel
theorem dX0_takeLatest_15 : decode cX0_takeLatest 15 = .ok (.dup, 1) := by decide +kernel
theorem dX0_takeLatest_16 : decode cX0_takeLatest 16 = .ok (.getfield 17, 3) := by decide +kernel
theorem dX0_takeLatest_19 : decode cX0_takeLatest 19 = .ok (.iconst 1, 1) := by decide +kernel
theorem dX0_takeLatest_20 : decode cX0_takeLatest 20 = .ok (.isub, 1) := by decide +kernel
theorem dX0_takeLatest_21 : decode cX0_takeLatest 21 = .ok (.putfield 17, 3) := by decide +kernel
theorem dX0_takeLatest_24 : decode cX0_takeLatest 24 = .ok (.aload_n 1, 1) := by decide +kernel
theorem dX0_takeLatest_25 : decode cX0_takeLatest 25 = .ok (.aload_n 0, 1) := by decide +kernel
theorem dX0_takeLatest_26 : decode cX0_takeLatest 26 = .ok (.getfield 13, 3) := by decide +kernel
theorem dX0_takeLatest_29 : decode cX0_takeLatest 29 = .ok (.aload_n 0, 1) := by decide +kernel
theorem dX0_takeLatest_30 : decode cX0_takeLatest 30 = .ok (.getfield 17, 3) := by decide +kernel
theorem dX0_takeLatest_33 : decode cX0_takeLatest 33 = .ok (.aaload, 1) := by decide +kernel
theorem dX0_takeLatest_34 : decode cX0_takeLatest 34 = .ok (.invokevirtual 25, 3) := by decide +kernel
theorem dX0_takeLatest_37 : decode cX0_takeLatest 37 = .ok (.aload_n 0, 1) := by decide +kernel
theorem dX0_takeLatest_38 : decode cX0_takeLatest 38 = .ok (.getfield 17, 3) := by decide +kernel
theorem dX0_takeLatest_41 : decode cX0_takeLatest 41 = .ok (.ireturn, 1) := by decide +kernel
theorem dX1_init_0 : decode cX1_init 0 = .ok (.aload_n 0, 1) := by decide +kernel
theorem dX1_init_1 : decode cX1_init 1 = .ok (.invokespecial 3, 3) := by decide +kernel
theorem dX1_init_4 : decode cX1_init 4 = .ok (.aload_n 0, 1) := by decide +kernel
theorem dX1_init_5 : decode cX1_init 5 = .ok (.iconst 5, 1) := by decide +kernel
theorem dX1_init_6 : decode cX1_init 6 = .ok (.newarray .int, 2) := by decide +kernel
theorem dX1_init_8 : decode cX1_init 8 = .ok (.dup, 1) := by decide +kernel
theorem dX1_init_9 : decode cX1_init 9 = .ok (.iconst 0, 1) := by decide +kernel
theorem dX1_init_10 : decode cX1_init 10 = .ok (.bipush 31, 2) := by decide +kernel
theorem dX1_init_12 : decode cX1_init 12 = .ok (.iastore, 1) := by decide +kernel
theorem dX1_init_13 : decode cX1_init 13 = .ok (.dup, 1) := by decide +kernel
theorem dX1_init_14 : decode cX1_init 14 = .ok (.iconst 1, 1) := by decide +kernel
theorem dX1_init_15 : decode cX1_init 15 = .ok (.bipush 17, 2) := by decide +kernel
theorem dX1_init_17 : decode cX1_init 17 = .ok (.iastore, 1) := by decide +kernel
theorem dX1_init_18 : decode cX1_init 18 = .ok (.dup, 1) := by decide +kernel
theorem dX1_init_19 : decode cX1_init 19 = .ok (.iconst 2, 1) := by decide +kernel
theorem dX1_init_20 : decode cX1_init 20 = .ok (.bipush 97, 2) := by decide +kernel
theorem dX1_init_22 : decode cX1_init 22 = .ok (.iastore, 1) := by decide +kernel
theorem dX1_init_23 : decode cX1_init 23 = .ok (.dup, 1) := by decide +kernel
theorem dX1_init_24 : decode cX1_init 24 = .ok (.iconst 3, 1) := by decide +kernel
theorem dX1_init_25 : decode cX1_init 25 = .ok (.bipush 10, 2) := by decide +kernel
theorem dX1_init_27 : decode cX1_init 27 = .ok (.iastore, 1) := by decide +kernel
theorem dX1_init_28 : decode cX1_init 28 = .ok (.dup, 1) := by decide +kernel
theorem dX1_init_29 : decode cX1_init 29 = .ok (.iconst 4, 1) := by decide +kernel
theorem dX1_init_30 : decode cX1_init 30 = .ok (.iconst 5, 1) := by decide +kernel
theorem dX1_init_31 : decode cX1_init 31 = .ok (.iastore, 1) := by decide +kernel
theorem dX1_init_32 : decode cX1_init 32 = .ok (.putfield 9, 3) := by decide +kernel
theorem dX1_init_35 : decode cX1_init 35 = .ok (.aload_n 0, 1) := by decide +kernel
theorem dX1_init_36 : decode cX1_init 36 = .ok (.bipush 24, 2) := by decide +kernel
theorem dX1_init_38 : decode cX1_init 38 = .ok (.newarray .int, 2) := by decide +kernel
theorem dX1_init_40 : decode cX1_init 40 = .ok (.putfield 15, 3) := by decide +kernel
theorem dX1_init_43 : decode cX1_init 43 = .ok (.aload_n 0, 1) := by decide +kernel
theorem dX1_init_44 : decode cX1_init 44 = .ok (.bipush 24, 2) := by decide +kernel
theorem dX1_init_46 : decode cX1_init 46 = .ok (.newarray .int, 2) := by decide +kernel
theorem dX1_init_48 : decode cX1_init 48 = .ok (.putfield 18, 3) := by decide +kernel
theorem dX1_init_51 : decode cX1_init 51 = .ok (.aload_n 0, 1) := by decide +kernel
theorem dX1_init_52 : decode cX1_init 52 = .ok (.bipush 24, 2) := by decide +kernel
theorem dX1_init_54 : decode cX1_init 54 = .ok (.newarray .int, 2) := by decide +kernel
theorem dX1_init_56 : decode cX1_init 56 = .ok (.putfield 21, 3) := by decide +kernel
theorem dX1_init_59 : decode cX1_init 59 = .ok (.aload_n 0, 1) := by decide +kernel
theorem dX1_init_60 : decode cX1_init 60 = .ok (.bipush 24, 2) := by decide +kernel
theorem dX1_init_62 : decode cX1_init 62 = .ok (.newarray .int, 2) := by decide +kernel
theorem dX1_init_64 : decode cX1_init 64 = .ok (.putfield 24, 3) := by decide +kernel
theorem dX1_init_67 : decode cX1_init 67 = .ok (.aload_n 0, 1) := by decide +kernel
theorem dX1_init_68 : decode cX1_init 68 = .ok (.bipush 24, 2) := by decide +kernel
theorem dX1_init_70 : decode cX1_init 70 = .ok (.newarray .int, 2) := by decide +kernel
theorem dX1_init_72 : decode cX1_init 72 = .ok (.putfield 27, 3) := by decide +kernel
theorem dX1_init_75 : decode cX1_init 75 = .ok (.aload_n 0, 1) := by decide +kernel
theorem dX1_init_76 : decode cX1_init 76 = .ok (.iconst 0, 1) := by decide +kernel
theorem dX1_init_77 : decode cX1_init 77 = .ok (.putfield 30, 3) := by decide +kernel
theorem dX1_init_80 : decode cX1_init 80 = .ok (.aload_n 0, 1) := by decide +kernel
theorem dX1_init_81 : decode cX1_init 81 = .ok (.iconst 0, 1) := by decide +kernel
theorem dX1_init_82 : decode cX1_init 82 = .ok (.putfield 34, 3) := by decide +kernel
theorem dX1_init_85 : decode cX1_init 85 = .ok (.aload_n 0, 1) := by decide +kernel
theorem dX1_init_86 : decode cX1_init 86 = .ok (.iconst 0, 1) := by decide +kernel
theorem dX1_init_87 : decode cX1_init 87 = .ok (.putfield 37, 3) := by decide +kernel
theorem dX1_init_90 : decode cX1_init 90 = .ok (.aload_n 0, 1) := by decide +kernel
theorem dX1_init_91 : decode cX1_init 91 = .ok (.iconst 0, 1) := by decide +kernel
theorem dX1_init_92 : decode cX1_init 92 = .ok (.putfield 40, 3) := by decide +kernel
theorem dX1_init_95 : decode cX1_init 95 = .ok (.aload_n 0, 1) := by decide +kernel
theorem dX1_init_96 : decode cX1_init 96 = .ok (.iconst 0, 1) := by decide +kernel
theorem dX1_init_97 : decode cX1_init 97 = .ok (.putfield 43, 3) := by decide +kernel
theorem dX1_init_100 : decode cX1_init 100 = .ok (.return_, 1) := by decide +kernel
theorem dX1_copyFrom_0 : decode cX1_copyFrom 0 = .ok (.aload_n 1, 1) := by decide +kernel
theorem dX1_copyFrom_1 : decode cX1_copyFrom 1 = .ok (.ifnonnull 4, 3) := by decide +kernel
theorem dX1_copyFrom_4 : decode cX1_copyFrom 4 = .ok (.return_, 1) := by decide +kernel
theorem dX1_copyFrom_5 : decode cX1_copyFrom 5 = .ok (.aload_n 1, 1) := by decide +kernel
theorem dX1_copyFrom_6 : decode cX1_copyFrom 6 = .ok (.getfield 9, 3) := by decide +kernel
theorem dX1_copyFrom_9 : decode cX1_copyFrom 9 = .ok (.iconst 0, 1) := by decide +kernel
theorem dX1_copyFrom_10 : decode cX1_copyFrom 10 = .ok (.aload_n 0, 1) := by decide +kernel
theorem dX1_copyFrom_11 : decode cX1_copyFrom 11 = .ok (.getfield 9, 3) := by decide +kernel
theorem dX1_copyFrom_14 : decode cX1_copyFrom 14 = .ok (.iconst 0, 1) := by decide +kernel
theorem dX1_copyFrom_15 : decode cX1_copyFrom 15 = .ok (.iconst 5, 1) := by decide +kernel
theorem dX1_copyFrom_16 : decode cX1_copyFrom 16 = .ok (.invokestatic 46, 3) := by decide +kernel
theorem dX1_copyFrom_19 : decode cX1_copyFrom 19 = .ok (.aload_n 1, 1) := by decide +kernel
theorem dX1_copyFrom_20 : decode cX1_copyFrom 20 = .ok (.getfield 15, 3) := by decide +kernel
theorem dX1_copyFrom_23 : decode cX1_copyFrom 23 = .ok (.iconst 0, 1) := by decide +kernel
theorem dX1_copyFrom_24 : decode cX1_copyFrom 24 = .ok (.aload_n 0, 1) := by decide +kernel
theorem dX1_copyFrom_25 : decode cX1_copyFrom 25 = .ok (.getfield 15, 3) := by decide +kernel
theorem dX1_copyFrom_28 : decode cX1_copyFrom 28 = .ok (.iconst 0, 1) := by decide +kernel
theorem dX1_copyFrom_29 : decode cX1_copyFrom 29 = .ok (.bipush 24, 2) := by decide +kernel
theorem dX1_copyFrom_31 : decode cX1_copyFrom 31 = .ok (.invokestatic 46, 3) := by decide +kernel
theorem dX1_copyFrom_34 : decode cX1_copyFrom 34 = .ok (.aload_n 1, 1) := by decide +kernel
theorem dX1_copyFrom_35 : decode cX1_copyFrom 35 = .ok (.getfield 18, 3) := by decide +kernel
theorem dX1_copyFrom_38 : decode cX1_copyFrom 38 = .ok (.iconst 0, 1) := by decide +kernel
theorem dX1_copyFrom_39 : decode cX1_copyFrom 39 = .ok (.aload_n 0, 1) := by decide +kernel
theorem dX1_copyFrom_40 : decode cX1_copyFrom 40 = .ok (.getfield 18, 3) := by decide +kernel
theorem dX1_copyFrom_43 : decode cX1_copyFrom 43 = .ok (.iconst 0, 1) := by decide +kernel
theorem dX1_copyFrom_44 : decode cX1_copyFrom 44 = .ok (.bipush 24, 2) := by decide +kernel
theorem dX1_copyFrom_46 : decode cX1_copyFrom 46 = .ok (.invokestatic 46, 3) := by decide +kernel
theorem dX1_copyFrom_49 : decode cX1_copyFrom 49 = .ok (.aload_n 1, 1) := by decide +kernel
theorem dX1_copyFrom_50 : decode cX1_copyFrom 50 = .ok (.getfield 21, 3) := by decide +kernel
theorem dX1_copyFrom_53 : decode cX1_copyFrom 53 = .ok (.iconst 0, 1) := by decide +kernel
theorem dX1_copyFrom_54 : decode cX1_copyFrom 54 = .ok (.aload_n 0, 1) := by decide +kernel
theorem dX1_copyFrom_55 : decode cX1_copyFrom 55 = .ok (.getfield 21, 3) := by decide +kernel
theorem dX1_copyFrom_58 : decode cX1_copyFrom 58 = .ok (.iconst 0, 1) := by decide +kernel
theorem dX1_copyFrom_59 : decode cX1_copyFrom 59 = .ok (.bipush 24, 2) := by decide +kernel
theorem dX1_copyFrom_61 : decode cX1_copyFrom 61 = .ok (.invokestatic 46, 3) := by decide +kernel
theorem dX1_copyFrom_64 : decode cX1_copyFrom 64 = .ok (.aload_n 1, 1) := by decide +kernel
theorem dX1_copyFrom_65 : decode cX1_copyFrom 65 = .ok (.getfield 24, 3) := by decide +kernel
theorem dX1_copyFrom_68 : decode cX1_copyFrom 68 = .ok (.iconst 0, 1) := by decide +kernel
theorem dX1_copyFrom_69 : decode cX1_copyFrom 69 = .ok (.aload_n 0, 1) := by decide +kernel
theorem dX1_copyFrom_70 : decode cX1_copyFrom 70 = .ok (.getfield 24, 3) := by decide +kernel
theorem dX1_copyFrom_73 : decode cX1_copyFrom 73 = .ok (.iconst 0, 1) := by decide +kernel
theorem dX1_copyFrom_74 : decode cX1_copyFrom 74 = .ok (.bipush 24, 2) := by decide +kernel
theorem dX1_copyFrom_76 : decode cX1_copyFrom 76 = .ok (.invokestatic 46, 3) := by decide +kernel
theorem dX1_copyFrom_79 : decode cX1_copyFrom 79 = .ok (.aload_n 1, 1) := by decide +kernel
theorem dX1_copyFrom_80 : decode cX1_copyFrom 80 = .ok (.getfield 27, 3) := by decide +kernel
theorem dX1_copyFrom_83 : decode cX1_copyFrom 83 = .ok (.iconst 0, 1) := by decide +kernel
theorem dX1_copyFrom_84 : decode cX1_copyFrom 84 = .ok (.aload_n 0, 1) := by decide +kernel
theorem dX1_copyFrom_85 : decode cX1_copyFrom 85 = .ok (.getfield 27, 3) := by decide +kernel
theorem dX1_copyFrom_88 : decode cX1_copyFrom 88 = .ok (.iconst 0, 1) := by decide +kernel
theorem dX1_copyFrom_89 : decode cX1_copyFrom 89 = .ok (.bipush 24, 2) := by decide +kernel
theorem dX1_copyFrom_91 : decode cX1_copyFrom 91 = .ok (.invokestatic 46, 3) := by decide +kernel
theorem dX1_copyFrom_94 : decode cX1_copyFrom 94 = .ok (.aload_n 0, 1) := by decide +kernel
theorem dX1_copyFrom_95 : decode cX1_copyFrom 95 = .ok (.aload_n 1, 1) := by decide +kernel
theorem dX1_copyFrom_96 : decode cX1_copyFrom 96 = .ok (.getfield 30, 3) := by decide +kernel
theorem dX1_copyFrom_99 : decode cX1_copyFrom 99 = .ok (.putfield 30, 3) := by decide +kernel
theorem dX1_copyFrom_102 : decode cX1_copyFrom 102 = .ok (.aload_n 0, 1) := by decide +kernel
theorem dX1_copyFrom_103 : decode cX1_copyFrom 103 = .ok (.aload_n 1, 1) := by decide +kernel
theorem dX1_copyFrom_104 : decode cX1_copyFrom 104 = .ok (.getfield 34, 3) := by decide +kernel
theorem dX1_copyFrom_107 : decode cX1_copyFrom 107 = .ok (.putfield 34, 3) := by decide +kernel
theorem dX1_copyFrom_110 : decode cX1_copyFrom 110 = .ok (.aload_n 0, 1) := by decide +kernel
theorem dX1_copyFrom_111 : decode cX1_copyFrom 111 = .ok (.aload_n 1, 1) := by decide +kernel
theorem dX1_copyFrom_112 : decode cX1_copyFrom 112 = .ok (.getfield 37, 3) := by decide +kernel
theorem dX1_copyFrom_115 : decode cX1_copyFrom 115 = .ok (.putfield 37, 3) := by decide +kernel
theorem dX1_copyFrom_118 : decode cX1_copyFrom 118 = .ok (.aload_n 0, 1) := by decide +kernel
theorem dX1_copyFrom_119 : decode cX1_copyFrom 119 = .ok (.aload_n 1, 1) := by decide +kernel
theorem dX1_copyFrom_120 : decode cX1_copyFrom 120 = .ok (.getfield 40, 3) := by decide +kernel
theorem dX1_copyFrom_123 : decode cX1_copyFrom 123 = .ok (.putfield 40, 3) := by decide +kernel
theorem dX1_copyFrom_126 : decode cX1_copyFrom 126 = .ok (.aload_n 0, 1) := by decide +kernel
theorem dX1_copyFrom_127 : decode cX1_copyFrom 127 = .ok (.aload_n 1, 1) := by decide +kernel
theorem dX1_copyFrom_128 : decode cX1_copyFrom 128 = .ok (.getfield 43, 3) := by decide +kernel
theorem dX1_copyFrom_131 : decode cX1_copyFrom 131 = .ok (.putfield 43, 3) := by decide +kernel
theorem dX1_copyFrom_134 : decode cX1_copyFrom 134 = .ok (.return_, 1) := by decide +kernel
theorem dX1_carts_0 : decode cX1_carts 0 = .ok (.aload_n 0, 1) := by decide +kernel
theorem dX1_carts_1 : decode cX1_carts 1 = .ok (.getfield 30, 3) := by decide +kernel
theorem dX1_carts_4 : decode cX1_carts 4 = .ok (.ireturn, 1) := by decide +kernel
set_option maxRecDepth 20000 in
theorem ggX1_admit_X1_knows : GoodIn wsX1_admit wsX1_knows := goodIn_r _ [12, 1, 25, 26, 27, 28, 29, 30, 31, 32, 33, 34, 35] (by decide +kernel) (by decide +kernel)
set_option maxRecDepth 20000 in
theorem gX1_admit_X1_knows : GoodIn wsX1_admit (wsV RX1 52 RX1 yX1_knows wsX1_knows) := goodIn_app (goodIn_of _ (by decide +kernel)) ggX1_admit_X1_knows
set_option maxRecDepth 20000 in
theorem ggX1_admit_X1_isSacks : GoodIn wsX1_admit wsX1_isSacks := goodIn_r _ [15] (by decide +kernel) (by decide +kernel)
set_option maxRecDepth 20000 in
theorem gX1_admit_X1_isSacks : GoodIn wsX1_admit (va_wsS RX1 56 yX1_isSacks wsX1_isSacks) := goodIn_app (goodIn_of _ (by decide +kernel)) ggX1_admit_X1_isSacks
set_option maxRecDepth 20000 in
theorem ggX1_admit_X1_rightSeal : GoodIn wsX1_admit wsX1_rightSeal := goodIn_r _ [19, 2, 20, 21, 22, 11, 23, 24, 4, 1, 6, 25, 26, 27, 28, 29, 30, 31, 32, 33, 34, 35] (by decide +kernel) (by decide +kernel)
set_option maxRecDepth 20000 in
theorem gX1_admit_X1_rightSeal : GoodIn wsX1_admit (wsV RX1 59 RX1 yX1_rightSeal wsX1_rightSeal) := goodIn_app (goodIn_of _ (by decide +kernel)) ggX1_admit_X1_rightSeal
theorem dX1_admit_0 : decode cX1_admit 0 = .ok (.iload_n 3, 1) := by decide +kernel
theorem dX1_admit_1 : decode cX1_admit 1 = .ok (.iconst (-1), 1) := by decide +kernel
theorem dX1_admit_2 : decode cX1_admit 2 = .ok (.if_icmp .eq 13, 3) := by decide +kernel
theorem dX1_admit_5 : decode cX1_admit 5 = .ok (.aload_n 0, 1) := by decide +kernel
theorem dX1_admit_6 : decode cX1_admit 6 = .ok (.iload_n 3, 1) := by decide +kernel
theorem dX1_admit_7 : decode cX1_admit 7 = .ok (.invokevirtual 52, 3) := by decide +kernel
theorem dX1_admit_10 : decode cX1_admit 10 = .ok (.ifCond .ne 5, 3) := by decide +kernel
theorem dX1_admit_13 : decode cX1_admit 13 = .ok (.iconst (-1), 1) := by decide +kernel
theorem dX1_admit_14 : decode cX1_admit 14 = .ok (.ireturn, 1) := by decide +kernel
theorem dX1_admit_15 : decode cX1_admit 15 = .ok (.iload_n 1, 1) := by decide +kernel
theorem dX1_admit_16 : decode cX1_admit 16 = .ok (.invokestatic 56, 3) := by decide +kernel
theorem dX1_admit_19 : decode cX1_admit 19 = .ok (.ifCond .eq 10, 3) := by decide +kernel
theorem dX1_admit_22 : decode cX1_admit 22 = .ok (.iload_n 2, 1) := by decide +kernel
theorem dX1_admit_23 : decode cX1_admit 23 = .ok (.invokestatic 56, 3) := by decide +kernel
theorem dX1_admit_26 : decode cX1_admit 26 = .ok (.ifCond .ne 6, 3) := by decide +kernel
theorem dX1_admit_29 : decode cX1_admit 29 = .ok (.bipush (-2), 2) := by decide +kernel
theorem dX1_admit_31 : decode cX1_admit 31 = .ok (.ireturn, 1) := by decide +kernel
theorem dX1_admit_32 : decode cX1_admit 32 = .ok (.aload_n 0, 1) := by decide +kernel
theorem dX1_admit_33 : decode cX1_admit 33 = .ok (.getfield 30, 3) := by decide +kernel
theorem dX1_admit_36 : decode cX1_admit 36 = .ok (.bipush 24, 2) := by decide +kernel
theorem dX1_admit_38 : decode cX1_admit 38 = .ok (.if_icmp .lt 6, 3) := by decide +kernel
theorem dX1_admit_41 : decode cX1_admit 41 = .ok (.bipush (-3), 2) := by decide +kernel
theorem dX1_admit_43 : decode cX1_admit 43 = .ok (.ireturn, 1) := by decide +kernel
theorem dX1_admit_44 : decode cX1_admit 44 = .ok (.aload_n 0, 1) := by decide +kernel
theorem dX1_admit_45 : decode cX1_admit 45 = .ok (.getfield 30, 3) := by decide +kernel
theorem dX1_admit_48 : decode cX1_admit 48 = .ok (.istore 4, 2) := by decide +kernel
theorem dX1_admit_50 : decode cX1_admit 50 = .ok (.aload_n 0, 1) := by decide +kernel
theorem dX1_admit_51 : decode cX1_admit 51 = .ok (.dup, 1) := by decide +kernel
theorem dX1_admit_52 : decode cX1_admit 52 = .ok (.getfield 30, 3) := by decide +kernel
theorem dX1_admit_55 : decode cX1_admit 55 = .ok (.iconst 1, 1) := by decide +kernel
theorem dX1_admit_56 : decode cX1_admit 56 = .ok (.iadd, 1) := by decide +kernel
theorem dX1_admit_57 : decode cX1_admit 57 = .ok (.putfield 30, 3) := by decide +kernel
theorem dX1_admit_60 : decode cX1_admit 60 = .ok (.aload_n 0, 1) := by decide +kernel
theorem dX1_admit_61 : decode cX1_admit 61 = .ok (.getfield 15, 3) := by decide +kernel
theorem dX1_admit_64 : decode cX1_admit 64 = .ok (.iload 4, 2) := by decide +kernel
theorem dX1_admit_66 : decode cX1_admit 66 = .ok (.iload_n 1, 1) := by decide +kernel
theorem dX1_admit_67 : decode cX1_admit 67 = .ok (.iastore, 1) := by decide +kernel
theorem dX1_admit_68 : decode cX1_admit 68 = .ok (.aload_n 0, 1) := by decide +kernel
theorem dX1_admit_69 : decode cX1_admit 69 = .ok (.getfield 18, 3) := by decide +kernel
theorem dX1_admit_72 : decode cX1_admit 72 = .ok (.iload 4, 2) := by decide +kernel
theorem dX1_admit_74 : decode cX1_admit 74 = .ok (.iload_n 2, 1) := by decide +kernel
theorem dX1_admit_75 : decode cX1_admit 75 = .ok (.iastore, 1) := by decide +kernel
theorem dX1_admit_76 : decode cX1_admit 76 = .ok (.aload_n 0, 1) := by decide +kernel
theorem dX1_admit_77 : decode cX1_admit 77 = .ok (.getfield 21, 3) := by decide +kernel
theorem dX1_admit_80 : decode cX1_admit 80 = .ok (.iload 4, 2) := by decide +kernel
theorem dX1_admit_82 : decode cX1_admit 82 = .ok (.iload_n 3, 1) := by decide +kernel
theorem dX1_admit_83 : decode cX1_admit 83 = .ok (.iastore, 1) := by decide +kernel
theorem dX1_admit_84 : decode cX1_admit 84 = .ok (.aload_n 0, 1) := by decide +kernel
theorem dX1_admit_85 : decode cX1_admit 85 = .ok (.getfield 27, 3) := by decide +kernel
theorem dX1_admit_88 : decode cX1_admit 88 = .ok (.iload 4, 2) := by decide +kernel
theorem dX1_admit_90 : decode cX1_admit 90 = .ok (.iconst 0, 1) := by decide +kernel
theorem dX1_admit_91 : decode cX1_admit 91 = .ok (.iastore, 1) := by decide +kernel
theorem dX1_admit_92 : decode cX1_admit 92 = .ok (.aload_n 0, 1) := by decide +kernel
theorem dX1_admit_93 : decode cX1_admit 93 = .ok (.getfield 24, 3) := by decide +kernel
theorem dX1_admit_96 : decode cX1_admit 96 = .ok (.iload 4, 2) := by decide +kernel
theorem dX1_admit_98 : decode cX1_admit 98 = .ok (.aload_n 0, 1) := by decide +kernel
theorem dX1_admit_99 : decode cX1_admit 99 = .ok (.iload 4, 2) := by decide +kernel
theorem dX1_admit_101 : decode cX1_admit 101 = .ok (.invokevirtual 59, 3) := by decide +kernel
theorem dX1_admit_104 : decode cX1_admit 104 = .ok (.iastore, 1) := by decide +kernel
theorem dX1_admit_105 : decode cX1_admit 105 = .ok (.aload_n 0, 1) := by decide +kernel
theorem dX1_admit_106 : decode cX1_admit 106 = .ok (.dup, 1) := by decide +kernel
theorem dX1_admit_107 : decode cX1_admit 107 = .ok (.getfield 43, 3) := by decide +kernel
theorem dX1_admit_110 : decode cX1_admit 110 = .ok (.iload_n 1, 1) := by decide +kernel
theorem dX1_admit_111 : decode cX1_admit 111 = .ok (.iadd, 1) := by decide +kernel
theorem dX1_admit_112 : decode cX1_admit 112 = .ok (.putfield 43, 3) := by decide +kernel
theorem dX1_admit_115 : decode cX1_admit 115 = .ok (.iload 4, 2) := by decide +kernel
theorem dX1_admit_117 : decode cX1_admit 117 = .ok (.ireturn, 1) := by decide +kernel
set_option maxRecDepth 20000 in
theorem ggX1_changeClaim_X1_knows : GoodIn wsX1_changeClaim wsX1_knows := goodIn_r _ [7, 8, 18, 19, 20, 21, 22, 23, 24, 25, 26, 27, 28] (by decide +kernel) (by decide +kernel)
set_option maxRecDepth 20000 in
theorem gX1_changeClaim_X1_knows : GoodIn wsX1_changeClaim (wsV RX1 52 RX1 yX1_knows wsX1_knows) := goodIn_app (goodIn_of _ (by decide +kernel)) ggX1_changeClaim_X1_knows
set_option maxRecDepth 20000 in
theorem ggX1_changeClaim_X1_isSacks : GoodIn wsX1_changeClaim wsX1_isSacks := goodIn_r _ [11] (by decide +kernel) (by decide +kernel)
set_option maxRecDepth 20000 in
theorem gX1_changeClaim_X1_isSacks : GoodIn wsX1_changeClaim (va_wsS RX1 56 yX1_isSacks wsX1_isSacks) := goodIn_app (goodIn_of _ (by decide +kernel)) ggX1_changeClaim_X1_isSacks
set_option maxRecDepth 20000 in
theorem ggX1_changeClaim_X1_isIn : GoodIn wsX1_changeClaim wsX1_isIn := goodIn_r _ [14, 15, 16, 6, 17] (by decide +kernel) (by decide +kernel)
set_option maxRecDepth 20000 in
theorem gX1_changeClaim_X1_isIn : GoodIn wsX1_changeClaim (va_wsS RX1 63 yX1_isIn wsX1_isIn) := goodIn_app (goodIn_of _ (by decide +kernel)) ggX1_changeClaim_X1_isIn
theorem dX1_changeClaim_0 : decode cX1_changeClaim 0 = .ok (.aload_n 0, 1) := by decide +kernel
theorem dX1_changeClaim_1 : decode cX1_changeClaim 1 = .ok (.iload_n 1, 1) := by decide +kernel
theorem dX1_changeClaim_2 : decode cX1_changeClaim 2 = .ok (.invokevirtual 52, 3) := by decide +kernel
theorem dX1_changeClaim_5 : decode cX1_changeClaim 5 = .ok (.ifCond .ne 5, 3) := by decide +kernel
theorem dX1_changeClaim_8 : decode cX1_changeClaim 8 = .ok (.iconst (-1), 1) := by decide +kernel
theorem dX1_changeClaim_9 : decode cX1_changeClaim 9 = .ok (.ireturn, 1) := by decide +kernel
theorem dX1_changeClaim_10 : decode cX1_changeClaim 10 = .ok (.iload_n 2, 1) := by decide +kernel
theorem dX1_changeClaim_11 : decode cX1_changeClaim 11 = .ok (.invokestatic 56, 3) := by decide +kernel
theorem dX1_changeClaim_14 : decode cX1_changeClaim 14 = .ok (.ifCond .ne 6, 3) := by decide +kernel
theorem dX1_changeClaim_17 : decode cX1_changeClaim 17 = .ok (.bipush (-2), 2) := by decide +kernel
theorem dX1_changeClaim_19 : decode cX1_changeClaim 19 = .ok (.ireturn, 1) := by decide +kernel
theorem dX1_changeClaim_20 : decode cX1_changeClaim 20 = .ok (.aload_n 0, 1) := by decide +kernel
theorem dX1_changeClaim_21 : decode cX1_changeClaim 21 = .ok (.getfield 34, 3) := by decide +kernel
theorem dX1_changeClaim_24 : decode cX1_changeClaim 24 = .ok (.iload_n 1, 1) := by decide +kernel
theorem dX1_changeClaim_25 : decode cX1_changeClaim 25 = .ok (.invokestatic 63, 3) := by decide +kernel
theorem dX1_changeClaim_28 : decode cX1_changeClaim 28 = .ok (.ifCond .eq 6, 3) := by decide +kernel
theorem dX1_changeClaim_31 : decode cX1_changeClaim 31 = .ok (.bipush (-4), 2) := by decide +kernel
theorem dX1_changeClaim_33 : decode cX1_changeClaim 33 = .ok (.ireturn, 1) := by decide +kernel
theorem dX1_changeClaim_34 : decode cX1_changeClaim 34 = .ok (.aload_n 0, 1) := by decide +kernel
theorem dX1_changeClaim_35 : decode cX1_changeClaim 35 = .ok (.getfield 15, 3) := by decide +kernel
theorem dX1_changeClaim_38 : decode cX1_changeClaim 38 = .ok (.iload_n 1, 1) := by decide +kernel
theorem dX1_changeClaim_39 : decode cX1_changeClaim 39 = .ok (.iaload, 1) := by decide +kernel
theorem dX1_changeClaim_40 : decode cX1_changeClaim 40 = .ok (.istore_n 3, 1) := by decide +kernel
theorem dX1_changeClaim_41 : decode cX1_changeClaim 41 = .ok (.iload_n 3, 1) := by decide +kernel
theorem dX1_changeClaim_42 : decode cX1_changeClaim 42 = .ok (.iload_n 2, 1) := by decide +kernel
theorem dX1_changeClaim_43 : decode cX1_changeClaim 43 = .ok (.if_icmp .ne 6, 3) := by decide +kernel
theorem dX1_changeClaim_46 : decode cX1_changeClaim 46 = .ok (.bipush (-5), 2) := by decide +kernel
theorem dX1_changeClaim_48 : decode cX1_changeClaim 48 = .ok (.ireturn, 1) := by decide +kernel
theorem dX1_changeClaim_49 : decode cX1_changeClaim 49 = .ok (.aload_n 0, 1) := by decide +kernel
theorem dX1_changeClaim_50 : decode cX1_changeClaim 50 = .ok (.getfield 15, 3) := by decide +kernel
theorem dX1_changeClaim_53 : decode cX1_changeClaim 53 = .ok (.iload_n 1, 1) := by decide +kernel
theorem dX1_changeClaim_54 : decode cX1_changeClaim 54 = .ok (.iload_n 2, 1) := by decide +kernel
theorem dX1_changeClaim_55 : decode cX1_changeClaim 55 = .ok (.iastore, 1) := by decide +kernel
theorem dX1_changeClaim_56 : decode cX1_changeClaim 56 = .ok (.iload_n 3, 1) := by decide +kernel
theorem dX1_changeClaim_57 : decode cX1_changeClaim 57 = .ok (.ireturn, 1) := by decide +kernel
set_option maxRecDepth 20000 in
theorem ggX1_mendSeal_X1_knows : GoodIn wsX1_mendSeal wsX1_knows := goodIn_r _ [6, 7, 23, 24, 25, 26, 27, 28, 29, 30, 31, 32, 33] (by decide +kernel) (by decide +kernel)
set_option maxRecDepth 20000 in
theorem gX1_mendSeal_X1_knows : GoodIn wsX1_mendSeal (wsV RX1 52 RX1 yX1_knows wsX1_knows) := goodIn_app (goodIn_of _ (by decide +kernel)) ggX1_mendSeal_X1_knows
set_option maxRecDepth 20000 in
theorem ggX1_mendSeal_X1_isWhole : GoodIn wsX1_mendSeal wsX1_isWhole := goodIn_r _ [11, 1, 12, 13, 14, 15, 5, 16, 17, 18, 7, 23, 24, 25, 26, 27, 28, 29, 30, 31, 32, 33] (by decide +kernel) (by decide +kernel)
set_option maxRecDepth 20000 in
theorem gX1_mendSeal_X1_isWhole : GoodIn wsX1_mendSeal (wsV RX1 67 RX1 yX1_isWhole wsX1_isWhole) := goodIn_app (goodIn_of _ (by decide +kernel)) ggX1_mendSeal_X1_isWhole
set_option maxRecDepth 20000 in
theorem ggX1_mendSeal_X1_rightSeal : GoodIn wsX1_mendSeal wsX1_rightSeal := goodIn_r _ [22, 12, 13, 14, 15, 5, 16, 17, 18, 7, 1, 23, 24, 25, 26, 27, 28, 29, 30, 31, 32, 33] (by decide +kernel) (by decide +kernel)
set_option maxRecDepth 20000 in
theorem gX1_mendSeal_X1_rightSeal : GoodIn wsX1_mendSeal (wsV RX1 59 RX1 yX1_rightSeal wsX1_rightSeal) := goodIn_app (goodIn_of _ (by decide +kernel)) ggX1_mendSeal_X1_rightSeal
theorem dX1_mendSeal_0 : decode cX1_mendSeal 0 = .ok (.aload_n 0, 1) := by decide +kernel
theorem dX1_mendSeal_1 : decode cX1_mendSeal 1 = .ok (.iload_n 1, 1) := by decide +kernel
theorem dX1_mendSeal_2 : decode cX1_mendSeal 2 = .ok (.invokevirtual 52, 3) := by decide +kernel
theorem dX1_mendSeal_5 : decode cX1_mendSeal 5 = .ok (.ifCond .ne 5, 3) := by decide +kernel
theorem dX1_mendSeal_8 : decode cX1_mendSeal 8 = .ok (.iconst (-1), 1) := by decide +kernel
theorem dX1_mendSeal_9 : decode cX1_mendSeal 9 = .ok (.ireturn, 1) := by decide +kernel
theorem dX1_mendSeal_10 : decode cX1_mendSeal 10 = .ok (.aload_n 0, 1) := by decide +kernel
theorem dX1_mendSeal_11 : decode cX1_mendSeal 11 = .ok (.iload_n 1, 1) := by decide +kernel
theorem dX1_mendSeal_12 : decode cX1_mendSeal 12 = .ok (.invokevirtual 67, 3) := by decide +kernel
theorem dX1_mendSeal_15 : decode cX1_mendSeal 15 = .ok (.ifCond .eq 6, 3) := by decide +kernel
theorem dX1_mendSeal_18 : decode cX1_mendSeal 18 = .ok (.bipush (-5), 2) := by decide +kernel
theorem dX1_mendSeal_20 : decode cX1_mendSeal 20 = .ok (.ireturn, 1) := by decide +kernel
theorem dX1_mendSeal_21 : decode cX1_mendSeal 21 = .ok (.aload_n 0, 1) := by decide +kernel
theorem dX1_mendSeal_22 : decode cX1_mendSeal 22 = .ok (.getfield 24, 3) := by decide +kernel
theorem dX1_mendSeal_25 : decode cX1_mendSeal 25 = .ok (.iload_n 1, 1) := by decide +kernel
theorem dX1_mendSeal_26 : decode cX1_mendSeal 26 = .ok (.iaload, 1) := by decide +kernel
theorem dX1_mendSeal_27 : decode cX1_mendSeal 27 = .ok (.istore_n 2, 1) := by decide +kernel
theorem dX1_mendSeal_28 : decode cX1_mendSeal 28 = .ok (.aload_n 0, 1) := by decide +kernel
theorem dX1_mendSeal_29 : decode cX1_mendSeal 29 = .ok (.getfield 24, 3) := by decide +kernel
theorem dX1_mendSeal_32 : decode cX1_mendSeal 32 = .ok (.iload_n 1, 1) := by decide +kernel
theorem dX1_mendSeal_33 : decode cX1_mendSeal 33 = .ok (.aload_n 0, 1) := by decide +kernel
theorem dX1_mendSeal_34 : decode cX1_mendSeal 34 = .ok (.iload_n 1, 1) := by decide +kernel
theorem dX1_mendSeal_35 : decode cX1_mendSeal 35 = .ok (.invokevirtual 59, 3) := by decide +kernel
theorem dX1_mendSeal_38 : decode cX1_mendSeal 38 = .ok (.iastore, 1) := by decide +kernel
theorem dX1_mendSeal_39 : decode cX1_mendSeal 39 = .ok (.iload_n 2, 1) := by decide +kernel
theorem dX1_mendSeal_40 : decode cX1_mendSeal 40 = .ok (.ireturn, 1) := by decide +kernel
set_option maxRecDepth 20000 in
theorem ggX1_inspect_X1_knows : GoodIn wsX1_inspect wsX1_knows := goodIn_r _ [9, 10, 65, 66, 67, 68, 69, 70, 71, 72, 73, 74, 75] (by decide +kernel) (by decide +kernel)
set_option maxRecDepth 20000 in
theorem gX1_inspect_X1_knows : GoodIn wsX1_inspect (wsV RX1 52 RX1 yX1_knows wsX1_knows) := goodIn_app (goodIn_of _ (by decide +kernel)) ggX1_inspect_X1_knows
set_option maxRecDepth 20000 in
theorem ggX1_inspect_X1_isIn : GoodIn wsX1_inspect wsX1_isIn := goodIn_r _ [13, 14, 15, 8, 16] (by decide +kernel) (by decide +kernel)
set_option maxRecDepth 20000 in
theorem gX1_inspect_X1_isIn : GoodIn wsX1_inspect (va_wsS RX1 63 yX1_isIn wsX1_isIn) := goodIn_app (goodIn_of _ (by decide +kernel)) ggX1_inspect_X1_isIn
set_option maxRecDepth 20000 in
theorem ggX1_inspect_X1_bit : GoodIn wsX1_inspect wsX1_bit := goodIn_r _ [16] (by decide +kernel) (by decide +kernel)
set_option maxRecDepth 20000 in
theorem gX1_inspect_X1_bit : GoodIn wsX1_inspect (va_wsS RX1 70 yX1_bit wsX1_bit) := goodIn_app (goodIn_of _ (by decide +kernel)) ggX1_inspect_X1_bit
set_option maxRecDepth 20000 in
theorem ggX1_inspect_X1_ownFine : GoodIn wsX1_inspect wsX1_ownFine := goodIn_r _ [20, 21, 22, 23, 24, 25, 26, 27, 28, 29, 8, 30, 31, 32, 33, 34, 35, 36, 10, 37, 38, 39, 40, 65, 66, 67, 68, 69, 70, 71, 72, 73, 74, 75] (by decide +kernel) (by decide +kernel)
set_option maxRecDepth 20000 in
theorem gX1_inspect_X1_ownFine : GoodIn wsX1_inspect (wsV RX1 73 RX1 yX1_ownFine wsX1_ownFine) := goodIn_app (goodIn_of _ (by decide +kernel)) ggX1_inspect_X1_ownFine
set_option maxRecDepth 20000 in
theorem ggX1_inspect_X1_isLie : GoodIn wsX1_inspect wsX1_isLie := goodIn_r _ [40, 22, 65, 66, 67, 68, 69, 70, 71, 72, 73, 74, 75] (by decide +kernel) (by decide +kernel)
set_option maxRecDepth 20000 in
theorem gX1_inspect_X1_isLie : GoodIn wsX1_inspect (wsV RX1 77 RX1 yX1_isLie wsX1_isLie) := goodIn_app (goodIn_of _ (by decide +kernel)) ggX1_inspect_X1_isLie
set_option maxRecDepth 20000 in
theorem ggX1_inspect_X1_exposeLiar : GoodIn wsX1_inspect wsX1_exposeLiar := goodIn_r _ [44, 45, 4, 10, 2, 21, 14, 15, 8, 16, 46, 47, 48, 49, 36, 27, 28, 29, 30, 31, 22, 32, 33, 34, 35, 11, 12, 13, 65, 66, 67, 68, 69, 70, 71, 72, 73, 74, 75] (by decide +kernel) (by decide +kernel)
set_option maxRecDepth 20000 in
theorem gX1_inspect_X1_exposeLiar : GoodIn wsX1_inspect (wsV RX1 80 RX1 yX1_exposeLiar wsX1_exposeLiar) := goodIn_app (goodIn_of _ (by decide +kernel)) ggX1_inspect_X1_exposeLiar
set_option maxRecDepth 20000 in
theorem ggX1_inspect_X1_clearedIfHonest : GoodIn wsX1_inspect wsX1_clearedIfHonest := goodIn_r _ [53, 45, 4, 54, 55, 56, 8, 57, 36, 5, 6, 7, 9, 10, 14, 15, 16, 27, 28, 29, 30, 31, 22, 32, 33, 34, 35, 21, 65, 66, 67, 68, 69, 70, 71, 72, 73, 74, 75] (by decide +kernel) (by decide +kernel)
set_option maxRecDepth 20000 in
theorem gX1_inspect_X1_clearedIfHonest : GoodIn wsX1_inspect (wsV RX1 84 RX1 yX1_clearedIfHonest wsX1_clearedIfHonest) := goodIn_app (goodIn_of _ (by decide +kernel)) ggX1_inspect_X1_clearedIfHonest
set_option maxRecDepth 20000 in
theorem ggX1_inspect_J6_bitCount_0f7a4 : GoodIn wsX1_inspect wsJ6_bitCount_0f7a4 := goodIn_r _ [61, 62, 63, 64] (by decide +kernel) (by decide +kernel)
set_option maxRecDepth 20000 in
theorem gX1_inspect_J6_bitCount_0f7a4 : GoodIn wsX1_inspect (va_wsS RX1 87 yJ6_bitCount_0f7a4 wsJ6_bitCount_0f7a4) := goodIn_app (goodIn_of _ (by decide +kernel)) ggX1_inspect_J6_bitCount_0f7a4
theorem dX1_inspect_0 : decode cX1_inspect 0 = .ok (.aload_n 0, 1) := by decide +kernel
theorem dX1_inspect_1 : decode cX1_inspect 1 = .ok (.iload_n 1, 1) := by decide +kernel
theorem dX1_inspect_2 : decode cX1_inspect 2 = .ok (.invokevirtual 52, 3) := by decide +kernel
theorem dX1_inspect_5 : decode cX1_inspect 5 = .ok (.ifCond .ne 5, 3) := by decide +kernel
theorem dX1_inspect_8 : decode cX1_inspect 8 = .ok (.iconst (-1), 1) := by decide +kernel
theorem dX1_inspect_9 : decode cX1_inspect 9 = .ok (.ireturn, 1) := by decide +kernel
theorem dX1_inspect_10 : decode cX1_inspect 10 = .ok (.aload_n 0, 1) := by decide +kernel
theorem dX1_inspect_11 : decode cX1_inspect 11 = .ok (.getfield 34, 3) := by decide +kernel
theorem dX1_inspect_14 : decode cX1_inspect 14 = .ok (.iload_n 1, 1) := by decide +kernel
theorem dX1_inspect_15 : decode cX1_inspect 15 = .ok (.invokestatic 63, 3) := by decide +kernel
theorem dX1_inspect_18 : decode cX1_inspect 18 = .ok (.ifCond .eq 6, 3) := by decide +kernel
theorem dX1_inspect_21 : decode cX1_inspect 21 = .ok (.bipush (-4), 2) := by decide +kernel
theorem dX1_inspect_23 : decode cX1_inspect 23 = .ok (.ireturn, 1) := by decide +kernel
theorem dX1_inspect_24 : decode cX1_inspect 24 = .ok (.aload_n 0, 1) := by decide +kernel
theorem dX1_inspect_25 : decode cX1_inspect 25 = .ok (.dup, 1) := by decide +kernel
theorem dX1_inspect_26 : decode cX1_inspect 26 = .ok (.getfield 34, 3) := by decide +kernel
theorem dX1_inspect_29 : decode cX1_inspect 29 = .ok (.iload_n 1, 1) := by decide +kernel
theorem dX1_inspect_30 : decode cX1_inspect 30 = .ok (.invokestatic 70, 3) := by decide +kernel
theorem dX1_inspect_33 : decode cX1_inspect 33 = .ok (.ior, 1) := by decide +kernel
theorem dX1_inspect_34 : decode cX1_inspect 34 = .ok (.putfield 34, 3) := by decide +kernel
theorem dX1_inspect_37 : decode cX1_inspect 37 = .ok (.aload_n 0, 1) := by decide +kernel
theorem dX1_inspect_38 : decode cX1_inspect 38 = .ok (.getfield 27, 3) := by decide +kernel
theorem dX1_inspect_41 : decode cX1_inspect 41 = .ok (.iload_n 1, 1) := by decide +kernel
theorem dX1_inspect_42 : decode cX1_inspect 42 = .ok (.dup2, 1) := by decide +kernel
theorem dX1_inspect_43 : decode cX1_inspect 43 = .ok (.iaload, 1) := by decide +kernel
theorem dX1_inspect_44 : decode cX1_inspect 44 = .ok (.aload_n 0, 1) := by decide +kernel
theorem dX1_inspect_45 : decode cX1_inspect 45 = .ok (.iload_n 1, 1) := by decide +kernel
theorem dX1_inspect_46 : decode cX1_inspect 46 = .ok (.aload_n 0, 1) := by decide +kernel
theorem dX1_inspect_47 : decode cX1_inspect 47 = .ok (.getfield 18, 3) := by decide +kernel
theorem dX1_inspect_50 : decode cX1_inspect 50 = .ok (.iload_n 1, 1) := by decide +kernel
theorem dX1_inspect_51 : decode cX1_inspect 51 = .ok (.iaload, 1) := by decide +kernel
theorem dX1_inspect_52 : decode cX1_inspect 52 = .ok (.invokevirtual 73, 3) := by decide +kernel
theorem dX1_inspect_55 : decode cX1_inspect 55 = .ok (.iadd, 1) := by decide +kernel
theorem dX1_inspect_56 : decode cX1_inspect 56 = .ok (.iastore, 1) := by decide +kernel
theorem dX1_inspect_57 : decode cX1_inspect 57 = .ok (.aload_n 0, 1) := by decide +kernel
theorem dX1_inspect_58 : decode cX1_inspect 58 = .ok (.iload_n 1, 1) := by decide +kernel
theorem dX1_inspect_59 : decode cX1_inspect 59 = .ok (.aload_n 0, 1) := by decide +kernel
theorem dX1_inspect_60 : decode cX1_inspect 60 = .ok (.getfield 18, 3) := by decide +kernel
theorem dX1_inspect_63 : decode cX1_inspect 63 = .ok (.iload_n 1, 1) := by decide +kernel
theorem dX1_inspect_64 : decode cX1_inspect 64 = .ok (.iaload, 1) := by decide +kernel
theorem dX1_inspect_65 : decode cX1_inspect 65 = .ok (.invokevirtual 77, 3) := by decide +kernel
theorem dX1_inspect_68 : decode cX1_inspect 68 = .ok (.ifCond .eq 10, 3) := by decide +kernel
theorem dX1_inspect_71 : decode cX1_inspect 71 = .ok (.aload_n 0, 1) := by decide +kernel
theorem dX1_inspect_72 : decode cX1_inspect 72 = .ok (.iload_n 1, 1) := by decide +kernel
theorem dX1_inspect_73 : decode cX1_inspect 73 = .ok (.invokevirtual 80, 3) := by decide +kernel
theorem dX1_inspect_76 : decode cX1_inspect 76 = .ok (.iconst 0, 1) := by decide +kernel
theorem dX1_inspect_77 : decode cX1_inspect 77 = .ok (.ireturn, 1) := by decide +kernel
theorem dX1_inspect_78 : decode cX1_inspect 78 = .ok (.aload_n 0, 1) := by decide +kernel
theorem dX1_inspect_79 : decode cX1_inspect 79 = .ok (.iload_n 1, 1) := by decide +kernel
theorem dX1_inspect_80 : decode cX1_inspect 80 = .ok (.invokevirtual 84, 3) := by decide +kernel
theorem dX1_inspect_83 : decode cX1_inspect 83 = .ok (.istore_n 2, 1) := by decide +kernel
theorem dX1_inspect_84 : decode cX1_inspect 84 = .ok (.aload_n 0, 1) := by decide +kernel
theorem dX1_inspect_85 : decode cX1_inspect 85 = .ok (.dup, 1) := by decide +kernel
theorem dX1_inspect_86 : decode cX1_inspect 86 = .ok (.getfield 40, 3) := by decide +kernel
theorem dX1_inspect_89 : decode cX1_inspect 89 = .ok (.iload_n 2, 1) := by decide +kernel
theorem dX1_inspect_90 : decode cX1_inspect 90 = .ok (.ior, 1) := by decide +kernel
theorem dX1_inspect_91 : decode cX1_inspect 91 = .ok (.putfield 40, 3) := by decide +kernel
theorem dX1_inspect_94 : decode cX1_inspect 94 = .ok (.iload_n 2, 1) := by decide +kernel
theorem dX1_inspect_95 : decode cX1_inspect 95 = .ok (.invokestatic 87, 3) := by decide +kernel
theorem dX1_inspect_98 : decode cX1_inspect 98 = .ok (.ireturn, 1) := by decide +kernel
set_option maxRecDepth 20000 in
theorem ggX1_exposeLiar_X1_bit : GoodIn wsX1_exposeLiar wsX1_bit := goodIn_r _ [9] (by decide +kernel) (by decide +kernel)
set_option maxRecDepth 20000 in
theorem gX1_exposeLiar_X1_bit : GoodIn wsX1_exposeLiar (va_wsS RX1 70 yX1_bit wsX1_bit) := goodIn_app (goodIn_of _ (by decide +kernel)) ggX1_exposeLiar_X1_bit
set_option maxRecDepth 20000 in
theorem ggX1_exposeLiar_X1_wholeVouchers : GoodIn wsX1_exposeLiar wsX1_wholeVouchers := goodIn_r _ [13, 3, 14, 15, 16, 17, 8, 18, 19, 20, 21, 22, 23, 24, 5, 6, 7, 9, 28, 29, 30, 31, 32, 33, 34, 35, 36, 37, 38] (by decide +kernel) (by decide +kernel)
set_option maxRecDepth 20000 in
theorem gX1_exposeLiar_X1_wholeVouchers : GoodIn wsX1_exposeLiar (wsV RX1 92 RX1 yX1_wholeVouchers wsX1_wholeVouchers) := goodIn_app (goodIn_of _ (by decide +kernel)) ggX1_exposeLiar_X1_wholeVouchers
set_option maxRecDepth 20000 in
theorem ggX1_exposeLiar_X1_isIn : GoodIn wsX1_exposeLiar wsX1_isIn := goodIn_r _ [27, 6, 7, 8, 9] (by decide +kernel) (by decide +kernel)
set_option maxRecDepth 20000 in
theorem gX1_exposeLiar_X1_isIn : GoodIn wsX1_exposeLiar (va_wsS RX1 63 yX1_isIn wsX1_isIn) := goodIn_app (goodIn_of _ (by decide +kernel)) ggX1_exposeLiar_X1_isIn
theorem dX1_exposeLiar_0 : decode cX1_exposeLiar 0 = .ok (.aload_n 0, 1) := by decide +kernel
theorem dX1_exposeLiar_1 : decode cX1_exposeLiar 1 = .ok (.dup, 1) := by decide +kernel
theorem dX1_exposeLiar_2 : decode cX1_exposeLiar 2 = .ok (.getfield 37, 3) := by decide +kernel
theorem dX1_exposeLiar_5 : decode cX1_exposeLiar 5 = .ok (.iload_n 1, 1) := by decide +kernel
theorem dX1_exposeLiar_6 : decode cX1_exposeLiar 6 = .ok (.invokestatic 70, 3) := by decide +kernel
theorem dX1_exposeLiar_9 : decode cX1_exposeLiar 9 = .ok (.ior, 1) := by decide +kernel
theorem dX1_exposeLiar_10 : decode cX1_exposeLiar 10 = .ok (.putfield 37, 3) := by decide +kernel
theorem dX1_exposeLiar_13 : decode cX1_exposeLiar 13 = .ok (.aload_n 0, 1) := by decide +kernel
theorem dX1_exposeLiar_14 : decode cX1_exposeLiar 14 = .ok (.dup, 1) := by decide +kernel
theorem dX1_exposeLiar_15 : decode cX1_exposeLiar 15 = .ok (.getfield 40, 3) := by decide +kernel
theorem dX1_exposeLiar_18 : decode cX1_exposeLiar 18 = .ok (.iload_n 1, 1) := by decide +kernel
theorem dX1_exposeLiar_19 : decode cX1_exposeLiar 19 = .ok (.invokestatic 70, 3) := by decide +kernel
theorem dX1_exposeLiar_22 : decode cX1_exposeLiar 22 = .ok (.iconst (-1), 1) := by decide +kernel
theorem dX1_exposeLiar_23 : decode cX1_exposeLiar 23 = .ok (.ixor, 1) := by decide +kernel
theorem dX1_exposeLiar_24 : decode cX1_exposeLiar 24 = .ok (.iand, 1) := by decide +kernel
theorem dX1_exposeLiar_25 : decode cX1_exposeLiar 25 = .ok (.putfield 40, 3) := by decide +kernel
theorem dX1_exposeLiar_28 : decode cX1_exposeLiar 28 = .ok (.aload_n 0, 1) := by decide +kernel
theorem dX1_exposeLiar_29 : decode cX1_exposeLiar 29 = .ok (.iload_n 1, 1) := by decide +kernel
theorem dX1_exposeLiar_30 : decode cX1_exposeLiar 30 = .ok (.invokevirtual 92, 3) := by decide +kernel
theorem dX1_exposeLiar_33 : decode cX1_exposeLiar 33 = .ok (.istore_n 2, 1) := by decide +kernel
theorem dX1_exposeLiar_34 : decode cX1_exposeLiar 34 = .ok (.iconst 0, 1) := by decide +kernel
theorem dX1_exposeLiar_35 : decode cX1_exposeLiar 35 = .ok (.istore_n 3, 1) := by decide +kernel
theorem dX1_exposeLiar_36 : decode cX1_exposeLiar 36 = .ok (.iload_n 3, 1) := by decide +kernel
theorem dX1_exposeLiar_37 : decode cX1_exposeLiar 37 = .ok (.aload_n 0, 1) := by decide +kernel
theorem dX1_exposeLiar_38 : decode cX1_exposeLiar 38 = .ok (.getfield 30, 3) := by decide +kernel
theorem dX1_exposeLiar_41 : decode cX1_exposeLiar 41 = .ok (.if_icmp .ge 32, 3) := by decide +kernel
theorem dX1_exposeLiar_44 : decode cX1_exposeLiar 44 = .ok (.iload_n 2, 1) := by decide +kernel
theorem dX1_exposeLiar_45 : decode cX1_exposeLiar 45 = .ok (.iload_n 3, 1) := by decide +kernel
theorem dX1_exposeLiar_46 : decode cX1_exposeLiar 46 = .ok (.invokestatic 63, 3) := by decide +kernel
theorem dX1_exposeLiar_49 : decode cX1_exposeLiar 49 = .ok (.ifCond .eq 18, 3) := by decide +kernel
theorem dX1_exposeLiar_52 : decode cX1_exposeLiar 52 = .ok (.aload_n 0, 1) := by decide +kernel
theorem dX1_exposeLiar_53 : decode cX1_exposeLiar 53 = .ok (.getfield 27, 3) := by decide +kernel
theorem dX1_exposeLiar_56 : decode cX1_exposeLiar 56 = .ok (.iload_n 3, 1) := by decide +kernel
theorem dX1_exposeLiar_57 : decode cX1_exposeLiar 57 = .ok (.dup2, 1) := by decide +kernel
theorem dX1_exposeLiar_58 : decode cX1_exposeLiar 58 = .ok (.iaload, 1) := by decide +kernel
theorem dX1_exposeLiar_59 : decode cX1_exposeLiar 59 = .ok (.aload_n 0, 1) := by decide +kernel
theorem dX1_exposeLiar_60 : decode cX1_exposeLiar 60 = .ok (.getfield 9, 3) := by decide +kernel
theorem dX1_exposeLiar_63 : decode cX1_exposeLiar 63 = .ok (.iconst 4, 1) := by decide +kernel
theorem dX1_exposeLiar_64 : decode cX1_exposeLiar 64 = .ok (.iaload, 1) := by decide +kernel
theorem dX1_exposeLiar_65 : decode cX1_exposeLiar 65 = .ok (.iadd, 1) := by decide +kernel
theorem dX1_exposeLiar_66 : decode cX1_exposeLiar 66 = .ok (.iastore, 1) := by decide +kernel
theorem dX1_exposeLiar_67 : decode cX1_exposeLiar 67 = .ok (.iinc 3 1, 3) := by decide +kernel
theorem dX1_exposeLiar_70 : decode cX1_exposeLiar 70 = .ok (.goto (-34), 3) := by decide +kernel
theorem dX1_exposeLiar_73 : decode cX1_exposeLiar 73 = .ok (.return_, 1) := by decide +kernel
set_option maxRecDepth 20000 in
theorem ggX1_inspectAll_X1_waiting : GoodIn wsX1_inspectAll wsX1_waiting := goodIn_r _ [6, 7, 8, 9, 10, 11, 5, 12, 1, 13, 14, 15, 77, 78, 79, 80, 81, 82, 83, 84, 85, 86, 87] (by decide +kernel) (by decide +kernel)
set_option maxRecDepth 20000 in
theorem gX1_inspectAll_X1_waiting : GoodIn wsX1_inspectAll (wsV RX1 95 RX1 yX1_waiting wsX1_waiting) := goodIn_app (goodIn_of _ (by decide +kernel)) ggX1_inspectAll_X1_waiting
set_option maxRecDepth 20000 in
theorem ggX1_inspectAll_X1_isIn : GoodIn wsX1_inspectAll wsX1_isIn := goodIn_r _ [18, 13, 14, 5, 15] (by decide +kernel) (by decide +kernel)
set_option maxRecDepth 20000 in
theorem gX1_inspectAll_X1_isIn : GoodIn wsX1_inspectAll (va_wsS RX1 63 yX1_isIn wsX1_isIn) := goodIn_app (goodIn_of _ (by decide +kernel)) ggX1_inspectAll_X1_isIn
set_option maxRecDepth 20000 in
theorem ggX1_inspectAll_X1_inspect : GoodIn wsX1_inspectAll wsX1_inspect := goodIn_r _ [22, 8, 23, 24, 7, 25, 26, 27, 5, 28, 1, 16, 17, 18, 13, 14, 15, 29, 30, 31, 32, 33, 34, 35, 36, 37, 38, 39, 40, 41, 42, 43, 44, 45, 46, 47, 48, 49, 50, 51, 52, 53, 54, 55, 56, 57, 58, 59, 60, 61, 62, 63, 64, 65, 66, 67, 68, 69, 70, 71, 72, 73, 74, 75, 76, 77, 78, 79, 80, 81, 82, 83, 84, 85, 86, 87] (by decide +kernel) (by decide +kernel)
set_option maxRecDepth 20000 in
theorem gX1_inspectAll_X1_inspect : GoodIn wsX1_inspectAll (wsV RX1 99 RX1 yX1_inspect wsX1_inspect) := goodIn_app (goodIn_of _ (by decide +kernel)) ggX1_inspectAll_X1_inspect
theorem dX1_inspectAll_0 : decode cX1_inspectAll 0 = .ok (.iconst 0, 1) := by decide +kernel
theorem dX1_inspectAll_1 : decode cX1_inspectAll 1 = .ok (.istore_n 1, 1) := by decide +kernel
theorem dX1_inspectAll_2 : decode cX1_inspectAll 2 = .ok (.aload_n 0, 1) := by decide +kernel
theorem dX1_inspectAll_3 : decode cX1_inspectAll 3 = .ok (.getfield 30, 3) := by decide +kernel
theorem dX1_inspectAll_6 : decode cX1_inspectAll 6 = .ok (.iconst 1, 1) := by decide +kernel
theorem dX1_inspectAll_7 : decode cX1_inspectAll 7 = .ok (.isub, 1) := by decide +kernel
theorem dX1_inspectAll_8 : decode cX1_inspectAll 8 = .ok (.istore_n 2, 1) := by decide +kernel
theorem dX1_inspectAll_9 : decode cX1_inspectAll 9 = .ok (.iload_n 2, 1) := by decide +kernel
theorem dX1_inspectAll_10 : decode cX1_inspectAll 10 = .ok (.ifCond .lt 29, 3) := by decide +kernel
theorem dX1_inspectAll_13 : decode cX1_inspectAll 13 = .ok (.aload_n 0, 1) := by decide +kernel
theorem dX1_inspectAll_14 : decode cX1_inspectAll 14 = .ok (.invokevirtual 95, 3) := by decide +kernel
theorem dX1_inspectAll_17 : decode cX1_inspectAll 17 = .ok (.iload_n 2, 1) := by decide +kernel
theorem dX1_inspectAll_18 : decode cX1_inspectAll 18 = .ok (.invokestatic 63, 3) := by decide +kernel
theorem dX1_inspectAll_21 : decode cX1_inspectAll 21 = .ok (.ifCond .eq 12, 3) := by decide +kernel
theorem dX1_inspectAll_24 : decode cX1_inspectAll 24 = .ok (.aload_n 0, 1) := by decide +kernel
theorem dX1_inspectAll_25 : decode cX1_inspectAll 25 = .ok (.iload_n 2, 1) := by decide +kernel
theorem dX1_inspectAll_26 : decode cX1_inspectAll 26 = .ok (.invokevirtual 99, 3) := by decide +kernel
theorem dX1_inspectAll_29 : decode cX1_inspectAll 29 = .ok (.pop, 1) := by decide +kernel
theorem dX1_inspectAll_30 : decode cX1_inspectAll 30 = .ok (.iinc 1 1, 3) := by decide +kernel
theorem dX1_inspectAll_33 : decode cX1_inspectAll 33 = .ok (.iinc 2 (-1), 3) := by decide +kernel
theorem dX1_inspectAll_36 : decode cX1_inspectAll 36 = .ok (.goto (-27), 3) := by decide +kernel
theorem dX1_inspectAll_39 : decode cX1_inspectAll 39 = .ok (.iload_n 1, 1) := by decide +kernel
theorem dX1_inspectAll_40 : decode cX1_inspectAll 40 = .ok (.ifCond .le 7, 3) := by decide +kernel
theorem dX1_inspectAll_43 : decode cX1_inspectAll 43 = .ok (.iload_n 1, 1) := by decide +kernel
theorem dX1_inspectAll_44 : decode cX1_inspectAll 44 = .ok (.goto 5, 3) := by decide +kernel
theorem dX1_inspectAll_47 : decode cX1_inspectAll 47 = .ok (.bipush (-5), 2) := by decide +kernel
theorem dX1_inspectAll_49 : decode cX1_inspectAll 49 = .ok (.ireturn, 1) := by decide +kernel
theorem dX1_changeSetting_0 : decode cX1_changeSetting 0 = .ok (.iload_n 1, 1) := by decide +kernel
theorem dX1_changeSetting_1 : decode cX1_changeSetting 1 = .ok (.ifCond .lt 8, 3) := by decide +kernel
theorem dX1_changeSetting_4 : decode cX1_changeSetting 4 = .ok (.iload_n 1, 1) := by decide +kernel
theorem dX1_changeSetting_5 : decode cX1_changeSetting 5 = .ok (.iconst 5, 1) := by decide +kernel
theorem dX1_changeSetting_6 : decode cX1_changeSetting 6 = .ok (.if_icmp .lt 5, 3) := by decide +kernel
theorem dX1_changeSetting_9 : decode cX1_changeSetting 9 = .ok (.iconst (-1), 1) := by decide +kernel
theorem dX1_changeSetting_10 : decode cX1_changeSetting 10 = .ok (.ireturn, 1) := by decide +kernel
theorem dX1_changeSetting_11 : decode cX1_changeSetting 11 = .ok (.iload_n 2, 1) := by decide +kernel
theorem dX1_changeSetting_12 : decode cX1_changeSetting 12 = .ok (.getstatic 102, 3) := by decide +kernel
theorem dX1_changeSetting_15 : decode cX1_changeSetting 15 = .ok (.iload_n 1, 1) := by decide +kernel
theorem dX1_changeSetting_16 : decode cX1_changeSetting 16 = .ok (.iaload, 1) := by decide +kernel
theorem dX1_changeSetting_17 : decode cX1_changeSetting 17 = .ok (.if_icmp .lt 12, 3) := by decide +kernel
theorem dX1_changeSetting_20 : decode cX1_changeSetting 20 = .ok (.iload_n 2, 1) := by decide +kernel
theorem dX1_changeSetting_21 : decode cX1_changeSetting 21 = .ok (.getstatic 105, 3) := by decide +kernel
theorem dX1_changeSetting_24 : decode cX1_changeSetting 24 = .ok (.iload_n 1, 1) := by decide +kernel
theorem dX1_changeSetting_25 : decode cX1_changeSetting 25 = .ok (.iaload, 1) := by decide +kernel
theorem dX1_changeSetting_26 : decode cX1_changeSetting 26 = .ok (.if_icmp .le 6, 3) := by decide +kernel
theorem dX1_changeSetting_29 : decode cX1_changeSetting 29 = .ok (.bipush (-2), 2) := by decide +kernel
theorem dX1_changeSetting_31 : decode cX1_changeSetting 31 = .ok (.ireturn, 1) := by decide +kernel
theorem dX1_changeSetting_32 : decode cX1_changeSetting 32 = .ok (.aload_n 0, 1) := by decide +kernel
theorem dX1_changeSetting_33 : decode cX1_changeSetting 33 = .ok (.getfield 9, 3) := by decide +kernel
theorem dX1_changeSetting_36 : decode cX1_changeSetting 36 = .ok (.iload_n 1, 1) := by decide +kernel
theorem dX1_changeSetting_37 : decode cX1_changeSetting 37 = .ok (.iaload, 1) := by decide +kernel
theorem dX1_changeSetting_38 : decode cX1_changeSetting 38 = .ok (.istore_n 3, 1) := by decide +kernel
theorem dX1_changeSetting_39 : decode cX1_changeSetting 39 = .ok (.iload_n 3, 1) := by decide +kernel
theorem dX1_changeSetting_40 : decode cX1_changeSetting 40 = .ok (.iload_n 2, 1) := by decide +kernel
theorem dX1_changeSetting_41 : decode cX1_changeSetting 41 = .ok (.if_icmp .ne 6, 3) := by decide +kernel
theorem dX1_changeSetting_44 : decode cX1_changeSetting 44 = .ok (.bipush (-5), 2) := by decide +kernel
theorem dX1_changeSetting_46 : decode cX1_changeSetting 46 = .ok (.ireturn, 1) := by decide +kernel
theorem dX1_changeSetting_47 : decode cX1_changeSetting 47 = .ok (.aload_n 0, 1) := by decide +kernel
theorem dX1_changeSetting_48 : decode cX1_changeSetting 48 = .ok (.getfield 9, 3) := by decide +kernel
theorem dX1_changeSetting_51 : decode cX1_changeSetting 51 = .ok (.iload_n 1, 1) := by decide +kernel
theorem dX1_changeSetting_52 : decode cX1_changeSetting 52 = .ok (.iload_n 2, 1) := by decide +kernel
theorem dX1_changeSetting_53 : decode cX1_changeSetting 53 = .ok (.iastore, 1) := by decide +kernel
theorem dX1_changeSetting_54 : decode cX1_changeSetting 54 = .ok (.iload_n 3, 1) := by decide +kernel
theorem dX1_changeSetting_55 : decode cX1_changeSetting 55 = .ok (.ireturn, 1) := by decide +kernel
set_option maxRecDepth 20000 in
theorem ggX1_tellOfCart_X1_knows : GoodIn wsX1_tellOfCart wsX1_knows := goodIn_r _ [12, 13, 57, 58, 59, 60, 61, 62, 63, 64, 65, 66, 67] (by decide +kernel) (by decide +kernel)
set_option maxRecDepth 20000 in
theorem gX1_tellOfCart_X1_knows : GoodIn wsX1_tellOfCart (wsV RX1 52 RX1 yX1_knows wsX1_knows) := goodIn_app (goodIn_of _ (by decide +kernel)) ggX1_tellOfCart_X1_knows
set_option maxRecDepth 20000 in
theorem ggX1_tellOfCart_X1_isIn : GoodIn wsX1_tellOfCart wsX1_isIn := goodIn_r _ [16, 17, 18, 11, 19] (by decide +kernel) (by decide +kernel)
set_option maxRecDepth 20000 in
theorem gX1_tellOfCart_X1_isIn : GoodIn wsX1_tellOfCart (va_wsS RX1 63 yX1_isIn wsX1_isIn) := goodIn_app (goodIn_of _ (by decide +kernel)) ggX1_tellOfCart_X1_isIn
set_option maxRecDepth 20000 in
theorem ggX1_tellOfCart_X1_rightSeal : GoodIn wsX1_tellOfCart wsX1_rightSeal := goodIn_r _ [23, 1, 24, 25, 26, 11, 27, 28, 4, 13, 5, 57, 58, 59, 60, 61, 62, 63, 64, 65, 66, 67] (by decide +kernel) (by decide +kernel)
set_option maxRecDepth 20000 in
theorem gX1_tellOfCart_X1_rightSeal : GoodIn wsX1_tellOfCart (wsV RX1 59 RX1 yX1_rightSeal wsX1_rightSeal) := goodIn_app (goodIn_of _ (by decide +kernel)) ggX1_tellOfCart_X1_rightSeal
set_option maxRecDepth 20000 in
theorem ggX1_tellOfCart_X1_isWhole : GoodIn wsX1_tellOfCart wsX1_isWhole := goodIn_r _ [32, 5, 1, 24, 25, 26, 11, 27, 28, 4, 13, 57, 58, 59, 60, 61, 62, 63, 64, 65, 66, 67] (by decide +kernel) (by decide +kernel)
set_option maxRecDepth 20000 in
theorem gX1_tellOfCart_X1_isWhole : GoodIn wsX1_tellOfCart (wsV RX1 67 RX1 yX1_isWhole wsX1_isWhole) := goodIn_app (goodIn_of _ (by decide +kernel)) ggX1_tellOfCart_X1_isWhole
set_option maxRecDepth 20000 in
theorem ggX1_tellOfCart_X1_chainOf : GoodIn wsX1_tellOfCart wsX1_chainOf := goodIn_r _ [36, 4, 8, 9, 10, 11, 12, 13, 17, 18, 19, 57, 58, 59, 60, 61, 62, 63, 64, 65, 66, 67] (by decide +kernel) (by decide +kernel)
set_option maxRecDepth 20000 in
theorem gX1_tellOfCart_X1_chainOf : GoodIn wsX1_tellOfCart (wsV RX1 108 RX1 yX1_chainOf wsX1_chainOf) := goodIn_app (goodIn_of _ (by decide +kernel)) ggX1_tellOfCart_X1_chainOf
set_option maxRecDepth 20000 in
theorem ggX1_tellOfCart_J6_bitCount_0f7a4 : GoodIn wsX1_tellOfCart wsJ6_bitCount_0f7a4 := goodIn_r _ [40, 41, 42, 43] (by decide +kernel) (by decide +kernel)
set_option maxRecDepth 20000 in
theorem gX1_tellOfCart_J6_bitCount_0f7a4 : GoodIn wsX1_tellOfCart (va_wsS RX1 87 yJ6_bitCount_0f7a4 wsJ6_bitCount_0f7a4) := goodIn_app (goodIn_of _ (by decide +kernel)) ggX1_tellOfCart_J6_bitCount_0f7a4
set_option maxRecDepth 20000 in
theorem ggX1_tellOfCart_X1_vouchers : GoodIn wsX1_tellOfCart wsX1_vouchers := goodIn_r _ [47, 13, 4, 17, 18, 11, 19, 57, 58, 59, 60, 61, 62, 63, 64, 65, 66, 67] (by decide +kernel) (by decide +kernel)
set_option maxRecDepth 20000 in
theorem gX1_tellOfCart_X1_vouchers : GoodIn wsX1_tellOfCart (wsV RX1 111 RX1 yX1_vouchers wsX1_vouchers) := goodIn_app (goodIn_of _ (by decide +kernel)) ggX1_tellOfCart_X1_vouchers
set_option maxRecDepth 20000 in
theorem ggX1_tellOfCart_X1_countChainsWith : GoodIn wsX1_tellOfCart wsX1_countChainsWith := goodIn_r _ [51, 13, 33, 34, 35, 11, 36, 4, 8, 9, 10, 12, 17, 18, 19, 14, 15, 16, 57, 58, 59, 60, 61, 62, 63, 64, 65, 66, 67] (by decide +kernel) (by decide +kernel)
set_option maxRecDepth 20000 in
theorem gX1_tellOfCart_X1_countChainsWith : GoodIn wsX1_tellOfCart (wsV RX1 114 RX1 yX1_countChainsWith wsX1_countChainsWith) := goodIn_app (goodIn_of _ (by decide +kernel)) ggX1_tellOfCart_X1_countChainsWith
set_option maxRecDepth 20000 in
theorem ggX1_tellOfCart_X1_whyNotCleared : GoodIn wsX1_tellOfCart wsX1_whyNotCleared := goodIn_r _ [55, 6, 56, 14, 15, 11, 16, 17, 18, 19, 44, 45, 46, 47, 13, 4, 57, 58, 59, 60, 61, 62, 63, 64, 65, 66, 67] (by decide +kernel) (by decide +kernel)
set_option maxRecDepth 20000 in
theorem gX1_tellOfCart_X1_whyNotCleared : GoodIn wsX1_tellOfCart (wsV RX1 117 RX1 yX1_whyNotCleared wsX1_whyNotCleared) := goodIn_app (goodIn_of _ (by decide +kernel)) ggX1_tellOfCart_X1_whyNotCleared
theorem dX1_tellOfCart_0 : decode cX1_tellOfCart 0 = .ok (.aload_n 0, 1) := by decide +kernel
theorem dX1_tellOfCart_1 : decode cX1_tellOfCart 1 = .ok (.iload_n 1, 1) := by decide +kernel
theorem dX1_tellOfCart_2 : decode cX1_tellOfCart 2 = .ok (.invokevirtual 52, 3) := by decide +kernel
theorem dX1_tellOfCart_5 : decode cX1_tellOfCart 5 = .ok (.ifCond .ne 5, 3) := by decide +kernel
theorem dX1_tellOfCart_8 : decode cX1_tellOfCart 8 = .ok (.iconst (-1), 1) := by decide +kernel
theorem dX1_tellOfCart_9 : decode cX1_tellOfCart 9 = .ok (.ireturn, 1) := by decide +kernel
theorem dX1_tellOfCart_10 : decode cX1_tellOfCart 10 = .ok (.iload_n 2, 1) := by decide +kernel
theorem dX1_tellOfCart_11 : decode cX1_tellOfCart 11 = .ok (.tableswitch 215 0 12 #[65, 72, 95, 117, 124, 130, 144, 161, 178, 185, 194, 203, 209], 65) := by decide +kernel
theorem dX1_tellOfCart_76 : decode cX1_tellOfCart 76 = .ok (.aload_n 0, 1) := by decide +kernel
theorem dX1_tellOfCart_77 : decode cX1_tellOfCart 77 = .ok (.getfield 15, 3) := by decide +kernel
theorem dX1_tellOfCart_80 : decode cX1_tellOfCart 80 = .ok (.iload_n 1, 1) := by decide +kernel
theorem dX1_tellOfCart_81 : decode cX1_tellOfCart 81 = .ok (.iaload, 1) := by decide +kernel
theorem dX1_tellOfCart_82 : decode cX1_tellOfCart 82 = .ok (.ireturn, 1) := by decide +kernel
theorem dX1_tellOfCart_83 : decode cX1_tellOfCart 83 = .ok (.aload_n 0, 1) := by decide +kernel
theorem dX1_tellOfCart_84 : decode cX1_tellOfCart 84 = .ok (.getfield 34, 3) := by decide +kernel
theorem dX1_tellOfCart_87 : decode cX1_tellOfCart 87 = .ok (.iload_n 1, 1) := by decide +kernel
theorem dX1_tellOfCart_88 : decode cX1_tellOfCart 88 = .ok (.invokestatic 63, 3) := by decide +kernel
theorem dX1_tellOfCart_91 : decode cX1_tellOfCart 91 = .ok (.ifCond .eq 12, 3) := by decide +kernel
theorem dX1_tellOfCart_94 : decode cX1_tellOfCart 94 = .ok (.aload_n 0, 1) := by decide +kernel
theorem dX1_tellOfCart_95 : decode cX1_tellOfCart 95 = .ok (.getfield 18, 3) := by decide +kernel
theorem dX1_tellOfCart_98 : decode cX1_tellOfCart 98 = .ok (.iload_n 1, 1) := by decide +kernel
theorem dX1_tellOfCart_99 : decode cX1_tellOfCart 99 = .ok (.iaload, 1) := by decide +kernel
theorem dX1_tellOfCart_100 : decode cX1_tellOfCart 100 = .ok (.goto 5, 3) := by decide +kernel
theorem dX1_tellOfCart_103 : decode cX1_tellOfCart 103 = .ok (.bipush (-5), 2) := by decide +kernel
theorem dX1_tellOfCart_105 : decode cX1_tellOfCart 105 = .ok (.ireturn, 1) := by decide +kernel
theorem dX1_tellOfCart_106 : decode cX1_tellOfCart 106 = .ok (.aload_n 0, 1) := by decide +kernel
theorem dX1_tellOfCart_107 : decode cX1_tellOfCart 107 = .ok (.getfield 21, 3) := by decide +kernel
theorem dX1_tellOfCart_110 : decode cX1_tellOfCart 110 = .ok (.iload_n 1, 1) := by decide +kernel
theorem dX1_tellOfCart_111 : decode cX1_tellOfCart 111 = .ok (.iaload, 1) := by decide +kernel
theorem dX1_tellOfCart_112 : decode cX1_tellOfCart 112 = .ok (.iconst (-1), 1) := by decide +kernel
theorem dX1_tellOfCart_113 : decode cX1_tellOfCart 113 = .ok (.if_icmp .ne 8, 3) := by decide +kernel
theorem dX1_tellOfCart_116 : decode cX1_tellOfCart 116 = .ok (.bipush (-5), 2) := by decide +kernel
theorem dX1_tellOfCart_118 : decode cX1_tellOfCart 118 = .ok (.goto 9, 3) := by decide +kernel
theorem dX1_tellOfCart_121 : decode cX1_tellOfCart 121 = .ok (.aload_n 0, 1) := by decide +kernel
theorem dX1_tellOfCart_122 : decode cX1_tellOfCart 122 = .ok (.getfield 21, 3) := by decide +kernel
theorem dX1_tellOfCart_125 : decode cX1_tellOfCart 125 = .ok (.iload_n 1, 1) := by decide +kernel
theorem dX1_tellOfCart_126 : decode cX1_tellOfCart 126 = .ok (.iaload, 1) := by decide +kernel
theorem dX1_tellOfCart_127 : decode cX1_tellOfCart 127 = .ok (.ireturn, 1) := by decide +kernel
theorem dX1_tellOfCart_128 : decode cX1_tellOfCart 128 = .ok (.aload_n 0, 1) := by decide +kernel
theorem dX1_tellOfCart_129 : decode cX1_tellOfCart 129 = .ok (.getfield 24, 3) := by decide +kernel
theorem dX1_tellOfCart_132 : decode cX1_tellOfCart 132 = .ok (.iload_n 1, 1) := by decide +kernel
theorem dX1_tellOfCart_133 : decode cX1_tellOfCart 133 = .ok (.iaload, 1) := by decide +kernel
theorem dX1_tellOfCart_134 : decode cX1_tellOfCart 134 = .ok (.ireturn, 1) := by decide +kernel
theorem dX1_tellOfCart_135 : decode cX1_tellOfCart 135 = .ok (.aload_n 0, 1) := by decide +kernel
theorem dX1_tellOfCart_136 : decode cX1_tellOfCart 136 = .ok (.iload_n 1, 1) := by decide +kernel
theorem dX1_tellOfCart_137 : decode cX1_tellOfCart 137 = .ok (.invokevirtual 59, 3) := by decide +kernel
theorem dX1_tellOfCart_140 : decode cX1_tellOfCart 140 = .ok (.ireturn, 1) := by decide +kernel
theorem dX1_tellOfCart_141 : decode cX1_tellOfCart 141 = .ok (.aload_n 0, 1) := by decide +kernel
theorem dX1_tellOfCart_142 : decode cX1_tellOfCart 142 = .ok (.iload_n 1, 1) := by decide +kernel
theorem dX1_tellOfCart_143 : decode cX1_tellOfCart 143 = .ok (.invokevirtual 67, 3) := by decide +kernel
theorem dX1_tellOfCart_146 : decode cX1_tellOfCart 146 = .ok (.ifCond .eq 7, 3) := by decide +kernel
theorem dX1_tellOfCart_149 : decode cX1_tellOfCart 149 = .ok (.iconst 1, 1) := by decide +kernel
theorem dX1_tellOfCart_150 : decode cX1_tellOfCart 150 = .ok (.goto 4, 3) := by decide +kernel
theorem dX1_tellOfCart_153 : decode cX1_tellOfCart 153 = .ok (.iconst 0, 1) := by decide +kernel
theorem dX1_tellOfCart_154 : decode cX1_tellOfCart 154 = .ok (.ireturn, 1) := by decide +kernel
theorem dX1_tellOfCart_155 : decode cX1_tellOfCart 155 = .ok (.aload_n 0, 1) := by decide +kernel
theorem dX1_tellOfCart_156 : decode cX1_tellOfCart 156 = .ok (.getfield 34, 3) := by decide +kernel
theorem dX1_tellOfCart_159 : decode cX1_tellOfCart 159 = .ok (.iload_n 1, 1) := by decide +kernel
theorem dX1_tellOfCart_160 : decode cX1_tellOfCart 160 = .ok (.invokestatic 63, 3) := by decide +kernel
theorem dX1_tellOfCart_163 : decode cX1_tellOfCart 163 = .ok (.ifCond .eq 7, 3) := by decide +kernel
theorem dX1_tellOfCart_166 : decode cX1_tellOfCart 166 = .ok (.iconst 1, 1) := by decide +kernel
theorem dX1_tellOfCart_167 : decode cX1_tellOfCart 167 = .ok (.goto 4, 3) := by decide +kernel
theorem dX1_tellOfCart_170 : decode cX1_tellOfCart 170 = .ok (.iconst 0, 1) := by decide +kernel
theorem dX1_tellOfCart_171 : decode cX1_tellOfCart 171 = .ok (.ireturn, 1) := by decide +kernel
theorem dX1_tellOfCart_172 : decode cX1_tellOfCart 172 = .ok (.aload_n 0, 1) := by decide +kernel
theorem dX1_tellOfCart_173 : decode cX1_tellOfCart 173 = .ok (.getfield 40, 3) := by decide +kernel
theorem dX1_tellOfCart_176 : decode cX1_tellOfCart 176 = .ok (.iload_n 1, 1) := by decide +kernel
theorem dX1_tellOfCart_177 : decode cX1_tellOfCart 177 = .ok (.invokestatic 63, 3) := by decide +kernel
theorem dX1_tellOfCart_180 : decode cX1_tellOfCart 180 = .ok (.ifCond .eq 7, 3) := by decide +kernel
theorem dX1_tellOfCart_183 : decode cX1_tellOfCart 183 = .ok (.iconst 1, 1) := by decide +kernel
theorem dX1_tellOfCart_184 : decode cX1_tellOfCart 184 = .ok (.goto 4, 3) := by decide +kernel
theorem dX1_tellOfCart_187 : decode cX1_tellOfCart 187 = .ok (.iconst 0, 1) := by decide +kernel
theorem dX1_tellOfCart_188 : decode cX1_tellOfCart 188 = .ok (.ireturn, 1) := by decide +kernel
theorem dX1_tellOfCart_189 : decode cX1_tellOfCart 189 = .ok (.aload_n 0, 1) := by decide +kernel
theorem dX1_tellOfCart_190 : decode cX1_tellOfCart 190 = .ok (.getfield 27, 3) := by decide +kernel
theorem dX1_tellOfCart_193 : decode cX1_tellOfCart 193 = .ok (.iload_n 1, 1) := by decide +kernel
theorem dX1_tellOfCart_194 : decode cX1_tellOfCart 194 = .ok (.iaload, 1) := by decide +kernel
theorem dX1_tellOfCart_195 : decode cX1_tellOfCart 195 = .ok (.ireturn, 1) := by decide +kernel
theorem dX1_tellOfCart_196 : decode cX1_tellOfCart 196 = .ok (.aload_n 0, 1) := by decide +kernel
theorem dX1_tellOfCart_197 : decode cX1_tellOfCart 197 = .ok (.iload_n 1, 1) := by decide +kernel
theorem dX1_tellOfCart_198 : decode cX1_tellOfCart 198 = .ok (.invokevirtual 108, 3) := by decide +kernel
theorem dX1_tellOfCart_201 : decode cX1_tellOfCart 201 = .ok (.invokestatic 87, 3) := by decide +kernel
theorem dX1_tellOfCart_204 : decode cX1_tellOfCart 204 = .ok (.ireturn, 1) := by decide +kernel
theorem dX1_tellOfCart_205 : decode cX1_tellOfCart 205 = .ok (.aload_n 0, 1) := by decide +kernel
theorem dX1_tellOfCart_206 : decode cX1_tellOfCart 206 = .ok (.iload_n 1, 1) := by decide +kernel
theorem dX1_tellOfCart_207 : decode cX1_tellOfCart 207 = .ok (.invokevirtual 111, 3) := by decide +kernel
theorem dX1_tellOfCart_210 : decode cX1_tellOfCart 210 = .ok (.invokestatic 87, 3) := by decide +kernel
theorem dX1_tellOfCart_213 : decode cX1_tellOfCart 213 = .ok (.ireturn, 1) := by decide +kernel
theorem dX1_tellOfCart_214 : decode cX1_tellOfCart 214 = .ok (.aload_n 0, 1) := by decide +kernel
theorem dX1_tellOfCart_215 : decode cX1_tellOfCart 215 = .ok (.iload_n 1, 1) := by decide +kernel
theorem dX1_tellOfCart_216 : decode cX1_tellOfCart 216 = .ok (.invokevirtual 114, 3) := by decide +kernel
theorem dX1_tellOfCart_219 : decode cX1_tellOfCart 219 = .ok (.ireturn, 1) := by decide +kernel
theorem dX1_tellOfCart_220 : decode cX1_tellOfCart 220 = .ok (.aload_n 0, 1) := by decide +kernel
theorem dX1_tellOfCart_221 : decode cX1_tellOfCart 221 = .ok (.iload_n 1, 1) := by decide +kernel
theorem dX1_tellOfCart_222 : decode cX1_tellOfCart 222 = .ok (.invokevirtual 117, 3) := by decide +kernel
theorem dX1_tellOfCart_225 : decode cX1_tellOfCart 225 = .ok (.ireturn, 1) := by decide +kernel
theorem dX1_tellOfCart_226 : decode cX1_tellOfCart 226 = .ok (.bipush (-2), 2) := by decide +kernel
theorem dX1_tellOfCart_228 : decode cX1_tellOfCart 228 = .ok (.ireturn, 1) := by decide +kernel
set_option maxRecDepth 20000 in
theorem ggX1_countChainsWith_X1_chainOf : GoodIn wsX1_countChainsWith wsX1_chainOf := goodIn_r _ [6, 7, 8, 9, 10, 5, 11, 1, 12, 13, 14, 18, 19, 20, 21, 22, 23, 24, 25, 26, 27, 28] (by decide +kernel) (by decide +kernel)
set_option maxRecDepth 20000 in
theorem gX1_countChainsWith_X1_chainOf : GoodIn wsX1_countChainsWith (wsV RX1 108 RX1 yX1_chainOf wsX1_chainOf) := goodIn_app (goodIn_of _ (by decide +kernel)) ggX1_countChainsWith_X1_chainOf
set_option maxRecDepth 20000 in
theorem ggX1_countChainsWith_X1_isIn : GoodIn wsX1_countChainsWith wsX1_isIn := goodIn_r _ [17, 12, 13, 5, 14] (by decide +kernel) (by decide +kernel)
set_option maxRecDepth 20000 in
theorem gX1_countChainsWith_X1_isIn : GoodIn wsX1_countChainsWith (va_wsS RX1 63 yX1_isIn wsX1_isIn) := goodIn_app (goodIn_of _ (by decide +kernel)) ggX1_countChainsWith_X1_isIn
theorem dX1_countChainsWith_0 : decode cX1_countChainsWith 0 = .ok (.iconst 0, 1) := by decide +kernel
theorem dX1_countChainsWith_1 : decode cX1_countChainsWith 1 = .ok (.istore_n 2, 1) := by decide +kernel
theorem dX1_countChainsWith_2 : decode cX1_countChainsWith 2 = .ok (.iconst 0, 1) := by decide +kernel
theorem dX1_countChainsWith_3 : decode cX1_countChainsWith 3 = .ok (.istore_n 3, 1) := by decide +kernel
theorem dX1_countChainsWith_4 : decode cX1_countChainsWith 4 = .ok (.iload_n 3, 1) := by decide +kernel
theorem dX1_countChainsWith_5 : decode cX1_countChainsWith 5 = .ok (.aload_n 0, 1) := by decide +kernel
theorem dX1_countChainsWith_6 : decode cX1_countChainsWith 6 = .ok (.getfield 30, 3) := by decide +kernel
theorem dX1_countChainsWith_9 : decode cX1_countChainsWith 9 = .ok (.if_icmp .ge 24, 3) := by decide +kernel
theorem dX1_countChainsWith_12 : decode cX1_countChainsWith 12 = .ok (.aload_n 0, 1) := by decide +kernel
theorem dX1_countChainsWith_13 : decode cX1_countChainsWith 13 = .ok (.iload_n 3, 1) := by decide +kernel
theorem dX1_countChainsWith_14 : decode cX1_countChainsWith 14 = .ok (.invokevirtual 108, 3) := by decide +kernel
theorem dX1_countChainsWith_17 : decode cX1_countChainsWith 17 = .ok (.iload_n 1, 1) := by decide +kernel
theorem dX1_countChainsWith_18 : decode cX1_countChainsWith 18 = .ok (.invokestatic 63, 3) := by decide +kernel
theorem dX1_countChainsWith_21 : decode cX1_countChainsWith 21 = .ok (.ifCond .eq 6, 3) := by decide +kernel
theorem dX1_countChainsWith_24 : decode cX1_countChainsWith 24 = .ok (.iinc 2 1, 3) := by decide +kernel
theorem dX1_countChainsWith_27 : decode cX1_countChainsWith 27 = .ok (.iinc 3 1, 3) := by decide +kernel
theorem dX1_countChainsWith_30 : decode cX1_countChainsWith 30 = .ok (.goto (-26), 3) := by decide +kernel
theorem dX1_countChainsWith_33 : decode cX1_countChainsWith 33 = .ok (.iload_n 2, 1) := by decide +kernel
theorem dX1_countChainsWith_34 : decode cX1_countChainsWith 34 = .ok (.ireturn, 1) := by decide +kernel
set_option maxRecDepth 20000 in
theorem ggX1_whyNotCleared_X1_isIn : GoodIn wsX1_whyNotCleared wsX1_isIn := goodIn_r _ [6, 7, 8, 5, 9] (by decide +kernel) (by decide +kernel)
set_option maxRecDepth 20000 in
theorem gX1_whyNotCleared_X1_isIn : GoodIn wsX1_whyNotCleared (va_wsS RX1 63 yX1_isIn wsX1_isIn) := goodIn_app (goodIn_of _ (by decide +kernel)) ggX1_whyNotCleared_X1_isIn
set_option maxRecDepth 20000 in
theorem ggX1_whyNotCleared_X1_vouchers : GoodIn wsX1_whyNotCleared wsX1_vouchers := goodIn_r _ [13, 14, 15, 7, 8, 5, 9, 16, 17, 18, 19, 20, 21, 22, 23, 24, 25, 26] (by decide +kernel) (by decide +kernel)
set_option maxRecDepth 20000 in
theorem gX1_whyNotCleared_X1_vouchers : GoodIn wsX1_whyNotCleared (wsV RX1 111 RX1 yX1_vouchers wsX1_vouchers) := goodIn_app (goodIn_of _ (by decide +kernel)) ggX1_whyNotCleared_X1_vouchers
theorem dX1_whyNotCleared_0 : decode cX1_whyNotCleared 0 = .ok (.aload_n 0, 1) := by decide +kernel
theorem dX1_whyNotCleared_1 : decode cX1_whyNotCleared 1 = .ok (.getfield 40, 3) := by decide +kernel
theorem dX1_whyNotCleared_4 : decode cX1_whyNotCleared 4 = .ok (.iload_n 1, 1) := by decide +kernel
theorem dX1_whyNotCleared_5 : decode cX1_whyNotCleared 5 = .ok (.invokestatic 63, 3) := by decide +kernel
theorem dX1_whyNotCleared_8 : decode cX1_whyNotCleared 8 = .ok (.ifCond .eq 5, 3) := by decide +kernel
theorem dX1_whyNotCleared_11 : decode cX1_whyNotCleared 11 = .ok (.iconst 0, 1) := by decide +kernel
theorem dX1_whyNotCleared_12 : decode cX1_whyNotCleared 12 = .ok (.ireturn, 1) := by decide +kernel
theorem dX1_whyNotCleared_13 : decode cX1_whyNotCleared 13 = .ok (.aload_n 0, 1) := by decide +kernel
theorem dX1_whyNotCleared_14 : decode cX1_whyNotCleared 14 = .ok (.getfield 37, 3) := by decide +kernel
theorem dX1_whyNotCleared_17 : decode cX1_whyNotCleared 17 = .ok (.iload_n 1, 1) := by decide +kernel
theorem dX1_whyNotCleared_18 : decode cX1_whyNotCleared 18 = .ok (.invokestatic 63, 3) := by decide +kernel
theorem dX1_whyNotCleared_21 : decode cX1_whyNotCleared 21 = .ok (.ifCond .eq 5, 3) := by decide +kernel
theorem dX1_whyNotCleared_24 : decode cX1_whyNotCleared 24 = .ok (.iconst 1, 1) := by decide +kernel
theorem dX1_whyNotCleared_25 : decode cX1_whyNotCleared 25 = .ok (.ireturn, 1) := by decide +kernel
theorem dX1_whyNotCleared_26 : decode cX1_whyNotCleared 26 = .ok (.aload_n 0, 1) := by decide +kernel
theorem dX1_whyNotCleared_27 : decode cX1_whyNotCleared 27 = .ok (.iload_n 1, 1) := by decide +kernel
theorem dX1_whyNotCleared_28 : decode cX1_whyNotCleared 28 = .ok (.invokevirtual 111, 3) := by decide +kernel
theorem dX1_whyNotCleared_31 : decode cX1_whyNotCleared 31 = .ok (.istore_n 2, 1) := by decide +kernel
theorem dX1_whyNotCleared_32 : decode cX1_whyNotCleared 32 = .ok (.iload_n 2, 1) := by decide +kernel
theorem dX1_whyNotCleared_33 : decode cX1_whyNotCleared 33 = .ok (.ifCond .ne 5, 3) := by decide +kernel
theorem dX1_whyNotCleared_36 : decode cX1_whyNotCleared 36 = .ok (.iconst 2, 1) := by decide +kernel
theorem dX1_whyNotCleared_37 : decode cX1_whyNotCleared 37 = .ok (.ireturn, 1) := by decide +kernel
theorem dX1_whyNotCleared_38 : decode cX1_whyNotCleared 38 = .ok (.iload_n 2, 1) := by decide +kernel
theorem dX1_whyNotCleared_39 : decode cX1_whyNotCleared 39 = .ok (.aload_n 0, 1) := by decide +kernel
theorem dX1_whyNotCleared_40 : decode cX1_whyNotCleared 40 = .ok (.getfield 40, 3) := by decide +kernel
theorem dX1_whyNotCleared_43 : decode cX1_whyNotCleared 43 = .ok (.iand, 1) := by decide +kernel
theorem dX1_whyNotCleared_44 : decode cX1_whyNotCleared 44 = .ok (.ifCond .ne 7, 3) := by decide +kernel
theorem dX1_whyNotCleared_47 : decode cX1_whyNotCleared 47 = .ok (.iconst 3, 1) := by decide +kernel
theorem dX1_whyNotCleared_48 : decode cX1_whyNotCleared 48 = .ok (.goto 4, 3) := by decide +kernel
theorem dX1_whyNotCleared_51 : decode cX1_whyNotCleared 51 = .ok (.iconst 4, 1) := by decide +kernel
theorem dX1_whyNotCleared_52 : decode cX1_whyNotCleared 52 = .ok (.ireturn, 1) := by decide +kernel
set_option maxRecDepth 20000 in
theorem ggX1_cartOfChain_X1_knows : GoodIn wsX1_cartOfChain wsX1_knows := goodIn_r _ [6, 7, 8, 9, 10, 11, 12, 13, 14, 15, 16, 17, 18] (by decide +kernel) (by decide +kernel)
set_option maxRecDepth 20000 in
theorem gX1_cartOfChain_X1_knows : GoodIn wsX1_cartOfChain (wsV RX1 52 RX1 yX1_knows wsX1_knows) := goodIn_app (goodIn_of _ (by decide +kernel)) ggX1_cartOfChain_X1_knows
theorem dX1_cartOfChain_0 : decode cX1_cartOfChain 0 = .ok (.aload_n 0, 1) := by decide +kernel
theorem dX1_cartOfChain_1 : decode cX1_cartOfChain 1 = .ok (.iload_n 1, 1) := by decide +kernel
theorem dX1_cartOfChain_2 : decode cX1_cartOfChain 2 = .ok (.invokevirtual 52, 3) := by decide +kernel
theorem dX1_cartOfChain_5 : decode cX1_cartOfChain 5 = .ok (.ifCond .ne 5, 3) := by decide +kernel
theorem dX1_cartOfChain_8 : decode cX1_cartOfChain 8 = .ok (.iconst (-1), 1) := by decide +kernel
theorem dX1_cartOfChain_9 : decode cX1_cartOfChain 9 = .ok (.ireturn, 1) := by decide +kernel
theorem dX1_cartOfChain_10 : decode cX1_cartOfChain 10 = .ok (.iload_n 2, 1) := by decide +kernel
theorem dX1_cartOfChain_11 : decode cX1_cartOfChain 11 = .ok (.ifCond .ge 6, 3) := by decide +kernel
theorem dX1_cartOfChain_14 : decode cX1_cartOfChain 14 = .ok (.bipush (-2), 2) := by decide +kernel
theorem dX1_cartOfChain_16 : decode cX1_cartOfChain 16 = .ok (.ireturn, 1) := by decide +kernel
theorem dX1_cartOfChain_17 : decode cX1_cartOfChain 17 = .ok (.iload_n 2, 1) := by decide +kernel
theorem dX1_cartOfChain_18 : decode cX1_cartOfChain 18 = .ok (.bipush 24, 2) := by decide +kernel
theorem dX1_cartOfChain_20 : decode cX1_cartOfChain 20 = .ok (.if_icmp .lt 6, 3) := by decide +kernel
theorem dX1_cartOfChain_23 : decode cX1_cartOfChain 23 = .ok (.bipush (-5), 2) := by decide +kernel
theorem dX1_cartOfChain_25 : decode cX1_cartOfChain 25 = .ok (.ireturn, 1) := by decide +kernel
theorem dX1_cartOfChain_26 : decode cX1_cartOfChain 26 = .ok (.iload_n 1, 1) := by decide +kernel
theorem dX1_cartOfChain_27 : decode cX1_cartOfChain 27 = .ok (.istore_n 3, 1) := by decide +kernel
theorem dX1_cartOfChain_28 : decode cX1_cartOfChain 28 = .ok (.iconst 0, 1) := by decide +kernel
theorem dX1_cartOfChain_29 : decode cX1_cartOfChain 29 = .ok (.istore 4, 2) := by decide +kernel
theorem dX1_cartOfChain_31 : decode cX1_cartOfChain 31 = .ok (.iload 4, 2) := by decide +kernel
theorem dX1_cartOfChain_33 : decode cX1_cartOfChain 33 = .ok (.iload_n 2, 1) := by decide +kernel
theorem dX1_cartOfChain_34 : decode cX1_cartOfChain 34 = .ok (.if_icmp .ge 24, 3) := by decide +kernel
theorem dX1_cartOfChain_37 : decode cX1_cartOfChain 37 = .ok (.aload_n 0, 1) := by decide +kernel
theorem dX1_cartOfChain_38 : decode cX1_cartOfChain 38 = .ok (.iload_n 3, 1) := by decide +kernel
theorem dX1_cartOfChain_39 : decode cX1_cartOfChain 39 = .ok (.invokevirtual 52, 3) := by decide +kernel
theorem dX1_cartOfChain_42 : decode cX1_cartOfChain 42 = .ok (.ifCond .eq 16, 3) := by decide +kernel
theorem dX1_cartOfChain_45 : decode cX1_cartOfChain 45 = .ok (.aload_n 0, 1) := by decide +kernel
theorem dX1_cartOfChain_46 : decode cX1_cartOfChain 46 = .ok (.getfield 21, 3) := by decide +kernel
theorem dX1_cartOfChain_49 : decode cX1_cartOfChain 49 = .ok (.iload_n 3, 1) := by decide +kernel
theorem dX1_cartOfChain_50 : decode cX1_cartOfChain 50 = .ok (.iaload, 1) := by decide +kernel
theorem dX1_cartOfChain_51 : decode cX1_cartOfChain 51 = .ok (.istore_n 3, 1) := by decide +kernel
theorem dX1_cartOfChain_52 : decode cX1_cartOfChain 52 = .ok (.iinc 4 1, 3) := by decide +kernel
theorem dX1_cartOfChain_55 : decode cX1_cartOfChain 55 = .ok (.goto (-24), 3) := by decide +kernel
theorem dX1_cartOfChain_58 : decode cX1_cartOfChain 58 = .ok (.aload_n 0, 1) := by decide +kernel
theorem dX1_cartOfChain_59 : decode cX1_cartOfChain 59 = .ok (.iload_n 3, 1) := by decide +kernel
theorem dX1_cartOfChain_60 : decode cX1_cartOfChain 60 = .ok (.invokevirtual 52, 3) := by decide +kernel
theorem dX1_cartOfChain_63 : decode cX1_cartOfChain 63 = .ok (.ifCond .eq 7, 3) := by decide +kernel
theorem dX1_cartOfChain_66 : decode cX1_cartOfChain 66 = .ok (.iload_n 3, 1) := by decide +kernel
theorem dX1_cartOfChain_67 : decode cX1_cartOfChain 67 = .ok (.goto 5, 3) := by decide +kernel
theorem dX1_cartOfChain_70 : decode cX1_cartOfChain 70 = .ok (.bipush (-5), 2) := by decide +kernel
theorem dX1_cartOfChain_72 : decode cX1_cartOfChain 72 = .ok (.ireturn, 1) := by decide +kernel
set_option maxRecDepth 20000 in
theorem ggX1_firstBroken_X1_knows : GoodIn wsX1_firstBroken wsX1_knows := goodIn_r _ [6, 7, 19, 20, 21, 22, 23, 24, 25, 26, 27, 28, 29] (by decide +kernel) (by decide +kernel)
set_option maxRecDepth 20000 in
theorem gX1_firstBroken_X1_knows : GoodIn wsX1_firstBroken (wsV RX1 52 RX1 yX1_knows wsX1_knows) := goodIn_app (goodIn_of _ (by decide +kernel)) ggX1_firstBroken_X1_knows
set_option maxRecDepth 20000 in
theorem ggX1_firstBroken_X1_isWhole : GoodIn wsX1_firstBroken wsX1_isWhole := goodIn_r _ [11, 12, 13, 14, 15, 16, 5, 17, 18, 1, 7, 19, 20, 21, 22, 23, 24, 25, 26, 27, 28, 29] (by decide +kernel) (by decide +kernel)
set_option maxRecDepth 20000 in
theorem gX1_firstBroken_X1_isWhole : GoodIn wsX1_firstBroken (wsV RX1 67 RX1 yX1_isWhole wsX1_isWhole) := goodIn_app (goodIn_of _ (by decide +kernel)) ggX1_firstBroken_X1_isWhole
theorem dX1_firstBroken_0 : decode cX1_firstBroken 0 = .ok (.aload_n 0, 1) := by decide +kernel
theorem dX1_firstBroken_1 : decode cX1_firstBroken 1 = .ok (.iload_n 1, 1) := by decide +kernel
theorem dX1_firstBroken_2 : decode cX1_firstBroken 2 = .ok (.invokevirtual 52, 3) := by decide +kernel
theorem dX1_firstBroken_5 : decode cX1_firstBroken 5 = .ok (.ifCond .ne 5, 3) := by decide +kernel
theorem dX1_firstBroken_8 : decode cX1_firstBroken 8 = .ok (.iconst (-1), 1) := by decide +kernel
theorem dX1_firstBroken_9 : decode cX1_firstBroken 9 = .ok (.ireturn, 1) := by decide +kernel
theorem dX1_firstBroken_10 : decode cX1_firstBroken 10 = .ok (.iload_n 1, 1) := by decide +kernel
theorem dX1_firstBroken_11 : decode cX1_firstBroken 11 = .ok (.istore_n 2, 1) := by decide +kernel
theorem dX1_firstBroken_12 : decode cX1_firstBroken 12 = .ok (.iconst 0, 1) := by decide +kernel
theorem dX1_firstBroken_13 : decode cX1_firstBroken 13 = .ok (.istore_n 3, 1) := by decide +kernel
theorem dX1_firstBroken_14 : decode cX1_firstBroken 14 = .ok (.iload_n 3, 1) := by decide +kernel
theorem dX1_firstBroken_15 : decode cX1_firstBroken 15 = .ok (.bipush 24, 2) := by decide +kernel
theorem dX1_firstBroken_17 : decode cX1_firstBroken 17 = .ok (.if_icmp .ge 34, 3) := by decide +kernel
theorem dX1_firstBroken_20 : decode cX1_firstBroken 20 = .ok (.aload_n 0, 1) := by decide +kernel
theorem dX1_firstBroken_21 : decode cX1_firstBroken 21 = .ok (.iload_n 2, 1) := by decide +kernel
theorem dX1_firstBroken_22 : decode cX1_firstBroken 22 = .ok (.invokevirtual 52, 3) := by decide +kernel
theorem dX1_firstBroken_25 : decode cX1_firstBroken 25 = .ok (.ifCond .eq 26, 3) := by decide +kernel
theorem dX1_firstBroken_28 : decode cX1_firstBroken 28 = .ok (.aload_n 0, 1) := by decide +kernel
theorem dX1_firstBroken_29 : decode cX1_firstBroken 29 = .ok (.iload_n 2, 1) := by decide +kernel
theorem dX1_firstBroken_30 : decode cX1_firstBroken 30 = .ok (.invokevirtual 67, 3) := by decide +kernel
theorem dX1_firstBroken_33 : decode cX1_firstBroken 33 = .ok (.ifCond .ne 5, 3) := by decide +kernel
theorem dX1_firstBroken_36 : decode cX1_firstBroken 36 = .ok (.iload_n 2, 1) := by decide +kernel
theorem dX1_firstBroken_37 : decode cX1_firstBroken 37 = .ok (.ireturn, 1) := by decide +kernel
theorem dX1_firstBroken_38 : decode cX1_firstBroken 38 = .ok (.aload_n 0, 1) := by decide +kernel
theorem dX1_firstBroken_39 : decode cX1_firstBroken 39 = .ok (.getfield 21, 3) := by decide +kernel
theorem dX1_firstBroken_42 : decode cX1_firstBroken 42 = .ok (.iload_n 2, 1) := by decide +kernel
theorem dX1_firstBroken_43 : decode cX1_firstBroken 43 = .ok (.iaload, 1) := by decide +kernel
theorem dX1_firstBroken_44 : decode cX1_firstBroken 44 = .ok (.istore_n 2, 1) := by decide +kernel
theorem dX1_firstBroken_45 : decode cX1_firstBroken 45 = .ok (.iinc 3 1, 3) := by decide +kernel
theorem dX1_firstBroken_48 : decode cX1_firstBroken 48 = .ok (.goto (-34), 3) := by decide +kernel
theorem dX1_firstBroken_51 : decode cX1_firstBroken 51 = .ok (.bipush (-5), 2) := by decide +kernel
theorem dX1_firstBroken_53 : decode cX1_firstBroken 53 = .ok (.ireturn, 1) := by decide +kernel
set_option maxRecDepth 20000 in
theorem ggX1_tellOfAll_J6_bitCount_0f7a4 : GoodIn wsX1_tellOfAll wsJ6_bitCount_0f7a4 := goodIn_r _ [10, 11, 12, 13] (by decide +kernel) (by decide +kernel)
set_option maxRecDepth 20000 in
theorem gX1_tellOfAll_J6_bitCount_0f7a4 : GoodIn wsX1_tellOfAll (va_wsS RX1 87 yJ6_bitCount_0f7a4 wsJ6_bitCount_0f7a4) := goodIn_app (goodIn_of _ (by decide +kernel)) ggX1_tellOfAll_J6_bitCount_0f7a4
set_option maxRecDepth 20000 in
theorem ggX1_tellOfAll_X1_countBroken : GoodIn wsX1_tellOfAll wsX1_countBroken := goodIn_r _ [18, 2, 19, 20, 21, 17, 22, 23, 24, 25, 26, 27, 28, 1, 29, 70, 71, 72, 73, 74, 75, 76, 77, 78, 79, 80] (by decide +kernel) (by decide +kernel)
set_option maxRecDepth 20000 in
theorem gX1_tellOfAll_X1_countBroken : GoodIn wsX1_tellOfAll (wsV RX1 120 RX1 yX1_countBroken wsX1_countBroken) := goodIn_app (goodIn_of _ (by decide +kernel)) ggX1_tellOfAll_X1_countBroken
set_option maxRecDepth 20000 in
theorem ggX1_tellOfAll_X1_finesOfAll : GoodIn wsX1_tellOfAll wsX1_finesOfAll := goodIn_r _ [33, 2, 34, 70, 71, 72, 73, 74, 75, 76, 77, 78, 79, 80] (by decide +kernel) (by decide +kernel)
set_option maxRecDepth 20000 in
theorem gX1_tellOfAll_X1_finesOfAll : GoodIn wsX1_tellOfAll (wsV RX1 123 RX1 yX1_finesOfAll wsX1_finesOfAll) := goodIn_app (goodIn_of _ (by decide +kernel)) ggX1_tellOfAll_X1_finesOfAll
set_option maxRecDepth 20000 in
theorem ggX1_tellOfAll_X1_greatestDepth : GoodIn wsX1_tellOfAll wsX1_greatestDepth := goodIn_r _ [38, 2, 39, 40, 41, 42, 43, 44, 45, 17, 46, 29, 47, 48, 49, 50, 51, 52, 53, 7, 8, 9, 10, 11, 12, 13, 70, 71, 72, 73, 74, 75, 76, 77, 78, 79, 80] (by decide +kernel) (by decide +kernel)
set_option maxRecDepth 20000 in
theorem gX1_tellOfAll_X1_greatestDepth : GoodIn wsX1_tellOfAll (wsV RX1 126 RX1 yX1_greatestDepth wsX1_greatestDepth) := goodIn_app (goodIn_of _ (by decide +kernel)) ggX1_tellOfAll_X1_greatestDepth
set_option maxRecDepth 20000 in
theorem ggX1_tellOfAll_X1_countUnvouched : GoodIn wsX1_tellOfAll wsX1_countUnvouched := goodIn_r _ [57, 2, 58, 59, 60, 17, 61, 29, 51, 52, 53, 70, 71, 72, 73, 74, 75, 76, 77, 78, 79, 80] (by decide +kernel) (by decide +kernel)
set_option maxRecDepth 20000 in
theorem gX1_tellOfAll_X1_countUnvouched : GoodIn wsX1_tellOfAll (wsV RX1 129 RX1 yX1_countUnvouched wsX1_countUnvouched) := goodIn_app (goodIn_of _ (by decide +kernel)) ggX1_tellOfAll_X1_countUnvouched
set_option maxRecDepth 20000 in
theorem ggX1_tellOfAll_X1_sacksFound : GoodIn wsX1_tellOfAll wsX1_sacksFound := goodIn_r _ [65, 2, 3, 66, 67, 68, 17, 69, 51, 52, 53, 70, 71, 72, 73, 74, 75, 76, 77, 78, 79, 80] (by decide +kernel) (by decide +kernel)
set_option maxRecDepth 20000 in
theorem gX1_tellOfAll_X1_sacksFound : GoodIn wsX1_tellOfAll (wsV RX1 132 RX1 yX1_sacksFound wsX1_sacksFound) := goodIn_app (goodIn_of _ (by decide +kernel)) ggX1_tellOfAll_X1_sacksFound
theorem dX1_tellOfAll_0 : decode cX1_tellOfAll 0 = .ok (.iload_n 1, 1) := by decide +kernel
theorem dX1_tellOfAll_1 : decode cX1_tellOfAll 1 = .ok (.ifCond .lt 15, 3) := by decide +kernel
theorem dX1_tellOfAll_4 : decode cX1_tellOfAll 4 = .ok (.iload_n 1, 1) := by decide +kernel
theorem dX1_tellOfAll_5 : decode cX1_tellOfAll 5 = .ok (.iconst 5, 1) := by decide +kernel
theorem dX1_tellOfAll_6 : decode cX1_tellOfAll 6 = .ok (.if_icmp .ge 10, 3) := by decide +kernel
theorem dX1_tellOfAll_9 : decode cX1_tellOfAll 9 = .ok (.aload_n 0, 1) := by decide +kernel
theorem dX1_tellOfAll_10 : decode cX1_tellOfAll 10 = .ok (.getfield 9, 3) := by decide +kernel
theorem dX1_tellOfAll_13 : decode cX1_tellOfAll 13 = .ok (.iload_n 1, 1) := by decide +kernel
theorem dX1_tellOfAll_14 : decode cX1_tellOfAll 14 = .ok (.iaload, 1) := by decide +kernel
theorem dX1_tellOfAll_15 : decode cX1_tellOfAll 15 = .ok (.ireturn, 1) := by decide +kernel
theorem dX1_tellOfAll_16 : decode cX1_tellOfAll 16 = .ok (.iload_n 1, 1) := by decide +kernel
theorem dX1_tellOfAll_17 : decode cX1_tellOfAll 17 = .ok (.tableswitch 114 5 14 #[55, 60, 68, 76, 84, 89, 94, 99, 104, 109], 55) := by decide +kernel
theorem dX1_tellOfAll_72 : decode cX1_tellOfAll 72 = .ok (.aload_n 0, 1) := by decide +kernel
theorem dX1_tellOfAll_73 : decode cX1_tellOfAll 73 = .ok (.getfield 30, 3) := by decide +kernel
theorem dX1_tellOfAll_76 : decode cX1_tellOfAll 76 = .ok (.ireturn, 1) := by decide +kernel
theorem dX1_tellOfAll_77 : decode cX1_tellOfAll 77 = .ok (.aload_n 0, 1) := by decide +kernel
theorem dX1_tellOfAll_78 : decode cX1_tellOfAll 78 = .ok (.getfield 34, 3) := by decide +kernel
theorem dX1_tellOfAll_81 : decode cX1_tellOfAll 81 = .ok (.invokestatic 87, 3) := by decide +kernel
theorem dX1_tellOfAll_84 : decode cX1_tellOfAll 84 = .ok (.ireturn, 1) := by decide +kernel
theorem dX1_tellOfAll_85 : decode cX1_tellOfAll 85 = .ok (.aload_n 0, 1) := by decide +kernel
theorem dX1_tellOfAll_86 : decode cX1_tellOfAll 86 = .ok (.getfield 40, 3) := by decide +kernel
theorem dX1_tellOfAll_89 : decode cX1_tellOfAll 89 = .ok (.invokestatic 87, 3) := by decide +kernel
theorem dX1_tellOfAll_92 : decode cX1_tellOfAll 92 = .ok (.ireturn, 1) := by decide +kernel
theorem dX1_tellOfAll_93 : decode cX1_tellOfAll 93 = .ok (.aload_n 0, 1) := by decide +kernel
theorem dX1_tellOfAll_94 : decode cX1_tellOfAll 94 = .ok (.getfield 37, 3) := by decide +kernel
theorem dX1_tellOfAll_97 : decode cX1_tellOfAll 97 = .ok (.invokestatic 87, 3) := by decide +kernel
theorem dX1_tellOfAll_100 : decode cX1_tellOfAll 100 = .ok (.ireturn, 1) := by decide +kernel
theorem dX1_tellOfAll_101 : decode cX1_tellOfAll 101 = .ok (.aload_n 0, 1) := by decide +kernel
theorem dX1_tellOfAll_102 : decode cX1_tellOfAll 102 = .ok (.invokevirtual 120, 3) := by decide +kernel
theorem dX1_tellOfAll_105 : decode cX1_tellOfAll 105 = .ok (.ireturn, 1) := by decide +kernel
theorem dX1_tellOfAll_106 : decode cX1_tellOfAll 106 = .ok (.aload_n 0, 1) := by decide +kernel
theorem dX1_tellOfAll_107 : decode cX1_tellOfAll 107 = .ok (.getfield 43, 3) := by decide +kernel
theorem dX1_tellOfAll_110 : decode cX1_tellOfAll 110 = .ok (.ireturn, 1) := by decide +kernel
theorem dX1_tellOfAll_111 : decode cX1_tellOfAll 111 = .ok (.aload_n 0, 1) := by decide +kernel
theorem dX1_tellOfAll_112 : decode cX1_tellOfAll 112 = .ok (.invokevirtual 123, 3) := by decide +kernel
theorem dX1_tellOfAll_115 : decode cX1_tellOfAll 115 = .ok (.ireturn, 1) := by decide +kernel
theorem dX1_tellOfAll_116 : decode cX1_tellOfAll 116 = .ok (.aload_n 0, 1) := by decide +kernel
theorem dX1_tellOfAll_117 : decode cX1_tellOfAll 117 = .ok (.invokevirtual 126, 3) := by decide +kernel
theorem dX1_tellOfAll_120 : decode cX1_tellOfAll 120 = .ok (.ireturn, 1) := by decide +kernel
theorem dX1_tellOfAll_121 : decode cX1_tellOfAll 121 = .ok (.aload_n 0, 1) := by decide +kernel
theorem dX1_tellOfAll_122 : decode cX1_tellOfAll 122 = .ok (.invokevirtual 129, 3) := by decide +kernel
theorem dX1_tellOfAll_125 : decode cX1_tellOfAll 125 = .ok (.ireturn, 1) := by decide +kernel
theorem dX1_tellOfAll_126 : decode cX1_tellOfAll 126 = .ok (.aload_n 0, 1) := by decide +kernel
theorem dX1_tellOfAll_127 : decode cX1_tellOfAll 127 = .ok (.invokevirtual 132, 3) := by decide +kernel
theorem dX1_tellOfAll_130 : decode cX1_tellOfAll 130 = .ok (.ireturn, 1) := by decide +kernel
theorem dX1_tellOfAll_131 : decode cX1_tellOfAll 131 = .ok (.bipush (-2), 2) := by decide +kernel
theorem dX1_tellOfAll_133 : decode cX1_tellOfAll 133 = .ok (.ireturn, 1) := by decide +kernel
set_option maxRecDepth 20000 in
theorem ggX1_countBroken_X1_isWhole : GoodIn wsX1_countBroken wsX1_isWhole := goodIn_r _ [6, 7, 8, 9, 10, 11, 5, 12, 13, 14, 1, 15, 16, 17, 18, 19, 20, 21, 22, 23, 24, 25] (by decide +kernel) (by decide +kernel)
set_option maxRecDepth 20000 in
theorem gX1_countBroken_X1_isWhole : GoodIn wsX1_countBroken (wsV RX1 67 RX1 yX1_isWhole wsX1_isWhole) := goodIn_app (goodIn_of _ (by decide +kernel)) ggX1_countBroken_X1_isWhole
theorem dX1_countBroken_0 : decode cX1_countBroken 0 = .ok (.iconst 0, 1) := by decide +kernel
theorem dX1_countBroken_1 : decode cX1_countBroken 1 = .ok (.istore_n 1, 1) := by decide +kernel
theorem dX1_countBroken_2 : decode cX1_countBroken 2 = .ok (.iconst 0, 1) := by decide +kernel
theorem dX1_countBroken_3 : decode cX1_countBroken 3 = .ok (.istore_n 2, 1) := by decide +kernel
theorem dX1_countBroken_4 : decode cX1_countBroken 4 = .ok (.iload_n 2, 1) := by decide +kernel
theorem dX1_countBroken_5 : decode cX1_countBroken 5 = .ok (.aload_n 0, 1) := by decide +kernel
theorem dX1_countBroken_6 : decode cX1_countBroken 6 = .ok (.getfield 30, 3) := by decide +kernel
theorem dX1_countBroken_9 : decode cX1_countBroken 9 = .ok (.if_icmp .ge 20, 3) := by decide +kernel
theorem dX1_countBroken_12 : decode cX1_countBroken 12 = .ok (.aload_n 0, 1) := by decide +kernel
theorem dX1_countBroken_13 : decode cX1_countBroken 13 = .ok (.iload_n 2, 1) := by decide +kernel
theorem dX1_countBroken_14 : decode cX1_countBroken 14 = .ok (.invokevirtual 67, 3) := by decide +kernel
theorem dX1_countBroken_17 : decode cX1_countBroken 17 = .ok (.ifCond .ne 6, 3) := by decide +kernel
theorem dX1_countBroken_20 : decode cX1_countBroken 20 = .ok (.iinc 1 1, 3) := by decide +kernel
theorem dX1_countBroken_23 : decode cX1_countBroken 23 = .ok (.iinc 2 1, 3) := by decide +kernel
theorem dX1_countBroken_26 : decode cX1_countBroken 26 = .ok (.goto (-22), 3) := by decide +kernel
theorem dX1_countBroken_29 : decode cX1_countBroken 29 = .ok (.iload_n 1, 1) := by decide +kernel
theorem dX1_countBroken_30 : decode cX1_countBroken 30 = .ok (.ireturn, 1) := by decide +kernel
set_option maxRecDepth 20000 in
theorem ggX1_greatestDepth_X1_chainOf : GoodIn wsX1_greatestDepth wsX1_chainOf := goodIn_r _ [10, 11, 12, 13, 14, 9, 15, 1, 16, 17, 18, 26, 27, 28, 29, 30, 31, 32, 33, 34, 35, 36] (by decide +kernel) (by decide +kernel)
set_option maxRecDepth 20000 in
theorem gX1_greatestDepth_X1_chainOf : GoodIn wsX1_greatestDepth (wsV RX1 108 RX1 yX1_chainOf wsX1_chainOf) := goodIn_app (goodIn_of _ (by decide +kernel)) ggX1_greatestDepth_X1_chainOf
set_option maxRecDepth 20000 in
theorem ggX1_greatestDepth_J6_bitCount_0f7a4 : GoodIn wsX1_greatestDepth wsJ6_bitCount_0f7a4 := goodIn_r _ [22, 23, 24, 25] (by decide +kernel) (by decide +kernel)
set_option maxRecDepth 20000 in
theorem gX1_greatestDepth_J6_bitCount_0f7a4 : GoodIn wsX1_greatestDepth (va_wsS RX1 87 yJ6_bitCount_0f7a4 wsJ6_bitCount_0f7a4) := goodIn_app (goodIn_of _ (by decide +kernel)) ggX1_greatestDepth_J6_bitCount_0f7a4
theorem dX1_greatestDepth_0 : decode cX1_greatestDepth 0 = .ok (.iconst 0, 1) := by decide +kernel
theorem dX1_greatestDepth_1 : decode cX1_greatestDepth 1 = .ok (.istore_n 1, 1) := by decide +kernel
theorem dX1_greatestDepth_2 : decode cX1_greatestDepth 2 = .ok (.iconst 0, 1) := by decide +kernel
theorem dX1_greatestDepth_3 : decode cX1_greatestDepth 3 = .ok (.istore_n 2, 1) := by decide +kernel
theorem dX1_greatestDepth_4 : decode cX1_greatestDepth 4 = .ok (.iload_n 2, 1) := by decide +kernel
theorem dX1_greatestDepth_5 : decode cX1_greatestDepth 5 = .ok (.aload_n 0, 1) := by decide +kernel
theorem dX1_greatestDepth_6 : decode cX1_greatestDepth 6 = .ok (.getfield 30, 3) := by decide +kernel
theorem dX1_greatestDepth_9 : decode cX1_greatestDepth 9 = .ok (.if_icmp .ge 22, 3) := by decide +kernel
theorem dX1_greatestDepth_12 : decode cX1_greatestDepth 12 = .ok (.iload_n 1, 1) := by decide +kernel
theorem dX1_greatestDepth_13 : decode cX1_greatestDepth 13 = .ok (.aload_n 0, 1) := by decide +kernel
theorem dX1_greatestDepth_14 : decode cX1_greatestDepth 14 = .ok (.iload_n 2, 1) := by decide +kernel
theorem dX1_greatestDepth_15 : decode cX1_greatestDepth 15 = .ok (.invokevirtual 108, 3) := by decide +kernel
theorem dX1_greatestDepth_18 : decode cX1_greatestDepth 18 = .ok (.invokestatic 87, 3) := by decide +kernel
theorem dX1_greatestDepth_21 : decode cX1_greatestDepth 21 = .ok (.invokestatic 135, 3) := by decide +kernel
theorem dX1_greatestDepth_24 : decode cX1_greatestDepth 24 = .ok (.istore_n 1, 1) := by decide +kernel
theorem dX1_greatestDepth_25 : decode cX1_greatestDepth 25 = .ok (.iinc 2 1, 3) := by decide +kernel
theorem dX1_greatestDepth_28 : decode cX1_greatestDepth 28 = .ok (.goto (-24), 3) := by decide +kernel
theorem dX1_greatestDepth_31 : decode cX1_greatestDepth 31 = .ok (.iload_n 1, 1) := by decide +kernel
theorem dX1_greatestDepth_32 : decode cX1_greatestDepth 32 = .ok (.ireturn, 1) := by decide +kernel
set_option maxRecDepth 20000 in
theorem ggX1_countUnvouched_X1_vouchers : GoodIn wsX1_countUnvouched wsX1_vouchers := goodIn_r _ [6, 1, 7, 8, 9, 5, 10, 11, 12, 13, 14, 15, 16, 17, 18, 19, 20, 21] (by decide +kernel) (by decide +kernel)
set_option maxRecDepth 20000 in
theorem gX1_countUnvouched_X1_vouchers : GoodIn wsX1_countUnvouched (wsV RX1 111 RX1 yX1_vouchers wsX1_vouchers) := goodIn_app (goodIn_of _ (by decide +kernel)) ggX1_countUnvouched_X1_vouchers
theorem dX1_countUnvouched_0 : decode cX1_countUnvouched 0 = .ok (.iconst 0, 1) := by decide +kernel
theorem dX1_countUnvouched_1 : decode cX1_countUnvouched 1 = .ok (.istore_n 1, 1) := by decide +kernel
theorem dX1_countUnvouched_2 : decode cX1_countUnvouched 2 = .ok (.iconst 0, 1) := by decide +kernel
theorem dX1_countUnvouched_3 : decode cX1_countUnvouched 3 = .ok (.istore_n 2, 1) := by decide +kernel
theorem dX1_countUnvouched_4 : decode cX1_countUnvouched 4 = .ok (.iload_n 2, 1) := by decide +kernel
theorem dX1_countUnvouched_5 : decode cX1_countUnvouched 5 = .ok (.aload_n 0, 1) := by decide +kernel
theorem dX1_countUnvouched_6 : decode cX1_countUnvouched 6 = .ok (.getfield 30, 3) := by decide +kernel
theorem dX1_countUnvouched_9 : decode cX1_countUnvouched 9 = .ok (.if_icmp .ge 20, 3) := by decide +kernel
theorem dX1_countUnvouched_12 : decode cX1_countUnvouched 12 = .ok (.aload_n 0, 1) := by decide +kernel
theorem dX1_countUnvouched_13 : decode cX1_countUnvouched 13 = .ok (.iload_n 2, 1) := by decide +kernel
theorem dX1_countUnvouched_14 : decode cX1_countUnvouched 14 = .ok (.invokevirtual 111, 3) := by decide +kernel
theorem dX1_countUnvouched_17 : decode cX1_countUnvouched 17 = .ok (.ifCond .ne 6, 3) := by decide +kernel
theorem dX1_countUnvouched_20 : decode cX1_countUnvouched 20 = .ok (.iinc 1 1, 3) := by decide +kernel
theorem dX1_countUnvouched_23 : decode cX1_countUnvouched 23 = .ok (.iinc 2 1, 3) := by decide +kernel
theorem dX1_countUnvouched_26 : decode cX1_countUnvouched 26 = .ok (.goto (-22), 3) := by decide +kernel
theorem dX1_countUnvouched_29 : decode cX1_countUnvouched 29 = .ok (.iload_n 1, 1) := by decide +kernel
theorem dX1_countUnvouched_30 : decode cX1_countUnvouched 30 = .ok (.ireturn, 1) := by decide +kernel
theorem dX1_finesOfAll_0 : decode cX1_finesOfAll 0 = .ok (.iconst 0, 1) := by decide +kernel
theorem dX1_finesOfAll_1 : decode cX1_finesOfAll 1 = .ok (.istore_n 1, 1) := by decide +kernel
theorem dX1_finesOfAll_2 : decode cX1_finesOfAll 2 = .ok (.iconst 0, 1) := by decide +kernel
theorem dX1_finesOfAll_3 : decode cX1_finesOfAll 3 = .ok (.istore_n 2, 1) := by decide +kernel
theorem dX1_finesOfAll_4 : decode cX1_finesOfAll 4 = .ok (.iload_n 2, 1) := by decide +kernel
theorem dX1_finesOfAll_5 : decode cX1_finesOfAll 5 = .ok (.aload_n 0, 1) := by decide +kernel
theorem dX1_finesOfAll_6 : decode cX1_finesOfAll 6 = .ok (.getfield 30, 3) := by decide +kernel
theorem dX1_finesOfAll_9 : decode cX1_finesOfAll 9 = .ok (.if_icmp .ge 18, 3) := by decide +kernel
theorem dX1_finesOfAll_12 : decode cX1_finesOfAll 12 = .ok (.iload_n 1, 1) := by decide +kernel
theorem dX1_finesOfAll_13 : decode cX1_finesOfAll 13 = .ok (.aload_n 0, 1) := by decide +kernel
theorem dX1_finesOfAll_14 : decode cX1_finesOfAll 14 = .ok (.getfield 27, 3) := by decide +kernel
theorem dX1_finesOfAll_17 : decode cX1_finesOfAll 17 = .ok (.iload_n 2, 1) := by decide +kernel
theorem dX1_finesOfAll_18 : decode cX1_finesOfAll 18 = .ok (.iaload, 1) := by decide +kernel
theorem dX1_finesOfAll_19 : decode cX1_finesOfAll 19 = .ok (.iadd, 1) := by decide +kernel
theorem dX1_finesOfAll_20 : decode cX1_finesOfAll 20 = .ok (.istore_n 1, 1) := by decide +kernel
theorem dX1_finesOfAll_21 : decode cX1_finesOfAll 21 = .ok (.iinc 2 1, 3) := by decide +kernel
theorem dX1_finesOfAll_24 : decode cX1_finesOfAll 24 = .ok (.goto (-20), 3) := by decide +kernel
theorem dX1_finesOfAll_27 : decode cX1_finesOfAll 27 = .ok (.iload_n 1, 1) := by decide +kernel
theorem dX1_finesOfAll_28 : decode cX1_finesOfAll 28 = .ok (.ireturn, 1) := by decide +kernel
set_option maxRecDepth 20000 in
theorem ggX1_sacksFound_X1_isIn : GoodIn wsX1_sacksFound wsX1_isIn := goodIn_r _ [7, 8, 9, 6, 10] (by decide +kernel) (by decide +kernel)
set_option maxRecDepth 20000 in
theorem gX1_sacksFound_X1_isIn : GoodIn wsX1_sacksFound (va_wsS RX1 63 yX1_isIn wsX1_isIn) := goodIn_app (goodIn_of _ (by decide +kernel)) ggX1_sacksFound_X1_isIn
theorem dX1_sacksFound_0 : decode cX1_sacksFound 0 = .ok (.iconst 0, 1) := by decide +kernel
theorem dX1_sacksFound_1 : decode cX1_sacksFound 1 = .ok (.istore_n 1, 1) := by decide +kernel
theorem dX1_sacksFound_2 : decode cX1_sacksFound 2 = .ok (.iconst 0, 1) := by decide +kernel
theorem dX1_sacksFound_3 : decode cX1_sacksFound 3 = .ok (.istore_n 2, 1) := by decide +kernel
theorem dX1_sacksFound_4 : decode cX1_sacksFound 4 = .ok (.iload_n 2, 1) := by decide +kernel
theorem dX1_sacksFound_5 : decode cX1_sacksFound 5 = .ok (.aload_n 0, 1) := by decide +kernel
theorem dX1_sacksFound_6 : decode cX1_sacksFound 6 = .ok (.getfield 30, 3) := by decide +kernel
theorem dX1_sacksFound_9 : decode cX1_sacksFound 9 = .ok (.if_icmp .ge 29, 3) := by decide +kernel
theorem dX1_sacksFound_12 : decode cX1_sacksFound 12 = .ok (.aload_n 0, 1) := by decide +kernel
theorem dX1_sacksFound_13 : decode cX1_sacksFound 13 = .ok (.getfield 34, 3) := by decide +kernel
theorem dX1_sacksFound_16 : decode cX1_sacksFound 16 = .ok (.iload_n 2, 1) := by decide +kernel
theorem dX1_sacksFound_17 : decode cX1_sacksFound 17 = .ok (.invokestatic 63, 3) := by decide +kernel
theorem dX1_sacksFound_20 : decode cX1_sacksFound 20 = .ok (.ifCond .eq 12, 3) := by decide +kernel
theorem dX1_sacksFound_23 : decode cX1_sacksFound 23 = .ok (.iload_n 1, 1) := by decide +kernel
theorem dX1_sacksFound_24 : decode cX1_sacksFound 24 = .ok (.aload_n 0, 1) := by decide +kernel
theorem dX1_sacksFound_25 : decode cX1_sacksFound 25 = .ok (.getfield 18, 3) := by decide +kernel
theorem dX1_sacksFound_28 : decode cX1_sacksFound 28 = .ok (.iload_n 2, 1) := by decide +kernel
theorem dX1_sacksFound_29 : decode cX1_sacksFound 29 = .ok (.iaload, 1) := by decide +kernel
theorem dX1_sacksFound_30 : decode cX1_sacksFound 30 = .ok (.iadd, 1) := by decide +kernel
theorem dX1_sacksFound_31 : decode cX1_sacksFound 31 = .ok (.istore_n 1, 1) := by decide +kernel
theorem dX1_sacksFound_32 : decode cX1_sacksFound 32 = .ok (.iinc 2 1, 3) := by decide +kernel
theorem dX1_sacksFound_35 : decode cX1_sacksFound 35 = .ok (.goto (-31), 3) := by decide +kernel
theorem dX1_sacksFound_38 : decode cX1_sacksFound 38 = .ok (.iload_n 1, 1) := by decide +kernel
theorem dX1_sacksFound_39 : decode cX1_sacksFound 39 = .ok (.ireturn, 1) := by decide +kernel
set_option maxRecDepth 20000 in
theorem ggX1_foretell_X1_knows : GoodIn wsX1_foretell wsX1_knows := goodIn_r _ [7, 8, 59, 60, 61, 62, 63, 64, 65, 66, 67, 68, 69] (by decide +kernel) (by decide +kernel)
set_option maxRecDepth 20000 in
theorem gX1_foretell_X1_knows : GoodIn wsX1_foretell (wsV RX1 52 RX1 yX1_knows wsX1_knows) := goodIn_app (goodIn_of _ (by decide +kernel)) ggX1_foretell_X1_knows
set_option maxRecDepth 20000 in
theorem ggX1_foretell_X1_isIn : GoodIn wsX1_foretell wsX1_isIn := goodIn_r _ [11, 12, 13, 6, 14] (by decide +kernel) (by decide +kernel)
set_option maxRecDepth 20000 in
theorem gX1_foretell_X1_isIn : GoodIn wsX1_foretell (va_wsS RX1 63 yX1_isIn wsX1_isIn) := goodIn_app (goodIn_of _ (by decide +kernel)) ggX1_foretell_X1_isIn
set_option maxRecDepth 20000 in
theorem ggX1_foretell_X1_clearedIfHonest : GoodIn wsX1_foretell wsX1_clearedIfHonest := goodIn_r _ [18, 19, 20, 21, 22, 23, 6, 24, 25, 3, 4, 5, 7, 8, 12, 13, 14, 26, 27, 28, 29, 30, 31, 32, 33, 34, 35, 2, 59, 60, 61, 62, 63, 64, 65, 66, 67, 68, 69] (by decide +kernel) (by decide +kernel)
set_option maxRecDepth 20000 in
theorem gX1_foretell_X1_clearedIfHonest : GoodIn wsX1_foretell (wsV RX1 84 RX1 yX1_clearedIfHonest wsX1_clearedIfHonest) := goodIn_app (goodIn_of _ (by decide +kernel)) ggX1_foretell_X1_clearedIfHonest
set_option maxRecDepth 20000 in
theorem ggX1_foretell_J6_bitCount_0f7a4 : GoodIn wsX1_foretell wsJ6_bitCount_0f7a4 := goodIn_r _ [39, 40, 41, 42] (by decide +kernel) (by decide +kernel)
set_option maxRecDepth 20000 in
theorem gX1_foretell_J6_bitCount_0f7a4 : GoodIn wsX1_foretell (va_wsS RX1 87 yJ6_bitCount_0f7a4 wsJ6_bitCount_0f7a4) := goodIn_app (goodIn_of _ (by decide +kernel)) ggX1_foretell_J6_bitCount_0f7a4
set_option maxRecDepth 20000 in
theorem ggX1_foretell_X1_ownFine : GoodIn wsX1_foretell wsX1_ownFine := goodIn_r _ [46, 2, 31, 47, 48, 49, 50, 26, 27, 28, 6, 29, 30, 32, 33, 34, 35, 25, 8, 51, 52, 53, 54, 59, 60, 61, 62, 63, 64, 65, 66, 67, 68, 69] (by decide +kernel) (by decide +kernel)
set_option maxRecDepth 20000 in
theorem gX1_foretell_X1_ownFine : GoodIn wsX1_foretell (wsV RX1 73 RX1 yX1_ownFine wsX1_ownFine) := goodIn_app (goodIn_of _ (by decide +kernel)) ggX1_foretell_X1_ownFine
set_option maxRecDepth 20000 in
theorem ggX1_foretell_X1_isLie : GoodIn wsX1_foretell wsX1_isLie := goodIn_r _ [54, 31, 59, 60, 61, 62, 63, 64, 65, 66, 67, 68, 69] (by decide +kernel) (by decide +kernel)
set_option maxRecDepth 20000 in
theorem gX1_foretell_X1_isLie : GoodIn wsX1_foretell (wsV RX1 77 RX1 yX1_isLie wsX1_isLie) := goodIn_app (goodIn_of _ (by decide +kernel)) ggX1_foretell_X1_isLie
set_option maxRecDepth 20000 in
theorem ggX1_foretell_X1_wholeVouchers : GoodIn wsX1_foretell wsX1_wholeVouchers := goodIn_r _ [58, 8, 25, 26, 27, 28, 6, 29, 30, 31, 32, 33, 34, 35, 2, 12, 13, 14, 59, 60, 61, 62, 63, 64, 65, 66, 67, 68, 69] (by decide +kernel) (by decide +kernel)
set_option maxRecDepth 20000 in
theorem gX1_foretell_X1_wholeVouchers : GoodIn wsX1_foretell (wsV RX1 92 RX1 yX1_wholeVouchers wsX1_wholeVouchers) := goodIn_app (goodIn_of _ (by decide +kernel)) ggX1_foretell_X1_wholeVouchers
theorem dX1_foretell_0 : decode cX1_foretell 0 = .ok (.aload_n 0, 1) := by decide +kernel
theorem dX1_foretell_1 : decode cX1_foretell 1 = .ok (.iload_n 1, 1) := by decide +kernel
theorem dX1_foretell_2 : decode cX1_foretell 2 = .ok (.invokevirtual 52, 3) := by decide +kernel
theorem dX1_foretell_5 : decode cX1_foretell 5 = .ok (.ifCond .ne 5, 3) := by decide +kernel
theorem dX1_foretell_8 : decode cX1_foretell 8 = .ok (.iconst (-1), 1) := by decide +kernel
theorem dX1_foretell_9 : decode cX1_foretell 9 = .ok (.ireturn, 1) := by decide +kernel
theorem dX1_foretell_10 : decode cX1_foretell 10 = .ok (.iload_n 2, 1) := by decide +kernel
theorem dX1_foretell_11 : decode cX1_foretell 11 = .ok (.ifCond .lt 8, 3) := by decide +kernel
theorem dX1_foretell_14 : decode cX1_foretell 14 = .ok (.iload_n 2, 1) := by decide +kernel
theorem dX1_foretell_15 : decode cX1_foretell 15 = .ok (.iconst 2, 1) := by decide +kernel
theorem dX1_foretell_16 : decode cX1_foretell 16 = .ok (.if_icmp .le 6, 3) := by decide +kernel
theorem dX1_foretell_19 : decode cX1_foretell 19 = .ok (.bipush (-2), 2) := by decide +kernel
theorem dX1_foretell_21 : decode cX1_foretell 21 = .ok (.ireturn, 1) := by decide +kernel
theorem dX1_foretell_22 : decode cX1_foretell 22 = .ok (.aload_n 0, 1) := by decide +kernel
theorem dX1_foretell_23 : decode cX1_foretell 23 = .ok (.getfield 34, 3) := by decide +kernel
theorem dX1_foretell_26 : decode cX1_foretell 26 = .ok (.iload_n 1, 1) := by decide +kernel
theorem dX1_foretell_27 : decode cX1_foretell 27 = .ok (.invokestatic 63, 3) := by decide +kernel
theorem dX1_foretell_30 : decode cX1_foretell 30 = .ok (.ifCond .eq 6, 3) := by decide +kernel
theorem dX1_foretell_33 : decode cX1_foretell 33 = .ok (.bipush (-4), 2) := by decide +kernel
theorem dX1_foretell_35 : decode cX1_foretell 35 = .ok (.ireturn, 1) := by decide +kernel
theorem dX1_foretell_36 : decode cX1_foretell 36 = .ok (.iload_n 2, 1) := by decide +kernel
theorem dX1_foretell_37 : decode cX1_foretell 37 = .ok (.ifCond .ne 12, 3) := by decide +kernel
theorem dX1_foretell_40 : decode cX1_foretell 40 = .ok (.aload_n 0, 1) := by decide +kernel
theorem dX1_foretell_41 : decode cX1_foretell 41 = .ok (.iload_n 1, 1) := by decide +kernel
theorem dX1_foretell_42 : decode cX1_foretell 42 = .ok (.invokevirtual 84, 3) := by decide +kernel
theorem dX1_foretell_45 : decode cX1_foretell 45 = .ok (.invokestatic 87, 3) := by decide +kernel
theorem dX1_foretell_48 : decode cX1_foretell 48 = .ok (.ireturn, 1) := by decide +kernel
theorem dX1_foretell_49 : decode cX1_foretell 49 = .ok (.iload_n 2, 1) := by decide +kernel
theorem dX1_foretell_50 : decode cX1_foretell 50 = .ok (.iconst 1, 1) := by decide +kernel
theorem dX1_foretell_51 : decode cX1_foretell 51 = .ok (.if_icmp .ne 10, 3) := by decide +kernel
theorem dX1_foretell_54 : decode cX1_foretell 54 = .ok (.aload_n 0, 1) := by decide +kernel
theorem dX1_foretell_55 : decode cX1_foretell 55 = .ok (.iload_n 1, 1) := by decide +kernel
theorem dX1_foretell_56 : decode cX1_foretell 56 = .ok (.iconst 0, 1) := by decide +kernel
theorem dX1_foretell_57 : decode cX1_foretell 57 = .ok (.invokevirtual 73, 3) := by decide +kernel
theorem dX1_foretell_60 : decode cX1_foretell 60 = .ok (.ireturn, 1) := by decide +kernel
theorem dX1_foretell_61 : decode cX1_foretell 61 = .ok (.aload_n 0, 1) := by decide +kernel
theorem dX1_foretell_62 : decode cX1_foretell 62 = .ok (.iload_n 1, 1) := by decide +kernel
theorem dX1_foretell_63 : decode cX1_foretell 63 = .ok (.iconst 0, 1) := by decide +kernel
theorem dX1_foretell_64 : decode cX1_foretell 64 = .ok (.invokevirtual 77, 3) := by decide +kernel
theorem dX1_foretell_67 : decode cX1_foretell 67 = .ok (.ifCond .eq 21, 3) := by decide +kernel
theorem dX1_foretell_70 : decode cX1_foretell 70 = .ok (.aload_n 0, 1) := by decide +kernel
theorem dX1_foretell_71 : decode cX1_foretell 71 = .ok (.getfield 9, 3) := by decide +kernel
theorem dX1_foretell_74 : decode cX1_foretell 74 = .ok (.iconst 4, 1) := by decide +kernel
theorem dX1_foretell_75 : decode cX1_foretell 75 = .ok (.iaload, 1) := by decide +kernel
theorem dX1_foretell_76 : decode cX1_foretell 76 = .ok (.aload_n 0, 1) := by decide +kernel
theorem dX1_foretell_77 : decode cX1_foretell 77 = .ok (.iload_n 1, 1) := by decide +kernel
theorem dX1_foretell_78 : decode cX1_foretell 78 = .ok (.invokevirtual 92, 3) := by decide +kernel
theorem dX1_foretell_81 : decode cX1_foretell 81 = .ok (.invokestatic 87, 3) := by decide +kernel
theorem dX1_foretell_84 : decode cX1_foretell 84 = .ok (.imul, 1) := by decide +kernel
theorem dX1_foretell_85 : decode cX1_foretell 85 = .ok (.goto 4, 3) := by decide +kernel
theorem dX1_foretell_88 : decode cX1_foretell 88 = .ok (.iconst 0, 1) := by decide +kernel
theorem dX1_foretell_89 : decode cX1_foretell 89 = .ok (.ireturn, 1) := by decide +kernel
set_option maxRecDepth 20000 in
theorem ggX1_countEnds_X1_waiting : GoodIn wsX1_countEnds wsX1_waiting := goodIn_r _ [6, 7, 8, 9, 10, 11, 5, 12, 1, 13, 14, 15, 46, 47, 48, 49, 50, 51, 52, 53, 54, 55, 56] (by decide +kernel) (by decide +kernel)
set_option maxRecDepth 20000 in
theorem gX1_countEnds_X1_waiting : GoodIn wsX1_countEnds (wsV RX1 95 RX1 yX1_waiting wsX1_waiting) := goodIn_app (goodIn_of _ (by decide +kernel)) ggX1_countEnds_X1_waiting
set_option maxRecDepth 20000 in
theorem ggX1_countEnds_X1_isIn : GoodIn wsX1_countEnds wsX1_isIn := goodIn_r _ [18, 13, 14, 5, 15] (by decide +kernel) (by decide +kernel)
set_option maxRecDepth 20000 in
theorem gX1_countEnds_X1_isIn : GoodIn wsX1_countEnds (va_wsS RX1 63 yX1_isIn wsX1_isIn) := goodIn_app (goodIn_of _ (by decide +kernel)) ggX1_countEnds_X1_isIn
set_option maxRecDepth 20000 in
theorem ggX1_countEnds_X1_reachedFrom : GoodIn wsX1_countEnds wsX1_reachedFrom := goodIn_r _ [22, 23, 24, 25, 26, 5, 27, 1, 13, 14, 15, 28, 29, 30, 31, 32, 33, 34, 35, 36, 37, 38, 46, 47, 48, 49, 50, 51, 52, 53, 54, 55, 56] (by decide +kernel) (by decide +kernel)
set_option maxRecDepth 20000 in
theorem gX1_countEnds_X1_reachedFrom : GoodIn wsX1_countEnds (wsV RX1 140 RX1 yX1_reachedFrom wsX1_reachedFrom) := goodIn_app (goodIn_of _ (by decide +kernel)) ggX1_countEnds_X1_reachedFrom
set_option maxRecDepth 20000 in
theorem ggX1_countEnds_X1_bit : GoodIn wsX1_countEnds wsX1_bit := goodIn_r _ [15] (by decide +kernel) (by decide +kernel)
set_option maxRecDepth 20000 in
theorem gX1_countEnds_X1_bit : GoodIn wsX1_countEnds (va_wsS RX1 70 yX1_bit wsX1_bit) := goodIn_app (goodIn_of _ (by decide +kernel)) ggX1_countEnds_X1_bit
set_option maxRecDepth 20000 in
theorem ggX1_countEnds_J6_bitCount_0f7a4 : GoodIn wsX1_countEnds wsJ6_bitCount_0f7a4 := goodIn_r _ [42, 43, 44, 45] (by decide +kernel) (by decide +kernel)
set_option maxRecDepth 20000 in
theorem gX1_countEnds_J6_bitCount_0f7a4 : GoodIn wsX1_countEnds (va_wsS RX1 87 yJ6_bitCount_0f7a4 wsJ6_bitCount_0f7a4) := goodIn_app (goodIn_of _ (by decide +kernel)) ggX1_countEnds_J6_bitCount_0f7a4
theorem dX1_countEnds_0 : decode cX1_countEnds 0 = .ok (.aload_n 0, 1) := by decide +kernel
theorem dX1_countEnds_1 : decode cX1_countEnds 1 = .ok (.invokevirtual 95, 3) := by decide +kernel
theorem dX1_countEnds_4 : decode cX1_countEnds 4 = .ok (.istore_n 1, 1) := by decide +kernel
theorem dX1_countEnds_5 : decode cX1_countEnds 5 = .ok (.iconst 0, 1) := by decide +kernel
theorem dX1_countEnds_6 : decode cX1_countEnds 6 = .ok (.istore_n 2, 1) := by decide +kernel
theorem dX1_countEnds_7 : decode cX1_countEnds 7 = .ok (.iconst 0, 1) := by decide +kernel
theorem dX1_countEnds_8 : decode cX1_countEnds 8 = .ok (.istore_n 3, 1) := by decide +kernel
theorem dX1_countEnds_9 : decode cX1_countEnds 9 = .ok (.iload_n 3, 1) := by decide +kernel
theorem dX1_countEnds_10 : decode cX1_countEnds 10 = .ok (.aload_n 0, 1) := by decide +kernel
theorem dX1_countEnds_11 : decode cX1_countEnds 11 = .ok (.getfield 30, 3) := by decide +kernel
theorem dX1_countEnds_14 : decode cX1_countEnds 14 = .ok (.if_icmp .ge 32, 3) := by decide +kernel
theorem dX1_countEnds_17 : decode cX1_countEnds 17 = .ok (.iload_n 1, 1) := by decide +kernel
theorem dX1_countEnds_18 : decode cX1_countEnds 18 = .ok (.iload_n 3, 1) := by decide +kernel
theorem dX1_countEnds_19 : decode cX1_countEnds 19 = .ok (.invokestatic 63, 3) := by decide +kernel
theorem dX1_countEnds_22 : decode cX1_countEnds 22 = .ok (.ifCond .eq 18, 3) := by decide +kernel
theorem dX1_countEnds_25 : decode cX1_countEnds 25 = .ok (.iload_n 2, 1) := by decide +kernel
theorem dX1_countEnds_26 : decode cX1_countEnds 26 = .ok (.aload_n 0, 1) := by decide +kernel
theorem dX1_countEnds_27 : decode cX1_countEnds 27 = .ok (.iload_n 3, 1) := by decide +kernel
theorem dX1_countEnds_28 : decode cX1_countEnds 28 = .ok (.invokevirtual 140, 3) := by decide +kernel
theorem dX1_countEnds_31 : decode cX1_countEnds 31 = .ok (.iload_n 3, 1) := by decide +kernel
theorem dX1_countEnds_32 : decode cX1_countEnds 32 = .ok (.invokestatic 70, 3) := by decide +kernel
theorem dX1_countEnds_35 : decode cX1_countEnds 35 = .ok (.iconst (-1), 1) := by decide +kernel
theorem dX1_countEnds_36 : decode cX1_countEnds 36 = .ok (.ixor, 1) := by decide +kernel
theorem dX1_countEnds_37 : decode cX1_countEnds 37 = .ok (.iand, 1) := by decide +kernel
theorem dX1_countEnds_38 : decode cX1_countEnds 38 = .ok (.ior, 1) := by decide +kernel
theorem dX1_countEnds_39 : decode cX1_countEnds 39 = .ok (.istore_n 2, 1) := by decide +kernel
theorem dX1_countEnds_40 : decode cX1_countEnds 40 = .ok (.iinc 3 1, 3) := by decide +kernel
theorem dX1_countEnds_43 : decode cX1_countEnds 43 = .ok (.goto (-34), 3) := by decide +kernel
theorem dX1_countEnds_46 : decode cX1_countEnds 46 = .ok (.iload_n 1, 1) := by decide +kernel
theorem dX1_countEnds_47 : decode cX1_countEnds 47 = .ok (.iload_n 2, 1) := by decide +kernel
theorem dX1_countEnds_48 : decode cX1_countEnds 48 = .ok (.iconst (-1), 1) := by decide +kernel
theorem dX1_countEnds_49 : decode cX1_countEnds 49 = .ok (.ixor, 1) := by decide +kernel
theorem dX1_countEnds_50 : decode cX1_countEnds 50 = .ok (.iand, 1) := by decide +kernel
theorem dX1_countEnds_51 : decode cX1_countEnds 51 = .ok (.invokestatic 87, 3) := by decide +kernel
theorem dX1_countEnds_54 : decode cX1_countEnds 54 = .ok (.ireturn, 1) := by decide +kernel
set_option maxRecDepth 20000 in
theorem ggX1_countHonestOpenings_X1_waiting : GoodIn wsX1_countHonestOpenings wsX1_waiting := goodIn_r _ [6, 7, 8, 9, 10, 11, 5, 12, 1, 13, 14, 15, 39, 40, 41, 42, 43, 44, 45, 46, 47, 48, 49] (by decide +kernel) (by decide +kernel)
set_option maxRecDepth 20000 in
theorem gX1_countHonestOpenings_X1_waiting : GoodIn wsX1_countHonestOpenings (wsV RX1 95 RX1 yX1_waiting wsX1_waiting) := goodIn_app (goodIn_of _ (by decide +kernel)) ggX1_countHonestOpenings_X1_waiting
set_option maxRecDepth 20000 in
theorem ggX1_countHonestOpenings_X1_isIn : GoodIn wsX1_countHonestOpenings wsX1_isIn := goodIn_r _ [18, 13, 14, 5, 15] (by decide +kernel) (by decide +kernel)
set_option maxRecDepth 20000 in
theorem gX1_countHonestOpenings_X1_isIn : GoodIn wsX1_countHonestOpenings (va_wsS RX1 63 yX1_isIn wsX1_isIn) := goodIn_app (goodIn_of _ (by decide +kernel)) ggX1_countHonestOpenings_X1_isIn
set_option maxRecDepth 20000 in
theorem ggX1_countHonestOpenings_X1_reachedFrom : GoodIn wsX1_countHonestOpenings wsX1_reachedFrom := goodIn_r _ [22, 23, 24, 25, 26, 5, 27, 1, 13, 14, 15, 28, 29, 30, 31, 32, 33, 34, 35, 36, 37, 38, 39, 40, 41, 42, 43, 44, 45, 46, 47, 48, 49] (by decide +kernel) (by decide +kernel)
set_option maxRecDepth 20000 in
theorem gX1_countHonestOpenings_X1_reachedFrom : GoodIn wsX1_countHonestOpenings (wsV RX1 140 RX1 yX1_reachedFrom wsX1_reachedFrom) := goodIn_app (goodIn_of _ (by decide +kernel)) ggX1_countHonestOpenings_X1_reachedFrom
theorem dX1_countHonestOpenings_0 : decode cX1_countHonestOpenings 0 = .ok (.aload_n 0, 1) := by decide +kernel
theorem dX1_countHonestOpenings_1 : decode cX1_countHonestOpenings 1 = .ok (.invokevirtual 95, 3) := by decide +kernel
theorem dX1_countHonestOpenings_4 : decode cX1_countHonestOpenings 4 = .ok (.istore_n 1, 1) := by decide +kernel
theorem dX1_countHonestOpenings_5 : decode cX1_countHonestOpenings 5 = .ok (.iconst 0, 1) := by decide +kernel
theorem dX1_countHonestOpenings_6 : decode cX1_countHonestOpenings 6 = .ok (.istore_n 2, 1) := by decide +kernel
theorem dX1_countHonestOpenings_7 : decode cX1_countHonestOpenings 7 = .ok (.aload_n 0, 1) := by decide +kernel
theorem dX1_countHonestOpenings_8 : decode cX1_countHonestOpenings 8 = .ok (.getfield 30, 3) := by decide +kernel
theorem dX1_countHonestOpenings_11 : decode cX1_countHonestOpenings 11 = .ok (.iconst 1, 1) := by decide +kernel
theorem dX1_countHonestOpenings_12 : decode cX1_countHonestOpenings 12 = .ok (.isub, 1) := by decide +kernel
theorem dX1_countHonestOpenings_13 : decode cX1_countHonestOpenings 13 = .ok (.istore_n 3, 1) := by decide +kernel
theorem dX1_countHonestOpenings_14 : decode cX1_countHonestOpenings 14 = .ok (.iload_n 3, 1) := by decide +kernel
theorem dX1_countHonestOpenings_15 : decode cX1_countHonestOpenings 15 = .ok (.ifCond .lt 30, 3) := by decide +kernel
theorem dX1_countHonestOpenings_18 : decode cX1_countHonestOpenings 18 = .ok (.iload_n 1, 1) := by decide +kernel
theorem dX1_countHonestOpenings_19 : decode cX1_countHonestOpenings 19 = .ok (.iload_n 3, 1) := by decide +kernel
theorem dX1_countHonestOpenings_20 : decode cX1_countHonestOpenings 20 = .ok (.invokestatic 63, 3) := by decide +kernel
theorem dX1_countHonestOpenings_23 : decode cX1_countHonestOpenings 23 = .ok (.ifCond .eq 16, 3) := by decide +kernel
theorem dX1_countHonestOpenings_26 : decode cX1_countHonestOpenings 26 = .ok (.iload_n 1, 1) := by decide +kernel
theorem dX1_countHonestOpenings_27 : decode cX1_countHonestOpenings 27 = .ok (.aload_n 0, 1) := by decide +kernel
theorem dX1_countHonestOpenings_28 : decode cX1_countHonestOpenings 28 = .ok (.iload_n 3, 1) := by decide +kernel
theorem dX1_countHonestOpenings_29 : decode cX1_countHonestOpenings 29 = .ok (.invokevirtual 140, 3) := by decide +kernel
theorem dX1_countHonestOpenings_32 : decode cX1_countHonestOpenings 32 = .ok (.iconst (-1), 1) := by decide +kernel
theorem dX1_countHonestOpenings_33 : decode cX1_countHonestOpenings 33 = .ok (.ixor, 1) := by decide +kernel
theorem dX1_countHonestOpenings_34 : decode cX1_countHonestOpenings 34 = .ok (.iand, 1) := by decide +kernel
theorem dX1_countHonestOpenings_35 : decode cX1_countHonestOpenings 35 = .ok (.istore_n 1, 1) := by decide +kernel
theorem dX1_countHonestOpenings_36 : decode cX1_countHonestOpenings 36 = .ok (.iinc 2 1, 3) := by decide +kernel
theorem dX1_countHonestOpenings_39 : decode cX1_countHonestOpenings 39 = .ok (.iinc 3 (-1), 3) := by decide +kernel
theorem dX1_countHonestOpenings_42 : decode cX1_countHonestOpenings 42 = .ok (.goto (-28), 3) := by decide +kernel
theorem dX1_countHonestOpenings_45 : decode cX1_countHonestOpenings 45 = .ok (.iload_n 2, 1) := by decide +kernel
theorem dX1_countHonestOpenings_46 : decode cX1_countHonestOpenings 46 = .ok (.ireturn, 1) := by decide +kernel
set_option maxRecDepth 20000 in
theorem ggX1_mostClearing_X1_clearedIfHonest : GoodIn wsX1_mostClearing wsX1_clearedIfHonest := goodIn_r _ [7, 8, 9, 10, 11, 12, 6, 13, 14, 15, 16, 17, 18, 1, 19, 20, 21, 22, 23, 24, 25, 26, 27, 28, 29, 30, 31, 32, 43, 44, 45, 46, 47, 48, 49, 50, 51, 52, 53] (by decide +kernel) (by decide +kernel)
set_option maxRecDepth 20000 in
theorem gX1_mostClearing_X1_clearedIfHonest : GoodIn wsX1_mostClearing (wsV RX1 84 RX1 yX1_clearedIfHonest wsX1_clearedIfHonest) := goodIn_app (goodIn_of _ (by decide +kernel)) ggX1_mostClearing_X1_clearedIfHonest
set_option maxRecDepth 20000 in
theorem ggX1_mostClearing_J6_bitCount_0f7a4 : GoodIn wsX1_mostClearing wsJ6_bitCount_0f7a4 := goodIn_r _ [36, 37, 38, 39] (by decide +kernel) (by decide +kernel)
set_option maxRecDepth 20000 in
theorem gX1_mostClearing_J6_bitCount_0f7a4 : GoodIn wsX1_mostClearing (va_wsS RX1 87 yJ6_bitCount_0f7a4 wsJ6_bitCount_0f7a4) := goodIn_app (goodIn_of _ (by decide +kernel)) ggX1_mostClearing_J6_bitCount_0f7a4
set_option maxRecDepth 20000 in
theorem ggX1_mostClearing_X1_isIn : GoodIn wsX1_mostClearing wsX1_isIn := goodIn_r _ [42, 19, 20, 6, 21] (by decide +kernel) (by decide +kernel)
set_option maxRecDepth 20000 in
theorem gX1_mostClearing_X1_isIn : GoodIn wsX1_mostClearing (va_wsS RX1 63 yX1_isIn wsX1_isIn) := goodIn_app (goodIn_of _ (by decide +kernel)) ggX1_mostClearing_X1_isIn
theorem dX1_mostClearing_0 : decode cX1_mostClearing 0 = .ok (.bipush (-5), 2) := by decide +kernel
theorem dX1_mostClearing_2 : decode cX1_mostClearing 2 = .ok (.istore_n 1, 1) := by decide +kernel
theorem dX1_mostClearing_3 : decode cX1_mostClearing 3 = .ok (.iconst (-1), 1) := by decide +kernel
theorem dX1_mostClearing_4 : decode cX1_mostClearing 4 = .ok (.istore_n 2, 1) := by decide +kernel
theorem dX1_mostClearing_5 : decode cX1_mostClearing 5 = .ok (.iconst 0, 1) := by decide +kernel
theorem dX1_mostClearing_6 : decode cX1_mostClearing 6 = .ok (.istore_n 3, 1) := by decide +kernel
theorem dX1_mostClearing_7 : decode cX1_mostClearing 7 = .ok (.iload_n 3, 1) := by decide +kernel
theorem dX1_mostClearing_8 : decode cX1_mostClearing 8 = .ok (.aload_n 0, 1) := by decide +kernel
theorem dX1_mostClearing_9 : decode cX1_mostClearing 9 = .ok (.getfield 30, 3) := by decide +kernel
theorem dX1_mostClearing_12 : decode cX1_mostClearing 12 = .ok (.if_icmp .ge 41, 3) := by decide +kernel
theorem dX1_mostClearing_15 : decode cX1_mostClearing 15 = .ok (.aload_n 0, 1) := by decide +kernel
theorem dX1_mostClearing_16 : decode cX1_mostClearing 16 = .ok (.iload_n 3, 1) := by decide +kernel
theorem dX1_mostClearing_17 : decode cX1_mostClearing 17 = .ok (.invokevirtual 84, 3) := by decide +kernel
theorem dX1_mostClearing_20 : decode cX1_mostClearing 20 = .ok (.invokestatic 87, 3) := by decide +kernel
theorem dX1_mostClearing_23 : decode cX1_mostClearing 23 = .ok (.istore 4, 2) := by decide +kernel
theorem dX1_mostClearing_25 : decode cX1_mostClearing 25 = .ok (.aload_n 0, 1) := by decide +kernel
theorem dX1_mostClearing_26 : decode cX1_mostClearing 26 = .ok (.getfield 34, 3) := by decide +kernel
theorem dX1_mostClearing_29 : decode cX1_mostClearing 29 = .ok (.iload_n 3, 1) := by decide +kernel
theorem dX1_mostClearing_30 : decode cX1_mostClearing 30 = .ok (.invokestatic 63, 3) := by decide +kernel
theorem dX1_mostClearing_33 : decode cX1_mostClearing 33 = .ok (.ifCond .ne 14, 3) := by decide +kernel
theorem dX1_mostClearing_36 : decode cX1_mostClearing 36 = .ok (.iload 4, 2) := by decide +kernel
theorem dX1_mostClearing_38 : decode cX1_mostClearing 38 = .ok (.iload_n 2, 1) := by decide +kernel
theorem dX1_mostClearing_39 : decode cX1_mostClearing 39 = .ok (.if_icmp .le 8, 3) := by decide +kernel
theorem dX1_mostClearing_42 : decode cX1_mostClearing 42 = .ok (.iload_n 3, 1) := by decide +kernel
theorem dX1_mostClearing_43 : decode cX1_mostClearing 43 = .ok (.istore_n 1, 1) := by decide +kernel
theorem dX1_mostClearing_44 : decode cX1_mostClearing 44 = .ok (.iload 4, 2) := by decide +kernel
theorem dX1_mostClearing_46 : decode cX1_mostClearing 46 = .ok (.istore_n 2, 1) := by decide +kernel
theorem dX1_mostClearing_47 : decode cX1_mostClearing 47 = .ok (.iinc 3 1, 3) := by decide +kernel
theorem dX1_mostClearing_50 : decode cX1_mostClearing 50 = .ok (.goto (-43), 3) := by decide +kernel
theorem dX1_mostClearing_53 : decode cX1_mostClearing 53 = .ok (.iload_n 1, 1) := by decide +kernel
theorem dX1_mostClearing_54 : decode cX1_mostClearing 54 = .ok (.ireturn, 1) := by decide +kernel
set_option maxRecDepth 20000 in
theorem ggX1_otherClaimForSeal_X1_knows : GoodIn wsX1_otherClaimForSeal wsX1_knows := goodIn_r _ [6, 7, 19, 20, 21, 22, 23, 24, 25, 26, 27, 28, 29] (by decide +kernel) (by decide +kernel)
set_option maxRecDepth 20000 in
theorem gX1_otherClaimForSeal_X1_knows : GoodIn wsX1_otherClaimForSeal (wsV RX1 52 RX1 yX1_knows wsX1_knows) := goodIn_app (goodIn_of _ (by decide +kernel)) ggX1_otherClaimForSeal_X1_knows
set_option maxRecDepth 20000 in
theorem ggX1_otherClaimForSeal_X1_rightSeal : GoodIn wsX1_otherClaimForSeal wsX1_rightSeal := goodIn_r _ [11, 1, 12, 13, 14, 5, 15, 16, 17, 7, 18, 19, 20, 21, 22, 23, 24, 25, 26, 27, 28, 29] (by decide +kernel) (by decide +kernel)
set_option maxRecDepth 20000 in
theorem gX1_otherClaimForSeal_X1_rightSeal : GoodIn wsX1_otherClaimForSeal (wsV RX1 59 RX1 yX1_rightSeal wsX1_rightSeal) := goodIn_app (goodIn_of _ (by decide +kernel)) ggX1_otherClaimForSeal_X1_rightSeal
set_option maxRecDepth 20000 in
theorem ggX1_otherClaimForSeal_X1_sealFor : GoodIn wsX1_otherClaimForSeal wsX1_sealFor := goodIn_r _ [15, 16, 17, 7, 18, 19, 20, 21, 22, 23, 24, 25, 26, 27, 28, 29] (by decide +kernel) (by decide +kernel)
set_option maxRecDepth 20000 in
theorem gX1_otherClaimForSeal_X1_sealFor : GoodIn wsX1_otherClaimForSeal (wsV RX1 143 RX1 yX1_sealFor wsX1_sealFor) := goodIn_app (goodIn_of _ (by decide +kernel)) ggX1_otherClaimForSeal_X1_sealFor
theorem dX1_otherClaimForSeal_0 : decode cX1_otherClaimForSeal 0 = .ok (.aload_n 0, 1) := by decide +kernel
theorem dX1_otherClaimForSeal_1 : decode cX1_otherClaimForSeal 1 = .ok (.iload_n 1, 1) := by decide +kernel
theorem dX1_otherClaimForSeal_2 : decode cX1_otherClaimForSeal 2 = .ok (.invokevirtual 52, 3) := by decide +kernel
theorem dX1_otherClaimForSeal_5 : decode cX1_otherClaimForSeal 5 = .ok (.ifCond .ne 5, 3) := by decide +kernel
theorem dX1_otherClaimForSeal_8 : decode cX1_otherClaimForSeal 8 = .ok (.iconst (-1), 1) := by decide +kernel
theorem dX1_otherClaimForSeal_9 : decode cX1_otherClaimForSeal 9 = .ok (.ireturn, 1) := by decide +kernel
theorem dX1_otherClaimForSeal_10 : decode cX1_otherClaimForSeal 10 = .ok (.aload_n 0, 1) := by decide +kernel
theorem dX1_otherClaimForSeal_11 : decode cX1_otherClaimForSeal 11 = .ok (.iload_n 1, 1) := by decide +kernel
theorem dX1_otherClaimForSeal_12 : decode cX1_otherClaimForSeal 12 = .ok (.invokevirtual 59, 3) := by decide +kernel
theorem dX1_otherClaimForSeal_15 : decode cX1_otherClaimForSeal 15 = .ok (.istore_n 2, 1) := by decide +kernel
theorem dX1_otherClaimForSeal_16 : decode cX1_otherClaimForSeal 16 = .ok (.iconst 0, 1) := by decide +kernel
theorem dX1_otherClaimForSeal_17 : decode cX1_otherClaimForSeal 17 = .ok (.istore_n 3, 1) := by decide +kernel
theorem dX1_otherClaimForSeal_18 : decode cX1_otherClaimForSeal 18 = .ok (.iload_n 3, 1) := by decide +kernel
theorem dX1_otherClaimForSeal_19 : decode cX1_otherClaimForSeal 19 = .ok (.bipush 99, 2) := by decide +kernel
theorem dX1_otherClaimForSeal_21 : decode cX1_otherClaimForSeal 21 = .ok (.if_icmp .gt 31, 3) := by decide +kernel
theorem dX1_otherClaimForSeal_24 : decode cX1_otherClaimForSeal 24 = .ok (.iload_n 3, 1) := by decide +kernel
theorem dX1_otherClaimForSeal_25 : decode cX1_otherClaimForSeal 25 = .ok (.aload_n 0, 1) := by decide +kernel
theorem dX1_otherClaimForSeal_26 : decode cX1_otherClaimForSeal 26 = .ok (.getfield 15, 3) := by decide +kernel
theorem dX1_otherClaimForSeal_29 : decode cX1_otherClaimForSeal 29 = .ok (.iload_n 1, 1) := by decide +kernel
theorem dX1_otherClaimForSeal_30 : decode cX1_otherClaimForSeal 30 = .ok (.iaload, 1) := by decide +kernel
theorem dX1_otherClaimForSeal_31 : decode cX1_otherClaimForSeal 31 = .ok (.if_icmp .eq 15, 3) := by decide +kernel
theorem dX1_otherClaimForSeal_34 : decode cX1_otherClaimForSeal 34 = .ok (.aload_n 0, 1) := by decide +kernel
theorem dX1_otherClaimForSeal_35 : decode cX1_otherClaimForSeal 35 = .ok (.iload_n 1, 1) := by decide +kernel
theorem dX1_otherClaimForSeal_36 : decode cX1_otherClaimForSeal 36 = .ok (.iload_n 3, 1) := by decide +kernel
theorem dX1_otherClaimForSeal_37 : decode cX1_otherClaimForSeal 37 = .ok (.invokevirtual 143, 3) := by decide +kernel
theorem dX1_otherClaimForSeal_40 : decode cX1_otherClaimForSeal 40 = .ok (.iload_n 2, 1) := by decide +kernel
theorem dX1_otherClaimForSeal_41 : decode cX1_otherClaimForSeal 41 = .ok (.if_icmp .ne 5, 3) := by decide +kernel
theorem dX1_otherClaimForSeal_44 : decode cX1_otherClaimForSeal 44 = .ok (.iload_n 3, 1) := by decide +kernel
theorem dX1_otherClaimForSeal_45 : decode cX1_otherClaimForSeal 45 = .ok (.ireturn, 1) := by decide +kernel
theorem dX1_otherClaimForSeal_46 : decode cX1_otherClaimForSeal 46 = .ok (.iinc 3 1, 3) := by decide +kernel
theorem dX1_otherClaimForSeal_49 : decode cX1_otherClaimForSeal 49 = .ok (.goto (-31), 3) := by decide +kernel
theorem dX1_otherClaimForSeal_52 : decode cX1_otherClaimForSeal 52 = .ok (.bipush (-5), 2) := by decide +kernel
theorem dX1_otherClaimForSeal_54 : decode cX1_otherClaimForSeal 54 = .ok (.ireturn, 1) := by decide +kernel
set_option maxRecDepth 20000 in
theorem ggX1_rightSeal_X1_sealFor : GoodIn wsX1_rightSeal wsX1_sealFor := goodIn_r _ [6, 7, 8, 9, 10, 11, 12, 13, 14, 15, 16, 17, 18, 19, 20, 21] (by decide +kernel) (by decide +kernel)
set_option maxRecDepth 20000 in
theorem gX1_rightSeal_X1_sealFor : GoodIn wsX1_rightSeal (wsV RX1 143 RX1 yX1_sealFor wsX1_sealFor) := goodIn_app (goodIn_of _ (by decide +kernel)) ggX1_rightSeal_X1_sealFor
theorem dX1_rightSeal_0 : decode cX1_rightSeal 0 = .ok (.aload_n 0, 1) := by decide +kernel
theorem dX1_rightSeal_1 : decode cX1_rightSeal 1 = .ok (.iload_n 1, 1) := by decide +kernel
theorem dX1_rightSeal_2 : decode cX1_rightSeal 2 = .ok (.aload_n 0, 1) := by decide +kernel
theorem dX1_rightSeal_3 : decode cX1_rightSeal 3 = .ok (.getfield 15, 3) := by decide +kernel
theorem dX1_rightSeal_6 : decode cX1_rightSeal 6 = .ok (.iload_n 1, 1) := by decide +kernel
theorem dX1_rightSeal_7 : decode cX1_rightSeal 7 = .ok (.iaload, 1) := by decide +kernel
theorem dX1_rightSeal_8 : decode cX1_rightSeal 8 = .ok (.invokevirtual 143, 3) := by decide +kernel
theorem dX1_rightSeal_11 : decode cX1_rightSeal 11 = .ok (.ireturn, 1) := by decide +kernel
theorem dX1_sealFor_0 : decode cX1_sealFor 0 = .ok (.aload_n 0, 1) := by decide +kernel
theorem dX1_sealFor_1 : decode cX1_sealFor 1 = .ok (.getfield 9, 3) := by decide +kernel
theorem dX1_sealFor_4 : decode cX1_sealFor 4 = .ok (.iconst 2, 1) := by decide +kernel
theorem dX1_sealFor_5 : decode cX1_sealFor 5 = .ok (.iaload, 1) := by decide +kernel
theorem dX1_sealFor_6 : decode cX1_sealFor 6 = .ok (.istore_n 3, 1) := by decide +kernel
theorem dX1_sealFor_7 : decode cX1_sealFor 7 = .ok (.iload_n 3, 1) := by decide +kernel
theorem dX1_sealFor_8 : decode cX1_sealFor 8 = .ok (.ifCond .gt 5, 3) := by decide +kernel
theorem dX1_sealFor_11 : decode cX1_sealFor 11 = .ok (.iconst 0, 1) := by decide +kernel
theorem dX1_sealFor_12 : decode cX1_sealFor 12 = .ok (.ireturn, 1) := by decide +kernel
theorem dX1_sealFor_13 : decode cX1_sealFor 13 = .ok (.aload_n 0, 1) := by decide +kernel
theorem dX1_sealFor_14 : decode cX1_sealFor 14 = .ok (.getfield 21, 3) := by decide +kernel
theorem dX1_sealFor_17 : decode cX1_sealFor 17 = .ok (.iload_n 1, 1) := by decide +kernel
theorem dX1_sealFor_18 : decode cX1_sealFor 18 = .ok (.iaload, 1) := by decide +kernel
theorem dX1_sealFor_19 : decode cX1_sealFor 19 = .ok (.istore 4, 2) := by decide +kernel
theorem dX1_sealFor_21 : decode cX1_sealFor 21 = .ok (.iload 4, 2) := by decide +kernel
theorem dX1_sealFor_23 : decode cX1_sealFor 23 = .ok (.ifCond .lt 22, 3) := by decide +kernel
theorem dX1_sealFor_26 : decode cX1_sealFor 26 = .ok (.iload 4, 2) := by decide +kernel
theorem dX1_sealFor_28 : decode cX1_sealFor 28 = .ok (.aload_n 0, 1) := by decide +kernel
theorem dX1_sealFor_29 : decode cX1_sealFor 29 = .ok (.getfield 30, 3) := by decide +kernel
theorem dX1_sealFor_32 : decode cX1_sealFor 32 = .ok (.if_icmp .ge 13, 3) := by decide +kernel
theorem dX1_sealFor_35 : decode cX1_sealFor 35 = .ok (.aload_n 0, 1) := by decide +kernel
theorem dX1_sealFor_36 : decode cX1_sealFor 36 = .ok (.getfield 24, 3) := by decide +kernel
theorem dX1_sealFor_39 : decode cX1_sealFor 39 = .ok (.iload 4, 2) := by decide +kernel
theorem dX1_sealFor_41 : decode cX1_sealFor 41 = .ok (.iaload, 1) := by decide +kernel
theorem dX1_sealFor_42 : decode cX1_sealFor 42 = .ok (.goto 4, 3) := by decide +kernel
theorem dX1_sealFor_45 : decode cX1_sealFor 45 = .ok (.iconst 0, 1) := by decide +kernel
theorem dX1_sealFor_46 : decode cX1_sealFor 46 = .ok (.istore 5, 2) := by decide +kernel
theorem dX1_sealFor_48 : decode cX1_sealFor 48 = .ok (.aload_n 0, 1) := by decide +kernel
theorem dX1_sealFor_49 : decode cX1_sealFor 49 = .ok (.getfield 9, 3) := by decide +kernel
theorem dX1_sealFor_52 : decode cX1_sealFor 52 = .ok (.iconst 0, 1) := by decide +kernel
theorem dX1_sealFor_53 : decode cX1_sealFor 53 = .ok (.iaload, 1) := by decide +kernel
theorem dX1_sealFor_54 : decode cX1_sealFor 54 = .ok (.iload_n 2, 1) := by decide +kernel
theorem dX1_sealFor_55 : decode cX1_sealFor 55 = .ok (.imul, 1) := by decide +kernel
theorem dX1_sealFor_56 : decode cX1_sealFor 56 = .ok (.aload_n 0, 1) := by decide +kernel
theorem dX1_sealFor_57 : decode cX1_sealFor 57 = .ok (.getfield 9, 3) := by decide +kernel
theorem dX1_sealFor_60 : decode cX1_sealFor 60 = .ok (.iconst 1, 1) := by decide +kernel
theorem dX1_sealFor_61 : decode cX1_sealFor 61 = .ok (.iaload, 1) := by decide +kernel
theorem dX1_sealFor_62 : decode cX1_sealFor 62 = .ok (.iload 5, 2) := by decide +kernel
theorem dX1_sealFor_64 : decode cX1_sealFor 64 = .ok (.imul, 1) := by decide +kernel
theorem dX1_sealFor_65 : decode cX1_sealFor 65 = .ok (.iadd, 1) := by decide +kernel
theorem dX1_sealFor_66 : decode cX1_sealFor 66 = .ok (.iload_n 1, 1) := by decide +kernel
theorem dX1_sealFor_67 : decode cX1_sealFor 67 = .ok (.iadd, 1) := by decide +kernel
theorem dX1_sealFor_68 : decode cX1_sealFor 68 = .ok (.iload_n 3, 1) := by decide +kernel
theorem dX1_sealFor_69 : decode cX1_sealFor 69 = .ok (.irem, 1) := by decide +kernel
theorem dX1_sealFor_70 : decode cX1_sealFor 70 = .ok (.ireturn, 1) := by decide +kernel
set_option maxRecDepth 20000 in
theorem ggX1_isWhole_X1_sealFor : GoodIn wsX1_isWhole wsX1_sealFor := goodIn_r _ [7, 8, 9, 10, 1, 11, 12, 13, 14, 15, 16, 17, 18, 19, 20, 21] (by decide +kernel) (by decide +kernel)
set_option maxRecDepth 20000 in
theorem gX1_isWhole_X1_sealFor : GoodIn wsX1_isWhole (wsV RX1 143 RX1 yX1_sealFor wsX1_sealFor) := goodIn_app (goodIn_of _ (by decide +kernel)) ggX1_isWhole_X1_sealFor
theorem dX1_isWhole_0 : decode cX1_isWhole 0 = .ok (.aload_n 0, 1) := by decide +kernel
theorem dX1_isWhole_1 : decode cX1_isWhole 1 = .ok (.getfield 24, 3) := by decide +kernel
theorem dX1_isWhole_4 : decode cX1_isWhole 4 = .ok (.iload_n 1, 1) := by decide +kernel
theorem dX1_isWhole_5 : decode cX1_isWhole 5 = .ok (.iaload, 1) := by decide +kernel
theorem dX1_isWhole_6 : decode cX1_isWhole 6 = .ok (.aload_n 0, 1) := by decide +kernel
theorem dX1_isWhole_7 : decode cX1_isWhole 7 = .ok (.iload_n 1, 1) := by decide +kernel
theorem dX1_isWhole_8 : decode cX1_isWhole 8 = .ok (.aload_n 0, 1) := by decide +kernel
theorem dX1_isWhole_9 : decode cX1_isWhole 9 = .ok (.getfield 15, 3) := by decide +kernel
theorem dX1_isWhole_12 : decode cX1_isWhole 12 = .ok (.iload_n 1, 1) := by decide +kernel
theorem dX1_isWhole_13 : decode cX1_isWhole 13 = .ok (.iaload, 1) := by decide +kernel
theorem dX1_isWhole_14 : decode cX1_isWhole 14 = .ok (.invokevirtual 143, 3) := by decide +kernel
theorem dX1_isWhole_17 : decode cX1_isWhole 17 = .ok (.if_icmp .ne 7, 3) := by decide +kernel
theorem dX1_isWhole_20 : decode cX1_isWhole 20 = .ok (.iconst 1, 1) := by decide +kernel
theorem dX1_isWhole_21 : decode cX1_isWhole 21 = .ok (.goto 4, 3) := by decide +kernel
theorem dX1_isWhole_24 : decode cX1_isWhole 24 = .ok (.iconst 0, 1) := by decide +kernel
theorem dX1_isWhole_25 : decode cX1_isWhole 25 = .ok (.ireturn, 1) := by decide +kernel
theorem dX1_isLie_0 : decode cX1_isLie 0 = .ok (.aload_n 0, 1) := by decide +kernel
theorem dX1_isLie_1 : decode cX1_isLie 1 = .ok (.getfield 15, 3) := by decide +kernel
theorem dX1_isLie_4 : decode cX1_isLie 4 = .ok (.iload_n 1, 1) := by decide +kernel
theorem dX1_isLie_5 : decode cX1_isLie 5 = .ok (.iaload, 1) := by decide +kernel
theorem dX1_isLie_6 : decode cX1_isLie 6 = .ok (.iload_n 2, 1) := by decide +kernel
theorem dX1_isLie_7 : decode cX1_isLie 7 = .ok (.if_icmp .eq 7, 3) := by decide +kernel
theorem dX1_isLie_10 : decode cX1_isLie 10 = .ok (.iconst 1, 1) := by decide +kernel
theorem dX1_isLie_11 : decode cX1_isLie 11 = .ok (.goto 4, 3) := by decide +kernel
theorem dX1_isLie_14 : decode cX1_isLie 14 = .ok (.iconst 0, 1) := by decide +kernel
theorem dX1_isLie_15 : decode cX1_isLie 15 = .ok (.ireturn, 1) := by decide +kernel
set_option maxRecDepth 20000 in
theorem ggX1_ownFine_X1_isWhole : GoodIn wsX1_ownFine wsX1_isWhole := goodIn_r _ [11, 12, 2, 13, 14, 15, 10, 16, 1, 17, 18, 23, 24, 25, 26, 27, 28, 29, 30, 31, 32, 33] (by decide +kernel) (by decide +kernel)
set_option maxRecDepth 20000 in
theorem gX1_ownFine_X1_isWhole : GoodIn wsX1_ownFine (wsV RX1 67 RX1 yX1_isWhole wsX1_isWhole) := goodIn_app (goodIn_of _ (by decide +kernel)) ggX1_ownFine_X1_isWhole
set_option maxRecDepth 20000 in
theorem ggX1_ownFine_X1_isLie : GoodIn wsX1_ownFine wsX1_isLie := goodIn_r _ [22, 2, 23, 24, 25, 26, 27, 28, 29, 30, 31, 32, 33] (by decide +kernel) (by decide +kernel)
set_option maxRecDepth 20000 in
theorem gX1_ownFine_X1_isLie : GoodIn wsX1_ownFine (wsV RX1 77 RX1 yX1_isLie wsX1_isLie) := goodIn_app (goodIn_of _ (by decide +kernel)) ggX1_ownFine_X1_isLie
theorem dX1_ownFine_0 : decode cX1_ownFine 0 = .ok (.aload_n 0, 1) := by decide +kernel
theorem dX1_ownFine_1 : decode cX1_ownFine 1 = .ok (.iload_n 1, 1) := by decide +kernel
theorem dX1_ownFine_2 : decode cX1_ownFine 2 = .ok (.invokevirtual 67, 3) := by decide +kernel
theorem dX1_ownFine_5 : decode cX1_ownFine 5 = .ok (.ifCond .eq 7, 3) := by decide +kernel
theorem dX1_ownFine_8 : decode cX1_ownFine 8 = .ok (.iconst 0, 1) := by decide +kernel
theorem dX1_ownFine_9 : decode cX1_ownFine 9 = .ok (.goto 4, 3) := by decide +kernel
theorem dX1_ownFine_12 : decode cX1_ownFine 12 = .ok (.iconst 3, 1) := by decide +kernel
theorem dX1_ownFine_13 : decode cX1_ownFine 13 = .ok (.istore_n 3, 1) := by decide +kernel
theorem dX1_ownFine_14 : decode cX1_ownFine 14 = .ok (.aload_n 0, 1) := by decide +kernel
theorem dX1_ownFine_15 : decode cX1_ownFine 15 = .ok (.iload_n 1, 1) := by decide +kernel
theorem dX1_ownFine_16 : decode cX1_ownFine 16 = .ok (.iload_n 2, 1) := by decide +kernel
theorem dX1_ownFine_17 : decode cX1_ownFine 17 = .ok (.invokevirtual 77, 3) := by decide +kernel
theorem dX1_ownFine_20 : decode cX1_ownFine 20 = .ok (.ifCond .eq 26, 3) := by decide +kernel
theorem dX1_ownFine_23 : decode cX1_ownFine 23 = .ok (.iload_n 3, 1) := by decide +kernel
theorem dX1_ownFine_24 : decode cX1_ownFine 24 = .ok (.aload_n 0, 1) := by decide +kernel
theorem dX1_ownFine_25 : decode cX1_ownFine 25 = .ok (.getfield 9, 3) := by decide +kernel
theorem dX1_ownFine_28 : decode cX1_ownFine 28 = .ok (.iconst 3, 1) := by decide +kernel
theorem dX1_ownFine_29 : decode cX1_ownFine 29 = .ok (.iaload, 1) := by decide +kernel
theorem dX1_ownFine_30 : decode cX1_ownFine 30 = .ok (.iconst 2, 1) := by decide +kernel
theorem dX1_ownFine_31 : decode cX1_ownFine 31 = .ok (.aload_n 0, 1) := by decide +kernel
theorem dX1_ownFine_32 : decode cX1_ownFine 32 = .ok (.getfield 15, 3) := by decide +kernel
theorem dX1_ownFine_35 : decode cX1_ownFine 35 = .ok (.iload_n 1, 1) := by decide +kernel
theorem dX1_ownFine_36 : decode cX1_ownFine 36 = .ok (.iaload, 1) := by decide +kernel
theorem dX1_ownFine_37 : decode cX1_ownFine 37 = .ok (.iload_n 2, 1) := by decide +kernel
theorem dX1_ownFine_38 : decode cX1_ownFine 38 = .ok (.isub, 1) := by decide +kernel
theorem dX1_ownFine_39 : decode cX1_ownFine 39 = .ok (.invokestatic 146, 3) := by decide +kernel
theorem dX1_ownFine_42 : decode cX1_ownFine 42 = .ok (.imul, 1) := by decide +kernel
theorem dX1_ownFine_43 : decode cX1_ownFine 43 = .ok (.iadd, 1) := by decide +kernel
theorem dX1_ownFine_44 : decode cX1_ownFine 44 = .ok (.iadd, 1) := by decide +kernel
theorem dX1_ownFine_45 : decode cX1_ownFine 45 = .ok (.istore_n 3, 1) := by decide +kernel
theorem dX1_ownFine_46 : decode cX1_ownFine 46 = .ok (.iload_n 3, 1) := by decide +kernel
theorem dX1_ownFine_47 : decode cX1_ownFine 47 = .ok (.ireturn, 1) := by decide +kernel
theorem dX1_knows_0 : decode cX1_knows 0 = .ok (.iload_n 1, 1) := by decide +kernel
theorem dX1_knows_1 : decode cX1_knows 1 = .ok (.ifCond .lt 15, 3) := by decide +kernel
theorem dX1_knows_4 : decode cX1_knows 4 = .ok (.iload_n 1, 1) := by decide +kernel
theorem dX1_knows_5 : decode cX1_knows 5 = .ok (.aload_n 0, 1) := by decide +kernel
theorem dX1_knows_6 : decode cX1_knows 6 = .ok (.getfield 30, 3) := by decide +kernel
theorem dX1_knows_9 : decode cX1_knows 9 = .ok (.if_icmp .ge 7, 3) := by decide +kernel
theorem dX1_knows_12 : decode cX1_knows 12 = .ok (.iconst 1, 1) := by decide +kernel
theorem dX1_knows_13 : decode cX1_knows 13 = .ok (.goto 4, 3) := by decide +kernel
theorem dX1_knows_16 : decode cX1_knows 16 = .ok (.iconst 0, 1) := by decide +kernel
theorem dX1_knows_17 : decode cX1_knows 17 = .ok (.ireturn, 1) := by decide +kernel
theorem dX1_isSacks_0 : decode cX1_isSacks 0 = .ok (.iload_n 0, 1) := by decide +kernel
theorem dX1_isSacks_1 : decode cX1_isSacks 1 = .ok (.ifCond .lt 13, 3) := by decide +kernel
theorem dX1_isSacks_4 : decode cX1_isSacks 4 = .ok (.iload_n 0, 1) := by decide +kernel
theorem dX1_isSacks_5 : decode cX1_isSacks 5 = .ok (.bipush 99, 2) := by decide +kernel
theorem dX1_isSacks_7 : decode cX1_isSacks 7 = .ok (.if_icmp .gt 7, 3) := by decide +kernel
theorem dX1_isSacks_10 : decode cX1_isSacks 10 = .ok (.iconst 1, 1) := by decide +kernel
theorem dX1_isSacks_11 : decode cX1_isSacks 11 = .ok (.goto 4, 3) := by decide +kernel
theorem dX1_isSacks_14 : decode cX1_isSacks 14 = .ok (.iconst 0, 1) := by decide +kernel
theorem dX1_isSacks_15 : decode cX1_isSacks 15 = .ok (.ireturn, 1) := by decide +kernel
theorem dX1_bit_0 : decode cX1_bit 0 = .ok (.iconst 1, 1) := by decide +kernel
theorem dX1_bit_1 : decode cX1_bit 1 = .ok (.iload_n 0, 1) := by decide +kernel
theorem dX1_bit_2 : decode cX1_bit 2 = .ok (.ishl, 1) := by decide +kernel
theorem dX1_bit_3 : decode cX1_bit 3 = .ok (.ireturn, 1) := by decide +kernel
set_option maxRecDepth 20000 in
theorem ggX1_isIn_X1_bit : GoodIn wsX1_isIn wsX1_bit := goodIn_r _ [4] (by decide +kernel) (by decide +kernel)
set_option maxRecDepth 20000 in
theorem gX1_isIn_X1_bit : GoodIn wsX1_isIn (va_wsS RX1 70 yX1_bit wsX1_bit) := goodIn_app (goodIn_of _ (by decide +kernel)) ggX1_isIn_X1_bit
theorem dX1_isIn_0 : decode cX1_isIn 0 = .ok (.iload_n 0, 1) := by decide +kernel
theorem dX1_isIn_1 : decode cX1_isIn 1 = .ok (.iload_n 1, 1) := by decide +kernel
theorem dX1_isIn_2 : decode cX1_isIn 2 = .ok (.invokestatic 70, 3) := by decide +kernel
theorem dX1_isIn_5 : decode cX1_isIn 5 = .ok (.iand, 1) := by decide +kernel
theorem dX1_isIn_6 : decode cX1_isIn 6 = .ok (.ifCond .eq 7, 3) := by decide +kernel
theorem dX1_isIn_9 : decode cX1_isIn 9 = .ok (.iconst 1, 1) := by decide +kernel
theorem dX1_isIn_10 : decode cX1_isIn 10 = .ok (.goto 4, 3) := by decide +kernel
theorem dX1_isIn_13 : decode cX1_isIn 13 = .ok (.iconst 0, 1) := by decide +kernel
theorem dX1_isIn_14 : decode cX1_isIn 14 = .ok (.ireturn, 1) := by decide +kernel
set_option maxRecDepth 20000 in
theorem ggX1_all_X1_bit : GoodIn wsX1_all wsX1_bit := goodIn_r _ [5] (by decide +kernel) (by decide +kernel)
set_option maxRecDepth 20000 in
theorem gX1_all_X1_bit : GoodIn wsX1_all (va_wsS RX1 70 yX1_bit wsX1_bit) := goodIn_app (goodIn_of _ (by decide +kernel)) ggX1_all_X1_bit
theorem dX1_all_0 : decode cX1_all 0 = .ok (.aload_n 0, 1) := by decide +kernel
theorem dX1_all_1 : decode cX1_all 1 = .ok (.getfield 30, 3) := by decide +kernel
theorem dX1_all_4 : decode cX1_all 4 = .ok (.invokestatic 70, 3) := by decide +kernel
theorem dX1_all_7 : decode cX1_all 7 = .ok (.iconst 1, 1) := by decide +kernel
theorem dX1_all_8 : decode cX1_all 8 = .ok (.isub, 1) := by decide +kernel
theorem dX1_all_9 : decode cX1_all 9 = .ok (.ireturn, 1) := by decide +kernel
set_option maxRecDepth 20000 in
theorem ggX1_waiting_X1_all : GoodIn wsX1_waiting wsX1_all := goodIn_r _ [7, 8, 9, 10, 6, 11, 12, 13, 14, 15, 16, 17, 18, 19, 20, 21, 22] (by decide +kernel) (by decide +kernel)
set_option maxRecDepth 20000 in
theorem gX1_waiting_X1_all : GoodIn wsX1_waiting (wsV RX1 149 RX1 yX1_all wsX1_all) := goodIn_app (goodIn_of _ (by decide +kernel)) ggX1_waiting_X1_all
theorem dX1_waiting_0 : decode cX1_waiting 0 = .ok (.aload_n 0, 1) := by decide +kernel
theorem dX1_waiting_1 : decode cX1_waiting 1 = .ok (.invokevirtual 149, 3) := by decide +kernel
theorem dX1_waiting_4 : decode cX1_waiting 4 = .ok (.aload_n 0, 1) := by decide +kernel
theorem dX1_waiting_5 : decode cX1_waiting 5 = .ok (.getfield 40, 3) := by decide +kernel
theorem dX1_waiting_8 : decode cX1_waiting 8 = .ok (.iconst (-1), 1) := by decide +kernel
theorem dX1_waiting_9 : decode cX1_waiting 9 = .ok (.ixor, 1) := by decide +kernel
theorem dX1_waiting_10 : decode cX1_waiting 10 = .ok (.iand, 1) := by decide +kernel
theorem dX1_waiting_11 : decode cX1_waiting 11 = .ok (.aload_n 0, 1) := by decide +kernel
theorem dX1_waiting_12 : decode cX1_waiting 12 = .ok (.getfield 34, 3) := by decide +kernel
theorem dX1_waiting_15 : decode cX1_waiting 15 = .ok (.iconst (-1), 1) := by decide +kernel
theorem dX1_waiting_16 : decode cX1_waiting 16 = .ok (.ixor, 1) := by decide +kernel
theorem dX1_waiting_17 : decode cX1_waiting 17 = .ok (.iand, 1) := by decide +kernel
theorem dX1_waiting_18 : decode cX1_waiting 18 = .ok (.ireturn, 1) := by decide +kernel
set_option maxRecDepth 20000 in
theorem ggX1_chainOf_X1_knows : GoodIn wsX1_chainOf wsX1_knows := goodIn_r _ [6, 7, 11, 12, 13, 14, 15, 16, 17, 18, 19, 20, 21] (by decide +kernel) (by decide +kernel)
set_option maxRecDepth 20000 in
theorem gX1_chainOf_X1_knows : GoodIn wsX1_chainOf (wsV RX1 52 RX1 yX1_knows wsX1_knows) := goodIn_app (goodIn_of _ (by decide +kernel)) ggX1_chainOf_X1_knows
set_option maxRecDepth 20000 in
theorem ggX1_chainOf_X1_bit : GoodIn wsX1_chainOf wsX1_bit := goodIn_r _ [10] (by decide +kernel) (by decide +kernel)
set_option maxRecDepth 20000 in
theorem gX1_chainOf_X1_bit : GoodIn wsX1_chainOf (va_wsS RX1 70 yX1_bit wsX1_bit) := goodIn_app (goodIn_of _ (by decide +kernel)) ggX1_chainOf_X1_bit
theorem dX1_chainOf_0 : decode cX1_chainOf 0 = .ok (.iconst 0, 1) := by decide +kernel
theorem dX1_chainOf_1 : decode cX1_chainOf 1 = .ok (.istore_n 2, 1) := by decide +kernel
theorem dX1_chainOf_2 : decode cX1_chainOf 2 = .ok (.iload_n 1, 1) := by decide +kernel
theorem dX1_chainOf_3 : decode cX1_chainOf 3 = .ok (.istore_n 3, 1) := by decide +kernel
theorem dX1_chainOf_4 : decode cX1_chainOf 4 = .ok (.iconst 0, 1) := by decide +kernel
theorem dX1_chainOf_5 : decode cX1_chainOf 5 = .ok (.istore 4, 2) := by decide +kernel
theorem dX1_chainOf_7 : decode cX1_chainOf 7 = .ok (.iload 4, 2) := by decide +kernel
theorem dX1_chainOf_9 : decode cX1_chainOf 9 = .ok (.bipush 24, 2) := by decide +kernel
theorem dX1_chainOf_11 : decode cX1_chainOf 11 = .ok (.if_icmp .ge 31, 3) := by decide +kernel
theorem dX1_chainOf_14 : decode cX1_chainOf 14 = .ok (.aload_n 0, 1) := by decide +kernel
theorem dX1_chainOf_15 : decode cX1_chainOf 15 = .ok (.iload_n 3, 1) := by decide +kernel
theorem dX1_chainOf_16 : decode cX1_chainOf 16 = .ok (.invokevirtual 52, 3) := by decide +kernel
theorem dX1_chainOf_19 : decode cX1_chainOf 19 = .ok (.ifCond .eq 23, 3) := by decide +kernel
theorem dX1_chainOf_22 : decode cX1_chainOf 22 = .ok (.iload_n 2, 1) := by decide +kernel
theorem dX1_chainOf_23 : decode cX1_chainOf 23 = .ok (.iload_n 3, 1) := by decide +kernel
theorem dX1_chainOf_24 : decode cX1_chainOf 24 = .ok (.invokestatic 70, 3) := by decide +kernel
theorem dX1_chainOf_27 : decode cX1_chainOf 27 = .ok (.ior, 1) := by decide +kernel
theorem dX1_chainOf_28 : decode cX1_chainOf 28 = .ok (.istore_n 2, 1) := by decide +kernel
theorem dX1_chainOf_29 : decode cX1_chainOf 29 = .ok (.aload_n 0, 1) := by decide +kernel
theorem dX1_chainOf_30 : decode cX1_chainOf 30 = .ok (.getfield 21, 3) := by decide +kernel
theorem dX1_chainOf_33 : decode cX1_chainOf 33 = .ok (.iload_n 3, 1) := by decide +kernel
theorem dX1_chainOf_34 : decode cX1_chainOf 34 = .ok (.iaload, 1) := by decide +kernel
theorem dX1_chainOf_35 : decode cX1_chainOf 35 = .ok (.istore_n 3, 1) := by decide +kernel
theorem dX1_chainOf_36 : decode cX1_chainOf 36 = .ok (.iinc 4 1, 3) := by decide +kernel
theorem dX1_chainOf_39 : decode cX1_chainOf 39 = .ok (.goto (-32), 3) := by decide +kernel
theorem dX1_chainOf_42 : decode cX1_chainOf 42 = .ok (.iload_n 2, 1) := by decide +kernel
theorem dX1_chainOf_43 : decode cX1_chainOf 43 = .ok (.ireturn, 1) := by decide +kernel
set_option maxRecDepth 20000 in
theorem ggX1_reachedFrom_X1_knows : GoodIn wsX1_reachedFrom wsX1_knows := goodIn_r _ [6, 7, 22, 23, 24, 25, 26, 27, 28, 29, 30, 31, 32] (by decide +kernel) (by decide +kernel)
set_option maxRecDepth 20000 in
theorem gX1_reachedFrom_X1_knows : GoodIn wsX1_reachedFrom (wsV RX1 52 RX1 yX1_knows wsX1_knows) := goodIn_app (goodIn_of _ (by decide +kernel)) ggX1_reachedFrom_X1_knows
set_option maxRecDepth 20000 in
theorem ggX1_reachedFrom_X1_bit : GoodIn wsX1_reachedFrom wsX1_bit := goodIn_r _ [10] (by decide +kernel) (by decide +kernel)
set_option maxRecDepth 20000 in
theorem gX1_reachedFrom_X1_bit : GoodIn wsX1_reachedFrom (va_wsS RX1 70 yX1_bit wsX1_bit) := goodIn_app (goodIn_of _ (by decide +kernel)) ggX1_reachedFrom_X1_bit
set_option maxRecDepth 20000 in
theorem ggX1_reachedFrom_X1_isWhole : GoodIn wsX1_reachedFrom wsX1_isWhole := goodIn_r _ [14, 15, 16, 17, 18, 19, 5, 20, 21, 1, 7, 22, 23, 24, 25, 26, 27, 28, 29, 30, 31, 32] (by decide +kernel) (by decide +kernel)
set_option maxRecDepth 20000 in
theorem gX1_reachedFrom_X1_isWhole : GoodIn wsX1_reachedFrom (wsV RX1 67 RX1 yX1_isWhole wsX1_isWhole) := goodIn_app (goodIn_of _ (by decide +kernel)) ggX1_reachedFrom_X1_isWhole
theorem dX1_reachedFrom_0 : decode cX1_reachedFrom 0 = .ok (.iconst 0, 1) := by decide +kernel
theorem dX1_reachedFrom_1 : decode cX1_reachedFrom 1 = .ok (.istore_n 2, 1) := by decide +kernel
theorem dX1_reachedFrom_2 : decode cX1_reachedFrom 2 = .ok (.iload_n 1, 1) := by decide +kernel
theorem dX1_reachedFrom_3 : decode cX1_reachedFrom 3 = .ok (.istore_n 3, 1) := by decide +kernel
theorem dX1_reachedFrom_4 : decode cX1_reachedFrom 4 = .ok (.iconst 0, 1) := by decide +kernel
theorem dX1_reachedFrom_5 : decode cX1_reachedFrom 5 = .ok (.istore 4, 2) := by decide +kernel
theorem dX1_reachedFrom_7 : decode cX1_reachedFrom 7 = .ok (.iload 4, 2) := by decide +kernel
theorem dX1_reachedFrom_9 : decode cX1_reachedFrom 9 = .ok (.bipush 24, 2) := by decide +kernel
theorem dX1_reachedFrom_11 : decode cX1_reachedFrom 11 = .ok (.if_icmp .ge 41, 3) := by decide +kernel
theorem dX1_reachedFrom_14 : decode cX1_reachedFrom 14 = .ok (.aload_n 0, 1) := by decide +kernel
theorem dX1_reachedFrom_15 : decode cX1_reachedFrom 15 = .ok (.iload_n 3, 1) := by decide +kernel
theorem dX1_reachedFrom_16 : decode cX1_reachedFrom 16 = .ok (.invokevirtual 52, 3) := by decide +kernel
theorem dX1_reachedFrom_19 : decode cX1_reachedFrom 19 = .ok (.ifCond .eq 33, 3) := by decide +kernel
theorem dX1_reachedFrom_22 : decode cX1_reachedFrom 22 = .ok (.iload_n 2, 1) := by decide +kernel
theorem dX1_reachedFrom_23 : decode cX1_reachedFrom 23 = .ok (.iload_n 3, 1) := by decide +kernel
theorem dX1_reachedFrom_24 : decode cX1_reachedFrom 24 = .ok (.invokestatic 70, 3) := by decide +kernel
theorem dX1_reachedFrom_27 : decode cX1_reachedFrom 27 = .ok (.ior, 1) := by decide +kernel
theorem dX1_reachedFrom_28 : decode cX1_reachedFrom 28 = .ok (.istore_n 2, 1) := by decide +kernel
theorem dX1_reachedFrom_29 : decode cX1_reachedFrom 29 = .ok (.aload_n 0, 1) := by decide +kernel
theorem dX1_reachedFrom_30 : decode cX1_reachedFrom 30 = .ok (.iload_n 3, 1) := by decide +kernel
theorem dX1_reachedFrom_31 : decode cX1_reachedFrom 31 = .ok (.invokevirtual 67, 3) := by decide +kernel
theorem dX1_reachedFrom_34 : decode cX1_reachedFrom 34 = .ok (.ifCond .ne 5, 3) := by decide +kernel
theorem dX1_reachedFrom_37 : decode cX1_reachedFrom 37 = .ok (.iload_n 2, 1) := by decide +kernel
theorem dX1_reachedFrom_38 : decode cX1_reachedFrom 38 = .ok (.ireturn, 1) := by decide +kernel
theorem dX1_reachedFrom_39 : decode cX1_reachedFrom 39 = .ok (.aload_n 0, 1) := by decide +kernel
theorem dX1_reachedFrom_40 : decode cX1_reachedFrom 40 = .ok (.getfield 21, 3) := by decide +kernel
theorem dX1_reachedFrom_43 : decode cX1_reachedFrom 43 = .ok (.iload_n 3, 1) := by decide +kernel
theorem dX1_reachedFrom_44 : decode cX1_reachedFrom 44 = .ok (.iaload, 1) := by decide +kernel
theorem dX1_reachedFrom_45 : decode cX1_reachedFrom 45 = .ok (.istore_n 3, 1) := by decide +kernel
theorem dX1_reachedFrom_46 : decode cX1_reachedFrom 46 = .ok (.iinc 4 1, 3) := by decide +kernel
theorem dX1_reachedFrom_49 : decode cX1_reachedFrom 49 = .ok (.goto (-42), 3) := by decide +kernel
theorem dX1_reachedFrom_52 : decode cX1_reachedFrom 52 = .ok (.iload_n 2, 1) := by decide +kernel
theorem dX1_reachedFrom_53 : decode cX1_reachedFrom 53 = .ok (.ireturn, 1) := by decide +kernel
set_option maxRecDepth 20000 in
theorem ggX1_clearedIfHonest_X1_reachedFrom : GoodIn wsX1_clearedIfHonest wsX1_reachedFrom := goodIn_r _ [7, 8, 9, 10, 11, 6, 12, 13, 14, 15, 16, 17, 18, 19, 20, 21, 22, 23, 24, 25, 26, 27, 28, 29, 30, 31, 32, 33, 34, 35, 36, 37, 38] (by decide +kernel) (by decide +kernel)
set_option maxRecDepth 20000 in
theorem gX1_clearedIfHonest_X1_reachedFrom : GoodIn wsX1_clearedIfHonest (wsV RX1 140 RX1 yX1_reachedFrom wsX1_reachedFrom) := goodIn_app (goodIn_of _ (by decide +kernel)) ggX1_clearedIfHonest_X1_reachedFrom
theorem dX1_clearedIfHonest_0 : decode cX1_clearedIfHonest 0 = .ok (.aload_n 0, 1) := by decide +kernel
theorem dX1_clearedIfHonest_1 : decode cX1_clearedIfHonest 1 = .ok (.iload_n 1, 1) := by decide +kernel
theorem dX1_clearedIfHonest_2 : decode cX1_clearedIfHonest 2 = .ok (.invokevirtual 140, 3) := by decide +kernel
theorem dX1_clearedIfHonest_5 : decode cX1_clearedIfHonest 5 = .ok (.aload_n 0, 1) := by decide +kernel
theorem dX1_clearedIfHonest_6 : decode cX1_clearedIfHonest 6 = .ok (.getfield 37, 3) := by decide +kernel
theorem dX1_clearedIfHonest_9 : decode cX1_clearedIfHonest 9 = .ok (.iconst (-1), 1) := by decide +kernel
theorem dX1_clearedIfHonest_10 : decode cX1_clearedIfHonest 10 = .ok (.ixor, 1) := by decide +kernel
theorem dX1_clearedIfHonest_11 : decode cX1_clearedIfHonest 11 = .ok (.iand, 1) := by decide +kernel
theorem dX1_clearedIfHonest_12 : decode cX1_clearedIfHonest 12 = .ok (.aload_n 0, 1) := by decide +kernel
theorem dX1_clearedIfHonest_13 : decode cX1_clearedIfHonest 13 = .ok (.getfield 40, 3) := by decide +kernel
theorem dX1_clearedIfHonest_16 : decode cX1_clearedIfHonest 16 = .ok (.iconst (-1), 1) := by decide +kernel
theorem dX1_clearedIfHonest_17 : decode cX1_clearedIfHonest 17 = .ok (.ixor, 1) := by decide +kernel
theorem dX1_clearedIfHonest_18 : decode cX1_clearedIfHonest 18 = .ok (.iand, 1) := by decide +kernel
theorem dX1_clearedIfHonest_19 : decode cX1_clearedIfHonest 19 = .ok (.ireturn, 1) := by decide +kernel
set_option maxRecDepth 20000 in
theorem ggX1_vouchers_X1_bit : GoodIn wsX1_vouchers wsX1_bit := goodIn_r _ [6] (by decide +kernel) (by decide +kernel)
set_option maxRecDepth 20000 in
theorem gX1_vouchers_X1_bit : GoodIn wsX1_vouchers (va_wsS RX1 70 yX1_bit wsX1_bit) := goodIn_app (goodIn_of _ (by decide +kernel)) ggX1_vouchers_X1_bit
theorem dX1_vouchers_0 : decode cX1_vouchers 0 = .ok (.iconst 0, 1) := by decide +kernel
theorem dX1_vouchers_1 : decode cX1_vouchers 1 = .ok (.istore_n 2, 1) := by decide +kernel
theorem dX1_vouchers_2 : decode cX1_vouchers 2 = .ok (.iconst 0, 1) := by decide +kernel
theorem dX1_vouchers_3 : decode cX1_vouchers 3 = .ok (.istore_n 3, 1) := by decide +kernel
theorem dX1_vouchers_4 : decode cX1_vouchers 4 = .ok (.iload_n 3, 1) := by decide +kernel
theorem dX1_vouchers_5 : decode cX1_vouchers 5 = .ok (.aload_n 0, 1) := by decide +kernel
theorem dX1_vouchers_6 : decode cX1_vouchers 6 = .ok (.getfield 30, 3) := by decide +kernel
theorem dX1_vouchers_9 : decode cX1_vouchers 9 = .ok (.if_icmp .ge 26, 3) := by decide +kernel
theorem dX1_vouchers_12 : decode cX1_vouchers 12 = .ok (.aload_n 0, 1) := by decide +kernel
theorem dX1_vouchers_13 : decode cX1_vouchers 13 = .ok (.getfield 21, 3) := by decide +kernel
theorem dX1_vouchers_16 : decode cX1_vouchers 16 = .ok (.iload_n 3, 1) := by decide +kernel
theorem dX1_vouchers_17 : decode cX1_vouchers 17 = .ok (.iaload, 1) := by decide +kernel
theorem dX1_vouchers_18 : decode cX1_vouchers 18 = .ok (.iload_n 1, 1) := by decide +kernel
theorem dX1_vouchers_19 : decode cX1_vouchers 19 = .ok (.if_icmp .ne 10, 3) := by decide +kernel
theorem dX1_vouchers_22 : decode cX1_vouchers 22 = .ok (.iload_n 2, 1) := by decide +kernel
theorem dX1_vouchers_23 : decode cX1_vouchers 23 = .ok (.iload_n 3, 1) := by decide +kernel
theorem dX1_vouchers_24 : decode cX1_vouchers 24 = .ok (.invokestatic 70, 3) := by decide +kernel
theorem dX1_vouchers_27 : decode cX1_vouchers 27 = .ok (.ior, 1) := by decide +kernel
theorem dX1_vouchers_28 : decode cX1_vouchers 28 = .ok (.istore_n 2, 1) := by decide +kernel
theorem dX1_vouchers_29 : decode cX1_vouchers 29 = .ok (.iinc 3 1, 3) := by decide +kernel
theorem dX1_vouchers_32 : decode cX1_vouchers 32 = .ok (.goto (-28), 3) := by decide +kernel
theorem dX1_vouchers_35 : decode cX1_vouchers 35 = .ok (.iload_n 2, 1) := by decide +kernel
theorem dX1_vouchers_36 : decode cX1_vouchers 36 = .ok (.ireturn, 1) := by decide +kernel
set_option maxRecDepth 20000 in
theorem ggX1_wholeVouchers_X1_isWhole : GoodIn wsX1_wholeVouchers wsX1_isWhole := goodIn_r _ [7, 8, 9, 10, 11, 12, 6, 13, 14, 2, 1, 18, 19, 20, 21, 22, 23, 24, 25, 26, 27, 28] (by decide +kernel) (by decide +kernel)
set_option maxRecDepth 20000 in
theorem gX1_wholeVouchers_X1_isWhole : GoodIn wsX1_wholeVouchers (wsV RX1 67 RX1 yX1_isWhole wsX1_isWhole) := goodIn_app (goodIn_of _ (by decide +kernel)) ggX1_wholeVouchers_X1_isWhole
set_option maxRecDepth 20000 in
theorem ggX1_wholeVouchers_X1_bit : GoodIn wsX1_wholeVouchers wsX1_bit := goodIn_r _ [17] (by decide +kernel) (by decide +kernel)
set_option maxRecDepth 20000 in
theorem gX1_wholeVouchers_X1_bit : GoodIn wsX1_wholeVouchers (va_wsS RX1 70 yX1_bit wsX1_bit) := goodIn_app (goodIn_of _ (by decide +kernel)) ggX1_wholeVouchers_X1_bit
theorem dX1_wholeVouchers_0 : decode cX1_wholeVouchers 0 = .ok (.iconst 0, 1) := by decide +kernel
theorem dX1_wholeVouchers_1 : decode cX1_wholeVouchers 1 = .ok (.istore_n 2, 1) := by decide +kernel
theorem dX1_wholeVouchers_2 : decode cX1_wholeVouchers 2 = .ok (.iconst 0, 1) := by decide +kernel
theorem dX1_wholeVouchers_3 : decode cX1_wholeVouchers 3 = .ok (.istore_n 3, 1) := by decide +kernel
theorem dX1_wholeVouchers_4 : decode cX1_wholeVouchers 4 = .ok (.iload_n 3, 1) := by decide +kernel
theorem dX1_wholeVouchers_5 : decode cX1_wholeVouchers 5 = .ok (.aload_n 0, 1) := by decide +kernel
theorem dX1_wholeVouchers_6 : decode cX1_wholeVouchers 6 = .ok (.getfield 30, 3) := by decide +kernel
theorem dX1_wholeVouchers_9 : decode cX1_wholeVouchers 9 = .ok (.if_icmp .ge 34, 3) := by decide +kernel
theorem dX1_wholeVouchers_12 : decode cX1_wholeVouchers 12 = .ok (.aload_n 0, 1) := by decide +kernel
theorem dX1_wholeVouchers_13 : decode cX1_wholeVouchers 13 = .ok (.getfield 21, 3) := by decide +kernel
theorem dX1_wholeVouchers_16 : decode cX1_wholeVouchers 16 = .ok (.iload_n 3, 1) := by decide +kernel
theorem dX1_wholeVouchers_17 : decode cX1_wholeVouchers 17 = .ok (.iaload, 1) := by decide +kernel
theorem dX1_wholeVouchers_18 : decode cX1_wholeVouchers 18 = .ok (.iload_n 1, 1) := by decide +kernel
theorem dX1_wholeVouchers_19 : decode cX1_wholeVouchers 19 = .ok (.if_icmp .ne 18, 3) := by decide +kernel
theorem dX1_wholeVouchers_22 : decode cX1_wholeVouchers 22 = .ok (.aload_n 0, 1) := by decide +kernel
theorem dX1_wholeVouchers_23 : decode cX1_wholeVouchers 23 = .ok (.iload_n 3, 1) := by decide +kernel
theorem dX1_wholeVouchers_24 : decode cX1_wholeVouchers 24 = .ok (.invokevirtual 67, 3) := by decide +kernel
theorem dX1_wholeVouchers_27 : decode cX1_wholeVouchers 27 = .ok (.ifCond .eq 10, 3) := by decide +kernel
theorem dX1_wholeVouchers_30 : decode cX1_wholeVouchers 30 = .ok (.iload_n 2, 1) := by decide +kernel
theorem dX1_wholeVouchers_31 : decode cX1_wholeVouchers 31 = .ok (.iload_n 3, 1) := by decide +kernel
theorem dX1_wholeVouchers_32 : decode cX1_wholeVouchers 32 = .ok (.invokestatic 70, 3) := by decide +kernel
theorem dX1_wholeVouchers_35 : decode cX1_wholeVouchers 35 = .ok (.ior, 1) := by decide +kernel
theorem dX1_wholeVouchers_36 : decode cX1_wholeVouchers 36 = .ok (.istore_n 2, 1) := by decide +kernel
theorem dX1_wholeVouchers_37 : decode cX1_wholeVouchers 37 = .ok (.iinc 3 1, 3) := by decide +kernel
theorem dX1_wholeVouchers_40 : decode cX1_wholeVouchers 40 = .ok (.goto (-36), 3) := by decide +kernel
theorem dX1_wholeVouchers_43 : decode cX1_wholeVouchers 43 = .ok (.iload_n 2, 1) := by decide +kernel
theorem dX1_wholeVouchers_44 : decode cX1_wholeVouchers 44 = .ok (.ireturn, 1) := by decide +kernel
end
section
theorem dX2_init_0 : decode cX2_init 0 = .ok (.aload_n 0, 1) := by decide +kernel
theorem dX2_init_1 : decode cX2_init 1 = .ok (.invokespecial 3, 3) := by decide +kernel
theorem dX2_init_4 : decode cX2_init 4 = .ok (.aload_n 0, 1) := by decide +kernel
theorem dX2_init_5 : decode cX2_init 5 = .ok (.bipush 60, 2) := by decide +kernel
theorem dX2_init_7 : decode cX2_init 7 = .ok (.newarray .char, 2) := by decide +kernel
theorem dX2_init_9 : decode cX2_init 9 = .ok (.putfield 11, 3) := by decide +kernel
theorem dX2_init_12 : decode cX2_init 12 = .ok (.aload_n 0, 1) := by decide +kernel
theorem dX2_init_13 : decode cX2_init 13 = .ok (.iconst 0, 1) := by decide +kernel
theorem dX2_init_14 : decode cX2_init 14 = .ok (.putfield 15, 3) := by decide +kernel
theorem dX2_init_17 : decode cX2_init 17 = .ok (.aload_n 0, 1) := by decide +kernel
theorem dX2_init_18 : decode cX2_init 18 = .ok (.iconst 0, 1) := by decide +kernel
theorem dX2_init_19 : decode cX2_init 19 = .ok (.putfield 19, 3) := by decide +kernel
theorem dX2_init_22 : decode cX2_init 22 = .ok (.aload_n 0, 1) := by decide +kernel
theorem dX2_init_23 : decode cX2_init 23 = .ok (.bipush 32, 2) := by decide +kernel
theorem dX2_init_25 : decode cX2_init 25 = .ok (.putfield 22, 3) := by decide +kernel
theorem dX2_init_28 : decode cX2_init 28 = .ok (.aload_n 0, 1) := by decide +kernel
theorem dX2_init_29 : decode cX2_init 29 = .ok (.iconst (-1), 1) := by decide +kernel
theorem dX2_init_30 : decode cX2_init 30 = .ok (.putfield 26, 3) := by decide +kernel
theorem dX2_init_33 : decode cX2_init 33 = .ok (.aload_n 0, 1) := by decide +kernel
theorem dX2_init_34 : decode cX2_init 34 = .ok (.iconst 0, 1) := by decide +kernel
theorem dX2_init_35 : decode cX2_init 35 = .ok (.putfield 29, 3) := by decide +kernel
theorem dX2_init_38 : decode cX2_init 38 = .ok (.aload_n 0, 1) := by decide +kernel
theorem dX2_init_39 : decode cX2_init 39 = .ok (.iconst 0, 1) := by decide +kernel
theorem dX2_init_40 : decode cX2_init 40 = .ok (.putfield 32, 3) := by decide +kernel
theorem dX2_init_43 : decode cX2_init 43 = .ok (.return_, 1) := by decide +kernel
theorem dX2_append_0 : decode cX2_append 0 = .ok (.aload_n 0, 1) := by decide +kernel
theorem dX2_append_1 : decode cX2_append 1 = .ok (.getfield 15, 3) := by decide +kernel
theorem dX2_append_4 : decode cX2_append 4 = .ok (.bipush 60, 2) := by decide +kernel
theorem dX2_append_6 : decode cX2_append 6 = .ok (.if_icmp .lt 6, 3) := by decide +kernel
theorem dX2_append_9 : decode cX2_append 9 = .ok (.bipush (-3), 2) := by decide +kernel
theorem dX2_append_11 : decode cX2_append 11 = .ok (.ireturn, 1) := by decide +kernel
theorem dX2_append_12 : decode cX2_append 12 = .ok (.aload_n 0, 1) := by decide +kernel
theorem dX2_append_13 : decode cX2_append 13 = .ok (.getfield 11, 3) := by decide +kernel
theorem dX2_append_16 : decode cX2_append 16 = .ok (.aload_n 0, 1) := by decide +kernel
theorem dX2_append_17 : decode cX2_append 17 = .ok (.getfield 15, 3) := by decide +kernel
theorem dX2_append_20 : decode cX2_append 20 = .ok (.iload_n 1, 1) := by decide +kernel
theorem dX2_append_21 : decode cX2_append 21 = .ok (.castore, 1) := by decide +kernel
theorem dX2_append_22 : decode cX2_append 22 = .ok (.aload_n 0, 1) := by decide +kernel
theorem dX2_append_23 : decode cX2_append 23 = .ok (.dup, 1) := by decide +kernel
theorem dX2_append_24 : decode cX2_append 24 = .ok (.getfield 15, 3) := by decide +kernel
theorem dX2_append_27 : decode cX2_append 27 = .ok (.iconst 1, 1) := by decide +kernel
theorem dX2_append_28 : decode cX2_append 28 = .ok (.iadd, 1) := by decide +kernel
theorem dX2_append_29 : decode cX2_append 29 = .ok (.putfield 15, 3) := by decide +kernel
theorem dX2_append_32 : decode cX2_append 32 = .ok (.aload_n 0, 1) := by decide +kernel
theorem dX2_append_33 : decode cX2_append 33 = .ok (.getfield 15, 3) := by decide +kernel
theorem dX2_append_36 : decode cX2_append 36 = .ok (.ireturn, 1) := by decide +kernel
theorem dX2_empty_0 : decode cX2_empty 0 = .ok (.aload_n 0, 1) := by decide +kernel
theorem dX2_empty_1 : decode cX2_empty 1 = .ok (.getfield 15, 3) := by decide +kernel
theorem dX2_empty_4 : decode cX2_empty 4 = .ok (.istore_n 1, 1) := by decide +kernel
theorem dX2_empty_5 : decode cX2_empty 5 = .ok (.aload_n 0, 1) := by decide +kernel
theorem dX2_empty_6 : decode cX2_empty 6 = .ok (.iconst 0, 1) := by decide +kernel
theorem dX2_empty_7 : decode cX2_empty 7 = .ok (.putfield 15, 3) := by decide +kernel
theorem dX2_empty_10 : decode cX2_empty 10 = .ok (.iload_n 1, 1) := by decide +kernel
theorem dX2_empty_11 : decode cX2_empty 11 = .ok (.ireturn, 1) := by decide +kernel
theorem dX2_length_0 : decode cX2_length 0 = .ok (.aload_n 0, 1) := by decide +kernel
theorem dX2_length_1 : decode cX2_length 1 = .ok (.getfield 15, 3) := by decide +kernel
theorem dX2_length_4 : decode cX2_length 4 = .ok (.ireturn, 1) := by decide +kernel
theorem dX2_reached_0 : decode cX2_reached 0 = .ok (.aload_n 0, 1) := by decide +kernel
theorem dX2_reached_1 : decode cX2_reached 1 = .ok (.getfield 19, 3) := by decide +kernel
theorem dX2_reached_4 : decode cX2_reached 4 = .ok (.ireturn, 1) := by decide +kernel
theorem dX2_kind_0 : decode cX2_kind 0 = .ok (.aload_n 0, 1) := by decide +kernel
theorem dX2_kind_1 : decode cX2_kind 1 = .ok (.getfield 22, 3) := by decide +kernel
theorem dX2_kind_4 : decode cX2_kind 4 = .ok (.ireturn, 1) := by decide +kernel
theorem dX2_cartNumber_0 : decode cX2_cartNumber 0 = .ok (.aload_n 0, 1) := by decide +kernel
theorem dX2_cartNumber_1 : decode cX2_cartNumber 1 = .ok (.getfield 26, 3) := by decide +kernel
theorem dX2_cartNumber_4 : decode cX2_cartNumber 4 = .ok (.ireturn, 1) := by decide +kernel
theorem dX2_claim_0 : decode cX2_claim 0 = .ok (.aload_n 0, 1) := by decide +kernel
theorem dX2_claim_1 : decode cX2_claim 1 = .ok (.getfield 29, 3) := by decide +kernel
theorem dX2_claim_4 : decode cX2_claim 4 = .ok (.ireturn, 1) := by decide +kernel
theorem dX2_load_0 : decode cX2_load 0 = .ok (.aload_n 0, 1) := by decide +kernel
theorem dX2_load_1 : decode cX2_load 1 = .ok (.getfield 32, 3) := by decide +kernel
theorem dX2_load_4 : decode cX2_load 4 = .ok (.ireturn, 1) := by decide +kernel
set_option maxRecDepth 20000 in
theorem ggX2_countOrders_X2_rewind : GoodIn wsX2_countOrders wsX2_rewind := goodIn_r _ [7, 1, 45, 46, 47, 48, 49, 50, 51] (by decide +kernel) (by decide +kernel)
set_option maxRecDepth 20000 in
theorem gX2_countOrders_X2_rewind : GoodIn wsX2_countOrders (wsV RX2 35 RX2 yX2_rewind wsX2_rewind) := goodIn_app (goodIn_of _ (by decide +kernel)) ggX2_countOrders_X2_rewind
set_option maxRecDepth 20000 in
theorem ggX2_countOrders_X2_readOrder : GoodIn wsX2_countOrders wsX2_readOrder := goodIn_r _ [11, 12, 13, 14, 15, 6, 16, 17, 18, 19, 20, 21, 1, 2, 22, 23, 24, 25, 26, 27, 28, 29, 30, 31, 32, 33, 34, 35, 36, 37, 38, 39, 40, 41, 42, 43, 44, 45, 46, 47, 48, 49, 50, 51] (by decide +kernel) (by decide +kernel)
set_option maxRecDepth 20000 in
theorem gX2_countOrders_X2_readOrder : GoodIn wsX2_countOrders (wsV RX2 38 RX2 yX2_readOrder wsX2_readOrder) := goodIn_app (goodIn_of _ (by decide +kernel)) ggX2_countOrders_X2_readOrder
set_option maxRecDepth 20000 in
theorem ggX2_countOrders_X2_takes : GoodIn wsX2_countOrders wsX2_takes := goodIn_r _ [21, 1, 2, 22, 45, 46, 47, 48, 49, 50, 51] (by decide +kernel) (by decide +kernel)
set_option maxRecDepth 20000 in
theorem gX2_countOrders_X2_takes : GoodIn wsX2_countOrders (wsV RX2 42 RX2 yX2_takes wsX2_takes) := goodIn_app (goodIn_of _ (by decide +kernel)) ggX2_countOrders_X2_takes
theorem dX2_countOrders_0 : decode cX2_countOrders 0 = .ok (.aload_n 0, 1) := by decide +kernel
theorem dX2_countOrders_1 : decode cX2_countOrders 1 = .ok (.invokevirtual 35, 3) := by decide +kernel
theorem dX2_countOrders_4 : decode cX2_countOrders 4 = .ok (.iconst 1, 1) := by decide +kernel
theorem dX2_countOrders_5 : decode cX2_countOrders 5 = .ok (.istore_n 1, 1) := by decide +kernel
theorem dX2_countOrders_6 : decode cX2_countOrders 6 = .ok (.iload_n 1, 1) := by decide +kernel
theorem dX2_countOrders_7 : decode cX2_countOrders 7 = .ok (.bipush 60, 2) := by decide +kernel
theorem dX2_countOrders_9 : decode cX2_countOrders 9 = .ok (.if_icmp .gt 42, 3) := by decide +kernel
theorem dX2_countOrders_12 : decode cX2_countOrders 12 = .ok (.aload_n 0, 1) := by decide +kernel
theorem dX2_countOrders_13 : decode cX2_countOrders 13 = .ok (.invokevirtual 38, 3) := by decide +kernel
theorem dX2_countOrders_16 : decode cX2_countOrders 16 = .ok (.ifCond .ne 5, 3) := by decide +kernel
theorem dX2_countOrders_19 : decode cX2_countOrders 19 = .ok (.iconst (-1), 1) := by decide +kernel
theorem dX2_countOrders_20 : decode cX2_countOrders 20 = .ok (.ireturn, 1) := by decide +kernel
theorem dX2_countOrders_21 : decode cX2_countOrders 21 = .ok (.aload_n 0, 1) := by decide +kernel
theorem dX2_countOrders_22 : decode cX2_countOrders 22 = .ok (.getfield 19, 3) := by decide +kernel
theorem dX2_countOrders_25 : decode cX2_countOrders 25 = .ok (.aload_n 0, 1) := by decide +kernel
theorem dX2_countOrders_26 : decode cX2_countOrders 26 = .ok (.getfield 15, 3) := by decide +kernel
theorem dX2_countOrders_29 : decode cX2_countOrders 29 = .ok (.if_icmp .ne 5, 3) := by decide +kernel
theorem dX2_countOrders_32 : decode cX2_countOrders 32 = .ok (.iload_n 1, 1) := by decide +kernel
theorem dX2_countOrders_33 : decode cX2_countOrders 33 = .ok (.ireturn, 1) := by decide +kernel
theorem dX2_countOrders_34 : decode cX2_countOrders 34 = .ok (.aload_n 0, 1) := by decide +kernel
theorem dX2_countOrders_35 : decode cX2_countOrders 35 = .ok (.bipush 59, 2) := by decide +kernel
theorem dX2_countOrders_37 : decode cX2_countOrders 37 = .ok (.invokevirtual 42, 3) := by decide +kernel
theorem dX2_countOrders_40 : decode cX2_countOrders 40 = .ok (.ifCond .ne 5, 3) := by decide +kernel
theorem dX2_countOrders_43 : decode cX2_countOrders 43 = .ok (.iconst (-1), 1) := by decide +kernel
theorem dX2_countOrders_44 : decode cX2_countOrders 44 = .ok (.ireturn, 1) := by decide +kernel
theorem dX2_countOrders_45 : decode cX2_countOrders 45 = .ok (.iinc 1 1, 3) := by decide +kernel
theorem dX2_countOrders_48 : decode cX2_countOrders 48 = .ok (.goto (-42), 3) := by decide +kernel
theorem dX2_countOrders_51 : decode cX2_countOrders 51 = .ok (.iconst (-1), 1) := by decide +kernel
theorem dX2_countOrders_52 : decode cX2_countOrders 52 = .ok (.ireturn, 1) := by decide +kernel
theorem dX2_rewind_0 : decode cX2_rewind 0 = .ok (.aload_n 0, 1) := by decide +kernel
theorem dX2_rewind_1 : decode cX2_rewind 1 = .ok (.iconst 0, 1) := by decide +kernel
theorem dX2_rewind_2 : decode cX2_rewind 2 = .ok (.putfield 19, 3) := by decide +kernel
theorem dX2_rewind_5 : decode cX2_rewind 5 = .ok (.return_, 1) := by decide +kernel
set_option maxRecDepth 20000 in
theorem ggX2_nextOrder_X2_takes : GoodIn wsX2_nextOrder wsX2_takes := goodIn_r _ [5, 6, 7, 8, 41, 42, 43, 44, 45, 46, 47] (by decide +kernel) (by decide +kernel)
set_option maxRecDepth 20000 in
theorem gX2_nextOrder_X2_takes : GoodIn wsX2_nextOrder (wsV RX2 42 RX2 yX2_takes wsX2_takes) := goodIn_app (goodIn_of _ (by decide +kernel)) ggX2_nextOrder_X2_takes
set_option maxRecDepth 20000 in
theorem ggX2_nextOrder_X2_readOrder : GoodIn wsX2_nextOrder wsX2_readOrder := goodIn_r _ [12, 13, 14, 15, 16, 4, 17, 18, 1, 2, 3, 5, 6, 7, 8, 19, 20, 21, 22, 23, 24, 25, 26, 27, 28, 29, 30, 31, 32, 33, 34, 35, 36, 37, 38, 39, 40, 41, 42, 43, 44, 45, 46, 47] (by decide +kernel) (by decide +kernel)
set_option maxRecDepth 20000 in
theorem gX2_nextOrder_X2_readOrder : GoodIn wsX2_nextOrder (wsV RX2 38 RX2 yX2_readOrder wsX2_readOrder) := goodIn_app (goodIn_of _ (by decide +kernel)) ggX2_nextOrder_X2_readOrder
theorem dX2_nextOrder_0 : decode cX2_nextOrder 0 = .ok (.aload_n 0, 1) := by decide +kernel
theorem dX2_nextOrder_1 : decode cX2_nextOrder 1 = .ok (.bipush 59, 2) := by decide +kernel
theorem dX2_nextOrder_3 : decode cX2_nextOrder 3 = .ok (.invokevirtual 42, 3) := by decide +kernel
theorem dX2_nextOrder_6 : decode cX2_nextOrder 6 = .ok (.pop, 1) := by decide +kernel
theorem dX2_nextOrder_7 : decode cX2_nextOrder 7 = .ok (.aload_n 0, 1) := by decide +kernel
theorem dX2_nextOrder_8 : decode cX2_nextOrder 8 = .ok (.invokevirtual 38, 3) := by decide +kernel
theorem dX2_nextOrder_11 : decode cX2_nextOrder 11 = .ok (.pop, 1) := by decide +kernel
theorem dX2_nextOrder_12 : decode cX2_nextOrder 12 = .ok (.return_, 1) := by decide +kernel
set_option maxRecDepth 20000 in
theorem ggX2_readOrder_X2_takesKind : GoodIn wsX2_readOrder wsX2_takesKind := goodIn_r _ [6, 7, 8, 9, 10, 5, 11, 12, 13, 14, 37, 38, 39, 40, 41, 42, 43] (by decide +kernel) (by decide +kernel)
set_option maxRecDepth 20000 in
theorem gX2_readOrder_X2_takesKind : GoodIn wsX2_readOrder (wsV RX2 46 RX2 yX2_takesKind wsX2_takesKind) := goodIn_app (goodIn_of _ (by decide +kernel)) ggX2_readOrder_X2_takesKind
set_option maxRecDepth 20000 in
theorem ggX2_readOrder_X2_readClaim : GoodIn wsX2_readOrder wsX2_readClaim := goodIn_r _ [18, 19, 20, 21, 22, 5, 23, 12, 24, 25, 26, 27, 13, 14, 37, 38, 39, 40, 41, 42, 43] (by decide +kernel) (by decide +kernel)
set_option maxRecDepth 20000 in
theorem gX2_readOrder_X2_readClaim : GoodIn wsX2_readOrder (wsV RX2 49 RX2 yX2_readClaim wsX2_readClaim) := goodIn_app (goodIn_of _ (by decide +kernel)) ggX2_readOrder_X2_readClaim
set_option maxRecDepth 20000 in
theorem ggX2_readOrder_X2_takes : GoodIn wsX2_readOrder wsX2_takes := goodIn_r _ [11, 12, 13, 14, 37, 38, 39, 40, 41, 42, 43] (by decide +kernel) (by decide +kernel)
set_option maxRecDepth 20000 in
theorem gX2_readOrder_X2_takes : GoodIn wsX2_readOrder (wsV RX2 42 RX2 yX2_takes wsX2_takes) := goodIn_app (goodIn_of _ (by decide +kernel)) ggX2_readOrder_X2_takes
set_option maxRecDepth 20000 in
theorem ggX2_readOrder_X2_readLoad : GoodIn wsX2_readOrder wsX2_readLoad := goodIn_r _ [31, 32, 20, 21, 22, 5, 23, 12, 24, 25, 26, 27, 13, 14, 37, 38, 39, 40, 41, 42, 43] (by decide +kernel) (by decide +kernel)
set_option maxRecDepth 20000 in
theorem gX2_readOrder_X2_readLoad : GoodIn wsX2_readOrder (wsV RX2 52 RX2 yX2_readLoad wsX2_readLoad) := goodIn_app (goodIn_of _ (by decide +kernel)) ggX2_readOrder_X2_readLoad
set_option maxRecDepth 20000 in
theorem ggX2_readOrder_X2_readCart : GoodIn wsX2_readOrder wsX2_readCart := goodIn_r _ [36, 1, 20, 21, 22, 5, 23, 12, 24, 25, 26, 27, 13, 14, 37, 38, 39, 40, 41, 42, 43] (by decide +kernel) (by decide +kernel)
set_option maxRecDepth 20000 in
theorem gX2_readOrder_X2_readCart : GoodIn wsX2_readOrder (wsV RX2 55 RX2 yX2_readCart wsX2_readCart) := goodIn_app (goodIn_of _ (by decide +kernel)) ggX2_readOrder_X2_readCart
theorem dX2_readOrder_0 : decode cX2_readOrder 0 = .ok (.aload_n 0, 1) := by decide +kernel
theorem dX2_readOrder_1 : decode cX2_readOrder 1 = .ok (.iconst (-1), 1) := by decide +kernel
theorem dX2_readOrder_2 : decode cX2_readOrder 2 = .ok (.putfield 26, 3) := by decide +kernel
theorem dX2_readOrder_5 : decode cX2_readOrder 5 = .ok (.aload_n 0, 1) := by decide +kernel
theorem dX2_readOrder_6 : decode cX2_readOrder 6 = .ok (.bipush 99, 2) := by decide +kernel
theorem dX2_readOrder_8 : decode cX2_readOrder 8 = .ok (.invokevirtual 46, 3) := by decide +kernel
theorem dX2_readOrder_11 : decode cX2_readOrder 11 = .ok (.ifCond .eq 48, 3) := by decide +kernel
theorem dX2_readOrder_14 : decode cX2_readOrder 14 = .ok (.aload_n 0, 1) := by decide +kernel
theorem dX2_readOrder_15 : decode cX2_readOrder 15 = .ok (.invokevirtual 49, 3) := by decide +kernel
theorem dX2_readOrder_18 : decode cX2_readOrder 18 = .ok (.ifCond .eq 39, 3) := by decide +kernel
theorem dX2_readOrder_21 : decode cX2_readOrder 21 = .ok (.aload_n 0, 1) := by decide +kernel
theorem dX2_readOrder_22 : decode cX2_readOrder 22 = .ok (.bipush 47, 2) := by decide +kernel
theorem dX2_readOrder_24 : decode cX2_readOrder 24 = .ok (.invokevirtual 42, 3) := by decide +kernel
theorem dX2_readOrder_27 : decode cX2_readOrder 27 = .ok (.ifCond .eq 30, 3) := by decide +kernel
theorem dX2_readOrder_30 : decode cX2_readOrder 30 = .ok (.aload_n 0, 1) := by decide +kernel
theorem dX2_readOrder_31 : decode cX2_readOrder 31 = .ok (.invokevirtual 52, 3) := by decide +kernel
theorem dX2_readOrder_34 : decode cX2_readOrder 34 = .ok (.ifCond .eq 23, 3) := by decide +kernel
theorem dX2_readOrder_37 : decode cX2_readOrder 37 = .ok (.aload_n 0, 1) := by decide +kernel
theorem dX2_readOrder_38 : decode cX2_readOrder 38 = .ok (.bipush 62, 2) := by decide +kernel
theorem dX2_readOrder_40 : decode cX2_readOrder 40 = .ok (.invokevirtual 42, 3) := by decide +kernel
theorem dX2_readOrder_43 : decode cX2_readOrder 43 = .ok (.ifCond .eq 10, 3) := by decide +kernel
theorem dX2_readOrder_46 : decode cX2_readOrder 46 = .ok (.aload_n 0, 1) := by decide +kernel
theorem dX2_readOrder_47 : decode cX2_readOrder 47 = .ok (.invokevirtual 55, 3) := by decide +kernel
theorem dX2_readOrder_50 : decode cX2_readOrder 50 = .ok (.ifCond .eq 7, 3) := by decide +kernel
theorem dX2_readOrder_53 : decode cX2_readOrder 53 = .ok (.iconst 1, 1) := by decide +kernel
theorem dX2_readOrder_54 : decode cX2_readOrder 54 = .ok (.goto 4, 3) := by decide +kernel
theorem dX2_readOrder_57 : decode cX2_readOrder 57 = .ok (.iconst 0, 1) := by decide +kernel
theorem dX2_readOrder_58 : decode cX2_readOrder 58 = .ok (.ireturn, 1) := by decide +kernel
theorem dX2_readOrder_59 : decode cX2_readOrder 59 = .ok (.aload_n 0, 1) := by decide +kernel
theorem dX2_readOrder_60 : decode cX2_readOrder 60 = .ok (.bipush 111, 2) := by decide +kernel
theorem dX2_readOrder_62 : decode cX2_readOrder 62 = .ok (.invokevirtual 46, 3) := by decide +kernel
theorem dX2_readOrder_65 : decode cX2_readOrder 65 = .ok (.ifCond .ne 12, 3) := by decide +kernel
theorem dX2_readOrder_68 : decode cX2_readOrder 68 = .ok (.aload_n 0, 1) := by decide +kernel
theorem dX2_readOrder_69 : decode cX2_readOrder 69 = .ok (.bipush 115, 2) := by decide +kernel
theorem dX2_readOrder_71 : decode cX2_readOrder 71 = .ok (.invokevirtual 46, 3) := by decide +kernel
theorem dX2_readOrder_74 : decode cX2_readOrder 74 = .ok (.ifCond .eq 8, 3) := by decide +kernel
theorem dX2_readOrder_77 : decode cX2_readOrder 77 = .ok (.aload_n 0, 1) := by decide +kernel
theorem dX2_readOrder_78 : decode cX2_readOrder 78 = .ok (.invokevirtual 55, 3) := by decide +kernel
theorem dX2_readOrder_81 : decode cX2_readOrder 81 = .ok (.ireturn, 1) := by decide +kernel
theorem dX2_readOrder_82 : decode cX2_readOrder 82 = .ok (.aload_n 0, 1) := by decide +kernel
theorem dX2_readOrder_83 : decode cX2_readOrder 83 = .ok (.bipush 120, 2) := by decide +kernel
theorem dX2_readOrder_85 : decode cX2_readOrder 85 = .ok (.invokevirtual 46, 3) := by decide +kernel
theorem dX2_readOrder_88 : decode cX2_readOrder 88 = .ok (.ifCond .eq 30, 3) := by decide +kernel
theorem dX2_readOrder_91 : decode cX2_readOrder 91 = .ok (.aload_n 0, 1) := by decide +kernel
theorem dX2_readOrder_92 : decode cX2_readOrder 92 = .ok (.invokevirtual 55, 3) := by decide +kernel
theorem dX2_readOrder_95 : decode cX2_readOrder 95 = .ok (.ifCond .eq 23, 3) := by decide +kernel
theorem dX2_readOrder_98 : decode cX2_readOrder 98 = .ok (.aload_n 0, 1) := by decide +kernel
theorem dX2_readOrder_99 : decode cX2_readOrder 99 = .ok (.bipush 61, 2) := by decide +kernel
theorem dX2_readOrder_101 : decode cX2_readOrder 101 = .ok (.invokevirtual 42, 3) := by decide +kernel
theorem dX2_readOrder_104 : decode cX2_readOrder 104 = .ok (.ifCond .eq 14, 3) := by decide +kernel
theorem dX2_readOrder_107 : decode cX2_readOrder 107 = .ok (.aload_n 0, 1) := by decide +kernel
theorem dX2_readOrder_108 : decode cX2_readOrder 108 = .ok (.invokevirtual 49, 3) := by decide +kernel
theorem dX2_readOrder_111 : decode cX2_readOrder 111 = .ok (.ifCond .eq 7, 3) := by decide +kernel
theorem dX2_readOrder_114 : decode cX2_readOrder 114 = .ok (.iconst 1, 1) := by decide +kernel
theorem dX2_readOrder_115 : decode cX2_readOrder 115 = .ok (.goto 4, 3) := by decide +kernel
theorem dX2_readOrder_118 : decode cX2_readOrder 118 = .ok (.iconst 0, 1) := by decide +kernel
theorem dX2_readOrder_119 : decode cX2_readOrder 119 = .ok (.ireturn, 1) := by decide +kernel
set_option maxRecDepth 20000 in
theorem ggX2_takesKind_X2_takes : GoodIn wsX2_takesKind wsX2_takes := goodIn_r _ [6, 7, 8, 9, 10, 11, 12, 13, 14, 15, 16] (by decide +kernel) (by decide +kernel)
set_option maxRecDepth 20000 in
theorem gX2_takesKind_X2_takes : GoodIn wsX2_takesKind (wsV RX2 42 RX2 yX2_takes wsX2_takes) := goodIn_app (goodIn_of _ (by decide +kernel)) ggX2_takesKind_X2_takes
theorem dX2_takesKind_0 : decode cX2_takesKind 0 = .ok (.aload_n 0, 1) := by decide +kernel
theorem dX2_takesKind_1 : decode cX2_takesKind 1 = .ok (.iload_n 1, 1) := by decide +kernel
theorem dX2_takesKind_2 : decode cX2_takesKind 2 = .ok (.invokevirtual 42, 3) := by decide +kernel
theorem dX2_takesKind_5 : decode cX2_takesKind 5 = .ok (.ifCond .ne 5, 3) := by decide +kernel
theorem dX2_takesKind_8 : decode cX2_takesKind 8 = .ok (.iconst 0, 1) := by decide +kernel
theorem dX2_takesKind_9 : decode cX2_takesKind 9 = .ok (.ireturn, 1) := by decide +kernel
theorem dX2_takesKind_10 : decode cX2_takesKind 10 = .ok (.aload_n 0, 1) := by decide +kernel
theorem dX2_takesKind_11 : decode cX2_takesKind 11 = .ok (.iload_n 1, 1) := by decide +kernel
theorem dX2_takesKind_12 : decode cX2_takesKind 12 = .ok (.putfield 22, 3) := by decide +kernel
theorem dX2_takesKind_15 : decode cX2_takesKind 15 = .ok (.iconst 1, 1) := by decide +kernel
theorem dX2_takesKind_16 : decode cX2_takesKind 16 = .ok (.ireturn, 1) := by decide +kernel
set_option maxRecDepth 20000 in
theorem ggX2_readClaim_X2_takeNumber : GoodIn wsX2_readClaim wsX2_takeNumber := goodIn_r _ [6, 7, 8, 9, 10, 5, 11, 12, 13, 14, 15, 16, 17, 18, 19, 20] (by decide +kernel) (by decide +kernel)
set_option maxRecDepth 20000 in
theorem gX2_readClaim_X2_takeNumber : GoodIn wsX2_readClaim (wsV RX2 58 RX2 yX2_takeNumber wsX2_takeNumber) := goodIn_app (goodIn_of _ (by decide +kernel)) ggX2_readClaim_X2_takeNumber
theorem dX2_readClaim_0 : decode cX2_readClaim 0 = .ok (.aload_n 0, 1) := by decide +kernel
theorem dX2_readClaim_1 : decode cX2_readClaim 1 = .ok (.aload_n 0, 1) := by decide +kernel
theorem dX2_readClaim_2 : decode cX2_readClaim 2 = .ok (.bipush 99, 2) := by decide +kernel
theorem dX2_readClaim_4 : decode cX2_readClaim 4 = .ok (.invokevirtual 58, 3) := by decide +kernel
theorem dX2_readClaim_7 : decode cX2_readClaim 7 = .ok (.putfield 29, 3) := by decide +kernel
theorem dX2_readClaim_10 : decode cX2_readClaim 10 = .ok (.aload_n 0, 1) := by decide +kernel
theorem dX2_readClaim_11 : decode cX2_readClaim 11 = .ok (.getfield 29, 3) := by decide +kernel
theorem dX2_readClaim_14 : decode cX2_readClaim 14 = .ok (.iconst (-1), 1) := by decide +kernel
theorem dX2_readClaim_15 : decode cX2_readClaim 15 = .ok (.if_icmp .eq 7, 3) := by decide +kernel
theorem dX2_readClaim_18 : decode cX2_readClaim 18 = .ok (.iconst 1, 1) := by decide +kernel
theorem dX2_readClaim_19 : decode cX2_readClaim 19 = .ok (.goto 4, 3) := by decide +kernel
theorem dX2_readClaim_22 : decode cX2_readClaim 22 = .ok (.iconst 0, 1) := by decide +kernel
theorem dX2_readClaim_23 : decode cX2_readClaim 23 = .ok (.ireturn, 1) := by decide +kernel
set_option maxRecDepth 20000 in
theorem ggX2_readLoad_X2_takeNumber : GoodIn wsX2_readLoad wsX2_takeNumber := goodIn_r _ [6, 7, 8, 9, 10, 5, 11, 12, 13, 14, 15, 16, 17, 18, 19, 20] (by decide +kernel) (by decide +kernel)
set_option maxRecDepth 20000 in
theorem gX2_readLoad_X2_takeNumber : GoodIn wsX2_readLoad (wsV RX2 58 RX2 yX2_takeNumber wsX2_takeNumber) := goodIn_app (goodIn_of _ (by decide +kernel)) ggX2_readLoad_X2_takeNumber
theorem dX2_readLoad_0 : decode cX2_readLoad 0 = .ok (.aload_n 0, 1) := by decide +kernel
theorem dX2_readLoad_1 : decode cX2_readLoad 1 = .ok (.aload_n 0, 1) := by decide +kernel
theorem dX2_readLoad_2 : decode cX2_readLoad 2 = .ok (.bipush 99, 2) := by decide +kernel
theorem dX2_readLoad_4 : decode cX2_readLoad 4 = .ok (.invokevirtual 58, 3) := by decide +kernel
theorem dX2_readLoad_7 : decode cX2_readLoad 7 = .ok (.putfield 32, 3) := by decide +kernel
theorem dX2_readLoad_10 : decode cX2_readLoad 10 = .ok (.aload_n 0, 1) := by decide +kernel
theorem dX2_readLoad_11 : decode cX2_readLoad 11 = .ok (.getfield 32, 3) := by decide +kernel
theorem dX2_readLoad_14 : decode cX2_readLoad 14 = .ok (.iconst (-1), 1) := by decide +kernel
theorem dX2_readLoad_15 : decode cX2_readLoad 15 = .ok (.if_icmp .eq 7, 3) := by decide +kernel
theorem dX2_readLoad_18 : decode cX2_readLoad 18 = .ok (.iconst 1, 1) := by decide +kernel
theorem dX2_readLoad_19 : decode cX2_readLoad 19 = .ok (.goto 4, 3) := by decide +kernel
theorem dX2_readLoad_22 : decode cX2_readLoad 22 = .ok (.iconst 0, 1) := by decide +kernel
theorem dX2_readLoad_23 : decode cX2_readLoad 23 = .ok (.ireturn, 1) := by decide +kernel
set_option maxRecDepth 20000 in
theorem ggX2_readCart_X2_takeNumber : GoodIn wsX2_readCart wsX2_takeNumber := goodIn_r _ [6, 7, 8, 9, 10, 5, 11, 12, 13, 14, 15, 16, 17, 18, 19, 20] (by decide +kernel) (by decide +kernel)
set_option maxRecDepth 20000 in
theorem gX2_readCart_X2_takeNumber : GoodIn wsX2_readCart (wsV RX2 58 RX2 yX2_takeNumber wsX2_takeNumber) := goodIn_app (goodIn_of _ (by decide +kernel)) ggX2_readCart_X2_takeNumber
theorem dX2_readCart_0 : decode cX2_readCart 0 = .ok (.aload_n 0, 1) := by decide +kernel
theorem dX2_readCart_1 : decode cX2_readCart 1 = .ok (.aload_n 0, 1) := by decide +kernel
theorem dX2_readCart_2 : decode cX2_readCart 2 = .ok (.bipush 23, 2) := by decide +kernel
theorem dX2_readCart_4 : decode cX2_readCart 4 = .ok (.invokevirtual 58, 3) := by decide +kernel
theorem dX2_readCart_7 : decode cX2_readCart 7 = .ok (.putfield 26, 3) := by decide +kernel
theorem dX2_readCart_10 : decode cX2_readCart 10 = .ok (.aload_n 0, 1) := by decide +kernel
theorem dX2_readCart_11 : decode cX2_readCart 11 = .ok (.getfield 26, 3) := by decide +kernel
theorem dX2_readCart_14 : decode cX2_readCart 14 = .ok (.iconst (-1), 1) := by decide +kernel
theorem dX2_readCart_15 : decode cX2_readCart 15 = .ok (.if_icmp .eq 7, 3) := by decide +kernel
theorem dX2_readCart_18 : decode cX2_readCart 18 = .ok (.iconst 1, 1) := by decide +kernel
theorem dX2_readCart_19 : decode cX2_readCart 19 = .ok (.goto 4, 3) := by decide +kernel
theorem dX2_readCart_22 : decode cX2_readCart 22 = .ok (.iconst 0, 1) := by decide +kernel
theorem dX2_readCart_23 : decode cX2_readCart 23 = .ok (.ireturn, 1) := by decide +kernel
theorem dX2_takes_0 : decode cX2_takes 0 = .ok (.aload_n 0, 1) := by decide +kernel
theorem dX2_takes_1 : decode cX2_takes 1 = .ok (.getfield 19, 3) := by decide +kernel
theorem dX2_takes_4 : decode cX2_takes 4 = .ok (.aload_n 0, 1) := by decide +kernel
theorem dX2_takes_5 : decode cX2_takes 5 = .ok (.getfield 15, 3) := by decide +kernel
theorem dX2_takes_8 : decode cX2_takes 8 = .ok (.if_icmp .ge 16, 3) := by decide +kernel
theorem dX2_takes_11 : decode cX2_takes 11 = .ok (.aload_n 0, 1) := by decide +kernel
theorem dX2_takes_12 : decode cX2_takes 12 = .ok (.getfield 11, 3) := by decide +kernel
theorem dX2_takes_15 : decode cX2_takes 15 = .ok (.aload_n 0, 1) := by decide +kernel
theorem dX2_takes_16 : decode cX2_takes 16 = .ok (.getfield 19, 3) := by decide +kernel
theorem dX2_takes_19 : decode cX2_takes 19 = .ok (.caload, 1) := by decide +kernel
theorem dX2_takes_20 : decode cX2_takes 20 = .ok (.iload_n 1, 1) := by decide +kernel
theorem dX2_takes_21 : decode cX2_takes 21 = .ok (.if_icmp .eq 5, 3) := by decide +kernel
theorem dX2_takes_24 : decode cX2_takes 24 = .ok (.iconst 0, 1) := by decide +kernel
theorem dX2_takes_25 : decode cX2_takes 25 = .ok (.ireturn, 1) := by decide +kernel
theorem dX2_takes_26 : decode cX2_takes 26 = .ok (.aload_n 0, 1) := by decide +kernel
theorem dX2_takes_27 : decode cX2_takes 27 = .ok (.dup, 1) := by decide +kernel
theorem dX2_takes_28 : decode cX2_takes 28 = .ok (.getfield 19, 3) := by decide +kernel
theorem dX2_takes_31 : decode cX2_takes 31 = .ok (.iconst 1, 1) := by decide +kernel
theorem dX2_takes_32 : decode cX2_takes 32 = .ok (.iadd, 1) := by decide +kernel
theorem dX2_takes_33 : decode cX2_takes 33 = .ok (.putfield 19, 3) := by decide +kernel
theorem dX2_takes_36 : decode cX2_takes 36 = .ok (.iconst 1, 1) := by decide +kernel
theorem dX2_takes_37 : decode cX2_takes 37 = .ok (.ireturn, 1) := by decide +kernel
set_option maxRecDepth 20000 in
theorem ggX2_takeNumber_X2_digitHere : GoodIn wsX2_takeNumber wsX2_digitHere := goodIn_r _ [6, 1, 7, 8, 9, 10, 11, 12, 13, 14, 15] (by decide +kernel) (by decide +kernel)
set_option maxRecDepth 20000 in
theorem gX2_takeNumber_X2_digitHere : GoodIn wsX2_takeNumber (wsV RX2 62 RX2 yX2_digitHere wsX2_digitHere) := goodIn_app (goodIn_of _ (by decide +kernel)) ggX2_takeNumber_X2_digitHere
theorem dX2_takeNumber_0 : decode cX2_takeNumber 0 = .ok (.aload_n 0, 1) := by decide +kernel
theorem dX2_takeNumber_1 : decode cX2_takeNumber 1 = .ok (.invokevirtual 62, 3) := by decide +kernel
theorem dX2_takeNumber_4 : decode cX2_takeNumber 4 = .ok (.istore_n 2, 1) := by decide +kernel
theorem dX2_takeNumber_5 : decode cX2_takeNumber 5 = .ok (.iload_n 2, 1) := by decide +kernel
theorem dX2_takeNumber_6 : decode cX2_takeNumber 6 = .ok (.iconst (-1), 1) := by decide +kernel
theorem dX2_takeNumber_7 : decode cX2_takeNumber 7 = .ok (.if_icmp .ne 5, 3) := by decide +kernel
theorem dX2_takeNumber_10 : decode cX2_takeNumber 10 = .ok (.iconst (-1), 1) := by decide +kernel
theorem dX2_takeNumber_11 : decode cX2_takeNumber 11 = .ok (.ireturn, 1) := by decide +kernel
theorem dX2_takeNumber_12 : decode cX2_takeNumber 12 = .ok (.aload_n 0, 1) := by decide +kernel
theorem dX2_takeNumber_13 : decode cX2_takeNumber 13 = .ok (.dup, 1) := by decide +kernel
theorem dX2_takeNumber_14 : decode cX2_takeNumber 14 = .ok (.getfield 19, 3) := by decide +kernel
theorem dX2_takeNumber_17 : decode cX2_takeNumber 17 = .ok (.iconst 1, 1) := by decide +kernel
theorem dX2_takeNumber_18 : decode cX2_takeNumber 18 = .ok (.iadd, 1) := by decide +kernel
theorem dX2_takeNumber_19 : decode cX2_takeNumber 19 = .ok (.putfield 19, 3) := by decide +kernel
theorem dX2_takeNumber_22 : decode cX2_takeNumber 22 = .ok (.aload_n 0, 1) := by decide +kernel
theorem dX2_takeNumber_23 : decode cX2_takeNumber 23 = .ok (.invokevirtual 62, 3) := by decide +kernel
theorem dX2_takeNumber_26 : decode cX2_takeNumber 26 = .ok (.istore_n 3, 1) := by decide +kernel
theorem dX2_takeNumber_27 : decode cX2_takeNumber 27 = .ok (.iload_n 2, 1) := by decide +kernel
theorem dX2_takeNumber_28 : decode cX2_takeNumber 28 = .ok (.ifCond .eq 18, 3) := by decide +kernel
theorem dX2_takeNumber_31 : decode cX2_takeNumber 31 = .ok (.iload_n 3, 1) := by decide +kernel
theorem dX2_takeNumber_32 : decode cX2_takeNumber 32 = .ok (.iconst (-1), 1) := by decide +kernel
theorem dX2_takeNumber_33 : decode cX2_takeNumber 33 = .ok (.if_icmp .eq 13, 3) := by decide +kernel
theorem dX2_takeNumber_36 : decode cX2_takeNumber 36 = .ok (.iload_n 2, 1) := by decide +kernel
theorem dX2_takeNumber_37 : decode cX2_takeNumber 37 = .ok (.bipush 10, 2) := by decide +kernel
theorem dX2_takeNumber_39 : decode cX2_takeNumber 39 = .ok (.imul, 1) := by decide +kernel
theorem dX2_takeNumber_40 : decode cX2_takeNumber 40 = .ok (.iload_n 3, 1) := by decide +kernel
theorem dX2_takeNumber_41 : decode cX2_takeNumber 41 = .ok (.iadd, 1) := by decide +kernel
theorem dX2_takeNumber_42 : decode cX2_takeNumber 42 = .ok (.iload_n 1, 1) := by decide +kernel
theorem dX2_takeNumber_43 : decode cX2_takeNumber 43 = .ok (.if_icmp .le 5, 3) := by decide +kernel
theorem dX2_takeNumber_46 : decode cX2_takeNumber 46 = .ok (.iload_n 2, 1) := by decide +kernel
theorem dX2_takeNumber_47 : decode cX2_takeNumber 47 = .ok (.ireturn, 1) := by decide +kernel
theorem dX2_takeNumber_48 : decode cX2_takeNumber 48 = .ok (.aload_n 0, 1) := by decide +kernel
theorem dX2_takeNumber_49 : decode cX2_takeNumber 49 = .ok (.dup, 1) := by decide +kernel
theorem dX2_takeNumber_50 : decode cX2_takeNumber 50 = .ok (.getfield 19, 3) := by decide +kernel
theorem dX2_takeNumber_53 : decode cX2_takeNumber 53 = .ok (.iconst 1, 1) := by decide +kernel
theorem dX2_takeNumber_54 : decode cX2_takeNumber 54 = .ok (.iadd, 1) := by decide +kernel
theorem dX2_takeNumber_55 : decode cX2_takeNumber 55 = .ok (.putfield 19, 3) := by decide +kernel
theorem dX2_takeNumber_58 : decode cX2_takeNumber 58 = .ok (.iload_n 2, 1) := by decide +kernel
theorem dX2_takeNumber_59 : decode cX2_takeNumber 59 = .ok (.bipush 10, 2) := by decide +kernel
theorem dX2_takeNumber_61 : decode cX2_takeNumber 61 = .ok (.imul, 1) := by decide +kernel
theorem dX2_takeNumber_62 : decode cX2_takeNumber 62 = .ok (.iload_n 3, 1) := by decide +kernel
theorem dX2_takeNumber_63 : decode cX2_takeNumber 63 = .ok (.iadd, 1) := by decide +kernel
theorem dX2_takeNumber_64 : decode cX2_takeNumber 64 = .ok (.ireturn, 1) := by decide +kernel
theorem dX2_digitHere_0 : decode cX2_digitHere 0 = .ok (.aload_n 0, 1) := by decide +kernel
theorem dX2_digitHere_1 : decode cX2_digitHere 1 = .ok (.getfield 19, 3) := by decide +kernel
theorem dX2_digitHere_4 : decode cX2_digitHere 4 = .ok (.aload_n 0, 1) := by decide +kernel
theorem dX2_digitHere_5 : decode cX2_digitHere 5 = .ok (.getfield 15, 3) := by decide +kernel
theorem dX2_digitHere_8 : decode cX2_digitHere 8 = .ok (.if_icmp .lt 5, 3) := by decide +kernel
theorem dX2_digitHere_11 : decode cX2_digitHere 11 = .ok (.iconst (-1), 1) := by decide +kernel
theorem dX2_digitHere_12 : decode cX2_digitHere 12 = .ok (.ireturn, 1) := by decide +kernel
theorem dX2_digitHere_13 : decode cX2_digitHere 13 = .ok (.aload_n 0, 1) := by decide +kernel
theorem dX2_digitHere_14 : decode cX2_digitHere 14 = .ok (.getfield 11, 3) := by decide +kernel
theorem dX2_digitHere_17 : decode cX2_digitHere 17 = .ok (.aload_n 0, 1) := by decide +kernel
theorem dX2_digitHere_18 : decode cX2_digitHere 18 = .ok (.getfield 19, 3) := by decide +kernel
theorem dX2_digitHere_21 : decode cX2_digitHere 21 = .ok (.caload, 1) := by decide +kernel
theorem dX2_digitHere_22 : decode cX2_digitHere 22 = .ok (.istore_n 1, 1) := by decide +kernel
theorem dX2_digitHere_23 : decode cX2_digitHere 23 = .ok (.iload_n 1, 1) := by decide +kernel
theorem dX2_digitHere_24 : decode cX2_digitHere 24 = .ok (.bipush 48, 2) := by decide +kernel
theorem dX2_digitHere_26 : decode cX2_digitHere 26 = .ok (.if_icmp .lt 16, 3) := by decide +kernel
theorem dX2_digitHere_29 : decode cX2_digitHere 29 = .ok (.iload_n 1, 1) := by decide +kernel
theorem dX2_digitHere_30 : decode cX2_digitHere 30 = .ok (.bipush 57, 2) := by decide +kernel
theorem dX2_digitHere_32 : decode cX2_digitHere 32 = .ok (.if_icmp .gt 10, 3) := by decide +kernel
theorem dX2_digitHere_35 : decode cX2_digitHere 35 = .ok (.iload_n 1, 1) := by decide +kernel
theorem dX2_digitHere_36 : decode cX2_digitHere 36 = .ok (.bipush 48, 2) := by decide +kernel
theorem dX2_digitHere_38 : decode cX2_digitHere 38 = .ok (.isub, 1) := by decide +kernel
theorem dX2_digitHere_39 : decode cX2_digitHere 39 = .ok (.goto 4, 3) := by decide +kernel
theorem dX2_digitHere_42 : decode cX2_digitHere 42 = .ok (.iconst (-1), 1) := by decide +kernel
theorem dX2_digitHere_43 : decode cX2_digitHere 43 = .ok (.ireturn, 1) := by decide +kernel
set_option maxRecDepth 20000 in
theorem ggX3_init_X1_init : GoodIn wsX3_init wsX1_init := goodIn_r _ [20, 21, 2, 3, 22, 23, 24, 25, 26, 27, 28, 29, 30, 31, 32, 33, 52, 53, 54, 55, 56, 57, 58, 59, 60, 61, 62] (by decide +kernel) (by decide +kernel)
set_option maxRecDepth 20000 in
theorem gX3_init_X1_init_n9 : GoodIn wsX3_init (wsX1_init) := ggX3_init_X1_init
set_option maxRecDepth 20000 in
theorem ggX3_init_X0_init : GoodIn wsX3_init wsX0_init := goodIn_r _ [36, 37, 2, 3, 38, 39, 40, 5, 6, 19, 20, 21, 22, 23, 24, 25, 26, 27, 28, 29, 30, 31, 32, 33, 69, 70, 52, 53, 54, 55, 56, 57, 58, 59, 60, 61, 62] (by decide +kernel) (by decide +kernel)
set_option maxRecDepth 20000 in
theorem gX3_init_X0_init : GoodIn wsX3_init (wsX0_init) := ggX3_init_X0_init
set_option maxRecDepth 20000 in
theorem ggX3_init_X2_init : GoodIn wsX3_init wsX2_init := goodIn_r _ [42, 43, 2, 3, 44, 45, 46, 47, 48, 49, 50, 51, 71, 72, 73, 74, 75, 76, 77] (by decide +kernel) (by decide +kernel)
set_option maxRecDepth 20000 in
theorem gX3_init_X2_init_n35 : GoodIn wsX3_init (wsX2_init) := ggX3_init_X2_init
theorem dX3_init_0 : decode cX3_init 0 = .ok (.aload_n 0, 1) := by decide +kernel
theorem dX3_init_1 : decode cX3_init 1 = .ok (.invokespecial 1, 3) := by decide +kernel
theorem dX3_init_4 : decode cX3_init 4 = .ok (.aload_n 0, 1) := by decide +kernel
theorem dX3_init_5 : decode cX3_init 5 = .ok (.new 7, 3) := by decide +kernel
theorem dX3_init_8 : decode cX3_init 8 = .ok (.dup, 1) := by decide +kernel
theorem dX3_init_9 : decode cX3_init 9 = .ok (.invokespecial 9, 3) := by decide +kernel
theorem dX3_init_12 : decode cX3_init 12 = .ok (.putfield 10, 3) := by decide +kernel
theorem dX3_init_15 : decode cX3_init 15 = .ok (.aload_n 0, 1) := by decide +kernel
theorem dX3_init_16 : decode cX3_init 16 = .ok (.new 7, 3) := by decide +kernel
theorem dX3_init_19 : decode cX3_init 19 = .ok (.dup, 1) := by decide +kernel
theorem dX3_init_20 : decode cX3_init 20 = .ok (.invokespecial 9, 3) := by decide +kernel
theorem dX3_init_23 : decode cX3_init 23 = .ok (.putfield 16, 3) := by decide +kernel
theorem dX3_init_26 : decode cX3_init 26 = .ok (.aload_n 0, 1) := by decide +kernel
theorem dX3_init_27 : decode cX3_init 27 = .ok (.new 7, 3) := by decide +kernel
theorem dX3_init_30 : decode cX3_init 30 = .ok (.dup, 1) := by decide +kernel
theorem dX3_init_31 : decode cX3_init 31 = .ok (.invokespecial 9, 3) := by decide +kernel
theorem dX3_init_34 : decode cX3_init 34 = .ok (.putfield 19, 3) := by decide +kernel
theorem dX3_init_37 : decode cX3_init 37 = .ok (.aload_n 0, 1) := by decide +kernel
theorem dX3_init_38 : decode cX3_init 38 = .ok (.iconst 0, 1) := by decide +kernel
theorem dX3_init_39 : decode cX3_init 39 = .ok (.putfield 22, 3) := by decide +kernel
theorem dX3_init_42 : decode cX3_init 42 = .ok (.aload_n 0, 1) := by decide +kernel
theorem dX3_init_43 : decode cX3_init 43 = .ok (.new 26, 3) := by decide +kernel
theorem dX3_init_46 : decode cX3_init 46 = .ok (.dup, 1) := by decide +kernel
theorem dX3_init_47 : decode cX3_init 47 = .ok (.invokespecial 28, 3) := by decide +kernel
theorem dX3_init_50 : decode cX3_init 50 = .ok (.putfield 29, 3) := by decide +kernel
theorem dX3_init_53 : decode cX3_init 53 = .ok (.aload_n 0, 1) := by decide +kernel
theorem dX3_init_54 : decode cX3_init 54 = .ok (.new 33, 3) := by decide +kernel
theorem dX3_init_57 : decode cX3_init 57 = .ok (.dup, 1) := by decide +kernel
theorem dX3_init_58 : decode cX3_init 58 = .ok (.invokespecial 35, 3) := by decide +kernel
theorem dX3_init_61 : decode cX3_init 61 = .ok (.putfield 36, 3) := by decide +kernel
theorem dX3_init_64 : decode cX3_init 64 = .ok (.return_, 1) := by decide +kernel
set_option maxRecDepth 20000 in
theorem ggX3_come_X1_copyFrom : GoodIn wsX3_come wsX1_copyFrom := goodIn_r _ [7, 8, 9, 10, 11, 12, 13, 14, 15, 16, 17, 18, 19, 20, 21, 22, 66, 67, 68, 69, 70, 71, 72, 73, 74, 75, 76] (by decide +kernel) (by decide +kernel)
set_option maxRecDepth 20000 in
theorem gX3_come_X1_copyFrom : GoodIn wsX3_come (wsV RX3 40 RX1 yX1_copyFrom wsX1_copyFrom) := goodIn_app (goodIn_of _ (by decide +kernel)) ggX3_come_X1_copyFrom
set_option maxRecDepth 20000 in
theorem ggX3_come_X1_admit : GoodIn wsX3_come wsX1_admit := goodIn_r _ [26, 18, 13, 14, 15, 17, 16, 22, 27, 28, 29, 6, 30, 31, 32, 33, 34, 35, 36, 37, 38, 39, 40, 41, 8, 66, 67, 68, 69, 70, 71, 72, 73, 74, 75, 76] (by decide +kernel) (by decide +kernel)
set_option maxRecDepth 20000 in
theorem gX3_come_X1_admit : GoodIn wsX3_come (wsV RX3 44 RX1 yX1_admit wsX1_admit) := goodIn_app (goodIn_of _ (by decide +kernel)) ggX3_come_X1_admit
set_option maxRecDepth 20000 in
theorem ggX3_come_X3_recorded : GoodIn wsX3_come wsX3_recorded := goodIn_r _ [46, 47, 1, 48, 49, 50, 51, 52, 53, 54, 55, 56, 57, 58, 59, 4, 5, 6, 7, 8, 9, 10, 11, 12, 13, 14, 15, 16, 17, 18, 19, 20, 21, 22, 60, 61, 62, 63, 64, 65, 77, 78, 66, 67, 68, 69, 70, 71, 72, 73, 74, 75, 76] (by decide +kernel) (by decide +kernel)
set_option maxRecDepth 20000 in
theorem gX3_come_X3_recorded : GoodIn wsX3_come (wsV RX3 48 RX3 yX3_recorded wsX3_recorded) := goodIn_app (goodIn_of _ (by decide +kernel)) ggX3_come_X3_recorded
theorem dX3_come_0 : decode cX3_come 0 = .ok (.aload_n 0, 1) := by decide +kernel
theorem dX3_come_1 : decode cX3_come 1 = .ok (.getfield 16, 3) := by decide +kernel
theorem dX3_come_4 : decode cX3_come 4 = .ok (.aload_n 0, 1) := by decide +kernel
theorem dX3_come_5 : decode cX3_come 5 = .ok (.getfield 10, 3) := by decide +kernel
theorem dX3_come_8 : decode cX3_come 8 = .ok (.invokevirtual 40, 3) := by decide +kernel
theorem dX3_come_11 : decode cX3_come 11 = .ok (.aload_n 0, 1) := by decide +kernel
theorem dX3_come_12 : decode cX3_come 12 = .ok (.aload_n 0, 1) := by decide +kernel
theorem dX3_come_13 : decode cX3_come 13 = .ok (.getfield 10, 3) := by decide +kernel
theorem dX3_come_16 : decode cX3_come 16 = .ok (.iload_n 1, 1) := by decide +kernel
theorem dX3_come_17 : decode cX3_come 17 = .ok (.iload_n 2, 1) := by decide +kernel
theorem dX3_come_18 : decode cX3_come 18 = .ok (.iload_n 3, 1) := by decide +kernel
theorem dX3_come_19 : decode cX3_come 19 = .ok (.invokevirtual 44, 3) := by decide +kernel
theorem dX3_come_22 : decode cX3_come 22 = .ok (.invokevirtual 48, 3) := by decide +kernel
theorem dX3_come_25 : decode cX3_come 25 = .ok (.ireturn, 1) := by decide +kernel
set_option maxRecDepth 20000 in
theorem ggX3_alter_X1_copyFrom : GoodIn wsX3_alter wsX1_copyFrom := goodIn_r _ [7, 8, 9, 10, 11, 12, 13, 14, 15, 16, 17, 18, 19, 20, 21, 22, 64, 65, 66, 67, 68, 69, 70, 71, 72, 73, 74] (by decide +kernel) (by decide +kernel)
set_option maxRecDepth 20000 in
theorem gX3_alter_X1_copyFrom : GoodIn wsX3_alter (wsV RX3 40 RX1 yX1_copyFrom wsX1_copyFrom) := goodIn_app (goodIn_of _ (by decide +kernel)) ggX3_alter_X1_copyFrom
set_option maxRecDepth 20000 in
theorem ggX3_alter_X1_changeClaim : GoodIn wsX3_alter wsX1_changeClaim := goodIn_r _ [26, 19, 13, 27, 28, 29, 6, 30, 18, 31, 32, 33, 34, 35, 36, 37, 38, 39, 64, 65, 66, 67, 68, 69, 70, 71, 72, 73, 74] (by decide +kernel) (by decide +kernel)
set_option maxRecDepth 20000 in
theorem gX3_alter_X1_changeClaim : GoodIn wsX3_alter (wsV RX3 52 RX1 yX1_changeClaim wsX1_changeClaim) := goodIn_app (goodIn_of _ (by decide +kernel)) ggX3_alter_X1_changeClaim
set_option maxRecDepth 20000 in
theorem ggX3_alter_X3_recorded : GoodIn wsX3_alter wsX3_recorded := goodIn_r _ [44, 45, 1, 46, 47, 48, 49, 50, 51, 52, 53, 54, 55, 56, 57, 4, 5, 6, 7, 8, 9, 10, 11, 12, 13, 14, 15, 16, 17, 18, 19, 20, 21, 22, 58, 59, 60, 61, 62, 63, 75, 76, 64, 65, 66, 67, 68, 69, 70, 71, 72, 73, 74] (by decide +kernel) (by decide +kernel)
set_option maxRecDepth 20000 in
theorem gX3_alter_X3_recorded : GoodIn wsX3_alter (wsV RX3 48 RX3 yX3_recorded wsX3_recorded) := goodIn_app (goodIn_of _ (by decide +kernel)) ggX3_alter_X3_recorded
theorem dX3_alter_0 : decode cX3_alter 0 = .ok (.aload_n 0, 1) := by decide +kernel
theorem dX3_alter_1 : decode cX3_alter 1 = .ok (.getfield 16, 3) := by decide +kernel
theorem dX3_alter_4 : decode cX3_alter 4 = .ok (.aload_n 0, 1) := by decide +kernel
theorem dX3_alter_5 : decode cX3_alter 5 = .ok (.getfield 10, 3) := by decide +kernel
theorem dX3_alter_8 : decode cX3_alter 8 = .ok (.invokevirtual 40, 3) := by decide +kernel
theorem dX3_alter_11 : decode cX3_alter 11 = .ok (.aload_n 0, 1) := by decide +kernel
theorem dX3_alter_12 : decode cX3_alter 12 = .ok (.aload_n 0, 1) := by decide +kernel
theorem dX3_alter_13 : decode cX3_alter 13 = .ok (.getfield 10, 3) := by decide +kernel
theorem dX3_alter_16 : decode cX3_alter 16 = .ok (.iload_n 1, 1) := by decide +kernel
theorem dX3_alter_17 : decode cX3_alter 17 = .ok (.iload_n 2, 1) := by decide +kernel
theorem dX3_alter_18 : decode cX3_alter 18 = .ok (.invokevirtual 52, 3) := by decide +kernel
theorem dX3_alter_21 : decode cX3_alter 21 = .ok (.invokevirtual 48, 3) := by decide +kernel
theorem dX3_alter_24 : decode cX3_alter 24 = .ok (.ireturn, 1) := by decide +kernel
set_option maxRecDepth 20000 in
theorem ggX3_reseal_X1_copyFrom : GoodIn wsX3_reseal wsX1_copyFrom := goodIn_r _ [7, 8, 9, 10, 11, 12, 13, 14, 15, 16, 17, 18, 19, 20, 21, 22, 67, 68, 69, 70, 71, 72, 73, 74, 75, 76, 77] (by decide +kernel) (by decide +kernel)
set_option maxRecDepth 20000 in
theorem gX3_reseal_X1_copyFrom : GoodIn wsX3_reseal (wsV RX3 40 RX1 yX1_copyFrom wsX1_copyFrom) := goodIn_app (goodIn_of _ (by decide +kernel)) ggX3_reseal_X1_copyFrom
set_option maxRecDepth 20000 in
theorem ggX3_reseal_X1_mendSeal : GoodIn wsX3_reseal wsX1_mendSeal := goodIn_r _ [26, 16, 27, 28, 29, 6, 30, 18, 31, 32, 33, 34, 13, 35, 36, 37, 38, 8, 15, 39, 40, 41, 42, 67, 68, 69, 70, 71, 72, 73, 74, 75, 76, 77] (by decide +kernel) (by decide +kernel)
set_option maxRecDepth 20000 in
theorem gX3_reseal_X1_mendSeal : GoodIn wsX3_reseal (wsV RX3 56 RX1 yX1_mendSeal wsX1_mendSeal) := goodIn_app (goodIn_of _ (by decide +kernel)) ggX3_reseal_X1_mendSeal
set_option maxRecDepth 20000 in
theorem ggX3_reseal_X3_recorded : GoodIn wsX3_reseal wsX3_recorded := goodIn_r _ [47, 48, 1, 49, 50, 51, 52, 53, 54, 55, 56, 57, 58, 59, 60, 4, 5, 6, 7, 8, 9, 10, 11, 12, 13, 14, 15, 16, 17, 18, 19, 20, 21, 22, 61, 62, 63, 64, 65, 66, 78, 79, 67, 68, 69, 70, 71, 72, 73, 74, 75, 76, 77] (by decide +kernel) (by decide +kernel)
set_option maxRecDepth 20000 in
theorem gX3_reseal_X3_recorded : GoodIn wsX3_reseal (wsV RX3 48 RX3 yX3_recorded wsX3_recorded) := goodIn_app (goodIn_of _ (by decide +kernel)) ggX3_reseal_X3_recorded
theorem dX3_reseal_0 : decode cX3_reseal 0 = .ok (.aload_n 0, 1) := by decide +kernel
theorem dX3_reseal_1 : decode cX3_reseal 1 = .ok (.getfield 16, 3) := by decide +kernel
theorem dX3_reseal_4 : decode cX3_reseal 4 = .ok (.aload_n 0, 1) := by decide +kernel
theorem dX3_reseal_5 : decode cX3_reseal 5 = .ok (.getfield 10, 3) := by decide +kernel
theorem dX3_reseal_8 : decode cX3_reseal 8 = .ok (.invokevirtual 40, 3) := by decide +kernel
theorem dX3_reseal_11 : decode cX3_reseal 11 = .ok (.aload_n 0, 1) := by decide +kernel
theorem dX3_reseal_12 : decode cX3_reseal 12 = .ok (.aload_n 0, 1) := by decide +kernel
theorem dX3_reseal_13 : decode cX3_reseal 13 = .ok (.getfield 10, 3) := by decide +kernel
theorem dX3_reseal_16 : decode cX3_reseal 16 = .ok (.iload_n 1, 1) := by decide +kernel
theorem dX3_reseal_17 : decode cX3_reseal 17 = .ok (.invokevirtual 56, 3) := by decide +kernel
theorem dX3_reseal_20 : decode cX3_reseal 20 = .ok (.invokevirtual 48, 3) := by decide +kernel
theorem dX3_reseal_23 : decode cX3_reseal 23 = .ok (.ireturn, 1) := by decide +kernel
set_option maxRecDepth 20000 in
theorem ggX3_open_X1_copyFrom : GoodIn wsX3_open wsX1_copyFrom := goodIn_r _ [7, 8, 9, 10, 11, 12, 13, 14, 15, 16, 17, 18, 19, 20, 21, 22, 104, 105, 106, 107, 108, 109, 110, 111, 112, 113, 114] (by decide +kernel) (by decide +kernel)
set_option maxRecDepth 20000 in
theorem gX3_open_X1_copyFrom : GoodIn wsX3_open (wsV RX3 40 RX1 yX1_copyFrom wsX1_copyFrom) := goodIn_app (goodIn_of _ (by decide +kernel)) ggX3_open_X1_copyFrom
set_option maxRecDepth 20000 in
theorem ggX3_open_X1_inspect : GoodIn wsX3_open wsX1_inspect := goodIn_r _ [26, 19, 17, 14, 21, 27, 28, 29, 6, 30, 18, 31, 32, 33, 34, 35, 36, 37, 38, 39, 40, 8, 13, 41, 42, 43, 44, 45, 46, 47, 48, 16, 49, 50, 51, 52, 15, 53, 54, 55, 56, 57, 58, 59, 60, 20, 61, 62, 63, 64, 65, 66, 67, 68, 69, 70, 71, 72, 73, 74, 75, 76, 77, 78, 79, 104, 105, 106, 107, 108, 109, 110, 111, 112, 113, 114] (by decide +kernel) (by decide +kernel)
set_option maxRecDepth 20000 in
theorem gX3_open_X1_inspect : GoodIn wsX3_open (wsV RX3 59 RX1 yX1_inspect wsX1_inspect) := goodIn_app (goodIn_of _ (by decide +kernel)) ggX3_open_X1_inspect
set_option maxRecDepth 20000 in
theorem ggX3_open_X3_recorded : GoodIn wsX3_open wsX3_recorded := goodIn_r _ [84, 85, 1, 86, 87, 88, 89, 90, 91, 92, 93, 94, 95, 96, 97, 4, 5, 6, 7, 8, 9, 10, 11, 12, 13, 14, 15, 16, 17, 18, 19, 20, 21, 22, 98, 99, 100, 101, 102, 103, 115, 116, 104, 105, 106, 107, 108, 109, 110, 111, 112, 113, 114] (by decide +kernel) (by decide +kernel)
set_option maxRecDepth 20000 in
theorem gX3_open_X3_recorded : GoodIn wsX3_open (wsV RX3 48 RX3 yX3_recorded wsX3_recorded) := goodIn_app (goodIn_of _ (by decide +kernel)) ggX3_open_X3_recorded
theorem dX3_open_0 : decode cX3_open 0 = .ok (.aload_n 0, 1) := by decide +kernel
theorem dX3_open_1 : decode cX3_open 1 = .ok (.getfield 16, 3) := by decide +kernel
theorem dX3_open_4 : decode cX3_open 4 = .ok (.aload_n 0, 1) := by decide +kernel
theorem dX3_open_5 : decode cX3_open 5 = .ok (.getfield 10, 3) := by decide +kernel
theorem dX3_open_8 : decode cX3_open 8 = .ok (.invokevirtual 40, 3) := by decide +kernel
theorem dX3_open_11 : decode cX3_open 11 = .ok (.aload_n 0, 1) := by decide +kernel
theorem dX3_open_12 : decode cX3_open 12 = .ok (.aload_n 0, 1) := by decide +kernel
theorem dX3_open_13 : decode cX3_open 13 = .ok (.getfield 10, 3) := by decide +kernel
theorem dX3_open_16 : decode cX3_open 16 = .ok (.iload_n 1, 1) := by decide +kernel
theorem dX3_open_17 : decode cX3_open 17 = .ok (.invokevirtual 59, 3) := by decide +kernel
theorem dX3_open_20 : decode cX3_open 20 = .ok (.invokevirtual 48, 3) := by decide +kernel
theorem dX3_open_23 : decode cX3_open 23 = .ok (.ireturn, 1) := by decide +kernel
set_option maxRecDepth 20000 in
theorem ggX3_openAll_X1_copyFrom : GoodIn wsX3_openAll wsX1_copyFrom := goodIn_r _ [7, 8, 9, 10, 11, 12, 13, 14, 15, 16, 17, 18, 19, 20, 21, 22, 116, 117, 118, 119, 120, 121, 122, 123, 124, 125, 126] (by decide +kernel) (by decide +kernel)
set_option maxRecDepth 20000 in
theorem gX3_openAll_X1_copyFrom : GoodIn wsX3_openAll (wsV RX3 40 RX1 yX1_copyFrom wsX1_copyFrom) := goodIn_app (goodIn_of _ (by decide +kernel)) ggX3_openAll_X1_copyFrom
set_option maxRecDepth 20000 in
theorem ggX3_openAll_X1_inspectAll : GoodIn wsX3_openAll wsX1_inspectAll := goodIn_r _ [26, 18, 27, 28, 29, 6, 30, 21, 19, 31, 32, 33, 34, 35, 36, 37, 38, 39, 40, 41, 42, 43, 44, 17, 14, 45, 46, 47, 48, 49, 50, 51, 52, 8, 13, 53, 54, 55, 56, 57, 58, 59, 60, 16, 61, 62, 63, 64, 15, 65, 66, 67, 68, 69, 70, 71, 72, 20, 73, 74, 75, 76, 77, 78, 79, 80, 81, 82, 83, 84, 85, 86, 87, 88, 89, 90, 91, 116, 117, 118, 119, 120, 121, 122, 123, 124, 125, 126] (by decide +kernel) (by decide +kernel)
set_option maxRecDepth 20000 in
theorem gX3_openAll_X1_inspectAll : GoodIn wsX3_openAll (wsV RX3 62 RX1 yX1_inspectAll wsX1_inspectAll) := goodIn_app (goodIn_of _ (by decide +kernel)) ggX3_openAll_X1_inspectAll
set_option maxRecDepth 20000 in
theorem ggX3_openAll_X3_recorded : GoodIn wsX3_openAll wsX3_recorded := goodIn_r _ [96, 97, 1, 98, 99, 100, 101, 102, 103, 104, 105, 106, 107, 108, 109, 4, 5, 6, 7, 8, 9, 10, 11, 12, 13, 14, 15, 16, 17, 18, 19, 20, 21, 22, 110, 111, 112, 113, 114, 115, 127, 128, 116, 117, 118, 119, 120, 121, 122, 123, 124, 125, 126] (by decide +kernel) (by decide +kernel)
set_option maxRecDepth 20000 in
theorem gX3_openAll_X3_recorded : GoodIn wsX3_openAll (wsV RX3 48 RX3 yX3_recorded wsX3_recorded) := goodIn_app (goodIn_of _ (by decide +kernel)) ggX3_openAll_X3_recorded
theorem dX3_openAll_0 : decode cX3_openAll 0 = .ok (.aload_n 0, 1) := by decide +kernel
theorem dX3_openAll_1 : decode cX3_openAll 1 = .ok (.getfield 16, 3) := by decide +kernel
theorem dX3_openAll_4 : decode cX3_openAll 4 = .ok (.aload_n 0, 1) := by decide +kernel
theorem dX3_openAll_5 : decode cX3_openAll 5 = .ok (.getfield 10, 3) := by decide +kernel
theorem dX3_openAll_8 : decode cX3_openAll 8 = .ok (.invokevirtual 40, 3) := by decide +kernel
theorem dX3_openAll_11 : decode cX3_openAll 11 = .ok (.aload_n 0, 1) := by decide +kernel
theorem dX3_openAll_12 : decode cX3_openAll 12 = .ok (.aload_n 0, 1) := by decide +kernel
theorem dX3_openAll_13 : decode cX3_openAll 13 = .ok (.getfield 10, 3) := by decide +kernel
theorem dX3_openAll_16 : decode cX3_openAll 16 = .ok (.invokevirtual 62, 3) := by decide +kernel
theorem dX3_openAll_19 : decode cX3_openAll 19 = .ok (.invokevirtual 48, 3) := by decide +kernel
theorem dX3_openAll_22 : decode cX3_openAll 22 = .ok (.ireturn, 1) := by decide +kernel
set_option maxRecDepth 20000 in
theorem ggX3_set_X1_copyFrom : GoodIn wsX3_set wsX1_copyFrom := goodIn_r _ [7, 8, 9, 10, 11, 12, 13, 14, 15, 16, 17, 18, 19, 20, 21, 22, 53, 54, 55, 56, 57, 58, 59, 60, 61, 62, 63] (by decide +kernel) (by decide +kernel)
set_option maxRecDepth 20000 in
theorem gX3_set_X1_copyFrom : GoodIn wsX3_set (wsV RX3 40 RX1 yX1_copyFrom wsX1_copyFrom) := goodIn_app (goodIn_of _ (by decide +kernel)) ggX3_set_X1_copyFrom
set_option maxRecDepth 20000 in
theorem ggX3_set_X1_changeSetting : GoodIn wsX3_set wsX1_changeSetting := goodIn_r _ [26, 27, 28, 8, 53, 54, 55, 56, 57, 58, 59, 60, 61, 62, 63] (by decide +kernel) (by decide +kernel)
set_option maxRecDepth 20000 in
theorem gX3_set_X1_changeSetting : GoodIn wsX3_set (wsV RX3 66 RX1 yX1_changeSetting wsX1_changeSetting) := goodIn_app (goodIn_of _ (by decide +kernel)) ggX3_set_X1_changeSetting
set_option maxRecDepth 20000 in
theorem ggX3_set_X3_recorded : GoodIn wsX3_set wsX3_recorded := goodIn_r _ [33, 34, 1, 35, 36, 37, 38, 39, 40, 41, 42, 43, 44, 45, 46, 4, 5, 6, 7, 8, 9, 10, 11, 12, 13, 14, 15, 16, 17, 18, 19, 20, 21, 22, 47, 48, 49, 50, 51, 52, 64, 65, 53, 54, 55, 56, 57, 58, 59, 60, 61, 62, 63] (by decide +kernel) (by decide +kernel)
set_option maxRecDepth 20000 in
theorem gX3_set_X3_recorded : GoodIn wsX3_set (wsV RX3 48 RX3 yX3_recorded wsX3_recorded) := goodIn_app (goodIn_of _ (by decide +kernel)) ggX3_set_X3_recorded
theorem dX3_set_0 : decode cX3_set 0 = .ok (.aload_n 0, 1) := by decide +kernel
theorem dX3_set_1 : decode cX3_set 1 = .ok (.getfield 16, 3) := by decide +kernel
theorem dX3_set_4 : decode cX3_set 4 = .ok (.aload_n 0, 1) := by decide +kernel
theorem dX3_set_5 : decode cX3_set 5 = .ok (.getfield 10, 3) := by decide +kernel
theorem dX3_set_8 : decode cX3_set 8 = .ok (.invokevirtual 40, 3) := by decide +kernel
theorem dX3_set_11 : decode cX3_set 11 = .ok (.aload_n 0, 1) := by decide +kernel
theorem dX3_set_12 : decode cX3_set 12 = .ok (.aload_n 0, 1) := by decide +kernel
theorem dX3_set_13 : decode cX3_set 13 = .ok (.getfield 10, 3) := by decide +kernel
theorem dX3_set_16 : decode cX3_set 16 = .ok (.iload_n 1, 1) := by decide +kernel
theorem dX3_set_17 : decode cX3_set 17 = .ok (.iload_n 2, 1) := by decide +kernel
theorem dX3_set_18 : decode cX3_set 18 = .ok (.invokevirtual 66, 3) := by decide +kernel
theorem dX3_set_21 : decode cX3_set 21 = .ok (.invokevirtual 48, 3) := by decide +kernel
theorem dX3_set_24 : decode cX3_set 24 = .ok (.ireturn, 1) := by decide +kernel
set_option maxRecDepth 20000 in
theorem ggX3_type_X2_append : GoodIn wsX3_type wsX2_append := goodIn_r _ [6, 7, 8, 15, 16, 17, 18, 19, 20, 21] (by decide +kernel) (by decide +kernel)
set_option maxRecDepth 20000 in
theorem gX3_type_X2_append : GoodIn wsX3_type (wsV RX3 69 RX2 yX2_append wsX2_append) := goodIn_app (goodIn_of _ (by decide +kernel)) ggX3_type_X2_append
theorem dX3_type_0 : decode cX3_type 0 = .ok (.aload_n 0, 1) := by decide +kernel
theorem dX3_type_1 : decode cX3_type 1 = .ok (.getfield 36, 3) := by decide +kernel
theorem dX3_type_4 : decode cX3_type 4 = .ok (.iload_n 1, 1) := by decide +kernel
theorem dX3_type_5 : decode cX3_type 5 = .ok (.invokevirtual 69, 3) := by decide +kernel
theorem dX3_type_8 : decode cX3_type 8 = .ok (.ireturn, 1) := by decide +kernel
set_option maxRecDepth 20000 in
theorem ggX3_clearText_X2_empty : GoodIn wsX3_clearText wsX2_empty := goodIn_r _ [6, 7, 14, 15, 16, 17, 18, 19, 20] (by decide +kernel) (by decide +kernel)
set_option maxRecDepth 20000 in
theorem gX3_clearText_X2_empty : GoodIn wsX3_clearText (wsV RX3 73 RX2 yX2_empty wsX2_empty) := goodIn_app (goodIn_of _ (by decide +kernel)) ggX3_clearText_X2_empty
theorem dX3_clearText_0 : decode cX3_clearText 0 = .ok (.aload_n 0, 1) := by decide +kernel
theorem dX3_clearText_1 : decode cX3_clearText 1 = .ok (.getfield 36, 3) := by decide +kernel
theorem dX3_clearText_4 : decode cX3_clearText 4 = .ok (.invokevirtual 73, 3) := by decide +kernel
theorem dX3_clearText_7 : decode cX3_clearText 7 = .ok (.ireturn, 1) := by decide +kernel
set_option maxRecDepth 20000 in
theorem ggX3_perform_X2_countOrders : GoodIn wsX3_perform wsX2_countOrders := goodIn_r _ [8, 9, 10, 11, 12, 13, 7, 14, 15, 16, 17, 18, 19, 20, 21, 22, 23, 24, 25, 26, 27, 28, 29, 30, 31, 32, 33, 34, 35, 36, 37, 38, 39, 40, 41, 42, 43, 44, 45, 46, 47, 48, 49, 50, 51, 204, 205, 206, 207, 208, 209, 210] (by decide +kernel) (by decide +kernel)
set_option maxRecDepth 20000 in
theorem gX3_perform_X2_countOrders : GoodIn wsX3_perform (wsV RX3 76 RX2 yX2_countOrders wsX2_countOrders) := goodIn_app (goodIn_of _ (by decide +kernel)) ggX3_perform_X2_countOrders
set_option maxRecDepth 20000 in
theorem ggX3_perform_X2_reached : GoodIn wsX3_perform wsX2_reached := goodIn_r _ [55, 9, 204, 205, 206, 207, 208, 209, 210] (by decide +kernel) (by decide +kernel)
set_option maxRecDepth 20000 in
theorem gX3_perform_X2_reached : GoodIn wsX3_perform (wsV RX3 79 RX2 yX2_reached wsX2_reached) := goodIn_app (goodIn_of _ (by decide +kernel)) ggX3_perform_X2_reached
set_option maxRecDepth 20000 in
theorem ggX3_perform_X1_copyFrom : GoodIn wsX3_perform wsX1_copyFrom := goodIn_r _ [60, 61, 62, 63, 64, 65, 66, 67, 68, 69, 70, 71, 72, 73, 74, 75, 211, 212, 213, 214, 215, 216, 217, 218, 219, 220, 221] (by decide +kernel) (by decide +kernel)
set_option maxRecDepth 20000 in
theorem gX3_perform_X1_copyFrom : GoodIn wsX3_perform (wsV RX3 40 RX1 yX1_copyFrom wsX1_copyFrom) := goodIn_app (goodIn_of _ (by decide +kernel)) ggX3_perform_X1_copyFrom
set_option maxRecDepth 20000 in
theorem ggX3_perform_X2_rewind : GoodIn wsX3_perform wsX2_rewind := goodIn_r _ [14, 9, 204, 205, 206, 207, 208, 209, 210] (by decide +kernel) (by decide +kernel)
set_option maxRecDepth 20000 in
theorem gX3_perform_X2_rewind : GoodIn wsX3_perform (wsV RX3 82 RX2 yX2_rewind wsX2_rewind) := goodIn_app (goodIn_of _ (by decide +kernel)) ggX3_perform_X2_rewind
set_option maxRecDepth 20000 in
theorem ggX3_perform_X2_nextOrder : GoodIn wsX3_perform wsX2_nextOrder := goodIn_r _ [80, 25, 26, 27, 7, 28, 9, 10, 29, 15, 16, 17, 18, 19, 20, 21, 22, 23, 24, 30, 31, 32, 33, 34, 35, 36, 37, 38, 39, 40, 41, 42, 43, 44, 45, 46, 47, 48, 49, 50, 51, 204, 205, 206, 207, 208, 209, 210] (by decide +kernel) (by decide +kernel)
set_option maxRecDepth 20000 in
theorem gX3_perform_X2_nextOrder : GoodIn wsX3_perform (wsV RX3 85 RX2 yX2_nextOrder wsX2_nextOrder) := goodIn_app (goodIn_of _ (by decide +kernel)) ggX3_perform_X2_nextOrder
set_option maxRecDepth 20000 in
theorem ggX3_perform_X3_carryOutOrder : GoodIn wsX3_perform wsX3_carryOutOrder := goodIn_r _ [85, 1, 3, 86, 87, 88, 7, 89, 24, 90, 91, 92, 93, 34, 94, 95, 96, 97, 47, 98, 99, 100, 101, 19, 102, 103, 104, 59, 105, 71, 66, 67, 68, 70, 69, 75, 106, 107, 108, 109, 110, 111, 112, 113, 114, 115, 116, 117, 118, 119, 120, 61, 121, 122, 123, 124, 72, 74, 125, 126, 127, 128, 129, 130, 131, 132, 133, 134, 135, 136, 137, 138, 139, 140, 141, 142, 143, 144, 145, 146, 147, 148, 149, 150, 73, 151, 152, 153, 154, 155, 156, 157, 158, 159, 160, 161, 162, 163, 164, 165, 166, 167, 168, 169, 170, 171, 172, 173, 174, 175, 176, 177, 198, 199, 200, 201, 202, 203, 204, 205, 206, 207, 208, 209, 210, 211, 212, 213, 214, 215, 216, 217, 218, 219, 220, 221] (by decide +kernel) (by decide +kernel)
set_option maxRecDepth 20000 in
theorem gX3_perform_X3_carryOutOrder : GoodIn wsX3_perform (wsV RX3 88 RX3 yX3_carryOutOrder wsX3_carryOutOrder) := goodIn_app (goodIn_of _ (by decide +kernel)) ggX3_perform_X3_carryOutOrder
set_option maxRecDepth 20000 in
theorem ggX3_perform_X3_isError : GoodIn wsX3_perform wsX3_isError := goodIn_r _ [180] (by decide +kernel) (by decide +kernel)
set_option maxRecDepth 20000 in
theorem gX3_perform_X3_isError : GoodIn wsX3_perform (va_wsS RX3 91 yX3_isError wsX3_isError) := goodIn_app (goodIn_of _ (by decide +kernel)) ggX3_perform_X3_isError
set_option maxRecDepth 20000 in
theorem ggX3_perform_X3_recorded : GoodIn wsX3_perform wsX3_recorded := goodIn_r _ [184, 185, 2, 186, 187, 188, 189, 190, 191, 192, 193, 194, 195, 196, 197, 57, 58, 59, 60, 61, 62, 63, 64, 65, 66, 67, 68, 69, 70, 71, 72, 73, 74, 75, 198, 199, 200, 201, 202, 203, 222, 223, 211, 212, 213, 214, 215, 216, 217, 218, 219, 220, 221] (by decide +kernel) (by decide +kernel)
set_option maxRecDepth 20000 in
theorem gX3_perform_X3_recorded : GoodIn wsX3_perform (wsV RX3 48 RX3 yX3_recorded wsX3_recorded) := goodIn_app (goodIn_of _ (by decide +kernel)) ggX3_perform_X3_recorded
theorem dX3_perform_0 : decode cX3_perform 0 = .ok (.aload_n 0, 1) := by decide +kernel
theorem dX3_perform_1 : decode cX3_perform 1 = .ok (.getfield 36, 3) := by decide +kernel
theorem dX3_perform_4 : decode cX3_perform 4 = .ok (.invokevirtual 76, 3) := by decide +kernel
theorem dX3_perform_7 : decode cX3_perform 7 = .ok (.istore_n 1, 1) := by decide +kernel
theorem dX3_perform_8 : decode cX3_perform 8 = .ok (.iload_n 1, 1) := by decide +kernel
theorem dX3_perform_9 : decode cX3_perform 9 = .ok (.iconst (-1), 1) := by decide +kernel
theorem dX3_perform_10 : decode cX3_perform 10 = .ok (.if_icmp .ne 14, 3) := by decide +kernel
theorem dX3_perform_13 : decode cX3_perform 13 = .ok (.bipush (-100), 2) := by decide +kernel
theorem dX3_perform_15 : decode cX3_perform 15 = .ok (.aload_n 0, 1) := by decide +kernel
theorem dX3_perform_16 : decode cX3_perform 16 = .ok (.getfield 36, 3) := by decide +kernel
theorem dX3_perform_19 : decode cX3_perform 19 = .ok (.invokevirtual 79, 3) := by decide +kernel
theorem dX3_perform_22 : decode cX3_perform 22 = .ok (.isub, 1) := by decide +kernel
theorem dX3_perform_23 : decode cX3_perform 23 = .ok (.ireturn, 1) := by decide +kernel
theorem dX3_perform_24 : decode cX3_perform 24 = .ok (.aload_n 0, 1) := by decide +kernel
theorem dX3_perform_25 : decode cX3_perform 25 = .ok (.getfield 16, 3) := by decide +kernel
theorem dX3_perform_28 : decode cX3_perform 28 = .ok (.aload_n 0, 1) := by decide +kernel
theorem dX3_perform_29 : decode cX3_perform 29 = .ok (.getfield 10, 3) := by decide +kernel
theorem dX3_perform_32 : decode cX3_perform 32 = .ok (.invokevirtual 40, 3) := by decide +kernel
theorem dX3_perform_35 : decode cX3_perform 35 = .ok (.aload_n 0, 1) := by decide +kernel
theorem dX3_perform_36 : decode cX3_perform 36 = .ok (.getfield 36, 3) := by decide +kernel
theorem dX3_perform_39 : decode cX3_perform 39 = .ok (.invokevirtual 82, 3) := by decide +kernel
theorem dX3_perform_42 : decode cX3_perform 42 = .ok (.iconst 0, 1) := by decide +kernel
theorem dX3_perform_43 : decode cX3_perform 43 = .ok (.istore_n 2, 1) := by decide +kernel
theorem dX3_perform_44 : decode cX3_perform 44 = .ok (.iload_n 2, 1) := by decide +kernel
theorem dX3_perform_45 : decode cX3_perform 45 = .ok (.iload_n 1, 1) := by decide +kernel
theorem dX3_perform_46 : decode cX3_perform 46 = .ok (.if_icmp .ge 41, 3) := by decide +kernel
theorem dX3_perform_49 : decode cX3_perform 49 = .ok (.aload_n 0, 1) := by decide +kernel
theorem dX3_perform_50 : decode cX3_perform 50 = .ok (.getfield 36, 3) := by decide +kernel
theorem dX3_perform_53 : decode cX3_perform 53 = .ok (.invokevirtual 85, 3) := by decide +kernel
theorem dX3_perform_56 : decode cX3_perform 56 = .ok (.aload_n 0, 1) := by decide +kernel
theorem dX3_perform_57 : decode cX3_perform 57 = .ok (.invokevirtual 88, 3) := by decide +kernel
theorem dX3_perform_60 : decode cX3_perform 60 = .ok (.istore_n 3, 1) := by decide +kernel
theorem dX3_perform_61 : decode cX3_perform 61 = .ok (.iload_n 3, 1) := by decide +kernel
theorem dX3_perform_62 : decode cX3_perform 62 = .ok (.invokestatic 91, 3) := by decide +kernel
theorem dX3_perform_65 : decode cX3_perform 65 = .ok (.ifCond .eq 16, 3) := by decide +kernel
theorem dX3_perform_68 : decode cX3_perform 68 = .ok (.aload_n 0, 1) := by decide +kernel
theorem dX3_perform_69 : decode cX3_perform 69 = .ok (.getfield 10, 3) := by decide +kernel
theorem dX3_perform_72 : decode cX3_perform 72 = .ok (.aload_n 0, 1) := by decide +kernel
theorem dX3_perform_73 : decode cX3_perform 73 = .ok (.getfield 16, 3) := by decide +kernel
theorem dX3_perform_76 : decode cX3_perform 76 = .ok (.invokevirtual 40, 3) := by decide +kernel
theorem dX3_perform_79 : decode cX3_perform 79 = .ok (.iload_n 3, 1) := by decide +kernel
theorem dX3_perform_80 : decode cX3_perform 80 = .ok (.ireturn, 1) := by decide +kernel
theorem dX3_perform_81 : decode cX3_perform 81 = .ok (.iinc 2 1, 3) := by decide +kernel
theorem dX3_perform_84 : decode cX3_perform 84 = .ok (.goto (-40), 3) := by decide +kernel
theorem dX3_perform_87 : decode cX3_perform 87 = .ok (.aload_n 0, 1) := by decide +kernel
theorem dX3_perform_88 : decode cX3_perform 88 = .ok (.iload_n 1, 1) := by decide +kernel
theorem dX3_perform_89 : decode cX3_perform 89 = .ok (.invokevirtual 48, 3) := by decide +kernel
theorem dX3_perform_92 : decode cX3_perform 92 = .ok (.ireturn, 1) := by decide +kernel
set_option maxRecDepth 20000 in
theorem ggX3_undo_X0_takeLatest : GoodIn wsX3_undo wsX0_takeLatest := goodIn_r _ [7, 8, 9, 10, 11, 12, 13, 14, 15, 16, 17, 18, 19, 20, 21, 22, 23, 24, 25, 26, 27, 28, 29, 36, 37, 38, 39, 40, 41, 42, 43, 44, 45, 46, 47, 48] (by decide +kernel) (by decide +kernel)
set_option maxRecDepth 20000 in
theorem gX3_undo_X0_takeLatest : GoodIn wsX3_undo (wsV RX3 95 RX0 yX0_takeLatest wsX0_takeLatest) := goodIn_app (goodIn_of _ (by decide +kernel)) ggX3_undo_X0_takeLatest
theorem dX3_undo_0 : decode cX3_undo 0 = .ok (.aload_n 0, 1) := by decide +kernel
theorem dX3_undo_1 : decode cX3_undo 1 = .ok (.getfield 29, 3) := by decide +kernel
theorem dX3_undo_4 : decode cX3_undo 4 = .ok (.aload_n 0, 1) := by decide +kernel
theorem dX3_undo_5 : decode cX3_undo 5 = .ok (.getfield 10, 3) := by decide +kernel
theorem dX3_undo_8 : decode cX3_undo 8 = .ok (.invokevirtual 95, 3) := by decide +kernel
theorem dX3_undo_11 : decode cX3_undo 11 = .ok (.ireturn, 1) := by decide +kernel
set_option maxRecDepth 20000 in
theorem ggX3_keep_X1_copyFrom : GoodIn wsX3_keep wsX1_copyFrom := goodIn_r _ [8, 9, 10, 11, 12, 13, 14, 15, 16, 17, 18, 19, 20, 21, 22, 23, 34, 35, 36, 37, 38, 39, 40, 41, 42, 43, 44] (by decide +kernel) (by decide +kernel)
set_option maxRecDepth 20000 in
theorem gX3_keep_X1_copyFrom : GoodIn wsX3_keep (wsV RX3 40 RX1 yX1_copyFrom wsX1_copyFrom) := goodIn_app (goodIn_of _ (by decide +kernel)) ggX3_keep_X1_copyFrom
set_option maxRecDepth 20000 in
theorem ggX3_keep_X1_carts : GoodIn wsX3_keep wsX1_carts := goodIn_r _ [27, 19, 34, 35, 36, 37, 38, 39, 40, 41, 42, 43, 44] (by decide +kernel) (by decide +kernel)
set_option maxRecDepth 20000 in
theorem gX3_keep_X1_carts : GoodIn wsX3_keep (wsV RX3 99 RX1 yX1_carts wsX1_carts) := goodIn_app (goodIn_of _ (by decide +kernel)) ggX3_keep_X1_carts
theorem dX3_keep_0 : decode cX3_keep 0 = .ok (.aload_n 0, 1) := by decide +kernel
theorem dX3_keep_1 : decode cX3_keep 1 = .ok (.getfield 19, 3) := by decide +kernel
theorem dX3_keep_4 : decode cX3_keep 4 = .ok (.aload_n 0, 1) := by decide +kernel
theorem dX3_keep_5 : decode cX3_keep 5 = .ok (.getfield 10, 3) := by decide +kernel
theorem dX3_keep_8 : decode cX3_keep 8 = .ok (.invokevirtual 40, 3) := by decide +kernel
theorem dX3_keep_11 : decode cX3_keep 11 = .ok (.aload_n 0, 1) := by decide +kernel
theorem dX3_keep_12 : decode cX3_keep 12 = .ok (.iconst 1, 1) := by decide +kernel
theorem dX3_keep_13 : decode cX3_keep 13 = .ok (.putfield 22, 3) := by decide +kernel
theorem dX3_keep_16 : decode cX3_keep 16 = .ok (.aload_n 0, 1) := by decide +kernel
theorem dX3_keep_17 : decode cX3_keep 17 = .ok (.getfield 10, 3) := by decide +kernel
theorem dX3_keep_20 : decode cX3_keep 20 = .ok (.invokevirtual 99, 3) := by decide +kernel
theorem dX3_keep_23 : decode cX3_keep 23 = .ok (.ireturn, 1) := by decide +kernel
set_option maxRecDepth 20000 in
theorem ggX3_restore_X1_copyFrom : GoodIn wsX3_restore wsX1_copyFrom := goodIn_r _ [9, 10, 11, 12, 13, 14, 15, 16, 17, 18, 19, 20, 21, 22, 23, 24, 53, 54, 55, 56, 57, 58, 59, 60, 61, 62, 63] (by decide +kernel) (by decide +kernel)
set_option maxRecDepth 20000 in
theorem gX3_restore_X1_copyFrom : GoodIn wsX3_restore (wsV RX3 40 RX1 yX1_copyFrom wsX1_copyFrom) := goodIn_app (goodIn_of _ (by decide +kernel)) ggX3_restore_X1_copyFrom
set_option maxRecDepth 20000 in
theorem ggX3_restore_X1_carts : GoodIn wsX3_restore wsX1_carts := goodIn_r _ [28, 20, 53, 54, 55, 56, 57, 58, 59, 60, 61, 62, 63] (by decide +kernel) (by decide +kernel)
set_option maxRecDepth 20000 in
theorem gX3_restore_X1_carts : GoodIn wsX3_restore (wsV RX3 99 RX1 yX1_carts wsX1_carts) := goodIn_app (goodIn_of _ (by decide +kernel)) ggX3_restore_X1_carts
set_option maxRecDepth 20000 in
theorem ggX3_restore_X3_recorded : GoodIn wsX3_restore wsX3_recorded := goodIn_r _ [33, 34, 2, 35, 36, 37, 38, 39, 40, 41, 42, 43, 44, 45, 46, 6, 7, 8, 9, 10, 11, 12, 13, 14, 15, 16, 17, 18, 19, 20, 21, 22, 23, 24, 47, 48, 49, 50, 51, 52, 64, 65, 53, 54, 55, 56, 57, 58, 59, 60, 61, 62, 63] (by decide +kernel) (by decide +kernel)
set_option maxRecDepth 20000 in
theorem gX3_restore_X3_recorded : GoodIn wsX3_restore (wsV RX3 48 RX3 yX3_recorded wsX3_recorded) := goodIn_app (goodIn_of _ (by decide +kernel)) ggX3_restore_X3_recorded
theorem dX3_restore_0 : decode cX3_restore 0 = .ok (.aload_n 0, 1) := by decide +kernel
theorem dX3_restore_1 : decode cX3_restore 1 = .ok (.getfield 22, 3) := by decide +kernel
theorem dX3_restore_4 : decode cX3_restore 4 = .ok (.ifCond .ne 6, 3) := by decide +kernel
theorem dX3_restore_7 : decode cX3_restore 7 = .ok (.bipush (-5), 2) := by decide +kernel
theorem dX3_restore_9 : decode cX3_restore 9 = .ok (.ireturn, 1) := by decide +kernel
theorem dX3_restore_10 : decode cX3_restore 10 = .ok (.aload_n 0, 1) := by decide +kernel
theorem dX3_restore_11 : decode cX3_restore 11 = .ok (.getfield 16, 3) := by decide +kernel
theorem dX3_restore_14 : decode cX3_restore 14 = .ok (.aload_n 0, 1) := by decide +kernel
theorem dX3_restore_15 : decode cX3_restore 15 = .ok (.getfield 10, 3) := by decide +kernel
theorem dX3_restore_18 : decode cX3_restore 18 = .ok (.invokevirtual 40, 3) := by decide +kernel
theorem dX3_restore_21 : decode cX3_restore 21 = .ok (.aload_n 0, 1) := by decide +kernel
theorem dX3_restore_22 : decode cX3_restore 22 = .ok (.getfield 10, 3) := by decide +kernel
theorem dX3_restore_25 : decode cX3_restore 25 = .ok (.aload_n 0, 1) := by decide +kernel
theorem dX3_restore_26 : decode cX3_restore 26 = .ok (.getfield 19, 3) := by decide +kernel
theorem dX3_restore_29 : decode cX3_restore 29 = .ok (.invokevirtual 40, 3) := by decide +kernel
theorem dX3_restore_32 : decode cX3_restore 32 = .ok (.aload_n 0, 1) := by decide +kernel
theorem dX3_restore_33 : decode cX3_restore 33 = .ok (.aload_n 0, 1) := by decide +kernel
theorem dX3_restore_34 : decode cX3_restore 34 = .ok (.getfield 10, 3) := by decide +kernel
theorem dX3_restore_37 : decode cX3_restore 37 = .ok (.invokevirtual 99, 3) := by decide +kernel
theorem dX3_restore_40 : decode cX3_restore 40 = .ok (.invokevirtual 48, 3) := by decide +kernel
theorem dX3_restore_43 : decode cX3_restore 43 = .ok (.ireturn, 1) := by decide +kernel
set_option maxRecDepth 20000 in
theorem ggX3_cart_X1_tellOfCart : GoodIn wsX3_cart wsX1_tellOfCart := goodIn_r _ [6, 7, 8, 9, 10, 11, 12, 13, 14, 15, 16, 5, 17, 18, 19, 20, 21, 22, 23, 24, 25, 26, 27, 28, 29, 30, 31, 32, 33, 34, 35, 36, 37, 38, 39, 40, 41, 42, 43, 44, 45, 46, 47, 48, 49, 50, 51, 52, 53, 54, 55, 56, 57, 58, 59, 60, 61, 68, 69, 70, 71, 72, 73, 74, 75, 76, 77, 78] (by decide +kernel) (by decide +kernel)
set_option maxRecDepth 20000 in
theorem gX3_cart_X1_tellOfCart : GoodIn wsX3_cart (wsV RX3 102 RX1 yX1_tellOfCart wsX1_tellOfCart) := goodIn_app (goodIn_of _ (by decide +kernel)) ggX3_cart_X1_tellOfCart
theorem dX3_cart_0 : decode cX3_cart 0 = .ok (.aload_n 0, 1) := by decide +kernel
theorem dX3_cart_1 : decode cX3_cart 1 = .ok (.getfield 10, 3) := by decide +kernel
theorem dX3_cart_4 : decode cX3_cart 4 = .ok (.iload_n 1, 1) := by decide +kernel
theorem dX3_cart_5 : decode cX3_cart 5 = .ok (.iload_n 2, 1) := by decide +kernel
theorem dX3_cart_6 : decode cX3_cart 6 = .ok (.invokevirtual 102, 3) := by decide +kernel
theorem dX3_cart_9 : decode cX3_cart 9 = .ok (.ireturn, 1) := by decide +kernel
set_option maxRecDepth 20000 in
theorem ggX3_chain_X1_cartOfChain : GoodIn wsX3_chain wsX1_cartOfChain := goodIn_r _ [6, 7, 8, 9, 10, 5, 11, 12, 19, 20, 21, 22, 23, 24, 25, 26, 27, 28, 29] (by decide +kernel) (by decide +kernel)
set_option maxRecDepth 20000 in
theorem gX3_chain_X1_cartOfChain : GoodIn wsX3_chain (wsV RX3 105 RX1 yX1_cartOfChain wsX1_cartOfChain) := goodIn_app (goodIn_of _ (by decide +kernel)) ggX3_chain_X1_cartOfChain
theorem dX3_chain_0 : decode cX3_chain 0 = .ok (.aload_n 0, 1) := by decide +kernel
theorem dX3_chain_1 : decode cX3_chain 1 = .ok (.getfield 10, 3) := by decide +kernel
theorem dX3_chain_4 : decode cX3_chain 4 = .ok (.iload_n 1, 1) := by decide +kernel
theorem dX3_chain_5 : decode cX3_chain 5 = .ok (.iload_n 2, 1) := by decide +kernel
theorem dX3_chain_6 : decode cX3_chain 6 = .ok (.invokevirtual 105, 3) := by decide +kernel
theorem dX3_chain_9 : decode cX3_chain 9 = .ok (.ireturn, 1) := by decide +kernel
set_option maxRecDepth 20000 in
theorem ggX3_brokenIn_X1_firstBroken : GoodIn wsX3_brokenIn wsX1_firstBroken := goodIn_r _ [6, 7, 8, 9, 10, 5, 11, 12, 13, 14, 15, 16, 17, 18, 19, 20, 21, 22, 23, 30, 31, 32, 33, 34, 35, 36, 37, 38, 39, 40] (by decide +kernel) (by decide +kernel)
set_option maxRecDepth 20000 in
theorem gX3_brokenIn_X1_firstBroken : GoodIn wsX3_brokenIn (wsV RX3 108 RX1 yX1_firstBroken wsX1_firstBroken) := goodIn_app (goodIn_of _ (by decide +kernel)) ggX3_brokenIn_X1_firstBroken
theorem dX3_brokenIn_0 : decode cX3_brokenIn 0 = .ok (.aload_n 0, 1) := by decide +kernel
theorem dX3_brokenIn_1 : decode cX3_brokenIn 1 = .ok (.getfield 10, 3) := by decide +kernel
theorem dX3_brokenIn_4 : decode cX3_brokenIn 4 = .ok (.iload_n 1, 1) := by decide +kernel
theorem dX3_brokenIn_5 : decode cX3_brokenIn 5 = .ok (.invokevirtual 108, 3) := by decide +kernel
theorem dX3_brokenIn_8 : decode cX3_brokenIn 8 = .ok (.ireturn, 1) := by decide +kernel
set_option maxRecDepth 20000 in
theorem ggX3_total_X0_states : GoodIn wsX3_total wsX0_states := goodIn_r _ [8, 9, 95, 96] (by decide +kernel) (by decide +kernel)
set_option maxRecDepth 20000 in
theorem gX3_total_X0_states : GoodIn wsX3_total (wsV RX3 111 RX0 yX0_states wsX0_states) := goodIn_app (goodIn_of _ (by decide +kernel)) ggX3_total_X0_states
set_option maxRecDepth 20000 in
theorem ggX3_total_X2_length : GoodIn wsX3_total wsX2_length := goodIn_r _ [14, 15, 97, 98, 99, 100, 101, 102, 103] (by decide +kernel) (by decide +kernel)
set_option maxRecDepth 20000 in
theorem gX3_total_X2_length : GoodIn wsX3_total (wsV RX3 114 RX2 yX2_length wsX2_length) := goodIn_app (goodIn_of _ (by decide +kernel)) ggX3_total_X2_length
set_option maxRecDepth 20000 in
theorem ggX3_total_X1_tellOfAll : GoodIn wsX3_total wsX1_tellOfAll := goodIn_r _ [20, 21, 22, 23, 24, 25, 26, 27, 28, 29, 30, 31, 32, 33, 34, 35, 36, 19, 37, 38, 39, 40, 41, 42, 43, 44, 45, 46, 47, 48, 49, 50, 51, 52, 53, 54, 55, 56, 57, 58, 59, 60, 61, 62, 63, 64, 65, 66, 67, 68, 69, 70, 71, 72, 73, 74, 75, 76, 77, 78, 79, 80, 81, 82, 83, 84, 85, 86, 87, 88, 104, 105, 106, 107, 108, 109, 110, 111, 112, 113, 114] (by decide +kernel) (by decide +kernel)
set_option maxRecDepth 20000 in
theorem gX3_total_X1_tellOfAll : GoodIn wsX3_total (wsV RX3 117 RX1 yX1_tellOfAll wsX1_tellOfAll) := goodIn_app (goodIn_of _ (by decide +kernel)) ggX3_total_X1_tellOfAll
theorem dX3_total_0 : decode cX3_total 0 = .ok (.iload_n 1, 1) := by decide +kernel
theorem dX3_total_1 : decode cX3_total 1 = .ok (.bipush 15, 2) := by decide +kernel
theorem dX3_total_3 : decode cX3_total 3 = .ok (.if_icmp .ne 11, 3) := by decide +kernel
theorem dX3_total_6 : decode cX3_total 6 = .ok (.aload_n 0, 1) := by decide +kernel
theorem dX3_total_7 : decode cX3_total 7 = .ok (.getfield 29, 3) := by decide +kernel
theorem dX3_total_10 : decode cX3_total 10 = .ok (.invokevirtual 111, 3) := by decide +kernel
theorem dX3_total_13 : decode cX3_total 13 = .ok (.ireturn, 1) := by decide +kernel
theorem dX3_total_14 : decode cX3_total 14 = .ok (.iload_n 1, 1) := by decide +kernel
theorem dX3_total_15 : decode cX3_total 15 = .ok (.bipush 16, 2) := by decide +kernel
theorem dX3_total_17 : decode cX3_total 17 = .ok (.if_icmp .ne 11, 3) := by decide +kernel
theorem dX3_total_20 : decode cX3_total 20 = .ok (.aload_n 0, 1) := by decide +kernel
theorem dX3_total_21 : decode cX3_total 21 = .ok (.getfield 36, 3) := by decide +kernel
theorem dX3_total_24 : decode cX3_total 24 = .ok (.invokevirtual 114, 3) := by decide +kernel
theorem dX3_total_27 : decode cX3_total 27 = .ok (.ireturn, 1) := by decide +kernel
theorem dX3_total_28 : decode cX3_total 28 = .ok (.aload_n 0, 1) := by decide +kernel
theorem dX3_total_29 : decode cX3_total 29 = .ok (.getfield 10, 3) := by decide +kernel
theorem dX3_total_32 : decode cX3_total 32 = .ok (.iload_n 1, 1) := by decide +kernel
theorem dX3_total_33 : decode cX3_total 33 = .ok (.invokevirtual 117, 3) := by decide +kernel
theorem dX3_total_36 : decode cX3_total 36 = .ok (.ireturn, 1) := by decide +kernel
set_option maxRecDepth 20000 in
theorem ggX3_ifOpened_X1_foretell : GoodIn wsX3_ifOpened wsX1_foretell := goodIn_r _ [6, 7, 8, 9, 10, 11, 5, 12, 13, 14, 15, 16, 17, 18, 19, 20, 21, 22, 23, 24, 25, 26, 27, 28, 29, 30, 31, 32, 33, 34, 35, 36, 37, 38, 39, 40, 41, 42, 43, 44, 45, 46, 47, 48, 49, 50, 51, 52, 53, 54, 55, 56, 57, 58, 59, 60, 61, 62, 63, 70, 71, 72, 73, 74, 75, 76, 77, 78, 79, 80] (by decide +kernel) (by decide +kernel)
set_option maxRecDepth 20000 in
theorem gX3_ifOpened_X1_foretell : GoodIn wsX3_ifOpened (wsV RX3 120 RX1 yX1_foretell wsX1_foretell) := goodIn_app (goodIn_of _ (by decide +kernel)) ggX3_ifOpened_X1_foretell
theorem dX3_ifOpened_0 : decode cX3_ifOpened 0 = .ok (.aload_n 0, 1) := by decide +kernel
theorem dX3_ifOpened_1 : decode cX3_ifOpened 1 = .ok (.getfield 10, 3) := by decide +kernel
theorem dX3_ifOpened_4 : decode cX3_ifOpened 4 = .ok (.iload_n 1, 1) := by decide +kernel
theorem dX3_ifOpened_5 : decode cX3_ifOpened 5 = .ok (.iload_n 2, 1) := by decide +kernel
theorem dX3_ifOpened_6 : decode cX3_ifOpened 6 = .ok (.invokevirtual 120, 3) := by decide +kernel
theorem dX3_ifOpened_9 : decode cX3_ifOpened 9 = .ok (.ireturn, 1) := by decide +kernel
set_option maxRecDepth 20000 in
theorem ggX3_fewestOpenings_X1_countEnds : GoodIn wsX3_fewestOpenings wsX1_countEnds := goodIn_r _ [6, 7, 8, 9, 10, 5, 11, 12, 13, 14, 15, 16, 17, 18, 19, 20, 21, 22, 23, 24, 25, 26, 27, 28, 29, 30, 31, 32, 33, 34, 35, 36, 37, 38, 39, 40, 41, 42, 43, 44, 45, 46, 47, 48, 49, 50, 61, 62, 63, 64, 65, 66, 67, 68, 69, 70, 71] (by decide +kernel) (by decide +kernel)
set_option maxRecDepth 20000 in
theorem gX3_fewestOpenings_X1_countEnds : GoodIn wsX3_fewestOpenings (wsV RX3 123 RX1 yX1_countEnds wsX1_countEnds) := goodIn_app (goodIn_of _ (by decide +kernel)) ggX3_fewestOpenings_X1_countEnds
set_option maxRecDepth 20000 in
theorem ggX3_fewestOpenings_X1_countHonestOpenings : GoodIn wsX3_fewestOpenings wsX1_countHonestOpenings := goodIn_r _ [54, 7, 8, 9, 10, 5, 11, 12, 13, 14, 15, 16, 17, 18, 19, 20, 21, 22, 23, 24, 25, 26, 27, 28, 29, 30, 31, 32, 33, 34, 35, 36, 37, 38, 39, 40, 41, 42, 43, 61, 62, 63, 64, 65, 66, 67, 68, 69, 70, 71] (by decide +kernel) (by decide +kernel)
set_option maxRecDepth 20000 in
theorem gX3_fewestOpenings_X1_countHonestOpenings : GoodIn wsX3_fewestOpenings (wsV RX3 126 RX1 yX1_countHonestOpenings wsX1_countHonestOpenings) := goodIn_app (goodIn_of _ (by decide +kernel)) ggX3_fewestOpenings_X1_countHonestOpenings
theorem dX3_fewestOpenings_0 : decode cX3_fewestOpenings 0 = .ok (.iload_n 1, 1) := by decide +kernel
theorem dX3_fewestOpenings_1 : decode cX3_fewestOpenings 1 = .ok (.ifCond .ne 11, 3) := by decide +kernel
theorem dX3_fewestOpenings_4 : decode cX3_fewestOpenings 4 = .ok (.aload_n 0, 1) := by decide +kernel
theorem dX3_fewestOpenings_5 : decode cX3_fewestOpenings 5 = .ok (.getfield 10, 3) := by decide +kernel
theorem dX3_fewestOpenings_8 : decode cX3_fewestOpenings 8 = .ok (.invokevirtual 123, 3) := by decide +kernel
theorem dX3_fewestOpenings_11 : decode cX3_fewestOpenings 11 = .ok (.ireturn, 1) := by decide +kernel
theorem dX3_fewestOpenings_12 : decode cX3_fewestOpenings 12 = .ok (.iload_n 1, 1) := by decide +kernel
theorem dX3_fewestOpenings_13 : decode cX3_fewestOpenings 13 = .ok (.iconst 1, 1) := by decide +kernel
theorem dX3_fewestOpenings_14 : decode cX3_fewestOpenings 14 = .ok (.if_icmp .ne 11, 3) := by decide +kernel
theorem dX3_fewestOpenings_17 : decode cX3_fewestOpenings 17 = .ok (.aload_n 0, 1) := by decide +kernel
theorem dX3_fewestOpenings_18 : decode cX3_fewestOpenings 18 = .ok (.getfield 10, 3) := by decide +kernel
theorem dX3_fewestOpenings_21 : decode cX3_fewestOpenings 21 = .ok (.invokevirtual 126, 3) := by decide +kernel
theorem dX3_fewestOpenings_24 : decode cX3_fewestOpenings 24 = .ok (.ireturn, 1) := by decide +kernel
theorem dX3_fewestOpenings_25 : decode cX3_fewestOpenings 25 = .ok (.bipush (-2), 2) := by decide +kernel
theorem dX3_fewestOpenings_27 : decode cX3_fewestOpenings 27 = .ok (.ireturn, 1) := by decide +kernel
set_option maxRecDepth 20000 in
theorem ggX3_bestOpening_X1_mostClearing : GoodIn wsX3_bestOpening wsX1_mostClearing := goodIn_r _ [6, 7, 8, 9, 10, 11, 5, 12, 13, 14, 15, 16, 17, 18, 19, 20, 21, 22, 23, 24, 25, 26, 27, 28, 29, 30, 31, 32, 33, 34, 35, 36, 37, 38, 39, 40, 41, 42, 43, 44, 45, 46, 47, 54, 55, 56, 57, 58, 59, 60, 61, 62, 63, 64] (by decide +kernel) (by decide +kernel)
set_option maxRecDepth 20000 in
theorem gX3_bestOpening_X1_mostClearing : GoodIn wsX3_bestOpening (wsV RX3 129 RX1 yX1_mostClearing wsX1_mostClearing) := goodIn_app (goodIn_of _ (by decide +kernel)) ggX3_bestOpening_X1_mostClearing
theorem dX3_bestOpening_0 : decode cX3_bestOpening 0 = .ok (.aload_n 0, 1) := by decide +kernel
theorem dX3_bestOpening_1 : decode cX3_bestOpening 1 = .ok (.getfield 10, 3) := by decide +kernel
theorem dX3_bestOpening_4 : decode cX3_bestOpening 4 = .ok (.invokevirtual 129, 3) := by decide +kernel
theorem dX3_bestOpening_7 : decode cX3_bestOpening 7 = .ok (.ireturn, 1) := by decide +kernel
set_option maxRecDepth 20000 in
theorem ggX3_sameSeal_X1_otherClaimForSeal : GoodIn wsX3_sameSeal wsX1_otherClaimForSeal := goodIn_r _ [6, 7, 8, 9, 10, 5, 11, 12, 13, 14, 15, 16, 17, 18, 19, 20, 21, 22, 23, 30, 31, 32, 33, 34, 35, 36, 37, 38, 39, 40] (by decide +kernel) (by decide +kernel)
set_option maxRecDepth 20000 in
theorem gX3_sameSeal_X1_otherClaimForSeal : GoodIn wsX3_sameSeal (wsV RX3 132 RX1 yX1_otherClaimForSeal wsX1_otherClaimForSeal) := goodIn_app (goodIn_of _ (by decide +kernel)) ggX3_sameSeal_X1_otherClaimForSeal
theorem dX3_sameSeal_0 : decode cX3_sameSeal 0 = .ok (.aload_n 0, 1) := by decide +kernel
theorem dX3_sameSeal_1 : decode cX3_sameSeal 1 = .ok (.getfield 10, 3) := by decide +kernel
theorem dX3_sameSeal_4 : decode cX3_sameSeal 4 = .ok (.iload_n 1, 1) := by decide +kernel
theorem dX3_sameSeal_5 : decode cX3_sameSeal 5 = .ok (.invokevirtual 132, 3) := by decide +kernel
theorem dX3_sameSeal_8 : decode cX3_sameSeal 8 = .ok (.ireturn, 1) := by decide +kernel
set_option maxRecDepth 20000 in
theorem ggX3_recorded_X0_add : GoodIn wsX3_recorded wsX0_add := goodIn_r _ [7, 8, 9, 10, 11, 12, 6, 13, 14, 15, 16, 17, 18, 19, 20, 21, 22, 23, 24, 25, 26, 27, 28, 29, 30, 31, 32, 33, 40, 41, 42, 43, 44, 45, 46, 47, 48, 49, 50, 51, 52] (by decide +kernel) (by decide +kernel)
set_option maxRecDepth 20000 in
theorem gX3_recorded_X0_add : GoodIn wsX3_recorded (wsV RX3 135 RX0 yX0_add wsX0_add) := goodIn_app (goodIn_of _ (by decide +kernel)) ggX3_recorded_X0_add
theorem dX3_recorded_0 : decode cX3_recorded 0 = .ok (.iload_n 1, 1) := by decide +kernel
theorem dX3_recorded_1 : decode cX3_recorded 1 = .ok (.ifCond .lt 14, 3) := by decide +kernel
theorem dX3_recorded_4 : decode cX3_recorded 4 = .ok (.aload_n 0, 1) := by decide +kernel
theorem dX3_recorded_5 : decode cX3_recorded 5 = .ok (.getfield 29, 3) := by decide +kernel
theorem dX3_recorded_8 : decode cX3_recorded 8 = .ok (.aload_n 0, 1) := by decide +kernel
theorem dX3_recorded_9 : decode cX3_recorded 9 = .ok (.getfield 16, 3) := by decide +kernel
theorem dX3_recorded_12 : decode cX3_recorded 12 = .ok (.invokevirtual 135, 3) := by decide +kernel
theorem dX3_recorded_15 : decode cX3_recorded 15 = .ok (.iload_n 1, 1) := by decide +kernel
theorem dX3_recorded_16 : decode cX3_recorded 16 = .ok (.ireturn, 1) := by decide +kernel
theorem dX3_isError_0 : decode cX3_isError 0 = .ok (.iload_n 0, 1) := by decide +kernel
theorem dX3_isError_1 : decode cX3_isError 1 = .ok (.ifCond .ge 13, 3) := by decide +kernel
theorem dX3_isError_4 : decode cX3_isError 4 = .ok (.iload_n 0, 1) := by decide +kernel
theorem dX3_isError_5 : decode cX3_isError 5 = .ok (.bipush (-5), 2) := by decide +kernel
theorem dX3_isError_7 : decode cX3_isError 7 = .ok (.if_icmp .eq 7, 3) := by decide +kernel
theorem dX3_isError_10 : decode cX3_isError 10 = .ok (.iconst 1, 1) := by decide +kernel
theorem dX3_isError_11 : decode cX3_isError 11 = .ok (.goto 4, 3) := by decide +kernel
theorem dX3_isError_14 : decode cX3_isError 14 = .ok (.iconst 0, 1) := by decide +kernel
theorem dX3_isError_15 : decode cX3_isError 15 = .ok (.ireturn, 1) := by decide +kernel
set_option maxRecDepth 20000 in
theorem ggX3_carryOutOrder_X2_kind : GoodIn wsX3_carryOutOrder wsX2_kind := goodIn_r _ [7, 8, 118, 119, 120, 121, 122, 123, 124] (by decide +kernel) (by decide +kernel)
set_option maxRecDepth 20000 in
theorem gX3_carryOutOrder_X2_kind : GoodIn wsX3_carryOutOrder (wsV RX3 138 RX2 yX2_kind wsX2_kind) := goodIn_app (goodIn_of _ (by decide +kernel)) ggX3_carryOutOrder_X2_kind
set_option maxRecDepth 20000 in
theorem ggX3_carryOutOrder_X2_claim : GoodIn wsX3_carryOutOrder wsX2_claim := goodIn_r _ [12, 13, 118, 119, 120, 121, 122, 123, 124] (by decide +kernel) (by decide +kernel)
set_option maxRecDepth 20000 in
theorem gX3_carryOutOrder_X2_claim : GoodIn wsX3_carryOutOrder (wsV RX3 142 RX2 yX2_claim wsX2_claim) := goodIn_app (goodIn_of _ (by decide +kernel)) ggX3_carryOutOrder_X2_claim
set_option maxRecDepth 20000 in
theorem ggX3_carryOutOrder_X2_load : GoodIn wsX3_carryOutOrder wsX2_load := goodIn_r _ [17, 18, 118, 119, 120, 121, 122, 123, 124] (by decide +kernel) (by decide +kernel)
set_option maxRecDepth 20000 in
theorem gX3_carryOutOrder_X2_load : GoodIn wsX3_carryOutOrder (wsV RX3 145 RX2 yX2_load wsX2_load) := goodIn_app (goodIn_of _ (by decide +kernel)) ggX3_carryOutOrder_X2_load
set_option maxRecDepth 20000 in
theorem ggX3_carryOutOrder_X2_cartNumber : GoodIn wsX3_carryOutOrder wsX2_cartNumber := goodIn_r _ [22, 23, 118, 119, 120, 121, 122, 123, 124] (by decide +kernel) (by decide +kernel)
set_option maxRecDepth 20000 in
theorem gX3_carryOutOrder_X2_cartNumber : GoodIn wsX3_carryOutOrder (wsV RX3 148 RX2 yX2_cartNumber wsX2_cartNumber) := goodIn_app (goodIn_of _ (by decide +kernel)) ggX3_carryOutOrder_X2_cartNumber
set_option maxRecDepth 20000 in
theorem ggX3_carryOutOrder_X1_admit : GoodIn wsX3_carryOutOrder wsX1_admit := goodIn_r _ [28, 29, 30, 31, 32, 33, 34, 35, 36, 37, 38, 27, 39, 40, 41, 42, 43, 44, 45, 46, 47, 48, 49, 50, 51, 125, 126, 127, 128, 129, 130, 131, 132, 133, 134, 135] (by decide +kernel) (by decide +kernel)
set_option maxRecDepth 20000 in
theorem gX3_carryOutOrder_X1_admit : GoodIn wsX3_carryOutOrder (wsV RX3 44 RX1 yX1_admit wsX1_admit) := goodIn_app (goodIn_of _ (by decide +kernel)) ggX3_carryOutOrder_X1_admit
set_option maxRecDepth 20000 in
theorem ggX3_carryOutOrder_X1_inspect : GoodIn wsX3_carryOutOrder wsX1_inspect := goodIn_r _ [55, 56, 33, 31, 57, 36, 37, 38, 27, 39, 29, 58, 59, 60, 61, 62, 63, 64, 65, 66, 67, 51, 30, 68, 69, 70, 71, 72, 73, 74, 75, 34, 47, 48, 49, 50, 32, 76, 77, 78, 79, 80, 81, 82, 83, 84, 85, 86, 87, 88, 89, 90, 91, 92, 93, 94, 95, 96, 97, 98, 99, 100, 101, 102, 103, 125, 126, 127, 128, 129, 130, 131, 132, 133, 134, 135] (by decide +kernel) (by decide +kernel)
set_option maxRecDepth 20000 in
theorem gX3_carryOutOrder_X1_inspect : GoodIn wsX3_carryOutOrder (wsV RX3 59 RX1 yX1_inspect wsX1_inspect) := goodIn_app (goodIn_of _ (by decide +kernel)) ggX3_carryOutOrder_X1_inspect
set_option maxRecDepth 20000 in
theorem ggX3_carryOutOrder_X1_changeClaim : GoodIn wsX3_carryOutOrder wsX1_changeClaim := goodIn_r _ [107, 56, 30, 36, 37, 38, 27, 39, 29, 40, 41, 42, 58, 59, 60, 61, 62, 63, 125, 126, 127, 128, 129, 130, 131, 132, 133, 134, 135] (by decide +kernel) (by decide +kernel)
set_option maxRecDepth 20000 in
theorem gX3_carryOutOrder_X1_changeClaim : GoodIn wsX3_carryOutOrder (wsV RX3 52 RX1 yX1_changeClaim wsX1_changeClaim) := goodIn_app (goodIn_of _ (by decide +kernel)) ggX3_carryOutOrder_X1_changeClaim
set_option maxRecDepth 20000 in
theorem ggX3_carryOutOrder_X1_mendSeal : GoodIn wsX3_carryOutOrder wsX1_mendSeal := goodIn_r _ [111, 34, 36, 37, 38, 27, 39, 29, 72, 73, 74, 75, 30, 47, 48, 49, 50, 51, 32, 43, 44, 45, 46, 125, 126, 127, 128, 129, 130, 131, 132, 133, 134, 135] (by decide +kernel) (by decide +kernel)
set_option maxRecDepth 20000 in
theorem gX3_carryOutOrder_X1_mendSeal : GoodIn wsX3_carryOutOrder (wsV RX3 56 RX1 yX1_mendSeal wsX1_mendSeal) := goodIn_app (goodIn_of _ (by decide +kernel)) ggX3_carryOutOrder_X1_mendSeal
theorem dX3_carryOutOrder_0 : decode cX3_carryOutOrder 0 = .ok (.aload_n 0, 1) := by decide +kernel
theorem dX3_carryOutOrder_1 : decode cX3_carryOutOrder 1 = .ok (.getfield 36, 3) := by decide +kernel
theorem dX3_carryOutOrder_4 : decode cX3_carryOutOrder 4 = .ok (.invokevirtual 138, 3) := by decide +kernel
theorem dX3_carryOutOrder_7 : decode cX3_carryOutOrder 7 = .ok (.istore_n 1, 1) := by decide +kernel
theorem dX3_carryOutOrder_8 : decode cX3_carryOutOrder 8 = .ok (.iload_n 1, 1) := by decide +kernel
theorem dX3_carryOutOrder_9 : decode cX3_carryOutOrder 9 = .ok (.bipush 99, 2) := by decide +kernel
theorem dX3_carryOutOrder_11 : decode cX3_carryOutOrder 11 = .ok (.if_icmp .ne 32, 3) := by decide +kernel
theorem dX3_carryOutOrder_14 : decode cX3_carryOutOrder 14 = .ok (.aload_n 0, 1) := by decide +kernel
theorem dX3_carryOutOrder_15 : decode cX3_carryOutOrder 15 = .ok (.getfield 10, 3) := by decide +kernel
theorem dX3_carryOutOrder_18 : decode cX3_carryOutOrder 18 = .ok (.aload_n 0, 1) := by decide +kernel
theorem dX3_carryOutOrder_19 : decode cX3_carryOutOrder 19 = .ok (.getfield 36, 3) := by decide +kernel
theorem dX3_carryOutOrder_22 : decode cX3_carryOutOrder 22 = .ok (.invokevirtual 142, 3) := by decide +kernel
theorem dX3_carryOutOrder_25 : decode cX3_carryOutOrder 25 = .ok (.aload_n 0, 1) := by decide +kernel
theorem dX3_carryOutOrder_26 : decode cX3_carryOutOrder 26 = .ok (.getfield 36, 3) := by decide +kernel
theorem dX3_carryOutOrder_29 : decode cX3_carryOutOrder 29 = .ok (.invokevirtual 145, 3) := by decide +kernel
theorem dX3_carryOutOrder_32 : decode cX3_carryOutOrder 32 = .ok (.aload_n 0, 1) := by decide +kernel
theorem dX3_carryOutOrder_33 : decode cX3_carryOutOrder 33 = .ok (.getfield 36, 3) := by decide +kernel
theorem dX3_carryOutOrder_36 : decode cX3_carryOutOrder 36 = .ok (.invokevirtual 148, 3) := by decide +kernel
theorem dX3_carryOutOrder_39 : decode cX3_carryOutOrder 39 = .ok (.invokevirtual 44, 3) := by decide +kernel
theorem dX3_carryOutOrder_42 : decode cX3_carryOutOrder 42 = .ok (.ireturn, 1) := by decide +kernel
theorem dX3_carryOutOrder_43 : decode cX3_carryOutOrder 43 = .ok (.iload_n 1, 1) := by decide +kernel
theorem dX3_carryOutOrder_44 : decode cX3_carryOutOrder 44 = .ok (.bipush 111, 2) := by decide +kernel
theorem dX3_carryOutOrder_46 : decode cX3_carryOutOrder 46 = .ok (.if_icmp .ne 18, 3) := by decide +kernel
theorem dX3_carryOutOrder_49 : decode cX3_carryOutOrder 49 = .ok (.aload_n 0, 1) := by decide +kernel
theorem dX3_carryOutOrder_50 : decode cX3_carryOutOrder 50 = .ok (.getfield 10, 3) := by decide +kernel
theorem dX3_carryOutOrder_53 : decode cX3_carryOutOrder 53 = .ok (.aload_n 0, 1) := by decide +kernel
theorem dX3_carryOutOrder_54 : decode cX3_carryOutOrder 54 = .ok (.getfield 36, 3) := by decide +kernel
theorem dX3_carryOutOrder_57 : decode cX3_carryOutOrder 57 = .ok (.invokevirtual 148, 3) := by decide +kernel
theorem dX3_carryOutOrder_60 : decode cX3_carryOutOrder 60 = .ok (.invokevirtual 59, 3) := by decide +kernel
theorem dX3_carryOutOrder_63 : decode cX3_carryOutOrder 63 = .ok (.ireturn, 1) := by decide +kernel
theorem dX3_carryOutOrder_64 : decode cX3_carryOutOrder 64 = .ok (.iload_n 1, 1) := by decide +kernel
theorem dX3_carryOutOrder_65 : decode cX3_carryOutOrder 65 = .ok (.bipush 120, 2) := by decide +kernel
theorem dX3_carryOutOrder_67 : decode cX3_carryOutOrder 67 = .ok (.if_icmp .ne 25, 3) := by decide +kernel
theorem dX3_carryOutOrder_70 : decode cX3_carryOutOrder 70 = .ok (.aload_n 0, 1) := by decide +kernel
theorem dX3_carryOutOrder_71 : decode cX3_carryOutOrder 71 = .ok (.getfield 10, 3) := by decide +kernel
theorem dX3_carryOutOrder_74 : decode cX3_carryOutOrder 74 = .ok (.aload_n 0, 1) := by decide +kernel
theorem dX3_carryOutOrder_75 : decode cX3_carryOutOrder 75 = .ok (.getfield 36, 3) := by decide +kernel
theorem dX3_carryOutOrder_78 : decode cX3_carryOutOrder 78 = .ok (.invokevirtual 148, 3) := by decide +kernel
theorem dX3_carryOutOrder_81 : decode cX3_carryOutOrder 81 = .ok (.aload_n 0, 1) := by decide +kernel
theorem dX3_carryOutOrder_82 : decode cX3_carryOutOrder 82 = .ok (.getfield 36, 3) := by decide +kernel
theorem dX3_carryOutOrder_85 : decode cX3_carryOutOrder 85 = .ok (.invokevirtual 142, 3) := by decide +kernel
theorem dX3_carryOutOrder_88 : decode cX3_carryOutOrder 88 = .ok (.invokevirtual 52, 3) := by decide +kernel
theorem dX3_carryOutOrder_91 : decode cX3_carryOutOrder 91 = .ok (.ireturn, 1) := by decide +kernel
theorem dX3_carryOutOrder_92 : decode cX3_carryOutOrder 92 = .ok (.aload_n 0, 1) := by decide +kernel
theorem dX3_carryOutOrder_93 : decode cX3_carryOutOrder 93 = .ok (.getfield 10, 3) := by decide +kernel
theorem dX3_carryOutOrder_96 : decode cX3_carryOutOrder 96 = .ok (.aload_n 0, 1) := by decide +kernel
theorem dX3_carryOutOrder_97 : decode cX3_carryOutOrder 97 = .ok (.getfield 36, 3) := by decide +kernel
theorem dX3_carryOutOrder_100 : decode cX3_carryOutOrder 100 = .ok (.invokevirtual 148, 3) := by decide +kernel
theorem dX3_carryOutOrder_103 : decode cX3_carryOutOrder 103 = .ok (.invokevirtual 56, 3) := by decide +kernel
theorem dX3_carryOutOrder_106 : decode cX3_carryOutOrder 106 = .ok (.ireturn, 1) := by decide +kernel
end
section
theorem dX4_init_0 : decode cX4_init 0 = .ok (.aload_n 0, 1) := by decide +kernel
theorem dX4_init_1 : decode cX4_init 1 = .ok (.invokespecial 1, 3) := by decide +kernel
theorem dX4_init_4 : decode cX4_init 4 = .ok (.aload_n 0, 1) := by decide +kernel
theorem dX4_init_5 : decode cX4_init 5 = .ok (.sipush 200, 3) := by decide +kernel
theorem dX4_init_8 : decode cX4_init 8 = .ok (.newarray .int, 2) := by decide +kernel
theorem dX4_init_10 : decode cX4_init 10 = .ok (.putfield 7, 3) := by decide +kernel
theorem dX4_init_13 : decode cX4_init 13 = .ok (.aload_n 0, 1) := by decide +kernel
theorem dX4_init_14 : decode cX4_init 14 = .ok (.sipush 200, 3) := by decide +kernel
theorem dX4_init_17 : decode cX4_init 17 = .ok (.newarray .int, 2) := by decide +kernel
theorem dX4_init_19 : decode cX4_init 19 = .ok (.putfield 13, 3) := by decide +kernel
theorem dX4_init_22 : decode cX4_init 22 = .ok (.aload_n 0, 1) := by decide +kernel
theorem dX4_init_23 : decode cX4_init 23 = .ok (.sipush 800, 3) := by decide +kernel
theorem dX4_init_26 : decode cX4_init 26 = .ok (.newarray .int, 2) := by decide +kernel
theorem dX4_init_28 : decode cX4_init 28 = .ok (.putfield 16, 3) := by decide +kernel
theorem dX4_init_31 : decode cX4_init 31 = .ok (.aload_n 0, 1) := by decide +kernel
theorem dX4_init_32 : decode cX4_init 32 = .ok (.sipush 200, 3) := by decide +kernel
theorem dX4_init_35 : decode cX4_init 35 = .ok (.newarray .int, 2) := by decide +kernel
theorem dX4_init_37 : decode cX4_init 37 = .ok (.putfield 19, 3) := by decide +kernel
theorem dX4_init_40 : decode cX4_init 40 = .ok (.aload_n 0, 1) := by decide +kernel
theorem dX4_init_41 : decode cX4_init 41 = .ok (.bipush 60, 2) := by decide +kernel
theorem dX4_init_43 : decode cX4_init 43 = .ok (.newarray .int, 2) := by decide +kernel
theorem dX4_init_45 : decode cX4_init 45 = .ok (.putfield 22, 3) := by decide +kernel
theorem dX4_init_48 : decode cX4_init 48 = .ok (.aload_n 0, 1) := by decide +kernel
theorem dX4_init_49 : decode cX4_init 49 = .ok (.bipush 96, 2) := by decide +kernel
theorem dX4_init_51 : decode cX4_init 51 = .ok (.newarray .int, 2) := by decide +kernel
theorem dX4_init_53 : decode cX4_init 53 = .ok (.putfield 25, 3) := by decide +kernel
theorem dX4_init_56 : decode cX4_init 56 = .ok (.aload_n 0, 1) := by decide +kernel
theorem dX4_init_57 : decode cX4_init 57 = .ok (.iconst 0, 1) := by decide +kernel
theorem dX4_init_58 : decode cX4_init 58 = .ok (.putfield 28, 3) := by decide +kernel
theorem dX4_init_61 : decode cX4_init 61 = .ok (.aload_n 0, 1) := by decide +kernel
theorem dX4_init_62 : decode cX4_init 62 = .ok (.getfield 7, 3) := by decide +kernel
theorem dX4_init_65 : decode cX4_init 65 = .ok (.iconst 0, 1) := by decide +kernel
theorem dX4_init_66 : decode cX4_init 66 = .ok (.bipush 31, 2) := by decide +kernel
theorem dX4_init_68 : decode cX4_init 68 = .ok (.iastore, 1) := by decide +kernel
theorem dX4_init_69 : decode cX4_init 69 = .ok (.aload_n 0, 1) := by decide +kernel
theorem dX4_init_70 : decode cX4_init 70 = .ok (.getfield 7, 3) := by decide +kernel
theorem dX4_init_73 : decode cX4_init 73 = .ok (.iconst 1, 1) := by decide +kernel
theorem dX4_init_74 : decode cX4_init 74 = .ok (.bipush 17, 2) := by decide +kernel
theorem dX4_init_76 : decode cX4_init 76 = .ok (.iastore, 1) := by decide +kernel
theorem dX4_init_77 : decode cX4_init 77 = .ok (.aload_n 0, 1) := by decide +kernel
theorem dX4_init_78 : decode cX4_init 78 = .ok (.getfield 7, 3) := by decide +kernel
theorem dX4_init_81 : decode cX4_init 81 = .ok (.iconst 2, 1) := by decide +kernel
theorem dX4_init_82 : decode cX4_init 82 = .ok (.bipush 97, 2) := by decide +kernel
theorem dX4_init_84 : decode cX4_init 84 = .ok (.iastore, 1) := by decide +kernel
theorem dX4_init_85 : decode cX4_init 85 = .ok (.aload_n 0, 1) := by decide +kernel
theorem dX4_init_86 : decode cX4_init 86 = .ok (.getfield 7, 3) := by decide +kernel
theorem dX4_init_89 : decode cX4_init 89 = .ok (.iconst 3, 1) := by decide +kernel
theorem dX4_init_90 : decode cX4_init 90 = .ok (.bipush 10, 2) := by decide +kernel
theorem dX4_init_92 : decode cX4_init 92 = .ok (.iastore, 1) := by decide +kernel
theorem dX4_init_93 : decode cX4_init 93 = .ok (.aload_n 0, 1) := by decide +kernel
theorem dX4_init_94 : decode cX4_init 94 = .ok (.getfield 7, 3) := by decide +kernel
theorem dX4_init_97 : decode cX4_init 97 = .ok (.iconst 4, 1) := by decide +kernel
theorem dX4_init_98 : decode cX4_init 98 = .ok (.iconst 5, 1) := by decide +kernel
theorem dX4_init_99 : decode cX4_init 99 = .ok (.iastore, 1) := by decide +kernel
theorem dX4_init_100 : decode cX4_init 100 = .ok (.return_, 1) := by decide +kernel
theorem dX4_in_0 : decode cX4_in 0 = .ok (.iload_n 0, 1) := by decide +kernel
theorem dX4_in_1 : decode cX4_in 1 = .ok (.iload_n 1, 1) := by decide +kernel
theorem dX4_in_2 : decode cX4_in 2 = .ok (.if_icmp .lt 12, 3) := by decide +kernel
theorem dX4_in_5 : decode cX4_in 5 = .ok (.iload_n 0, 1) := by decide +kernel
theorem dX4_in_6 : decode cX4_in 6 = .ok (.iload_n 2, 1) := by decide +kernel
theorem dX4_in_7 : decode cX4_in 7 = .ok (.if_icmp .gt 7, 3) := by decide +kernel
theorem dX4_in_10 : decode cX4_in 10 = .ok (.iconst 1, 1) := by decide +kernel
theorem dX4_in_11 : decode cX4_in 11 = .ok (.goto 4, 3) := by decide +kernel
theorem dX4_in_14 : decode cX4_in 14 = .ok (.iconst 0, 1) := by decide +kernel
theorem dX4_in_15 : decode cX4_in 15 = .ok (.ireturn, 1) := by decide +kernel
set_option maxRecDepth 20000 in
theorem ggX4_isCart_X4_in : GoodIn wsX4_isCart wsX4_in := goodIn_r _ [5] (by decide +kernel) (by decide +kernel)
set_option maxRecDepth 20000 in
theorem gX4_isCart_X4_in : GoodIn wsX4_isCart (va_wsS RX4 32 yX4_in wsX4_in) := goodIn_app (goodIn_of _ (by decide +kernel)) ggX4_isCart_X4_in
theorem dX4_isCart_0 : decode cX4_isCart 0 = .ok (.iload_n 1, 1) := by decide +kernel
theorem dX4_isCart_1 : decode cX4_isCart 1 = .ok (.iconst 0, 1) := by decide +kernel
theorem dX4_isCart_2 : decode cX4_isCart 2 = .ok (.aload_n 0, 1) := by decide +kernel
theorem dX4_isCart_3 : decode cX4_isCart 3 = .ok (.getfield 7, 3) := by decide +kernel
theorem dX4_isCart_6 : decode cX4_isCart 6 = .ok (.iconst 5, 1) := by decide +kernel
theorem dX4_isCart_7 : decode cX4_isCart 7 = .ok (.iaload, 1) := by decide +kernel
theorem dX4_isCart_8 : decode cX4_isCart 8 = .ok (.iconst 1, 1) := by decide +kernel
theorem dX4_isCart_9 : decode cX4_isCart 9 = .ok (.isub, 1) := by decide +kernel
theorem dX4_isCart_10 : decode cX4_isCart 10 = .ok (.invokestatic 32, 3) := by decide +kernel
theorem dX4_isCart_13 : decode cX4_isCart 13 = .ok (.ireturn, 1) := by decide +kernel
theorem dX4_of_0 : decode cX4_of 0 = .ok (.aload_n 0, 1) := by decide +kernel
theorem dX4_of_1 : decode cX4_of 1 = .ok (.getfield 7, 3) := by decide +kernel
theorem dX4_of_4 : decode cX4_of 4 = .ok (.bipush 8, 2) := by decide +kernel
theorem dX4_of_6 : decode cX4_of 6 = .ok (.bipush 8, 2) := by decide +kernel
theorem dX4_of_8 : decode cX4_of 8 = .ok (.iload_n 1, 1) := by decide +kernel
theorem dX4_of_9 : decode cX4_of 9 = .ok (.imul, 1) := by decide +kernel
theorem dX4_of_10 : decode cX4_of 10 = .ok (.iadd, 1) := by decide +kernel
theorem dX4_of_11 : decode cX4_of 11 = .ok (.iload_n 2, 1) := by decide +kernel
theorem dX4_of_12 : decode cX4_of 12 = .ok (.iadd, 1) := by decide +kernel
theorem dX4_of_13 : decode cX4_of 13 = .ok (.iaload, 1) := by decide +kernel
theorem dX4_of_14 : decode cX4_of 14 = .ok (.ireturn, 1) := by decide +kernel
theorem dX4_lay_0 : decode cX4_lay 0 = .ok (.aload_n 0, 1) := by decide +kernel
theorem dX4_lay_1 : decode cX4_lay 1 = .ok (.getfield 7, 3) := by decide +kernel
theorem dX4_lay_4 : decode cX4_lay 4 = .ok (.bipush 8, 2) := by decide +kernel
theorem dX4_lay_6 : decode cX4_lay 6 = .ok (.bipush 8, 2) := by decide +kernel
theorem dX4_lay_8 : decode cX4_lay 8 = .ok (.iload_n 1, 1) := by decide +kernel
theorem dX4_lay_9 : decode cX4_lay 9 = .ok (.imul, 1) := by decide +kernel
theorem dX4_lay_10 : decode cX4_lay 10 = .ok (.iadd, 1) := by decide +kernel
theorem dX4_lay_11 : decode cX4_lay 11 = .ok (.iload_n 2, 1) := by decide +kernel
theorem dX4_lay_12 : decode cX4_lay 12 = .ok (.iadd, 1) := by decide +kernel
theorem dX4_lay_13 : decode cX4_lay 13 = .ok (.iload_n 3, 1) := by decide +kernel
theorem dX4_lay_14 : decode cX4_lay 14 = .ok (.iastore, 1) := by decide +kernel
theorem dX4_lay_15 : decode cX4_lay 15 = .ok (.return_, 1) := by decide +kernel
theorem dX4_records_0 : decode cX4_records 0 = .ok (.aload_n 0, 1) := by decide +kernel
theorem dX4_records_1 : decode cX4_records 1 = .ok (.getfield 36, 3) := by decide +kernel
theorem dX4_records_4 : decode cX4_records 4 = .ok (.iconst 4, 1) := by decide +kernel
theorem dX4_records_5 : decode cX4_records 5 = .ok (.if_icmp .ne 44, 3) := by decide +kernel
theorem dX4_records_8 : decode cX4_records 8 = .ok (.iconst 0, 1) := by decide +kernel
theorem dX4_records_9 : decode cX4_records 9 = .ok (.istore_n 1, 1) := by decide +kernel
theorem dX4_records_10 : decode cX4_records 10 = .ok (.iload_n 1, 1) := by decide +kernel
theorem dX4_records_11 : decode cX4_records 11 = .ok (.sipush 600, 3) := by decide +kernel
theorem dX4_records_14 : decode cX4_records 14 = .ok (.if_icmp .ge 25, 3) := by decide +kernel
theorem dX4_records_17 : decode cX4_records 17 = .ok (.aload_n 0, 1) := by decide +kernel
theorem dX4_records_18 : decode cX4_records 18 = .ok (.getfield 16, 3) := by decide +kernel
theorem dX4_records_21 : decode cX4_records 21 = .ok (.iload_n 1, 1) := by decide +kernel
theorem dX4_records_22 : decode cX4_records 22 = .ok (.aload_n 0, 1) := by decide +kernel
theorem dX4_records_23 : decode cX4_records 23 = .ok (.getfield 16, 3) := by decide +kernel
theorem dX4_records_26 : decode cX4_records 26 = .ok (.iload_n 1, 1) := by decide +kernel
theorem dX4_records_27 : decode cX4_records 27 = .ok (.sipush 200, 3) := by decide +kernel
theorem dX4_records_30 : decode cX4_records 30 = .ok (.iadd, 1) := by decide +kernel
theorem dX4_records_31 : decode cX4_records 31 = .ok (.iaload, 1) := by decide +kernel
theorem dX4_records_32 : decode cX4_records 32 = .ok (.iastore, 1) := by decide +kernel
theorem dX4_records_33 : decode cX4_records 33 = .ok (.iinc 1 1, 3) := by decide +kernel
theorem dX4_records_36 : decode cX4_records 36 = .ok (.goto (-26), 3) := by decide +kernel
theorem dX4_records_39 : decode cX4_records 39 = .ok (.aload_n 0, 1) := by decide +kernel
theorem dX4_records_40 : decode cX4_records 40 = .ok (.dup, 1) := by decide +kernel
theorem dX4_records_41 : decode cX4_records 41 = .ok (.getfield 36, 3) := by decide +kernel
theorem dX4_records_44 : decode cX4_records 44 = .ok (.iconst 1, 1) := by decide +kernel
theorem dX4_records_45 : decode cX4_records 45 = .ok (.isub, 1) := by decide +kernel
theorem dX4_records_46 : decode cX4_records 46 = .ok (.putfield 36, 3) := by decide +kernel
theorem dX4_records_49 : decode cX4_records 49 = .ok (.iconst 0, 1) := by decide +kernel
theorem dX4_records_50 : decode cX4_records 50 = .ok (.istore_n 1, 1) := by decide +kernel
theorem dX4_records_51 : decode cX4_records 51 = .ok (.iload_n 1, 1) := by decide +kernel
theorem dX4_records_52 : decode cX4_records 52 = .ok (.sipush 200, 3) := by decide +kernel
theorem dX4_records_55 : decode cX4_records 55 = .ok (.if_icmp .ge 30, 3) := by decide +kernel
theorem dX4_records_58 : decode cX4_records 58 = .ok (.aload_n 0, 1) := by decide +kernel
theorem dX4_records_59 : decode cX4_records 59 = .ok (.getfield 16, 3) := by decide +kernel
theorem dX4_records_62 : decode cX4_records 62 = .ok (.sipush 200, 3) := by decide +kernel
theorem dX4_records_65 : decode cX4_records 65 = .ok (.aload_n 0, 1) := by decide +kernel
theorem dX4_records_66 : decode cX4_records 66 = .ok (.getfield 36, 3) := by decide +kernel
theorem dX4_records_69 : decode cX4_records 69 = .ok (.imul, 1) := by decide +kernel
theorem dX4_records_70 : decode cX4_records 70 = .ok (.iload_n 1, 1) := by decide +kernel
theorem dX4_records_71 : decode cX4_records 71 = .ok (.iadd, 1) := by decide +kernel
theorem dX4_records_72 : decode cX4_records 72 = .ok (.aload_n 0, 1) := by decide +kernel
theorem dX4_records_73 : decode cX4_records 73 = .ok (.getfield 7, 3) := by decide +kernel
theorem dX4_records_76 : decode cX4_records 76 = .ok (.iload_n 1, 1) := by decide +kernel
theorem dX4_records_77 : decode cX4_records 77 = .ok (.iaload, 1) := by decide +kernel
theorem dX4_records_78 : decode cX4_records 78 = .ok (.iastore, 1) := by decide +kernel
theorem dX4_records_79 : decode cX4_records 79 = .ok (.iinc 1 1, 3) := by decide +kernel
theorem dX4_records_82 : decode cX4_records 82 = .ok (.goto (-31), 3) := by decide +kernel
theorem dX4_records_85 : decode cX4_records 85 = .ok (.aload_n 0, 1) := by decide +kernel
theorem dX4_records_86 : decode cX4_records 86 = .ok (.dup, 1) := by decide +kernel
theorem dX4_records_87 : decode cX4_records 87 = .ok (.getfield 36, 3) := by decide +kernel
theorem dX4_records_90 : decode cX4_records 90 = .ok (.iconst 1, 1) := by decide +kernel
theorem dX4_records_91 : decode cX4_records 91 = .ok (.iadd, 1) := by decide +kernel
theorem dX4_records_92 : decode cX4_records 92 = .ok (.putfield 36, 3) := by decide +kernel
theorem dX4_records_95 : decode cX4_records 95 = .ok (.return_, 1) := by decide +kernel
theorem dX4_putAside_0 : decode cX4_putAside 0 = .ok (.iconst 0, 1) := by decide +kernel
theorem dX4_putAside_1 : decode cX4_putAside 1 = .ok (.istore_n 1, 1) := by decide +kernel
theorem dX4_putAside_2 : decode cX4_putAside 2 = .ok (.iload_n 1, 1) := by decide +kernel
theorem dX4_putAside_3 : decode cX4_putAside 3 = .ok (.sipush 200, 3) := by decide +kernel
theorem dX4_putAside_6 : decode cX4_putAside 6 = .ok (.if_icmp .ge 21, 3) := by decide +kernel
theorem dX4_putAside_9 : decode cX4_putAside 9 = .ok (.aload_n 0, 1) := by decide +kernel
theorem dX4_putAside_10 : decode cX4_putAside 10 = .ok (.getfield 13, 3) := by decide +kernel
theorem dX4_putAside_13 : decode cX4_putAside 13 = .ok (.iload_n 1, 1) := by decide +kernel
theorem dX4_putAside_14 : decode cX4_putAside 14 = .ok (.aload_n 0, 1) := by decide +kernel
theorem dX4_putAside_15 : decode cX4_putAside 15 = .ok (.getfield 7, 3) := by decide +kernel
theorem dX4_putAside_18 : decode cX4_putAside 18 = .ok (.iload_n 1, 1) := by decide +kernel
theorem dX4_putAside_19 : decode cX4_putAside 19 = .ok (.iaload, 1) := by decide +kernel
theorem dX4_putAside_20 : decode cX4_putAside 20 = .ok (.iastore, 1) := by decide +kernel
theorem dX4_putAside_21 : decode cX4_putAside 21 = .ok (.iinc 1 1, 3) := by decide +kernel
theorem dX4_putAside_24 : decode cX4_putAside 24 = .ok (.goto (-22), 3) := by decide +kernel
theorem dX4_putAside_27 : decode cX4_putAside 27 = .ok (.return_, 1) := by decide +kernel
theorem dX4_takeBack_0 : decode cX4_takeBack 0 = .ok (.iconst 0, 1) := by decide +kernel
theorem dX4_takeBack_1 : decode cX4_takeBack 1 = .ok (.istore_n 1, 1) := by decide +kernel
theorem dX4_takeBack_2 : decode cX4_takeBack 2 = .ok (.iload_n 1, 1) := by decide +kernel
theorem dX4_takeBack_3 : decode cX4_takeBack 3 = .ok (.sipush 200, 3) := by decide +kernel
theorem dX4_takeBack_6 : decode cX4_takeBack 6 = .ok (.if_icmp .ge 21, 3) := by decide +kernel
theorem dX4_takeBack_9 : decode cX4_takeBack 9 = .ok (.aload_n 0, 1) := by decide +kernel
theorem dX4_takeBack_10 : decode cX4_takeBack 10 = .ok (.getfield 7, 3) := by decide +kernel
theorem dX4_takeBack_13 : decode cX4_takeBack 13 = .ok (.iload_n 1, 1) := by decide +kernel
theorem dX4_takeBack_14 : decode cX4_takeBack 14 = .ok (.aload_n 0, 1) := by decide +kernel
theorem dX4_takeBack_15 : decode cX4_takeBack 15 = .ok (.getfield 13, 3) := by decide +kernel
theorem dX4_takeBack_18 : decode cX4_takeBack 18 = .ok (.iload_n 1, 1) := by decide +kernel
theorem dX4_takeBack_19 : decode cX4_takeBack 19 = .ok (.iaload, 1) := by decide +kernel
theorem dX4_takeBack_20 : decode cX4_takeBack 20 = .ok (.iastore, 1) := by decide +kernel
theorem dX4_takeBack_21 : decode cX4_takeBack 21 = .ok (.iinc 1 1, 3) := by decide +kernel
theorem dX4_takeBack_24 : decode cX4_takeBack 24 = .ok (.goto (-22), 3) := by decide +kernel
theorem dX4_takeBack_27 : decode cX4_takeBack 27 = .ok (.return_, 1) := by decide +kernel
set_option maxRecDepth 20000 in
theorem ggX4_sealBy_X4_of : GoodIn wsX4_sealBy wsX4_of := goodIn_r _ [6, 1, 7, 8, 9, 10, 11, 12, 13, 14, 15, 16, 17, 18, 19] (by decide +kernel) (by decide +kernel)
set_option maxRecDepth 20000 in
theorem gX4_sealBy_X4_of : GoodIn wsX4_sealBy (wsV RX4 39 RX4 yX4_of wsX4_of) := goodIn_app (goodIn_of _ (by decide +kernel)) ggX4_sealBy_X4_of
theorem dX4_sealBy_0 : decode cX4_sealBy 0 = .ok (.aload_n 0, 1) := by decide +kernel
theorem dX4_sealBy_1 : decode cX4_sealBy 1 = .ok (.iload_n 1, 1) := by decide +kernel
theorem dX4_sealBy_2 : decode cX4_sealBy 2 = .ok (.iconst 2, 1) := by decide +kernel
theorem dX4_sealBy_3 : decode cX4_sealBy 3 = .ok (.invokevirtual 39, 3) := by decide +kernel
theorem dX4_sealBy_6 : decode cX4_sealBy 6 = .ok (.istore_n 3, 1) := by decide +kernel
theorem dX4_sealBy_7 : decode cX4_sealBy 7 = .ok (.aload_n 0, 1) := by decide +kernel
theorem dX4_sealBy_8 : decode cX4_sealBy 8 = .ok (.getfield 7, 3) := by decide +kernel
theorem dX4_sealBy_11 : decode cX4_sealBy 11 = .ok (.iconst 0, 1) := by decide +kernel
theorem dX4_sealBy_12 : decode cX4_sealBy 12 = .ok (.iaload, 1) := by decide +kernel
theorem dX4_sealBy_13 : decode cX4_sealBy 13 = .ok (.iload_n 2, 1) := by decide +kernel
theorem dX4_sealBy_14 : decode cX4_sealBy 14 = .ok (.imul, 1) := by decide +kernel
theorem dX4_sealBy_15 : decode cX4_sealBy 15 = .ok (.aload_n 0, 1) := by decide +kernel
theorem dX4_sealBy_16 : decode cX4_sealBy 16 = .ok (.getfield 7, 3) := by decide +kernel
theorem dX4_sealBy_19 : decode cX4_sealBy 19 = .ok (.iconst 1, 1) := by decide +kernel
theorem dX4_sealBy_20 : decode cX4_sealBy 20 = .ok (.iaload, 1) := by decide +kernel
theorem dX4_sealBy_21 : decode cX4_sealBy 21 = .ok (.iload_n 3, 1) := by decide +kernel
theorem dX4_sealBy_22 : decode cX4_sealBy 22 = .ok (.ifCond .ge 7, 3) := by decide +kernel
theorem dX4_sealBy_25 : decode cX4_sealBy 25 = .ok (.iconst 0, 1) := by decide +kernel
theorem dX4_sealBy_26 : decode cX4_sealBy 26 = .ok (.goto 9, 3) := by decide +kernel
theorem dX4_sealBy_29 : decode cX4_sealBy 29 = .ok (.aload_n 0, 1) := by decide +kernel
theorem dX4_sealBy_30 : decode cX4_sealBy 30 = .ok (.iload_n 3, 1) := by decide +kernel
theorem dX4_sealBy_31 : decode cX4_sealBy 31 = .ok (.iconst 3, 1) := by decide +kernel
theorem dX4_sealBy_32 : decode cX4_sealBy 32 = .ok (.invokevirtual 39, 3) := by decide +kernel
theorem dX4_sealBy_35 : decode cX4_sealBy 35 = .ok (.imul, 1) := by decide +kernel
theorem dX4_sealBy_36 : decode cX4_sealBy 36 = .ok (.iadd, 1) := by decide +kernel
theorem dX4_sealBy_37 : decode cX4_sealBy 37 = .ok (.iload_n 1, 1) := by decide +kernel
theorem dX4_sealBy_38 : decode cX4_sealBy 38 = .ok (.iadd, 1) := by decide +kernel
theorem dX4_sealBy_39 : decode cX4_sealBy 39 = .ok (.aload_n 0, 1) := by decide +kernel
theorem dX4_sealBy_40 : decode cX4_sealBy 40 = .ok (.getfield 7, 3) := by decide +kernel
theorem dX4_sealBy_43 : decode cX4_sealBy 43 = .ok (.iconst 2, 1) := by decide +kernel
theorem dX4_sealBy_44 : decode cX4_sealBy 44 = .ok (.iaload, 1) := by decide +kernel
theorem dX4_sealBy_45 : decode cX4_sealBy 45 = .ok (.irem, 1) := by decide +kernel
theorem dX4_sealBy_46 : decode cX4_sealBy 46 = .ok (.ireturn, 1) := by decide +kernel
set_option maxRecDepth 20000 in
theorem ggX4_rightSeal_X4_of : GoodIn wsX4_rightSeal wsX4_of := goodIn_r _ [5, 6, 11, 12, 13, 14, 15, 16, 17, 18, 19, 20, 21, 22, 23] (by decide +kernel) (by decide +kernel)
set_option maxRecDepth 20000 in
theorem gX4_rightSeal_X4_of : GoodIn wsX4_rightSeal (wsV RX4 39 RX4 yX4_of wsX4_of) := goodIn_app (goodIn_of _ (by decide +kernel)) ggX4_rightSeal_X4_of
set_option maxRecDepth 20000 in
theorem ggX4_rightSeal_X4_sealBy : GoodIn wsX4_rightSeal wsX4_sealBy := goodIn_r _ [10, 6, 1, 2, 3, 4, 5, 11, 12, 13, 14, 15, 16, 17, 18, 19, 20, 21, 22, 23] (by decide +kernel) (by decide +kernel)
set_option maxRecDepth 20000 in
theorem gX4_rightSeal_X4_sealBy : GoodIn wsX4_rightSeal (wsV RX4 43 RX4 yX4_sealBy wsX4_sealBy) := goodIn_app (goodIn_of _ (by decide +kernel)) ggX4_rightSeal_X4_sealBy
theorem dX4_rightSeal_0 : decode cX4_rightSeal 0 = .ok (.aload_n 0, 1) := by decide +kernel
theorem dX4_rightSeal_1 : decode cX4_rightSeal 1 = .ok (.iload_n 1, 1) := by decide +kernel
theorem dX4_rightSeal_2 : decode cX4_rightSeal 2 = .ok (.aload_n 0, 1) := by decide +kernel
theorem dX4_rightSeal_3 : decode cX4_rightSeal 3 = .ok (.iload_n 1, 1) := by decide +kernel
theorem dX4_rightSeal_4 : decode cX4_rightSeal 4 = .ok (.iconst 0, 1) := by decide +kernel
theorem dX4_rightSeal_5 : decode cX4_rightSeal 5 = .ok (.invokevirtual 39, 3) := by decide +kernel
theorem dX4_rightSeal_8 : decode cX4_rightSeal 8 = .ok (.invokevirtual 43, 3) := by decide +kernel
theorem dX4_rightSeal_11 : decode cX4_rightSeal 11 = .ok (.ireturn, 1) := by decide +kernel
set_option maxRecDepth 20000 in
theorem ggX4_isWhole_X4_of : GoodIn wsX4_isWhole wsX4_of := goodIn_r _ [5, 6, 15, 16, 17, 18, 19, 20, 21, 22, 23, 24, 25, 26, 27] (by decide +kernel) (by decide +kernel)
set_option maxRecDepth 20000 in
theorem gX4_isWhole_X4_of : GoodIn wsX4_isWhole (wsV RX4 39 RX4 yX4_of wsX4_of) := goodIn_app (goodIn_of _ (by decide +kernel)) ggX4_isWhole_X4_of
set_option maxRecDepth 20000 in
theorem ggX4_isWhole_X4_rightSeal : GoodIn wsX4_isWhole wsX4_rightSeal := goodIn_r _ [10, 1, 2, 3, 4, 5, 6, 11, 12, 13, 14, 15, 16, 17, 18, 19, 20, 21, 22, 23, 24, 25, 26, 27] (by decide +kernel) (by decide +kernel)
set_option maxRecDepth 20000 in
theorem gX4_isWhole_X4_rightSeal : GoodIn wsX4_isWhole (wsV RX4 46 RX4 yX4_rightSeal wsX4_rightSeal) := goodIn_app (goodIn_of _ (by decide +kernel)) ggX4_isWhole_X4_rightSeal
theorem dX4_isWhole_0 : decode cX4_isWhole 0 = .ok (.aload_n 0, 1) := by decide +kernel
theorem dX4_isWhole_1 : decode cX4_isWhole 1 = .ok (.iload_n 1, 1) := by decide +kernel
theorem dX4_isWhole_2 : decode cX4_isWhole 2 = .ok (.iconst 3, 1) := by decide +kernel
theorem dX4_isWhole_3 : decode cX4_isWhole 3 = .ok (.invokevirtual 39, 3) := by decide +kernel
theorem dX4_isWhole_6 : decode cX4_isWhole 6 = .ok (.aload_n 0, 1) := by decide +kernel
theorem dX4_isWhole_7 : decode cX4_isWhole 7 = .ok (.iload_n 1, 1) := by decide +kernel
theorem dX4_isWhole_8 : decode cX4_isWhole 8 = .ok (.invokevirtual 46, 3) := by decide +kernel
theorem dX4_isWhole_11 : decode cX4_isWhole 11 = .ok (.if_icmp .ne 7, 3) := by decide +kernel
theorem dX4_isWhole_14 : decode cX4_isWhole 14 = .ok (.iconst 1, 1) := by decide +kernel
theorem dX4_isWhole_15 : decode cX4_isWhole 15 = .ok (.goto 4, 3) := by decide +kernel
theorem dX4_isWhole_18 : decode cX4_isWhole 18 = .ok (.iconst 0, 1) := by decide +kernel
theorem dX4_isWhole_19 : decode cX4_isWhole 19 = .ok (.ireturn, 1) := by decide +kernel
set_option maxRecDepth 20000 in
theorem ggX4_depth_X4_of : GoodIn wsX4_depth wsX4_of := goodIn_r _ [5, 6, 7, 8, 9, 10, 11, 12, 13, 14, 15, 16, 17, 18, 19] (by decide +kernel) (by decide +kernel)
set_option maxRecDepth 20000 in
theorem gX4_depth_X4_of : GoodIn wsX4_depth (wsV RX4 39 RX4 yX4_of wsX4_of) := goodIn_app (goodIn_of _ (by decide +kernel)) ggX4_depth_X4_of
theorem dX4_depth_0 : decode cX4_depth 0 = .ok (.iconst 0, 1) := by decide +kernel
theorem dX4_depth_1 : decode cX4_depth 1 = .ok (.istore_n 2, 1) := by decide +kernel
theorem dX4_depth_2 : decode cX4_depth 2 = .ok (.iload_n 1, 1) := by decide +kernel
theorem dX4_depth_3 : decode cX4_depth 3 = .ok (.istore_n 3, 1) := by decide +kernel
theorem dX4_depth_4 : decode cX4_depth 4 = .ok (.iload_n 3, 1) := by decide +kernel
theorem dX4_depth_5 : decode cX4_depth 5 = .ok (.ifCond .lt 16, 3) := by decide +kernel
theorem dX4_depth_8 : decode cX4_depth 8 = .ok (.iinc 2 1, 3) := by decide +kernel
theorem dX4_depth_11 : decode cX4_depth 11 = .ok (.aload_n 0, 1) := by decide +kernel
theorem dX4_depth_12 : decode cX4_depth 12 = .ok (.iload_n 3, 1) := by decide +kernel
theorem dX4_depth_13 : decode cX4_depth 13 = .ok (.iconst 2, 1) := by decide +kernel
theorem dX4_depth_14 : decode cX4_depth 14 = .ok (.invokevirtual 39, 3) := by decide +kernel
theorem dX4_depth_17 : decode cX4_depth 17 = .ok (.istore_n 3, 1) := by decide +kernel
theorem dX4_depth_18 : decode cX4_depth 18 = .ok (.goto (-14), 3) := by decide +kernel
theorem dX4_depth_21 : decode cX4_depth 21 = .ok (.iload_n 2, 1) := by decide +kernel
theorem dX4_depth_22 : decode cX4_depth 22 = .ok (.ireturn, 1) := by decide +kernel
set_option maxRecDepth 20000 in
theorem ggX4_vouchers_X4_of : GoodIn wsX4_vouchers wsX4_of := goodIn_r _ [6, 1, 7, 8, 9, 10, 11, 12, 13, 14, 15, 16, 17, 18, 19] (by decide +kernel) (by decide +kernel)
set_option maxRecDepth 20000 in
theorem gX4_vouchers_X4_of : GoodIn wsX4_vouchers (wsV RX4 39 RX4 yX4_of wsX4_of) := goodIn_app (goodIn_of _ (by decide +kernel)) ggX4_vouchers_X4_of
theorem dX4_vouchers_0 : decode cX4_vouchers 0 = .ok (.iconst 0, 1) := by decide +kernel
theorem dX4_vouchers_1 : decode cX4_vouchers 1 = .ok (.istore_n 2, 1) := by decide +kernel
theorem dX4_vouchers_2 : decode cX4_vouchers 2 = .ok (.iconst 0, 1) := by decide +kernel
theorem dX4_vouchers_3 : decode cX4_vouchers 3 = .ok (.istore_n 3, 1) := by decide +kernel
theorem dX4_vouchers_4 : decode cX4_vouchers 4 = .ok (.iload_n 3, 1) := by decide +kernel
theorem dX4_vouchers_5 : decode cX4_vouchers 5 = .ok (.aload_n 0, 1) := by decide +kernel
theorem dX4_vouchers_6 : decode cX4_vouchers 6 = .ok (.getfield 7, 3) := by decide +kernel
theorem dX4_vouchers_9 : decode cX4_vouchers 9 = .ok (.iconst 5, 1) := by decide +kernel
theorem dX4_vouchers_10 : decode cX4_vouchers 10 = .ok (.iaload, 1) := by decide +kernel
theorem dX4_vouchers_11 : decode cX4_vouchers 11 = .ok (.if_icmp .ge 27, 3) := by decide +kernel
theorem dX4_vouchers_14 : decode cX4_vouchers 14 = .ok (.iload_n 2, 1) := by decide +kernel
theorem dX4_vouchers_15 : decode cX4_vouchers 15 = .ok (.aload_n 0, 1) := by decide +kernel
theorem dX4_vouchers_16 : decode cX4_vouchers 16 = .ok (.iload_n 3, 1) := by decide +kernel
theorem dX4_vouchers_17 : decode cX4_vouchers 17 = .ok (.iconst 2, 1) := by decide +kernel
theorem dX4_vouchers_18 : decode cX4_vouchers 18 = .ok (.invokevirtual 39, 3) := by decide +kernel
theorem dX4_vouchers_21 : decode cX4_vouchers 21 = .ok (.iload_n 1, 1) := by decide +kernel
theorem dX4_vouchers_22 : decode cX4_vouchers 22 = .ok (.if_icmp .ne 7, 3) := by decide +kernel
theorem dX4_vouchers_25 : decode cX4_vouchers 25 = .ok (.iconst 1, 1) := by decide +kernel
theorem dX4_vouchers_26 : decode cX4_vouchers 26 = .ok (.goto 4, 3) := by decide +kernel
theorem dX4_vouchers_29 : decode cX4_vouchers 29 = .ok (.iconst 0, 1) := by decide +kernel
theorem dX4_vouchers_30 : decode cX4_vouchers 30 = .ok (.iadd, 1) := by decide +kernel
theorem dX4_vouchers_31 : decode cX4_vouchers 31 = .ok (.istore_n 2, 1) := by decide +kernel
theorem dX4_vouchers_32 : decode cX4_vouchers 32 = .ok (.iinc 3 1, 3) := by decide +kernel
theorem dX4_vouchers_35 : decode cX4_vouchers 35 = .ok (.goto (-31), 3) := by decide +kernel
theorem dX4_vouchers_38 : decode cX4_vouchers 38 = .ok (.iload_n 2, 1) := by decide +kernel
theorem dX4_vouchers_39 : decode cX4_vouchers 39 = .ok (.ireturn, 1) := by decide +kernel
set_option maxRecDepth 20000 in
theorem ggX4_isInChain_X4_of : GoodIn wsX4_isInChain wsX4_of := goodIn_r _ [5, 6, 7, 8, 9, 10, 11, 12, 13, 14, 15, 16, 17, 18, 19] (by decide +kernel) (by decide +kernel)
set_option maxRecDepth 20000 in
theorem gX4_isInChain_X4_of : GoodIn wsX4_isInChain (wsV RX4 39 RX4 yX4_of wsX4_of) := goodIn_app (goodIn_of _ (by decide +kernel)) ggX4_isInChain_X4_of
theorem dX4_isInChain_0 : decode cX4_isInChain 0 = .ok (.iload_n 2, 1) := by decide +kernel
theorem dX4_isInChain_1 : decode cX4_isInChain 1 = .ok (.istore_n 3, 1) := by decide +kernel
theorem dX4_isInChain_2 : decode cX4_isInChain 2 = .ok (.iload_n 3, 1) := by decide +kernel
theorem dX4_isInChain_3 : decode cX4_isInChain 3 = .ok (.ifCond .lt 18, 3) := by decide +kernel
theorem dX4_isInChain_6 : decode cX4_isInChain 6 = .ok (.iload_n 3, 1) := by decide +kernel
theorem dX4_isInChain_7 : decode cX4_isInChain 7 = .ok (.iload_n 1, 1) := by decide +kernel
theorem dX4_isInChain_8 : decode cX4_isInChain 8 = .ok (.if_icmp .eq 13, 3) := by decide +kernel
theorem dX4_isInChain_11 : decode cX4_isInChain 11 = .ok (.aload_n 0, 1) := by decide +kernel
theorem dX4_isInChain_12 : decode cX4_isInChain 12 = .ok (.iload_n 3, 1) := by decide +kernel
theorem dX4_isInChain_13 : decode cX4_isInChain 13 = .ok (.iconst 2, 1) := by decide +kernel
theorem dX4_isInChain_14 : decode cX4_isInChain 14 = .ok (.invokevirtual 39, 3) := by decide +kernel
theorem dX4_isInChain_17 : decode cX4_isInChain 17 = .ok (.istore_n 3, 1) := by decide +kernel
theorem dX4_isInChain_18 : decode cX4_isInChain 18 = .ok (.goto (-16), 3) := by decide +kernel
theorem dX4_isInChain_21 : decode cX4_isInChain 21 = .ok (.iload_n 3, 1) := by decide +kernel
theorem dX4_isInChain_22 : decode cX4_isInChain 22 = .ok (.iload_n 1, 1) := by decide +kernel
theorem dX4_isInChain_23 : decode cX4_isInChain 23 = .ok (.if_icmp .ne 7, 3) := by decide +kernel
theorem dX4_isInChain_26 : decode cX4_isInChain 26 = .ok (.iconst 1, 1) := by decide +kernel
theorem dX4_isInChain_27 : decode cX4_isInChain 27 = .ok (.goto 4, 3) := by decide +kernel
theorem dX4_isInChain_30 : decode cX4_isInChain 30 = .ok (.iconst 0, 1) := by decide +kernel
theorem dX4_isInChain_31 : decode cX4_isInChain 31 = .ok (.ireturn, 1) := by decide +kernel
set_option maxRecDepth 20000 in
theorem ggX4_refusesCart_X4_isCart : GoodIn wsX4_refusesCart wsX4_isCart := goodIn_r _ [6, 1, 7, 8, 5, 9, 10, 11, 12, 13, 14, 15, 16, 17, 18, 19, 20, 21, 22] (by decide +kernel) (by decide +kernel)
set_option maxRecDepth 20000 in
theorem gX4_refusesCart_X4_isCart : GoodIn wsX4_refusesCart (wsV RX4 50 RX4 yX4_isCart wsX4_isCart) := goodIn_app (goodIn_of _ (by decide +kernel)) ggX4_refusesCart_X4_isCart
set_option maxRecDepth 20000 in
theorem ggX4_refusesCart_X4_in : GoodIn wsX4_refusesCart wsX4_in := goodIn_r _ [9] (by decide +kernel) (by decide +kernel)
set_option maxRecDepth 20000 in
theorem gX4_refusesCart_X4_in : GoodIn wsX4_refusesCart (va_wsS RX4 32 yX4_in wsX4_in) := goodIn_app (goodIn_of _ (by decide +kernel)) ggX4_refusesCart_X4_in
theorem dX4_refusesCart_0 : decode cX4_refusesCart 0 = .ok (.iload_n 3, 1) := by decide +kernel
theorem dX4_refusesCart_1 : decode cX4_refusesCart 1 = .ok (.iconst (-1), 1) := by decide +kernel
theorem dX4_refusesCart_2 : decode cX4_refusesCart 2 = .ok (.if_icmp .eq 13, 3) := by decide +kernel
theorem dX4_refusesCart_5 : decode cX4_refusesCart 5 = .ok (.aload_n 0, 1) := by decide +kernel
theorem dX4_refusesCart_6 : decode cX4_refusesCart 6 = .ok (.iload_n 3, 1) := by decide +kernel
theorem dX4_refusesCart_7 : decode cX4_refusesCart 7 = .ok (.invokevirtual 50, 3) := by decide +kernel
theorem dX4_refusesCart_10 : decode cX4_refusesCart 10 = .ok (.ifCond .ne 5, 3) := by decide +kernel
theorem dX4_refusesCart_13 : decode cX4_refusesCart 13 = .ok (.iconst (-1), 1) := by decide +kernel
theorem dX4_refusesCart_14 : decode cX4_refusesCart 14 = .ok (.ireturn, 1) := by decide +kernel
theorem dX4_refusesCart_15 : decode cX4_refusesCart 15 = .ok (.iload_n 1, 1) := by decide +kernel
theorem dX4_refusesCart_16 : decode cX4_refusesCart 16 = .ok (.iconst 0, 1) := by decide +kernel
theorem dX4_refusesCart_17 : decode cX4_refusesCart 17 = .ok (.bipush 99, 2) := by decide +kernel
theorem dX4_refusesCart_19 : decode cX4_refusesCart 19 = .ok (.invokestatic 32, 3) := by decide +kernel
theorem dX4_refusesCart_22 : decode cX4_refusesCart 22 = .ok (.ifCond .eq 13, 3) := by decide +kernel
theorem dX4_refusesCart_25 : decode cX4_refusesCart 25 = .ok (.iload_n 2, 1) := by decide +kernel
theorem dX4_refusesCart_26 : decode cX4_refusesCart 26 = .ok (.iconst 0, 1) := by decide +kernel
theorem dX4_refusesCart_27 : decode cX4_refusesCart 27 = .ok (.bipush 99, 2) := by decide +kernel
theorem dX4_refusesCart_29 : decode cX4_refusesCart 29 = .ok (.invokestatic 32, 3) := by decide +kernel
theorem dX4_refusesCart_32 : decode cX4_refusesCart 32 = .ok (.ifCond .ne 6, 3) := by decide +kernel
theorem dX4_refusesCart_35 : decode cX4_refusesCart 35 = .ok (.bipush (-2), 2) := by decide +kernel
theorem dX4_refusesCart_37 : decode cX4_refusesCart 37 = .ok (.ireturn, 1) := by decide +kernel
theorem dX4_refusesCart_38 : decode cX4_refusesCart 38 = .ok (.aload_n 0, 1) := by decide +kernel
theorem dX4_refusesCart_39 : decode cX4_refusesCart 39 = .ok (.getfield 7, 3) := by decide +kernel
theorem dX4_refusesCart_42 : decode cX4_refusesCart 42 = .ok (.iconst 5, 1) := by decide +kernel
theorem dX4_refusesCart_43 : decode cX4_refusesCart 43 = .ok (.iaload, 1) := by decide +kernel
theorem dX4_refusesCart_44 : decode cX4_refusesCart 44 = .ok (.bipush 24, 2) := by decide +kernel
theorem dX4_refusesCart_46 : decode cX4_refusesCart 46 = .ok (.if_icmp .ne 8, 3) := by decide +kernel
theorem dX4_refusesCart_49 : decode cX4_refusesCart 49 = .ok (.bipush (-3), 2) := by decide +kernel
theorem dX4_refusesCart_51 : decode cX4_refusesCart 51 = .ok (.goto 4, 3) := by decide +kernel
theorem dX4_refusesCart_54 : decode cX4_refusesCart 54 = .ok (.iconst 0, 1) := by decide +kernel
theorem dX4_refusesCart_55 : decode cX4_refusesCart 55 = .ok (.ireturn, 1) := by decide +kernel
set_option maxRecDepth 20000 in
theorem ggX4_comes_X4_lay : GoodIn wsX4_comes wsX4_lay := goodIn_r _ [6, 1, 19, 20, 21, 22, 23, 24, 25, 26, 27, 28, 29, 30, 31] (by decide +kernel) (by decide +kernel)
set_option maxRecDepth 20000 in
theorem gX4_comes_X4_lay : GoodIn wsX4_comes (wsV RX4 54 RX4 yX4_lay wsX4_lay) := goodIn_app (goodIn_of _ (by decide +kernel)) ggX4_comes_X4_lay
set_option maxRecDepth 20000 in
theorem ggX4_comes_X4_rightSeal : GoodIn wsX4_comes wsX4_rightSeal := goodIn_r _ [10, 11, 12, 13, 5, 14, 1, 15, 16, 17, 18, 19, 20, 21, 22, 23, 24, 25, 26, 27, 28, 29, 30, 31] (by decide +kernel) (by decide +kernel)
set_option maxRecDepth 20000 in
theorem gX4_comes_X4_rightSeal : GoodIn wsX4_comes (wsV RX4 46 RX4 yX4_rightSeal wsX4_rightSeal) := goodIn_app (goodIn_of _ (by decide +kernel)) ggX4_comes_X4_rightSeal
theorem dX4_comes_0 : decode cX4_comes 0 = .ok (.aload_n 0, 1) := by decide +kernel
theorem dX4_comes_1 : decode cX4_comes 1 = .ok (.getfield 7, 3) := by decide +kernel
theorem dX4_comes_4 : decode cX4_comes 4 = .ok (.iconst 5, 1) := by decide +kernel
theorem dX4_comes_5 : decode cX4_comes 5 = .ok (.iaload, 1) := by decide +kernel
theorem dX4_comes_6 : decode cX4_comes 6 = .ok (.istore 4, 2) := by decide +kernel
theorem dX4_comes_8 : decode cX4_comes 8 = .ok (.aload_n 0, 1) := by decide +kernel
theorem dX4_comes_9 : decode cX4_comes 9 = .ok (.iload 4, 2) := by decide +kernel
theorem dX4_comes_11 : decode cX4_comes 11 = .ok (.iconst 0, 1) := by decide +kernel
theorem dX4_comes_12 : decode cX4_comes 12 = .ok (.iload_n 1, 1) := by decide +kernel
theorem dX4_comes_13 : decode cX4_comes 13 = .ok (.invokevirtual 54, 3) := by decide +kernel
theorem dX4_comes_16 : decode cX4_comes 16 = .ok (.aload_n 0, 1) := by decide +kernel
theorem dX4_comes_17 : decode cX4_comes 17 = .ok (.iload 4, 2) := by decide +kernel
theorem dX4_comes_19 : decode cX4_comes 19 = .ok (.iconst 1, 1) := by decide +kernel
theorem dX4_comes_20 : decode cX4_comes 20 = .ok (.iload_n 2, 1) := by decide +kernel
theorem dX4_comes_21 : decode cX4_comes 21 = .ok (.invokevirtual 54, 3) := by decide +kernel
theorem dX4_comes_24 : decode cX4_comes 24 = .ok (.aload_n 0, 1) := by decide +kernel
theorem dX4_comes_25 : decode cX4_comes 25 = .ok (.iload 4, 2) := by decide +kernel
theorem dX4_comes_27 : decode cX4_comes 27 = .ok (.iconst 2, 1) := by decide +kernel
theorem dX4_comes_28 : decode cX4_comes 28 = .ok (.iload_n 3, 1) := by decide +kernel
theorem dX4_comes_29 : decode cX4_comes 29 = .ok (.invokevirtual 54, 3) := by decide +kernel
theorem dX4_comes_32 : decode cX4_comes 32 = .ok (.aload_n 0, 1) := by decide +kernel
theorem dX4_comes_33 : decode cX4_comes 33 = .ok (.iload 4, 2) := by decide +kernel
theorem dX4_comes_35 : decode cX4_comes 35 = .ok (.iconst 3, 1) := by decide +kernel
theorem dX4_comes_36 : decode cX4_comes 36 = .ok (.aload_n 0, 1) := by decide +kernel
theorem dX4_comes_37 : decode cX4_comes 37 = .ok (.iload 4, 2) := by decide +kernel
theorem dX4_comes_39 : decode cX4_comes 39 = .ok (.invokevirtual 46, 3) := by decide +kernel
theorem dX4_comes_42 : decode cX4_comes 42 = .ok (.invokevirtual 54, 3) := by decide +kernel
theorem dX4_comes_45 : decode cX4_comes 45 = .ok (.aload_n 0, 1) := by decide +kernel
theorem dX4_comes_46 : decode cX4_comes 46 = .ok (.getfield 7, 3) := by decide +kernel
theorem dX4_comes_49 : decode cX4_comes 49 = .ok (.iconst 5, 1) := by decide +kernel
theorem dX4_comes_50 : decode cX4_comes 50 = .ok (.dup2, 1) := by decide +kernel
theorem dX4_comes_51 : decode cX4_comes 51 = .ok (.iaload, 1) := by decide +kernel
theorem dX4_comes_52 : decode cX4_comes 52 = .ok (.iconst 1, 1) := by decide +kernel
theorem dX4_comes_53 : decode cX4_comes 53 = .ok (.iadd, 1) := by decide +kernel
theorem dX4_comes_54 : decode cX4_comes 54 = .ok (.iastore, 1) := by decide +kernel
theorem dX4_comes_55 : decode cX4_comes 55 = .ok (.aload_n 0, 1) := by decide +kernel
theorem dX4_comes_56 : decode cX4_comes 56 = .ok (.getfield 7, 3) := by decide +kernel
theorem dX4_comes_59 : decode cX4_comes 59 = .ok (.bipush 6, 2) := by decide +kernel
theorem dX4_comes_61 : decode cX4_comes 61 = .ok (.dup2, 1) := by decide +kernel
theorem dX4_comes_62 : decode cX4_comes 62 = .ok (.iaload, 1) := by decide +kernel
theorem dX4_comes_63 : decode cX4_comes 63 = .ok (.iload_n 1, 1) := by decide +kernel
theorem dX4_comes_64 : decode cX4_comes 64 = .ok (.iadd, 1) := by decide +kernel
theorem dX4_comes_65 : decode cX4_comes 65 = .ok (.iastore, 1) := by decide +kernel
theorem dX4_comes_66 : decode cX4_comes 66 = .ok (.iload 4, 2) := by decide +kernel
theorem dX4_comes_68 : decode cX4_comes 68 = .ok (.ireturn, 1) := by decide +kernel
set_option maxRecDepth 20000 in
theorem ggX4_come_X4_refusesCart : GoodIn wsX4_come wsX4_refusesCart := goodIn_r _ [6, 7, 8, 9, 10, 5, 11, 12, 13, 14, 41, 42, 43, 44, 45, 46, 47, 48, 49, 50, 51, 52, 53] (by decide +kernel) (by decide +kernel)
set_option maxRecDepth 20000 in
theorem gX4_come_X4_refusesCart : GoodIn wsX4_come (wsV RX4 58 RX4 yX4_refusesCart wsX4_refusesCart) := goodIn_app (goodIn_of _ (by decide +kernel)) ggX4_come_X4_refusesCart
set_option maxRecDepth 20000 in
theorem ggX4_come_X4_records : GoodIn wsX4_come wsX4_records := goodIn_r _ [18, 19, 20, 7, 41, 42, 43, 44, 45, 46, 47, 48, 49, 50, 51, 52, 53] (by decide +kernel) (by decide +kernel)
set_option maxRecDepth 20000 in
theorem gX4_come_X4_records : GoodIn wsX4_come (wsV RX4 62 RX4 yX4_records wsX4_records) := goodIn_app (goodIn_of _ (by decide +kernel)) ggX4_come_X4_records
set_option maxRecDepth 20000 in
theorem ggX4_come_X4_comes : GoodIn wsX4_come wsX4_comes := goodIn_r _ [24, 7, 25, 26, 27, 5, 28, 29, 30, 31, 32, 33, 34, 35, 36, 37, 38, 39, 40, 41, 42, 43, 44, 45, 46, 47, 48, 49, 50, 51, 52, 53] (by decide +kernel) (by decide +kernel)
set_option maxRecDepth 20000 in
theorem gX4_come_X4_comes : GoodIn wsX4_come (wsV RX4 65 RX4 yX4_comes wsX4_comes) := goodIn_app (goodIn_of _ (by decide +kernel)) ggX4_come_X4_comes
theorem dX4_come_0 : decode cX4_come 0 = .ok (.aload_n 0, 1) := by decide +kernel
theorem dX4_come_1 : decode cX4_come 1 = .ok (.iconst 0, 1) := by decide +kernel
theorem dX4_come_2 : decode cX4_come 2 = .ok (.putfield 28, 3) := by decide +kernel
theorem dX4_come_5 : decode cX4_come 5 = .ok (.aload_n 0, 1) := by decide +kernel
theorem dX4_come_6 : decode cX4_come 6 = .ok (.iload_n 1, 1) := by decide +kernel
theorem dX4_come_7 : decode cX4_come 7 = .ok (.iload_n 2, 1) := by decide +kernel
theorem dX4_come_8 : decode cX4_come 8 = .ok (.iload_n 3, 1) := by decide +kernel
theorem dX4_come_9 : decode cX4_come 9 = .ok (.invokevirtual 58, 3) := by decide +kernel
theorem dX4_come_12 : decode cX4_come 12 = .ok (.istore 4, 2) := by decide +kernel
theorem dX4_come_14 : decode cX4_come 14 = .ok (.iload 4, 2) := by decide +kernel
theorem dX4_come_16 : decode cX4_come 16 = .ok (.ifCond .eq 6, 3) := by decide +kernel
theorem dX4_come_19 : decode cX4_come 19 = .ok (.iload 4, 2) := by decide +kernel
theorem dX4_come_21 : decode cX4_come 21 = .ok (.ireturn, 1) := by decide +kernel
theorem dX4_come_22 : decode cX4_come 22 = .ok (.aload_n 0, 1) := by decide +kernel
theorem dX4_come_23 : decode cX4_come 23 = .ok (.invokevirtual 62, 3) := by decide +kernel
theorem dX4_come_26 : decode cX4_come 26 = .ok (.aload_n 0, 1) := by decide +kernel
theorem dX4_come_27 : decode cX4_come 27 = .ok (.iload_n 1, 1) := by decide +kernel
theorem dX4_come_28 : decode cX4_come 28 = .ok (.iload_n 2, 1) := by decide +kernel
theorem dX4_come_29 : decode cX4_come 29 = .ok (.iload_n 3, 1) := by decide +kernel
theorem dX4_come_30 : decode cX4_come 30 = .ok (.invokevirtual 65, 3) := by decide +kernel
theorem dX4_come_33 : decode cX4_come 33 = .ok (.ireturn, 1) := by decide +kernel
set_option maxRecDepth 20000 in
theorem ggX4_refusesAltering_X4_isCart : GoodIn wsX4_refusesAltering wsX4_isCart := goodIn_r _ [5, 6, 7, 8, 4, 9, 14, 15, 16, 17, 18, 19, 20, 21, 22, 23, 24, 25, 26] (by decide +kernel) (by decide +kernel)
set_option maxRecDepth 20000 in
theorem gX4_refusesAltering_X4_isCart : GoodIn wsX4_refusesAltering (wsV RX4 50 RX4 yX4_isCart wsX4_isCart) := goodIn_app (goodIn_of _ (by decide +kernel)) ggX4_refusesAltering_X4_isCart
set_option maxRecDepth 20000 in
theorem ggX4_refusesAltering_X4_in : GoodIn wsX4_refusesAltering wsX4_in := goodIn_r _ [9] (by decide +kernel) (by decide +kernel)
set_option maxRecDepth 20000 in
theorem gX4_refusesAltering_X4_in : GoodIn wsX4_refusesAltering (va_wsS RX4 32 yX4_in wsX4_in) := goodIn_app (goodIn_of _ (by decide +kernel)) ggX4_refusesAltering_X4_in
set_option maxRecDepth 20000 in
theorem ggX4_refusesAltering_X4_of : GoodIn wsX4_refusesAltering wsX4_of := goodIn_r _ [13, 6, 14, 15, 16, 17, 18, 19, 20, 21, 22, 23, 24, 25, 26] (by decide +kernel) (by decide +kernel)
set_option maxRecDepth 20000 in
theorem gX4_refusesAltering_X4_of : GoodIn wsX4_refusesAltering (wsV RX4 39 RX4 yX4_of wsX4_of) := goodIn_app (goodIn_of _ (by decide +kernel)) ggX4_refusesAltering_X4_of
theorem dX4_refusesAltering_0 : decode cX4_refusesAltering 0 = .ok (.aload_n 0, 1) := by decide +kernel
theorem dX4_refusesAltering_1 : decode cX4_refusesAltering 1 = .ok (.iload_n 1, 1) := by decide +kernel
theorem dX4_refusesAltering_2 : decode cX4_refusesAltering 2 = .ok (.invokevirtual 50, 3) := by decide +kernel
theorem dX4_refusesAltering_5 : decode cX4_refusesAltering 5 = .ok (.ifCond .ne 5, 3) := by decide +kernel
theorem dX4_refusesAltering_8 : decode cX4_refusesAltering 8 = .ok (.iconst (-1), 1) := by decide +kernel
theorem dX4_refusesAltering_9 : decode cX4_refusesAltering 9 = .ok (.ireturn, 1) := by decide +kernel
theorem dX4_refusesAltering_10 : decode cX4_refusesAltering 10 = .ok (.iload_n 2, 1) := by decide +kernel
theorem dX4_refusesAltering_11 : decode cX4_refusesAltering 11 = .ok (.iconst 0, 1) := by decide +kernel
theorem dX4_refusesAltering_12 : decode cX4_refusesAltering 12 = .ok (.bipush 99, 2) := by decide +kernel
theorem dX4_refusesAltering_14 : decode cX4_refusesAltering 14 = .ok (.invokestatic 32, 3) := by decide +kernel
theorem dX4_refusesAltering_17 : decode cX4_refusesAltering 17 = .ok (.ifCond .ne 6, 3) := by decide +kernel
theorem dX4_refusesAltering_20 : decode cX4_refusesAltering 20 = .ok (.bipush (-2), 2) := by decide +kernel
theorem dX4_refusesAltering_22 : decode cX4_refusesAltering 22 = .ok (.ireturn, 1) := by decide +kernel
theorem dX4_refusesAltering_23 : decode cX4_refusesAltering 23 = .ok (.aload_n 0, 1) := by decide +kernel
theorem dX4_refusesAltering_24 : decode cX4_refusesAltering 24 = .ok (.iload_n 1, 1) := by decide +kernel
theorem dX4_refusesAltering_25 : decode cX4_refusesAltering 25 = .ok (.iconst 4, 1) := by decide +kernel
theorem dX4_refusesAltering_26 : decode cX4_refusesAltering 26 = .ok (.invokevirtual 39, 3) := by decide +kernel
theorem dX4_refusesAltering_29 : decode cX4_refusesAltering 29 = .ok (.iconst 1, 1) := by decide +kernel
theorem dX4_refusesAltering_30 : decode cX4_refusesAltering 30 = .ok (.if_icmp .ne 8, 3) := by decide +kernel
theorem dX4_refusesAltering_33 : decode cX4_refusesAltering 33 = .ok (.bipush (-4), 2) := by decide +kernel
theorem dX4_refusesAltering_35 : decode cX4_refusesAltering 35 = .ok (.goto 19, 3) := by decide +kernel
theorem dX4_refusesAltering_38 : decode cX4_refusesAltering 38 = .ok (.aload_n 0, 1) := by decide +kernel
theorem dX4_refusesAltering_39 : decode cX4_refusesAltering 39 = .ok (.iload_n 1, 1) := by decide +kernel
theorem dX4_refusesAltering_40 : decode cX4_refusesAltering 40 = .ok (.iconst 0, 1) := by decide +kernel
theorem dX4_refusesAltering_41 : decode cX4_refusesAltering 41 = .ok (.invokevirtual 39, 3) := by decide +kernel
theorem dX4_refusesAltering_44 : decode cX4_refusesAltering 44 = .ok (.iload_n 2, 1) := by decide +kernel
theorem dX4_refusesAltering_45 : decode cX4_refusesAltering 45 = .ok (.if_icmp .ne 8, 3) := by decide +kernel
theorem dX4_refusesAltering_48 : decode cX4_refusesAltering 48 = .ok (.bipush (-5), 2) := by decide +kernel
theorem dX4_refusesAltering_50 : decode cX4_refusesAltering 50 = .ok (.goto 4, 3) := by decide +kernel
theorem dX4_refusesAltering_53 : decode cX4_refusesAltering 53 = .ok (.iconst 0, 1) := by decide +kernel
theorem dX4_refusesAltering_54 : decode cX4_refusesAltering 54 = .ok (.ireturn, 1) := by decide +kernel
set_option maxRecDepth 20000 in
theorem ggX4_alter_X4_refusesAltering : GoodIn wsX4_alter wsX4_refusesAltering := goodIn_r _ [6, 7, 8, 9, 5, 10, 11, 12, 13, 14, 15, 16, 17, 18, 29, 30, 31, 32, 33, 34, 35, 36, 37, 38, 39, 40, 41] (by decide +kernel) (by decide +kernel)
set_option maxRecDepth 20000 in
theorem gX4_alter_X4_refusesAltering : GoodIn wsX4_alter (wsV RX4 68 RX4 yX4_refusesAltering wsX4_refusesAltering) := goodIn_app (goodIn_of _ (by decide +kernel)) ggX4_alter_X4_refusesAltering
set_option maxRecDepth 20000 in
theorem ggX4_alter_X4_records : GoodIn wsX4_alter wsX4_records := goodIn_r _ [22, 23, 24, 11, 29, 30, 31, 32, 33, 34, 35, 36, 37, 38, 39, 40, 41] (by decide +kernel) (by decide +kernel)
set_option maxRecDepth 20000 in
theorem gX4_alter_X4_records : GoodIn wsX4_alter (wsV RX4 62 RX4 yX4_records wsX4_records) := goodIn_app (goodIn_of _ (by decide +kernel)) ggX4_alter_X4_records
set_option maxRecDepth 20000 in
theorem ggX4_alter_X4_of : GoodIn wsX4_alter wsX4_of := goodIn_r _ [18, 11, 29, 30, 31, 32, 33, 34, 35, 36, 37, 38, 39, 40, 41] (by decide +kernel) (by decide +kernel)
set_option maxRecDepth 20000 in
theorem gX4_alter_X4_of : GoodIn wsX4_alter (wsV RX4 39 RX4 yX4_of wsX4_of) := goodIn_app (goodIn_of _ (by decide +kernel)) ggX4_alter_X4_of
set_option maxRecDepth 20000 in
theorem ggX4_alter_X4_lay : GoodIn wsX4_alter wsX4_lay := goodIn_r _ [28, 11, 29, 30, 31, 32, 33, 34, 35, 36, 37, 38, 39, 40, 41] (by decide +kernel) (by decide +kernel)
set_option maxRecDepth 20000 in
theorem gX4_alter_X4_lay : GoodIn wsX4_alter (wsV RX4 54 RX4 yX4_lay wsX4_lay) := goodIn_app (goodIn_of _ (by decide +kernel)) ggX4_alter_X4_lay
theorem dX4_alter_0 : decode cX4_alter 0 = .ok (.aload_n 0, 1) := by decide +kernel
theorem dX4_alter_1 : decode cX4_alter 1 = .ok (.iconst 0, 1) := by decide +kernel
theorem dX4_alter_2 : decode cX4_alter 2 = .ok (.putfield 28, 3) := by decide +kernel
theorem dX4_alter_5 : decode cX4_alter 5 = .ok (.aload_n 0, 1) := by decide +kernel
theorem dX4_alter_6 : decode cX4_alter 6 = .ok (.iload_n 1, 1) := by decide +kernel
theorem dX4_alter_7 : decode cX4_alter 7 = .ok (.iload_n 2, 1) := by decide +kernel
theorem dX4_alter_8 : decode cX4_alter 8 = .ok (.invokevirtual 68, 3) := by decide +kernel
theorem dX4_alter_11 : decode cX4_alter 11 = .ok (.istore_n 3, 1) := by decide +kernel
theorem dX4_alter_12 : decode cX4_alter 12 = .ok (.iload_n 3, 1) := by decide +kernel
theorem dX4_alter_13 : decode cX4_alter 13 = .ok (.ifCond .eq 5, 3) := by decide +kernel
theorem dX4_alter_16 : decode cX4_alter 16 = .ok (.iload_n 3, 1) := by decide +kernel
theorem dX4_alter_17 : decode cX4_alter 17 = .ok (.ireturn, 1) := by decide +kernel
theorem dX4_alter_18 : decode cX4_alter 18 = .ok (.aload_n 0, 1) := by decide +kernel
theorem dX4_alter_19 : decode cX4_alter 19 = .ok (.invokevirtual 62, 3) := by decide +kernel
theorem dX4_alter_22 : decode cX4_alter 22 = .ok (.aload_n 0, 1) := by decide +kernel
theorem dX4_alter_23 : decode cX4_alter 23 = .ok (.iload_n 1, 1) := by decide +kernel
theorem dX4_alter_24 : decode cX4_alter 24 = .ok (.iconst 0, 1) := by decide +kernel
theorem dX4_alter_25 : decode cX4_alter 25 = .ok (.invokevirtual 39, 3) := by decide +kernel
theorem dX4_alter_28 : decode cX4_alter 28 = .ok (.istore 4, 2) := by decide +kernel
theorem dX4_alter_30 : decode cX4_alter 30 = .ok (.aload_n 0, 1) := by decide +kernel
theorem dX4_alter_31 : decode cX4_alter 31 = .ok (.iload_n 1, 1) := by decide +kernel
theorem dX4_alter_32 : decode cX4_alter 32 = .ok (.iconst 0, 1) := by decide +kernel
theorem dX4_alter_33 : decode cX4_alter 33 = .ok (.iload_n 2, 1) := by decide +kernel
theorem dX4_alter_34 : decode cX4_alter 34 = .ok (.invokevirtual 54, 3) := by decide +kernel
theorem dX4_alter_37 : decode cX4_alter 37 = .ok (.iload 4, 2) := by decide +kernel
theorem dX4_alter_39 : decode cX4_alter 39 = .ok (.ireturn, 1) := by decide +kernel
set_option maxRecDepth 20000 in
theorem ggX4_refusesSeal_X4_isCart : GoodIn wsX4_refusesSeal wsX4_isCart := goodIn_r _ [5, 6, 7, 8, 4, 9, 26, 27, 28, 29, 30, 31, 32, 33, 34, 35, 36, 37, 38] (by decide +kernel) (by decide +kernel)
set_option maxRecDepth 20000 in
theorem gX4_refusesSeal_X4_isCart : GoodIn wsX4_refusesSeal (wsV RX4 50 RX4 yX4_isCart wsX4_isCart) := goodIn_app (goodIn_of _ (by decide +kernel)) ggX4_refusesSeal_X4_isCart
set_option maxRecDepth 20000 in
theorem ggX4_refusesSeal_X4_isWhole : GoodIn wsX4_refusesSeal wsX4_isWhole := goodIn_r _ [13, 14, 15, 16, 4, 17, 6, 18, 19, 20, 21, 22, 23, 24, 25, 26, 27, 28, 29, 30, 31, 32, 33, 34, 35, 36, 37, 38] (by decide +kernel) (by decide +kernel)
set_option maxRecDepth 20000 in
theorem gX4_refusesSeal_X4_isWhole : GoodIn wsX4_refusesSeal (wsV RX4 71 RX4 yX4_isWhole wsX4_isWhole) := goodIn_app (goodIn_of _ (by decide +kernel)) ggX4_refusesSeal_X4_isWhole
theorem dX4_refusesSeal_0 : decode cX4_refusesSeal 0 = .ok (.aload_n 0, 1) := by decide +kernel
theorem dX4_refusesSeal_1 : decode cX4_refusesSeal 1 = .ok (.iload_n 1, 1) := by decide +kernel
theorem dX4_refusesSeal_2 : decode cX4_refusesSeal 2 = .ok (.invokevirtual 50, 3) := by decide +kernel
theorem dX4_refusesSeal_5 : decode cX4_refusesSeal 5 = .ok (.ifCond .ne 7, 3) := by decide +kernel
theorem dX4_refusesSeal_8 : decode cX4_refusesSeal 8 = .ok (.iconst (-1), 1) := by decide +kernel
theorem dX4_refusesSeal_9 : decode cX4_refusesSeal 9 = .ok (.goto 17, 3) := by decide +kernel
theorem dX4_refusesSeal_12 : decode cX4_refusesSeal 12 = .ok (.aload_n 0, 1) := by decide +kernel
theorem dX4_refusesSeal_13 : decode cX4_refusesSeal 13 = .ok (.iload_n 1, 1) := by decide +kernel
theorem dX4_refusesSeal_14 : decode cX4_refusesSeal 14 = .ok (.invokevirtual 71, 3) := by decide +kernel
theorem dX4_refusesSeal_17 : decode cX4_refusesSeal 17 = .ok (.ifCond .eq 8, 3) := by decide +kernel
theorem dX4_refusesSeal_20 : decode cX4_refusesSeal 20 = .ok (.bipush (-5), 2) := by decide +kernel
theorem dX4_refusesSeal_22 : decode cX4_refusesSeal 22 = .ok (.goto 4, 3) := by decide +kernel
theorem dX4_refusesSeal_25 : decode cX4_refusesSeal 25 = .ok (.iconst 0, 1) := by decide +kernel
theorem dX4_refusesSeal_26 : decode cX4_refusesSeal 26 = .ok (.ireturn, 1) := by decide +kernel
set_option maxRecDepth 20000 in
theorem ggX4_reseal_X4_refusesSeal : GoodIn wsX4_reseal wsX4_refusesSeal := goodIn_r _ [6, 7, 8, 9, 5, 10, 11, 12, 13, 14, 15, 16, 17, 18, 19, 20, 21, 22, 23, 24, 25, 26, 27, 28, 29, 30, 41, 42, 43, 44, 45, 46, 47, 48, 49, 50, 51, 52, 53] (by decide +kernel) (by decide +kernel)
set_option maxRecDepth 20000 in
theorem gX4_reseal_X4_refusesSeal : GoodIn wsX4_reseal (wsV RX4 74 RX4 yX4_refusesSeal wsX4_refusesSeal) := goodIn_app (goodIn_of _ (by decide +kernel)) ggX4_reseal_X4_refusesSeal
set_option maxRecDepth 20000 in
theorem ggX4_reseal_X4_records : GoodIn wsX4_reseal wsX4_records := goodIn_r _ [34, 35, 36, 11, 41, 42, 43, 44, 45, 46, 47, 48, 49, 50, 51, 52, 53] (by decide +kernel) (by decide +kernel)
set_option maxRecDepth 20000 in
theorem gX4_reseal_X4_records : GoodIn wsX4_reseal (wsV RX4 62 RX4 yX4_records wsX4_records) := goodIn_app (goodIn_of _ (by decide +kernel)) ggX4_reseal_X4_records
set_option maxRecDepth 20000 in
theorem ggX4_reseal_X4_of : GoodIn wsX4_reseal wsX4_of := goodIn_r _ [22, 11, 41, 42, 43, 44, 45, 46, 47, 48, 49, 50, 51, 52, 53] (by decide +kernel) (by decide +kernel)
set_option maxRecDepth 20000 in
theorem gX4_reseal_X4_of : GoodIn wsX4_reseal (wsV RX4 39 RX4 yX4_of wsX4_of) := goodIn_app (goodIn_of _ (by decide +kernel)) ggX4_reseal_X4_of
set_option maxRecDepth 20000 in
theorem ggX4_reseal_X4_rightSeal : GoodIn wsX4_reseal wsX4_rightSeal := goodIn_r _ [26, 19, 20, 21, 5, 22, 11, 27, 28, 29, 30, 41, 42, 43, 44, 45, 46, 47, 48, 49, 50, 51, 52, 53] (by decide +kernel) (by decide +kernel)
set_option maxRecDepth 20000 in
theorem gX4_reseal_X4_rightSeal : GoodIn wsX4_reseal (wsV RX4 46 RX4 yX4_rightSeal wsX4_rightSeal) := goodIn_app (goodIn_of _ (by decide +kernel)) ggX4_reseal_X4_rightSeal
set_option maxRecDepth 20000 in
theorem ggX4_reseal_X4_lay : GoodIn wsX4_reseal wsX4_lay := goodIn_r _ [40, 11, 41, 42, 43, 44, 45, 46, 47, 48, 49, 50, 51, 52, 53] (by decide +kernel) (by decide +kernel)
set_option maxRecDepth 20000 in
theorem gX4_reseal_X4_lay : GoodIn wsX4_reseal (wsV RX4 54 RX4 yX4_lay wsX4_lay) := goodIn_app (goodIn_of _ (by decide +kernel)) ggX4_reseal_X4_lay
theorem dX4_reseal_0 : decode cX4_reseal 0 = .ok (.aload_n 0, 1) := by decide +kernel
theorem dX4_reseal_1 : decode cX4_reseal 1 = .ok (.iconst 0, 1) := by decide +kernel
theorem dX4_reseal_2 : decode cX4_reseal 2 = .ok (.putfield 28, 3) := by decide +kernel
theorem dX4_reseal_5 : decode cX4_reseal 5 = .ok (.aload_n 0, 1) := by decide +kernel
theorem dX4_reseal_6 : decode cX4_reseal 6 = .ok (.iload_n 1, 1) := by decide +kernel
theorem dX4_reseal_7 : decode cX4_reseal 7 = .ok (.invokevirtual 74, 3) := by decide +kernel
theorem dX4_reseal_10 : decode cX4_reseal 10 = .ok (.istore_n 2, 1) := by decide +kernel
theorem dX4_reseal_11 : decode cX4_reseal 11 = .ok (.iload_n 2, 1) := by decide +kernel
theorem dX4_reseal_12 : decode cX4_reseal 12 = .ok (.ifCond .eq 5, 3) := by decide +kernel
theorem dX4_reseal_15 : decode cX4_reseal 15 = .ok (.iload_n 2, 1) := by decide +kernel
theorem dX4_reseal_16 : decode cX4_reseal 16 = .ok (.ireturn, 1) := by decide +kernel
theorem dX4_reseal_17 : decode cX4_reseal 17 = .ok (.aload_n 0, 1) := by decide +kernel
theorem dX4_reseal_18 : decode cX4_reseal 18 = .ok (.invokevirtual 62, 3) := by decide +kernel
theorem dX4_reseal_21 : decode cX4_reseal 21 = .ok (.aload_n 0, 1) := by decide +kernel
theorem dX4_reseal_22 : decode cX4_reseal 22 = .ok (.iload_n 1, 1) := by decide +kernel
theorem dX4_reseal_23 : decode cX4_reseal 23 = .ok (.iconst 3, 1) := by decide +kernel
theorem dX4_reseal_24 : decode cX4_reseal 24 = .ok (.invokevirtual 39, 3) := by decide +kernel
theorem dX4_reseal_27 : decode cX4_reseal 27 = .ok (.istore_n 3, 1) := by decide +kernel
theorem dX4_reseal_28 : decode cX4_reseal 28 = .ok (.aload_n 0, 1) := by decide +kernel
theorem dX4_reseal_29 : decode cX4_reseal 29 = .ok (.iload_n 1, 1) := by decide +kernel
theorem dX4_reseal_30 : decode cX4_reseal 30 = .ok (.iconst 3, 1) := by decide +kernel
theorem dX4_reseal_31 : decode cX4_reseal 31 = .ok (.aload_n 0, 1) := by decide +kernel
theorem dX4_reseal_32 : decode cX4_reseal 32 = .ok (.iload_n 1, 1) := by decide +kernel
theorem dX4_reseal_33 : decode cX4_reseal 33 = .ok (.invokevirtual 46, 3) := by decide +kernel
theorem dX4_reseal_36 : decode cX4_reseal 36 = .ok (.invokevirtual 54, 3) := by decide +kernel
theorem dX4_reseal_39 : decode cX4_reseal 39 = .ok (.iload_n 3, 1) := by decide +kernel
theorem dX4_reseal_40 : decode cX4_reseal 40 = .ok (.ireturn, 1) := by decide +kernel
set_option maxRecDepth 20000 in
theorem ggX4_clears_X4_of : GoodIn wsX4_clears wsX4_of := goodIn_r _ [5, 6, 23, 24, 25, 26, 27, 28, 29, 30, 31, 32, 33, 34, 35] (by decide +kernel) (by decide +kernel)
set_option maxRecDepth 20000 in
theorem gX4_clears_X4_of : GoodIn wsX4_clears (wsV RX4 39 RX4 yX4_of wsX4_of) := goodIn_app (goodIn_of _ (by decide +kernel)) ggX4_clears_X4_of
set_option maxRecDepth 20000 in
theorem ggX4_clears_X4_lay : GoodIn wsX4_clears wsX4_lay := goodIn_r _ [10, 6, 23, 24, 25, 26, 27, 28, 29, 30, 31, 32, 33, 34, 35] (by decide +kernel) (by decide +kernel)
set_option maxRecDepth 20000 in
theorem gX4_clears_X4_lay : GoodIn wsX4_clears (wsV RX4 54 RX4 yX4_lay wsX4_lay) := goodIn_app (goodIn_of _ (by decide +kernel)) ggX4_clears_X4_lay
set_option maxRecDepth 20000 in
theorem ggX4_clears_X4_isWhole : GoodIn wsX4_clears wsX4_isWhole := goodIn_r _ [14, 1, 2, 3, 4, 5, 6, 15, 16, 17, 18, 19, 20, 21, 22, 23, 24, 25, 26, 27, 28, 29, 30, 31, 32, 33, 34, 35] (by decide +kernel) (by decide +kernel)
set_option maxRecDepth 20000 in
theorem gX4_clears_X4_isWhole : GoodIn wsX4_clears (wsV RX4 71 RX4 yX4_isWhole wsX4_isWhole) := goodIn_app (goodIn_of _ (by decide +kernel)) ggX4_clears_X4_isWhole
theorem dX4_clears_0 : decode cX4_clears 0 = .ok (.iconst 0, 1) := by decide +kernel
theorem dX4_clears_1 : decode cX4_clears 1 = .ok (.istore_n 2, 1) := by decide +kernel
theorem dX4_clears_2 : decode cX4_clears 2 = .ok (.iload_n 1, 1) := by decide +kernel
theorem dX4_clears_3 : decode cX4_clears 3 = .ok (.istore_n 3, 1) := by decide +kernel
theorem dX4_clears_4 : decode cX4_clears 4 = .ok (.iconst 1, 1) := by decide +kernel
theorem dX4_clears_5 : decode cX4_clears 5 = .ok (.istore 4, 2) := by decide +kernel
theorem dX4_clears_7 : decode cX4_clears 7 = .ok (.iload 4, 2) := by decide +kernel
theorem dX4_clears_9 : decode cX4_clears 9 = .ok (.ifCond .eq 74, 3) := by decide +kernel
theorem dX4_clears_12 : decode cX4_clears 12 = .ok (.aload_n 0, 1) := by decide +kernel
theorem dX4_clears_13 : decode cX4_clears 13 = .ok (.iload_n 3, 1) := by decide +kernel
theorem dX4_clears_14 : decode cX4_clears 14 = .ok (.bipush 6, 2) := by decide +kernel
theorem dX4_clears_16 : decode cX4_clears 16 = .ok (.invokevirtual 39, 3) := by decide +kernel
theorem dX4_clears_19 : decode cX4_clears 19 = .ok (.ifCond .ne 21, 3) := by decide +kernel
theorem dX4_clears_22 : decode cX4_clears 22 = .ok (.iload_n 2, 1) := by decide +kernel
theorem dX4_clears_23 : decode cX4_clears 23 = .ok (.iconst 1, 1) := by decide +kernel
theorem dX4_clears_24 : decode cX4_clears 24 = .ok (.aload_n 0, 1) := by decide +kernel
theorem dX4_clears_25 : decode cX4_clears 25 = .ok (.iload_n 3, 1) := by decide +kernel
theorem dX4_clears_26 : decode cX4_clears 26 = .ok (.iconst 5, 1) := by decide +kernel
theorem dX4_clears_27 : decode cX4_clears 27 = .ok (.invokevirtual 39, 3) := by decide +kernel
theorem dX4_clears_30 : decode cX4_clears 30 = .ok (.isub, 1) := by decide +kernel
theorem dX4_clears_31 : decode cX4_clears 31 = .ok (.iadd, 1) := by decide +kernel
theorem dX4_clears_32 : decode cX4_clears 32 = .ok (.istore_n 2, 1) := by decide +kernel
theorem dX4_clears_33 : decode cX4_clears 33 = .ok (.aload_n 0, 1) := by decide +kernel
theorem dX4_clears_34 : decode cX4_clears 34 = .ok (.iload_n 3, 1) := by decide +kernel
theorem dX4_clears_35 : decode cX4_clears 35 = .ok (.iconst 5, 1) := by decide +kernel
theorem dX4_clears_36 : decode cX4_clears 36 = .ok (.iconst 1, 1) := by decide +kernel
theorem dX4_clears_37 : decode cX4_clears 37 = .ok (.invokevirtual 54, 3) := by decide +kernel
theorem dX4_clears_40 : decode cX4_clears 40 = .ok (.aload_n 0, 1) := by decide +kernel
theorem dX4_clears_41 : decode cX4_clears 41 = .ok (.iload_n 3, 1) := by decide +kernel
theorem dX4_clears_42 : decode cX4_clears 42 = .ok (.invokevirtual 71, 3) := by decide +kernel
theorem dX4_clears_45 : decode cX4_clears 45 = .ok (.ifCond .eq 16, 3) := by decide +kernel
theorem dX4_clears_48 : decode cX4_clears 48 = .ok (.aload_n 0, 1) := by decide +kernel
theorem dX4_clears_49 : decode cX4_clears 49 = .ok (.iload_n 3, 1) := by decide +kernel
theorem dX4_clears_50 : decode cX4_clears 50 = .ok (.iconst 2, 1) := by decide +kernel
theorem dX4_clears_51 : decode cX4_clears 51 = .ok (.invokevirtual 39, 3) := by decide +kernel
theorem dX4_clears_54 : decode cX4_clears 54 = .ok (.ifCond .lt 7, 3) := by decide +kernel
theorem dX4_clears_57 : decode cX4_clears 57 = .ok (.iconst 1, 1) := by decide +kernel
theorem dX4_clears_58 : decode cX4_clears 58 = .ok (.goto 4, 3) := by decide +kernel
theorem dX4_clears_61 : decode cX4_clears 61 = .ok (.iconst 0, 1) := by decide +kernel
theorem dX4_clears_62 : decode cX4_clears 62 = .ok (.istore 4, 2) := by decide +kernel
theorem dX4_clears_64 : decode cX4_clears 64 = .ok (.iload 4, 2) := by decide +kernel
theorem dX4_clears_66 : decode cX4_clears 66 = .ok (.ifCond .eq 12, 3) := by decide +kernel
theorem dX4_clears_69 : decode cX4_clears 69 = .ok (.aload_n 0, 1) := by decide +kernel
theorem dX4_clears_70 : decode cX4_clears 70 = .ok (.iload_n 3, 1) := by decide +kernel
theorem dX4_clears_71 : decode cX4_clears 71 = .ok (.iconst 2, 1) := by decide +kernel
theorem dX4_clears_72 : decode cX4_clears 72 = .ok (.invokevirtual 39, 3) := by decide +kernel
theorem dX4_clears_75 : decode cX4_clears 75 = .ok (.goto 4, 3) := by decide +kernel
theorem dX4_clears_78 : decode cX4_clears 78 = .ok (.iload_n 3, 1) := by decide +kernel
theorem dX4_clears_79 : decode cX4_clears 79 = .ok (.istore_n 3, 1) := by decide +kernel
theorem dX4_clears_80 : decode cX4_clears 80 = .ok (.goto (-73), 3) := by decide +kernel
theorem dX4_clears_83 : decode cX4_clears 83 = .ok (.iload_n 2, 1) := by decide +kernel
theorem dX4_clears_84 : decode cX4_clears 84 = .ok (.ireturn, 1) := by decide +kernel
set_option maxRecDepth 20000 in
theorem ggX4_fines_X4_of : GoodIn wsX4_fines wsX4_of := goodIn_r _ [5, 6, 11, 12, 13, 14, 15, 16, 17, 18, 19, 20, 21, 22, 23] (by decide +kernel) (by decide +kernel)
set_option maxRecDepth 20000 in
theorem gX4_fines_X4_of : GoodIn wsX4_fines (wsV RX4 39 RX4 yX4_of wsX4_of) := goodIn_app (goodIn_of _ (by decide +kernel)) ggX4_fines_X4_of
set_option maxRecDepth 20000 in
theorem ggX4_fines_X4_lay : GoodIn wsX4_fines wsX4_lay := goodIn_r _ [10, 6, 11, 12, 13, 14, 15, 16, 17, 18, 19, 20, 21, 22, 23] (by decide +kernel) (by decide +kernel)
set_option maxRecDepth 20000 in
theorem gX4_fines_X4_lay : GoodIn wsX4_fines (wsV RX4 54 RX4 yX4_lay wsX4_lay) := goodIn_app (goodIn_of _ (by decide +kernel)) ggX4_fines_X4_lay
theorem dX4_fines_0 : decode cX4_fines 0 = .ok (.aload_n 0, 1) := by decide +kernel
theorem dX4_fines_1 : decode cX4_fines 1 = .ok (.iload_n 1, 1) := by decide +kernel
theorem dX4_fines_2 : decode cX4_fines 2 = .ok (.bipush 7, 2) := by decide +kernel
theorem dX4_fines_4 : decode cX4_fines 4 = .ok (.aload_n 0, 1) := by decide +kernel
theorem dX4_fines_5 : decode cX4_fines 5 = .ok (.iload_n 1, 1) := by decide +kernel
theorem dX4_fines_6 : decode cX4_fines 6 = .ok (.bipush 7, 2) := by decide +kernel
theorem dX4_fines_8 : decode cX4_fines 8 = .ok (.invokevirtual 39, 3) := by decide +kernel
theorem dX4_fines_11 : decode cX4_fines 11 = .ok (.iload_n 2, 1) := by decide +kernel
theorem dX4_fines_12 : decode cX4_fines 12 = .ok (.iadd, 1) := by decide +kernel
theorem dX4_fines_13 : decode cX4_fines 13 = .ok (.invokevirtual 54, 3) := by decide +kernel
theorem dX4_fines_16 : decode cX4_fines 16 = .ok (.return_, 1) := by decide +kernel
set_option maxRecDepth 20000 in
theorem ggX4_fineOfLie_X4_of : GoodIn wsX4_fineOfLie wsX4_of := goodIn_r _ [6, 1, 7, 8, 9, 10, 11, 12, 13, 14, 15, 16, 17, 18, 19] (by decide +kernel) (by decide +kernel)
set_option maxRecDepth 20000 in
theorem gX4_fineOfLie_X4_of : GoodIn wsX4_fineOfLie (wsV RX4 39 RX4 yX4_of wsX4_of) := goodIn_app (goodIn_of _ (by decide +kernel)) ggX4_fineOfLie_X4_of
theorem dX4_fineOfLie_0 : decode cX4_fineOfLie 0 = .ok (.aload_n 0, 1) := by decide +kernel
theorem dX4_fineOfLie_1 : decode cX4_fineOfLie 1 = .ok (.iload_n 1, 1) := by decide +kernel
theorem dX4_fineOfLie_2 : decode cX4_fineOfLie 2 = .ok (.iconst 0, 1) := by decide +kernel
theorem dX4_fineOfLie_3 : decode cX4_fineOfLie 3 = .ok (.invokevirtual 39, 3) := by decide +kernel
theorem dX4_fineOfLie_6 : decode cX4_fineOfLie 6 = .ok (.iload_n 2, 1) := by decide +kernel
theorem dX4_fineOfLie_7 : decode cX4_fineOfLie 7 = .ok (.isub, 1) := by decide +kernel
theorem dX4_fineOfLie_8 : decode cX4_fineOfLie 8 = .ok (.istore_n 3, 1) := by decide +kernel
theorem dX4_fineOfLie_9 : decode cX4_fineOfLie 9 = .ok (.aload_n 0, 1) := by decide +kernel
theorem dX4_fineOfLie_10 : decode cX4_fineOfLie 10 = .ok (.getfield 7, 3) := by decide +kernel
theorem dX4_fineOfLie_13 : decode cX4_fineOfLie 13 = .ok (.iconst 3, 1) := by decide +kernel
theorem dX4_fineOfLie_14 : decode cX4_fineOfLie 14 = .ok (.iaload, 1) := by decide +kernel
theorem dX4_fineOfLie_15 : decode cX4_fineOfLie 15 = .ok (.iconst 2, 1) := by decide +kernel
theorem dX4_fineOfLie_16 : decode cX4_fineOfLie 16 = .ok (.iload_n 3, 1) := by decide +kernel
theorem dX4_fineOfLie_17 : decode cX4_fineOfLie 17 = .ok (.ifCond .ge 8, 3) := by decide +kernel
theorem dX4_fineOfLie_20 : decode cX4_fineOfLie 20 = .ok (.iload_n 3, 1) := by decide +kernel
theorem dX4_fineOfLie_21 : decode cX4_fineOfLie 21 = .ok (.ineg, 1) := by decide +kernel
theorem dX4_fineOfLie_22 : decode cX4_fineOfLie 22 = .ok (.goto 4, 3) := by decide +kernel
theorem dX4_fineOfLie_25 : decode cX4_fineOfLie 25 = .ok (.iload_n 3, 1) := by decide +kernel
theorem dX4_fineOfLie_26 : decode cX4_fineOfLie 26 = .ok (.imul, 1) := by decide +kernel
theorem dX4_fineOfLie_27 : decode cX4_fineOfLie 27 = .ok (.iadd, 1) := by decide +kernel
theorem dX4_fineOfLie_28 : decode cX4_fineOfLie 28 = .ok (.ireturn, 1) := by decide +kernel
set_option maxRecDepth 20000 in
theorem ggX4_opens_X4_lay : GoodIn wsX4_opens wsX4_lay := goodIn_r _ [6, 1, 35, 36, 37, 38, 39, 40, 41, 42, 43, 44, 45, 46, 47] (by decide +kernel) (by decide +kernel)
set_option maxRecDepth 20000 in
theorem gX4_opens_X4_lay : GoodIn wsX4_opens (wsV RX4 54 RX4 yX4_lay wsX4_lay) := goodIn_app (goodIn_of _ (by decide +kernel)) ggX4_opens_X4_lay
set_option maxRecDepth 20000 in
theorem ggX4_opens_X4_isWhole : GoodIn wsX4_opens wsX4_isWhole := goodIn_r _ [10, 11, 12, 13, 5, 14, 1, 15, 16, 17, 18, 19, 20, 21, 22, 35, 36, 37, 38, 39, 40, 41, 42, 43, 44, 45, 46, 47] (by decide +kernel) (by decide +kernel)
set_option maxRecDepth 20000 in
theorem gX4_opens_X4_isWhole : GoodIn wsX4_opens (wsV RX4 71 RX4 yX4_isWhole wsX4_isWhole) := goodIn_app (goodIn_of _ (by decide +kernel)) ggX4_opens_X4_isWhole
set_option maxRecDepth 20000 in
theorem ggX4_opens_X4_fines : GoodIn wsX4_opens wsX4_fines := goodIn_r _ [26, 11, 12, 13, 5, 14, 1, 2, 3, 4, 6, 35, 36, 37, 38, 39, 40, 41, 42, 43, 44, 45, 46, 47] (by decide +kernel) (by decide +kernel)
set_option maxRecDepth 20000 in
theorem gX4_opens_X4_fines : GoodIn wsX4_opens (wsV RX4 77 RX4 yX4_fines wsX4_fines) := goodIn_app (goodIn_of _ (by decide +kernel)) ggX4_opens_X4_fines
set_option maxRecDepth 20000 in
theorem ggX4_opens_X4_of : GoodIn wsX4_opens wsX4_of := goodIn_r _ [14, 1, 35, 36, 37, 38, 39, 40, 41, 42, 43, 44, 45, 46, 47] (by decide +kernel) (by decide +kernel)
set_option maxRecDepth 20000 in
theorem gX4_opens_X4_of : GoodIn wsX4_opens (wsV RX4 39 RX4 yX4_of wsX4_of) := goodIn_app (goodIn_of _ (by decide +kernel)) ggX4_opens_X4_of
set_option maxRecDepth 20000 in
theorem ggX4_opens_X4_clears : GoodIn wsX4_opens wsX4_clears := goodIn_r _ [30, 11, 12, 13, 5, 14, 1, 2, 3, 4, 6, 7, 8, 9, 10, 15, 16, 17, 18, 19, 20, 21, 22, 35, 36, 37, 38, 39, 40, 41, 42, 43, 44, 45, 46, 47] (by decide +kernel) (by decide +kernel)
set_option maxRecDepth 20000 in
theorem gX4_opens_X4_clears : GoodIn wsX4_opens (wsV RX4 81 RX4 yX4_clears wsX4_clears) := goodIn_app (goodIn_of _ (by decide +kernel)) ggX4_opens_X4_clears
set_option maxRecDepth 20000 in
theorem ggX4_opens_X4_fineOfLie : GoodIn wsX4_opens wsX4_fineOfLie := goodIn_r _ [34, 1, 11, 12, 13, 5, 14, 35, 36, 37, 38, 39, 40, 41, 42, 43, 44, 45, 46, 47] (by decide +kernel) (by decide +kernel)
set_option maxRecDepth 20000 in
theorem gX4_opens_X4_fineOfLie : GoodIn wsX4_opens (wsV RX4 84 RX4 yX4_fineOfLie wsX4_fineOfLie) := goodIn_app (goodIn_of _ (by decide +kernel)) ggX4_opens_X4_fineOfLie
theorem dX4_opens_0 : decode cX4_opens 0 = .ok (.aload_n 0, 1) := by decide +kernel
theorem dX4_opens_1 : decode cX4_opens 1 = .ok (.iload_n 1, 1) := by decide +kernel
theorem dX4_opens_2 : decode cX4_opens 2 = .ok (.iconst 4, 1) := by decide +kernel
theorem dX4_opens_3 : decode cX4_opens 3 = .ok (.iconst 1, 1) := by decide +kernel
theorem dX4_opens_4 : decode cX4_opens 4 = .ok (.invokevirtual 54, 3) := by decide +kernel
theorem dX4_opens_7 : decode cX4_opens 7 = .ok (.aload_n 0, 1) := by decide +kernel
theorem dX4_opens_8 : decode cX4_opens 8 = .ok (.iload_n 1, 1) := by decide +kernel
theorem dX4_opens_9 : decode cX4_opens 9 = .ok (.aload_n 0, 1) := by decide +kernel
theorem dX4_opens_10 : decode cX4_opens 10 = .ok (.iload_n 1, 1) := by decide +kernel
theorem dX4_opens_11 : decode cX4_opens 11 = .ok (.invokevirtual 71, 3) := by decide +kernel
theorem dX4_opens_14 : decode cX4_opens 14 = .ok (.ifCond .eq 7, 3) := by decide +kernel
theorem dX4_opens_17 : decode cX4_opens 17 = .ok (.iconst 0, 1) := by decide +kernel
theorem dX4_opens_18 : decode cX4_opens 18 = .ok (.goto 4, 3) := by decide +kernel
theorem dX4_opens_21 : decode cX4_opens 21 = .ok (.iconst 3, 1) := by decide +kernel
theorem dX4_opens_22 : decode cX4_opens 22 = .ok (.invokevirtual 77, 3) := by decide +kernel
theorem dX4_opens_25 : decode cX4_opens 25 = .ok (.aload_n 0, 1) := by decide +kernel
theorem dX4_opens_26 : decode cX4_opens 26 = .ok (.iload_n 1, 1) := by decide +kernel
theorem dX4_opens_27 : decode cX4_opens 27 = .ok (.iconst 0, 1) := by decide +kernel
theorem dX4_opens_28 : decode cX4_opens 28 = .ok (.invokevirtual 39, 3) := by decide +kernel
theorem dX4_opens_31 : decode cX4_opens 31 = .ok (.aload_n 0, 1) := by decide +kernel
theorem dX4_opens_32 : decode cX4_opens 32 = .ok (.iload_n 1, 1) := by decide +kernel
theorem dX4_opens_33 : decode cX4_opens 33 = .ok (.iconst 1, 1) := by decide +kernel
theorem dX4_opens_34 : decode cX4_opens 34 = .ok (.invokevirtual 39, 3) := by decide +kernel
theorem dX4_opens_37 : decode cX4_opens 37 = .ok (.if_icmp .ne 9, 3) := by decide +kernel
theorem dX4_opens_40 : decode cX4_opens 40 = .ok (.aload_n 0, 1) := by decide +kernel
theorem dX4_opens_41 : decode cX4_opens 41 = .ok (.iload_n 1, 1) := by decide +kernel
theorem dX4_opens_42 : decode cX4_opens 42 = .ok (.invokevirtual 81, 3) := by decide +kernel
theorem dX4_opens_45 : decode cX4_opens 45 = .ok (.ireturn, 1) := by decide +kernel
theorem dX4_opens_46 : decode cX4_opens 46 = .ok (.aload_n 0, 1) := by decide +kernel
theorem dX4_opens_47 : decode cX4_opens 47 = .ok (.iload_n 1, 1) := by decide +kernel
theorem dX4_opens_48 : decode cX4_opens 48 = .ok (.bipush 6, 2) := by decide +kernel
theorem dX4_opens_50 : decode cX4_opens 50 = .ok (.iconst 1, 1) := by decide +kernel
theorem dX4_opens_51 : decode cX4_opens 51 = .ok (.invokevirtual 54, 3) := by decide +kernel
theorem dX4_opens_54 : decode cX4_opens 54 = .ok (.aload_n 0, 1) := by decide +kernel
theorem dX4_opens_55 : decode cX4_opens 55 = .ok (.iload_n 1, 1) := by decide +kernel
theorem dX4_opens_56 : decode cX4_opens 56 = .ok (.iconst 5, 1) := by decide +kernel
theorem dX4_opens_57 : decode cX4_opens 57 = .ok (.iconst 0, 1) := by decide +kernel
theorem dX4_opens_58 : decode cX4_opens 58 = .ok (.invokevirtual 54, 3) := by decide +kernel
theorem dX4_opens_61 : decode cX4_opens 61 = .ok (.aload_n 0, 1) := by decide +kernel
theorem dX4_opens_62 : decode cX4_opens 62 = .ok (.iload_n 1, 1) := by decide +kernel
theorem dX4_opens_63 : decode cX4_opens 63 = .ok (.aload_n 0, 1) := by decide +kernel
theorem dX4_opens_64 : decode cX4_opens 64 = .ok (.iload_n 1, 1) := by decide +kernel
theorem dX4_opens_65 : decode cX4_opens 65 = .ok (.aload_n 0, 1) := by decide +kernel
theorem dX4_opens_66 : decode cX4_opens 66 = .ok (.iload_n 1, 1) := by decide +kernel
theorem dX4_opens_67 : decode cX4_opens 67 = .ok (.iconst 1, 1) := by decide +kernel
theorem dX4_opens_68 : decode cX4_opens 68 = .ok (.invokevirtual 39, 3) := by decide +kernel
theorem dX4_opens_71 : decode cX4_opens 71 = .ok (.invokevirtual 84, 3) := by decide +kernel
theorem dX4_opens_74 : decode cX4_opens 74 = .ok (.invokevirtual 77, 3) := by decide +kernel
theorem dX4_opens_77 : decode cX4_opens 77 = .ok (.iconst 0, 1) := by decide +kernel
theorem dX4_opens_78 : decode cX4_opens 78 = .ok (.istore_n 2, 1) := by decide +kernel
theorem dX4_opens_79 : decode cX4_opens 79 = .ok (.iload_n 2, 1) := by decide +kernel
theorem dX4_opens_80 : decode cX4_opens 80 = .ok (.aload_n 0, 1) := by decide +kernel
theorem dX4_opens_81 : decode cX4_opens 81 = .ok (.getfield 7, 3) := by decide +kernel
theorem dX4_opens_84 : decode cX4_opens 84 = .ok (.iconst 5, 1) := by decide +kernel
theorem dX4_opens_85 : decode cX4_opens 85 = .ok (.iaload, 1) := by decide +kernel
theorem dX4_opens_86 : decode cX4_opens 86 = .ok (.if_icmp .ge 38, 3) := by decide +kernel
theorem dX4_opens_89 : decode cX4_opens 89 = .ok (.aload_n 0, 1) := by decide +kernel
theorem dX4_opens_90 : decode cX4_opens 90 = .ok (.iload_n 2, 1) := by decide +kernel
theorem dX4_opens_91 : decode cX4_opens 91 = .ok (.iconst 2, 1) := by decide +kernel
theorem dX4_opens_92 : decode cX4_opens 92 = .ok (.invokevirtual 39, 3) := by decide +kernel
theorem dX4_opens_95 : decode cX4_opens 95 = .ok (.iload_n 1, 1) := by decide +kernel
theorem dX4_opens_96 : decode cX4_opens 96 = .ok (.if_icmp .ne 22, 3) := by decide +kernel
theorem dX4_opens_99 : decode cX4_opens 99 = .ok (.aload_n 0, 1) := by decide +kernel
theorem dX4_opens_100 : decode cX4_opens 100 = .ok (.iload_n 2, 1) := by decide +kernel
theorem dX4_opens_101 : decode cX4_opens 101 = .ok (.invokevirtual 71, 3) := by decide +kernel
theorem dX4_opens_104 : decode cX4_opens 104 = .ok (.ifCond .eq 14, 3) := by decide +kernel
theorem dX4_opens_107 : decode cX4_opens 107 = .ok (.aload_n 0, 1) := by decide +kernel
theorem dX4_opens_108 : decode cX4_opens 108 = .ok (.iload_n 2, 1) := by decide +kernel
theorem dX4_opens_109 : decode cX4_opens 109 = .ok (.aload_n 0, 1) := by decide +kernel
theorem dX4_opens_110 : decode cX4_opens 110 = .ok (.getfield 7, 3) := by decide +kernel
theorem dX4_opens_113 : decode cX4_opens 113 = .ok (.iconst 4, 1) := by decide +kernel
theorem dX4_opens_114 : decode cX4_opens 114 = .ok (.iaload, 1) := by decide +kernel
theorem dX4_opens_115 : decode cX4_opens 115 = .ok (.invokevirtual 77, 3) := by decide +kernel
theorem dX4_opens_118 : decode cX4_opens 118 = .ok (.iinc 2 1, 3) := by decide +kernel
theorem dX4_opens_121 : decode cX4_opens 121 = .ok (.goto (-42), 3) := by decide +kernel
theorem dX4_opens_124 : decode cX4_opens 124 = .ok (.iconst 0, 1) := by decide +kernel
theorem dX4_opens_125 : decode cX4_opens 125 = .ok (.ireturn, 1) := by decide +kernel
set_option maxRecDepth 20000 in
theorem ggX4_refusesOpening_X4_isCart : GoodIn wsX4_refusesOpening wsX4_isCart := goodIn_r _ [5, 6, 7, 8, 4, 9, 14, 15, 16, 17, 18, 19, 20, 21, 22, 23, 24, 25, 26] (by decide +kernel) (by decide +kernel)
set_option maxRecDepth 20000 in
theorem gX4_refusesOpening_X4_isCart : GoodIn wsX4_refusesOpening (wsV RX4 50 RX4 yX4_isCart wsX4_isCart) := goodIn_app (goodIn_of _ (by decide +kernel)) ggX4_refusesOpening_X4_isCart
set_option maxRecDepth 20000 in
theorem ggX4_refusesOpening_X4_of : GoodIn wsX4_refusesOpening wsX4_of := goodIn_r _ [13, 6, 14, 15, 16, 17, 18, 19, 20, 21, 22, 23, 24, 25, 26] (by decide +kernel) (by decide +kernel)
set_option maxRecDepth 20000 in
theorem gX4_refusesOpening_X4_of : GoodIn wsX4_refusesOpening (wsV RX4 39 RX4 yX4_of wsX4_of) := goodIn_app (goodIn_of _ (by decide +kernel)) ggX4_refusesOpening_X4_of
theorem dX4_refusesOpening_0 : decode cX4_refusesOpening 0 = .ok (.aload_n 0, 1) := by decide +kernel
theorem dX4_refusesOpening_1 : decode cX4_refusesOpening 1 = .ok (.iload_n 1, 1) := by decide +kernel
theorem dX4_refusesOpening_2 : decode cX4_refusesOpening 2 = .ok (.invokevirtual 50, 3) := by decide +kernel
theorem dX4_refusesOpening_5 : decode cX4_refusesOpening 5 = .ok (.ifCond .ne 7, 3) := by decide +kernel
theorem dX4_refusesOpening_8 : decode cX4_refusesOpening 8 = .ok (.iconst (-1), 1) := by decide +kernel
theorem dX4_refusesOpening_9 : decode cX4_refusesOpening 9 = .ok (.goto 19, 3) := by decide +kernel
theorem dX4_refusesOpening_12 : decode cX4_refusesOpening 12 = .ok (.aload_n 0, 1) := by decide +kernel
theorem dX4_refusesOpening_13 : decode cX4_refusesOpening 13 = .ok (.iload_n 1, 1) := by decide +kernel
theorem dX4_refusesOpening_14 : decode cX4_refusesOpening 14 = .ok (.iconst 4, 1) := by decide +kernel
theorem dX4_refusesOpening_15 : decode cX4_refusesOpening 15 = .ok (.invokevirtual 39, 3) := by decide +kernel
theorem dX4_refusesOpening_18 : decode cX4_refusesOpening 18 = .ok (.iconst 1, 1) := by decide +kernel
theorem dX4_refusesOpening_19 : decode cX4_refusesOpening 19 = .ok (.if_icmp .ne 8, 3) := by decide +kernel
theorem dX4_refusesOpening_22 : decode cX4_refusesOpening 22 = .ok (.bipush (-4), 2) := by decide +kernel
theorem dX4_refusesOpening_24 : decode cX4_refusesOpening 24 = .ok (.goto 4, 3) := by decide +kernel
theorem dX4_refusesOpening_27 : decode cX4_refusesOpening 27 = .ok (.iconst 0, 1) := by decide +kernel
theorem dX4_refusesOpening_28 : decode cX4_refusesOpening 28 = .ok (.ireturn, 1) := by decide +kernel
set_option maxRecDepth 20000 in
theorem ggX4_open_X4_refusesOpening : GoodIn wsX4_open wsX4_refusesOpening := goodIn_r _ [6, 7, 8, 9, 5, 10, 11, 12, 13, 14, 15, 16, 17, 18, 57, 58, 59, 60, 61, 62, 63, 64, 65, 66, 67, 68, 69] (by decide +kernel) (by decide +kernel)
set_option maxRecDepth 20000 in
theorem gX4_open_X4_refusesOpening : GoodIn wsX4_open (wsV RX4 87 RX4 yX4_refusesOpening wsX4_refusesOpening) := goodIn_app (goodIn_of _ (by decide +kernel)) ggX4_open_X4_refusesOpening
set_option maxRecDepth 20000 in
theorem ggX4_open_X4_records : GoodIn wsX4_open wsX4_records := goodIn_r _ [22, 23, 24, 11, 57, 58, 59, 60, 61, 62, 63, 64, 65, 66, 67, 68, 69] (by decide +kernel) (by decide +kernel)
set_option maxRecDepth 20000 in
theorem gX4_open_X4_records : GoodIn wsX4_open (wsV RX4 62 RX4 yX4_records wsX4_records) := goodIn_app (goodIn_of _ (by decide +kernel)) ggX4_open_X4_records
set_option maxRecDepth 20000 in
theorem ggX4_open_X4_opens : GoodIn wsX4_open wsX4_opens := goodIn_r _ [28, 11, 29, 30, 31, 5, 32, 33, 34, 35, 36, 15, 16, 17, 18, 37, 38, 39, 40, 41, 42, 43, 44, 45, 46, 47, 48, 49, 50, 51, 52, 53, 54, 55, 56, 57, 58, 59, 60, 61, 62, 63, 64, 65, 66, 67, 68, 69] (by decide +kernel) (by decide +kernel)
set_option maxRecDepth 20000 in
theorem gX4_open_X4_opens : GoodIn wsX4_open (wsV RX4 90 RX4 yX4_opens wsX4_opens) := goodIn_app (goodIn_of _ (by decide +kernel)) ggX4_open_X4_opens
theorem dX4_open_0 : decode cX4_open 0 = .ok (.aload_n 0, 1) := by decide +kernel
theorem dX4_open_1 : decode cX4_open 1 = .ok (.iconst 0, 1) := by decide +kernel
theorem dX4_open_2 : decode cX4_open 2 = .ok (.putfield 28, 3) := by decide +kernel
theorem dX4_open_5 : decode cX4_open 5 = .ok (.aload_n 0, 1) := by decide +kernel
theorem dX4_open_6 : decode cX4_open 6 = .ok (.iload_n 1, 1) := by decide +kernel
theorem dX4_open_7 : decode cX4_open 7 = .ok (.invokevirtual 87, 3) := by decide +kernel
theorem dX4_open_10 : decode cX4_open 10 = .ok (.istore_n 2, 1) := by decide +kernel
theorem dX4_open_11 : decode cX4_open 11 = .ok (.iload_n 2, 1) := by decide +kernel
theorem dX4_open_12 : decode cX4_open 12 = .ok (.ifCond .eq 5, 3) := by decide +kernel
theorem dX4_open_15 : decode cX4_open 15 = .ok (.iload_n 2, 1) := by decide +kernel
theorem dX4_open_16 : decode cX4_open 16 = .ok (.ireturn, 1) := by decide +kernel
theorem dX4_open_17 : decode cX4_open 17 = .ok (.aload_n 0, 1) := by decide +kernel
theorem dX4_open_18 : decode cX4_open 18 = .ok (.invokevirtual 62, 3) := by decide +kernel
theorem dX4_open_21 : decode cX4_open 21 = .ok (.aload_n 0, 1) := by decide +kernel
theorem dX4_open_22 : decode cX4_open 22 = .ok (.iload_n 1, 1) := by decide +kernel
theorem dX4_open_23 : decode cX4_open 23 = .ok (.invokevirtual 90, 3) := by decide +kernel
theorem dX4_open_26 : decode cX4_open 26 = .ok (.ireturn, 1) := by decide +kernel
set_option maxRecDepth 20000 in
theorem ggX4_isLeft_X4_of : GoodIn wsX4_isLeft wsX4_of := goodIn_r _ [5, 6, 7, 8, 9, 10, 11, 12, 13, 14, 15, 16, 17, 18, 19] (by decide +kernel) (by decide +kernel)
set_option maxRecDepth 20000 in
theorem gX4_isLeft_X4_of : GoodIn wsX4_isLeft (wsV RX4 39 RX4 yX4_of wsX4_of) := goodIn_app (goodIn_of _ (by decide +kernel)) ggX4_isLeft_X4_of
theorem dX4_isLeft_0 : decode cX4_isLeft 0 = .ok (.aload_n 0, 1) := by decide +kernel
theorem dX4_isLeft_1 : decode cX4_isLeft 1 = .ok (.iload_n 1, 1) := by decide +kernel
theorem dX4_isLeft_2 : decode cX4_isLeft 2 = .ok (.iconst 4, 1) := by decide +kernel
theorem dX4_isLeft_3 : decode cX4_isLeft 3 = .ok (.invokevirtual 39, 3) := by decide +kernel
theorem dX4_isLeft_6 : decode cX4_isLeft 6 = .ok (.ifCond .ne 16, 3) := by decide +kernel
theorem dX4_isLeft_9 : decode cX4_isLeft 9 = .ok (.aload_n 0, 1) := by decide +kernel
theorem dX4_isLeft_10 : decode cX4_isLeft 10 = .ok (.iload_n 1, 1) := by decide +kernel
theorem dX4_isLeft_11 : decode cX4_isLeft 11 = .ok (.iconst 5, 1) := by decide +kernel
theorem dX4_isLeft_12 : decode cX4_isLeft 12 = .ok (.invokevirtual 39, 3) := by decide +kernel
theorem dX4_isLeft_15 : decode cX4_isLeft 15 = .ok (.ifCond .ne 7, 3) := by decide +kernel
theorem dX4_isLeft_18 : decode cX4_isLeft 18 = .ok (.iconst 1, 1) := by decide +kernel
theorem dX4_isLeft_19 : decode cX4_isLeft 19 = .ok (.goto 4, 3) := by decide +kernel
theorem dX4_isLeft_22 : decode cX4_isLeft 22 = .ok (.iconst 0, 1) := by decide +kernel
theorem dX4_isLeft_23 : decode cX4_isLeft 23 = .ok (.ireturn, 1) := by decide +kernel
set_option maxRecDepth 20000 in
theorem ggX4_lastLeft_X4_isLeft : GoodIn wsX4_lastLeft wsX4_isLeft := goodIn_r _ [6, 7, 8, 9, 5, 10, 1, 11, 12, 13, 14, 15, 16, 17, 18, 19, 20, 21, 22, 23] (by decide +kernel) (by decide +kernel)
set_option maxRecDepth 20000 in
theorem gX4_lastLeft_X4_isLeft : GoodIn wsX4_lastLeft (wsV RX4 93 RX4 yX4_isLeft wsX4_isLeft) := goodIn_app (goodIn_of _ (by decide +kernel)) ggX4_lastLeft_X4_isLeft
theorem dX4_lastLeft_0 : decode cX4_lastLeft 0 = .ok (.bipush (-5), 2) := by decide +kernel
theorem dX4_lastLeft_2 : decode cX4_lastLeft 2 = .ok (.istore_n 1, 1) := by decide +kernel
theorem dX4_lastLeft_3 : decode cX4_lastLeft 3 = .ok (.iconst 0, 1) := by decide +kernel
theorem dX4_lastLeft_4 : decode cX4_lastLeft 4 = .ok (.istore_n 2, 1) := by decide +kernel
theorem dX4_lastLeft_5 : decode cX4_lastLeft 5 = .ok (.iload_n 2, 1) := by decide +kernel
theorem dX4_lastLeft_6 : decode cX4_lastLeft 6 = .ok (.aload_n 0, 1) := by decide +kernel
theorem dX4_lastLeft_7 : decode cX4_lastLeft 7 = .ok (.getfield 7, 3) := by decide +kernel
theorem dX4_lastLeft_10 : decode cX4_lastLeft 10 = .ok (.iconst 5, 1) := by decide +kernel
theorem dX4_lastLeft_11 : decode cX4_lastLeft 11 = .ok (.iaload, 1) := by decide +kernel
theorem dX4_lastLeft_12 : decode cX4_lastLeft 12 = .ok (.if_icmp .ge 23, 3) := by decide +kernel
theorem dX4_lastLeft_15 : decode cX4_lastLeft 15 = .ok (.aload_n 0, 1) := by decide +kernel
theorem dX4_lastLeft_16 : decode cX4_lastLeft 16 = .ok (.iload_n 2, 1) := by decide +kernel
theorem dX4_lastLeft_17 : decode cX4_lastLeft 17 = .ok (.invokevirtual 93, 3) := by decide +kernel
theorem dX4_lastLeft_20 : decode cX4_lastLeft 20 = .ok (.ifCond .eq 7, 3) := by decide +kernel
theorem dX4_lastLeft_23 : decode cX4_lastLeft 23 = .ok (.iload_n 2, 1) := by decide +kernel
theorem dX4_lastLeft_24 : decode cX4_lastLeft 24 = .ok (.goto 4, 3) := by decide +kernel
theorem dX4_lastLeft_27 : decode cX4_lastLeft 27 = .ok (.iload_n 1, 1) := by decide +kernel
theorem dX4_lastLeft_28 : decode cX4_lastLeft 28 = .ok (.istore_n 1, 1) := by decide +kernel
theorem dX4_lastLeft_29 : decode cX4_lastLeft 29 = .ok (.iinc 2 1, 3) := by decide +kernel
theorem dX4_lastLeft_32 : decode cX4_lastLeft 32 = .ok (.goto (-27), 3) := by decide +kernel
theorem dX4_lastLeft_35 : decode cX4_lastLeft 35 = .ok (.iload_n 1, 1) := by decide +kernel
theorem dX4_lastLeft_36 : decode cX4_lastLeft 36 = .ok (.ireturn, 1) := by decide +kernel
set_option maxRecDepth 20000 in
theorem ggX4_openAll_X4_lastLeft : GoodIn wsX4_openAll wsX4_lastLeft := goodIn_r _ [6, 7, 8, 9, 10, 5, 11, 12, 13, 14, 15, 54, 55, 56, 57, 58, 59, 60, 61, 62, 63, 64, 65, 66] (by decide +kernel) (by decide +kernel)
set_option maxRecDepth 20000 in
theorem gX4_openAll_X4_lastLeft : GoodIn wsX4_openAll (wsV RX4 96 RX4 yX4_lastLeft wsX4_lastLeft) := goodIn_app (goodIn_of _ (by decide +kernel)) ggX4_openAll_X4_lastLeft
set_option maxRecDepth 20000 in
theorem ggX4_openAll_X4_records : GoodIn wsX4_openAll wsX4_records := goodIn_r _ [19, 20, 21, 7, 54, 55, 56, 57, 58, 59, 60, 61, 62, 63, 64, 65, 66] (by decide +kernel) (by decide +kernel)
set_option maxRecDepth 20000 in
theorem gX4_openAll_X4_records : GoodIn wsX4_openAll (wsV RX4 62 RX4 yX4_records wsX4_records) := goodIn_app (goodIn_of _ (by decide +kernel)) ggX4_openAll_X4_records
set_option maxRecDepth 20000 in
theorem ggX4_openAll_X4_opens : GoodIn wsX4_openAll wsX4_opens := goodIn_r _ [25, 7, 26, 27, 28, 5, 29, 30, 31, 32, 33, 12, 13, 14, 15, 34, 35, 36, 37, 38, 39, 40, 41, 42, 43, 44, 45, 46, 47, 48, 49, 50, 51, 52, 53, 54, 55, 56, 57, 58, 59, 60, 61, 62, 63, 64, 65, 66] (by decide +kernel) (by decide +kernel)
set_option maxRecDepth 20000 in
theorem gX4_openAll_X4_opens : GoodIn wsX4_openAll (wsV RX4 90 RX4 yX4_opens wsX4_opens) := goodIn_app (goodIn_of _ (by decide +kernel)) ggX4_openAll_X4_opens
theorem dX4_openAll_0 : decode cX4_openAll 0 = .ok (.aload_n 0, 1) := by decide +kernel
theorem dX4_openAll_1 : decode cX4_openAll 1 = .ok (.iconst 0, 1) := by decide +kernel
theorem dX4_openAll_2 : decode cX4_openAll 2 = .ok (.putfield 28, 3) := by decide +kernel
theorem dX4_openAll_5 : decode cX4_openAll 5 = .ok (.aload_n 0, 1) := by decide +kernel
theorem dX4_openAll_6 : decode cX4_openAll 6 = .ok (.invokevirtual 96, 3) := by decide +kernel
theorem dX4_openAll_9 : decode cX4_openAll 9 = .ok (.bipush (-5), 2) := by decide +kernel
theorem dX4_openAll_11 : decode cX4_openAll 11 = .ok (.if_icmp .ne 6, 3) := by decide +kernel
theorem dX4_openAll_14 : decode cX4_openAll 14 = .ok (.bipush (-5), 2) := by decide +kernel
theorem dX4_openAll_16 : decode cX4_openAll 16 = .ok (.ireturn, 1) := by decide +kernel
theorem dX4_openAll_17 : decode cX4_openAll 17 = .ok (.aload_n 0, 1) := by decide +kernel
theorem dX4_openAll_18 : decode cX4_openAll 18 = .ok (.invokevirtual 62, 3) := by decide +kernel
theorem dX4_openAll_21 : decode cX4_openAll 21 = .ok (.iconst 0, 1) := by decide +kernel
theorem dX4_openAll_22 : decode cX4_openAll 22 = .ok (.istore_n 1, 1) := by decide +kernel
theorem dX4_openAll_23 : decode cX4_openAll 23 = .ok (.aload_n 0, 1) := by decide +kernel
theorem dX4_openAll_24 : decode cX4_openAll 24 = .ok (.invokevirtual 96, 3) := by decide +kernel
theorem dX4_openAll_27 : decode cX4_openAll 27 = .ok (.bipush (-5), 2) := by decide +kernel
theorem dX4_openAll_29 : decode cX4_openAll 29 = .ok (.if_icmp .eq 18, 3) := by decide +kernel
theorem dX4_openAll_32 : decode cX4_openAll 32 = .ok (.aload_n 0, 1) := by decide +kernel
theorem dX4_openAll_33 : decode cX4_openAll 33 = .ok (.aload_n 0, 1) := by decide +kernel
theorem dX4_openAll_34 : decode cX4_openAll 34 = .ok (.invokevirtual 96, 3) := by decide +kernel
theorem dX4_openAll_37 : decode cX4_openAll 37 = .ok (.invokevirtual 90, 3) := by decide +kernel
theorem dX4_openAll_40 : decode cX4_openAll 40 = .ok (.pop, 1) := by decide +kernel
theorem dX4_openAll_41 : decode cX4_openAll 41 = .ok (.iinc 1 1, 3) := by decide +kernel
theorem dX4_openAll_44 : decode cX4_openAll 44 = .ok (.goto (-21), 3) := by decide +kernel
theorem dX4_openAll_47 : decode cX4_openAll 47 = .ok (.iload_n 1, 1) := by decide +kernel
theorem dX4_openAll_48 : decode cX4_openAll 48 = .ok (.ireturn, 1) := by decide +kernel
theorem dX4_leastOf_0 : decode cX4_leastOf 0 = .ok (.iload_n 0, 1) := by decide +kernel
theorem dX4_leastOf_1 : decode cX4_leastOf 1 = .ok (.iconst 2, 1) := by decide +kernel
theorem dX4_leastOf_2 : decode cX4_leastOf 2 = .ok (.if_icmp .ne 8, 3) := by decide +kernel
theorem dX4_leastOf_5 : decode cX4_leastOf 5 = .ok (.bipush 10, 2) := by decide +kernel
theorem dX4_leastOf_7 : decode cX4_leastOf 7 = .ok (.goto 13, 3) := by decide +kernel
theorem dX4_leastOf_10 : decode cX4_leastOf 10 = .ok (.iload_n 0, 1) := by decide +kernel
theorem dX4_leastOf_11 : decode cX4_leastOf 11 = .ok (.iconst 2, 1) := by decide +kernel
theorem dX4_leastOf_12 : decode cX4_leastOf 12 = .ok (.if_icmp .ge 7, 3) := by decide +kernel
theorem dX4_leastOf_15 : decode cX4_leastOf 15 = .ok (.iconst 1, 1) := by decide +kernel
theorem dX4_leastOf_16 : decode cX4_leastOf 16 = .ok (.goto 4, 3) := by decide +kernel
theorem dX4_leastOf_19 : decode cX4_leastOf 19 = .ok (.iconst 0, 1) := by decide +kernel
theorem dX4_leastOf_20 : decode cX4_leastOf 20 = .ok (.ireturn, 1) := by decide +kernel
set_option maxRecDepth 20000 in
theorem ggX4_set_X4_in : GoodIn wsX4_set wsX4_in := goodIn_r _ [6] (by decide +kernel) (by decide +kernel)
set_option maxRecDepth 20000 in
theorem gX4_set_X4_in : GoodIn wsX4_set (va_wsS RX4 32 yX4_in wsX4_in) := goodIn_app (goodIn_of _ (by decide +kernel)) ggX4_set_X4_in
set_option maxRecDepth 20000 in
theorem ggX4_set_X4_leastOf : GoodIn wsX4_set wsX4_leastOf := goodIn_r _ [9] (by decide +kernel) (by decide +kernel)
set_option maxRecDepth 20000 in
theorem gX4_set_X4_leastOf : GoodIn wsX4_set (va_wsS RX4 100 yX4_leastOf wsX4_leastOf) := goodIn_app (goodIn_of _ (by decide +kernel)) ggX4_set_X4_leastOf
set_option maxRecDepth 20000 in
theorem ggX4_set_X4_records : GoodIn wsX4_set wsX4_records := goodIn_r _ [13, 14, 15, 2, 16, 17, 18, 19, 20, 21, 22, 23, 24, 25, 26, 27, 28] (by decide +kernel) (by decide +kernel)
set_option maxRecDepth 20000 in
theorem gX4_set_X4_records : GoodIn wsX4_set (wsV RX4 62 RX4 yX4_records wsX4_records) := goodIn_app (goodIn_of _ (by decide +kernel)) ggX4_set_X4_records
theorem dX4_set_0 : decode cX4_set 0 = .ok (.aload_n 0, 1) := by decide +kernel
theorem dX4_set_1 : decode cX4_set 1 = .ok (.iconst 0, 1) := by decide +kernel
theorem dX4_set_2 : decode cX4_set 2 = .ok (.putfield 28, 3) := by decide +kernel
theorem dX4_set_5 : decode cX4_set 5 = .ok (.iload_n 1, 1) := by decide +kernel
theorem dX4_set_6 : decode cX4_set 6 = .ok (.iconst 0, 1) := by decide +kernel
theorem dX4_set_7 : decode cX4_set 7 = .ok (.iconst 4, 1) := by decide +kernel
theorem dX4_set_8 : decode cX4_set 8 = .ok (.invokestatic 32, 3) := by decide +kernel
theorem dX4_set_11 : decode cX4_set 11 = .ok (.ifCond .ne 5, 3) := by decide +kernel
theorem dX4_set_14 : decode cX4_set 14 = .ok (.iconst (-1), 1) := by decide +kernel
theorem dX4_set_15 : decode cX4_set 15 = .ok (.ireturn, 1) := by decide +kernel
theorem dX4_set_16 : decode cX4_set 16 = .ok (.iload_n 2, 1) := by decide +kernel
theorem dX4_set_17 : decode cX4_set 17 = .ok (.iload_n 1, 1) := by decide +kernel
theorem dX4_set_18 : decode cX4_set 18 = .ok (.invokestatic 100, 3) := by decide +kernel
theorem dX4_set_21 : decode cX4_set 21 = .ok (.iload_n 1, 1) := by decide +kernel
theorem dX4_set_22 : decode cX4_set 22 = .ok (.iconst 2, 1) := by decide +kernel
theorem dX4_set_23 : decode cX4_set 23 = .ok (.if_icmp .ne 9, 3) := by decide +kernel
theorem dX4_set_26 : decode cX4_set 26 = .ok (.sipush 999, 3) := by decide +kernel
theorem dX4_set_29 : decode cX4_set 29 = .ok (.goto 5, 3) := by decide +kernel
theorem dX4_set_32 : decode cX4_set 32 = .ok (.bipush 99, 2) := by decide +kernel
theorem dX4_set_34 : decode cX4_set 34 = .ok (.invokestatic 32, 3) := by decide +kernel
theorem dX4_set_37 : decode cX4_set 37 = .ok (.ifCond .ne 6, 3) := by decide +kernel
theorem dX4_set_40 : decode cX4_set 40 = .ok (.bipush (-2), 2) := by decide +kernel
theorem dX4_set_42 : decode cX4_set 42 = .ok (.ireturn, 1) := by decide +kernel
theorem dX4_set_43 : decode cX4_set 43 = .ok (.aload_n 0, 1) := by decide +kernel
theorem dX4_set_44 : decode cX4_set 44 = .ok (.getfield 7, 3) := by decide +kernel
theorem dX4_set_47 : decode cX4_set 47 = .ok (.iload_n 1, 1) := by decide +kernel
theorem dX4_set_48 : decode cX4_set 48 = .ok (.iaload, 1) := by decide +kernel
theorem dX4_set_49 : decode cX4_set 49 = .ok (.istore_n 3, 1) := by decide +kernel
theorem dX4_set_50 : decode cX4_set 50 = .ok (.iload_n 3, 1) := by decide +kernel
theorem dX4_set_51 : decode cX4_set 51 = .ok (.iload_n 2, 1) := by decide +kernel
theorem dX4_set_52 : decode cX4_set 52 = .ok (.if_icmp .ne 6, 3) := by decide +kernel
theorem dX4_set_55 : decode cX4_set 55 = .ok (.bipush (-5), 2) := by decide +kernel
theorem dX4_set_57 : decode cX4_set 57 = .ok (.ireturn, 1) := by decide +kernel
theorem dX4_set_58 : decode cX4_set 58 = .ok (.aload_n 0, 1) := by decide +kernel
theorem dX4_set_59 : decode cX4_set 59 = .ok (.invokevirtual 62, 3) := by decide +kernel
theorem dX4_set_62 : decode cX4_set 62 = .ok (.aload_n 0, 1) := by decide +kernel
theorem dX4_set_63 : decode cX4_set 63 = .ok (.getfield 7, 3) := by decide +kernel
theorem dX4_set_66 : decode cX4_set 66 = .ok (.iload_n 1, 1) := by decide +kernel
theorem dX4_set_67 : decode cX4_set 67 = .ok (.iload_n 2, 1) := by decide +kernel
theorem dX4_set_68 : decode cX4_set 68 = .ok (.iastore, 1) := by decide +kernel
theorem dX4_set_69 : decode cX4_set 69 = .ok (.iload_n 3, 1) := by decide +kernel
theorem dX4_set_70 : decode cX4_set 70 = .ok (.ireturn, 1) := by decide +kernel
theorem dX4_type_0 : decode cX4_type 0 = .ok (.aload_n 0, 1) := by decide +kernel
theorem dX4_type_1 : decode cX4_type 1 = .ok (.iconst 0, 1) := by decide +kernel
theorem dX4_type_2 : decode cX4_type 2 = .ok (.putfield 28, 3) := by decide +kernel
theorem dX4_type_5 : decode cX4_type 5 = .ok (.aload_n 0, 1) := by decide +kernel
theorem dX4_type_6 : decode cX4_type 6 = .ok (.getfield 103, 3) := by decide +kernel
theorem dX4_type_9 : decode cX4_type 9 = .ok (.bipush 60, 2) := by decide +kernel
theorem dX4_type_11 : decode cX4_type 11 = .ok (.if_icmp .ne 6, 3) := by decide +kernel
theorem dX4_type_14 : decode cX4_type 14 = .ok (.bipush (-3), 2) := by decide +kernel
theorem dX4_type_16 : decode cX4_type 16 = .ok (.ireturn, 1) := by decide +kernel
theorem dX4_type_17 : decode cX4_type 17 = .ok (.aload_n 0, 1) := by decide +kernel
theorem dX4_type_18 : decode cX4_type 18 = .ok (.getfield 22, 3) := by decide +kernel
theorem dX4_type_21 : decode cX4_type 21 = .ok (.aload_n 0, 1) := by decide +kernel
theorem dX4_type_22 : decode cX4_type 22 = .ok (.getfield 103, 3) := by decide +kernel
theorem dX4_type_25 : decode cX4_type 25 = .ok (.iload_n 1, 1) := by decide +kernel
theorem dX4_type_26 : decode cX4_type 26 = .ok (.iastore, 1) := by decide +kernel
theorem dX4_type_27 : decode cX4_type 27 = .ok (.aload_n 0, 1) := by decide +kernel
theorem dX4_type_28 : decode cX4_type 28 = .ok (.dup, 1) := by decide +kernel
theorem dX4_type_29 : decode cX4_type 29 = .ok (.getfield 103, 3) := by decide +kernel
theorem dX4_type_32 : decode cX4_type 32 = .ok (.iconst 1, 1) := by decide +kernel
theorem dX4_type_33 : decode cX4_type 33 = .ok (.iadd, 1) := by decide +kernel
theorem dX4_type_34 : decode cX4_type 34 = .ok (.putfield 103, 3) := by decide +kernel
theorem dX4_type_37 : decode cX4_type 37 = .ok (.aload_n 0, 1) := by decide +kernel
theorem dX4_type_38 : decode cX4_type 38 = .ok (.getfield 103, 3) := by decide +kernel
theorem dX4_type_41 : decode cX4_type 41 = .ok (.ireturn, 1) := by decide +kernel
theorem dX4_clearText_0 : decode cX4_clearText 0 = .ok (.aload_n 0, 1) := by decide +kernel
theorem dX4_clearText_1 : decode cX4_clearText 1 = .ok (.iconst 0, 1) := by decide +kernel
theorem dX4_clearText_2 : decode cX4_clearText 2 = .ok (.putfield 28, 3) := by decide +kernel
theorem dX4_clearText_5 : decode cX4_clearText 5 = .ok (.aload_n 0, 1) := by decide +kernel
theorem dX4_clearText_6 : decode cX4_clearText 6 = .ok (.getfield 103, 3) := by decide +kernel
theorem dX4_clearText_9 : decode cX4_clearText 9 = .ok (.istore_n 1, 1) := by decide +kernel
theorem dX4_clearText_10 : decode cX4_clearText 10 = .ok (.aload_n 0, 1) := by decide +kernel
theorem dX4_clearText_11 : decode cX4_clearText 11 = .ok (.iconst 0, 1) := by decide +kernel
theorem dX4_clearText_12 : decode cX4_clearText 12 = .ok (.putfield 103, 3) := by decide +kernel
theorem dX4_clearText_15 : decode cX4_clearText 15 = .ok (.iload_n 1, 1) := by decide +kernel
theorem dX4_clearText_16 : decode cX4_clearText 16 = .ok (.ireturn, 1) := by decide +kernel
theorem dX4_sign_0 : decode cX4_sign 0 = .ok (.aload_n 0, 1) := by decide +kernel
theorem dX4_sign_1 : decode cX4_sign 1 = .ok (.getfield 106, 3) := by decide +kernel
theorem dX4_sign_4 : decode cX4_sign 4 = .ok (.aload_n 0, 1) := by decide +kernel
theorem dX4_sign_5 : decode cX4_sign 5 = .ok (.getfield 103, 3) := by decide +kernel
theorem dX4_sign_8 : decode cX4_sign 8 = .ok (.if_icmp .ge 15, 3) := by decide +kernel
theorem dX4_sign_11 : decode cX4_sign 11 = .ok (.aload_n 0, 1) := by decide +kernel
theorem dX4_sign_12 : decode cX4_sign 12 = .ok (.getfield 22, 3) := by decide +kernel
theorem dX4_sign_15 : decode cX4_sign 15 = .ok (.aload_n 0, 1) := by decide +kernel
theorem dX4_sign_16 : decode cX4_sign 16 = .ok (.getfield 106, 3) := by decide +kernel
theorem dX4_sign_19 : decode cX4_sign 19 = .ok (.iaload, 1) := by decide +kernel
theorem dX4_sign_20 : decode cX4_sign 20 = .ok (.goto 4, 3) := by decide +kernel
theorem dX4_sign_23 : decode cX4_sign 23 = .ok (.iconst 0, 1) := by decide +kernel
theorem dX4_sign_24 : decode cX4_sign 24 = .ok (.ireturn, 1) := by decide +kernel
set_option maxRecDepth 20000 in
theorem ggX4_wants_X4_sign : GoodIn wsX4_wants wsX4_sign := goodIn_r _ [7, 2, 8, 9, 10, 11, 12, 13, 14, 15, 16, 17, 18, 19, 20, 21, 22] (by decide +kernel) (by decide +kernel)
set_option maxRecDepth 20000 in
theorem gX4_wants_X4_sign : GoodIn wsX4_wants (wsV RX4 113 RX4 yX4_sign wsX4_sign) := goodIn_app (goodIn_of _ (by decide +kernel)) ggX4_wants_X4_sign
theorem dX4_wants_0 : decode cX4_wants 0 = .ok (.aload_n 0, 1) := by decide +kernel
theorem dX4_wants_1 : decode cX4_wants 1 = .ok (.aload_n 0, 1) := by decide +kernel
theorem dX4_wants_2 : decode cX4_wants 2 = .ok (.getfield 109, 3) := by decide +kernel
theorem dX4_wants_5 : decode cX4_wants 5 = .ok (.ifCond .eq 15, 3) := by decide +kernel
theorem dX4_wants_8 : decode cX4_wants 8 = .ok (.aload_n 0, 1) := by decide +kernel
theorem dX4_wants_9 : decode cX4_wants 9 = .ok (.invokevirtual 113, 3) := by decide +kernel
theorem dX4_wants_12 : decode cX4_wants 12 = .ok (.iload_n 1, 1) := by decide +kernel
theorem dX4_wants_13 : decode cX4_wants 13 = .ok (.if_icmp .ne 7, 3) := by decide +kernel
theorem dX4_wants_16 : decode cX4_wants 16 = .ok (.iconst 1, 1) := by decide +kernel
theorem dX4_wants_17 : decode cX4_wants 17 = .ok (.goto 4, 3) := by decide +kernel
theorem dX4_wants_20 : decode cX4_wants 20 = .ok (.iconst 0, 1) := by decide +kernel
theorem dX4_wants_21 : decode cX4_wants 21 = .ok (.putfield 109, 3) := by decide +kernel
theorem dX4_wants_24 : decode cX4_wants 24 = .ok (.aload_n 0, 1) := by decide +kernel
theorem dX4_wants_25 : decode cX4_wants 25 = .ok (.dup, 1) := by decide +kernel
theorem dX4_wants_26 : decode cX4_wants 26 = .ok (.getfield 106, 3) := by decide +kernel
theorem dX4_wants_29 : decode cX4_wants 29 = .ok (.aload_n 0, 1) := by decide +kernel
theorem dX4_wants_30 : decode cX4_wants 30 = .ok (.getfield 109, 3) := by decide +kernel
theorem dX4_wants_33 : decode cX4_wants 33 = .ok (.ifCond .eq 7, 3) := by decide +kernel
theorem dX4_wants_36 : decode cX4_wants 36 = .ok (.iconst 1, 1) := by decide +kernel
theorem dX4_wants_37 : decode cX4_wants 37 = .ok (.goto 4, 3) := by decide +kernel
theorem dX4_wants_40 : decode cX4_wants 40 = .ok (.iconst 0, 1) := by decide +kernel
theorem dX4_wants_41 : decode cX4_wants 41 = .ok (.iadd, 1) := by decide +kernel
theorem dX4_wants_42 : decode cX4_wants 42 = .ok (.putfield 106, 3) := by decide +kernel
theorem dX4_wants_45 : decode cX4_wants 45 = .ok (.return_, 1) := by decide +kernel
set_option maxRecDepth 20000 in
theorem ggX4_number_X4_sign : GoodIn wsX4_number wsX4_sign := goodIn_r _ [7, 2, 8, 9, 13, 14, 15, 16, 17, 18, 19, 20, 21, 22, 23, 24, 25] (by decide +kernel) (by decide +kernel)
set_option maxRecDepth 20000 in
theorem gX4_number_X4_sign : GoodIn wsX4_number (wsV RX4 113 RX4 yX4_sign wsX4_sign) := goodIn_app (goodIn_of _ (by decide +kernel)) ggX4_number_X4_sign
set_option maxRecDepth 20000 in
theorem ggX4_number_X4_in : GoodIn wsX4_number wsX4_in := goodIn_r _ [12] (by decide +kernel) (by decide +kernel)
set_option maxRecDepth 20000 in
theorem gX4_number_X4_in : GoodIn wsX4_number (va_wsS RX4 32 yX4_in wsX4_in) := goodIn_app (goodIn_of _ (by decide +kernel)) ggX4_number_X4_in
theorem dX4_number_0 : decode cX4_number 0 = .ok (.aload_n 0, 1) := by decide +kernel
theorem dX4_number_1 : decode cX4_number 1 = .ok (.aload_n 0, 1) := by decide +kernel
theorem dX4_number_2 : decode cX4_number 2 = .ok (.getfield 109, 3) := by decide +kernel
theorem dX4_number_5 : decode cX4_number 5 = .ok (.ifCond .eq 21, 3) := by decide +kernel
theorem dX4_number_8 : decode cX4_number 8 = .ok (.aload_n 0, 1) := by decide +kernel
theorem dX4_number_9 : decode cX4_number 9 = .ok (.invokevirtual 113, 3) := by decide +kernel
theorem dX4_number_12 : decode cX4_number 12 = .ok (.bipush 48, 2) := by decide +kernel
theorem dX4_number_14 : decode cX4_number 14 = .ok (.bipush 57, 2) := by decide +kernel
theorem dX4_number_16 : decode cX4_number 16 = .ok (.invokestatic 32, 3) := by decide +kernel
theorem dX4_number_19 : decode cX4_number 19 = .ok (.ifCond .eq 7, 3) := by decide +kernel
theorem dX4_number_22 : decode cX4_number 22 = .ok (.iconst 1, 1) := by decide +kernel
theorem dX4_number_23 : decode cX4_number 23 = .ok (.goto 4, 3) := by decide +kernel
theorem dX4_number_26 : decode cX4_number 26 = .ok (.iconst 0, 1) := by decide +kernel
theorem dX4_number_27 : decode cX4_number 27 = .ok (.putfield 109, 3) := by decide +kernel
theorem dX4_number_30 : decode cX4_number 30 = .ok (.aload_n 0, 1) := by decide +kernel
theorem dX4_number_31 : decode cX4_number 31 = .ok (.invokevirtual 113, 3) := by decide +kernel
theorem dX4_number_34 : decode cX4_number 34 = .ok (.bipush 48, 2) := by decide +kernel
theorem dX4_number_36 : decode cX4_number 36 = .ok (.isub, 1) := by decide +kernel
theorem dX4_number_37 : decode cX4_number 37 = .ok (.istore_n 2, 1) := by decide +kernel
theorem dX4_number_38 : decode cX4_number 38 = .ok (.aload_n 0, 1) := by decide +kernel
theorem dX4_number_39 : decode cX4_number 39 = .ok (.dup, 1) := by decide +kernel
theorem dX4_number_40 : decode cX4_number 40 = .ok (.getfield 106, 3) := by decide +kernel
theorem dX4_number_43 : decode cX4_number 43 = .ok (.aload_n 0, 1) := by decide +kernel
theorem dX4_number_44 : decode cX4_number 44 = .ok (.getfield 109, 3) := by decide +kernel
theorem dX4_number_47 : decode cX4_number 47 = .ok (.ifCond .eq 7, 3) := by decide +kernel
theorem dX4_number_50 : decode cX4_number 50 = .ok (.iconst 1, 1) := by decide +kernel
theorem dX4_number_51 : decode cX4_number 51 = .ok (.goto 4, 3) := by decide +kernel
theorem dX4_number_54 : decode cX4_number 54 = .ok (.iconst 0, 1) := by decide +kernel
theorem dX4_number_55 : decode cX4_number 55 = .ok (.iadd, 1) := by decide +kernel
theorem dX4_number_56 : decode cX4_number 56 = .ok (.putfield 106, 3) := by decide +kernel
theorem dX4_number_59 : decode cX4_number 59 = .ok (.aload_n 0, 1) := by decide +kernel
theorem dX4_number_60 : decode cX4_number 60 = .ok (.getfield 109, 3) := by decide +kernel
theorem dX4_number_63 : decode cX4_number 63 = .ok (.ifCond .eq 60, 3) := by decide +kernel
theorem dX4_number_66 : decode cX4_number 66 = .ok (.iload_n 2, 1) := by decide +kernel
theorem dX4_number_67 : decode cX4_number 67 = .ok (.ifCond .le 56, 3) := by decide +kernel
theorem dX4_number_70 : decode cX4_number 70 = .ok (.aload_n 0, 1) := by decide +kernel
theorem dX4_number_71 : decode cX4_number 71 = .ok (.invokevirtual 113, 3) := by decide +kernel
theorem dX4_number_74 : decode cX4_number 74 = .ok (.bipush 48, 2) := by decide +kernel
theorem dX4_number_76 : decode cX4_number 76 = .ok (.bipush 57, 2) := by decide +kernel
theorem dX4_number_78 : decode cX4_number 78 = .ok (.invokestatic 32, 3) := by decide +kernel
theorem dX4_number_81 : decode cX4_number 81 = .ok (.ifCond .eq 42, 3) := by decide +kernel
theorem dX4_number_84 : decode cX4_number 84 = .ok (.bipush 10, 2) := by decide +kernel
theorem dX4_number_86 : decode cX4_number 86 = .ok (.iload_n 2, 1) := by decide +kernel
theorem dX4_number_87 : decode cX4_number 87 = .ok (.imul, 1) := by decide +kernel
theorem dX4_number_88 : decode cX4_number 88 = .ok (.aload_n 0, 1) := by decide +kernel
theorem dX4_number_89 : decode cX4_number 89 = .ok (.invokevirtual 113, 3) := by decide +kernel
theorem dX4_number_92 : decode cX4_number 92 = .ok (.iadd, 1) := by decide +kernel
theorem dX4_number_93 : decode cX4_number 93 = .ok (.bipush 48, 2) := by decide +kernel
theorem dX4_number_95 : decode cX4_number 95 = .ok (.isub, 1) := by decide +kernel
theorem dX4_number_96 : decode cX4_number 96 = .ok (.iload_n 1, 1) := by decide +kernel
theorem dX4_number_97 : decode cX4_number 97 = .ok (.if_icmp .gt 26, 3) := by decide +kernel
theorem dX4_number_100 : decode cX4_number 100 = .ok (.bipush 10, 2) := by decide +kernel
theorem dX4_number_102 : decode cX4_number 102 = .ok (.iload_n 2, 1) := by decide +kernel
theorem dX4_number_103 : decode cX4_number 103 = .ok (.imul, 1) := by decide +kernel
theorem dX4_number_104 : decode cX4_number 104 = .ok (.aload_n 0, 1) := by decide +kernel
theorem dX4_number_105 : decode cX4_number 105 = .ok (.invokevirtual 113, 3) := by decide +kernel
theorem dX4_number_108 : decode cX4_number 108 = .ok (.iadd, 1) := by decide +kernel
theorem dX4_number_109 : decode cX4_number 109 = .ok (.bipush 48, 2) := by decide +kernel
theorem dX4_number_111 : decode cX4_number 111 = .ok (.isub, 1) := by decide +kernel
theorem dX4_number_112 : decode cX4_number 112 = .ok (.istore_n 2, 1) := by decide +kernel
theorem dX4_number_113 : decode cX4_number 113 = .ok (.aload_n 0, 1) := by decide +kernel
theorem dX4_number_114 : decode cX4_number 114 = .ok (.dup, 1) := by decide +kernel
theorem dX4_number_115 : decode cX4_number 115 = .ok (.getfield 106, 3) := by decide +kernel
theorem dX4_number_118 : decode cX4_number 118 = .ok (.iconst 1, 1) := by decide +kernel
theorem dX4_number_119 : decode cX4_number 119 = .ok (.iadd, 1) := by decide +kernel
theorem dX4_number_120 : decode cX4_number 120 = .ok (.putfield 106, 3) := by decide +kernel
theorem dX4_number_123 : decode cX4_number 123 = .ok (.iload_n 2, 1) := by decide +kernel
theorem dX4_number_124 : decode cX4_number 124 = .ok (.ireturn, 1) := by decide +kernel
set_option maxRecDepth 20000 in
theorem ggX4_readsCart_X4_number : GoodIn wsX4_readsCart wsX4_number := goodIn_r _ [8, 2, 3, 9, 10, 11, 7, 12, 13, 14, 15, 16, 17, 22, 23, 24, 25, 26, 27, 28, 29, 30, 31, 32, 33, 34] (by decide +kernel) (by decide +kernel)
set_option maxRecDepth 20000 in
theorem gX4_readsCart_X4_number : GoodIn wsX4_readsCart (wsV RX4 116 RX4 yX4_number wsX4_number) := goodIn_app (goodIn_of _ (by decide +kernel)) ggX4_readsCart_X4_number
set_option maxRecDepth 20000 in
theorem ggX4_readsCart_X4_wants : GoodIn wsX4_readsCart wsX4_wants := goodIn_r _ [21, 2, 3, 9, 10, 11, 7, 12, 13, 14, 22, 23, 24, 25, 26, 27, 28, 29, 30, 31, 32, 33, 34] (by decide +kernel) (by decide +kernel)
set_option maxRecDepth 20000 in
theorem gX4_readsCart_X4_wants : GoodIn wsX4_readsCart (wsV RX4 119 RX4 yX4_wants wsX4_wants) := goodIn_app (goodIn_of _ (by decide +kernel)) ggX4_readsCart_X4_wants
set_option maxRecDepth 20000 in
theorem ggX4_readsCart_X4_sign : GoodIn wsX4_readsCart wsX4_sign := goodIn_r _ [12, 3, 13, 14, 22, 23, 24, 25, 26, 27, 28, 29, 30, 31, 32, 33, 34] (by decide +kernel) (by decide +kernel)
set_option maxRecDepth 20000 in
theorem gX4_readsCart_X4_sign : GoodIn wsX4_readsCart (wsV RX4 113 RX4 yX4_sign wsX4_sign) := goodIn_app (goodIn_of _ (by decide +kernel)) ggX4_readsCart_X4_sign
theorem dX4_readsCart_0 : decode cX4_readsCart 0 = .ok (.aload_n 0, 1) := by decide +kernel
theorem dX4_readsCart_1 : decode cX4_readsCart 1 = .ok (.getfield 25, 3) := by decide +kernel
theorem dX4_readsCart_4 : decode cX4_readsCart 4 = .ok (.iload_n 1, 1) := by decide +kernel
theorem dX4_readsCart_5 : decode cX4_readsCart 5 = .ok (.iconst 1, 1) := by decide +kernel
theorem dX4_readsCart_6 : decode cX4_readsCart 6 = .ok (.iadd, 1) := by decide +kernel
theorem dX4_readsCart_7 : decode cX4_readsCart 7 = .ok (.aload_n 0, 1) := by decide +kernel
theorem dX4_readsCart_8 : decode cX4_readsCart 8 = .ok (.bipush 99, 2) := by decide +kernel
theorem dX4_readsCart_10 : decode cX4_readsCart 10 = .ok (.invokevirtual 116, 3) := by decide +kernel
theorem dX4_readsCart_13 : decode cX4_readsCart 13 = .ok (.iastore, 1) := by decide +kernel
theorem dX4_readsCart_14 : decode cX4_readsCart 14 = .ok (.aload_n 0, 1) := by decide +kernel
theorem dX4_readsCart_15 : decode cX4_readsCart 15 = .ok (.bipush 47, 2) := by decide +kernel
theorem dX4_readsCart_17 : decode cX4_readsCart 17 = .ok (.invokevirtual 119, 3) := by decide +kernel
theorem dX4_readsCart_20 : decode cX4_readsCart 20 = .ok (.aload_n 0, 1) := by decide +kernel
theorem dX4_readsCart_21 : decode cX4_readsCart 21 = .ok (.getfield 25, 3) := by decide +kernel
theorem dX4_readsCart_24 : decode cX4_readsCart 24 = .ok (.iload_n 1, 1) := by decide +kernel
theorem dX4_readsCart_25 : decode cX4_readsCart 25 = .ok (.iconst 2, 1) := by decide +kernel
theorem dX4_readsCart_26 : decode cX4_readsCart 26 = .ok (.iadd, 1) := by decide +kernel
theorem dX4_readsCart_27 : decode cX4_readsCart 27 = .ok (.aload_n 0, 1) := by decide +kernel
theorem dX4_readsCart_28 : decode cX4_readsCart 28 = .ok (.bipush 99, 2) := by decide +kernel
theorem dX4_readsCart_30 : decode cX4_readsCart 30 = .ok (.invokevirtual 116, 3) := by decide +kernel
theorem dX4_readsCart_33 : decode cX4_readsCart 33 = .ok (.iastore, 1) := by decide +kernel
theorem dX4_readsCart_34 : decode cX4_readsCart 34 = .ok (.aload_n 0, 1) := by decide +kernel
theorem dX4_readsCart_35 : decode cX4_readsCart 35 = .ok (.getfield 25, 3) := by decide +kernel
theorem dX4_readsCart_38 : decode cX4_readsCart 38 = .ok (.iload_n 1, 1) := by decide +kernel
theorem dX4_readsCart_39 : decode cX4_readsCart 39 = .ok (.iconst 3, 1) := by decide +kernel
theorem dX4_readsCart_40 : decode cX4_readsCart 40 = .ok (.iadd, 1) := by decide +kernel
theorem dX4_readsCart_41 : decode cX4_readsCart 41 = .ok (.iconst (-1), 1) := by decide +kernel
theorem dX4_readsCart_42 : decode cX4_readsCart 42 = .ok (.iastore, 1) := by decide +kernel
theorem dX4_readsCart_43 : decode cX4_readsCart 43 = .ok (.aload_n 0, 1) := by decide +kernel
theorem dX4_readsCart_44 : decode cX4_readsCart 44 = .ok (.getfield 109, 3) := by decide +kernel
theorem dX4_readsCart_47 : decode cX4_readsCart 47 = .ok (.ifCond .eq 36, 3) := by decide +kernel
theorem dX4_readsCart_50 : decode cX4_readsCart 50 = .ok (.aload_n 0, 1) := by decide +kernel
theorem dX4_readsCart_51 : decode cX4_readsCart 51 = .ok (.invokevirtual 113, 3) := by decide +kernel
theorem dX4_readsCart_54 : decode cX4_readsCart 54 = .ok (.bipush 62, 2) := by decide +kernel
theorem dX4_readsCart_56 : decode cX4_readsCart 56 = .ok (.if_icmp .ne 27, 3) := by decide +kernel
theorem dX4_readsCart_59 : decode cX4_readsCart 59 = .ok (.aload_n 0, 1) := by decide +kernel
theorem dX4_readsCart_60 : decode cX4_readsCart 60 = .ok (.dup, 1) := by decide +kernel
theorem dX4_readsCart_61 : decode cX4_readsCart 61 = .ok (.getfield 106, 3) := by decide +kernel
theorem dX4_readsCart_64 : decode cX4_readsCart 64 = .ok (.iconst 1, 1) := by decide +kernel
theorem dX4_readsCart_65 : decode cX4_readsCart 65 = .ok (.iadd, 1) := by decide +kernel
theorem dX4_readsCart_66 : decode cX4_readsCart 66 = .ok (.putfield 106, 3) := by decide +kernel
theorem dX4_readsCart_69 : decode cX4_readsCart 69 = .ok (.aload_n 0, 1) := by decide +kernel
theorem dX4_readsCart_70 : decode cX4_readsCart 70 = .ok (.getfield 25, 3) := by decide +kernel
theorem dX4_readsCart_73 : decode cX4_readsCart 73 = .ok (.iload_n 1, 1) := by decide +kernel
theorem dX4_readsCart_74 : decode cX4_readsCart 74 = .ok (.iconst 3, 1) := by decide +kernel
theorem dX4_readsCart_75 : decode cX4_readsCart 75 = .ok (.iadd, 1) := by decide +kernel
theorem dX4_readsCart_76 : decode cX4_readsCart 76 = .ok (.aload_n 0, 1) := by decide +kernel
theorem dX4_readsCart_77 : decode cX4_readsCart 77 = .ok (.bipush 23, 2) := by decide +kernel
theorem dX4_readsCart_79 : decode cX4_readsCart 79 = .ok (.invokevirtual 116, 3) := by decide +kernel
theorem dX4_readsCart_82 : decode cX4_readsCart 82 = .ok (.iastore, 1) := by decide +kernel
theorem dX4_readsCart_83 : decode cX4_readsCart 83 = .ok (.return_, 1) := by decide +kernel
set_option maxRecDepth 20000 in
theorem ggX4_readsOrder_X4_sign : GoodIn wsX4_readsOrder wsX4_sign := goodIn_r _ [9, 3, 10, 11, 27, 28, 29, 30, 31, 32, 33, 34, 35, 36, 37, 38, 39] (by decide +kernel) (by decide +kernel)
set_option maxRecDepth 20000 in
theorem gX4_readsOrder_X4_sign : GoodIn wsX4_readsOrder (wsV RX4 113 RX4 yX4_sign wsX4_sign) := goodIn_app (goodIn_of _ (by decide +kernel)) ggX4_readsOrder_X4_sign
set_option maxRecDepth 20000 in
theorem ggX4_readsOrder_X4_readsCart : GoodIn wsX4_readsOrder wsX4_readsCart := goodIn_r _ [15, 4, 2, 3, 16, 17, 18, 8, 19, 5, 6, 7, 9, 10, 11, 20, 21, 22, 23, 24, 25, 26, 27, 28, 29, 30, 31, 32, 33, 34, 35, 36, 37, 38, 39] (by decide +kernel) (by decide +kernel)
set_option maxRecDepth 20000 in
theorem gX4_readsOrder_X4_readsCart : GoodIn wsX4_readsOrder (wsV RX4 126 RX4 yX4_readsCart wsX4_readsCart) := goodIn_app (goodIn_of _ (by decide +kernel)) ggX4_readsOrder_X4_readsCart
set_option maxRecDepth 20000 in
theorem ggX4_readsOrder_X4_number : GoodIn wsX4_readsOrder wsX4_number := goodIn_r _ [19, 2, 3, 5, 6, 7, 8, 9, 10, 11, 20, 21, 22, 27, 28, 29, 30, 31, 32, 33, 34, 35, 36, 37, 38, 39] (by decide +kernel) (by decide +kernel)
set_option maxRecDepth 20000 in
theorem gX4_readsOrder_X4_number : GoodIn wsX4_readsOrder (wsV RX4 116 RX4 yX4_number wsX4_number) := goodIn_app (goodIn_of _ (by decide +kernel)) ggX4_readsOrder_X4_number
set_option maxRecDepth 20000 in
theorem ggX4_readsOrder_X4_wants : GoodIn wsX4_readsOrder wsX4_wants := goodIn_r _ [26, 2, 3, 5, 6, 7, 8, 9, 10, 11, 27, 28, 29, 30, 31, 32, 33, 34, 35, 36, 37, 38, 39] (by decide +kernel) (by decide +kernel)
set_option maxRecDepth 20000 in
theorem gX4_readsOrder_X4_wants : GoodIn wsX4_readsOrder (wsV RX4 119 RX4 yX4_wants wsX4_wants) := goodIn_app (goodIn_of _ (by decide +kernel)) ggX4_readsOrder_X4_wants
theorem dX4_readsOrder_0 : decode cX4_readsOrder 0 = .ok (.iconst 4, 1) := by decide +kernel
theorem dX4_readsOrder_1 : decode cX4_readsOrder 1 = .ok (.aload_n 0, 1) := by decide +kernel
theorem dX4_readsOrder_2 : decode cX4_readsOrder 2 = .ok (.getfield 123, 3) := by decide +kernel
theorem dX4_readsOrder_5 : decode cX4_readsOrder 5 = .ok (.imul, 1) := by decide +kernel
theorem dX4_readsOrder_6 : decode cX4_readsOrder 6 = .ok (.istore_n 1, 1) := by decide +kernel
theorem dX4_readsOrder_7 : decode cX4_readsOrder 7 = .ok (.aload_n 0, 1) := by decide +kernel
theorem dX4_readsOrder_8 : decode cX4_readsOrder 8 = .ok (.invokevirtual 113, 3) := by decide +kernel
theorem dX4_readsOrder_11 : decode cX4_readsOrder 11 = .ok (.istore_n 2, 1) := by decide +kernel
theorem dX4_readsOrder_12 : decode cX4_readsOrder 12 = .ok (.aload_n 0, 1) := by decide +kernel
theorem dX4_readsOrder_13 : decode cX4_readsOrder 13 = .ok (.iload_n 2, 1) := by decide +kernel
theorem dX4_readsOrder_14 : decode cX4_readsOrder 14 = .ok (.bipush 99, 2) := by decide +kernel
theorem dX4_readsOrder_16 : decode cX4_readsOrder 16 = .ok (.if_icmp .eq 21, 3) := by decide +kernel
theorem dX4_readsOrder_19 : decode cX4_readsOrder 19 = .ok (.iload_n 2, 1) := by decide +kernel
theorem dX4_readsOrder_20 : decode cX4_readsOrder 20 = .ok (.bipush 111, 2) := by decide +kernel
theorem dX4_readsOrder_22 : decode cX4_readsOrder 22 = .ok (.if_icmp .eq 15, 3) := by decide +kernel
theorem dX4_readsOrder_25 : decode cX4_readsOrder 25 = .ok (.iload_n 2, 1) := by decide +kernel
theorem dX4_readsOrder_26 : decode cX4_readsOrder 26 = .ok (.bipush 120, 2) := by decide +kernel
theorem dX4_readsOrder_28 : decode cX4_readsOrder 28 = .ok (.if_icmp .eq 9, 3) := by decide +kernel
theorem dX4_readsOrder_31 : decode cX4_readsOrder 31 = .ok (.iload_n 2, 1) := by decide +kernel
theorem dX4_readsOrder_32 : decode cX4_readsOrder 32 = .ok (.bipush 115, 2) := by decide +kernel
theorem dX4_readsOrder_34 : decode cX4_readsOrder 34 = .ok (.if_icmp .ne 7, 3) := by decide +kernel
theorem dX4_readsOrder_37 : decode cX4_readsOrder 37 = .ok (.iconst 1, 1) := by decide +kernel
theorem dX4_readsOrder_38 : decode cX4_readsOrder 38 = .ok (.goto 4, 3) := by decide +kernel
theorem dX4_readsOrder_41 : decode cX4_readsOrder 41 = .ok (.iconst 0, 1) := by decide +kernel
theorem dX4_readsOrder_42 : decode cX4_readsOrder 42 = .ok (.putfield 109, 3) := by decide +kernel
theorem dX4_readsOrder_45 : decode cX4_readsOrder 45 = .ok (.aload_n 0, 1) := by decide +kernel
theorem dX4_readsOrder_46 : decode cX4_readsOrder 46 = .ok (.dup, 1) := by decide +kernel
theorem dX4_readsOrder_47 : decode cX4_readsOrder 47 = .ok (.getfield 106, 3) := by decide +kernel
theorem dX4_readsOrder_50 : decode cX4_readsOrder 50 = .ok (.aload_n 0, 1) := by decide +kernel
theorem dX4_readsOrder_51 : decode cX4_readsOrder 51 = .ok (.getfield 109, 3) := by decide +kernel
theorem dX4_readsOrder_54 : decode cX4_readsOrder 54 = .ok (.ifCond .eq 7, 3) := by decide +kernel
theorem dX4_readsOrder_57 : decode cX4_readsOrder 57 = .ok (.iconst 1, 1) := by decide +kernel
theorem dX4_readsOrder_58 : decode cX4_readsOrder 58 = .ok (.goto 4, 3) := by decide +kernel
theorem dX4_readsOrder_61 : decode cX4_readsOrder 61 = .ok (.iconst 0, 1) := by decide +kernel
theorem dX4_readsOrder_62 : decode cX4_readsOrder 62 = .ok (.iadd, 1) := by decide +kernel
theorem dX4_readsOrder_63 : decode cX4_readsOrder 63 = .ok (.putfield 106, 3) := by decide +kernel
theorem dX4_readsOrder_66 : decode cX4_readsOrder 66 = .ok (.aload_n 0, 1) := by decide +kernel
theorem dX4_readsOrder_67 : decode cX4_readsOrder 67 = .ok (.getfield 25, 3) := by decide +kernel
theorem dX4_readsOrder_70 : decode cX4_readsOrder 70 = .ok (.iload_n 1, 1) := by decide +kernel
theorem dX4_readsOrder_71 : decode cX4_readsOrder 71 = .ok (.iload_n 2, 1) := by decide +kernel
theorem dX4_readsOrder_72 : decode cX4_readsOrder 72 = .ok (.iastore, 1) := by decide +kernel
theorem dX4_readsOrder_73 : decode cX4_readsOrder 73 = .ok (.iload_n 2, 1) := by decide +kernel
theorem dX4_readsOrder_74 : decode cX4_readsOrder 74 = .ok (.bipush 99, 2) := by decide +kernel
theorem dX4_readsOrder_76 : decode cX4_readsOrder 76 = .ok (.if_icmp .ne 11, 3) := by decide +kernel
theorem dX4_readsOrder_79 : decode cX4_readsOrder 79 = .ok (.aload_n 0, 1) := by decide +kernel
theorem dX4_readsOrder_80 : decode cX4_readsOrder 80 = .ok (.iload_n 1, 1) := by decide +kernel
theorem dX4_readsOrder_81 : decode cX4_readsOrder 81 = .ok (.invokevirtual 126, 3) := by decide +kernel
theorem dX4_readsOrder_84 : decode cX4_readsOrder 84 = .ok (.goto 17, 3) := by decide +kernel
theorem dX4_readsOrder_87 : decode cX4_readsOrder 87 = .ok (.aload_n 0, 1) := by decide +kernel
theorem dX4_readsOrder_88 : decode cX4_readsOrder 88 = .ok (.getfield 25, 3) := by decide +kernel
theorem dX4_readsOrder_91 : decode cX4_readsOrder 91 = .ok (.iload_n 1, 1) := by decide +kernel
theorem dX4_readsOrder_92 : decode cX4_readsOrder 92 = .ok (.iconst 1, 1) := by decide +kernel
theorem dX4_readsOrder_93 : decode cX4_readsOrder 93 = .ok (.iadd, 1) := by decide +kernel
theorem dX4_readsOrder_94 : decode cX4_readsOrder 94 = .ok (.aload_n 0, 1) := by decide +kernel
theorem dX4_readsOrder_95 : decode cX4_readsOrder 95 = .ok (.bipush 23, 2) := by decide +kernel
theorem dX4_readsOrder_97 : decode cX4_readsOrder 97 = .ok (.invokevirtual 116, 3) := by decide +kernel
theorem dX4_readsOrder_100 : decode cX4_readsOrder 100 = .ok (.iastore, 1) := by decide +kernel
theorem dX4_readsOrder_101 : decode cX4_readsOrder 101 = .ok (.iload_n 2, 1) := by decide +kernel
theorem dX4_readsOrder_102 : decode cX4_readsOrder 102 = .ok (.bipush 120, 2) := by decide +kernel
theorem dX4_readsOrder_104 : decode cX4_readsOrder 104 = .ok (.if_icmp .ne 23, 3) := by decide +kernel
theorem dX4_readsOrder_107 : decode cX4_readsOrder 107 = .ok (.aload_n 0, 1) := by decide +kernel
theorem dX4_readsOrder_108 : decode cX4_readsOrder 108 = .ok (.bipush 61, 2) := by decide +kernel
theorem dX4_readsOrder_110 : decode cX4_readsOrder 110 = .ok (.invokevirtual 119, 3) := by decide +kernel
theorem dX4_readsOrder_113 : decode cX4_readsOrder 113 = .ok (.aload_n 0, 1) := by decide +kernel
theorem dX4_readsOrder_114 : decode cX4_readsOrder 114 = .ok (.getfield 25, 3) := by decide +kernel
theorem dX4_readsOrder_117 : decode cX4_readsOrder 117 = .ok (.iload_n 1, 1) := by decide +kernel
theorem dX4_readsOrder_118 : decode cX4_readsOrder 118 = .ok (.iconst 2, 1) := by decide +kernel
theorem dX4_readsOrder_119 : decode cX4_readsOrder 119 = .ok (.iadd, 1) := by decide +kernel
theorem dX4_readsOrder_120 : decode cX4_readsOrder 120 = .ok (.aload_n 0, 1) := by decide +kernel
theorem dX4_readsOrder_121 : decode cX4_readsOrder 121 = .ok (.bipush 99, 2) := by decide +kernel
theorem dX4_readsOrder_123 : decode cX4_readsOrder 123 = .ok (.invokevirtual 116, 3) := by decide +kernel
theorem dX4_readsOrder_126 : decode cX4_readsOrder 126 = .ok (.iastore, 1) := by decide +kernel
theorem dX4_readsOrder_127 : decode cX4_readsOrder 127 = .ok (.aload_n 0, 1) := by decide +kernel
theorem dX4_readsOrder_128 : decode cX4_readsOrder 128 = .ok (.dup, 1) := by decide +kernel
theorem dX4_readsOrder_129 : decode cX4_readsOrder 129 = .ok (.getfield 123, 3) := by decide +kernel
theorem dX4_readsOrder_132 : decode cX4_readsOrder 132 = .ok (.aload_n 0, 1) := by decide +kernel
theorem dX4_readsOrder_133 : decode cX4_readsOrder 133 = .ok (.getfield 109, 3) := by decide +kernel
theorem dX4_readsOrder_136 : decode cX4_readsOrder 136 = .ok (.ifCond .eq 7, 3) := by decide +kernel
theorem dX4_readsOrder_139 : decode cX4_readsOrder 139 = .ok (.iconst 1, 1) := by decide +kernel
theorem dX4_readsOrder_140 : decode cX4_readsOrder 140 = .ok (.goto 4, 3) := by decide +kernel
theorem dX4_readsOrder_143 : decode cX4_readsOrder 143 = .ok (.iconst 0, 1) := by decide +kernel
theorem dX4_readsOrder_144 : decode cX4_readsOrder 144 = .ok (.iadd, 1) := by decide +kernel
theorem dX4_readsOrder_145 : decode cX4_readsOrder 145 = .ok (.putfield 123, 3) := by decide +kernel
theorem dX4_readsOrder_148 : decode cX4_readsOrder 148 = .ok (.return_, 1) := by decide +kernel
set_option maxRecDepth 20000 in
theorem ggX4_reads_X4_readsOrder : GoodIn wsX4_reads wsX4_readsOrder := goodIn_r _ [9, 2, 3, 1, 10, 11, 12, 13, 8, 14, 4, 15, 16, 17, 18, 19, 20, 21, 22, 23, 24, 25, 26, 27, 28, 29, 30, 31, 32, 33, 34, 35, 36, 37, 38, 39, 40, 41, 42, 43] (by decide +kernel) (by decide +kernel)
set_option maxRecDepth 20000 in
theorem gX4_reads_X4_readsOrder : GoodIn wsX4_reads (wsV RX4 129 RX4 yX4_readsOrder wsX4_readsOrder) := goodIn_app (goodIn_of _ (by decide +kernel)) ggX4_reads_X4_readsOrder
set_option maxRecDepth 20000 in
theorem ggX4_reads_X4_wants : GoodIn wsX4_reads wsX4_wants := goodIn_r _ [30, 3, 1, 11, 12, 13, 8, 14, 4, 15, 31, 32, 33, 34, 35, 36, 37, 38, 39, 40, 41, 42, 43] (by decide +kernel) (by decide +kernel)
set_option maxRecDepth 20000 in
theorem gX4_reads_X4_wants : GoodIn wsX4_reads (wsV RX4 119 RX4 yX4_wants wsX4_wants) := goodIn_app (goodIn_of _ (by decide +kernel)) ggX4_reads_X4_wants
theorem dX4_reads_0 : decode cX4_reads 0 = .ok (.aload_n 0, 1) := by decide +kernel
theorem dX4_reads_1 : decode cX4_reads 1 = .ok (.iconst 0, 1) := by decide +kernel
theorem dX4_reads_2 : decode cX4_reads 2 = .ok (.putfield 106, 3) := by decide +kernel
theorem dX4_reads_5 : decode cX4_reads 5 = .ok (.aload_n 0, 1) := by decide +kernel
theorem dX4_reads_6 : decode cX4_reads 6 = .ok (.iconst 0, 1) := by decide +kernel
theorem dX4_reads_7 : decode cX4_reads 7 = .ok (.putfield 123, 3) := by decide +kernel
theorem dX4_reads_10 : decode cX4_reads 10 = .ok (.aload_n 0, 1) := by decide +kernel
theorem dX4_reads_11 : decode cX4_reads 11 = .ok (.invokevirtual 129, 3) := by decide +kernel
theorem dX4_reads_14 : decode cX4_reads 14 = .ok (.aload_n 0, 1) := by decide +kernel
theorem dX4_reads_15 : decode cX4_reads 15 = .ok (.getfield 109, 3) := by decide +kernel
theorem dX4_reads_18 : decode cX4_reads 18 = .ok (.ifCond .eq 34, 3) := by decide +kernel
theorem dX4_reads_21 : decode cX4_reads 21 = .ok (.aload_n 0, 1) := by decide +kernel
theorem dX4_reads_22 : decode cX4_reads 22 = .ok (.getfield 106, 3) := by decide +kernel
theorem dX4_reads_25 : decode cX4_reads 25 = .ok (.aload_n 0, 1) := by decide +kernel
theorem dX4_reads_26 : decode cX4_reads 26 = .ok (.getfield 103, 3) := by decide +kernel
theorem dX4_reads_29 : decode cX4_reads 29 = .ok (.if_icmp .ge 23, 3) := by decide +kernel
theorem dX4_reads_32 : decode cX4_reads 32 = .ok (.aload_n 0, 1) := by decide +kernel
theorem dX4_reads_33 : decode cX4_reads 33 = .ok (.bipush 59, 2) := by decide +kernel
theorem dX4_reads_35 : decode cX4_reads 35 = .ok (.invokevirtual 119, 3) := by decide +kernel
theorem dX4_reads_38 : decode cX4_reads 38 = .ok (.aload_n 0, 1) := by decide +kernel
theorem dX4_reads_39 : decode cX4_reads 39 = .ok (.getfield 109, 3) := by decide +kernel
theorem dX4_reads_42 : decode cX4_reads 42 = .ok (.ifCond .eq (-28), 3) := by decide +kernel
theorem dX4_reads_45 : decode cX4_reads 45 = .ok (.aload_n 0, 1) := by decide +kernel
theorem dX4_reads_46 : decode cX4_reads 46 = .ok (.invokevirtual 129, 3) := by decide +kernel
theorem dX4_reads_49 : decode cX4_reads 49 = .ok (.goto (-35), 3) := by decide +kernel
theorem dX4_reads_52 : decode cX4_reads 52 = .ok (.aload_n 0, 1) := by decide +kernel
theorem dX4_reads_53 : decode cX4_reads 53 = .ok (.getfield 109, 3) := by decide +kernel
theorem dX4_reads_56 : decode cX4_reads 56 = .ok (.ifCond .eq 8, 3) := by decide +kernel
theorem dX4_reads_59 : decode cX4_reads 59 = .ok (.bipush (-5), 2) := by decide +kernel
theorem dX4_reads_61 : decode cX4_reads 61 = .ok (.goto 7, 3) := by decide +kernel
theorem dX4_reads_64 : decode cX4_reads 64 = .ok (.aload_n 0, 1) := by decide +kernel
theorem dX4_reads_65 : decode cX4_reads 65 = .ok (.getfield 106, 3) := by decide +kernel
theorem dX4_reads_68 : decode cX4_reads 68 = .ok (.ireturn, 1) := by decide +kernel
set_option maxRecDepth 20000 in
theorem ggX4_refuses_X4_refusesCart : GoodIn wsX4_refuses wsX4_refusesCart := goodIn_r _ [6, 7, 8, 9, 10, 5, 11, 12, 13, 14, 43, 44, 45, 46, 47, 48, 49, 50, 51, 52, 53, 54, 55] (by decide +kernel) (by decide +kernel)
set_option maxRecDepth 20000 in
theorem gX4_refuses_X4_refusesCart : GoodIn wsX4_refuses (wsV RX4 58 RX4 yX4_refusesCart wsX4_refusesCart) := goodIn_app (goodIn_of _ (by decide +kernel)) ggX4_refuses_X4_refusesCart
set_option maxRecDepth 20000 in
theorem ggX4_refuses_X4_refusesOpening : GoodIn wsX4_refuses wsX4_refusesOpening := goodIn_r _ [18, 8, 9, 10, 5, 11, 7, 12, 13, 14, 19, 20, 21, 22, 43, 44, 45, 46, 47, 48, 49, 50, 51, 52, 53, 54, 55] (by decide +kernel) (by decide +kernel)
set_option maxRecDepth 20000 in
theorem gX4_refuses_X4_refusesOpening : GoodIn wsX4_refuses (wsV RX4 87 RX4 yX4_refusesOpening wsX4_refusesOpening) := goodIn_app (goodIn_of _ (by decide +kernel)) ggX4_refuses_X4_refusesOpening
set_option maxRecDepth 20000 in
theorem ggX4_refuses_X4_refusesAltering : GoodIn wsX4_refuses wsX4_refusesAltering := goodIn_r _ [26, 8, 9, 10, 5, 11, 7, 12, 13, 14, 19, 20, 21, 22, 43, 44, 45, 46, 47, 48, 49, 50, 51, 52, 53, 54, 55] (by decide +kernel) (by decide +kernel)
set_option maxRecDepth 20000 in
theorem gX4_refuses_X4_refusesAltering : GoodIn wsX4_refuses (wsV RX4 68 RX4 yX4_refusesAltering wsX4_refusesAltering) := goodIn_app (goodIn_of _ (by decide +kernel)) ggX4_refuses_X4_refusesAltering
set_option maxRecDepth 20000 in
theorem ggX4_refuses_X4_refusesSeal : GoodIn wsX4_refuses wsX4_refusesSeal := goodIn_r _ [30, 8, 9, 10, 5, 11, 7, 12, 13, 14, 31, 32, 33, 34, 19, 20, 21, 22, 35, 36, 37, 38, 39, 40, 41, 42, 43, 44, 45, 46, 47, 48, 49, 50, 51, 52, 53, 54, 55] (by decide +kernel) (by decide +kernel)
set_option maxRecDepth 20000 in
theorem gX4_refuses_X4_refusesSeal : GoodIn wsX4_refuses (wsV RX4 74 RX4 yX4_refusesSeal wsX4_refusesSeal) := goodIn_app (goodIn_of _ (by decide +kernel)) ggX4_refuses_X4_refusesSeal
theorem dX4_refuses_0 : decode cX4_refuses 0 = .ok (.aload_n 0, 1) := by decide +kernel
theorem dX4_refuses_1 : decode cX4_refuses 1 = .ok (.getfield 25, 3) := by decide +kernel
theorem dX4_refuses_4 : decode cX4_refuses 4 = .ok (.iload_n 1, 1) := by decide +kernel
theorem dX4_refuses_5 : decode cX4_refuses 5 = .ok (.iaload, 1) := by decide +kernel
theorem dX4_refuses_6 : decode cX4_refuses 6 = .ok (.lookupswitch 97 #[(99, 34), (111, 63), (120, 76)], 34) := by decide +kernel
theorem dX4_refuses_40 : decode cX4_refuses 40 = .ok (.aload_n 0, 1) := by decide +kernel
theorem dX4_refuses_41 : decode cX4_refuses 41 = .ok (.aload_n 0, 1) := by decide +kernel
theorem dX4_refuses_42 : decode cX4_refuses 42 = .ok (.getfield 25, 3) := by decide +kernel
theorem dX4_refuses_45 : decode cX4_refuses 45 = .ok (.iload_n 1, 1) := by decide +kernel
theorem dX4_refuses_46 : decode cX4_refuses 46 = .ok (.iconst 1, 1) := by decide +kernel
theorem dX4_refuses_47 : decode cX4_refuses 47 = .ok (.iadd, 1) := by decide +kernel
theorem dX4_refuses_48 : decode cX4_refuses 48 = .ok (.iaload, 1) := by decide +kernel
theorem dX4_refuses_49 : decode cX4_refuses 49 = .ok (.aload_n 0, 1) := by decide +kernel
theorem dX4_refuses_50 : decode cX4_refuses 50 = .ok (.getfield 25, 3) := by decide +kernel
theorem dX4_refuses_53 : decode cX4_refuses 53 = .ok (.iload_n 1, 1) := by decide +kernel
theorem dX4_refuses_54 : decode cX4_refuses 54 = .ok (.iconst 2, 1) := by decide +kernel
theorem dX4_refuses_55 : decode cX4_refuses 55 = .ok (.iadd, 1) := by decide +kernel
theorem dX4_refuses_56 : decode cX4_refuses 56 = .ok (.iaload, 1) := by decide +kernel
theorem dX4_refuses_57 : decode cX4_refuses 57 = .ok (.aload_n 0, 1) := by decide +kernel
theorem dX4_refuses_58 : decode cX4_refuses 58 = .ok (.getfield 25, 3) := by decide +kernel
theorem dX4_refuses_61 : decode cX4_refuses 61 = .ok (.iload_n 1, 1) := by decide +kernel
theorem dX4_refuses_62 : decode cX4_refuses 62 = .ok (.iconst 3, 1) := by decide +kernel
theorem dX4_refuses_63 : decode cX4_refuses 63 = .ok (.iadd, 1) := by decide +kernel
theorem dX4_refuses_64 : decode cX4_refuses 64 = .ok (.iaload, 1) := by decide +kernel
theorem dX4_refuses_65 : decode cX4_refuses 65 = .ok (.invokevirtual 58, 3) := by decide +kernel
theorem dX4_refuses_68 : decode cX4_refuses 68 = .ok (.ireturn, 1) := by decide +kernel
theorem dX4_refuses_69 : decode cX4_refuses 69 = .ok (.aload_n 0, 1) := by decide +kernel
theorem dX4_refuses_70 : decode cX4_refuses 70 = .ok (.aload_n 0, 1) := by decide +kernel
theorem dX4_refuses_71 : decode cX4_refuses 71 = .ok (.getfield 25, 3) := by decide +kernel
theorem dX4_refuses_74 : decode cX4_refuses 74 = .ok (.iload_n 1, 1) := by decide +kernel
theorem dX4_refuses_75 : decode cX4_refuses 75 = .ok (.iconst 1, 1) := by decide +kernel
theorem dX4_refuses_76 : decode cX4_refuses 76 = .ok (.iadd, 1) := by decide +kernel
theorem dX4_refuses_77 : decode cX4_refuses 77 = .ok (.iaload, 1) := by decide +kernel
theorem dX4_refuses_78 : decode cX4_refuses 78 = .ok (.invokevirtual 87, 3) := by decide +kernel
theorem dX4_refuses_81 : decode cX4_refuses 81 = .ok (.ireturn, 1) := by decide +kernel
theorem dX4_refuses_82 : decode cX4_refuses 82 = .ok (.aload_n 0, 1) := by decide +kernel
theorem dX4_refuses_83 : decode cX4_refuses 83 = .ok (.aload_n 0, 1) := by decide +kernel
theorem dX4_refuses_84 : decode cX4_refuses 84 = .ok (.getfield 25, 3) := by decide +kernel
theorem dX4_refuses_87 : decode cX4_refuses 87 = .ok (.iload_n 1, 1) := by decide +kernel
theorem dX4_refuses_88 : decode cX4_refuses 88 = .ok (.iconst 1, 1) := by decide +kernel
theorem dX4_refuses_89 : decode cX4_refuses 89 = .ok (.iadd, 1) := by decide +kernel
theorem dX4_refuses_90 : decode cX4_refuses 90 = .ok (.iaload, 1) := by decide +kernel
theorem dX4_refuses_91 : decode cX4_refuses 91 = .ok (.aload_n 0, 1) := by decide +kernel
theorem dX4_refuses_92 : decode cX4_refuses 92 = .ok (.getfield 25, 3) := by decide +kernel
theorem dX4_refuses_95 : decode cX4_refuses 95 = .ok (.iload_n 1, 1) := by decide +kernel
theorem dX4_refuses_96 : decode cX4_refuses 96 = .ok (.iconst 2, 1) := by decide +kernel
theorem dX4_refuses_97 : decode cX4_refuses 97 = .ok (.iadd, 1) := by decide +kernel
theorem dX4_refuses_98 : decode cX4_refuses 98 = .ok (.iaload, 1) := by decide +kernel
theorem dX4_refuses_99 : decode cX4_refuses 99 = .ok (.invokevirtual 68, 3) := by decide +kernel
theorem dX4_refuses_102 : decode cX4_refuses 102 = .ok (.ireturn, 1) := by decide +kernel
theorem dX4_refuses_103 : decode cX4_refuses 103 = .ok (.aload_n 0, 1) := by decide +kernel
theorem dX4_refuses_104 : decode cX4_refuses 104 = .ok (.aload_n 0, 1) := by decide +kernel
theorem dX4_refuses_105 : decode cX4_refuses 105 = .ok (.getfield 25, 3) := by decide +kernel
theorem dX4_refuses_108 : decode cX4_refuses 108 = .ok (.iload_n 1, 1) := by decide +kernel
theorem dX4_refuses_109 : decode cX4_refuses 109 = .ok (.iconst 1, 1) := by decide +kernel
theorem dX4_refuses_110 : decode cX4_refuses 110 = .ok (.iadd, 1) := by decide +kernel
theorem dX4_refuses_111 : decode cX4_refuses 111 = .ok (.iaload, 1) := by decide +kernel
theorem dX4_refuses_112 : decode cX4_refuses 112 = .ok (.invokevirtual 74, 3) := by decide +kernel
theorem dX4_refuses_115 : decode cX4_refuses 115 = .ok (.ireturn, 1) := by decide +kernel
set_option maxRecDepth 20000 in
theorem ggX4_does_X4_comes : GoodIn wsX4_does wsX4_comes := goodIn_r _ [6, 7, 8, 9, 10, 5, 11, 12, 13, 14, 15, 16, 17, 18, 19, 20, 21, 22, 23, 44, 45, 46, 47, 48, 49, 50, 51, 52, 53, 54, 55, 56] (by decide +kernel) (by decide +kernel)
set_option maxRecDepth 20000 in
theorem gX4_does_X4_comes : GoodIn wsX4_does (wsV RX4 65 RX4 yX4_comes wsX4_comes) := goodIn_app (goodIn_of _ (by decide +kernel)) ggX4_does_X4_comes
set_option maxRecDepth 20000 in
theorem ggX4_does_X4_opens : GoodIn wsX4_does wsX4_opens := goodIn_r _ [27, 7, 8, 9, 10, 5, 11, 28, 29, 30, 31, 16, 17, 18, 19, 12, 13, 14, 15, 20, 21, 22, 23, 32, 33, 34, 35, 36, 37, 38, 39, 40, 41, 42, 43, 44, 45, 46, 47, 48, 49, 50, 51, 52, 53, 54, 55, 56] (by decide +kernel) (by decide +kernel)
set_option maxRecDepth 20000 in
theorem gX4_does_X4_opens : GoodIn wsX4_does (wsV RX4 90 RX4 yX4_opens wsX4_opens) := goodIn_app (goodIn_of _ (by decide +kernel)) ggX4_does_X4_opens
set_option maxRecDepth 20000 in
theorem ggX4_does_X4_lay : GoodIn wsX4_does wsX4_lay := goodIn_r _ [11, 7, 44, 45, 46, 47, 48, 49, 50, 51, 52, 53, 54, 55, 56] (by decide +kernel) (by decide +kernel)
set_option maxRecDepth 20000 in
theorem gX4_does_X4_lay : GoodIn wsX4_does (wsV RX4 54 RX4 yX4_lay wsX4_lay) := goodIn_app (goodIn_of _ (by decide +kernel)) ggX4_does_X4_lay
set_option maxRecDepth 20000 in
theorem ggX4_does_X4_rightSeal : GoodIn wsX4_does wsX4_rightSeal := goodIn_r _ [15, 16, 17, 18, 5, 19, 7, 20, 21, 22, 23, 44, 45, 46, 47, 48, 49, 50, 51, 52, 53, 54, 55, 56] (by decide +kernel) (by decide +kernel)
set_option maxRecDepth 20000 in
theorem gX4_does_X4_rightSeal : GoodIn wsX4_does (wsV RX4 46 RX4 yX4_rightSeal wsX4_rightSeal) := goodIn_app (goodIn_of _ (by decide +kernel)) ggX4_does_X4_rightSeal
theorem dX4_does_0 : decode cX4_does 0 = .ok (.aload_n 0, 1) := by decide +kernel
theorem dX4_does_1 : decode cX4_does 1 = .ok (.getfield 25, 3) := by decide +kernel
theorem dX4_does_4 : decode cX4_does 4 = .ok (.iload_n 1, 1) := by decide +kernel
theorem dX4_does_5 : decode cX4_does 5 = .ok (.iaload, 1) := by decide +kernel
theorem dX4_does_6 : decode cX4_does 6 = .ok (.lookupswitch 106 #[(99, 34), (111, 66), (120, 82)], 34) := by decide +kernel
theorem dX4_does_40 : decode cX4_does 40 = .ok (.aload_n 0, 1) := by decide +kernel
theorem dX4_does_41 : decode cX4_does 41 = .ok (.aload_n 0, 1) := by decide +kernel
theorem dX4_does_42 : decode cX4_does 42 = .ok (.getfield 25, 3) := by decide +kernel
theorem dX4_does_45 : decode cX4_does 45 = .ok (.iload_n 1, 1) := by decide +kernel
theorem dX4_does_46 : decode cX4_does 46 = .ok (.iconst 1, 1) := by decide +kernel
theorem dX4_does_47 : decode cX4_does 47 = .ok (.iadd, 1) := by decide +kernel
theorem dX4_does_48 : decode cX4_does 48 = .ok (.iaload, 1) := by decide +kernel
theorem dX4_does_49 : decode cX4_does 49 = .ok (.aload_n 0, 1) := by decide +kernel
theorem dX4_does_50 : decode cX4_does 50 = .ok (.getfield 25, 3) := by decide +kernel
theorem dX4_does_53 : decode cX4_does 53 = .ok (.iload_n 1, 1) := by decide +kernel
theorem dX4_does_54 : decode cX4_does 54 = .ok (.iconst 2, 1) := by decide +kernel
theorem dX4_does_55 : decode cX4_does 55 = .ok (.iadd, 1) := by decide +kernel
theorem dX4_does_56 : decode cX4_does 56 = .ok (.iaload, 1) := by decide +kernel
theorem dX4_does_57 : decode cX4_does 57 = .ok (.aload_n 0, 1) := by decide +kernel
theorem dX4_does_58 : decode cX4_does 58 = .ok (.getfield 25, 3) := by decide +kernel
theorem dX4_does_61 : decode cX4_does 61 = .ok (.iload_n 1, 1) := by decide +kernel
theorem dX4_does_62 : decode cX4_does 62 = .ok (.iconst 3, 1) := by decide +kernel
theorem dX4_does_63 : decode cX4_does 63 = .ok (.iadd, 1) := by decide +kernel
theorem dX4_does_64 : decode cX4_does 64 = .ok (.iaload, 1) := by decide +kernel
theorem dX4_does_65 : decode cX4_does 65 = .ok (.invokevirtual 65, 3) := by decide +kernel
theorem dX4_does_68 : decode cX4_does 68 = .ok (.pop, 1) := by decide +kernel
theorem dX4_does_69 : decode cX4_does 69 = .ok (.goto 68, 3) := by decide +kernel
theorem dX4_does_72 : decode cX4_does 72 = .ok (.aload_n 0, 1) := by decide +kernel
theorem dX4_does_73 : decode cX4_does 73 = .ok (.aload_n 0, 1) := by decide +kernel
theorem dX4_does_74 : decode cX4_does 74 = .ok (.getfield 25, 3) := by decide +kernel
theorem dX4_does_77 : decode cX4_does 77 = .ok (.iload_n 1, 1) := by decide +kernel
theorem dX4_does_78 : decode cX4_does 78 = .ok (.iconst 1, 1) := by decide +kernel
theorem dX4_does_79 : decode cX4_does 79 = .ok (.iadd, 1) := by decide +kernel
theorem dX4_does_80 : decode cX4_does 80 = .ok (.iaload, 1) := by decide +kernel
theorem dX4_does_81 : decode cX4_does 81 = .ok (.invokevirtual 90, 3) := by decide +kernel
theorem dX4_does_84 : decode cX4_does 84 = .ok (.pop, 1) := by decide +kernel
theorem dX4_does_85 : decode cX4_does 85 = .ok (.goto 52, 3) := by decide +kernel
theorem dX4_does_88 : decode cX4_does 88 = .ok (.aload_n 0, 1) := by decide +kernel
theorem dX4_does_89 : decode cX4_does 89 = .ok (.aload_n 0, 1) := by decide +kernel
theorem dX4_does_90 : decode cX4_does 90 = .ok (.getfield 25, 3) := by decide +kernel
theorem dX4_does_93 : decode cX4_does 93 = .ok (.iload_n 1, 1) := by decide +kernel
theorem dX4_does_94 : decode cX4_does 94 = .ok (.iconst 1, 1) := by decide +kernel
theorem dX4_does_95 : decode cX4_does 95 = .ok (.iadd, 1) := by decide +kernel
theorem dX4_does_96 : decode cX4_does 96 = .ok (.iaload, 1) := by decide +kernel
theorem dX4_does_97 : decode cX4_does 97 = .ok (.iconst 0, 1) := by decide +kernel
theorem dX4_does_98 : decode cX4_does 98 = .ok (.aload_n 0, 1) := by decide +kernel
theorem dX4_does_99 : decode cX4_does 99 = .ok (.getfield 25, 3) := by decide +kernel
theorem dX4_does_102 : decode cX4_does 102 = .ok (.iload_n 1, 1) := by decide +kernel
theorem dX4_does_103 : decode cX4_does 103 = .ok (.iconst 2, 1) := by decide +kernel
theorem dX4_does_104 : decode cX4_does 104 = .ok (.iadd, 1) := by decide +kernel
theorem dX4_does_105 : decode cX4_does 105 = .ok (.iaload, 1) := by decide +kernel
theorem dX4_does_106 : decode cX4_does 106 = .ok (.invokevirtual 54, 3) := by decide +kernel
theorem dX4_does_109 : decode cX4_does 109 = .ok (.goto 28, 3) := by decide +kernel
theorem dX4_does_112 : decode cX4_does 112 = .ok (.aload_n 0, 1) := by decide +kernel
theorem dX4_does_113 : decode cX4_does 113 = .ok (.aload_n 0, 1) := by decide +kernel
theorem dX4_does_114 : decode cX4_does 114 = .ok (.getfield 25, 3) := by decide +kernel
theorem dX4_does_117 : decode cX4_does 117 = .ok (.iload_n 1, 1) := by decide +kernel
theorem dX4_does_118 : decode cX4_does 118 = .ok (.iconst 1, 1) := by decide +kernel
theorem dX4_does_119 : decode cX4_does 119 = .ok (.iadd, 1) := by decide +kernel
theorem dX4_does_120 : decode cX4_does 120 = .ok (.iaload, 1) := by decide +kernel
theorem dX4_does_121 : decode cX4_does 121 = .ok (.iconst 3, 1) := by decide +kernel
theorem dX4_does_122 : decode cX4_does 122 = .ok (.aload_n 0, 1) := by decide +kernel
theorem dX4_does_123 : decode cX4_does 123 = .ok (.aload_n 0, 1) := by decide +kernel
theorem dX4_does_124 : decode cX4_does 124 = .ok (.getfield 25, 3) := by decide +kernel
theorem dX4_does_127 : decode cX4_does 127 = .ok (.iload_n 1, 1) := by decide +kernel
theorem dX4_does_128 : decode cX4_does 128 = .ok (.iconst 1, 1) := by decide +kernel
theorem dX4_does_129 : decode cX4_does 129 = .ok (.iadd, 1) := by decide +kernel
theorem dX4_does_130 : decode cX4_does 130 = .ok (.iaload, 1) := by decide +kernel
theorem dX4_does_131 : decode cX4_does 131 = .ok (.invokevirtual 46, 3) := by decide +kernel
theorem dX4_does_134 : decode cX4_does 134 = .ok (.invokevirtual 54, 3) := by decide +kernel
theorem dX4_does_137 : decode cX4_does 137 = .ok (.return_, 1) := by decide +kernel
set_option maxRecDepth 20000 in
theorem ggX4_perform_X4_reads : GoodIn wsX4_perform wsX4_reads := goodIn_r _ [10, 11, 2, 12, 13, 14, 15, 16, 9, 17, 18, 19, 20, 21, 22, 23, 24, 25, 26, 27, 28, 29, 30, 31, 32, 33, 34, 35, 36, 37, 38, 120, 121, 122, 123, 124, 125, 126, 127, 128, 129, 130, 131, 132] (by decide +kernel) (by decide +kernel)
set_option maxRecDepth 20000 in
theorem gX4_perform_X4_reads : GoodIn wsX4_perform (wsV RX4 132 RX4 yX4_reads wsX4_reads) := goodIn_app (goodIn_of _ (by decide +kernel)) ggX4_perform_X4_reads
set_option maxRecDepth 20000 in
theorem ggX4_perform_X4_putAside : GoodIn wsX4_perform wsX4_putAside := goodIn_r _ [42, 5, 43, 120, 121, 122, 123, 124, 125, 126, 127, 128, 129, 130, 131, 132] (by decide +kernel) (by decide +kernel)
set_option maxRecDepth 20000 in
theorem gX4_perform_X4_putAside : GoodIn wsX4_perform (wsV RX4 135 RX4 yX4_putAside wsX4_putAside) := goodIn_app (goodIn_of _ (by decide +kernel)) ggX4_perform_X4_putAside
set_option maxRecDepth 20000 in
theorem ggX4_perform_X4_refuses : GoodIn wsX4_perform wsX4_refuses := goodIn_r _ [47, 18, 48, 49, 50, 9, 51, 43, 52, 53, 54, 55, 32, 33, 34, 56, 57, 58, 59, 60, 61, 62, 63, 64, 65, 66, 67, 68, 69, 70, 71, 72, 73, 74, 75, 76, 77, 78, 79, 80, 81, 82, 83, 120, 121, 122, 123, 124, 125, 126, 127, 128, 129, 130, 131, 132] (by decide +kernel) (by decide +kernel)
set_option maxRecDepth 20000 in
theorem gX4_perform_X4_refuses : GoodIn wsX4_perform (wsV RX4 138 RX4 yX4_refuses wsX4_refuses) := goodIn_app (goodIn_of _ (by decide +kernel)) ggX4_perform_X4_refuses
set_option maxRecDepth 20000 in
theorem ggX4_perform_X4_does : GoodIn wsX4_perform wsX4_does := goodIn_r _ [87, 18, 88, 89, 90, 9, 91, 43, 92, 93, 94, 95, 76, 77, 78, 79, 60, 61, 62, 63, 80, 81, 82, 83, 96, 97, 98, 99, 72, 73, 74, 75, 100, 101, 102, 103, 104, 105, 106, 107, 108, 109, 110, 111, 120, 121, 122, 123, 124, 125, 126, 127, 128, 129, 130, 131, 132] (by decide +kernel) (by decide +kernel)
set_option maxRecDepth 20000 in
theorem gX4_perform_X4_does : GoodIn wsX4_perform (wsV RX4 141 RX4 yX4_does wsX4_does) := goodIn_app (goodIn_of _ (by decide +kernel)) ggX4_perform_X4_does
set_option maxRecDepth 20000 in
theorem ggX4_perform_X4_takeBack : GoodIn wsX4_perform wsX4_takeBack := goodIn_r _ [115, 43, 5, 120, 121, 122, 123, 124, 125, 126, 127, 128, 129, 130, 131, 132] (by decide +kernel) (by decide +kernel)
set_option maxRecDepth 20000 in
theorem gX4_perform_X4_takeBack : GoodIn wsX4_perform (wsV RX4 144 RX4 yX4_takeBack wsX4_takeBack) := goodIn_app (goodIn_of _ (by decide +kernel)) ggX4_perform_X4_takeBack
set_option maxRecDepth 20000 in
theorem ggX4_perform_X4_records : GoodIn wsX4_perform wsX4_records := goodIn_r _ [119, 4, 3, 43, 120, 121, 122, 123, 124, 125, 126, 127, 128, 129, 130, 131, 132] (by decide +kernel) (by decide +kernel)
set_option maxRecDepth 20000 in
theorem gX4_perform_X4_records : GoodIn wsX4_perform (wsV RX4 62 RX4 yX4_records wsX4_records) := goodIn_app (goodIn_of _ (by decide +kernel)) ggX4_perform_X4_records
theorem dX4_perform_0 : decode cX4_perform 0 = .ok (.aload_n 0, 1) := by decide +kernel
theorem dX4_perform_1 : decode cX4_perform 1 = .ok (.iconst 0, 1) := by decide +kernel
theorem dX4_perform_2 : decode cX4_perform 2 = .ok (.putfield 28, 3) := by decide +kernel
theorem dX4_perform_5 : decode cX4_perform 5 = .ok (.aload_n 0, 1) := by decide +kernel
theorem dX4_perform_6 : decode cX4_perform 6 = .ok (.invokevirtual 132, 3) := by decide +kernel
theorem dX4_perform_9 : decode cX4_perform 9 = .ok (.istore_n 1, 1) := by decide +kernel
theorem dX4_perform_10 : decode cX4_perform 10 = .ok (.iload_n 1, 1) := by decide +kernel
theorem dX4_perform_11 : decode cX4_perform 11 = .ok (.bipush (-5), 2) := by decide +kernel
theorem dX4_perform_13 : decode cX4_perform 13 = .ok (.if_icmp .eq 8, 3) := by decide +kernel
theorem dX4_perform_16 : decode cX4_perform 16 = .ok (.bipush (-100), 2) := by decide +kernel
theorem dX4_perform_18 : decode cX4_perform 18 = .ok (.iload_n 1, 1) := by decide +kernel
theorem dX4_perform_19 : decode cX4_perform 19 = .ok (.isub, 1) := by decide +kernel
theorem dX4_perform_20 : decode cX4_perform 20 = .ok (.ireturn, 1) := by decide +kernel
theorem dX4_perform_21 : decode cX4_perform 21 = .ok (.aload_n 0, 1) := by decide +kernel
theorem dX4_perform_22 : decode cX4_perform 22 = .ok (.invokevirtual 135, 3) := by decide +kernel
theorem dX4_perform_25 : decode cX4_perform 25 = .ok (.iconst 0, 1) := by decide +kernel
theorem dX4_perform_26 : decode cX4_perform 26 = .ok (.istore_n 2, 1) := by decide +kernel
theorem dX4_perform_27 : decode cX4_perform 27 = .ok (.iconst 0, 1) := by decide +kernel
theorem dX4_perform_28 : decode cX4_perform 28 = .ok (.istore_n 3, 1) := by decide +kernel
theorem dX4_perform_29 : decode cX4_perform 29 = .ok (.iload_n 3, 1) := by decide +kernel
theorem dX4_perform_30 : decode cX4_perform 30 = .ok (.aload_n 0, 1) := by decide +kernel
theorem dX4_perform_31 : decode cX4_perform 31 = .ok (.getfield 123, 3) := by decide +kernel
theorem dX4_perform_34 : decode cX4_perform 34 = .ok (.if_icmp .ge 48, 3) := by decide +kernel
theorem dX4_perform_37 : decode cX4_perform 37 = .ok (.iload_n 2, 1) := by decide +kernel
theorem dX4_perform_38 : decode cX4_perform 38 = .ok (.ifCond .ne 44, 3) := by decide +kernel
theorem dX4_perform_41 : decode cX4_perform 41 = .ok (.aload_n 0, 1) := by decide +kernel
theorem dX4_perform_42 : decode cX4_perform 42 = .ok (.iconst 4, 1) := by decide +kernel
theorem dX4_perform_43 : decode cX4_perform 43 = .ok (.iload_n 3, 1) := by decide +kernel
theorem dX4_perform_44 : decode cX4_perform 44 = .ok (.imul, 1) := by decide +kernel
theorem dX4_perform_45 : decode cX4_perform 45 = .ok (.invokevirtual 138, 3) := by decide +kernel
theorem dX4_perform_48 : decode cX4_perform 48 = .ok (.istore 4, 2) := by decide +kernel
theorem dX4_perform_50 : decode cX4_perform 50 = .ok (.iload 4, 2) := by decide +kernel
theorem dX4_perform_52 : decode cX4_perform 52 = .ok (.bipush (-5), 2) := by decide +kernel
theorem dX4_perform_54 : decode cX4_perform 54 = .ok (.if_icmp .ne 7, 3) := by decide +kernel
theorem dX4_perform_57 : decode cX4_perform 57 = .ok (.iconst 0, 1) := by decide +kernel
theorem dX4_perform_58 : decode cX4_perform 58 = .ok (.goto 5, 3) := by decide +kernel
theorem dX4_perform_61 : decode cX4_perform 61 = .ok (.iload 4, 2) := by decide +kernel
theorem dX4_perform_63 : decode cX4_perform 63 = .ok (.istore_n 2, 1) := by decide +kernel
theorem dX4_perform_64 : decode cX4_perform 64 = .ok (.iload 4, 2) := by decide +kernel
theorem dX4_perform_66 : decode cX4_perform 66 = .ok (.ifCond .ne 10, 3) := by decide +kernel
theorem dX4_perform_69 : decode cX4_perform 69 = .ok (.aload_n 0, 1) := by decide +kernel
theorem dX4_perform_70 : decode cX4_perform 70 = .ok (.iconst 4, 1) := by decide +kernel
theorem dX4_perform_71 : decode cX4_perform 71 = .ok (.iload_n 3, 1) := by decide +kernel
theorem dX4_perform_72 : decode cX4_perform 72 = .ok (.imul, 1) := by decide +kernel
theorem dX4_perform_73 : decode cX4_perform 73 = .ok (.invokevirtual 141, 3) := by decide +kernel
theorem dX4_perform_76 : decode cX4_perform 76 = .ok (.iinc 3 1, 3) := by decide +kernel
theorem dX4_perform_79 : decode cX4_perform 79 = .ok (.goto (-50), 3) := by decide +kernel
theorem dX4_perform_82 : decode cX4_perform 82 = .ok (.iload_n 2, 1) := by decide +kernel
theorem dX4_perform_83 : decode cX4_perform 83 = .ok (.ifCond .eq 9, 3) := by decide +kernel
theorem dX4_perform_86 : decode cX4_perform 86 = .ok (.aload_n 0, 1) := by decide +kernel
theorem dX4_perform_87 : decode cX4_perform 87 = .ok (.invokevirtual 144, 3) := by decide +kernel
theorem dX4_perform_90 : decode cX4_perform 90 = .ok (.iload_n 2, 1) := by decide +kernel
theorem dX4_perform_91 : decode cX4_perform 91 = .ok (.ireturn, 1) := by decide +kernel
theorem dX4_perform_92 : decode cX4_perform 92 = .ok (.aload_n 0, 1) := by decide +kernel
theorem dX4_perform_93 : decode cX4_perform 93 = .ok (.invokevirtual 62, 3) := by decide +kernel
theorem dX4_perform_96 : decode cX4_perform 96 = .ok (.iconst 0, 1) := by decide +kernel
theorem dX4_perform_97 : decode cX4_perform 97 = .ok (.istore_n 3, 1) := by decide +kernel
theorem dX4_perform_98 : decode cX4_perform 98 = .ok (.iload_n 3, 1) := by decide +kernel
theorem dX4_perform_99 : decode cX4_perform 99 = .ok (.sipush 200, 3) := by decide +kernel
theorem dX4_perform_102 : decode cX4_perform 102 = .ok (.if_icmp .ge 32, 3) := by decide +kernel
theorem dX4_perform_105 : decode cX4_perform 105 = .ok (.aload_n 0, 1) := by decide +kernel
theorem dX4_perform_106 : decode cX4_perform 106 = .ok (.getfield 16, 3) := by decide +kernel
theorem dX4_perform_109 : decode cX4_perform 109 = .ok (.sipush 200, 3) := by decide +kernel
theorem dX4_perform_112 : decode cX4_perform 112 = .ok (.aload_n 0, 1) := by decide +kernel
theorem dX4_perform_113 : decode cX4_perform 113 = .ok (.getfield 36, 3) := by decide +kernel
theorem dX4_perform_116 : decode cX4_perform 116 = .ok (.iconst 1, 1) := by decide +kernel
theorem dX4_perform_117 : decode cX4_perform 117 = .ok (.isub, 1) := by decide +kernel
theorem dX4_perform_118 : decode cX4_perform 118 = .ok (.imul, 1) := by decide +kernel
theorem dX4_perform_119 : decode cX4_perform 119 = .ok (.iload_n 3, 1) := by decide +kernel
theorem dX4_perform_120 : decode cX4_perform 120 = .ok (.iadd, 1) := by decide +kernel
theorem dX4_perform_121 : decode cX4_perform 121 = .ok (.aload_n 0, 1) := by decide +kernel
theorem dX4_perform_122 : decode cX4_perform 122 = .ok (.getfield 13, 3) := by decide +kernel
theorem dX4_perform_125 : decode cX4_perform 125 = .ok (.iload_n 3, 1) := by decide +kernel
theorem dX4_perform_126 : decode cX4_perform 126 = .ok (.iaload, 1) := by decide +kernel
theorem dX4_perform_127 : decode cX4_perform 127 = .ok (.iastore, 1) := by decide +kernel
theorem dX4_perform_128 : decode cX4_perform 128 = .ok (.iinc 3 1, 3) := by decide +kernel
theorem dX4_perform_131 : decode cX4_perform 131 = .ok (.goto (-33), 3) := by decide +kernel
theorem dX4_perform_134 : decode cX4_perform 134 = .ok (.aload_n 0, 1) := by decide +kernel
theorem dX4_perform_135 : decode cX4_perform 135 = .ok (.getfield 123, 3) := by decide +kernel
theorem dX4_perform_138 : decode cX4_perform 138 = .ok (.ireturn, 1) := by decide +kernel
theorem dX4_undo_0 : decode cX4_undo 0 = .ok (.aload_n 0, 1) := by decide +kernel
theorem dX4_undo_1 : decode cX4_undo 1 = .ok (.iconst 0, 1) := by decide +kernel
theorem dX4_undo_2 : decode cX4_undo 2 = .ok (.putfield 28, 3) := by decide +kernel
theorem dX4_undo_5 : decode cX4_undo 5 = .ok (.aload_n 0, 1) := by decide +kernel
theorem dX4_undo_6 : decode cX4_undo 6 = .ok (.getfield 36, 3) := by decide +kernel
theorem dX4_undo_9 : decode cX4_undo 9 = .ok (.ifCond .ne 6, 3) := by decide +kernel
theorem dX4_undo_12 : decode cX4_undo 12 = .ok (.bipush (-5), 2) := by decide +kernel
theorem dX4_undo_14 : decode cX4_undo 14 = .ok (.ireturn, 1) := by decide +kernel
theorem dX4_undo_15 : decode cX4_undo 15 = .ok (.aload_n 0, 1) := by decide +kernel
theorem dX4_undo_16 : decode cX4_undo 16 = .ok (.dup, 1) := by decide +kernel
theorem dX4_undo_17 : decode cX4_undo 17 = .ok (.getfield 36, 3) := by decide +kernel
theorem dX4_undo_20 : decode cX4_undo 20 = .ok (.iconst 1, 1) := by decide +kernel
theorem dX4_undo_21 : decode cX4_undo 21 = .ok (.isub, 1) := by decide +kernel
theorem dX4_undo_22 : decode cX4_undo 22 = .ok (.putfield 36, 3) := by decide +kernel
theorem dX4_undo_25 : decode cX4_undo 25 = .ok (.iconst 0, 1) := by decide +kernel
theorem dX4_undo_26 : decode cX4_undo 26 = .ok (.istore_n 1, 1) := by decide +kernel
theorem dX4_undo_27 : decode cX4_undo 27 = .ok (.iload_n 1, 1) := by decide +kernel
theorem dX4_undo_28 : decode cX4_undo 28 = .ok (.sipush 200, 3) := by decide +kernel
theorem dX4_undo_31 : decode cX4_undo 31 = .ok (.if_icmp .ge 30, 3) := by decide +kernel
theorem dX4_undo_34 : decode cX4_undo 34 = .ok (.aload_n 0, 1) := by decide +kernel
theorem dX4_undo_35 : decode cX4_undo 35 = .ok (.getfield 7, 3) := by decide +kernel
theorem dX4_undo_38 : decode cX4_undo 38 = .ok (.iload_n 1, 1) := by decide +kernel
theorem dX4_undo_39 : decode cX4_undo 39 = .ok (.aload_n 0, 1) := by decide +kernel
theorem dX4_undo_40 : decode cX4_undo 40 = .ok (.getfield 16, 3) := by decide +kernel
theorem dX4_undo_43 : decode cX4_undo 43 = .ok (.sipush 200, 3) := by decide +kernel
theorem dX4_undo_46 : decode cX4_undo 46 = .ok (.aload_n 0, 1) := by decide +kernel
theorem dX4_undo_47 : decode cX4_undo 47 = .ok (.getfield 36, 3) := by decide +kernel
theorem dX4_undo_50 : decode cX4_undo 50 = .ok (.imul, 1) := by decide +kernel
theorem dX4_undo_51 : decode cX4_undo 51 = .ok (.iload_n 1, 1) := by decide +kernel
theorem dX4_undo_52 : decode cX4_undo 52 = .ok (.iadd, 1) := by decide +kernel
theorem dX4_undo_53 : decode cX4_undo 53 = .ok (.iaload, 1) := by decide +kernel
theorem dX4_undo_54 : decode cX4_undo 54 = .ok (.iastore, 1) := by decide +kernel
theorem dX4_undo_55 : decode cX4_undo 55 = .ok (.iinc 1 1, 3) := by decide +kernel
theorem dX4_undo_58 : decode cX4_undo 58 = .ok (.goto (-31), 3) := by decide +kernel
theorem dX4_undo_61 : decode cX4_undo 61 = .ok (.aload_n 0, 1) := by decide +kernel
theorem dX4_undo_62 : decode cX4_undo 62 = .ok (.getfield 36, 3) := by decide +kernel
theorem dX4_undo_65 : decode cX4_undo 65 = .ok (.ireturn, 1) := by decide +kernel
theorem dX4_keep_0 : decode cX4_keep 0 = .ok (.aload_n 0, 1) := by decide +kernel
theorem dX4_keep_1 : decode cX4_keep 1 = .ok (.iconst 0, 1) := by decide +kernel
theorem dX4_keep_2 : decode cX4_keep 2 = .ok (.putfield 28, 3) := by decide +kernel
theorem dX4_keep_5 : decode cX4_keep 5 = .ok (.iconst 0, 1) := by decide +kernel
theorem dX4_keep_6 : decode cX4_keep 6 = .ok (.istore_n 1, 1) := by decide +kernel
theorem dX4_keep_7 : decode cX4_keep 7 = .ok (.iload_n 1, 1) := by decide +kernel
theorem dX4_keep_8 : decode cX4_keep 8 = .ok (.sipush 200, 3) := by decide +kernel
theorem dX4_keep_11 : decode cX4_keep 11 = .ok (.if_icmp .ge 21, 3) := by decide +kernel
theorem dX4_keep_14 : decode cX4_keep 14 = .ok (.aload_n 0, 1) := by decide +kernel
theorem dX4_keep_15 : decode cX4_keep 15 = .ok (.getfield 19, 3) := by decide +kernel
theorem dX4_keep_18 : decode cX4_keep 18 = .ok (.iload_n 1, 1) := by decide +kernel
theorem dX4_keep_19 : decode cX4_keep 19 = .ok (.aload_n 0, 1) := by decide +kernel
theorem dX4_keep_20 : decode cX4_keep 20 = .ok (.getfield 7, 3) := by decide +kernel
theorem dX4_keep_23 : decode cX4_keep 23 = .ok (.iload_n 1, 1) := by decide +kernel
theorem dX4_keep_24 : decode cX4_keep 24 = .ok (.iaload, 1) := by decide +kernel
theorem dX4_keep_25 : decode cX4_keep 25 = .ok (.iastore, 1) := by decide +kernel
theorem dX4_keep_26 : decode cX4_keep 26 = .ok (.iinc 1 1, 3) := by decide +kernel
theorem dX4_keep_29 : decode cX4_keep 29 = .ok (.goto (-22), 3) := by decide +kernel
theorem dX4_keep_32 : decode cX4_keep 32 = .ok (.aload_n 0, 1) := by decide +kernel
theorem dX4_keep_33 : decode cX4_keep 33 = .ok (.iconst 1, 1) := by decide +kernel
theorem dX4_keep_34 : decode cX4_keep 34 = .ok (.putfield 147, 3) := by decide +kernel
theorem dX4_keep_37 : decode cX4_keep 37 = .ok (.aload_n 0, 1) := by decide +kernel
theorem dX4_keep_38 : decode cX4_keep 38 = .ok (.getfield 7, 3) := by decide +kernel
theorem dX4_keep_41 : decode cX4_keep 41 = .ok (.iconst 5, 1) := by decide +kernel
theorem dX4_keep_42 : decode cX4_keep 42 = .ok (.iaload, 1) := by decide +kernel
theorem dX4_keep_43 : decode cX4_keep 43 = .ok (.ireturn, 1) := by decide +kernel
set_option maxRecDepth 20000 in
theorem ggX4_restore_X4_records : GoodIn wsX4_restore wsX4_records := goodIn_r _ [9, 10, 11, 3, 12, 13, 14, 15, 16, 17, 18, 19, 20, 21, 22, 23, 24] (by decide +kernel) (by decide +kernel)
set_option maxRecDepth 20000 in
theorem gX4_restore_X4_records : GoodIn wsX4_restore (wsV RX4 62 RX4 yX4_records wsX4_records) := goodIn_app (goodIn_of _ (by decide +kernel)) ggX4_restore_X4_records
theorem dX4_restore_0 : decode cX4_restore 0 = .ok (.aload_n 0, 1) := by decide +kernel
theorem dX4_restore_1 : decode cX4_restore 1 = .ok (.iconst 0, 1) := by decide +kernel
theorem dX4_restore_2 : decode cX4_restore 2 = .ok (.putfield 28, 3) := by decide +kernel
theorem dX4_restore_5 : decode cX4_restore 5 = .ok (.aload_n 0, 1) := by decide +kernel
theorem dX4_restore_6 : decode cX4_restore 6 = .ok (.getfield 147, 3) := by decide +kernel
theorem dX4_restore_9 : decode cX4_restore 9 = .ok (.ifCond .ne 6, 3) := by decide +kernel
theorem dX4_restore_12 : decode cX4_restore 12 = .ok (.bipush (-5), 2) := by decide +kernel
theorem dX4_restore_14 : decode cX4_restore 14 = .ok (.ireturn, 1) := by decide +kernel
theorem dX4_restore_15 : decode cX4_restore 15 = .ok (.aload_n 0, 1) := by decide +kernel
theorem dX4_restore_16 : decode cX4_restore 16 = .ok (.invokevirtual 62, 3) := by decide +kernel
theorem dX4_restore_19 : decode cX4_restore 19 = .ok (.iconst 0, 1) := by decide +kernel
theorem dX4_restore_20 : decode cX4_restore 20 = .ok (.istore_n 1, 1) := by decide +kernel
theorem dX4_restore_21 : decode cX4_restore 21 = .ok (.iload_n 1, 1) := by decide +kernel
theorem dX4_restore_22 : decode cX4_restore 22 = .ok (.sipush 200, 3) := by decide +kernel
theorem dX4_restore_25 : decode cX4_restore 25 = .ok (.if_icmp .ge 21, 3) := by decide +kernel
theorem dX4_restore_28 : decode cX4_restore 28 = .ok (.aload_n 0, 1) := by decide +kernel
theorem dX4_restore_29 : decode cX4_restore 29 = .ok (.getfield 7, 3) := by decide +kernel
theorem dX4_restore_32 : decode cX4_restore 32 = .ok (.iload_n 1, 1) := by decide +kernel
theorem dX4_restore_33 : decode cX4_restore 33 = .ok (.aload_n 0, 1) := by decide +kernel
theorem dX4_restore_34 : decode cX4_restore 34 = .ok (.getfield 19, 3) := by decide +kernel
theorem dX4_restore_37 : decode cX4_restore 37 = .ok (.iload_n 1, 1) := by decide +kernel
theorem dX4_restore_38 : decode cX4_restore 38 = .ok (.iaload, 1) := by decide +kernel
theorem dX4_restore_39 : decode cX4_restore 39 = .ok (.iastore, 1) := by decide +kernel
theorem dX4_restore_40 : decode cX4_restore 40 = .ok (.iinc 1 1, 3) := by decide +kernel
theorem dX4_restore_43 : decode cX4_restore 43 = .ok (.goto (-22), 3) := by decide +kernel
theorem dX4_restore_46 : decode cX4_restore 46 = .ok (.aload_n 0, 1) := by decide +kernel
theorem dX4_restore_47 : decode cX4_restore 47 = .ok (.getfield 7, 3) := by decide +kernel
theorem dX4_restore_50 : decode cX4_restore 50 = .ok (.iconst 5, 1) := by decide +kernel
theorem dX4_restore_51 : decode cX4_restore 51 = .ok (.iaload, 1) := by decide +kernel
theorem dX4_restore_52 : decode cX4_restore 52 = .ok (.ireturn, 1) := by decide +kernel
set_option maxRecDepth 20000 in
theorem ggX4_inChains_X4_isInChain : GoodIn wsX4_inChains wsX4_isInChain := goodIn_r _ [6, 7, 8, 9, 5, 10, 1, 11, 12, 13, 14, 15, 16, 17, 18, 19, 20, 21, 22, 23] (by decide +kernel) (by decide +kernel)
set_option maxRecDepth 20000 in
theorem gX4_inChains_X4_isInChain : GoodIn wsX4_inChains (wsV RX4 150 RX4 yX4_isInChain wsX4_isInChain) := goodIn_app (goodIn_of _ (by decide +kernel)) ggX4_inChains_X4_isInChain
theorem dX4_inChains_0 : decode cX4_inChains 0 = .ok (.iconst 0, 1) := by decide +kernel
theorem dX4_inChains_1 : decode cX4_inChains 1 = .ok (.istore_n 2, 1) := by decide +kernel
theorem dX4_inChains_2 : decode cX4_inChains 2 = .ok (.iconst 0, 1) := by decide +kernel
theorem dX4_inChains_3 : decode cX4_inChains 3 = .ok (.istore_n 3, 1) := by decide +kernel
theorem dX4_inChains_4 : decode cX4_inChains 4 = .ok (.iload_n 3, 1) := by decide +kernel
theorem dX4_inChains_5 : decode cX4_inChains 5 = .ok (.aload_n 0, 1) := by decide +kernel
theorem dX4_inChains_6 : decode cX4_inChains 6 = .ok (.getfield 7, 3) := by decide +kernel
theorem dX4_inChains_9 : decode cX4_inChains 9 = .ok (.iconst 5, 1) := by decide +kernel
theorem dX4_inChains_10 : decode cX4_inChains 10 = .ok (.iaload, 1) := by decide +kernel
theorem dX4_inChains_11 : decode cX4_inChains 11 = .ok (.if_icmp .ge 26, 3) := by decide +kernel
theorem dX4_inChains_14 : decode cX4_inChains 14 = .ok (.iload_n 2, 1) := by decide +kernel
theorem dX4_inChains_15 : decode cX4_inChains 15 = .ok (.aload_n 0, 1) := by decide +kernel
theorem dX4_inChains_16 : decode cX4_inChains 16 = .ok (.iload_n 1, 1) := by decide +kernel
theorem dX4_inChains_17 : decode cX4_inChains 17 = .ok (.iload_n 3, 1) := by decide +kernel
theorem dX4_inChains_18 : decode cX4_inChains 18 = .ok (.invokevirtual 150, 3) := by decide +kernel
theorem dX4_inChains_21 : decode cX4_inChains 21 = .ok (.ifCond .eq 7, 3) := by decide +kernel
theorem dX4_inChains_24 : decode cX4_inChains 24 = .ok (.iconst 1, 1) := by decide +kernel
theorem dX4_inChains_25 : decode cX4_inChains 25 = .ok (.goto 4, 3) := by decide +kernel
theorem dX4_inChains_28 : decode cX4_inChains 28 = .ok (.iconst 0, 1) := by decide +kernel
theorem dX4_inChains_29 : decode cX4_inChains 29 = .ok (.iadd, 1) := by decide +kernel
theorem dX4_inChains_30 : decode cX4_inChains 30 = .ok (.istore_n 2, 1) := by decide +kernel
theorem dX4_inChains_31 : decode cX4_inChains 31 = .ok (.iinc 3 1, 3) := by decide +kernel
theorem dX4_inChains_34 : decode cX4_inChains 34 = .ok (.goto (-30), 3) := by decide +kernel
theorem dX4_inChains_37 : decode cX4_inChains 37 = .ok (.iload_n 2, 1) := by decide +kernel
theorem dX4_inChains_38 : decode cX4_inChains 38 = .ok (.ireturn, 1) := by decide +kernel
set_option maxRecDepth 20000 in
theorem ggX4_whyNot_X4_of : GoodIn wsX4_whyNot wsX4_of := goodIn_r _ [6, 1, 11, 12, 13, 14, 15, 16, 17, 18, 19, 20, 21, 22, 23] (by decide +kernel) (by decide +kernel)
set_option maxRecDepth 20000 in
theorem gX4_whyNot_X4_of : GoodIn wsX4_whyNot (wsV RX4 39 RX4 yX4_of wsX4_of) := goodIn_app (goodIn_of _ (by decide +kernel)) ggX4_whyNot_X4_of
set_option maxRecDepth 20000 in
theorem ggX4_whyNot_X4_vouchers : GoodIn wsX4_whyNot wsX4_vouchers := goodIn_r _ [10, 1, 2, 3, 4, 5, 6, 11, 12, 13, 14, 15, 16, 17, 18, 19, 20, 21, 22, 23] (by decide +kernel) (by decide +kernel)
set_option maxRecDepth 20000 in
theorem gX4_whyNot_X4_vouchers : GoodIn wsX4_whyNot (wsV RX4 154 RX4 yX4_vouchers wsX4_vouchers) := goodIn_app (goodIn_of _ (by decide +kernel)) ggX4_whyNot_X4_vouchers
theorem dX4_whyNot_0 : decode cX4_whyNot 0 = .ok (.aload_n 0, 1) := by decide +kernel
theorem dX4_whyNot_1 : decode cX4_whyNot 1 = .ok (.iload_n 1, 1) := by decide +kernel
theorem dX4_whyNot_2 : decode cX4_whyNot 2 = .ok (.iconst 5, 1) := by decide +kernel
theorem dX4_whyNot_3 : decode cX4_whyNot 3 = .ok (.invokevirtual 39, 3) := by decide +kernel
theorem dX4_whyNot_6 : decode cX4_whyNot 6 = .ok (.iconst 1, 1) := by decide +kernel
theorem dX4_whyNot_7 : decode cX4_whyNot 7 = .ok (.if_icmp .ne 5, 3) := by decide +kernel
theorem dX4_whyNot_10 : decode cX4_whyNot 10 = .ok (.iconst 0, 1) := by decide +kernel
theorem dX4_whyNot_11 : decode cX4_whyNot 11 = .ok (.ireturn, 1) := by decide +kernel
theorem dX4_whyNot_12 : decode cX4_whyNot 12 = .ok (.aload_n 0, 1) := by decide +kernel
theorem dX4_whyNot_13 : decode cX4_whyNot 13 = .ok (.iload_n 1, 1) := by decide +kernel
theorem dX4_whyNot_14 : decode cX4_whyNot 14 = .ok (.bipush 6, 2) := by decide +kernel
theorem dX4_whyNot_16 : decode cX4_whyNot 16 = .ok (.invokevirtual 39, 3) := by decide +kernel
theorem dX4_whyNot_19 : decode cX4_whyNot 19 = .ok (.iconst 1, 1) := by decide +kernel
theorem dX4_whyNot_20 : decode cX4_whyNot 20 = .ok (.if_icmp .ne 5, 3) := by decide +kernel
theorem dX4_whyNot_23 : decode cX4_whyNot 23 = .ok (.iconst 1, 1) := by decide +kernel
theorem dX4_whyNot_24 : decode cX4_whyNot 24 = .ok (.ireturn, 1) := by decide +kernel
theorem dX4_whyNot_25 : decode cX4_whyNot 25 = .ok (.iconst 0, 1) := by decide +kernel
theorem dX4_whyNot_26 : decode cX4_whyNot 26 = .ok (.istore_n 2, 1) := by decide +kernel
theorem dX4_whyNot_27 : decode cX4_whyNot 27 = .ok (.iconst 0, 1) := by decide +kernel
theorem dX4_whyNot_28 : decode cX4_whyNot 28 = .ok (.istore_n 3, 1) := by decide +kernel
theorem dX4_whyNot_29 : decode cX4_whyNot 29 = .ok (.iload_n 3, 1) := by decide +kernel
theorem dX4_whyNot_30 : decode cX4_whyNot 30 = .ok (.aload_n 0, 1) := by decide +kernel
theorem dX4_whyNot_31 : decode cX4_whyNot 31 = .ok (.getfield 7, 3) := by decide +kernel
theorem dX4_whyNot_34 : decode cX4_whyNot 34 = .ok (.iconst 5, 1) := by decide +kernel
theorem dX4_whyNot_35 : decode cX4_whyNot 35 = .ok (.iaload, 1) := by decide +kernel
theorem dX4_whyNot_36 : decode cX4_whyNot 36 = .ok (.if_icmp .ge 37, 3) := by decide +kernel
theorem dX4_whyNot_39 : decode cX4_whyNot 39 = .ok (.iload_n 2, 1) := by decide +kernel
theorem dX4_whyNot_40 : decode cX4_whyNot 40 = .ok (.aload_n 0, 1) := by decide +kernel
theorem dX4_whyNot_41 : decode cX4_whyNot 41 = .ok (.iload_n 3, 1) := by decide +kernel
theorem dX4_whyNot_42 : decode cX4_whyNot 42 = .ok (.iconst 2, 1) := by decide +kernel
theorem dX4_whyNot_43 : decode cX4_whyNot 43 = .ok (.invokevirtual 39, 3) := by decide +kernel
theorem dX4_whyNot_46 : decode cX4_whyNot 46 = .ok (.iload_n 1, 1) := by decide +kernel
theorem dX4_whyNot_47 : decode cX4_whyNot 47 = .ok (.if_icmp .ne 17, 3) := by decide +kernel
theorem dX4_whyNot_50 : decode cX4_whyNot 50 = .ok (.aload_n 0, 1) := by decide +kernel
theorem dX4_whyNot_51 : decode cX4_whyNot 51 = .ok (.iload_n 3, 1) := by decide +kernel
theorem dX4_whyNot_52 : decode cX4_whyNot 52 = .ok (.iconst 5, 1) := by decide +kernel
theorem dX4_whyNot_53 : decode cX4_whyNot 53 = .ok (.invokevirtual 39, 3) := by decide +kernel
theorem dX4_whyNot_56 : decode cX4_whyNot 56 = .ok (.iconst 1, 1) := by decide +kernel
theorem dX4_whyNot_57 : decode cX4_whyNot 57 = .ok (.if_icmp .ne 7, 3) := by decide +kernel
theorem dX4_whyNot_60 : decode cX4_whyNot 60 = .ok (.iconst 1, 1) := by decide +kernel
theorem dX4_whyNot_61 : decode cX4_whyNot 61 = .ok (.goto 4, 3) := by decide +kernel
theorem dX4_whyNot_64 : decode cX4_whyNot 64 = .ok (.iconst 0, 1) := by decide +kernel
theorem dX4_whyNot_65 : decode cX4_whyNot 65 = .ok (.iadd, 1) := by decide +kernel
theorem dX4_whyNot_66 : decode cX4_whyNot 66 = .ok (.istore_n 2, 1) := by decide +kernel
theorem dX4_whyNot_67 : decode cX4_whyNot 67 = .ok (.iinc 3 1, 3) := by decide +kernel
theorem dX4_whyNot_70 : decode cX4_whyNot 70 = .ok (.goto (-41), 3) := by decide +kernel
theorem dX4_whyNot_73 : decode cX4_whyNot 73 = .ok (.aload_n 0, 1) := by decide +kernel
theorem dX4_whyNot_74 : decode cX4_whyNot 74 = .ok (.iload_n 1, 1) := by decide +kernel
theorem dX4_whyNot_75 : decode cX4_whyNot 75 = .ok (.invokevirtual 154, 3) := by decide +kernel
theorem dX4_whyNot_78 : decode cX4_whyNot 78 = .ok (.ifCond .ne 7, 3) := by decide +kernel
theorem dX4_whyNot_81 : decode cX4_whyNot 81 = .ok (.iconst 2, 1) := by decide +kernel
theorem dX4_whyNot_82 : decode cX4_whyNot 82 = .ok (.goto 12, 3) := by decide +kernel
theorem dX4_whyNot_85 : decode cX4_whyNot 85 = .ok (.iload_n 2, 1) := by decide +kernel
theorem dX4_whyNot_86 : decode cX4_whyNot 86 = .ok (.ifCond .ne 7, 3) := by decide +kernel
theorem dX4_whyNot_89 : decode cX4_whyNot 89 = .ok (.iconst 3, 1) := by decide +kernel
theorem dX4_whyNot_90 : decode cX4_whyNot 90 = .ok (.goto 4, 3) := by decide +kernel
theorem dX4_whyNot_93 : decode cX4_whyNot 93 = .ok (.iconst 4, 1) := by decide +kernel
theorem dX4_whyNot_94 : decode cX4_whyNot 94 = .ok (.ireturn, 1) := by decide +kernel
set_option maxRecDepth 20000 in
theorem ggX4_cart_X4_isCart : GoodIn wsX4_cart wsX4_isCart := goodIn_r _ [6, 7, 8, 9, 5, 10, 47, 48, 49, 50, 51, 52, 53, 54, 55, 56, 57, 58, 59] (by decide +kernel) (by decide +kernel)
set_option maxRecDepth 20000 in
theorem gX4_cart_X4_isCart : GoodIn wsX4_cart (wsV RX4 50 RX4 yX4_isCart wsX4_isCart) := goodIn_app (goodIn_of _ (by decide +kernel)) ggX4_cart_X4_isCart
set_option maxRecDepth 20000 in
theorem ggX4_cart_X4_of : GoodIn wsX4_cart wsX4_of := goodIn_r _ [14, 7, 47, 48, 49, 50, 51, 52, 53, 54, 55, 56, 57, 58, 59] (by decide +kernel) (by decide +kernel)
set_option maxRecDepth 20000 in
theorem gX4_cart_X4_of : GoodIn wsX4_cart (wsV RX4 39 RX4 yX4_of wsX4_of) := goodIn_app (goodIn_of _ (by decide +kernel)) ggX4_cart_X4_of
set_option maxRecDepth 20000 in
theorem ggX4_cart_X4_rightSeal : GoodIn wsX4_cart wsX4_rightSeal := goodIn_r _ [18, 11, 12, 13, 5, 14, 7, 19, 20, 21, 22, 47, 48, 49, 50, 51, 52, 53, 54, 55, 56, 57, 58, 59] (by decide +kernel) (by decide +kernel)
set_option maxRecDepth 20000 in
theorem gX4_cart_X4_rightSeal : GoodIn wsX4_cart (wsV RX4 46 RX4 yX4_rightSeal wsX4_rightSeal) := goodIn_app (goodIn_of _ (by decide +kernel)) ggX4_cart_X4_rightSeal
set_option maxRecDepth 20000 in
theorem ggX4_cart_X4_isWhole : GoodIn wsX4_cart wsX4_isWhole := goodIn_r _ [26, 11, 12, 13, 5, 14, 7, 15, 16, 17, 18, 19, 20, 21, 22, 47, 48, 49, 50, 51, 52, 53, 54, 55, 56, 57, 58, 59] (by decide +kernel) (by decide +kernel)
set_option maxRecDepth 20000 in
theorem gX4_cart_X4_isWhole : GoodIn wsX4_cart (wsV RX4 71 RX4 yX4_isWhole wsX4_isWhole) := goodIn_app (goodIn_of _ (by decide +kernel)) ggX4_cart_X4_isWhole
set_option maxRecDepth 20000 in
theorem ggX4_cart_X4_depth : GoodIn wsX4_cart wsX4_depth := goodIn_r _ [30, 11, 12, 13, 5, 14, 7, 47, 48, 49, 50, 51, 52, 53, 54, 55, 56, 57, 58, 59] (by decide +kernel) (by decide +kernel)
set_option maxRecDepth 20000 in
theorem gX4_cart_X4_depth : GoodIn wsX4_cart (wsV RX4 157 RX4 yX4_depth wsX4_depth) := goodIn_app (goodIn_of _ (by decide +kernel)) ggX4_cart_X4_depth
set_option maxRecDepth 20000 in
theorem ggX4_cart_X4_vouchers : GoodIn wsX4_cart wsX4_vouchers := goodIn_r _ [34, 7, 11, 12, 13, 5, 14, 47, 48, 49, 50, 51, 52, 53, 54, 55, 56, 57, 58, 59] (by decide +kernel) (by decide +kernel)
set_option maxRecDepth 20000 in
theorem gX4_cart_X4_vouchers : GoodIn wsX4_cart (wsV RX4 154 RX4 yX4_vouchers wsX4_vouchers) := goodIn_app (goodIn_of _ (by decide +kernel)) ggX4_cart_X4_vouchers
set_option maxRecDepth 20000 in
theorem ggX4_cart_X4_inChains : GoodIn wsX4_cart wsX4_inChains := goodIn_r _ [38, 7, 39, 40, 41, 5, 42, 11, 12, 13, 14, 47, 48, 49, 50, 51, 52, 53, 54, 55, 56, 57, 58, 59] (by decide +kernel) (by decide +kernel)
set_option maxRecDepth 20000 in
theorem gX4_cart_X4_inChains : GoodIn wsX4_cart (wsV RX4 160 RX4 yX4_inChains wsX4_inChains) := goodIn_app (goodIn_of _ (by decide +kernel)) ggX4_cart_X4_inChains
set_option maxRecDepth 20000 in
theorem ggX4_cart_X4_whyNot : GoodIn wsX4_cart wsX4_whyNot := goodIn_r _ [46, 7, 11, 12, 13, 5, 14, 31, 32, 33, 34, 47, 48, 49, 50, 51, 52, 53, 54, 55, 56, 57, 58, 59] (by decide +kernel) (by decide +kernel)
set_option maxRecDepth 20000 in
theorem gX4_cart_X4_whyNot : GoodIn wsX4_cart (wsV RX4 163 RX4 yX4_whyNot wsX4_whyNot) := goodIn_app (goodIn_of _ (by decide +kernel)) ggX4_cart_X4_whyNot
theorem dX4_cart_0 : decode cX4_cart 0 = .ok (.aload_n 0, 1) := by decide +kernel
theorem dX4_cart_1 : decode cX4_cart 1 = .ok (.iconst 0, 1) := by decide +kernel
theorem dX4_cart_2 : decode cX4_cart 2 = .ok (.putfield 28, 3) := by decide +kernel
theorem dX4_cart_5 : decode cX4_cart 5 = .ok (.aload_n 0, 1) := by decide +kernel
theorem dX4_cart_6 : decode cX4_cart 6 = .ok (.iload_n 1, 1) := by decide +kernel
theorem dX4_cart_7 : decode cX4_cart 7 = .ok (.invokevirtual 50, 3) := by decide +kernel
theorem dX4_cart_10 : decode cX4_cart 10 = .ok (.ifCond .ne 5, 3) := by decide +kernel
theorem dX4_cart_13 : decode cX4_cart 13 = .ok (.iconst (-1), 1) := by decide +kernel
theorem dX4_cart_14 : decode cX4_cart 14 = .ok (.ireturn, 1) := by decide +kernel
theorem dX4_cart_15 : decode cX4_cart 15 = .ok (.iload_n 2, 1) := by decide +kernel
theorem dX4_cart_16 : decode cX4_cart 16 = .ok (.tableswitch 191 0 12 #[68, 75, 97, 118, 125, 131, 145, 152, 159, 167, 173, 179, 185], 68) := by decide +kernel
theorem dX4_cart_84 : decode cX4_cart 84 = .ok (.aload_n 0, 1) := by decide +kernel
theorem dX4_cart_85 : decode cX4_cart 85 = .ok (.iload_n 1, 1) := by decide +kernel
theorem dX4_cart_86 : decode cX4_cart 86 = .ok (.iconst 0, 1) := by decide +kernel
theorem dX4_cart_87 : decode cX4_cart 87 = .ok (.invokevirtual 39, 3) := by decide +kernel
theorem dX4_cart_90 : decode cX4_cart 90 = .ok (.ireturn, 1) := by decide +kernel
theorem dX4_cart_91 : decode cX4_cart 91 = .ok (.aload_n 0, 1) := by decide +kernel
theorem dX4_cart_92 : decode cX4_cart 92 = .ok (.iload_n 1, 1) := by decide +kernel
theorem dX4_cart_93 : decode cX4_cart 93 = .ok (.iconst 4, 1) := by decide +kernel
theorem dX4_cart_94 : decode cX4_cart 94 = .ok (.invokevirtual 39, 3) := by decide +kernel
theorem dX4_cart_97 : decode cX4_cart 97 = .ok (.iconst 1, 1) := by decide +kernel
theorem dX4_cart_98 : decode cX4_cart 98 = .ok (.if_icmp .ne 12, 3) := by decide +kernel
theorem dX4_cart_101 : decode cX4_cart 101 = .ok (.aload_n 0, 1) := by decide +kernel
theorem dX4_cart_102 : decode cX4_cart 102 = .ok (.iload_n 1, 1) := by decide +kernel
theorem dX4_cart_103 : decode cX4_cart 103 = .ok (.iconst 1, 1) := by decide +kernel
theorem dX4_cart_104 : decode cX4_cart 104 = .ok (.invokevirtual 39, 3) := by decide +kernel
theorem dX4_cart_107 : decode cX4_cart 107 = .ok (.goto 5, 3) := by decide +kernel
theorem dX4_cart_110 : decode cX4_cart 110 = .ok (.bipush (-5), 2) := by decide +kernel
theorem dX4_cart_112 : decode cX4_cart 112 = .ok (.ireturn, 1) := by decide +kernel
theorem dX4_cart_113 : decode cX4_cart 113 = .ok (.aload_n 0, 1) := by decide +kernel
theorem dX4_cart_114 : decode cX4_cart 114 = .ok (.iload_n 1, 1) := by decide +kernel
theorem dX4_cart_115 : decode cX4_cart 115 = .ok (.iconst 2, 1) := by decide +kernel
theorem dX4_cart_116 : decode cX4_cart 116 = .ok (.invokevirtual 39, 3) := by decide +kernel
theorem dX4_cart_119 : decode cX4_cart 119 = .ok (.ifCond .ge 8, 3) := by decide +kernel
theorem dX4_cart_122 : decode cX4_cart 122 = .ok (.bipush (-5), 2) := by decide +kernel
theorem dX4_cart_124 : decode cX4_cart 124 = .ok (.goto 9, 3) := by decide +kernel
theorem dX4_cart_127 : decode cX4_cart 127 = .ok (.aload_n 0, 1) := by decide +kernel
theorem dX4_cart_128 : decode cX4_cart 128 = .ok (.iload_n 1, 1) := by decide +kernel
theorem dX4_cart_129 : decode cX4_cart 129 = .ok (.iconst 2, 1) := by decide +kernel
theorem dX4_cart_130 : decode cX4_cart 130 = .ok (.invokevirtual 39, 3) := by decide +kernel
theorem dX4_cart_133 : decode cX4_cart 133 = .ok (.ireturn, 1) := by decide +kernel
theorem dX4_cart_134 : decode cX4_cart 134 = .ok (.aload_n 0, 1) := by decide +kernel
theorem dX4_cart_135 : decode cX4_cart 135 = .ok (.iload_n 1, 1) := by decide +kernel
theorem dX4_cart_136 : decode cX4_cart 136 = .ok (.iconst 3, 1) := by decide +kernel
theorem dX4_cart_137 : decode cX4_cart 137 = .ok (.invokevirtual 39, 3) := by decide +kernel
theorem dX4_cart_140 : decode cX4_cart 140 = .ok (.ireturn, 1) := by decide +kernel
theorem dX4_cart_141 : decode cX4_cart 141 = .ok (.aload_n 0, 1) := by decide +kernel
theorem dX4_cart_142 : decode cX4_cart 142 = .ok (.iload_n 1, 1) := by decide +kernel
theorem dX4_cart_143 : decode cX4_cart 143 = .ok (.invokevirtual 46, 3) := by decide +kernel
theorem dX4_cart_146 : decode cX4_cart 146 = .ok (.ireturn, 1) := by decide +kernel
theorem dX4_cart_147 : decode cX4_cart 147 = .ok (.aload_n 0, 1) := by decide +kernel
theorem dX4_cart_148 : decode cX4_cart 148 = .ok (.iload_n 1, 1) := by decide +kernel
theorem dX4_cart_149 : decode cX4_cart 149 = .ok (.invokevirtual 71, 3) := by decide +kernel
theorem dX4_cart_152 : decode cX4_cart 152 = .ok (.ifCond .eq 7, 3) := by decide +kernel
theorem dX4_cart_155 : decode cX4_cart 155 = .ok (.iconst 1, 1) := by decide +kernel
theorem dX4_cart_156 : decode cX4_cart 156 = .ok (.goto 4, 3) := by decide +kernel
theorem dX4_cart_159 : decode cX4_cart 159 = .ok (.iconst 0, 1) := by decide +kernel
theorem dX4_cart_160 : decode cX4_cart 160 = .ok (.ireturn, 1) := by decide +kernel
theorem dX4_cart_161 : decode cX4_cart 161 = .ok (.aload_n 0, 1) := by decide +kernel
theorem dX4_cart_162 : decode cX4_cart 162 = .ok (.iload_n 1, 1) := by decide +kernel
theorem dX4_cart_163 : decode cX4_cart 163 = .ok (.iconst 4, 1) := by decide +kernel
theorem dX4_cart_164 : decode cX4_cart 164 = .ok (.invokevirtual 39, 3) := by decide +kernel
theorem dX4_cart_167 : decode cX4_cart 167 = .ok (.ireturn, 1) := by decide +kernel
theorem dX4_cart_168 : decode cX4_cart 168 = .ok (.aload_n 0, 1) := by decide +kernel
theorem dX4_cart_169 : decode cX4_cart 169 = .ok (.iload_n 1, 1) := by decide +kernel
theorem dX4_cart_170 : decode cX4_cart 170 = .ok (.iconst 5, 1) := by decide +kernel
theorem dX4_cart_171 : decode cX4_cart 171 = .ok (.invokevirtual 39, 3) := by decide +kernel
theorem dX4_cart_174 : decode cX4_cart 174 = .ok (.ireturn, 1) := by decide +kernel
theorem dX4_cart_175 : decode cX4_cart 175 = .ok (.aload_n 0, 1) := by decide +kernel
theorem dX4_cart_176 : decode cX4_cart 176 = .ok (.iload_n 1, 1) := by decide +kernel
theorem dX4_cart_177 : decode cX4_cart 177 = .ok (.bipush 7, 2) := by decide +kernel
theorem dX4_cart_179 : decode cX4_cart 179 = .ok (.invokevirtual 39, 3) := by decide +kernel
theorem dX4_cart_182 : decode cX4_cart 182 = .ok (.ireturn, 1) := by decide +kernel
theorem dX4_cart_183 : decode cX4_cart 183 = .ok (.aload_n 0, 1) := by decide +kernel
theorem dX4_cart_184 : decode cX4_cart 184 = .ok (.iload_n 1, 1) := by decide +kernel
theorem dX4_cart_185 : decode cX4_cart 185 = .ok (.invokevirtual 157, 3) := by decide +kernel
theorem dX4_cart_188 : decode cX4_cart 188 = .ok (.ireturn, 1) := by decide +kernel
theorem dX4_cart_189 : decode cX4_cart 189 = .ok (.aload_n 0, 1) := by decide +kernel
theorem dX4_cart_190 : decode cX4_cart 190 = .ok (.iload_n 1, 1) := by decide +kernel
theorem dX4_cart_191 : decode cX4_cart 191 = .ok (.invokevirtual 154, 3) := by decide +kernel
theorem dX4_cart_194 : decode cX4_cart 194 = .ok (.ireturn, 1) := by decide +kernel
theorem dX4_cart_195 : decode cX4_cart 195 = .ok (.aload_n 0, 1) := by decide +kernel
theorem dX4_cart_196 : decode cX4_cart 196 = .ok (.iload_n 1, 1) := by decide +kernel
theorem dX4_cart_197 : decode cX4_cart 197 = .ok (.invokevirtual 160, 3) := by decide +kernel
theorem dX4_cart_200 : decode cX4_cart 200 = .ok (.ireturn, 1) := by decide +kernel
theorem dX4_cart_201 : decode cX4_cart 201 = .ok (.aload_n 0, 1) := by decide +kernel
theorem dX4_cart_202 : decode cX4_cart 202 = .ok (.iload_n 1, 1) := by decide +kernel
theorem dX4_cart_203 : decode cX4_cart 203 = .ok (.invokevirtual 163, 3) := by decide +kernel
theorem dX4_cart_206 : decode cX4_cart 206 = .ok (.ireturn, 1) := by decide +kernel
theorem dX4_cart_207 : decode cX4_cart 207 = .ok (.bipush (-2), 2) := by decide +kernel
theorem dX4_cart_209 : decode cX4_cart 209 = .ok (.ireturn, 1) := by decide +kernel
set_option maxRecDepth 20000 in
theorem ggX4_chain_X4_isCart : GoodIn wsX4_chain wsX4_isCart := goodIn_r _ [6, 7, 8, 9, 5, 10, 15, 16, 17, 18, 19, 20, 21, 22, 23, 24, 25, 26, 27] (by decide +kernel) (by decide +kernel)
set_option maxRecDepth 20000 in
theorem gX4_chain_X4_isCart : GoodIn wsX4_chain (wsV RX4 50 RX4 yX4_isCart wsX4_isCart) := goodIn_app (goodIn_of _ (by decide +kernel)) ggX4_chain_X4_isCart
set_option maxRecDepth 20000 in
theorem ggX4_chain_X4_of : GoodIn wsX4_chain wsX4_of := goodIn_r _ [14, 7, 15, 16, 17, 18, 19, 20, 21, 22, 23, 24, 25, 26, 27] (by decide +kernel) (by decide +kernel)
set_option maxRecDepth 20000 in
theorem gX4_chain_X4_of : GoodIn wsX4_chain (wsV RX4 39 RX4 yX4_of wsX4_of) := goodIn_app (goodIn_of _ (by decide +kernel)) ggX4_chain_X4_of
theorem dX4_chain_0 : decode cX4_chain 0 = .ok (.aload_n 0, 1) := by decide +kernel
theorem dX4_chain_1 : decode cX4_chain 1 = .ok (.iconst 0, 1) := by decide +kernel
theorem dX4_chain_2 : decode cX4_chain 2 = .ok (.putfield 28, 3) := by decide +kernel
theorem dX4_chain_5 : decode cX4_chain 5 = .ok (.aload_n 0, 1) := by decide +kernel
theorem dX4_chain_6 : decode cX4_chain 6 = .ok (.iload_n 1, 1) := by decide +kernel
theorem dX4_chain_7 : decode cX4_chain 7 = .ok (.invokevirtual 50, 3) := by decide +kernel
theorem dX4_chain_10 : decode cX4_chain 10 = .ok (.ifCond .ne 5, 3) := by decide +kernel
theorem dX4_chain_13 : decode cX4_chain 13 = .ok (.iconst (-1), 1) := by decide +kernel
theorem dX4_chain_14 : decode cX4_chain 14 = .ok (.ireturn, 1) := by decide +kernel
theorem dX4_chain_15 : decode cX4_chain 15 = .ok (.iload_n 2, 1) := by decide +kernel
theorem dX4_chain_16 : decode cX4_chain 16 = .ok (.ifCond .ge 6, 3) := by decide +kernel
theorem dX4_chain_19 : decode cX4_chain 19 = .ok (.bipush (-2), 2) := by decide +kernel
theorem dX4_chain_21 : decode cX4_chain 21 = .ok (.ireturn, 1) := by decide +kernel
theorem dX4_chain_22 : decode cX4_chain 22 = .ok (.iload_n 1, 1) := by decide +kernel
theorem dX4_chain_23 : decode cX4_chain 23 = .ok (.istore_n 3, 1) := by decide +kernel
theorem dX4_chain_24 : decode cX4_chain 24 = .ok (.iconst 0, 1) := by decide +kernel
theorem dX4_chain_25 : decode cX4_chain 25 = .ok (.istore 4, 2) := by decide +kernel
theorem dX4_chain_27 : decode cX4_chain 27 = .ok (.iload 4, 2) := by decide +kernel
theorem dX4_chain_29 : decode cX4_chain 29 = .ok (.iload_n 2, 1) := by decide +kernel
theorem dX4_chain_30 : decode cX4_chain 30 = .ok (.if_icmp .ge 20, 3) := by decide +kernel
theorem dX4_chain_33 : decode cX4_chain 33 = .ok (.iload_n 3, 1) := by decide +kernel
theorem dX4_chain_34 : decode cX4_chain 34 = .ok (.ifCond .lt 16, 3) := by decide +kernel
theorem dX4_chain_37 : decode cX4_chain 37 = .ok (.aload_n 0, 1) := by decide +kernel
theorem dX4_chain_38 : decode cX4_chain 38 = .ok (.iload_n 3, 1) := by decide +kernel
theorem dX4_chain_39 : decode cX4_chain 39 = .ok (.iconst 2, 1) := by decide +kernel
theorem dX4_chain_40 : decode cX4_chain 40 = .ok (.invokevirtual 39, 3) := by decide +kernel
theorem dX4_chain_43 : decode cX4_chain 43 = .ok (.istore_n 3, 1) := by decide +kernel
theorem dX4_chain_44 : decode cX4_chain 44 = .ok (.iinc 4 1, 3) := by decide +kernel
theorem dX4_chain_47 : decode cX4_chain 47 = .ok (.goto (-20), 3) := by decide +kernel
theorem dX4_chain_50 : decode cX4_chain 50 = .ok (.iload_n 3, 1) := by decide +kernel
theorem dX4_chain_51 : decode cX4_chain 51 = .ok (.ifCond .ge 8, 3) := by decide +kernel
theorem dX4_chain_54 : decode cX4_chain 54 = .ok (.bipush (-5), 2) := by decide +kernel
theorem dX4_chain_56 : decode cX4_chain 56 = .ok (.goto 4, 3) := by decide +kernel
theorem dX4_chain_59 : decode cX4_chain 59 = .ok (.iload_n 3, 1) := by decide +kernel
theorem dX4_chain_60 : decode cX4_chain 60 = .ok (.ireturn, 1) := by decide +kernel
set_option maxRecDepth 20000 in
theorem ggX4_brokenIn_X4_isCart : GoodIn wsX4_brokenIn wsX4_isCart := goodIn_r _ [6, 7, 8, 9, 5, 10, 27, 28, 29, 30, 31, 32, 33, 34, 35, 36, 37, 38, 39] (by decide +kernel) (by decide +kernel)
set_option maxRecDepth 20000 in
theorem gX4_brokenIn_X4_isCart : GoodIn wsX4_brokenIn (wsV RX4 50 RX4 yX4_isCart wsX4_isCart) := goodIn_app (goodIn_of _ (by decide +kernel)) ggX4_brokenIn_X4_isCart
set_option maxRecDepth 20000 in
theorem ggX4_brokenIn_X4_isWhole : GoodIn wsX4_brokenIn wsX4_isWhole := goodIn_r _ [14, 15, 16, 17, 5, 18, 7, 19, 20, 21, 22, 23, 24, 25, 26, 27, 28, 29, 30, 31, 32, 33, 34, 35, 36, 37, 38, 39] (by decide +kernel) (by decide +kernel)
set_option maxRecDepth 20000 in
theorem gX4_brokenIn_X4_isWhole : GoodIn wsX4_brokenIn (wsV RX4 71 RX4 yX4_isWhole wsX4_isWhole) := goodIn_app (goodIn_of _ (by decide +kernel)) ggX4_brokenIn_X4_isWhole
set_option maxRecDepth 20000 in
theorem ggX4_brokenIn_X4_of : GoodIn wsX4_brokenIn wsX4_of := goodIn_r _ [18, 7, 27, 28, 29, 30, 31, 32, 33, 34, 35, 36, 37, 38, 39] (by decide +kernel) (by decide +kernel)
set_option maxRecDepth 20000 in
theorem gX4_brokenIn_X4_of : GoodIn wsX4_brokenIn (wsV RX4 39 RX4 yX4_of wsX4_of) := goodIn_app (goodIn_of _ (by decide +kernel)) ggX4_brokenIn_X4_of
theorem dX4_brokenIn_0 : decode cX4_brokenIn 0 = .ok (.aload_n 0, 1) := by decide +kernel
theorem dX4_brokenIn_1 : decode cX4_brokenIn 1 = .ok (.iconst 0, 1) := by decide +kernel
theorem dX4_brokenIn_2 : decode cX4_brokenIn 2 = .ok (.putfield 28, 3) := by decide +kernel
theorem dX4_brokenIn_5 : decode cX4_brokenIn 5 = .ok (.aload_n 0, 1) := by decide +kernel
theorem dX4_brokenIn_6 : decode cX4_brokenIn 6 = .ok (.iload_n 1, 1) := by decide +kernel
theorem dX4_brokenIn_7 : decode cX4_brokenIn 7 = .ok (.invokevirtual 50, 3) := by decide +kernel
theorem dX4_brokenIn_10 : decode cX4_brokenIn 10 = .ok (.ifCond .ne 5, 3) := by decide +kernel
theorem dX4_brokenIn_13 : decode cX4_brokenIn 13 = .ok (.iconst (-1), 1) := by decide +kernel
theorem dX4_brokenIn_14 : decode cX4_brokenIn 14 = .ok (.ireturn, 1) := by decide +kernel
theorem dX4_brokenIn_15 : decode cX4_brokenIn 15 = .ok (.iload_n 1, 1) := by decide +kernel
theorem dX4_brokenIn_16 : decode cX4_brokenIn 16 = .ok (.istore_n 2, 1) := by decide +kernel
theorem dX4_brokenIn_17 : decode cX4_brokenIn 17 = .ok (.iload_n 2, 1) := by decide +kernel
theorem dX4_brokenIn_18 : decode cX4_brokenIn 18 = .ok (.ifCond .lt 21, 3) := by decide +kernel
theorem dX4_brokenIn_21 : decode cX4_brokenIn 21 = .ok (.aload_n 0, 1) := by decide +kernel
theorem dX4_brokenIn_22 : decode cX4_brokenIn 22 = .ok (.iload_n 2, 1) := by decide +kernel
theorem dX4_brokenIn_23 : decode cX4_brokenIn 23 = .ok (.invokevirtual 71, 3) := by decide +kernel
theorem dX4_brokenIn_26 : decode cX4_brokenIn 26 = .ok (.ifCond .eq 13, 3) := by decide +kernel
theorem dX4_brokenIn_29 : decode cX4_brokenIn 29 = .ok (.aload_n 0, 1) := by decide +kernel
theorem dX4_brokenIn_30 : decode cX4_brokenIn 30 = .ok (.iload_n 2, 1) := by decide +kernel
theorem dX4_brokenIn_31 : decode cX4_brokenIn 31 = .ok (.iconst 2, 1) := by decide +kernel
theorem dX4_brokenIn_32 : decode cX4_brokenIn 32 = .ok (.invokevirtual 39, 3) := by decide +kernel
theorem dX4_brokenIn_35 : decode cX4_brokenIn 35 = .ok (.istore_n 2, 1) := by decide +kernel
theorem dX4_brokenIn_36 : decode cX4_brokenIn 36 = .ok (.goto (-19), 3) := by decide +kernel
theorem dX4_brokenIn_39 : decode cX4_brokenIn 39 = .ok (.iload_n 2, 1) := by decide +kernel
theorem dX4_brokenIn_40 : decode cX4_brokenIn 40 = .ok (.ifCond .ge 8, 3) := by decide +kernel
theorem dX4_brokenIn_43 : decode cX4_brokenIn 43 = .ok (.bipush (-5), 2) := by decide +kernel
theorem dX4_brokenIn_45 : decode cX4_brokenIn 45 = .ok (.goto 4, 3) := by decide +kernel
theorem dX4_brokenIn_48 : decode cX4_brokenIn 48 = .ok (.iload_n 2, 1) := by decide +kernel
theorem dX4_brokenIn_49 : decode cX4_brokenIn 49 = .ok (.ireturn, 1) := by decide +kernel
set_option maxRecDepth 20000 in
theorem ggX4_sumOf_X4_of : GoodIn wsX4_sumOf wsX4_of := goodIn_r _ [6, 1, 7, 8, 9, 10, 11, 12, 13, 14, 15, 16, 17, 18, 19] (by decide +kernel) (by decide +kernel)
set_option maxRecDepth 20000 in
theorem gX4_sumOf_X4_of : GoodIn wsX4_sumOf (wsV RX4 39 RX4 yX4_of wsX4_of) := goodIn_app (goodIn_of _ (by decide +kernel)) ggX4_sumOf_X4_of
theorem dX4_sumOf_0 : decode cX4_sumOf 0 = .ok (.iconst 0, 1) := by decide +kernel
theorem dX4_sumOf_1 : decode cX4_sumOf 1 = .ok (.istore_n 2, 1) := by decide +kernel
theorem dX4_sumOf_2 : decode cX4_sumOf 2 = .ok (.iconst 0, 1) := by decide +kernel
theorem dX4_sumOf_3 : decode cX4_sumOf 3 = .ok (.istore_n 3, 1) := by decide +kernel
theorem dX4_sumOf_4 : decode cX4_sumOf 4 = .ok (.iload_n 3, 1) := by decide +kernel
theorem dX4_sumOf_5 : decode cX4_sumOf 5 = .ok (.aload_n 0, 1) := by decide +kernel
theorem dX4_sumOf_6 : decode cX4_sumOf 6 = .ok (.getfield 7, 3) := by decide +kernel
theorem dX4_sumOf_9 : decode cX4_sumOf 9 = .ok (.iconst 5, 1) := by decide +kernel
theorem dX4_sumOf_10 : decode cX4_sumOf 10 = .ok (.iaload, 1) := by decide +kernel
theorem dX4_sumOf_11 : decode cX4_sumOf 11 = .ok (.if_icmp .ge 18, 3) := by decide +kernel
theorem dX4_sumOf_14 : decode cX4_sumOf 14 = .ok (.iload_n 2, 1) := by decide +kernel
theorem dX4_sumOf_15 : decode cX4_sumOf 15 = .ok (.aload_n 0, 1) := by decide +kernel
theorem dX4_sumOf_16 : decode cX4_sumOf 16 = .ok (.iload_n 3, 1) := by decide +kernel
theorem dX4_sumOf_17 : decode cX4_sumOf 17 = .ok (.iload_n 1, 1) := by decide +kernel
theorem dX4_sumOf_18 : decode cX4_sumOf 18 = .ok (.invokevirtual 39, 3) := by decide +kernel
theorem dX4_sumOf_21 : decode cX4_sumOf 21 = .ok (.iadd, 1) := by decide +kernel
theorem dX4_sumOf_22 : decode cX4_sumOf 22 = .ok (.istore_n 2, 1) := by decide +kernel
theorem dX4_sumOf_23 : decode cX4_sumOf 23 = .ok (.iinc 3 1, 3) := by decide +kernel
theorem dX4_sumOf_26 : decode cX4_sumOf 26 = .ok (.goto (-22), 3) := by decide +kernel
theorem dX4_sumOf_29 : decode cX4_sumOf 29 = .ok (.iload_n 2, 1) := by decide +kernel
theorem dX4_sumOf_30 : decode cX4_sumOf 30 = .ok (.ireturn, 1) := by decide +kernel
set_option maxRecDepth 20000 in
theorem ggX4_brokenMany_X4_isWhole : GoodIn wsX4_brokenMany wsX4_isWhole := goodIn_r _ [6, 7, 8, 9, 5, 10, 1, 11, 12, 13, 14, 15, 16, 17, 18, 19, 20, 21, 22, 23, 24, 25, 26, 27, 28, 29, 30, 31] (by decide +kernel) (by decide +kernel)
set_option maxRecDepth 20000 in
theorem gX4_brokenMany_X4_isWhole : GoodIn wsX4_brokenMany (wsV RX4 71 RX4 yX4_isWhole wsX4_isWhole) := goodIn_app (goodIn_of _ (by decide +kernel)) ggX4_brokenMany_X4_isWhole
theorem dX4_brokenMany_0 : decode cX4_brokenMany 0 = .ok (.iconst 0, 1) := by decide +kernel
theorem dX4_brokenMany_1 : decode cX4_brokenMany 1 = .ok (.istore_n 1, 1) := by decide +kernel
theorem dX4_brokenMany_2 : decode cX4_brokenMany 2 = .ok (.iconst 0, 1) := by decide +kernel
theorem dX4_brokenMany_3 : decode cX4_brokenMany 3 = .ok (.istore_n 2, 1) := by decide +kernel
theorem dX4_brokenMany_4 : decode cX4_brokenMany 4 = .ok (.iload_n 2, 1) := by decide +kernel
theorem dX4_brokenMany_5 : decode cX4_brokenMany 5 = .ok (.aload_n 0, 1) := by decide +kernel
theorem dX4_brokenMany_6 : decode cX4_brokenMany 6 = .ok (.getfield 7, 3) := by decide +kernel
theorem dX4_brokenMany_9 : decode cX4_brokenMany 9 = .ok (.iconst 5, 1) := by decide +kernel
theorem dX4_brokenMany_10 : decode cX4_brokenMany 10 = .ok (.iaload, 1) := by decide +kernel
theorem dX4_brokenMany_11 : decode cX4_brokenMany 11 = .ok (.if_icmp .ge 25, 3) := by decide +kernel
theorem dX4_brokenMany_14 : decode cX4_brokenMany 14 = .ok (.iload_n 1, 1) := by decide +kernel
theorem dX4_brokenMany_15 : decode cX4_brokenMany 15 = .ok (.aload_n 0, 1) := by decide +kernel
theorem dX4_brokenMany_16 : decode cX4_brokenMany 16 = .ok (.iload_n 2, 1) := by decide +kernel
theorem dX4_brokenMany_17 : decode cX4_brokenMany 17 = .ok (.invokevirtual 71, 3) := by decide +kernel
theorem dX4_brokenMany_20 : decode cX4_brokenMany 20 = .ok (.ifCond .eq 7, 3) := by decide +kernel
theorem dX4_brokenMany_23 : decode cX4_brokenMany 23 = .ok (.iconst 0, 1) := by decide +kernel
theorem dX4_brokenMany_24 : decode cX4_brokenMany 24 = .ok (.goto 4, 3) := by decide +kernel
theorem dX4_brokenMany_27 : decode cX4_brokenMany 27 = .ok (.iconst 1, 1) := by decide +kernel
theorem dX4_brokenMany_28 : decode cX4_brokenMany 28 = .ok (.iadd, 1) := by decide +kernel
theorem dX4_brokenMany_29 : decode cX4_brokenMany 29 = .ok (.istore_n 1, 1) := by decide +kernel
theorem dX4_brokenMany_30 : decode cX4_brokenMany 30 = .ok (.iinc 2 1, 3) := by decide +kernel
theorem dX4_brokenMany_33 : decode cX4_brokenMany 33 = .ok (.goto (-29), 3) := by decide +kernel
theorem dX4_brokenMany_36 : decode cX4_brokenMany 36 = .ok (.iload_n 1, 1) := by decide +kernel
theorem dX4_brokenMany_37 : decode cX4_brokenMany 37 = .ok (.ireturn, 1) := by decide +kernel
set_option maxRecDepth 20000 in
theorem ggX4_deepest_X4_depth : GoodIn wsX4_deepest wsX4_depth := goodIn_r _ [6, 7, 8, 9, 5, 10, 1, 11, 12, 13, 14, 15, 16, 17, 18, 19, 20, 21, 22, 23] (by decide +kernel) (by decide +kernel)
set_option maxRecDepth 20000 in
theorem gX4_deepest_X4_depth : GoodIn wsX4_deepest (wsV RX4 157 RX4 yX4_depth wsX4_depth) := goodIn_app (goodIn_of _ (by decide +kernel)) ggX4_deepest_X4_depth
theorem dX4_deepest_0 : decode cX4_deepest 0 = .ok (.iconst 0, 1) := by decide +kernel
theorem dX4_deepest_1 : decode cX4_deepest 1 = .ok (.istore_n 1, 1) := by decide +kernel
theorem dX4_deepest_2 : decode cX4_deepest 2 = .ok (.iconst 0, 1) := by decide +kernel
theorem dX4_deepest_3 : decode cX4_deepest 3 = .ok (.istore_n 2, 1) := by decide +kernel
theorem dX4_deepest_4 : decode cX4_deepest 4 = .ok (.iload_n 2, 1) := by decide +kernel
theorem dX4_deepest_5 : decode cX4_deepest 5 = .ok (.aload_n 0, 1) := by decide +kernel
theorem dX4_deepest_6 : decode cX4_deepest 6 = .ok (.getfield 7, 3) := by decide +kernel
theorem dX4_deepest_9 : decode cX4_deepest 9 = .ok (.iconst 5, 1) := by decide +kernel
theorem dX4_deepest_10 : decode cX4_deepest 10 = .ok (.iaload, 1) := by decide +kernel
theorem dX4_deepest_11 : decode cX4_deepest 11 = .ok (.if_icmp .ge 28, 3) := by decide +kernel
theorem dX4_deepest_14 : decode cX4_deepest 14 = .ok (.aload_n 0, 1) := by decide +kernel
theorem dX4_deepest_15 : decode cX4_deepest 15 = .ok (.iload_n 2, 1) := by decide +kernel
theorem dX4_deepest_16 : decode cX4_deepest 16 = .ok (.invokevirtual 157, 3) := by decide +kernel
theorem dX4_deepest_19 : decode cX4_deepest 19 = .ok (.iload_n 1, 1) := by decide +kernel
theorem dX4_deepest_20 : decode cX4_deepest 20 = .ok (.if_icmp .le 11, 3) := by decide +kernel
theorem dX4_deepest_23 : decode cX4_deepest 23 = .ok (.aload_n 0, 1) := by decide +kernel
theorem dX4_deepest_24 : decode cX4_deepest 24 = .ok (.iload_n 2, 1) := by decide +kernel
theorem dX4_deepest_25 : decode cX4_deepest 25 = .ok (.invokevirtual 157, 3) := by decide +kernel
theorem dX4_deepest_28 : decode cX4_deepest 28 = .ok (.goto 4, 3) := by decide +kernel
theorem dX4_deepest_31 : decode cX4_deepest 31 = .ok (.iload_n 1, 1) := by decide +kernel
theorem dX4_deepest_32 : decode cX4_deepest 32 = .ok (.istore_n 1, 1) := by decide +kernel
theorem dX4_deepest_33 : decode cX4_deepest 33 = .ok (.iinc 2 1, 3) := by decide +kernel
theorem dX4_deepest_36 : decode cX4_deepest 36 = .ok (.goto (-32), 3) := by decide +kernel
theorem dX4_deepest_39 : decode cX4_deepest 39 = .ok (.iload_n 1, 1) := by decide +kernel
theorem dX4_deepest_40 : decode cX4_deepest 40 = .ok (.ireturn, 1) := by decide +kernel
set_option maxRecDepth 20000 in
theorem ggX4_ends_X4_vouchers : GoodIn wsX4_ends wsX4_vouchers := goodIn_r _ [6, 1, 7, 8, 9, 5, 10, 11, 12, 13, 14, 15, 16, 17, 18, 19, 20, 21, 22, 23] (by decide +kernel) (by decide +kernel)
set_option maxRecDepth 20000 in
theorem gX4_ends_X4_vouchers : GoodIn wsX4_ends (wsV RX4 154 RX4 yX4_vouchers wsX4_vouchers) := goodIn_app (goodIn_of _ (by decide +kernel)) ggX4_ends_X4_vouchers
theorem dX4_ends_0 : decode cX4_ends 0 = .ok (.iconst 0, 1) := by decide +kernel
theorem dX4_ends_1 : decode cX4_ends 1 = .ok (.istore_n 1, 1) := by decide +kernel
theorem dX4_ends_2 : decode cX4_ends 2 = .ok (.iconst 0, 1) := by decide +kernel
theorem dX4_ends_3 : decode cX4_ends 3 = .ok (.istore_n 2, 1) := by decide +kernel
theorem dX4_ends_4 : decode cX4_ends 4 = .ok (.iload_n 2, 1) := by decide +kernel
theorem dX4_ends_5 : decode cX4_ends 5 = .ok (.aload_n 0, 1) := by decide +kernel
theorem dX4_ends_6 : decode cX4_ends 6 = .ok (.getfield 7, 3) := by decide +kernel
theorem dX4_ends_9 : decode cX4_ends 9 = .ok (.iconst 5, 1) := by decide +kernel
theorem dX4_ends_10 : decode cX4_ends 10 = .ok (.iaload, 1) := by decide +kernel
theorem dX4_ends_11 : decode cX4_ends 11 = .ok (.if_icmp .ge 25, 3) := by decide +kernel
theorem dX4_ends_14 : decode cX4_ends 14 = .ok (.iload_n 1, 1) := by decide +kernel
theorem dX4_ends_15 : decode cX4_ends 15 = .ok (.aload_n 0, 1) := by decide +kernel
theorem dX4_ends_16 : decode cX4_ends 16 = .ok (.iload_n 2, 1) := by decide +kernel
theorem dX4_ends_17 : decode cX4_ends 17 = .ok (.invokevirtual 154, 3) := by decide +kernel
theorem dX4_ends_20 : decode cX4_ends 20 = .ok (.ifCond .ne 7, 3) := by decide +kernel
theorem dX4_ends_23 : decode cX4_ends 23 = .ok (.iconst 1, 1) := by decide +kernel
theorem dX4_ends_24 : decode cX4_ends 24 = .ok (.goto 4, 3) := by decide +kernel
theorem dX4_ends_27 : decode cX4_ends 27 = .ok (.iconst 0, 1) := by decide +kernel
theorem dX4_ends_28 : decode cX4_ends 28 = .ok (.iadd, 1) := by decide +kernel
theorem dX4_ends_29 : decode cX4_ends 29 = .ok (.istore_n 1, 1) := by decide +kernel
theorem dX4_ends_30 : decode cX4_ends 30 = .ok (.iinc 2 1, 3) := by decide +kernel
theorem dX4_ends_33 : decode cX4_ends 33 = .ok (.goto (-29), 3) := by decide +kernel
theorem dX4_ends_36 : decode cX4_ends 36 = .ok (.iload_n 1, 1) := by decide +kernel
theorem dX4_ends_37 : decode cX4_ends 37 = .ok (.ireturn, 1) := by decide +kernel
set_option maxRecDepth 20000 in
theorem ggX4_found_X4_of : GoodIn wsX4_found wsX4_of := goodIn_r _ [6, 1, 7, 8, 9, 10, 11, 12, 13, 14, 15, 16, 17, 18, 19] (by decide +kernel) (by decide +kernel)
set_option maxRecDepth 20000 in
theorem gX4_found_X4_of : GoodIn wsX4_found (wsV RX4 39 RX4 yX4_of wsX4_of) := goodIn_app (goodIn_of _ (by decide +kernel)) ggX4_found_X4_of
theorem dX4_found_0 : decode cX4_found 0 = .ok (.iconst 0, 1) := by decide +kernel
theorem dX4_found_1 : decode cX4_found 1 = .ok (.istore_n 1, 1) := by decide +kernel
theorem dX4_found_2 : decode cX4_found 2 = .ok (.iconst 0, 1) := by decide +kernel
theorem dX4_found_3 : decode cX4_found 3 = .ok (.istore_n 2, 1) := by decide +kernel
theorem dX4_found_4 : decode cX4_found 4 = .ok (.iload_n 2, 1) := by decide +kernel
theorem dX4_found_5 : decode cX4_found 5 = .ok (.aload_n 0, 1) := by decide +kernel
theorem dX4_found_6 : decode cX4_found 6 = .ok (.getfield 7, 3) := by decide +kernel
theorem dX4_found_9 : decode cX4_found 9 = .ok (.iconst 5, 1) := by decide +kernel
theorem dX4_found_10 : decode cX4_found 10 = .ok (.iaload, 1) := by decide +kernel
theorem dX4_found_11 : decode cX4_found 11 = .ok (.if_icmp .ge 32, 3) := by decide +kernel
theorem dX4_found_14 : decode cX4_found 14 = .ok (.iload_n 1, 1) := by decide +kernel
theorem dX4_found_15 : decode cX4_found 15 = .ok (.aload_n 0, 1) := by decide +kernel
theorem dX4_found_16 : decode cX4_found 16 = .ok (.iload_n 2, 1) := by decide +kernel
theorem dX4_found_17 : decode cX4_found 17 = .ok (.iconst 4, 1) := by decide +kernel
theorem dX4_found_18 : decode cX4_found 18 = .ok (.invokevirtual 39, 3) := by decide +kernel
theorem dX4_found_21 : decode cX4_found 21 = .ok (.iconst 1, 1) := by decide +kernel
theorem dX4_found_22 : decode cX4_found 22 = .ok (.if_icmp .ne 12, 3) := by decide +kernel
theorem dX4_found_25 : decode cX4_found 25 = .ok (.aload_n 0, 1) := by decide +kernel
theorem dX4_found_26 : decode cX4_found 26 = .ok (.iload_n 2, 1) := by decide +kernel
theorem dX4_found_27 : decode cX4_found 27 = .ok (.iconst 1, 1) := by decide +kernel
theorem dX4_found_28 : decode cX4_found 28 = .ok (.invokevirtual 39, 3) := by decide +kernel
theorem dX4_found_31 : decode cX4_found 31 = .ok (.goto 4, 3) := by decide +kernel
theorem dX4_found_34 : decode cX4_found 34 = .ok (.iconst 0, 1) := by decide +kernel
theorem dX4_found_35 : decode cX4_found 35 = .ok (.iadd, 1) := by decide +kernel
theorem dX4_found_36 : decode cX4_found 36 = .ok (.istore_n 1, 1) := by decide +kernel
theorem dX4_found_37 : decode cX4_found 37 = .ok (.iinc 2 1, 3) := by decide +kernel
theorem dX4_found_40 : decode cX4_found 40 = .ok (.goto (-36), 3) := by decide +kernel
theorem dX4_found_43 : decode cX4_found 43 = .ok (.iload_n 1, 1) := by decide +kernel
theorem dX4_found_44 : decode cX4_found 44 = .ok (.ireturn, 1) := by decide +kernel
set_option maxRecDepth 20000 in
theorem ggX4_tellsTotal_X4_sumOf : GoodIn wsX4_tellsTotal wsX4_sumOf := goodIn_r _ [8, 1, 9, 10, 11, 7, 12, 49, 50, 51, 52, 53, 54, 55, 56, 57, 58, 59, 60, 61] (by decide +kernel) (by decide +kernel)
set_option maxRecDepth 20000 in
theorem gX4_tellsTotal_X4_sumOf : GoodIn wsX4_tellsTotal (wsV RX4 166 RX4 yX4_sumOf wsX4_sumOf) := goodIn_app (goodIn_of _ (by decide +kernel)) ggX4_tellsTotal_X4_sumOf
set_option maxRecDepth 20000 in
theorem ggX4_tellsTotal_X4_brokenMany : GoodIn wsX4_tellsTotal wsX4_brokenMany := goodIn_r _ [16, 1, 17, 18, 19, 7, 20, 9, 10, 11, 12, 21, 22, 23, 24, 25, 26, 27, 28, 49, 50, 51, 52, 53, 54, 55, 56, 57, 58, 59, 60, 61] (by decide +kernel) (by decide +kernel)
set_option maxRecDepth 20000 in
theorem gX4_tellsTotal_X4_brokenMany : GoodIn wsX4_tellsTotal (wsV RX4 169 RX4 yX4_brokenMany wsX4_brokenMany) := goodIn_app (goodIn_of _ (by decide +kernel)) ggX4_tellsTotal_X4_brokenMany
set_option maxRecDepth 20000 in
theorem ggX4_tellsTotal_X4_deepest : GoodIn wsX4_tellsTotal wsX4_deepest := goodIn_r _ [32, 1, 33, 34, 35, 7, 36, 9, 10, 11, 12, 49, 50, 51, 52, 53, 54, 55, 56, 57, 58, 59, 60, 61] (by decide +kernel) (by decide +kernel)
set_option maxRecDepth 20000 in
theorem gX4_tellsTotal_X4_deepest : GoodIn wsX4_tellsTotal (wsV RX4 172 RX4 yX4_deepest wsX4_deepest) := goodIn_app (goodIn_of _ (by decide +kernel)) ggX4_tellsTotal_X4_deepest
set_option maxRecDepth 20000 in
theorem ggX4_tellsTotal_X4_ends : GoodIn wsX4_tellsTotal wsX4_ends := goodIn_r _ [40, 1, 41, 42, 43, 7, 44, 9, 10, 11, 12, 49, 50, 51, 52, 53, 54, 55, 56, 57, 58, 59, 60, 61] (by decide +kernel) (by decide +kernel)
set_option maxRecDepth 20000 in
theorem gX4_tellsTotal_X4_ends : GoodIn wsX4_tellsTotal (wsV RX4 175 RX4 yX4_ends wsX4_ends) := goodIn_app (goodIn_of _ (by decide +kernel)) ggX4_tellsTotal_X4_ends
set_option maxRecDepth 20000 in
theorem ggX4_tellsTotal_X4_found : GoodIn wsX4_tellsTotal wsX4_found := goodIn_r _ [48, 1, 9, 10, 11, 7, 12, 49, 50, 51, 52, 53, 54, 55, 56, 57, 58, 59, 60, 61] (by decide +kernel) (by decide +kernel)
set_option maxRecDepth 20000 in
theorem gX4_tellsTotal_X4_found : GoodIn wsX4_tellsTotal (wsV RX4 178 RX4 yX4_found wsX4_found) := goodIn_app (goodIn_of _ (by decide +kernel)) ggX4_tellsTotal_X4_found
theorem dX4_tellsTotal_0 : decode cX4_tellsTotal 0 = .ok (.iload_n 1, 1) := by decide +kernel
theorem dX4_tellsTotal_1 : decode cX4_tellsTotal 1 = .ok (.tableswitch 123 6 16 #[59, 65, 71, 78, 83, 91, 98, 103, 108, 113, 118], 59) := by decide +kernel
theorem dX4_tellsTotal_60 : decode cX4_tellsTotal 60 = .ok (.aload_n 0, 1) := by decide +kernel
theorem dX4_tellsTotal_61 : decode cX4_tellsTotal 61 = .ok (.iconst 4, 1) := by decide +kernel
theorem dX4_tellsTotal_62 : decode cX4_tellsTotal 62 = .ok (.invokevirtual 166, 3) := by decide +kernel
theorem dX4_tellsTotal_65 : decode cX4_tellsTotal 65 = .ok (.ireturn, 1) := by decide +kernel
theorem dX4_tellsTotal_66 : decode cX4_tellsTotal 66 = .ok (.aload_n 0, 1) := by decide +kernel
theorem dX4_tellsTotal_67 : decode cX4_tellsTotal 67 = .ok (.iconst 5, 1) := by decide +kernel
theorem dX4_tellsTotal_68 : decode cX4_tellsTotal 68 = .ok (.invokevirtual 166, 3) := by decide +kernel
theorem dX4_tellsTotal_71 : decode cX4_tellsTotal 71 = .ok (.ireturn, 1) := by decide +kernel
theorem dX4_tellsTotal_72 : decode cX4_tellsTotal 72 = .ok (.aload_n 0, 1) := by decide +kernel
theorem dX4_tellsTotal_73 : decode cX4_tellsTotal 73 = .ok (.bipush 6, 2) := by decide +kernel
theorem dX4_tellsTotal_75 : decode cX4_tellsTotal 75 = .ok (.invokevirtual 166, 3) := by decide +kernel
theorem dX4_tellsTotal_78 : decode cX4_tellsTotal 78 = .ok (.ireturn, 1) := by decide +kernel
theorem dX4_tellsTotal_79 : decode cX4_tellsTotal 79 = .ok (.aload_n 0, 1) := by decide +kernel
theorem dX4_tellsTotal_80 : decode cX4_tellsTotal 80 = .ok (.invokevirtual 169, 3) := by decide +kernel
theorem dX4_tellsTotal_83 : decode cX4_tellsTotal 83 = .ok (.ireturn, 1) := by decide +kernel
theorem dX4_tellsTotal_84 : decode cX4_tellsTotal 84 = .ok (.aload_n 0, 1) := by decide +kernel
theorem dX4_tellsTotal_85 : decode cX4_tellsTotal 85 = .ok (.getfield 7, 3) := by decide +kernel
theorem dX4_tellsTotal_88 : decode cX4_tellsTotal 88 = .ok (.bipush 6, 2) := by decide +kernel
theorem dX4_tellsTotal_90 : decode cX4_tellsTotal 90 = .ok (.iaload, 1) := by decide +kernel
theorem dX4_tellsTotal_91 : decode cX4_tellsTotal 91 = .ok (.ireturn, 1) := by decide +kernel
theorem dX4_tellsTotal_92 : decode cX4_tellsTotal 92 = .ok (.aload_n 0, 1) := by decide +kernel
theorem dX4_tellsTotal_93 : decode cX4_tellsTotal 93 = .ok (.bipush 7, 2) := by decide +kernel
theorem dX4_tellsTotal_95 : decode cX4_tellsTotal 95 = .ok (.invokevirtual 166, 3) := by decide +kernel
theorem dX4_tellsTotal_98 : decode cX4_tellsTotal 98 = .ok (.ireturn, 1) := by decide +kernel
theorem dX4_tellsTotal_99 : decode cX4_tellsTotal 99 = .ok (.aload_n 0, 1) := by decide +kernel
theorem dX4_tellsTotal_100 : decode cX4_tellsTotal 100 = .ok (.invokevirtual 172, 3) := by decide +kernel
theorem dX4_tellsTotal_103 : decode cX4_tellsTotal 103 = .ok (.ireturn, 1) := by decide +kernel
theorem dX4_tellsTotal_104 : decode cX4_tellsTotal 104 = .ok (.aload_n 0, 1) := by decide +kernel
theorem dX4_tellsTotal_105 : decode cX4_tellsTotal 105 = .ok (.invokevirtual 175, 3) := by decide +kernel
theorem dX4_tellsTotal_108 : decode cX4_tellsTotal 108 = .ok (.ireturn, 1) := by decide +kernel
theorem dX4_tellsTotal_109 : decode cX4_tellsTotal 109 = .ok (.aload_n 0, 1) := by decide +kernel
theorem dX4_tellsTotal_110 : decode cX4_tellsTotal 110 = .ok (.invokevirtual 178, 3) := by decide +kernel
theorem dX4_tellsTotal_113 : decode cX4_tellsTotal 113 = .ok (.ireturn, 1) := by decide +kernel
theorem dX4_tellsTotal_114 : decode cX4_tellsTotal 114 = .ok (.aload_n 0, 1) := by decide +kernel
theorem dX4_tellsTotal_115 : decode cX4_tellsTotal 115 = .ok (.getfield 36, 3) := by decide +kernel
theorem dX4_tellsTotal_118 : decode cX4_tellsTotal 118 = .ok (.ireturn, 1) := by decide +kernel
theorem dX4_tellsTotal_119 : decode cX4_tellsTotal 119 = .ok (.aload_n 0, 1) := by decide +kernel
theorem dX4_tellsTotal_120 : decode cX4_tellsTotal 120 = .ok (.getfield 103, 3) := by decide +kernel
theorem dX4_tellsTotal_123 : decode cX4_tellsTotal 123 = .ok (.ireturn, 1) := by decide +kernel
theorem dX4_tellsTotal_124 : decode cX4_tellsTotal 124 = .ok (.aload_n 0, 1) := by decide +kernel
theorem dX4_tellsTotal_125 : decode cX4_tellsTotal 125 = .ok (.getfield 7, 3) := by decide +kernel
theorem dX4_tellsTotal_128 : decode cX4_tellsTotal 128 = .ok (.iload_n 1, 1) := by decide +kernel
theorem dX4_tellsTotal_129 : decode cX4_tellsTotal 129 = .ok (.iaload, 1) := by decide +kernel
theorem dX4_tellsTotal_130 : decode cX4_tellsTotal 130 = .ok (.ireturn, 1) := by decide +kernel
set_option maxRecDepth 20000 in
theorem ggX4_total_X4_in : GoodIn wsX4_total wsX4_in := goodIn_r _ [5] (by decide +kernel) (by decide +kernel)
set_option maxRecDepth 20000 in
theorem gX4_total_X4_in : GoodIn wsX4_total (va_wsS RX4 32 yX4_in wsX4_in) := goodIn_app (goodIn_of _ (by decide +kernel)) ggX4_total_X4_in
set_option maxRecDepth 20000 in
theorem ggX4_total_X4_tellsTotal : GoodIn wsX4_total wsX4_tellsTotal := goodIn_r _ [9, 10, 11, 12, 13, 14, 15, 4, 16, 17, 18, 19, 20, 21, 22, 23, 24, 25, 26, 27, 28, 29, 30, 31, 32, 33, 34, 35, 36, 37, 38, 39, 40, 41, 42, 43, 44, 45, 46, 47, 48, 49, 50, 51, 52, 53, 54, 55, 56, 57, 58, 59, 60, 61, 62, 63, 64, 65, 66, 67, 68, 69] (by decide +kernel) (by decide +kernel)
set_option maxRecDepth 20000 in
theorem gX4_total_X4_tellsTotal : GoodIn wsX4_total (wsV RX4 181 RX4 yX4_tellsTotal wsX4_tellsTotal) := goodIn_app (goodIn_of _ (by decide +kernel)) ggX4_total_X4_tellsTotal
theorem dX4_total_0 : decode cX4_total 0 = .ok (.aload_n 0, 1) := by decide +kernel
theorem dX4_total_1 : decode cX4_total 1 = .ok (.iconst 0, 1) := by decide +kernel
theorem dX4_total_2 : decode cX4_total 2 = .ok (.putfield 28, 3) := by decide +kernel
theorem dX4_total_5 : decode cX4_total 5 = .ok (.iload_n 1, 1) := by decide +kernel
theorem dX4_total_6 : decode cX4_total 6 = .ok (.iconst 0, 1) := by decide +kernel
theorem dX4_total_7 : decode cX4_total 7 = .ok (.bipush 16, 2) := by decide +kernel
theorem dX4_total_9 : decode cX4_total 9 = .ok (.invokestatic 32, 3) := by decide +kernel
theorem dX4_total_12 : decode cX4_total 12 = .ok (.ifCond .eq 11, 3) := by decide +kernel
theorem dX4_total_15 : decode cX4_total 15 = .ok (.aload_n 0, 1) := by decide +kernel
theorem dX4_total_16 : decode cX4_total 16 = .ok (.iload_n 1, 1) := by decide +kernel
theorem dX4_total_17 : decode cX4_total 17 = .ok (.invokevirtual 181, 3) := by decide +kernel
theorem dX4_total_20 : decode cX4_total 20 = .ok (.goto 5, 3) := by decide +kernel
theorem dX4_total_23 : decode cX4_total 23 = .ok (.bipush (-2), 2) := by decide +kernel
theorem dX4_total_25 : decode cX4_total 25 = .ok (.ireturn, 1) := by decide +kernel
set_option maxRecDepth 20000 in
theorem ggX4_wouldClear_X4_putAside : GoodIn wsX4_wouldClear wsX4_putAside := goodIn_r _ [5, 6, 7, 36, 37, 38, 39, 40, 41, 42, 43, 44, 45, 46, 47, 48] (by decide +kernel) (by decide +kernel)
set_option maxRecDepth 20000 in
theorem gX4_wouldClear_X4_putAside : GoodIn wsX4_wouldClear (wsV RX4 135 RX4 yX4_putAside wsX4_putAside) := goodIn_app (goodIn_of _ (by decide +kernel)) ggX4_wouldClear_X4_putAside
set_option maxRecDepth 20000 in
theorem ggX4_wouldClear_X4_clears : GoodIn wsX4_wouldClear wsX4_clears := goodIn_r _ [11, 12, 13, 14, 4, 15, 7, 16, 17, 18, 19, 20, 21, 22, 23, 24, 25, 26, 27, 28, 29, 30, 31, 36, 37, 38, 39, 40, 41, 42, 43, 44, 45, 46, 47, 48] (by decide +kernel) (by decide +kernel)
set_option maxRecDepth 20000 in
theorem gX4_wouldClear_X4_clears : GoodIn wsX4_wouldClear (wsV RX4 81 RX4 yX4_clears wsX4_clears) := goodIn_app (goodIn_of _ (by decide +kernel)) ggX4_wouldClear_X4_clears
set_option maxRecDepth 20000 in
theorem ggX4_wouldClear_X4_takeBack : GoodIn wsX4_wouldClear wsX4_takeBack := goodIn_r _ [35, 7, 6, 36, 37, 38, 39, 40, 41, 42, 43, 44, 45, 46, 47, 48] (by decide +kernel) (by decide +kernel)
set_option maxRecDepth 20000 in
theorem gX4_wouldClear_X4_takeBack : GoodIn wsX4_wouldClear (wsV RX4 144 RX4 yX4_takeBack wsX4_takeBack) := goodIn_app (goodIn_of _ (by decide +kernel)) ggX4_wouldClear_X4_takeBack
theorem dX4_wouldClear_0 : decode cX4_wouldClear 0 = .ok (.aload_n 0, 1) := by decide +kernel
theorem dX4_wouldClear_1 : decode cX4_wouldClear 1 = .ok (.invokevirtual 135, 3) := by decide +kernel
theorem dX4_wouldClear_4 : decode cX4_wouldClear 4 = .ok (.aload_n 0, 1) := by decide +kernel
theorem dX4_wouldClear_5 : decode cX4_wouldClear 5 = .ok (.iload_n 1, 1) := by decide +kernel
theorem dX4_wouldClear_6 : decode cX4_wouldClear 6 = .ok (.invokevirtual 81, 3) := by decide +kernel
theorem dX4_wouldClear_9 : decode cX4_wouldClear 9 = .ok (.istore_n 2, 1) := by decide +kernel
theorem dX4_wouldClear_10 : decode cX4_wouldClear 10 = .ok (.aload_n 0, 1) := by decide +kernel
theorem dX4_wouldClear_11 : decode cX4_wouldClear 11 = .ok (.invokevirtual 144, 3) := by decide +kernel
theorem dX4_wouldClear_14 : decode cX4_wouldClear 14 = .ok (.iload_n 2, 1) := by decide +kernel
theorem dX4_wouldClear_15 : decode cX4_wouldClear 15 = .ok (.ireturn, 1) := by decide +kernel
set_option maxRecDepth 20000 in
theorem ggX4_finesOfOthers_X4_of : GoodIn wsX4_finesOfOthers wsX4_of := goodIn_r _ [6, 1, 19, 20, 21, 22, 23, 24, 25, 26, 27, 28, 29, 30, 31] (by decide +kernel) (by decide +kernel)
set_option maxRecDepth 20000 in
theorem gX4_finesOfOthers_X4_of : GoodIn wsX4_finesOfOthers (wsV RX4 39 RX4 yX4_of wsX4_of) := goodIn_app (goodIn_of _ (by decide +kernel)) ggX4_finesOfOthers_X4_of
set_option maxRecDepth 20000 in
theorem ggX4_finesOfOthers_X4_isWhole : GoodIn wsX4_finesOfOthers wsX4_isWhole := goodIn_r _ [10, 2, 3, 4, 5, 6, 1, 11, 12, 13, 14, 15, 16, 17, 18, 19, 20, 21, 22, 23, 24, 25, 26, 27, 28, 29, 30, 31] (by decide +kernel) (by decide +kernel)
set_option maxRecDepth 20000 in
theorem gX4_finesOfOthers_X4_isWhole : GoodIn wsX4_finesOfOthers (wsV RX4 71 RX4 yX4_isWhole wsX4_isWhole) := goodIn_app (goodIn_of _ (by decide +kernel)) ggX4_finesOfOthers_X4_isWhole
theorem dX4_finesOfOthers_0 : decode cX4_finesOfOthers 0 = .ok (.iconst 0, 1) := by decide +kernel
theorem dX4_finesOfOthers_1 : decode cX4_finesOfOthers 1 = .ok (.istore_n 2, 1) := by decide +kernel
theorem dX4_finesOfOthers_2 : decode cX4_finesOfOthers 2 = .ok (.iconst 0, 1) := by decide +kernel
theorem dX4_finesOfOthers_3 : decode cX4_finesOfOthers 3 = .ok (.istore_n 3, 1) := by decide +kernel
theorem dX4_finesOfOthers_4 : decode cX4_finesOfOthers 4 = .ok (.iload_n 3, 1) := by decide +kernel
theorem dX4_finesOfOthers_5 : decode cX4_finesOfOthers 5 = .ok (.aload_n 0, 1) := by decide +kernel
theorem dX4_finesOfOthers_6 : decode cX4_finesOfOthers 6 = .ok (.getfield 7, 3) := by decide +kernel
theorem dX4_finesOfOthers_9 : decode cX4_finesOfOthers 9 = .ok (.iconst 5, 1) := by decide +kernel
theorem dX4_finesOfOthers_10 : decode cX4_finesOfOthers 10 = .ok (.iaload, 1) := by decide +kernel
theorem dX4_finesOfOthers_11 : decode cX4_finesOfOthers 11 = .ok (.if_icmp .ge 40, 3) := by decide +kernel
theorem dX4_finesOfOthers_14 : decode cX4_finesOfOthers 14 = .ok (.iload_n 2, 1) := by decide +kernel
theorem dX4_finesOfOthers_15 : decode cX4_finesOfOthers 15 = .ok (.aload_n 0, 1) := by decide +kernel
theorem dX4_finesOfOthers_16 : decode cX4_finesOfOthers 16 = .ok (.iload_n 3, 1) := by decide +kernel
theorem dX4_finesOfOthers_17 : decode cX4_finesOfOthers 17 = .ok (.iconst 2, 1) := by decide +kernel
theorem dX4_finesOfOthers_18 : decode cX4_finesOfOthers 18 = .ok (.invokevirtual 39, 3) := by decide +kernel
theorem dX4_finesOfOthers_21 : decode cX4_finesOfOthers 21 = .ok (.iload_n 1, 1) := by decide +kernel
theorem dX4_finesOfOthers_22 : decode cX4_finesOfOthers 22 = .ok (.if_icmp .ne 20, 3) := by decide +kernel
theorem dX4_finesOfOthers_25 : decode cX4_finesOfOthers 25 = .ok (.aload_n 0, 1) := by decide +kernel
theorem dX4_finesOfOthers_26 : decode cX4_finesOfOthers 26 = .ok (.iload_n 3, 1) := by decide +kernel
theorem dX4_finesOfOthers_27 : decode cX4_finesOfOthers 27 = .ok (.invokevirtual 71, 3) := by decide +kernel
theorem dX4_finesOfOthers_30 : decode cX4_finesOfOthers 30 = .ok (.ifCond .eq 12, 3) := by decide +kernel
theorem dX4_finesOfOthers_33 : decode cX4_finesOfOthers 33 = .ok (.aload_n 0, 1) := by decide +kernel
theorem dX4_finesOfOthers_34 : decode cX4_finesOfOthers 34 = .ok (.getfield 7, 3) := by decide +kernel
theorem dX4_finesOfOthers_37 : decode cX4_finesOfOthers 37 = .ok (.iconst 4, 1) := by decide +kernel
theorem dX4_finesOfOthers_38 : decode cX4_finesOfOthers 38 = .ok (.iaload, 1) := by decide +kernel
theorem dX4_finesOfOthers_39 : decode cX4_finesOfOthers 39 = .ok (.goto 4, 3) := by decide +kernel
theorem dX4_finesOfOthers_42 : decode cX4_finesOfOthers 42 = .ok (.iconst 0, 1) := by decide +kernel
theorem dX4_finesOfOthers_43 : decode cX4_finesOfOthers 43 = .ok (.iadd, 1) := by decide +kernel
theorem dX4_finesOfOthers_44 : decode cX4_finesOfOthers 44 = .ok (.istore_n 2, 1) := by decide +kernel
theorem dX4_finesOfOthers_45 : decode cX4_finesOfOthers 45 = .ok (.iinc 3 1, 3) := by decide +kernel
theorem dX4_finesOfOthers_48 : decode cX4_finesOfOthers 48 = .ok (.goto (-44), 3) := by decide +kernel
theorem dX4_finesOfOthers_51 : decode cX4_finesOfOthers 51 = .ok (.iload_n 2, 1) := by decide +kernel
theorem dX4_finesOfOthers_52 : decode cX4_finesOfOthers 52 = .ok (.ireturn, 1) := by decide +kernel
set_option maxRecDepth 20000 in
theorem ggX4_ifOpened_X4_isCart : GoodIn wsX4_ifOpened wsX4_isCart := goodIn_r _ [6, 7, 8, 9, 5, 10, 56, 57, 58, 59, 60, 61, 62, 63, 64, 65, 66, 67, 68] (by decide +kernel) (by decide +kernel)
set_option maxRecDepth 20000 in
theorem gX4_ifOpened_X4_isCart : GoodIn wsX4_ifOpened (wsV RX4 50 RX4 yX4_isCart wsX4_isCart) := goodIn_app (goodIn_of _ (by decide +kernel)) ggX4_ifOpened_X4_isCart
set_option maxRecDepth 20000 in
theorem ggX4_ifOpened_X4_in : GoodIn wsX4_ifOpened wsX4_in := goodIn_r _ [10] (by decide +kernel) (by decide +kernel)
set_option maxRecDepth 20000 in
theorem gX4_ifOpened_X4_in : GoodIn wsX4_ifOpened (va_wsS RX4 32 yX4_in wsX4_in) := goodIn_app (goodIn_of _ (by decide +kernel)) ggX4_ifOpened_X4_in
set_option maxRecDepth 20000 in
theorem ggX4_ifOpened_X4_of : GoodIn wsX4_ifOpened wsX4_of := goodIn_r _ [14, 7, 56, 57, 58, 59, 60, 61, 62, 63, 64, 65, 66, 67, 68] (by decide +kernel) (by decide +kernel)
set_option maxRecDepth 20000 in
theorem gX4_ifOpened_X4_of : GoodIn wsX4_ifOpened (wsV RX4 39 RX4 yX4_of wsX4_of) := goodIn_app (goodIn_of _ (by decide +kernel)) ggX4_ifOpened_X4_of
set_option maxRecDepth 20000 in
theorem ggX4_ifOpened_X4_isWhole : GoodIn wsX4_ifOpened wsX4_isWhole := goodIn_r _ [18, 11, 12, 13, 5, 14, 7, 19, 20, 21, 22, 23, 24, 25, 26, 56, 57, 58, 59, 60, 61, 62, 63, 64, 65, 66, 67, 68] (by decide +kernel) (by decide +kernel)
set_option maxRecDepth 20000 in
theorem gX4_ifOpened_X4_isWhole : GoodIn wsX4_ifOpened (wsV RX4 71 RX4 yX4_isWhole wsX4_isWhole) := goodIn_app (goodIn_of _ (by decide +kernel)) ggX4_ifOpened_X4_isWhole
set_option maxRecDepth 20000 in
theorem ggX4_ifOpened_X4_fineOfLie : GoodIn wsX4_ifOpened wsX4_fineOfLie := goodIn_r _ [30, 7, 11, 12, 13, 5, 14, 56, 57, 58, 59, 60, 61, 62, 63, 64, 65, 66, 67, 68] (by decide +kernel) (by decide +kernel)
set_option maxRecDepth 20000 in
theorem gX4_ifOpened_X4_fineOfLie : GoodIn wsX4_ifOpened (wsV RX4 84 RX4 yX4_fineOfLie wsX4_fineOfLie) := goodIn_app (goodIn_of _ (by decide +kernel)) ggX4_ifOpened_X4_fineOfLie
set_option maxRecDepth 20000 in
theorem ggX4_ifOpened_X4_wouldClear : GoodIn wsX4_ifOpened wsX4_wouldClear := goodIn_r _ [34, 35, 36, 37, 5, 38, 39, 7, 40, 41, 42, 43, 11, 12, 13, 14, 44, 45, 46, 47, 15, 16, 17, 18, 19, 20, 21, 22, 23, 24, 25, 26, 48, 49, 50, 51, 56, 57, 58, 59, 60, 61, 62, 63, 64, 65, 66, 67, 68] (by decide +kernel) (by decide +kernel)
set_option maxRecDepth 20000 in
theorem gX4_ifOpened_X4_wouldClear : GoodIn wsX4_ifOpened (wsV RX4 184 RX4 yX4_wouldClear wsX4_wouldClear) := goodIn_app (goodIn_of _ (by decide +kernel)) ggX4_ifOpened_X4_wouldClear
set_option maxRecDepth 20000 in
theorem ggX4_ifOpened_X4_finesOfOthers : GoodIn wsX4_ifOpened wsX4_finesOfOthers := goodIn_r _ [55, 7, 11, 12, 13, 5, 14, 15, 16, 17, 18, 19, 20, 21, 22, 23, 24, 25, 26, 56, 57, 58, 59, 60, 61, 62, 63, 64, 65, 66, 67, 68] (by decide +kernel) (by decide +kernel)
set_option maxRecDepth 20000 in
theorem gX4_ifOpened_X4_finesOfOthers : GoodIn wsX4_ifOpened (wsV RX4 187 RX4 yX4_finesOfOthers wsX4_finesOfOthers) := goodIn_app (goodIn_of _ (by decide +kernel)) ggX4_ifOpened_X4_finesOfOthers
theorem dX4_ifOpened_0 : decode cX4_ifOpened 0 = .ok (.aload_n 0, 1) := by decide +kernel
theorem dX4_ifOpened_1 : decode cX4_ifOpened 1 = .ok (.iconst 0, 1) := by decide +kernel
theorem dX4_ifOpened_2 : decode cX4_ifOpened 2 = .ok (.putfield 28, 3) := by decide +kernel
theorem dX4_ifOpened_5 : decode cX4_ifOpened 5 = .ok (.aload_n 0, 1) := by decide +kernel
theorem dX4_ifOpened_6 : decode cX4_ifOpened 6 = .ok (.iload_n 1, 1) := by decide +kernel
theorem dX4_ifOpened_7 : decode cX4_ifOpened 7 = .ok (.invokevirtual 50, 3) := by decide +kernel
theorem dX4_ifOpened_10 : decode cX4_ifOpened 10 = .ok (.ifCond .ne 5, 3) := by decide +kernel
theorem dX4_ifOpened_13 : decode cX4_ifOpened 13 = .ok (.iconst (-1), 1) := by decide +kernel
theorem dX4_ifOpened_14 : decode cX4_ifOpened 14 = .ok (.ireturn, 1) := by decide +kernel
theorem dX4_ifOpened_15 : decode cX4_ifOpened 15 = .ok (.iload_n 2, 1) := by decide +kernel
theorem dX4_ifOpened_16 : decode cX4_ifOpened 16 = .ok (.iconst 0, 1) := by decide +kernel
theorem dX4_ifOpened_17 : decode cX4_ifOpened 17 = .ok (.iconst 2, 1) := by decide +kernel
theorem dX4_ifOpened_18 : decode cX4_ifOpened 18 = .ok (.invokestatic 32, 3) := by decide +kernel
theorem dX4_ifOpened_21 : decode cX4_ifOpened 21 = .ok (.ifCond .ne 6, 3) := by decide +kernel
theorem dX4_ifOpened_24 : decode cX4_ifOpened 24 = .ok (.bipush (-2), 2) := by decide +kernel
theorem dX4_ifOpened_26 : decode cX4_ifOpened 26 = .ok (.ireturn, 1) := by decide +kernel
theorem dX4_ifOpened_27 : decode cX4_ifOpened 27 = .ok (.aload_n 0, 1) := by decide +kernel
theorem dX4_ifOpened_28 : decode cX4_ifOpened 28 = .ok (.iload_n 1, 1) := by decide +kernel
theorem dX4_ifOpened_29 : decode cX4_ifOpened 29 = .ok (.iconst 4, 1) := by decide +kernel
theorem dX4_ifOpened_30 : decode cX4_ifOpened 30 = .ok (.invokevirtual 39, 3) := by decide +kernel
theorem dX4_ifOpened_33 : decode cX4_ifOpened 33 = .ok (.iconst 1, 1) := by decide +kernel
theorem dX4_ifOpened_34 : decode cX4_ifOpened 34 = .ok (.if_icmp .ne 6, 3) := by decide +kernel
theorem dX4_ifOpened_37 : decode cX4_ifOpened 37 = .ok (.bipush (-4), 2) := by decide +kernel
theorem dX4_ifOpened_39 : decode cX4_ifOpened 39 = .ok (.ireturn, 1) := by decide +kernel
theorem dX4_ifOpened_40 : decode cX4_ifOpened 40 = .ok (.aload_n 0, 1) := by decide +kernel
theorem dX4_ifOpened_41 : decode cX4_ifOpened 41 = .ok (.iload_n 1, 1) := by decide +kernel
theorem dX4_ifOpened_42 : decode cX4_ifOpened 42 = .ok (.iconst 0, 1) := by decide +kernel
theorem dX4_ifOpened_43 : decode cX4_ifOpened 43 = .ok (.invokevirtual 39, 3) := by decide +kernel
theorem dX4_ifOpened_46 : decode cX4_ifOpened 46 = .ok (.ifCond .le 7, 3) := by decide +kernel
theorem dX4_ifOpened_49 : decode cX4_ifOpened 49 = .ok (.iconst 1, 1) := by decide +kernel
theorem dX4_ifOpened_50 : decode cX4_ifOpened 50 = .ok (.goto 4, 3) := by decide +kernel
theorem dX4_ifOpened_53 : decode cX4_ifOpened 53 = .ok (.iconst 0, 1) := by decide +kernel
theorem dX4_ifOpened_54 : decode cX4_ifOpened 54 = .ok (.istore_n 3, 1) := by decide +kernel
theorem dX4_ifOpened_55 : decode cX4_ifOpened 55 = .ok (.iload_n 2, 1) := by decide +kernel
theorem dX4_ifOpened_56 : decode cX4_ifOpened 56 = .ok (.iconst 1, 1) := by decide +kernel
theorem dX4_ifOpened_57 : decode cX4_ifOpened 57 = .ok (.if_icmp .ne 32, 3) := by decide +kernel
theorem dX4_ifOpened_60 : decode cX4_ifOpened 60 = .ok (.aload_n 0, 1) := by decide +kernel
theorem dX4_ifOpened_61 : decode cX4_ifOpened 61 = .ok (.iload_n 1, 1) := by decide +kernel
theorem dX4_ifOpened_62 : decode cX4_ifOpened 62 = .ok (.invokevirtual 71, 3) := by decide +kernel
theorem dX4_ifOpened_65 : decode cX4_ifOpened 65 = .ok (.ifCond .eq 7, 3) := by decide +kernel
theorem dX4_ifOpened_68 : decode cX4_ifOpened 68 = .ok (.iconst 0, 1) := by decide +kernel
theorem dX4_ifOpened_69 : decode cX4_ifOpened 69 = .ok (.goto 4, 3) := by decide +kernel
theorem dX4_ifOpened_72 : decode cX4_ifOpened 72 = .ok (.iconst 3, 1) := by decide +kernel
theorem dX4_ifOpened_73 : decode cX4_ifOpened 73 = .ok (.iload_n 3, 1) := by decide +kernel
theorem dX4_ifOpened_74 : decode cX4_ifOpened 74 = .ok (.ifCond .eq 12, 3) := by decide +kernel
theorem dX4_ifOpened_77 : decode cX4_ifOpened 77 = .ok (.aload_n 0, 1) := by decide +kernel
theorem dX4_ifOpened_78 : decode cX4_ifOpened 78 = .ok (.iload_n 1, 1) := by decide +kernel
theorem dX4_ifOpened_79 : decode cX4_ifOpened 79 = .ok (.iconst 0, 1) := by decide +kernel
theorem dX4_ifOpened_80 : decode cX4_ifOpened 80 = .ok (.invokevirtual 84, 3) := by decide +kernel
theorem dX4_ifOpened_83 : decode cX4_ifOpened 83 = .ok (.goto 4, 3) := by decide +kernel
theorem dX4_ifOpened_86 : decode cX4_ifOpened 86 = .ok (.iconst 0, 1) := by decide +kernel
theorem dX4_ifOpened_87 : decode cX4_ifOpened 87 = .ok (.iadd, 1) := by decide +kernel
theorem dX4_ifOpened_88 : decode cX4_ifOpened 88 = .ok (.ireturn, 1) := by decide +kernel
theorem dX4_ifOpened_89 : decode cX4_ifOpened 89 = .ok (.iload_n 2, 1) := by decide +kernel
theorem dX4_ifOpened_90 : decode cX4_ifOpened 90 = .ok (.ifCond .ne 11, 3) := by decide +kernel
theorem dX4_ifOpened_93 : decode cX4_ifOpened 93 = .ok (.aload_n 0, 1) := by decide +kernel
theorem dX4_ifOpened_94 : decode cX4_ifOpened 94 = .ok (.iload_n 1, 1) := by decide +kernel
theorem dX4_ifOpened_95 : decode cX4_ifOpened 95 = .ok (.invokevirtual 184, 3) := by decide +kernel
theorem dX4_ifOpened_98 : decode cX4_ifOpened 98 = .ok (.goto 16, 3) := by decide +kernel
theorem dX4_ifOpened_101 : decode cX4_ifOpened 101 = .ok (.iload_n 3, 1) := by decide +kernel
theorem dX4_ifOpened_102 : decode cX4_ifOpened 102 = .ok (.ifCond .eq 11, 3) := by decide +kernel
theorem dX4_ifOpened_105 : decode cX4_ifOpened 105 = .ok (.aload_n 0, 1) := by decide +kernel
theorem dX4_ifOpened_106 : decode cX4_ifOpened 106 = .ok (.iload_n 1, 1) := by decide +kernel
theorem dX4_ifOpened_107 : decode cX4_ifOpened 107 = .ok (.invokevirtual 187, 3) := by decide +kernel
theorem dX4_ifOpened_110 : decode cX4_ifOpened 110 = .ok (.goto 4, 3) := by decide +kernel
theorem dX4_ifOpened_113 : decode cX4_ifOpened 113 = .ok (.iconst 0, 1) := by decide +kernel
theorem dX4_ifOpened_114 : decode cX4_ifOpened 114 = .ok (.ireturn, 1) := by decide +kernel
set_option maxRecDepth 20000 in
theorem ggX4_reaches_X4_isWhole : GoodIn wsX4_reaches wsX4_isWhole := goodIn_r _ [5, 6, 7, 8, 4, 9, 10, 11, 12, 13, 14, 15, 16, 17, 18, 19, 20, 21, 22, 23, 24, 25, 26, 27, 28, 29, 30, 31] (by decide +kernel) (by decide +kernel)
set_option maxRecDepth 20000 in
theorem gX4_reaches_X4_isWhole : GoodIn wsX4_reaches (wsV RX4 71 RX4 yX4_isWhole wsX4_isWhole) := goodIn_app (goodIn_of _ (by decide +kernel)) ggX4_reaches_X4_isWhole
set_option maxRecDepth 20000 in
theorem ggX4_reaches_X4_of : GoodIn wsX4_reaches wsX4_of := goodIn_r _ [9, 10, 19, 20, 21, 22, 23, 24, 25, 26, 27, 28, 29, 30, 31] (by decide +kernel) (by decide +kernel)
set_option maxRecDepth 20000 in
theorem gX4_reaches_X4_of : GoodIn wsX4_reaches (wsV RX4 39 RX4 yX4_of wsX4_of) := goodIn_app (goodIn_of _ (by decide +kernel)) ggX4_reaches_X4_of
theorem dX4_reaches_0 : decode cX4_reaches 0 = .ok (.iload_n 1, 1) := by decide +kernel
theorem dX4_reaches_1 : decode cX4_reaches 1 = .ok (.istore_n 3, 1) := by decide +kernel
theorem dX4_reaches_2 : decode cX4_reaches 2 = .ok (.iload_n 3, 1) := by decide +kernel
theorem dX4_reaches_3 : decode cX4_reaches 3 = .ok (.iload_n 2, 1) := by decide +kernel
theorem dX4_reaches_4 : decode cX4_reaches 4 = .ok (.if_icmp .le 21, 3) := by decide +kernel
theorem dX4_reaches_7 : decode cX4_reaches 7 = .ok (.aload_n 0, 1) := by decide +kernel
theorem dX4_reaches_8 : decode cX4_reaches 8 = .ok (.iload_n 3, 1) := by decide +kernel
theorem dX4_reaches_9 : decode cX4_reaches 9 = .ok (.invokevirtual 71, 3) := by decide +kernel
theorem dX4_reaches_12 : decode cX4_reaches 12 = .ok (.ifCond .eq 13, 3) := by decide +kernel
theorem dX4_reaches_15 : decode cX4_reaches 15 = .ok (.aload_n 0, 1) := by decide +kernel
theorem dX4_reaches_16 : decode cX4_reaches 16 = .ok (.iload_n 3, 1) := by decide +kernel
theorem dX4_reaches_17 : decode cX4_reaches 17 = .ok (.iconst 2, 1) := by decide +kernel
theorem dX4_reaches_18 : decode cX4_reaches 18 = .ok (.invokevirtual 39, 3) := by decide +kernel
theorem dX4_reaches_21 : decode cX4_reaches 21 = .ok (.istore_n 3, 1) := by decide +kernel
theorem dX4_reaches_22 : decode cX4_reaches 22 = .ok (.goto (-20), 3) := by decide +kernel
theorem dX4_reaches_25 : decode cX4_reaches 25 = .ok (.iload_n 3, 1) := by decide +kernel
theorem dX4_reaches_26 : decode cX4_reaches 26 = .ok (.iload_n 2, 1) := by decide +kernel
theorem dX4_reaches_27 : decode cX4_reaches 27 = .ok (.if_icmp .ne 12, 3) := by decide +kernel
theorem dX4_reaches_30 : decode cX4_reaches 30 = .ok (.iload_n 1, 1) := by decide +kernel
theorem dX4_reaches_31 : decode cX4_reaches 31 = .ok (.iload_n 2, 1) := by decide +kernel
theorem dX4_reaches_32 : decode cX4_reaches 32 = .ok (.if_icmp .eq 7, 3) := by decide +kernel
theorem dX4_reaches_35 : decode cX4_reaches 35 = .ok (.iconst 1, 1) := by decide +kernel
theorem dX4_reaches_36 : decode cX4_reaches 36 = .ok (.goto 4, 3) := by decide +kernel
theorem dX4_reaches_39 : decode cX4_reaches 39 = .ok (.iconst 0, 1) := by decide +kernel
theorem dX4_reaches_40 : decode cX4_reaches 40 = .ok (.ireturn, 1) := by decide +kernel
set_option maxRecDepth 20000 in
theorem ggX4_byEnds_X4_isLeft : GoodIn wsX4_byEnds wsX4_isLeft := goodIn_r _ [6, 7, 8, 9, 5, 10, 1, 27, 28, 29, 30, 31, 32, 33, 34, 35, 36, 37, 38, 39] (by decide +kernel) (by decide +kernel)
set_option maxRecDepth 20000 in
theorem gX4_byEnds_X4_isLeft : GoodIn wsX4_byEnds (wsV RX4 93 RX4 yX4_isLeft wsX4_isLeft) := goodIn_app (goodIn_of _ (by decide +kernel)) ggX4_byEnds_X4_isLeft
set_option maxRecDepth 20000 in
theorem ggX4_byEnds_X4_reaches : GoodIn wsX4_byEnds wsX4_reaches := goodIn_r _ [14, 15, 16, 17, 5, 18, 7, 8, 9, 10, 1, 19, 20, 21, 22, 23, 24, 25, 26, 27, 28, 29, 30, 31, 32, 33, 34, 35, 36, 37, 38, 39] (by decide +kernel) (by decide +kernel)
set_option maxRecDepth 20000 in
theorem gX4_byEnds_X4_reaches : GoodIn wsX4_byEnds (wsV RX4 190 RX4 yX4_reaches wsX4_reaches) := goodIn_app (goodIn_of _ (by decide +kernel)) ggX4_byEnds_X4_reaches
theorem dX4_byEnds_0 : decode cX4_byEnds 0 = .ok (.iconst 0, 1) := by decide +kernel
theorem dX4_byEnds_1 : decode cX4_byEnds 1 = .ok (.istore_n 1, 1) := by decide +kernel
theorem dX4_byEnds_2 : decode cX4_byEnds 2 = .ok (.iconst 0, 1) := by decide +kernel
theorem dX4_byEnds_3 : decode cX4_byEnds 3 = .ok (.istore_n 2, 1) := by decide +kernel
theorem dX4_byEnds_4 : decode cX4_byEnds 4 = .ok (.iload_n 2, 1) := by decide +kernel
theorem dX4_byEnds_5 : decode cX4_byEnds 5 = .ok (.aload_n 0, 1) := by decide +kernel
theorem dX4_byEnds_6 : decode cX4_byEnds 6 = .ok (.getfield 7, 3) := by decide +kernel
theorem dX4_byEnds_9 : decode cX4_byEnds 9 = .ok (.iconst 5, 1) := by decide +kernel
theorem dX4_byEnds_10 : decode cX4_byEnds 10 = .ok (.iaload, 1) := by decide +kernel
theorem dX4_byEnds_11 : decode cX4_byEnds 11 = .ok (.if_icmp .ge 76, 3) := by decide +kernel
theorem dX4_byEnds_14 : decode cX4_byEnds 14 = .ok (.aload_n 0, 1) := by decide +kernel
theorem dX4_byEnds_15 : decode cX4_byEnds 15 = .ok (.iload_n 2, 1) := by decide +kernel
theorem dX4_byEnds_16 : decode cX4_byEnds 16 = .ok (.invokevirtual 93, 3) := by decide +kernel
theorem dX4_byEnds_19 : decode cX4_byEnds 19 = .ok (.istore_n 3, 1) := by decide +kernel
theorem dX4_byEnds_20 : decode cX4_byEnds 20 = .ok (.iconst 0, 1) := by decide +kernel
theorem dX4_byEnds_21 : decode cX4_byEnds 21 = .ok (.istore 4, 2) := by decide +kernel
theorem dX4_byEnds_23 : decode cX4_byEnds 23 = .ok (.iload 4, 2) := by decide +kernel
theorem dX4_byEnds_25 : decode cX4_byEnds 25 = .ok (.aload_n 0, 1) := by decide +kernel
theorem dX4_byEnds_26 : decode cX4_byEnds 26 = .ok (.getfield 7, 3) := by decide +kernel
theorem dX4_byEnds_29 : decode cX4_byEnds 29 = .ok (.iconst 5, 1) := by decide +kernel
theorem dX4_byEnds_30 : decode cX4_byEnds 30 = .ok (.iaload, 1) := by decide +kernel
theorem dX4_byEnds_31 : decode cX4_byEnds 31 = .ok (.if_icmp .ge 38, 3) := by decide +kernel
theorem dX4_byEnds_34 : decode cX4_byEnds 34 = .ok (.iload_n 3, 1) := by decide +kernel
theorem dX4_byEnds_35 : decode cX4_byEnds 35 = .ok (.ifCond .eq 26, 3) := by decide +kernel
theorem dX4_byEnds_38 : decode cX4_byEnds 38 = .ok (.aload_n 0, 1) := by decide +kernel
theorem dX4_byEnds_39 : decode cX4_byEnds 39 = .ok (.iload 4, 2) := by decide +kernel
theorem dX4_byEnds_41 : decode cX4_byEnds 41 = .ok (.invokevirtual 93, 3) := by decide +kernel
theorem dX4_byEnds_44 : decode cX4_byEnds 44 = .ok (.ifCond .eq 13, 3) := by decide +kernel
theorem dX4_byEnds_47 : decode cX4_byEnds 47 = .ok (.aload_n 0, 1) := by decide +kernel
theorem dX4_byEnds_48 : decode cX4_byEnds 48 = .ok (.iload 4, 2) := by decide +kernel
theorem dX4_byEnds_50 : decode cX4_byEnds 50 = .ok (.iload_n 2, 1) := by decide +kernel
theorem dX4_byEnds_51 : decode cX4_byEnds 51 = .ok (.invokevirtual 190, 3) := by decide +kernel
theorem dX4_byEnds_54 : decode cX4_byEnds 54 = .ok (.ifCond .ne 7, 3) := by decide +kernel
theorem dX4_byEnds_57 : decode cX4_byEnds 57 = .ok (.iconst 1, 1) := by decide +kernel
theorem dX4_byEnds_58 : decode cX4_byEnds 58 = .ok (.goto 4, 3) := by decide +kernel
theorem dX4_byEnds_61 : decode cX4_byEnds 61 = .ok (.iconst 0, 1) := by decide +kernel
theorem dX4_byEnds_62 : decode cX4_byEnds 62 = .ok (.istore_n 3, 1) := by decide +kernel
theorem dX4_byEnds_63 : decode cX4_byEnds 63 = .ok (.iinc 4 1, 3) := by decide +kernel
theorem dX4_byEnds_66 : decode cX4_byEnds 66 = .ok (.goto (-43), 3) := by decide +kernel
theorem dX4_byEnds_69 : decode cX4_byEnds 69 = .ok (.iload_n 1, 1) := by decide +kernel
theorem dX4_byEnds_70 : decode cX4_byEnds 70 = .ok (.iload_n 3, 1) := by decide +kernel
theorem dX4_byEnds_71 : decode cX4_byEnds 71 = .ok (.ifCond .eq 7, 3) := by decide +kernel
theorem dX4_byEnds_74 : decode cX4_byEnds 74 = .ok (.iconst 1, 1) := by decide +kernel
theorem dX4_byEnds_75 : decode cX4_byEnds 75 = .ok (.goto 4, 3) := by decide +kernel
theorem dX4_byEnds_78 : decode cX4_byEnds 78 = .ok (.iconst 0, 1) := by decide +kernel
theorem dX4_byEnds_79 : decode cX4_byEnds 79 = .ok (.iadd, 1) := by decide +kernel
theorem dX4_byEnds_80 : decode cX4_byEnds 80 = .ok (.istore_n 1, 1) := by decide +kernel
theorem dX4_byEnds_81 : decode cX4_byEnds 81 = .ok (.iinc 2 1, 3) := by decide +kernel
theorem dX4_byEnds_84 : decode cX4_byEnds 84 = .ok (.goto (-80), 3) := by decide +kernel
theorem dX4_byEnds_87 : decode cX4_byEnds 87 = .ok (.iload_n 1, 1) := by decide +kernel
theorem dX4_byEnds_88 : decode cX4_byEnds 88 = .ok (.ireturn, 1) := by decide +kernel
set_option maxRecDepth 20000 in
theorem ggX4_byOpening_X4_putAside : GoodIn wsX4_byOpening wsX4_putAside := goodIn_r _ [5, 6, 7, 44, 45, 46, 47, 48, 49, 50, 51, 52, 53, 54, 55, 56] (by decide +kernel) (by decide +kernel)
set_option maxRecDepth 20000 in
theorem gX4_byOpening_X4_putAside : GoodIn wsX4_byOpening (wsV RX4 135 RX4 yX4_putAside wsX4_putAside) := goodIn_app (goodIn_of _ (by decide +kernel)) ggX4_byOpening_X4_putAside
set_option maxRecDepth 20000 in
theorem ggX4_byOpening_X4_lastLeft : GoodIn wsX4_byOpening wsX4_lastLeft := goodIn_r _ [11, 7, 12, 13, 14, 4, 15, 16, 17, 18, 19, 44, 45, 46, 47, 48, 49, 50, 51, 52, 53, 54, 55, 56] (by decide +kernel) (by decide +kernel)
set_option maxRecDepth 20000 in
theorem gX4_byOpening_X4_lastLeft : GoodIn wsX4_byOpening (wsV RX4 96 RX4 yX4_lastLeft wsX4_lastLeft) := goodIn_app (goodIn_of _ (by decide +kernel)) ggX4_byOpening_X4_lastLeft
set_option maxRecDepth 20000 in
theorem ggX4_byOpening_X4_lay : GoodIn wsX4_byOpening wsX4_lay := goodIn_r _ [23, 7, 44, 45, 46, 47, 48, 49, 50, 51, 52, 53, 54, 55, 56] (by decide +kernel) (by decide +kernel)
set_option maxRecDepth 20000 in
theorem gX4_byOpening_X4_lay : GoodIn wsX4_byOpening (wsV RX4 54 RX4 yX4_lay wsX4_lay) := goodIn_app (goodIn_of _ (by decide +kernel)) ggX4_byOpening_X4_lay
set_option maxRecDepth 20000 in
theorem ggX4_byOpening_X4_clears : GoodIn wsX4_byOpening wsX4_clears := goodIn_r _ [27, 16, 17, 18, 4, 19, 7, 20, 21, 22, 23, 28, 29, 30, 31, 32, 33, 34, 35, 36, 37, 38, 39, 44, 45, 46, 47, 48, 49, 50, 51, 52, 53, 54, 55, 56] (by decide +kernel) (by decide +kernel)
set_option maxRecDepth 20000 in
theorem gX4_byOpening_X4_clears : GoodIn wsX4_byOpening (wsV RX4 81 RX4 yX4_clears wsX4_clears) := goodIn_app (goodIn_of _ (by decide +kernel)) ggX4_byOpening_X4_clears
set_option maxRecDepth 20000 in
theorem ggX4_byOpening_X4_takeBack : GoodIn wsX4_byOpening wsX4_takeBack := goodIn_r _ [43, 7, 6, 44, 45, 46, 47, 48, 49, 50, 51, 52, 53, 54, 55, 56] (by decide +kernel) (by decide +kernel)
set_option maxRecDepth 20000 in
theorem gX4_byOpening_X4_takeBack : GoodIn wsX4_byOpening (wsV RX4 144 RX4 yX4_takeBack wsX4_takeBack) := goodIn_app (goodIn_of _ (by decide +kernel)) ggX4_byOpening_X4_takeBack
theorem dX4_byOpening_0 : decode cX4_byOpening 0 = .ok (.aload_n 0, 1) := by decide +kernel
theorem dX4_byOpening_1 : decode cX4_byOpening 1 = .ok (.invokevirtual 135, 3) := by decide +kernel
theorem dX4_byOpening_4 : decode cX4_byOpening 4 = .ok (.iconst 0, 1) := by decide +kernel
theorem dX4_byOpening_5 : decode cX4_byOpening 5 = .ok (.istore_n 1, 1) := by decide +kernel
theorem dX4_byOpening_6 : decode cX4_byOpening 6 = .ok (.aload_n 0, 1) := by decide +kernel
theorem dX4_byOpening_7 : decode cX4_byOpening 7 = .ok (.invokevirtual 96, 3) := by decide +kernel
theorem dX4_byOpening_10 : decode cX4_byOpening 10 = .ok (.bipush (-5), 2) := by decide +kernel
theorem dX4_byOpening_12 : decode cX4_byOpening 12 = .ok (.if_icmp .eq 27, 3) := by decide +kernel
theorem dX4_byOpening_15 : decode cX4_byOpening 15 = .ok (.aload_n 0, 1) := by decide +kernel
theorem dX4_byOpening_16 : decode cX4_byOpening 16 = .ok (.invokevirtual 96, 3) := by decide +kernel
theorem dX4_byOpening_19 : decode cX4_byOpening 19 = .ok (.istore_n 2, 1) := by decide +kernel
theorem dX4_byOpening_20 : decode cX4_byOpening 20 = .ok (.aload_n 0, 1) := by decide +kernel
theorem dX4_byOpening_21 : decode cX4_byOpening 21 = .ok (.iload_n 2, 1) := by decide +kernel
theorem dX4_byOpening_22 : decode cX4_byOpening 22 = .ok (.iconst 4, 1) := by decide +kernel
theorem dX4_byOpening_23 : decode cX4_byOpening 23 = .ok (.iconst 1, 1) := by decide +kernel
theorem dX4_byOpening_24 : decode cX4_byOpening 24 = .ok (.invokevirtual 54, 3) := by decide +kernel
theorem dX4_byOpening_27 : decode cX4_byOpening 27 = .ok (.aload_n 0, 1) := by decide +kernel
theorem dX4_byOpening_28 : decode cX4_byOpening 28 = .ok (.iload_n 2, 1) := by decide +kernel
theorem dX4_byOpening_29 : decode cX4_byOpening 29 = .ok (.invokevirtual 81, 3) := by decide +kernel
theorem dX4_byOpening_32 : decode cX4_byOpening 32 = .ok (.pop, 1) := by decide +kernel
theorem dX4_byOpening_33 : decode cX4_byOpening 33 = .ok (.iinc 1 1, 3) := by decide +kernel
theorem dX4_byOpening_36 : decode cX4_byOpening 36 = .ok (.goto (-30), 3) := by decide +kernel
theorem dX4_byOpening_39 : decode cX4_byOpening 39 = .ok (.aload_n 0, 1) := by decide +kernel
theorem dX4_byOpening_40 : decode cX4_byOpening 40 = .ok (.invokevirtual 144, 3) := by decide +kernel
theorem dX4_byOpening_43 : decode cX4_byOpening 43 = .ok (.iload_n 1, 1) := by decide +kernel
theorem dX4_byOpening_44 : decode cX4_byOpening 44 = .ok (.ireturn, 1) := by decide +kernel
set_option maxRecDepth 20000 in
theorem ggX4_fewestOpenings_X4_byEnds : GoodIn wsX4_fewestOpenings wsX4_byEnds := goodIn_r _ [6, 7, 8, 9, 10, 5, 11, 12, 13, 14, 15, 16, 17, 18, 19, 20, 21, 22, 23, 24, 25, 26, 27, 28, 29, 30, 31, 57, 58, 59, 60, 61, 62, 63, 64, 65, 66, 67, 68, 69] (by decide +kernel) (by decide +kernel)
set_option maxRecDepth 20000 in
theorem gX4_fewestOpenings_X4_byEnds : GoodIn wsX4_fewestOpenings (wsV RX4 193 RX4 yX4_byEnds wsX4_byEnds) := goodIn_app (goodIn_of _ (by decide +kernel)) ggX4_fewestOpenings_X4_byEnds
set_option maxRecDepth 20000 in
theorem ggX4_fewestOpenings_X4_byOpening : GoodIn wsX4_fewestOpenings wsX4_byOpening := goodIn_r _ [35, 36, 37, 38, 5, 39, 40, 7, 41, 42, 43, 44, 8, 9, 10, 11, 12, 13, 14, 15, 45, 46, 47, 48, 49, 50, 51, 52, 20, 21, 22, 23, 24, 25, 26, 27, 28, 29, 30, 31, 53, 54, 55, 56, 57, 58, 59, 60, 61, 62, 63, 64, 65, 66, 67, 68, 69] (by decide +kernel) (by decide +kernel)
set_option maxRecDepth 20000 in
theorem gX4_fewestOpenings_X4_byOpening : GoodIn wsX4_fewestOpenings (wsV RX4 196 RX4 yX4_byOpening wsX4_byOpening) := goodIn_app (goodIn_of _ (by decide +kernel)) ggX4_fewestOpenings_X4_byOpening
theorem dX4_fewestOpenings_0 : decode cX4_fewestOpenings 0 = .ok (.aload_n 0, 1) := by decide +kernel
theorem dX4_fewestOpenings_1 : decode cX4_fewestOpenings 1 = .ok (.iconst 0, 1) := by decide +kernel
theorem dX4_fewestOpenings_2 : decode cX4_fewestOpenings 2 = .ok (.putfield 28, 3) := by decide +kernel
theorem dX4_fewestOpenings_5 : decode cX4_fewestOpenings 5 = .ok (.iload_n 1, 1) := by decide +kernel
theorem dX4_fewestOpenings_6 : decode cX4_fewestOpenings 6 = .ok (.ifCond .ne 10, 3) := by decide +kernel
theorem dX4_fewestOpenings_9 : decode cX4_fewestOpenings 9 = .ok (.aload_n 0, 1) := by decide +kernel
theorem dX4_fewestOpenings_10 : decode cX4_fewestOpenings 10 = .ok (.invokevirtual 193, 3) := by decide +kernel
theorem dX4_fewestOpenings_13 : decode cX4_fewestOpenings 13 = .ok (.goto 17, 3) := by decide +kernel
theorem dX4_fewestOpenings_16 : decode cX4_fewestOpenings 16 = .ok (.iload_n 1, 1) := by decide +kernel
theorem dX4_fewestOpenings_17 : decode cX4_fewestOpenings 17 = .ok (.iconst 1, 1) := by decide +kernel
theorem dX4_fewestOpenings_18 : decode cX4_fewestOpenings 18 = .ok (.if_icmp .ne 10, 3) := by decide +kernel
theorem dX4_fewestOpenings_21 : decode cX4_fewestOpenings 21 = .ok (.aload_n 0, 1) := by decide +kernel
theorem dX4_fewestOpenings_22 : decode cX4_fewestOpenings 22 = .ok (.invokevirtual 196, 3) := by decide +kernel
theorem dX4_fewestOpenings_25 : decode cX4_fewestOpenings 25 = .ok (.goto 5, 3) := by decide +kernel
theorem dX4_fewestOpenings_28 : decode cX4_fewestOpenings 28 = .ok (.bipush (-2), 2) := by decide +kernel
theorem dX4_fewestOpenings_30 : decode cX4_fewestOpenings 30 = .ok (.ireturn, 1) := by decide +kernel
set_option maxRecDepth 20000 in
theorem ggX4_bestOpening_X4_of : GoodIn wsX4_bestOpening wsX4_of := goodIn_r _ [7, 2, 41, 42, 43, 44, 45, 46, 47, 48, 49, 50, 51, 52, 53] (by decide +kernel) (by decide +kernel)
set_option maxRecDepth 20000 in
theorem gX4_bestOpening_X4_of : GoodIn wsX4_bestOpening (wsV RX4 39 RX4 yX4_of wsX4_of) := goodIn_app (goodIn_of _ (by decide +kernel)) ggX4_bestOpening_X4_of
set_option maxRecDepth 20000 in
theorem ggX4_bestOpening_X4_wouldClear : GoodIn wsX4_bestOpening wsX4_wouldClear := goodIn_r _ [11, 12, 13, 14, 6, 15, 16, 2, 17, 18, 19, 20, 3, 4, 5, 7, 21, 22, 23, 24, 25, 26, 27, 28, 29, 30, 31, 32, 33, 34, 35, 36, 37, 38, 39, 40, 41, 42, 43, 44, 45, 46, 47, 48, 49, 50, 51, 52, 53] (by decide +kernel) (by decide +kernel)
set_option maxRecDepth 20000 in
theorem gX4_bestOpening_X4_wouldClear : GoodIn wsX4_bestOpening (wsV RX4 184 RX4 yX4_wouldClear wsX4_wouldClear) := goodIn_app (goodIn_of _ (by decide +kernel)) ggX4_bestOpening_X4_wouldClear
theorem dX4_bestOpening_0 : decode cX4_bestOpening 0 = .ok (.aload_n 0, 1) := by decide +kernel
theorem dX4_bestOpening_1 : decode cX4_bestOpening 1 = .ok (.iconst 0, 1) := by decide +kernel
theorem dX4_bestOpening_2 : decode cX4_bestOpening 2 = .ok (.putfield 28, 3) := by decide +kernel
theorem dX4_bestOpening_5 : decode cX4_bestOpening 5 = .ok (.bipush (-5), 2) := by decide +kernel
theorem dX4_bestOpening_7 : decode cX4_bestOpening 7 = .ok (.istore_n 1, 1) := by decide +kernel
theorem dX4_bestOpening_8 : decode cX4_bestOpening 8 = .ok (.iconst (-1), 1) := by decide +kernel
theorem dX4_bestOpening_9 : decode cX4_bestOpening 9 = .ok (.istore_n 2, 1) := by decide +kernel
theorem dX4_bestOpening_10 : decode cX4_bestOpening 10 = .ok (.iconst 0, 1) := by decide +kernel
theorem dX4_bestOpening_11 : decode cX4_bestOpening 11 = .ok (.istore_n 3, 1) := by decide +kernel
theorem dX4_bestOpening_12 : decode cX4_bestOpening 12 = .ok (.iload_n 3, 1) := by decide +kernel
theorem dX4_bestOpening_13 : decode cX4_bestOpening 13 = .ok (.aload_n 0, 1) := by decide +kernel
theorem dX4_bestOpening_14 : decode cX4_bestOpening 14 = .ok (.getfield 7, 3) := by decide +kernel
theorem dX4_bestOpening_17 : decode cX4_bestOpening 17 = .ok (.iconst 5, 1) := by decide +kernel
theorem dX4_bestOpening_18 : decode cX4_bestOpening 18 = .ok (.iaload, 1) := by decide +kernel
theorem dX4_bestOpening_19 : decode cX4_bestOpening 19 = .ok (.if_icmp .ge 55, 3) := by decide +kernel
theorem dX4_bestOpening_22 : decode cX4_bestOpening 22 = .ok (.aload_n 0, 1) := by decide +kernel
theorem dX4_bestOpening_23 : decode cX4_bestOpening 23 = .ok (.iload_n 3, 1) := by decide +kernel
theorem dX4_bestOpening_24 : decode cX4_bestOpening 24 = .ok (.iconst 4, 1) := by decide +kernel
theorem dX4_bestOpening_25 : decode cX4_bestOpening 25 = .ok (.invokevirtual 39, 3) := by decide +kernel
theorem dX4_bestOpening_28 : decode cX4_bestOpening 28 = .ok (.iconst 1, 1) := by decide +kernel
theorem dX4_bestOpening_29 : decode cX4_bestOpening 29 = .ok (.if_icmp .ne 7, 3) := by decide +kernel
theorem dX4_bestOpening_32 : decode cX4_bestOpening 32 = .ok (.iconst (-1), 1) := by decide +kernel
theorem dX4_bestOpening_33 : decode cX4_bestOpening 33 = .ok (.goto 8, 3) := by decide +kernel
theorem dX4_bestOpening_36 : decode cX4_bestOpening 36 = .ok (.aload_n 0, 1) := by decide +kernel
theorem dX4_bestOpening_37 : decode cX4_bestOpening 37 = .ok (.iload_n 3, 1) := by decide +kernel
theorem dX4_bestOpening_38 : decode cX4_bestOpening 38 = .ok (.invokevirtual 184, 3) := by decide +kernel
theorem dX4_bestOpening_41 : decode cX4_bestOpening 41 = .ok (.istore 4, 2) := by decide +kernel
theorem dX4_bestOpening_43 : decode cX4_bestOpening 43 = .ok (.iload 4, 2) := by decide +kernel
theorem dX4_bestOpening_45 : decode cX4_bestOpening 45 = .ok (.iload_n 2, 1) := by decide +kernel
theorem dX4_bestOpening_46 : decode cX4_bestOpening 46 = .ok (.if_icmp .le 7, 3) := by decide +kernel
theorem dX4_bestOpening_49 : decode cX4_bestOpening 49 = .ok (.iload_n 3, 1) := by decide +kernel
theorem dX4_bestOpening_50 : decode cX4_bestOpening 50 = .ok (.goto 4, 3) := by decide +kernel
theorem dX4_bestOpening_53 : decode cX4_bestOpening 53 = .ok (.iload_n 1, 1) := by decide +kernel
theorem dX4_bestOpening_54 : decode cX4_bestOpening 54 = .ok (.istore_n 1, 1) := by decide +kernel
theorem dX4_bestOpening_55 : decode cX4_bestOpening 55 = .ok (.iload 4, 2) := by decide +kernel
theorem dX4_bestOpening_57 : decode cX4_bestOpening 57 = .ok (.iload_n 2, 1) := by decide +kernel
theorem dX4_bestOpening_58 : decode cX4_bestOpening 58 = .ok (.if_icmp .le 8, 3) := by decide +kernel
theorem dX4_bestOpening_61 : decode cX4_bestOpening 61 = .ok (.iload 4, 2) := by decide +kernel
theorem dX4_bestOpening_63 : decode cX4_bestOpening 63 = .ok (.goto 4, 3) := by decide +kernel
theorem dX4_bestOpening_66 : decode cX4_bestOpening 66 = .ok (.iload_n 2, 1) := by decide +kernel
theorem dX4_bestOpening_67 : decode cX4_bestOpening 67 = .ok (.istore_n 2, 1) := by decide +kernel
theorem dX4_bestOpening_68 : decode cX4_bestOpening 68 = .ok (.iinc 3 1, 3) := by decide +kernel
theorem dX4_bestOpening_71 : decode cX4_bestOpening 71 = .ok (.goto (-59), 3) := by decide +kernel
theorem dX4_bestOpening_74 : decode cX4_bestOpening 74 = .ok (.iload_n 1, 1) := by decide +kernel
theorem dX4_bestOpening_75 : decode cX4_bestOpening 75 = .ok (.ireturn, 1) := by decide +kernel
set_option maxRecDepth 20000 in
theorem ggX4_sameSeal_X4_isCart : GoodIn wsX4_sameSeal wsX4_isCart := goodIn_r _ [6, 7, 8, 9, 5, 10, 23, 24, 25, 26, 27, 28, 29, 30, 31, 32, 33, 34, 35] (by decide +kernel) (by decide +kernel)
set_option maxRecDepth 20000 in
theorem gX4_sameSeal_X4_isCart : GoodIn wsX4_sameSeal (wsV RX4 50 RX4 yX4_isCart wsX4_isCart) := goodIn_app (goodIn_of _ (by decide +kernel)) ggX4_sameSeal_X4_isCart
set_option maxRecDepth 20000 in
theorem ggX4_sameSeal_X4_of : GoodIn wsX4_sameSeal wsX4_of := goodIn_r _ [14, 7, 23, 24, 25, 26, 27, 28, 29, 30, 31, 32, 33, 34, 35] (by decide +kernel) (by decide +kernel)
set_option maxRecDepth 20000 in
theorem gX4_sameSeal_X4_of : GoodIn wsX4_sameSeal (wsV RX4 39 RX4 yX4_of wsX4_of) := goodIn_app (goodIn_of _ (by decide +kernel)) ggX4_sameSeal_X4_of
set_option maxRecDepth 20000 in
theorem ggX4_sameSeal_X4_sealBy : GoodIn wsX4_sameSeal wsX4_sealBy := goodIn_r _ [18, 7, 11, 12, 13, 5, 14, 23, 24, 25, 26, 27, 28, 29, 30, 31, 32, 33, 34, 35] (by decide +kernel) (by decide +kernel)
set_option maxRecDepth 20000 in
theorem gX4_sameSeal_X4_sealBy : GoodIn wsX4_sameSeal (wsV RX4 43 RX4 yX4_sealBy wsX4_sealBy) := goodIn_app (goodIn_of _ (by decide +kernel)) ggX4_sameSeal_X4_sealBy
set_option maxRecDepth 20000 in
theorem ggX4_sameSeal_X4_rightSeal : GoodIn wsX4_sameSeal wsX4_rightSeal := goodIn_r _ [22, 11, 12, 13, 5, 14, 7, 15, 16, 17, 18, 23, 24, 25, 26, 27, 28, 29, 30, 31, 32, 33, 34, 35] (by decide +kernel) (by decide +kernel)
set_option maxRecDepth 20000 in
theorem gX4_sameSeal_X4_rightSeal : GoodIn wsX4_sameSeal (wsV RX4 46 RX4 yX4_rightSeal wsX4_rightSeal) := goodIn_app (goodIn_of _ (by decide +kernel)) ggX4_sameSeal_X4_rightSeal
theorem dX4_sameSeal_0 : decode cX4_sameSeal 0 = .ok (.aload_n 0, 1) := by decide +kernel
theorem dX4_sameSeal_1 : decode cX4_sameSeal 1 = .ok (.iconst 0, 1) := by decide +kernel
theorem dX4_sameSeal_2 : decode cX4_sameSeal 2 = .ok (.putfield 28, 3) := by decide +kernel
theorem dX4_sameSeal_5 : decode cX4_sameSeal 5 = .ok (.aload_n 0, 1) := by decide +kernel
theorem dX4_sameSeal_6 : decode cX4_sameSeal 6 = .ok (.iload_n 1, 1) := by decide +kernel
theorem dX4_sameSeal_7 : decode cX4_sameSeal 7 = .ok (.invokevirtual 50, 3) := by decide +kernel
theorem dX4_sameSeal_10 : decode cX4_sameSeal 10 = .ok (.ifCond .ne 5, 3) := by decide +kernel
theorem dX4_sameSeal_13 : decode cX4_sameSeal 13 = .ok (.iconst (-1), 1) := by decide +kernel
theorem dX4_sameSeal_14 : decode cX4_sameSeal 14 = .ok (.ireturn, 1) := by decide +kernel
theorem dX4_sameSeal_15 : decode cX4_sameSeal 15 = .ok (.iconst 0, 1) := by decide +kernel
theorem dX4_sameSeal_16 : decode cX4_sameSeal 16 = .ok (.istore_n 2, 1) := by decide +kernel
theorem dX4_sameSeal_17 : decode cX4_sameSeal 17 = .ok (.iload_n 2, 1) := by decide +kernel
theorem dX4_sameSeal_18 : decode cX4_sameSeal 18 = .ok (.bipush 99, 2) := by decide +kernel
theorem dX4_sameSeal_20 : decode cX4_sameSeal 20 = .ok (.if_icmp .gt 35, 3) := by decide +kernel
theorem dX4_sameSeal_23 : decode cX4_sameSeal 23 = .ok (.iload_n 2, 1) := by decide +kernel
theorem dX4_sameSeal_24 : decode cX4_sameSeal 24 = .ok (.aload_n 0, 1) := by decide +kernel
theorem dX4_sameSeal_25 : decode cX4_sameSeal 25 = .ok (.iload_n 1, 1) := by decide +kernel
theorem dX4_sameSeal_26 : decode cX4_sameSeal 26 = .ok (.iconst 0, 1) := by decide +kernel
theorem dX4_sameSeal_27 : decode cX4_sameSeal 27 = .ok (.invokevirtual 39, 3) := by decide +kernel
theorem dX4_sameSeal_30 : decode cX4_sameSeal 30 = .ok (.if_icmp .eq 19, 3) := by decide +kernel
theorem dX4_sameSeal_33 : decode cX4_sameSeal 33 = .ok (.aload_n 0, 1) := by decide +kernel
theorem dX4_sameSeal_34 : decode cX4_sameSeal 34 = .ok (.iload_n 1, 1) := by decide +kernel
theorem dX4_sameSeal_35 : decode cX4_sameSeal 35 = .ok (.iload_n 2, 1) := by decide +kernel
theorem dX4_sameSeal_36 : decode cX4_sameSeal 36 = .ok (.invokevirtual 43, 3) := by decide +kernel
theorem dX4_sameSeal_39 : decode cX4_sameSeal 39 = .ok (.aload_n 0, 1) := by decide +kernel
theorem dX4_sameSeal_40 : decode cX4_sameSeal 40 = .ok (.iload_n 1, 1) := by decide +kernel
theorem dX4_sameSeal_41 : decode cX4_sameSeal 41 = .ok (.invokevirtual 46, 3) := by decide +kernel
theorem dX4_sameSeal_44 : decode cX4_sameSeal 44 = .ok (.if_icmp .ne 5, 3) := by decide +kernel
theorem dX4_sameSeal_47 : decode cX4_sameSeal 47 = .ok (.iload_n 2, 1) := by decide +kernel
theorem dX4_sameSeal_48 : decode cX4_sameSeal 48 = .ok (.ireturn, 1) := by decide +kernel
theorem dX4_sameSeal_49 : decode cX4_sameSeal 49 = .ok (.iinc 2 1, 3) := by decide +kernel
theorem dX4_sameSeal_52 : decode cX4_sameSeal 52 = .ok (.goto (-35), 3) := by decide +kernel
theorem dX4_sameSeal_55 : decode cX4_sameSeal 55 = .ok (.bipush (-5), 2) := by decide +kernel
theorem dX4_sameSeal_57 : decode cX4_sameSeal 57 = .ok (.ireturn, 1) := by decide +kernel
end
section
theorem dJ6_bitCount_0f7a4_0 : decode cJ6_bitCount_0f7a4 0 = .ok (.iload_n 0, 1) := by decide +kernel
theorem dJ6_bitCount_0f7a4_1 : decode cJ6_bitCount_0f7a4 1 = .ok (.iload_n 0, 1) := by decide +kernel
theorem dJ6_bitCount_0f7a4_2 : decode cJ6_bitCount_0f7a4 2 = .ok (.iconst 1, 1) := by decide +kernel
theorem dJ6_bitCount_0f7a4_3 : decode cJ6_bitCount_0f7a4 3 = .ok (.iushr, 1) := by decide +kernel
theorem dJ6_bitCount_0f7a4_4 : decode cJ6_bitCount_0f7a4 4 = .ok (.ldc_w 265, 3) := by decide +kernel
theorem dJ6_bitCount_0f7a4_7 : decode cJ6_bitCount_0f7a4 7 = .ok (.iand, 1) := by decide +kernel
theorem dJ6_bitCount_0f7a4_8 : decode cJ6_bitCount_0f7a4 8 = .ok (.isub, 1) := by decide +kernel
theorem dJ6_bitCount_0f7a4_9 : decode cJ6_bitCount_0f7a4 9 = .ok (.istore_n 0, 1) := by decide +kernel
theorem dJ6_bitCount_0f7a4_10 : decode cJ6_bitCount_0f7a4 10 = .ok (.iload_n 0, 1) := by decide +kernel
theorem dJ6_bitCount_0f7a4_11 : decode cJ6_bitCount_0f7a4 11 = .ok (.ldc_w 266, 3) := by decide +kernel
theorem dJ6_bitCount_0f7a4_14 : decode cJ6_bitCount_0f7a4 14 = .ok (.iand, 1) := by decide +kernel
theorem dJ6_bitCount_0f7a4_15 : decode cJ6_bitCount_0f7a4 15 = .ok (.iload_n 0, 1) := by decide +kernel
theorem dJ6_bitCount_0f7a4_16 : decode cJ6_bitCount_0f7a4 16 = .ok (.iconst 2, 1) := by decide +kernel
theorem dJ6_bitCount_0f7a4_17 : decode cJ6_bitCount_0f7a4 17 = .ok (.iushr, 1) := by decide +kernel
theorem dJ6_bitCount_0f7a4_18 : decode cJ6_bitCount_0f7a4 18 = .ok (.ldc_w 266, 3) := by decide +kernel
theorem dJ6_bitCount_0f7a4_21 : decode cJ6_bitCount_0f7a4 21 = .ok (.iand, 1) := by decide +kernel
theorem dJ6_bitCount_0f7a4_22 : decode cJ6_bitCount_0f7a4 22 = .ok (.iadd, 1) := by decide +kernel
theorem dJ6_bitCount_0f7a4_23 : decode cJ6_bitCount_0f7a4 23 = .ok (.istore_n 0, 1) := by decide +kernel
theorem dJ6_bitCount_0f7a4_24 : decode cJ6_bitCount_0f7a4 24 = .ok (.iload_n 0, 1) := by decide +kernel
theorem dJ6_bitCount_0f7a4_25 : decode cJ6_bitCount_0f7a4 25 = .ok (.iload_n 0, 1) := by decide +kernel
theorem dJ6_bitCount_0f7a4_26 : decode cJ6_bitCount_0f7a4 26 = .ok (.iconst 4, 1) := by decide +kernel
theorem dJ6_bitCount_0f7a4_27 : decode cJ6_bitCount_0f7a4 27 = .ok (.iushr, 1) := by decide +kernel
theorem dJ6_bitCount_0f7a4_28 : decode cJ6_bitCount_0f7a4 28 = .ok (.iadd, 1) := by decide +kernel
theorem dJ6_bitCount_0f7a4_29 : decode cJ6_bitCount_0f7a4 29 = .ok (.ldc_w 267, 3) := by decide +kernel
theorem dJ6_bitCount_0f7a4_32 : decode cJ6_bitCount_0f7a4 32 = .ok (.iand, 1) := by decide +kernel
theorem dJ6_bitCount_0f7a4_33 : decode cJ6_bitCount_0f7a4 33 = .ok (.istore_n 0, 1) := by decide +kernel
theorem dJ6_bitCount_0f7a4_34 : decode cJ6_bitCount_0f7a4 34 = .ok (.iload_n 0, 1) := by decide +kernel
theorem dJ6_bitCount_0f7a4_35 : decode cJ6_bitCount_0f7a4 35 = .ok (.iload_n 0, 1) := by decide +kernel
theorem dJ6_bitCount_0f7a4_36 : decode cJ6_bitCount_0f7a4 36 = .ok (.bipush 8, 2) := by decide +kernel
theorem dJ6_bitCount_0f7a4_38 : decode cJ6_bitCount_0f7a4 38 = .ok (.iushr, 1) := by decide +kernel
theorem dJ6_bitCount_0f7a4_39 : decode cJ6_bitCount_0f7a4 39 = .ok (.iadd, 1) := by decide +kernel
theorem dJ6_bitCount_0f7a4_40 : decode cJ6_bitCount_0f7a4 40 = .ok (.istore_n 0, 1) := by decide +kernel
theorem dJ6_bitCount_0f7a4_41 : decode cJ6_bitCount_0f7a4 41 = .ok (.iload_n 0, 1) := by decide +kernel
theorem dJ6_bitCount_0f7a4_42 : decode cJ6_bitCount_0f7a4 42 = .ok (.iload_n 0, 1) := by decide +kernel
theorem dJ6_bitCount_0f7a4_43 : decode cJ6_bitCount_0f7a4 43 = .ok (.bipush 16, 2) := by decide +kernel
theorem dJ6_bitCount_0f7a4_45 : decode cJ6_bitCount_0f7a4 45 = .ok (.iushr, 1) := by decide +kernel
theorem dJ6_bitCount_0f7a4_46 : decode cJ6_bitCount_0f7a4 46 = .ok (.iadd, 1) := by decide +kernel
theorem dJ6_bitCount_0f7a4_47 : decode cJ6_bitCount_0f7a4 47 = .ok (.istore_n 0, 1) := by decide +kernel
theorem dJ6_bitCount_0f7a4_48 : decode cJ6_bitCount_0f7a4 48 = .ok (.iload_n 0, 1) := by decide +kernel
theorem dJ6_bitCount_0f7a4_49 : decode cJ6_bitCount_0f7a4 49 = .ok (.bipush 63, 2) := by decide +kernel
theorem dJ6_bitCount_0f7a4_51 : decode cJ6_bitCount_0f7a4 51 = .ok (.iand, 1) := by decide +kernel
theorem dJ6_bitCount_0f7a4_52 : decode cJ6_bitCount_0f7a4 52 = .ok (.ireturn, 1) := by decide +kernel
theorem dJ9_abs_0f7a4_0 : decode cJ9_abs_0f7a4 0 = .ok (.iload_n 0, 1) := by decide +kernel
theorem dJ9_abs_0f7a4_1 : decode cJ9_abs_0f7a4 1 = .ok (.ifCond .ge 8, 3) := by decide +kernel
theorem dJ9_abs_0f7a4_4 : decode cJ9_abs_0f7a4 4 = .ok (.iload_n 0, 1) := by decide +kernel
theorem dJ9_abs_0f7a4_5 : decode cJ9_abs_0f7a4 5 = .ok (.ineg, 1) := by decide +kernel
theorem dJ9_abs_0f7a4_6 : decode cJ9_abs_0f7a4 6 = .ok (.goto 4, 3) := by decide +kernel
theorem dJ9_abs_0f7a4_9 : decode cJ9_abs_0f7a4 9 = .ok (.iload_n 0, 1) := by decide +kernel
theorem dJ9_abs_0f7a4_10 : decode cJ9_abs_0f7a4 10 = .ok (.ireturn, 1) := by decide +kernel
theorem dJ9_max_7cf53_0 : decode cJ9_max_7cf53 0 = .ok (.iload_n 0, 1) := by decide +kernel
theorem dJ9_max_7cf53_1 : decode cJ9_max_7cf53 1 = .ok (.iload_n 1, 1) := by decide +kernel
theorem dJ9_max_7cf53_2 : decode cJ9_max_7cf53 2 = .ok (.if_icmp .lt 7, 3) := by decide +kernel
theorem dJ9_max_7cf53_5 : decode cJ9_max_7cf53 5 = .ok (.iload_n 0, 1) := by decide +kernel
theorem dJ9_max_7cf53_6 : decode cJ9_max_7cf53 6 = .ok (.goto 4, 3) := by decide +kernel
theorem dJ9_max_7cf53_9 : decode cJ9_max_7cf53 9 = .ok (.iload_n 1, 1) := by decide +kernel
theorem dJ9_max_7cf53_10 : decode cJ9_max_7cf53 10 = .ok (.ireturn, 1) := by decide +kernel
end
section
set_option maxRecDepth 20000 in
theorem ggL_law_X3_init : GoodIn wsL_law wsX3_init := goodIn_r _ [8, 9, 10, 11, 12, 13, 14, 15, 16, 17, 18, 19, 20, 21, 22, 23, 24, 25, 26, 27, 28, 29, 30, 31, 32, 33, 34, 35, 36, 37, 38, 39, 40, 41, 42, 43, 44, 45, 46, 47, 48, 49, 50, 51, 52, 53, 54, 55, 56, 57, 58, 59, 725, 726, 727, 728, 729, 730, 731, 732, 733, 734, 735, 706, 707, 708, 709, 710, 711, 736, 737, 738, 739, 740, 741, 742, 743, 744] (by decide +kernel) (by decide +kernel)
set_option maxRecDepth 20000 in
theorem gL_law_X3_init : GoodIn wsL_law (wsX3_init) := ggL_law_X3_init
set_option maxRecDepth 20000 in
theorem ggL_law_X4_init : GoodIn wsL_law wsX4_init := goodIn_r _ [62, 63, 10, 11, 30, 64, 65, 66, 67, 68, 69, 70, 712, 713, 714, 715, 716, 717, 718, 719, 720, 721, 722, 723, 724] (by decide +kernel) (by decide +kernel)
set_option maxRecDepth 20000 in
theorem gL_law_X4_init : GoodIn wsL_law (wsX4_init) := ggL_law_X4_init
set_option maxRecDepth 20000 in
theorem ggL_law_X3_come : GoodIn wsL_law wsX3_come := goodIn_r _ [74, 16, 15, 75, 76, 77, 14, 78, 31, 79, 80, 81, 82, 32, 33, 34, 35, 36, 37, 38, 39, 40, 41, 83, 84, 85, 86, 87, 88, 89, 90, 91, 92, 93, 94, 95, 96, 97, 98, 99, 100, 101, 102, 103, 104, 2, 105, 22, 106, 107, 108, 21, 109, 48, 47, 110, 111, 112, 113, 114, 706, 707, 708, 709, 710, 711, 725, 726, 727, 728, 729, 730, 731, 732, 733, 734, 735, 736, 737] (by decide +kernel) (by decide +kernel)
set_option maxRecDepth 20000 in
theorem gL_law_X3_come : GoodIn wsL_law (wsV RL 13 RX3 yX3_come wsX3_come) := goodIn_app (goodIn_of _ (by decide +kernel)) ggL_law_X3_come
set_option maxRecDepth 20000 in
theorem ggL_law_X4_come : GoodIn wsL_law wsX4_come := goodIn_r _ [118, 70, 119, 120, 121, 5, 122, 64, 123, 124, 125, 126, 127, 128, 129, 130, 131, 132, 133, 134, 66, 135, 136, 137, 138, 139, 140, 141, 142, 143, 144, 145, 146, 147, 148, 149, 150, 151, 152, 153, 154, 712, 713, 714, 715, 716, 717, 718, 719, 720, 721, 722, 723, 724] (by decide +kernel) (by decide +kernel)
set_option maxRecDepth 20000 in
theorem gL_law_X4_come : GoodIn wsL_law (wsV RL 17 RX4 yX4_come wsX4_come) := goodIn_app (goodIn_of _ (by decide +kernel)) ggL_law_X4_come
set_option maxRecDepth 20000 in
theorem ggL_law_X3_alter : GoodIn wsL_law wsX3_alter := goodIn_r _ [158, 16, 15, 75, 76, 77, 14, 78, 31, 79, 80, 81, 82, 32, 33, 34, 35, 36, 37, 38, 39, 40, 41, 159, 160, 161, 162, 87, 88, 89, 90, 91, 92, 93, 163, 164, 165, 166, 167, 168, 102, 103, 104, 2, 105, 22, 106, 107, 108, 21, 109, 48, 47, 110, 111, 112, 113, 114, 706, 707, 708, 709, 710, 711, 725, 726, 727, 728, 729, 730, 731, 732, 733, 734, 735, 736, 737] (by decide +kernel) (by decide +kernel)
set_option maxRecDepth 20000 in
theorem gL_law_X3_alter : GoodIn wsL_law (wsV RL 18 RX3 yX3_alter wsX3_alter) := goodIn_app (goodIn_of _ (by decide +kernel)) ggL_law_X3_alter
set_option maxRecDepth 20000 in
theorem ggL_law_X4_alter : GoodIn wsL_law wsX4_alter := goodIn_r _ [172, 70, 173, 174, 175, 5, 176, 123, 124, 125, 126, 64, 127, 128, 129, 147, 148, 149, 150, 130, 131, 132, 133, 134, 66, 139, 140, 141, 142, 712, 713, 714, 715, 716, 717, 718, 719, 720, 721, 722, 723, 724] (by decide +kernel) (by decide +kernel)
set_option maxRecDepth 20000 in
theorem gL_law_X4_alter : GoodIn wsL_law (wsV RL 22 RX4 yX4_alter wsX4_alter) := goodIn_app (goodIn_of _ (by decide +kernel)) ggL_law_X4_alter
set_option maxRecDepth 20000 in
theorem ggL_law_X3_reseal : GoodIn wsL_law wsX3_reseal := goodIn_r _ [180, 16, 15, 75, 76, 77, 14, 78, 31, 79, 80, 81, 82, 32, 33, 34, 35, 36, 37, 38, 39, 40, 41, 181, 182, 183, 184, 87, 88, 89, 90, 185, 186, 187, 188, 98, 99, 100, 101, 94, 95, 96, 97, 102, 103, 104, 2, 105, 22, 106, 107, 108, 21, 109, 48, 47, 110, 111, 112, 113, 114, 706, 707, 708, 709, 710, 711, 725, 726, 727, 728, 729, 730, 731, 732, 733, 734, 735, 736, 737] (by decide +kernel) (by decide +kernel)
set_option maxRecDepth 20000 in
theorem gL_law_X3_reseal : GoodIn wsL_law (wsV RL 23 RX3 yX3_reseal wsX3_reseal) := goodIn_app (goodIn_of _ (by decide +kernel)) ggL_law_X3_reseal
set_option maxRecDepth 20000 in
theorem ggL_law_X4_reseal : GoodIn wsL_law wsX4_reseal := goodIn_r _ [192, 70, 193, 194, 195, 5, 196, 123, 124, 125, 126, 64, 127, 128, 129, 197, 198, 199, 200, 147, 148, 149, 150, 143, 144, 145, 146, 151, 152, 153, 154, 130, 131, 132, 133, 134, 66, 139, 140, 141, 142, 712, 713, 714, 715, 716, 717, 718, 719, 720, 721, 722, 723, 724] (by decide +kernel) (by decide +kernel)
set_option maxRecDepth 20000 in
theorem gL_law_X4_reseal : GoodIn wsL_law (wsV RL 27 RX4 yX4_reseal wsX4_reseal) := goodIn_app (goodIn_of _ (by decide +kernel)) ggL_law_X4_reseal
set_option maxRecDepth 20000 in
theorem ggL_law_X3_open : GoodIn wsL_law wsX3_open := goodIn_r _ [204, 16, 15, 75, 76, 77, 14, 78, 31, 79, 80, 81, 82, 32, 33, 34, 35, 36, 37, 38, 39, 40, 41, 205, 206, 207, 208, 87, 88, 89, 90, 163, 164, 165, 166, 167, 168, 209, 210, 211, 212, 213, 214, 215, 216, 185, 186, 187, 188, 98, 99, 100, 101, 217, 218, 219, 220, 221, 222, 223, 224, 225, 226, 227, 228, 229, 230, 231, 232, 233, 234, 235, 236, 237, 238, 239, 240, 241, 242, 243, 102, 103, 104, 2, 105, 22, 106, 107, 108, 21, 109, 48, 47, 110, 111, 112, 113, 114, 706, 707, 708, 709, 710, 711, 725, 726, 727, 728, 729, 730, 731, 732, 733, 734, 735, 736, 737] (by decide +kernel) (by decide +kernel)
set_option maxRecDepth 20000 in
theorem gL_law_X3_open : GoodIn wsL_law (wsV RL 28 RX3 yX3_open wsX3_open) := goodIn_app (goodIn_of _ (by decide +kernel)) ggL_law_X3_open
set_option maxRecDepth 20000 in
theorem ggL_law_X4_open : GoodIn wsL_law wsX4_open := goodIn_r _ [247, 70, 248, 249, 250, 5, 251, 123, 124, 125, 126, 64, 127, 128, 129, 147, 148, 149, 150, 130, 131, 132, 133, 134, 66, 252, 253, 254, 255, 139, 140, 141, 142, 197, 198, 199, 200, 143, 144, 145, 146, 151, 152, 153, 154, 256, 257, 258, 259, 260, 261, 262, 263, 264, 265, 266, 267, 712, 713, 714, 715, 716, 717, 718, 719, 720, 721, 722, 723, 724] (by decide +kernel) (by decide +kernel)
set_option maxRecDepth 20000 in
theorem gL_law_X4_open : GoodIn wsL_law (wsV RL 31 RX4 yX4_open wsX4_open) := goodIn_app (goodIn_of _ (by decide +kernel)) ggL_law_X4_open
set_option maxRecDepth 20000 in
theorem ggL_law_X3_openAll : GoodIn wsL_law wsX3_openAll := goodIn_r _ [271, 16, 15, 75, 76, 77, 14, 78, 31, 79, 80, 81, 82, 32, 33, 34, 35, 36, 37, 38, 39, 40, 41, 272, 273, 274, 275, 276, 277, 278, 279, 280, 281, 282, 283, 166, 167, 168, 163, 164, 165, 284, 206, 207, 208, 87, 88, 89, 90, 209, 210, 211, 212, 213, 214, 215, 216, 185, 186, 187, 188, 98, 99, 100, 101, 217, 218, 219, 220, 221, 222, 223, 224, 225, 226, 227, 228, 229, 230, 231, 232, 233, 234, 235, 236, 237, 238, 239, 240, 241, 242, 243, 102, 103, 104, 2, 105, 22, 106, 107, 108, 21, 109, 48, 47, 110, 111, 112, 113, 114, 706, 707, 708, 709, 710, 711, 725, 726, 727, 728, 729, 730, 731, 732, 733, 734, 735, 736, 737] (by decide +kernel) (by decide +kernel)
set_option maxRecDepth 20000 in
theorem gL_law_X3_openAll : GoodIn wsL_law (wsV RL 32 RX3 yX3_openAll wsX3_openAll) := goodIn_app (goodIn_of _ (by decide +kernel)) ggL_law_X3_openAll
set_option maxRecDepth 20000 in
theorem ggL_law_X4_openAll : GoodIn wsL_law wsX4_openAll := goodIn_r _ [288, 70, 289, 290, 291, 5, 292, 64, 293, 294, 295, 296, 147, 148, 149, 150, 130, 131, 132, 133, 134, 66, 252, 253, 254, 255, 139, 140, 141, 142, 197, 198, 199, 200, 143, 144, 145, 146, 151, 152, 153, 154, 256, 257, 258, 259, 260, 261, 262, 263, 264, 265, 266, 267, 712, 713, 714, 715, 716, 717, 718, 719, 720, 721, 722, 723, 724] (by decide +kernel) (by decide +kernel)
set_option maxRecDepth 20000 in
theorem gL_law_X4_openAll : GoodIn wsL_law (wsV RL 36 RX4 yX4_openAll wsX4_openAll) := goodIn_app (goodIn_of _ (by decide +kernel)) ggL_law_X4_openAll
set_option maxRecDepth 20000 in
theorem ggL_law_X3_set : GoodIn wsL_law wsX3_set := goodIn_r _ [300, 16, 15, 75, 76, 77, 14, 78, 31, 79, 80, 81, 82, 32, 33, 34, 35, 36, 37, 38, 39, 40, 41, 301, 302, 303, 304, 305, 306, 102, 103, 104, 2, 105, 22, 106, 107, 108, 21, 109, 48, 47, 110, 111, 112, 113, 114, 706, 707, 708, 709, 710, 711, 725, 726, 727, 728, 729, 730, 731, 732, 733, 734, 735, 736, 737] (by decide +kernel) (by decide +kernel)
set_option maxRecDepth 20000 in
theorem gL_law_X3_set : GoodIn wsL_law (wsV RL 37 RX3 yX3_set wsX3_set) := goodIn_app (goodIn_of _ (by decide +kernel)) ggL_law_X3_set
set_option maxRecDepth 20000 in
theorem ggL_law_X4_set : GoodIn wsL_law wsX4_set := goodIn_r _ [310, 70, 64, 127, 128, 5, 129, 311, 312, 313, 130, 131, 132, 133, 134, 66, 712, 713, 714, 715, 716, 717, 718, 719, 720, 721, 722, 723, 724] (by decide +kernel) (by decide +kernel)
set_option maxRecDepth 20000 in
theorem gL_law_X4_set : GoodIn wsL_law (wsV RL 40 RX4 yX4_set wsX4_set) := goodIn_app (goodIn_of _ (by decide +kernel)) ggL_law_X4_set
set_option maxRecDepth 20000 in
theorem ggL_law_X3_type : GoodIn wsL_law wsX3_type := goodIn_r _ [317, 26, 318, 319, 320, 25, 321, 54, 53, 706, 707, 708, 709, 710, 711, 738, 739, 740, 741, 742, 743, 744] (by decide +kernel) (by decide +kernel)
set_option maxRecDepth 20000 in
theorem gL_law_X3_type : GoodIn wsL_law (wsV RL 41 RX3 yX3_type wsX3_type) := goodIn_app (goodIn_of _ (by decide +kernel)) ggL_law_X3_type
set_option maxRecDepth 20000 in
theorem ggL_law_X4_type : GoodIn wsL_law wsX4_type := goodIn_r _ [325, 70, 326, 68, 712, 713, 714, 715, 716, 717, 718, 719, 720, 721, 722, 723, 724] (by decide +kernel) (by decide +kernel)
set_option maxRecDepth 20000 in
theorem gL_law_X4_type : GoodIn wsL_law (wsV RL 45 RX4 yX4_type wsX4_type) := goodIn_app (goodIn_of _ (by decide +kernel)) ggL_law_X4_type
set_option maxRecDepth 20000 in
theorem ggL_law_X3_clearText : GoodIn wsL_law wsX3_clearText := goodIn_r _ [330, 26, 331, 332, 333, 25, 334, 54, 706, 707, 708, 709, 710, 711, 738, 739, 740, 741, 742, 743, 744] (by decide +kernel) (by decide +kernel)
set_option maxRecDepth 20000 in
theorem gL_law_X3_clearText : GoodIn wsL_law (wsV RL 46 RX3 yX3_clearText wsX3_clearText) := goodIn_app (goodIn_of _ (by decide +kernel)) ggL_law_X3_clearText
set_option maxRecDepth 20000 in
theorem ggL_law_X4_clearText : GoodIn wsL_law wsX4_clearText := goodIn_r _ [338, 70, 326, 712, 713, 714, 715, 716, 717, 718, 719, 720, 721, 722, 723, 724] (by decide +kernel) (by decide +kernel)
set_option maxRecDepth 20000 in
theorem gL_law_X4_clearText : GoodIn wsL_law (wsV RL 49 RX4 yX4_clearText wsX4_clearText) := goodIn_app (goodIn_of _ (by decide +kernel)) ggL_law_X4_clearText
set_option maxRecDepth 20000 in
theorem ggL_law_X3_perform : GoodIn wsL_law wsX3_perform := goodIn_r _ [342, 26, 16, 15, 343, 344, 345, 25, 346, 55, 54, 347, 348, 349, 350, 351, 352, 353, 354, 57, 355, 356, 357, 358, 56, 359, 360, 361, 362, 53, 363, 364, 365, 366, 58, 367, 368, 369, 370, 371, 372, 373, 374, 375, 376, 377, 378, 59, 379, 380, 381, 382, 383, 384, 385, 386, 75, 76, 77, 14, 78, 31, 79, 80, 81, 82, 32, 33, 34, 35, 36, 37, 38, 39, 40, 41, 387, 388, 389, 390, 391, 392, 393, 394, 2, 395, 396, 397, 398, 399, 400, 401, 402, 403, 404, 405, 406, 407, 408, 409, 410, 411, 83, 84, 85, 86, 87, 88, 89, 90, 91, 92, 93, 94, 95, 96, 97, 98, 99, 100, 101, 205, 206, 207, 208, 163, 164, 165, 166, 167, 168, 209, 210, 211, 212, 213, 214, 215, 216, 185, 186, 187, 188, 217, 218, 219, 220, 221, 222, 223, 224, 225, 226, 227, 228, 229, 230, 231, 232, 233, 234, 235, 236, 237, 238, 239, 240, 241, 242, 243, 159, 160, 161, 162, 181, 182, 183, 184, 412, 413, 414, 102, 103, 104, 105, 22, 106, 107, 108, 21, 109, 48, 47, 110, 111, 112, 113, 114, 706, 707, 708, 709, 710, 711, 738, 739, 740, 741, 742, 743, 744, 725, 726, 727, 728, 729, 730, 731, 732, 733, 734, 735, 736, 737] (by decide +kernel) (by decide +kernel)
set_option maxRecDepth 20000 in
theorem gL_law_X3_perform : GoodIn wsL_law (wsV RL 50 RX3 yX3_perform wsX3_perform) := goodIn_app (goodIn_of _ (by decide +kernel)) ggL_law_X3_perform
set_option maxRecDepth 20000 in
theorem ggL_law_X4_perform : GoodIn wsL_law wsX4_perform := goodIn_r _ [418, 70, 419, 66, 134, 65, 420, 421, 422, 5, 423, 424, 425, 326, 426, 427, 428, 429, 69, 430, 431, 432, 433, 68, 434, 435, 436, 437, 438, 439, 440, 441, 127, 128, 129, 442, 443, 444, 445, 446, 447, 448, 449, 64, 450, 451, 452, 453, 119, 120, 121, 122, 123, 124, 125, 126, 248, 249, 250, 251, 147, 148, 149, 150, 173, 174, 175, 176, 193, 194, 195, 196, 197, 198, 199, 200, 143, 144, 145, 146, 151, 152, 153, 154, 454, 455, 456, 457, 135, 136, 137, 138, 139, 140, 141, 142, 252, 253, 254, 255, 256, 257, 258, 259, 260, 261, 262, 263, 264, 265, 266, 267, 458, 459, 460, 461, 130, 131, 132, 133, 712, 713, 714, 715, 716, 717, 718, 719, 720, 721, 722, 723, 724] (by decide +kernel) (by decide +kernel)
set_option maxRecDepth 20000 in
theorem gL_law_X4_perform : GoodIn wsL_law (wsV RL 53 RX4 yX4_perform wsX4_perform) := goodIn_app (goodIn_of _ (by decide +kernel)) ggL_law_X4_perform
set_option maxRecDepth 20000 in
theorem ggL_law_X3_undo : GoodIn wsL_law wsX3_undo := goodIn_r _ [465, 22, 15, 466, 467, 468, 21, 469, 48, 47, 114, 76, 77, 14, 78, 31, 79, 80, 81, 82, 32, 33, 34, 35, 36, 37, 38, 39, 40, 41, 706, 707, 708, 709, 710, 711, 736, 737, 725, 726, 727, 728, 729, 730, 731, 732, 733, 734, 735] (by decide +kernel) (by decide +kernel)
set_option maxRecDepth 20000 in
theorem gL_law_X3_undo : GoodIn wsL_law (wsV RL 54 RX3 yX3_undo wsX3_undo) := goodIn_app (goodIn_of _ (by decide +kernel)) ggL_law_X3_undo
set_option maxRecDepth 20000 in
theorem ggL_law_X4_undo : GoodIn wsL_law wsX4_undo := goodIn_r _ [473, 70, 134, 64, 66, 712, 713, 714, 715, 716, 717, 718, 719, 720, 721, 722, 723, 724] (by decide +kernel) (by decide +kernel)
set_option maxRecDepth 20000 in
theorem gL_law_X4_undo : GoodIn wsL_law (wsV RL 57 RX4 yX4_undo wsX4_undo) := goodIn_app (goodIn_of _ (by decide +kernel)) ggL_law_X4_undo
set_option maxRecDepth 20000 in
theorem ggL_law_X3_keep : GoodIn wsL_law wsX3_keep := goodIn_r _ [477, 17, 15, 18, 75, 76, 77, 14, 78, 31, 79, 80, 81, 82, 32, 33, 34, 35, 36, 37, 38, 39, 40, 41, 478, 479, 480, 481, 706, 707, 708, 709, 710, 711, 725, 726, 727, 728, 729, 730, 731, 732, 733, 734, 735] (by decide +kernel) (by decide +kernel)
set_option maxRecDepth 20000 in
theorem gL_law_X3_keep : GoodIn wsL_law (wsV RL 58 RX3 yX3_keep wsX3_keep) := goodIn_app (goodIn_of _ (by decide +kernel)) ggL_law_X3_keep
set_option maxRecDepth 20000 in
theorem ggL_law_X4_keep : GoodIn wsL_law wsX4_keep := goodIn_r _ [485, 70, 67, 64, 486, 712, 713, 714, 715, 716, 717, 718, 719, 720, 721, 722, 723, 724] (by decide +kernel) (by decide +kernel)
set_option maxRecDepth 20000 in
theorem gL_law_X4_keep : GoodIn wsL_law (wsV RL 61 RX4 yX4_keep wsX4_keep) := goodIn_app (goodIn_of _ (by decide +kernel)) ggL_law_X4_keep
set_option maxRecDepth 20000 in
theorem ggL_law_X3_restore : GoodIn wsL_law wsX3_restore := goodIn_r _ [490, 18, 16, 15, 17, 75, 76, 77, 14, 78, 31, 79, 80, 81, 82, 32, 33, 34, 35, 36, 37, 38, 39, 40, 41, 478, 479, 480, 481, 102, 103, 104, 2, 105, 22, 106, 107, 108, 21, 109, 48, 47, 110, 111, 112, 113, 114, 706, 707, 708, 709, 710, 711, 725, 726, 727, 728, 729, 730, 731, 732, 733, 734, 735, 736, 737] (by decide +kernel) (by decide +kernel)
set_option maxRecDepth 20000 in
theorem gL_law_X3_restore : GoodIn wsL_law (wsV RL 62 RX3 yX3_restore wsX3_restore) := goodIn_app (goodIn_of _ (by decide +kernel)) ggL_law_X3_restore
set_option maxRecDepth 20000 in
theorem ggL_law_X4_restore : GoodIn wsL_law wsX4_restore := goodIn_r _ [494, 70, 486, 64, 67, 130, 131, 132, 5, 133, 134, 66, 712, 713, 714, 715, 716, 717, 718, 719, 720, 721, 722, 723, 724] (by decide +kernel) (by decide +kernel)
set_option maxRecDepth 20000 in
theorem gL_law_X4_restore : GoodIn wsL_law (wsV RL 65 RX4 yX4_restore wsX4_restore) := goodIn_app (goodIn_of _ (by decide +kernel)) ggL_law_X4_restore
set_option maxRecDepth 20000 in
theorem ggL_law_X3_cart : GoodIn wsL_law wsX3_cart := goodIn_r _ [498, 15, 499, 500, 501, 14, 502, 32, 38, 33, 34, 35, 40, 36, 87, 88, 89, 90, 37, 163, 164, 165, 166, 167, 168, 94, 95, 96, 97, 98, 99, 100, 101, 31, 185, 186, 187, 188, 503, 504, 505, 506, 237, 238, 239, 240, 241, 242, 243, 507, 508, 509, 510, 511, 512, 513, 514, 515, 516, 517, 518, 39, 706, 707, 708, 709, 710, 711, 725, 726, 727, 728, 729, 730, 731, 732, 733, 734, 735] (by decide +kernel) (by decide +kernel)
set_option maxRecDepth 20000 in
theorem gL_law_X3_cart : GoodIn wsL_law (wsV RL 66 RX3 yX3_cart wsX3_cart) := goodIn_app (goodIn_of _ (by decide +kernel)) ggL_law_X3_cart
set_option maxRecDepth 20000 in
theorem ggL_law_X4_cart : GoodIn wsL_law wsX4_cart := goodIn_r _ [522, 70, 123, 124, 125, 5, 126, 64, 127, 128, 129, 147, 148, 149, 150, 143, 144, 145, 146, 151, 152, 153, 154, 197, 198, 199, 200, 523, 524, 525, 526, 527, 528, 529, 530, 531, 532, 533, 534, 535, 536, 537, 538, 539, 540, 541, 542, 712, 713, 714, 715, 716, 717, 718, 719, 720, 721, 722, 723, 724] (by decide +kernel) (by decide +kernel)
set_option maxRecDepth 20000 in
theorem gL_law_X4_cart : GoodIn wsL_law (wsV RL 69 RX4 yX4_cart wsX4_cart) := goodIn_app (goodIn_of _ (by decide +kernel)) ggL_law_X4_cart
set_option maxRecDepth 20000 in
theorem ggL_law_X3_chain : GoodIn wsL_law wsX3_chain := goodIn_r _ [546, 15, 547, 548, 549, 14, 550, 34, 87, 88, 89, 90, 37, 706, 707, 708, 709, 710, 711, 725, 726, 727, 728, 729, 730, 731, 732, 733, 734, 735] (by decide +kernel) (by decide +kernel)
set_option maxRecDepth 20000 in
theorem gL_law_X3_chain : GoodIn wsL_law (wsV RL 70 RX3 yX3_chain wsX3_chain) := goodIn_app (goodIn_of _ (by decide +kernel)) ggL_law_X3_chain
set_option maxRecDepth 20000 in
theorem ggL_law_X4_chain : GoodIn wsL_law wsX4_chain := goodIn_r _ [554, 70, 123, 124, 125, 5, 126, 64, 127, 128, 129, 147, 148, 149, 150, 712, 713, 714, 715, 716, 717, 718, 719, 720, 721, 722, 723, 724] (by decide +kernel) (by decide +kernel)
set_option maxRecDepth 20000 in
theorem gL_law_X4_chain : GoodIn wsL_law (wsV RL 73 RX4 yX4_chain wsX4_chain) := goodIn_app (goodIn_of _ (by decide +kernel)) ggL_law_X4_chain
set_option maxRecDepth 20000 in
theorem ggL_law_X3_brokenIn : GoodIn wsL_law wsX3_brokenIn := goodIn_r _ [558, 15, 559, 560, 561, 14, 562, 34, 87, 88, 89, 90, 37, 185, 186, 187, 188, 35, 32, 98, 99, 100, 101, 31, 706, 707, 708, 709, 710, 711, 725, 726, 727, 728, 729, 730, 731, 732, 733, 734, 735] (by decide +kernel) (by decide +kernel)
set_option maxRecDepth 20000 in
theorem gL_law_X3_brokenIn : GoodIn wsL_law (wsV RL 74 RX3 yX3_brokenIn wsX3_brokenIn) := goodIn_app (goodIn_of _ (by decide +kernel)) ggL_law_X3_brokenIn
set_option maxRecDepth 20000 in
theorem ggL_law_X4_brokenIn : GoodIn wsL_law wsX4_brokenIn := goodIn_r _ [566, 70, 123, 124, 125, 5, 126, 64, 127, 128, 129, 197, 198, 199, 200, 147, 148, 149, 150, 143, 144, 145, 146, 151, 152, 153, 154, 712, 713, 714, 715, 716, 717, 718, 719, 720, 721, 722, 723, 724] (by decide +kernel) (by decide +kernel)
set_option maxRecDepth 20000 in
theorem gL_law_X4_brokenIn : GoodIn wsL_law (wsV RL 77 RX4 yX4_brokenIn wsX4_brokenIn) := goodIn_app (goodIn_of _ (by decide +kernel)) ggL_law_X4_brokenIn
set_option maxRecDepth 20000 in
theorem ggL_law_X3_total : GoodIn wsL_law wsX3_total := goodIn_r _ [570, 22, 26, 15, 571, 572, 573, 21, 574, 48, 575, 576, 577, 25, 578, 54, 579, 580, 581, 14, 582, 31, 37, 38, 40, 39, 41, 237, 238, 239, 240, 241, 242, 243, 583, 584, 585, 586, 185, 186, 187, 188, 35, 32, 98, 99, 100, 101, 34, 587, 588, 589, 590, 36, 591, 592, 593, 594, 595, 596, 215, 597, 503, 504, 505, 506, 87, 88, 89, 90, 166, 167, 168, 598, 599, 600, 601, 507, 508, 509, 510, 602, 603, 604, 605, 33, 163, 164, 165, 706, 707, 708, 709, 710, 711, 736, 737, 738, 739, 740, 741, 742, 743, 744, 725, 726, 727, 728, 729, 730, 731, 732, 733, 734, 735] (by decide +kernel) (by decide +kernel)
set_option maxRecDepth 20000 in
theorem gL_law_X3_total : GoodIn wsL_law (wsV RL 78 RX3 yX3_total wsX3_total) := goodIn_app (goodIn_of _ (by decide +kernel)) ggL_law_X3_total
set_option maxRecDepth 20000 in
theorem ggL_law_X4_total : GoodIn wsL_law wsX4_total := goodIn_r _ [609, 70, 127, 128, 5, 129, 610, 611, 612, 613, 64, 134, 326, 614, 615, 616, 617, 147, 148, 149, 150, 618, 619, 620, 621, 197, 198, 199, 200, 143, 144, 145, 146, 151, 152, 153, 154, 622, 623, 624, 625, 523, 524, 525, 526, 626, 627, 628, 629, 527, 528, 529, 530, 630, 631, 632, 633, 712, 713, 714, 715, 716, 717, 718, 719, 720, 721, 722, 723, 724] (by decide +kernel) (by decide +kernel)
set_option maxRecDepth 20000 in
theorem gL_law_X4_total : GoodIn wsL_law (wsV RL 81 RX4 yX4_total wsX4_total) := goodIn_app (goodIn_of _ (by decide +kernel)) ggL_law_X4_total
set_option maxRecDepth 20000 in
theorem ggL_law_X3_ifOpened : GoodIn wsL_law wsX3_ifOpened := goodIn_r _ [637, 15, 638, 639, 640, 14, 641, 38, 31, 87, 88, 89, 90, 37, 163, 164, 165, 166, 167, 168, 229, 230, 231, 232, 39, 40, 233, 234, 235, 236, 34, 185, 186, 187, 188, 35, 32, 98, 99, 100, 101, 237, 238, 239, 240, 241, 242, 243, 209, 210, 211, 212, 213, 214, 215, 216, 217, 218, 219, 220, 225, 226, 227, 228, 706, 707, 708, 709, 710, 711, 725, 726, 727, 728, 729, 730, 731, 732, 733, 734, 735] (by decide +kernel) (by decide +kernel)
set_option maxRecDepth 20000 in
theorem gL_law_X3_ifOpened : GoodIn wsL_law (wsV RL 82 RX3 yX3_ifOpened wsX3_ifOpened) := goodIn_app (goodIn_of _ (by decide +kernel)) ggL_law_X3_ifOpened
set_option maxRecDepth 20000 in
theorem ggL_law_X4_ifOpened : GoodIn wsL_law wsX4_ifOpened := goodIn_r _ [645, 70, 123, 124, 125, 5, 126, 64, 127, 128, 129, 147, 148, 149, 150, 197, 198, 199, 200, 143, 144, 145, 146, 151, 152, 153, 154, 264, 265, 266, 267, 646, 647, 648, 649, 446, 447, 448, 449, 65, 260, 261, 262, 263, 139, 140, 141, 142, 458, 459, 460, 461, 650, 651, 652, 653, 712, 713, 714, 715, 716, 717, 718, 719, 720, 721, 722, 723, 724] (by decide +kernel) (by decide +kernel)
set_option maxRecDepth 20000 in
theorem gL_law_X4_ifOpened : GoodIn wsL_law (wsV RL 85 RX4 yX4_ifOpened wsX4_ifOpened) := goodIn_app (goodIn_of _ (by decide +kernel)) ggL_law_X4_ifOpened
set_option maxRecDepth 20000 in
theorem ggL_law_X3_fewestOpenings : GoodIn wsL_law wsX3_fewestOpenings := goodIn_r _ [657, 15, 658, 659, 660, 14, 661, 37, 276, 277, 278, 279, 40, 38, 280, 281, 282, 283, 166, 167, 168, 163, 164, 165, 233, 234, 235, 236, 34, 87, 88, 89, 90, 185, 186, 187, 188, 35, 32, 98, 99, 100, 101, 31, 237, 238, 239, 240, 241, 242, 243, 662, 663, 664, 665, 706, 707, 708, 709, 710, 711, 725, 726, 727, 728, 729, 730, 731, 732, 733, 734, 735] (by decide +kernel) (by decide +kernel)
set_option maxRecDepth 20000 in
theorem gL_law_X3_fewestOpenings : GoodIn wsL_law (wsV RL 86 RX3 yX3_fewestOpenings wsX3_fewestOpenings) := goodIn_app (goodIn_of _ (by decide +kernel)) ggL_law_X3_fewestOpenings
set_option maxRecDepth 20000 in
theorem ggL_law_X4_fewestOpenings : GoodIn wsL_law wsX4_fewestOpenings := goodIn_r _ [669, 70, 670, 671, 672, 5, 673, 64, 293, 294, 295, 296, 147, 148, 149, 150, 674, 675, 676, 677, 197, 198, 199, 200, 143, 144, 145, 146, 151, 152, 153, 154, 678, 679, 680, 681, 446, 447, 448, 449, 65, 289, 290, 291, 292, 139, 140, 141, 142, 260, 261, 262, 263, 458, 459, 460, 461, 712, 713, 714, 715, 716, 717, 718, 719, 720, 721, 722, 723, 724] (by decide +kernel) (by decide +kernel)
set_option maxRecDepth 20000 in
theorem gL_law_X4_fewestOpenings : GoodIn wsL_law (wsV RL 89 RX4 yX4_fewestOpenings wsX4_fewestOpenings) := goodIn_app (goodIn_of _ (by decide +kernel)) ggL_law_X4_fewestOpenings
set_option maxRecDepth 20000 in
theorem ggL_law_X3_bestOpening : GoodIn wsL_law wsX3_bestOpening := goodIn_r _ [685, 15, 686, 687, 688, 14, 689, 37, 38, 229, 230, 231, 232, 39, 40, 233, 234, 235, 236, 34, 87, 88, 89, 90, 166, 167, 168, 185, 186, 187, 188, 35, 32, 98, 99, 100, 101, 31, 237, 238, 239, 240, 241, 242, 243, 163, 164, 165, 706, 707, 708, 709, 710, 711, 725, 726, 727, 728, 729, 730, 731, 732, 733, 734, 735] (by decide +kernel) (by decide +kernel)
set_option maxRecDepth 20000 in
theorem gL_law_X3_bestOpening : GoodIn wsL_law (wsV RL 90 RX3 yX3_bestOpening wsX3_bestOpening) := goodIn_app (goodIn_of _ (by decide +kernel)) ggL_law_X3_bestOpening
set_option maxRecDepth 20000 in
theorem ggL_law_X4_bestOpening : GoodIn wsL_law wsX4_bestOpening := goodIn_r _ [693, 70, 64, 147, 148, 149, 5, 150, 646, 647, 648, 649, 446, 447, 448, 449, 65, 260, 261, 262, 263, 139, 140, 141, 142, 197, 198, 199, 200, 143, 144, 145, 146, 151, 152, 153, 154, 458, 459, 460, 461, 712, 713, 714, 715, 716, 717, 718, 719, 720, 721, 722, 723, 724] (by decide +kernel) (by decide +kernel)
set_option maxRecDepth 20000 in
theorem gL_law_X4_bestOpening : GoodIn wsL_law (wsV RL 93 RX4 yX4_bestOpening wsX4_bestOpening) := goodIn_app (goodIn_of _ (by decide +kernel)) ggL_law_X4_bestOpening
set_option maxRecDepth 20000 in
theorem ggL_law_X3_sameSeal : GoodIn wsL_law wsX3_sameSeal := goodIn_r _ [697, 15, 698, 699, 700, 14, 701, 32, 87, 88, 89, 90, 37, 94, 95, 96, 97, 98, 99, 100, 101, 31, 34, 35, 706, 707, 708, 709, 710, 711, 725, 726, 727, 728, 729, 730, 731, 732, 733, 734, 735] (by decide +kernel) (by decide +kernel)
set_option maxRecDepth 20000 in
theorem gL_law_X3_sameSeal : GoodIn wsL_law (wsV RL 94 RX3 yX3_sameSeal wsX3_sameSeal) := goodIn_app (goodIn_of _ (by decide +kernel)) ggL_law_X3_sameSeal
set_option maxRecDepth 20000 in
theorem ggL_law_X4_sameSeal : GoodIn wsL_law wsX4_sameSeal := goodIn_r _ [705, 70, 123, 124, 125, 5, 126, 64, 127, 128, 129, 147, 148, 149, 150, 151, 152, 153, 154, 143, 144, 145, 146, 712, 713, 714, 715, 716, 717, 718, 719, 720, 721, 722, 723, 724] (by decide +kernel) (by decide +kernel)
set_option maxRecDepth 20000 in
theorem gL_law_X4_sameSeal : GoodIn wsL_law (wsV RL 97 RX4 yX4_sameSeal wsX4_sameSeal) := goodIn_app (goodIn_of _ (by decide +kernel)) ggL_law_X4_sameSeal
theorem dL_law_0 : decode cL_law 0 = .ok (.new 7, 3) := by decide +kernel
theorem dL_law_3 : decode cL_law 3 = .ok (.dup, 1) := by decide +kernel
theorem dL_law_4 : decode cL_law 4 = .ok (.invokespecial 9, 3) := by decide +kernel
theorem dL_law_7 : decode cL_law 7 = .ok (.astore_n 1, 1) := by decide +kernel
theorem dL_law_8 : decode cL_law 8 = .ok (.new 10, 3) := by decide +kernel
theorem dL_law_11 : decode cL_law 11 = .ok (.dup, 1) := by decide +kernel
theorem dL_law_12 : decode cL_law 12 = .ok (.invokespecial 12, 3) := by decide +kernel
theorem dL_law_15 : decode cL_law 15 = .ok (.astore_n 2, 1) := by decide +kernel
theorem dL_law_16 : decode cL_law 16 = .ok (.iconst 0, 1) := by decide +kernel
theorem dL_law_17 : decode cL_law 17 = .ok (.istore_n 3, 1) := by decide +kernel
theorem dL_law_18 : decode cL_law 18 = .ok (.iload_n 3, 1) := by decide +kernel
theorem dL_law_19 : decode cL_law 19 = .ok (.aload_n 0, 1) := by decide +kernel
theorem dL_law_20 : decode cL_law 20 = .ok (.arraylength, 1) := by decide +kernel
theorem dL_law_21 : decode cL_law 21 = .ok (.iconst 4, 1) := by decide +kernel
theorem dL_law_22 : decode cL_law 22 = .ok (.isub, 1) := by decide +kernel
theorem dL_law_23 : decode cL_law 23 = .ok (.if_icmp .gt 573, 3) := by decide +kernel
theorem dL_law_26 : decode cL_law 26 = .ok (.aload_n 0, 1) := by decide +kernel
theorem dL_law_27 : decode cL_law 27 = .ok (.iload_n 3, 1) := by decide +kernel
theorem dL_law_28 : decode cL_law 28 = .ok (.iaload, 1) := by decide +kernel
theorem dL_law_29 : decode cL_law 29 = .ok (.bipush 31, 2) := by decide +kernel
theorem dL_law_31 : decode cL_law 31 = .ok (.iand, 1) := by decide +kernel
theorem dL_law_32 : decode cL_law 32 = .ok (.tableswitch 558 0 19 #[96, 139, 172, 195, 218, 231, 264, 289, 302, 315, 328, 341, 354, 387, 420, 443, 466, 499, 522, 535], 96) := by decide +kernel
theorem dL_law_128 : decode cL_law 128 = .ok (.aload_n 1, 1) := by decide +kernel
theorem dL_law_129 : decode cL_law 129 = .ok (.aload_n 0, 1) := by decide +kernel
theorem dL_law_130 : decode cL_law 130 = .ok (.iload_n 3, 1) := by decide +kernel
theorem dL_law_131 : decode cL_law 131 = .ok (.iconst 1, 1) := by decide +kernel
theorem dL_law_132 : decode cL_law 132 = .ok (.iadd, 1) := by decide +kernel
theorem dL_law_133 : decode cL_law 133 = .ok (.iaload, 1) := by decide +kernel
theorem dL_law_134 : decode cL_law 134 = .ok (.aload_n 0, 1) := by decide +kernel
theorem dL_law_135 : decode cL_law 135 = .ok (.iload_n 3, 1) := by decide +kernel
theorem dL_law_136 : decode cL_law 136 = .ok (.iconst 2, 1) := by decide +kernel
theorem dL_law_137 : decode cL_law 137 = .ok (.iadd, 1) := by decide +kernel
theorem dL_law_138 : decode cL_law 138 = .ok (.iaload, 1) := by decide +kernel
theorem dL_law_139 : decode cL_law 139 = .ok (.aload_n 0, 1) := by decide +kernel
theorem dL_law_140 : decode cL_law 140 = .ok (.iload_n 3, 1) := by decide +kernel
theorem dL_law_141 : decode cL_law 141 = .ok (.iconst 3, 1) := by decide +kernel
theorem dL_law_142 : decode cL_law 142 = .ok (.iadd, 1) := by decide +kernel
theorem dL_law_143 : decode cL_law 143 = .ok (.iaload, 1) := by decide +kernel
theorem dL_law_144 : decode cL_law 144 = .ok (.invokevirtual 13, 3) := by decide +kernel
theorem dL_law_147 : decode cL_law 147 = .ok (.aload_n 2, 1) := by decide +kernel
theorem dL_law_148 : decode cL_law 148 = .ok (.aload_n 0, 1) := by decide +kernel
theorem dL_law_149 : decode cL_law 149 = .ok (.iload_n 3, 1) := by decide +kernel
theorem dL_law_150 : decode cL_law 150 = .ok (.iconst 1, 1) := by decide +kernel
theorem dL_law_151 : decode cL_law 151 = .ok (.iadd, 1) := by decide +kernel
theorem dL_law_152 : decode cL_law 152 = .ok (.iaload, 1) := by decide +kernel
theorem dL_law_153 : decode cL_law 153 = .ok (.aload_n 0, 1) := by decide +kernel
theorem dL_law_154 : decode cL_law 154 = .ok (.iload_n 3, 1) := by decide +kernel
theorem dL_law_155 : decode cL_law 155 = .ok (.iconst 2, 1) := by decide +kernel
theorem dL_law_156 : decode cL_law 156 = .ok (.iadd, 1) := by decide +kernel
theorem dL_law_157 : decode cL_law 157 = .ok (.iaload, 1) := by decide +kernel
theorem dL_law_158 : decode cL_law 158 = .ok (.aload_n 0, 1) := by decide +kernel
theorem dL_law_159 : decode cL_law 159 = .ok (.iload_n 3, 1) := by decide +kernel
theorem dL_law_160 : decode cL_law 160 = .ok (.iconst 3, 1) := by decide +kernel
theorem dL_law_161 : decode cL_law 161 = .ok (.iadd, 1) := by decide +kernel
theorem dL_law_162 : decode cL_law 162 = .ok (.iaload, 1) := by decide +kernel
theorem dL_law_163 : decode cL_law 163 = .ok (.invokevirtual 17, 3) := by decide +kernel
theorem dL_law_166 : decode cL_law 166 = .ok (.if_icmp .eq 424, 3) := by decide +kernel
theorem dL_law_169 : decode cL_law 169 = .ok (.iconst 0, 1) := by decide +kernel
theorem dL_law_170 : decode cL_law 170 = .ok (.ireturn, 1) := by decide +kernel
theorem dL_law_171 : decode cL_law 171 = .ok (.aload_n 1, 1) := by decide +kernel
theorem dL_law_172 : decode cL_law 172 = .ok (.aload_n 0, 1) := by decide +kernel
theorem dL_law_173 : decode cL_law 173 = .ok (.iload_n 3, 1) := by decide +kernel
theorem dL_law_174 : decode cL_law 174 = .ok (.iconst 1, 1) := by decide +kernel
theorem dL_law_175 : decode cL_law 175 = .ok (.iadd, 1) := by decide +kernel
theorem dL_law_176 : decode cL_law 176 = .ok (.iaload, 1) := by decide +kernel
theorem dL_law_177 : decode cL_law 177 = .ok (.aload_n 0, 1) := by decide +kernel
theorem dL_law_178 : decode cL_law 178 = .ok (.iload_n 3, 1) := by decide +kernel
theorem dL_law_179 : decode cL_law 179 = .ok (.iconst 2, 1) := by decide +kernel
theorem dL_law_180 : decode cL_law 180 = .ok (.iadd, 1) := by decide +kernel
theorem dL_law_181 : decode cL_law 181 = .ok (.iaload, 1) := by decide +kernel
theorem dL_law_182 : decode cL_law 182 = .ok (.invokevirtual 18, 3) := by decide +kernel
theorem dL_law_185 : decode cL_law 185 = .ok (.aload_n 2, 1) := by decide +kernel
theorem dL_law_186 : decode cL_law 186 = .ok (.aload_n 0, 1) := by decide +kernel
theorem dL_law_187 : decode cL_law 187 = .ok (.iload_n 3, 1) := by decide +kernel
theorem dL_law_188 : decode cL_law 188 = .ok (.iconst 1, 1) := by decide +kernel
theorem dL_law_189 : decode cL_law 189 = .ok (.iadd, 1) := by decide +kernel
theorem dL_law_190 : decode cL_law 190 = .ok (.iaload, 1) := by decide +kernel
theorem dL_law_191 : decode cL_law 191 = .ok (.aload_n 0, 1) := by decide +kernel
theorem dL_law_192 : decode cL_law 192 = .ok (.iload_n 3, 1) := by decide +kernel
theorem dL_law_193 : decode cL_law 193 = .ok (.iconst 2, 1) := by decide +kernel
theorem dL_law_194 : decode cL_law 194 = .ok (.iadd, 1) := by decide +kernel
theorem dL_law_195 : decode cL_law 195 = .ok (.iaload, 1) := by decide +kernel
theorem dL_law_196 : decode cL_law 196 = .ok (.invokevirtual 22, 3) := by decide +kernel
theorem dL_law_199 : decode cL_law 199 = .ok (.if_icmp .eq 391, 3) := by decide +kernel
theorem dL_law_202 : decode cL_law 202 = .ok (.iconst 0, 1) := by decide +kernel
theorem dL_law_203 : decode cL_law 203 = .ok (.ireturn, 1) := by decide +kernel
theorem dL_law_204 : decode cL_law 204 = .ok (.aload_n 1, 1) := by decide +kernel
theorem dL_law_205 : decode cL_law 205 = .ok (.aload_n 0, 1) := by decide +kernel
theorem dL_law_206 : decode cL_law 206 = .ok (.iload_n 3, 1) := by decide +kernel
theorem dL_law_207 : decode cL_law 207 = .ok (.iconst 1, 1) := by decide +kernel
theorem dL_law_208 : decode cL_law 208 = .ok (.iadd, 1) := by decide +kernel
theorem dL_law_209 : decode cL_law 209 = .ok (.iaload, 1) := by decide +kernel
theorem dL_law_210 : decode cL_law 210 = .ok (.invokevirtual 23, 3) := by decide +kernel
theorem dL_law_213 : decode cL_law 213 = .ok (.aload_n 2, 1) := by decide +kernel
theorem dL_law_214 : decode cL_law 214 = .ok (.aload_n 0, 1) := by decide +kernel
theorem dL_law_215 : decode cL_law 215 = .ok (.iload_n 3, 1) := by decide +kernel
theorem dL_law_216 : decode cL_law 216 = .ok (.iconst 1, 1) := by decide +kernel
theorem dL_law_217 : decode cL_law 217 = .ok (.iadd, 1) := by decide +kernel
theorem dL_law_218 : decode cL_law 218 = .ok (.iaload, 1) := by decide +kernel
theorem dL_law_219 : decode cL_law 219 = .ok (.invokevirtual 27, 3) := by decide +kernel
theorem dL_law_222 : decode cL_law 222 = .ok (.if_icmp .eq 368, 3) := by decide +kernel
theorem dL_law_225 : decode cL_law 225 = .ok (.iconst 0, 1) := by decide +kernel
theorem dL_law_226 : decode cL_law 226 = .ok (.ireturn, 1) := by decide +kernel
theorem dL_law_227 : decode cL_law 227 = .ok (.aload_n 1, 1) := by decide +kernel
theorem dL_law_228 : decode cL_law 228 = .ok (.aload_n 0, 1) := by decide +kernel
theorem dL_law_229 : decode cL_law 229 = .ok (.iload_n 3, 1) := by decide +kernel
theorem dL_law_230 : decode cL_law 230 = .ok (.iconst 1, 1) := by decide +kernel
theorem dL_law_231 : decode cL_law 231 = .ok (.iadd, 1) := by decide +kernel
theorem dL_law_232 : decode cL_law 232 = .ok (.iaload, 1) := by decide +kernel
theorem dL_law_233 : decode cL_law 233 = .ok (.invokevirtual 28, 3) := by decide +kernel
theorem dL_law_236 : decode cL_law 236 = .ok (.aload_n 2, 1) := by decide +kernel
theorem dL_law_237 : decode cL_law 237 = .ok (.aload_n 0, 1) := by decide +kernel
theorem dL_law_238 : decode cL_law 238 = .ok (.iload_n 3, 1) := by decide +kernel
theorem dL_law_239 : decode cL_law 239 = .ok (.iconst 1, 1) := by decide +kernel
theorem dL_law_240 : decode cL_law 240 = .ok (.iadd, 1) := by decide +kernel
theorem dL_law_241 : decode cL_law 241 = .ok (.iaload, 1) := by decide +kernel
theorem dL_law_242 : decode cL_law 242 = .ok (.invokevirtual 31, 3) := by decide +kernel
theorem dL_law_245 : decode cL_law 245 = .ok (.if_icmp .eq 345, 3) := by decide +kernel
theorem dL_law_248 : decode cL_law 248 = .ok (.iconst 0, 1) := by decide +kernel
theorem dL_law_249 : decode cL_law 249 = .ok (.ireturn, 1) := by decide +kernel
theorem dL_law_250 : decode cL_law 250 = .ok (.aload_n 1, 1) := by decide +kernel
theorem dL_law_251 : decode cL_law 251 = .ok (.invokevirtual 32, 3) := by decide +kernel
theorem dL_law_254 : decode cL_law 254 = .ok (.aload_n 2, 1) := by decide +kernel
theorem dL_law_255 : decode cL_law 255 = .ok (.invokevirtual 36, 3) := by decide +kernel
theorem dL_law_258 : decode cL_law 258 = .ok (.if_icmp .eq 332, 3) := by decide +kernel
theorem dL_law_261 : decode cL_law 261 = .ok (.iconst 0, 1) := by decide +kernel
theorem dL_law_262 : decode cL_law 262 = .ok (.ireturn, 1) := by decide +kernel
theorem dL_law_263 : decode cL_law 263 = .ok (.aload_n 1, 1) := by decide +kernel
theorem dL_law_264 : decode cL_law 264 = .ok (.aload_n 0, 1) := by decide +kernel
theorem dL_law_265 : decode cL_law 265 = .ok (.iload_n 3, 1) := by decide +kernel
theorem dL_law_266 : decode cL_law 266 = .ok (.iconst 1, 1) := by decide +kernel
theorem dL_law_267 : decode cL_law 267 = .ok (.iadd, 1) := by decide +kernel
theorem dL_law_268 : decode cL_law 268 = .ok (.iaload, 1) := by decide +kernel
theorem dL_law_269 : decode cL_law 269 = .ok (.aload_n 0, 1) := by decide +kernel
theorem dL_law_270 : decode cL_law 270 = .ok (.iload_n 3, 1) := by decide +kernel
theorem dL_law_271 : decode cL_law 271 = .ok (.iconst 2, 1) := by decide +kernel
theorem dL_law_272 : decode cL_law 272 = .ok (.iadd, 1) := by decide +kernel
theorem dL_law_273 : decode cL_law 273 = .ok (.iaload, 1) := by decide +kernel
theorem dL_law_274 : decode cL_law 274 = .ok (.invokevirtual 37, 3) := by decide +kernel
theorem dL_law_277 : decode cL_law 277 = .ok (.aload_n 2, 1) := by decide +kernel
theorem dL_law_278 : decode cL_law 278 = .ok (.aload_n 0, 1) := by decide +kernel
theorem dL_law_279 : decode cL_law 279 = .ok (.iload_n 3, 1) := by decide +kernel
theorem dL_law_280 : decode cL_law 280 = .ok (.iconst 1, 1) := by decide +kernel
theorem dL_law_281 : decode cL_law 281 = .ok (.iadd, 1) := by decide +kernel
theorem dL_law_282 : decode cL_law 282 = .ok (.iaload, 1) := by decide +kernel
theorem dL_law_283 : decode cL_law 283 = .ok (.aload_n 0, 1) := by decide +kernel
theorem dL_law_284 : decode cL_law 284 = .ok (.iload_n 3, 1) := by decide +kernel
theorem dL_law_285 : decode cL_law 285 = .ok (.iconst 2, 1) := by decide +kernel
theorem dL_law_286 : decode cL_law 286 = .ok (.iadd, 1) := by decide +kernel
theorem dL_law_287 : decode cL_law 287 = .ok (.iaload, 1) := by decide +kernel
theorem dL_law_288 : decode cL_law 288 = .ok (.invokevirtual 40, 3) := by decide +kernel
theorem dL_law_291 : decode cL_law 291 = .ok (.if_icmp .eq 299, 3) := by decide +kernel
theorem dL_law_294 : decode cL_law 294 = .ok (.iconst 0, 1) := by decide +kernel
theorem dL_law_295 : decode cL_law 295 = .ok (.ireturn, 1) := by decide +kernel
theorem dL_law_296 : decode cL_law 296 = .ok (.aload_n 1, 1) := by decide +kernel
theorem dL_law_297 : decode cL_law 297 = .ok (.aload_n 0, 1) := by decide +kernel
theorem dL_law_298 : decode cL_law 298 = .ok (.iload_n 3, 1) := by decide +kernel
theorem dL_law_299 : decode cL_law 299 = .ok (.iconst 1, 1) := by decide +kernel
theorem dL_law_300 : decode cL_law 300 = .ok (.iadd, 1) := by decide +kernel
theorem dL_law_301 : decode cL_law 301 = .ok (.iaload, 1) := by decide +kernel
theorem dL_law_302 : decode cL_law 302 = .ok (.i2c, 1) := by decide +kernel
theorem dL_law_303 : decode cL_law 303 = .ok (.invokevirtual 41, 3) := by decide +kernel
theorem dL_law_306 : decode cL_law 306 = .ok (.aload_n 2, 1) := by decide +kernel
theorem dL_law_307 : decode cL_law 307 = .ok (.aload_n 0, 1) := by decide +kernel
theorem dL_law_308 : decode cL_law 308 = .ok (.iload_n 3, 1) := by decide +kernel
theorem dL_law_309 : decode cL_law 309 = .ok (.iconst 1, 1) := by decide +kernel
theorem dL_law_310 : decode cL_law 310 = .ok (.iadd, 1) := by decide +kernel
theorem dL_law_311 : decode cL_law 311 = .ok (.iaload, 1) := by decide +kernel
theorem dL_law_312 : decode cL_law 312 = .ok (.i2c, 1) := by decide +kernel
theorem dL_law_313 : decode cL_law 313 = .ok (.invokevirtual 45, 3) := by decide +kernel
theorem dL_law_316 : decode cL_law 316 = .ok (.if_icmp .eq 274, 3) := by decide +kernel
theorem dL_law_319 : decode cL_law 319 = .ok (.iconst 0, 1) := by decide +kernel
theorem dL_law_320 : decode cL_law 320 = .ok (.ireturn, 1) := by decide +kernel
theorem dL_law_321 : decode cL_law 321 = .ok (.aload_n 1, 1) := by decide +kernel
theorem dL_law_322 : decode cL_law 322 = .ok (.invokevirtual 46, 3) := by decide +kernel
theorem dL_law_325 : decode cL_law 325 = .ok (.aload_n 2, 1) := by decide +kernel
theorem dL_law_326 : decode cL_law 326 = .ok (.invokevirtual 49, 3) := by decide +kernel
theorem dL_law_329 : decode cL_law 329 = .ok (.if_icmp .eq 261, 3) := by decide +kernel
theorem dL_law_332 : decode cL_law 332 = .ok (.iconst 0, 1) := by decide +kernel
theorem dL_law_333 : decode cL_law 333 = .ok (.ireturn, 1) := by decide +kernel
theorem dL_law_334 : decode cL_law 334 = .ok (.aload_n 1, 1) := by decide +kernel
theorem dL_law_335 : decode cL_law 335 = .ok (.invokevirtual 50, 3) := by decide +kernel
theorem dL_law_338 : decode cL_law 338 = .ok (.aload_n 2, 1) := by decide +kernel
theorem dL_law_339 : decode cL_law 339 = .ok (.invokevirtual 53, 3) := by decide +kernel
theorem dL_law_342 : decode cL_law 342 = .ok (.if_icmp .eq 248, 3) := by decide +kernel
theorem dL_law_345 : decode cL_law 345 = .ok (.iconst 0, 1) := by decide +kernel
theorem dL_law_346 : decode cL_law 346 = .ok (.ireturn, 1) := by decide +kernel
theorem dL_law_347 : decode cL_law 347 = .ok (.aload_n 1, 1) := by decide +kernel
theorem dL_law_348 : decode cL_law 348 = .ok (.invokevirtual 54, 3) := by decide +kernel
theorem dL_law_351 : decode cL_law 351 = .ok (.aload_n 2, 1) := by decide +kernel
theorem dL_law_352 : decode cL_law 352 = .ok (.invokevirtual 57, 3) := by decide +kernel
theorem dL_law_355 : decode cL_law 355 = .ok (.if_icmp .eq 235, 3) := by decide +kernel
theorem dL_law_358 : decode cL_law 358 = .ok (.iconst 0, 1) := by decide +kernel
theorem dL_law_359 : decode cL_law 359 = .ok (.ireturn, 1) := by decide +kernel
theorem dL_law_360 : decode cL_law 360 = .ok (.aload_n 1, 1) := by decide +kernel
theorem dL_law_361 : decode cL_law 361 = .ok (.invokevirtual 58, 3) := by decide +kernel
theorem dL_law_364 : decode cL_law 364 = .ok (.aload_n 2, 1) := by decide +kernel
theorem dL_law_365 : decode cL_law 365 = .ok (.invokevirtual 61, 3) := by decide +kernel
theorem dL_law_368 : decode cL_law 368 = .ok (.if_icmp .eq 222, 3) := by decide +kernel
theorem dL_law_371 : decode cL_law 371 = .ok (.iconst 0, 1) := by decide +kernel
theorem dL_law_372 : decode cL_law 372 = .ok (.ireturn, 1) := by decide +kernel
theorem dL_law_373 : decode cL_law 373 = .ok (.aload_n 1, 1) := by decide +kernel
theorem dL_law_374 : decode cL_law 374 = .ok (.invokevirtual 62, 3) := by decide +kernel
theorem dL_law_377 : decode cL_law 377 = .ok (.aload_n 2, 1) := by decide +kernel
theorem dL_law_378 : decode cL_law 378 = .ok (.invokevirtual 65, 3) := by decide +kernel
theorem dL_law_381 : decode cL_law 381 = .ok (.if_icmp .eq 209, 3) := by decide +kernel
theorem dL_law_384 : decode cL_law 384 = .ok (.iconst 0, 1) := by decide +kernel
theorem dL_law_385 : decode cL_law 385 = .ok (.ireturn, 1) := by decide +kernel
theorem dL_law_386 : decode cL_law 386 = .ok (.aload_n 1, 1) := by decide +kernel
theorem dL_law_387 : decode cL_law 387 = .ok (.aload_n 0, 1) := by decide +kernel
theorem dL_law_388 : decode cL_law 388 = .ok (.iload_n 3, 1) := by decide +kernel
theorem dL_law_389 : decode cL_law 389 = .ok (.iconst 1, 1) := by decide +kernel
theorem dL_law_390 : decode cL_law 390 = .ok (.iadd, 1) := by decide +kernel
theorem dL_law_391 : decode cL_law 391 = .ok (.iaload, 1) := by decide +kernel
theorem dL_law_392 : decode cL_law 392 = .ok (.aload_n 0, 1) := by decide +kernel
theorem dL_law_393 : decode cL_law 393 = .ok (.iload_n 3, 1) := by decide +kernel
theorem dL_law_394 : decode cL_law 394 = .ok (.iconst 2, 1) := by decide +kernel
theorem dL_law_395 : decode cL_law 395 = .ok (.iadd, 1) := by decide +kernel
theorem dL_law_396 : decode cL_law 396 = .ok (.iaload, 1) := by decide +kernel
theorem dL_law_397 : decode cL_law 397 = .ok (.invokevirtual 66, 3) := by decide +kernel
theorem dL_law_400 : decode cL_law 400 = .ok (.aload_n 2, 1) := by decide +kernel
theorem dL_law_401 : decode cL_law 401 = .ok (.aload_n 0, 1) := by decide +kernel
theorem dL_law_402 : decode cL_law 402 = .ok (.iload_n 3, 1) := by decide +kernel
theorem dL_law_403 : decode cL_law 403 = .ok (.iconst 1, 1) := by decide +kernel
theorem dL_law_404 : decode cL_law 404 = .ok (.iadd, 1) := by decide +kernel
theorem dL_law_405 : decode cL_law 405 = .ok (.iaload, 1) := by decide +kernel
theorem dL_law_406 : decode cL_law 406 = .ok (.aload_n 0, 1) := by decide +kernel
theorem dL_law_407 : decode cL_law 407 = .ok (.iload_n 3, 1) := by decide +kernel
theorem dL_law_408 : decode cL_law 408 = .ok (.iconst 2, 1) := by decide +kernel
theorem dL_law_409 : decode cL_law 409 = .ok (.iadd, 1) := by decide +kernel
theorem dL_law_410 : decode cL_law 410 = .ok (.iaload, 1) := by decide +kernel
theorem dL_law_411 : decode cL_law 411 = .ok (.invokevirtual 69, 3) := by decide +kernel
theorem dL_law_414 : decode cL_law 414 = .ok (.if_icmp .eq 176, 3) := by decide +kernel
theorem dL_law_417 : decode cL_law 417 = .ok (.iconst 0, 1) := by decide +kernel
theorem dL_law_418 : decode cL_law 418 = .ok (.ireturn, 1) := by decide +kernel
theorem dL_law_419 : decode cL_law 419 = .ok (.aload_n 1, 1) := by decide +kernel
theorem dL_law_420 : decode cL_law 420 = .ok (.aload_n 0, 1) := by decide +kernel
theorem dL_law_421 : decode cL_law 421 = .ok (.iload_n 3, 1) := by decide +kernel
theorem dL_law_422 : decode cL_law 422 = .ok (.iconst 1, 1) := by decide +kernel
theorem dL_law_423 : decode cL_law 423 = .ok (.iadd, 1) := by decide +kernel
theorem dL_law_424 : decode cL_law 424 = .ok (.iaload, 1) := by decide +kernel
theorem dL_law_425 : decode cL_law 425 = .ok (.aload_n 0, 1) := by decide +kernel
theorem dL_law_426 : decode cL_law 426 = .ok (.iload_n 3, 1) := by decide +kernel
theorem dL_law_427 : decode cL_law 427 = .ok (.iconst 2, 1) := by decide +kernel
theorem dL_law_428 : decode cL_law 428 = .ok (.iadd, 1) := by decide +kernel
theorem dL_law_429 : decode cL_law 429 = .ok (.iaload, 1) := by decide +kernel
theorem dL_law_430 : decode cL_law 430 = .ok (.invokevirtual 70, 3) := by decide +kernel
theorem dL_law_433 : decode cL_law 433 = .ok (.aload_n 2, 1) := by decide +kernel
theorem dL_law_434 : decode cL_law 434 = .ok (.aload_n 0, 1) := by decide +kernel
theorem dL_law_435 : decode cL_law 435 = .ok (.iload_n 3, 1) := by decide +kernel
theorem dL_law_436 : decode cL_law 436 = .ok (.iconst 1, 1) := by decide +kernel
theorem dL_law_437 : decode cL_law 437 = .ok (.iadd, 1) := by decide +kernel
theorem dL_law_438 : decode cL_law 438 = .ok (.iaload, 1) := by decide +kernel
theorem dL_law_439 : decode cL_law 439 = .ok (.aload_n 0, 1) := by decide +kernel
theorem dL_law_440 : decode cL_law 440 = .ok (.iload_n 3, 1) := by decide +kernel
theorem dL_law_441 : decode cL_law 441 = .ok (.iconst 2, 1) := by decide +kernel
theorem dL_law_442 : decode cL_law 442 = .ok (.iadd, 1) := by decide +kernel
theorem dL_law_443 : decode cL_law 443 = .ok (.iaload, 1) := by decide +kernel
theorem dL_law_444 : decode cL_law 444 = .ok (.invokevirtual 73, 3) := by decide +kernel
theorem dL_law_447 : decode cL_law 447 = .ok (.if_icmp .eq 143, 3) := by decide +kernel
theorem dL_law_450 : decode cL_law 450 = .ok (.iconst 0, 1) := by decide +kernel
theorem dL_law_451 : decode cL_law 451 = .ok (.ireturn, 1) := by decide +kernel
theorem dL_law_452 : decode cL_law 452 = .ok (.aload_n 1, 1) := by decide +kernel
theorem dL_law_453 : decode cL_law 453 = .ok (.aload_n 0, 1) := by decide +kernel
theorem dL_law_454 : decode cL_law 454 = .ok (.iload_n 3, 1) := by decide +kernel
theorem dL_law_455 : decode cL_law 455 = .ok (.iconst 1, 1) := by decide +kernel
theorem dL_law_456 : decode cL_law 456 = .ok (.iadd, 1) := by decide +kernel
theorem dL_law_457 : decode cL_law 457 = .ok (.iaload, 1) := by decide +kernel
theorem dL_law_458 : decode cL_law 458 = .ok (.invokevirtual 74, 3) := by decide +kernel
theorem dL_law_461 : decode cL_law 461 = .ok (.aload_n 2, 1) := by decide +kernel
theorem dL_law_462 : decode cL_law 462 = .ok (.aload_n 0, 1) := by decide +kernel
theorem dL_law_463 : decode cL_law 463 = .ok (.iload_n 3, 1) := by decide +kernel
theorem dL_law_464 : decode cL_law 464 = .ok (.iconst 1, 1) := by decide +kernel
theorem dL_law_465 : decode cL_law 465 = .ok (.iadd, 1) := by decide +kernel
theorem dL_law_466 : decode cL_law 466 = .ok (.iaload, 1) := by decide +kernel
theorem dL_law_467 : decode cL_law 467 = .ok (.invokevirtual 77, 3) := by decide +kernel
theorem dL_law_470 : decode cL_law 470 = .ok (.if_icmp .eq 120, 3) := by decide +kernel
theorem dL_law_473 : decode cL_law 473 = .ok (.iconst 0, 1) := by decide +kernel
theorem dL_law_474 : decode cL_law 474 = .ok (.ireturn, 1) := by decide +kernel
theorem dL_law_475 : decode cL_law 475 = .ok (.aload_n 1, 1) := by decide +kernel
theorem dL_law_476 : decode cL_law 476 = .ok (.aload_n 0, 1) := by decide +kernel
theorem dL_law_477 : decode cL_law 477 = .ok (.iload_n 3, 1) := by decide +kernel
theorem dL_law_478 : decode cL_law 478 = .ok (.iconst 1, 1) := by decide +kernel
theorem dL_law_479 : decode cL_law 479 = .ok (.iadd, 1) := by decide +kernel
theorem dL_law_480 : decode cL_law 480 = .ok (.iaload, 1) := by decide +kernel
theorem dL_law_481 : decode cL_law 481 = .ok (.invokevirtual 78, 3) := by decide +kernel
theorem dL_law_484 : decode cL_law 484 = .ok (.aload_n 2, 1) := by decide +kernel
theorem dL_law_485 : decode cL_law 485 = .ok (.aload_n 0, 1) := by decide +kernel
theorem dL_law_486 : decode cL_law 486 = .ok (.iload_n 3, 1) := by decide +kernel
theorem dL_law_487 : decode cL_law 487 = .ok (.iconst 1, 1) := by decide +kernel
theorem dL_law_488 : decode cL_law 488 = .ok (.iadd, 1) := by decide +kernel
theorem dL_law_489 : decode cL_law 489 = .ok (.iaload, 1) := by decide +kernel
theorem dL_law_490 : decode cL_law 490 = .ok (.invokevirtual 81, 3) := by decide +kernel
theorem dL_law_493 : decode cL_law 493 = .ok (.if_icmp .eq 97, 3) := by decide +kernel
theorem dL_law_496 : decode cL_law 496 = .ok (.iconst 0, 1) := by decide +kernel
theorem dL_law_497 : decode cL_law 497 = .ok (.ireturn, 1) := by decide +kernel
theorem dL_law_498 : decode cL_law 498 = .ok (.aload_n 1, 1) := by decide +kernel
theorem dL_law_499 : decode cL_law 499 = .ok (.aload_n 0, 1) := by decide +kernel
theorem dL_law_500 : decode cL_law 500 = .ok (.iload_n 3, 1) := by decide +kernel
theorem dL_law_501 : decode cL_law 501 = .ok (.iconst 1, 1) := by decide +kernel
theorem dL_law_502 : decode cL_law 502 = .ok (.iadd, 1) := by decide +kernel
theorem dL_law_503 : decode cL_law 503 = .ok (.iaload, 1) := by decide +kernel
theorem dL_law_504 : decode cL_law 504 = .ok (.aload_n 0, 1) := by decide +kernel
theorem dL_law_505 : decode cL_law 505 = .ok (.iload_n 3, 1) := by decide +kernel
theorem dL_law_506 : decode cL_law 506 = .ok (.iconst 2, 1) := by decide +kernel
theorem dL_law_507 : decode cL_law 507 = .ok (.iadd, 1) := by decide +kernel
theorem dL_law_508 : decode cL_law 508 = .ok (.iaload, 1) := by decide +kernel
theorem dL_law_509 : decode cL_law 509 = .ok (.invokevirtual 82, 3) := by decide +kernel
theorem dL_law_512 : decode cL_law 512 = .ok (.aload_n 2, 1) := by decide +kernel
theorem dL_law_513 : decode cL_law 513 = .ok (.aload_n 0, 1) := by decide +kernel
theorem dL_law_514 : decode cL_law 514 = .ok (.iload_n 3, 1) := by decide +kernel
theorem dL_law_515 : decode cL_law 515 = .ok (.iconst 1, 1) := by decide +kernel
theorem dL_law_516 : decode cL_law 516 = .ok (.iadd, 1) := by decide +kernel
theorem dL_law_517 : decode cL_law 517 = .ok (.iaload, 1) := by decide +kernel
theorem dL_law_518 : decode cL_law 518 = .ok (.aload_n 0, 1) := by decide +kernel
theorem dL_law_519 : decode cL_law 519 = .ok (.iload_n 3, 1) := by decide +kernel
theorem dL_law_520 : decode cL_law 520 = .ok (.iconst 2, 1) := by decide +kernel
theorem dL_law_521 : decode cL_law 521 = .ok (.iadd, 1) := by decide +kernel
theorem dL_law_522 : decode cL_law 522 = .ok (.iaload, 1) := by decide +kernel
theorem dL_law_523 : decode cL_law 523 = .ok (.invokevirtual 85, 3) := by decide +kernel
theorem dL_law_526 : decode cL_law 526 = .ok (.if_icmp .eq 64, 3) := by decide +kernel
theorem dL_law_529 : decode cL_law 529 = .ok (.iconst 0, 1) := by decide +kernel
theorem dL_law_530 : decode cL_law 530 = .ok (.ireturn, 1) := by decide +kernel
theorem dL_law_531 : decode cL_law 531 = .ok (.aload_n 1, 1) := by decide +kernel
theorem dL_law_532 : decode cL_law 532 = .ok (.aload_n 0, 1) := by decide +kernel
theorem dL_law_533 : decode cL_law 533 = .ok (.iload_n 3, 1) := by decide +kernel
theorem dL_law_534 : decode cL_law 534 = .ok (.iconst 1, 1) := by decide +kernel
theorem dL_law_535 : decode cL_law 535 = .ok (.iadd, 1) := by decide +kernel
theorem dL_law_536 : decode cL_law 536 = .ok (.iaload, 1) := by decide +kernel
theorem dL_law_537 : decode cL_law 537 = .ok (.invokevirtual 86, 3) := by decide +kernel
theorem dL_law_540 : decode cL_law 540 = .ok (.aload_n 2, 1) := by decide +kernel
theorem dL_law_541 : decode cL_law 541 = .ok (.aload_n 0, 1) := by decide +kernel
theorem dL_law_542 : decode cL_law 542 = .ok (.iload_n 3, 1) := by decide +kernel
theorem dL_law_543 : decode cL_law 543 = .ok (.iconst 1, 1) := by decide +kernel
theorem dL_law_544 : decode cL_law 544 = .ok (.iadd, 1) := by decide +kernel
theorem dL_law_545 : decode cL_law 545 = .ok (.iaload, 1) := by decide +kernel
theorem dL_law_546 : decode cL_law 546 = .ok (.invokevirtual 89, 3) := by decide +kernel
theorem dL_law_549 : decode cL_law 549 = .ok (.if_icmp .eq 41, 3) := by decide +kernel
theorem dL_law_552 : decode cL_law 552 = .ok (.iconst 0, 1) := by decide +kernel
theorem dL_law_553 : decode cL_law 553 = .ok (.ireturn, 1) := by decide +kernel
theorem dL_law_554 : decode cL_law 554 = .ok (.aload_n 1, 1) := by decide +kernel
theorem dL_law_555 : decode cL_law 555 = .ok (.invokevirtual 90, 3) := by decide +kernel
theorem dL_law_558 : decode cL_law 558 = .ok (.aload_n 2, 1) := by decide +kernel
theorem dL_law_559 : decode cL_law 559 = .ok (.invokevirtual 93, 3) := by decide +kernel
theorem dL_law_562 : decode cL_law 562 = .ok (.if_icmp .eq 28, 3) := by decide +kernel
theorem dL_law_565 : decode cL_law 565 = .ok (.iconst 0, 1) := by decide +kernel
theorem dL_law_566 : decode cL_law 566 = .ok (.ireturn, 1) := by decide +kernel
theorem dL_law_567 : decode cL_law 567 = .ok (.aload_n 1, 1) := by decide +kernel
theorem dL_law_568 : decode cL_law 568 = .ok (.aload_n 0, 1) := by decide +kernel
theorem dL_law_569 : decode cL_law 569 = .ok (.iload_n 3, 1) := by decide +kernel
theorem dL_law_570 : decode cL_law 570 = .ok (.iconst 1, 1) := by decide +kernel
theorem dL_law_571 : decode cL_law 571 = .ok (.iadd, 1) := by decide +kernel
theorem dL_law_572 : decode cL_law 572 = .ok (.iaload, 1) := by decide +kernel
theorem dL_law_573 : decode cL_law 573 = .ok (.invokevirtual 94, 3) := by decide +kernel
theorem dL_law_576 : decode cL_law 576 = .ok (.aload_n 2, 1) := by decide +kernel
theorem dL_law_577 : decode cL_law 577 = .ok (.aload_n 0, 1) := by decide +kernel
theorem dL_law_578 : decode cL_law 578 = .ok (.iload_n 3, 1) := by decide +kernel
theorem dL_law_579 : decode cL_law 579 = .ok (.iconst 1, 1) := by decide +kernel
theorem dL_law_580 : decode cL_law 580 = .ok (.iadd, 1) := by decide +kernel
theorem dL_law_581 : decode cL_law 581 = .ok (.iaload, 1) := by decide +kernel
theorem dL_law_582 : decode cL_law 582 = .ok (.invokevirtual 97, 3) := by decide +kernel
theorem dL_law_585 : decode cL_law 585 = .ok (.if_icmp .eq 5, 3) := by decide +kernel
theorem dL_law_588 : decode cL_law 588 = .ok (.iconst 0, 1) := by decide +kernel
theorem dL_law_589 : decode cL_law 589 = .ok (.ireturn, 1) := by decide +kernel
theorem dL_law_590 : decode cL_law 590 = .ok (.iinc 3 4, 3) := by decide +kernel
theorem dL_law_593 : decode cL_law 593 = .ok (.goto (-575), 3) := by decide +kernel
theorem dL_law_596 : decode cL_law 596 = .ok (.iconst 1, 1) := by decide +kernel
theorem dL_law_597 : decode cL_law 597 = .ok (.ireturn, 1) := by decide +kernel
end
section
/-! my words: a state of an object is a table (slot, place) of ints; a spec is an Option: none where the machine would leave the road -/
abbrev St : Type := Nat → Nat → Int32
def up (σ : St) (k i : Nat) (v : Int32) : St := fun a => if a = k then upd (σ a) i v else σ a
abbrev oob (i : Int32) (n : Nat) : Prop := i < 0 ∨ n ≤ i.toNatClampNeg
theorem og {α : Type} {c : Prop} [Decidable c] {x : Option α} {o : α} (h : (if c then none else x) = some o) : ¬ c ∧ x = some o := by
  by_cases hc : c
  · rw [if_pos hc] at h; cases h
  · rw [if_neg hc] at h; exact ⟨hc, h⟩
theorem ot {α : Type} {c : Prop} [Decidable c] {x : Option α} {o : α} (h : (if c then x else none) = some o) : c ∧ x = some o := by
  by_cases hc : c
  · rw [if_pos hc] at h; exact ⟨hc, h⟩
  · rw [if_neg hc] at h; cases h
theorem ob {α β : Type} {x : Option α} {f : α → Option β} {o : β} (h : x.bind f = some o) : ∃ r, x = some r ∧ f r = some o := by
  cases x with
  | none => cases h
  | some r => exact ⟨r, rfl, h⟩
theorem ip {α : Type} {c : Prop} [Decidable c] {x y o : α} (h : (if c then x else y) = o) (hc : c) : x = o := by rw [if_pos hc] at h; exact h
theorem iq {α : Type} {c : Prop} [Decidable c] {x y o : α} (h : (if c then x else y) = o) (hc : ¬ c) : y = o := by rw [if_neg hc] at h; exact h
abbrev Gx : Type := va_G × (Nat → ClassId)
def gK (G : Gx) (U : State) : Prop := va_K G.1 vwCl [(G.2 0, .int), (G.2 1, .char), (G.2 2, .object RX1)] U
theorem gK.moved {G : Gx} {u U : State} (hvm : u.vm.Alike U.vm) (h : gK G u) : gK G U := va_K.moved hvm h
def pre (G : Gx) (av : List Value) (B : Heap → Prop) : Array Value → State → Prop := va_Pc av (fun U => B U.heap ∧ gK G U)
def QcW (lo hi : Nat) (B : Heap → Prop) (v : Option Value) : Array Value → State → Outcome → State → Prop := fun _ st o t => o = .returned v ∧ B t.heap ∧ va_F (lw_Fr lo hi) st t
theorem pre_blind {G : Gx} {av : List Value} {B : Heap → Prop} : FrameBlind (pre G av B) := fun a U g mk q => ⟨q.1, q.2.1, gK.moved (u := U) (U := U.calling g mk a) (Vm.Alike.refl U.vm) q.2.2⟩
def Cx (p : Program) (m : MethodId) (c : Code) (cc : ByteArray) (nL : Nat) (s : State) (args : Array Value) (Ts : List Cond) (own : String) (G : Gx) : Prop := CallFix p m c cc nL s args Ts own ∧ gK G s
abbrev rmN (k : Nat) : Room := { frames := k, cells := 0, slots := 0, locals := 40 * k }
section MYR
variable {p : Program} {l : Launch} {e : Env} {R : Room} {s : State} {m : MethodId} {args : Array Value} {below : List Frame} {meth : Method} {c : Code} {H : Heap} {locs : List Loc} {cells slots : Nat} {Q : State → Prop}
variable {cc bytes : ByteArray} {pc nL index n maxL : Nat} {ls : Array Slot} {rest st0 As : List Value} {G : Gx} {Ts ws : List Cond} {A : Nat → Prop} {b lo hi : Nat} {own Cn : String} {y : MethodName} {ret : Option FieldType} {rm : Room} {B B2 : Heap → Prop} {r : Int32}
/-- a call of a method that only reads -/
theorem rowV (C : Cx p m c cc nL s args Ts own G) (hM : Met l y ws rm (pre G (.ref b :: As) B) (QcRead r) 0 0 (fun _ => False)) (cw : CallW R s args own Cn index y bytes maxL ret ws rm 0 0 n)
    (hrecv : ∃ cell : Cell, H[b]? = some cell ∧ cell.vm.isStatics = false ∧ s.vm.findClass Cn = some cell.cls) (hB : B H) (hn : As.length = n) (hsz : ls.size = nL) (hst : st0 = As.reverse ++ .ref b :: rest) (hW : (rest.map fun v => v.category).sum ≤ 8)
    (hdg : decode cc pc = .ok (.invokevirtual index, 3)) (hf : cells + 0 ≤ R.cells ∧ slots + 0 ≤ R.slots)
    (kk : W p l e R s m args below meth c H locs cells slots Q (F0 m (pc + 3) ls (.int r :: rest))) : W p l e R s m args below meth c H locs cells slots Q (F0 m pc ls st0) :=
  W.callR (W.runV C.1 hM cw ⟨pre_blind, hrecv, fun U hU hW => ⟨rfl, by rw [hU]; exact hB, gK.moved hW.alike C.2⟩⟩ rfl hn hsz hst (lv_room hW) hdg hf) kk
/-- a call of a static method that only reads -/
theorem rowS (C : Cx p m c cc nL s args Ts own G) (hM : Met l y ws rm (pre G As B) (QcRead r) 0 0 (fun _ => False)) (cw : CallB R s args own index y bytes maxL ret ws rm 0 0 n ∧ (Cond.static y).before args s = true)
    (hB : B H) (hn : As.length = n) (hsz : ls.size = nL) (hst : st0 = As.reverse ++ rest) (hW : (rest.map fun v => v.category).sum ≤ 8)
    (hdg : decode cc pc = .ok (.invokestatic index, 3)) (hf : cells + 0 ≤ R.cells ∧ slots + 0 ≤ R.slots)
    (kk : W p l e R s m args below meth c H locs cells slots Q (F0 m (pc + 3) ls (.int r :: rest))) : W p l e R s m args below meth c H locs cells slots Q (F0 m pc ls st0) :=
  W.callR (W.runS C.1 hM cw ⟨pre_blind, fun U hU hW => ⟨rfl, by rw [hU]; exact hB, gK.moved hW.alike C.2⟩⟩ rfl hn hsz hst (lv_room hW) hdg hf) kk
/-- a call of a method that writes: its cells are those from lo to hi -/
theorem rowW {v : Option Value} (C : Cx p m c cc nL s args Ts own G) (hM : Met l y ws rm (pre G (.ref b :: As) B) (QcW lo hi B2 v) 0 0 (lw_Fr lo hi)) (cw : CallW R s args own Cn index y bytes maxL ret ws rm 0 0 n)
    (hrecv : ∃ cell : Cell, H[b]? = some cell ∧ cell.vm.isStatics = false ∧ s.vm.findClass Cn = some cell.cls) (hB : B H) (hS : va_S A s.heap H locs) (hA : ∀ q, lw_Fr lo hi q → A q) (hn : As.length = n) (hsz : ls.size = nL) (hst : st0 = As.reverse ++ .ref b :: rest) (hW : (rest.map fun v => v.category).sum ≤ 8)
    (hdg : decode cc pc = .ok (.invokevirtual index, 3)) (hf : cells + 0 ≤ R.cells ∧ slots + 0 ≤ R.slots)
    (kk : ∀ (H1 : Heap) (locs1 : List Loc), B2 H1 → va_S A s.heap H1 locs1 → H.size ≤ H1.size → (∀ q : Nat, q < H.size → ¬ lw_Fr lo hi q → H1[q]? = H[q]?) → W p l e R s m args below meth c H1 locs1 cells slots Q (F0 m (pc + 3) ls (v.toList ++ rest))) : W p l e R s m args below meth c H locs cells slots Q (F0 m pc ls st0) := by
  intro T hT X
  obtain ⟨v1, st₀, t, T', L, h0, X', hL, e1, ⟨hv, hb2, hz, hk⟩, st⟩ := W.runV (H := H) (cells := cells) (slots := slots) (locs := locs) C.1 hM cw ⟨pre_blind, hrecv, fun U hU hW => ⟨rfl, by rw [hU]; exact hB, gK.moved hW.alike C.2⟩⟩ rfl hn hsz hst (lv_room hW) hdg hf T hT X
  cases hv
  rw [h0] at hz hk
  obtain ⟨t2, a1, b1⟩ := kk T'.heap (locs ++ L) (by rw [e1]; exact hb2) ⟨Nat.le_trans hS.1 (by rw [e1]; exact hz), fun q h1 h2 => by rw [e1, hk q (Nat.lt_of_lt_of_le h1 hS.1) (fun z => h2 (hA q z))]; exact hS.2.1 q h1 h2, fun q hq => by
      rcases List.mem_append.mp hq with h | h
      · exact hS.2.2 q h
      · exact hA _ (hL q h)⟩ (by rw [e1]; exact hz) (fun q h1 h2 => by rw [e1]; exact hk q h1 h2) T' rfl X'
  exact ⟨t2, st t2 a1, b1⟩
end MYR
/-! the objects: House (7 cells), OrderText (2 cells), the reference (7 cells), one behind the other from b on -/
abbrev hWs (G : Gx) (b : Nat) (σ : St) : va_W := [(b, .inr (1, [.ref (b + 1), .ref (b + 2), .ref (b + 3), .ref (b + 4), .ref (b + 5), .ref (b + 6), .int (σ 6 0), .int (σ 7 0), .int (σ 8 0), .int (σ 9 0), .int (σ 10 0)])), (b + 1, .inl (G.2 0, 5, .inl (σ 0))), (b + 2, .inl (G.2 0, 24, .inl (σ 1))), (b + 3, .inl (G.2 0, 24, .inl (σ 2))), (b + 4, .inl (G.2 0, 24, .inl (σ 3))), (b + 5, .inl (G.2 0, 24, .inl (σ 4))), (b + 6, .inl (G.2 0, 24, .inl (σ 5)))]
abbrev tWs (G : Gx) (b : Nat) (σ : St) : va_W := [(b, .inr (2, [.ref (b + 1), .int (σ 1 0), .int (σ 2 0), .int (σ 3 0), .int (σ 4 0), .int (σ 5 0), .int (σ 6 0)])), (b + 1, .inl (G.2 1, 60, .inl (σ 0)))]
abbrev mWs (G : Gx) (b : Nat) (σ : St) : va_W := [(b, .inr (4, [.int (σ 0 0), .ref (b + 1), .ref (b + 2), .ref (b + 3), .int (σ 4 0), .ref (b + 4), .int (σ 6 0), .ref (b + 5), .int (σ 8 0), .int (σ 9 0), .int (σ 10 0), .ref (b + 6), .int (σ 12 0)])), (b + 1, .inl (G.2 0, 200, .inl (σ 1))), (b + 2, .inl (G.2 0, 200, .inl (σ 2))), (b + 3, .inl (G.2 0, 800, .inl (σ 3))), (b + 4, .inl (G.2 0, 200, .inl (σ 5))), (b + 5, .inl (G.2 0, 60, .inl (σ 7))), (b + 6, .inl (G.2 0, 96, .inl (σ 11)))]
def hAt (G : Gx) (b : Nat) (σ : St) (H : Heap) : Prop := va_P G.1 vwCl (hWs G b σ) H
def tAt (G : Gx) (b : Nat) (σ : St) (H : Heap) : Prop := va_P G.1 vwCl (tWs G b σ) H
def mAt (G : Gx) (b : Nat) (σ : St) (H : Heap) : Prop := va_P G.1 vwCl (mWs G b σ) H
theorem ws_D {ws : va_W} {b n : Nat} (h : ∀ (k : Nat) (q : Nat × va_E), ws[k]? = some q → q.1 = b + k ∧ k < n) : va_D (lw_Fr b (b + n)) ws :=
  ⟨fun i j p q hi hj e => by have h1 := (h i p hi).1; have h2 := (h j q hj).1; omega, fun k q hk => by have h1 := h k q hk; exact ⟨by omega, by omega⟩⟩
theorem hWs_D (G : Gx) (b : Nat) (σ : St) : va_D (lw_Fr b (b + 7)) (hWs G b σ) := ws_D (fun k q h => by
  rcases k with _ | _ | _ | _ | _ | _ | _ | k <;> simp [hWs] at h <;> subst h <;> exact ⟨rfl, by decide⟩)
theorem tWs_D (G : Gx) (b : Nat) (σ : St) : va_D (lw_Fr b (b + 2)) (tWs G b σ) := ws_D (fun k q h => by
  rcases k with _ | _ | k <;> simp [tWs] at h <;> subst h <;> exact ⟨rfl, by decide⟩)
theorem mWs_D (G : Gx) (b : Nat) (σ : St) : va_D (lw_Fr b (b + 7)) (mWs G b σ) := ws_D (fun k q h => by
  rcases k with _ | _ | _ | _ | _ | _ | _ | k <;> simp [mWs] at h <;> subst h <;> exact ⟨rfl, by decide⟩)
end
