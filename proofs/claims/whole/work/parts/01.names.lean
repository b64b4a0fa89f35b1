-- ===== PART A: goes FIRST, ahead of the names: the tables' words, and 'selects' of the private methods out of them =====
/-- a private method of a class that the tables say can be made, by its rows of tables_1 -/
def lw_okq (q : MethodName × Nat) : Prop := (q.1.cls ≠ "java/lang/invoke/MethodHandle" ∧ q.1.cls ≠ "java/lang/invoke/VarHandle") ∧ Cond.instantiable q.1.cls q.2 ∈ tables_1 ∧ Cond.privateMethod q.1 ∈ tables_1 ∧ Cond.instanceMethod q.1 ∈ tables_1
theorem lw_p0 : lw_okq (⟨"PledgeTips", "keepState", "()V"⟩, 7) := ⟨⟨by decide +kernel, by decide +kernel⟩, List.mem_of_getElem? (i := 10) (by decide +kernel), List.mem_of_getElem? (i := 228) (by decide +kernel), List.mem_of_getElem? (i := 229) (by decide +kernel)⟩
theorem lw_p1 : lw_okq (⟨"PledgeTips$Place", "copyFrom", "(LPledgeTips$Place;)V"⟩, 17) := ⟨⟨by decide +kernel, by decide +kernel⟩, List.mem_of_getElem? (i := 18) (by decide +kernel), List.mem_of_getElem? (i := 232) (by decide +kernel), List.mem_of_getElem? (i := 233) (by decide +kernel)⟩
theorem lw_p2 : lw_okq (⟨"PledgeTips$Clerk", "addProject", "(I)I"⟩, 2) := ⟨⟨by decide +kernel, by decide +kernel⟩, List.mem_of_getElem? (i := 140) (by decide +kernel), List.mem_of_getElem? (i := 239) (by decide +kernel), List.mem_of_getElem? (i := 240) (by decide +kernel)⟩
theorem lw_p3 : lw_okq (⟨"PledgeTips", "settle", "(I)I"⟩, 7) := ⟨⟨by decide +kernel, by decide +kernel⟩, List.mem_of_getElem? (i := 10) (by decide +kernel), List.mem_of_getElem? (i := 243) (by decide +kernel), List.mem_of_getElem? (i := 244) (by decide +kernel)⟩
theorem lw_p4 : lw_okq (⟨"PledgeTips", "dropOldest", "()V"⟩, 7) := ⟨⟨by decide +kernel, by decide +kernel⟩, List.mem_of_getElem? (i := 10) (by decide +kernel), List.mem_of_getElem? (i := 247) (by decide +kernel), List.mem_of_getElem? (i := 248) (by decide +kernel)⟩
theorem lw_p5 : lw_okq (⟨"PledgeTips$Clerk", "addPerson", "(I)I"⟩, 2) := ⟨⟨by decide +kernel, by decide +kernel⟩, List.mem_of_getElem? (i := 140) (by decide +kernel), List.mem_of_getElem? (i := 255) (by decide +kernel), List.mem_of_getElem? (i := 256) (by decide +kernel)⟩
theorem lw_p6 : lw_okq (⟨"PledgeTips$Clerk", "makePledge", "(IIIII)I"⟩, 2) := ⟨⟨by decide +kernel, by decide +kernel⟩, List.mem_of_getElem? (i := 140) (by decide +kernel), List.mem_of_getElem? (i := 263) (by decide +kernel), List.mem_of_getElem? (i := 264) (by decide +kernel)⟩
theorem lw_p7 : lw_okq (⟨"PledgeTips$Place", "hasPerson", "(I)Z"⟩, 17) := ⟨⟨by decide +kernel, by decide +kernel⟩, List.mem_of_getElem? (i := 18) (by decide +kernel), List.mem_of_getElem? (i := 267) (by decide +kernel), List.mem_of_getElem? (i := 268) (by decide +kernel)⟩
theorem lw_p8 : lw_okq (⟨"PledgeTips$Place", "hasProject", "(I)Z"⟩, 17) := ⟨⟨by decide +kernel, by decide +kernel⟩, List.mem_of_getElem? (i := 18) (by decide +kernel), List.mem_of_getElem? (i := 271) (by decide +kernel), List.mem_of_getElem? (i := 272) (by decide +kernel)⟩
theorem lw_p9 : lw_okq (⟨"PledgeTips$Clerk", "isCondition", "(IIII)Z"⟩, 2) := ⟨⟨by decide +kernel, by decide +kernel⟩, List.mem_of_getElem? (i := 140) (by decide +kernel), List.mem_of_getElem? (i := 275) (by decide +kernel), List.mem_of_getElem? (i := 276) (by decide +kernel)⟩
theorem lw_p10 : lw_okq (⟨"PledgeTips$Place", "pledgesOf", "(I)I"⟩, 17) := ⟨⟨by decide +kernel, by decide +kernel⟩, List.mem_of_getElem? (i := 18) (by decide +kernel), List.mem_of_getElem? (i := 279) (by decide +kernel), List.mem_of_getElem? (i := 280) (by decide +kernel)⟩
theorem lw_p11 : lw_okq (⟨"PledgeTips$Place", "pledges", "()I"⟩, 17) := ⟨⟨by decide +kernel, by decide +kernel⟩, List.mem_of_getElem? (i := 18) (by decide +kernel), List.mem_of_getElem? (i := 283) (by decide +kernel), List.mem_of_getElem? (i := 284) (by decide +kernel)⟩
theorem lw_p12 : lw_okq (⟨"PledgeTips$Place", "sum", "(I)I"⟩, 17) := ⟨⟨by decide +kernel, by decide +kernel⟩, List.mem_of_getElem? (i := 18) (by decide +kernel), List.mem_of_getElem? (i := 287) (by decide +kernel), List.mem_of_getElem? (i := 288) (by decide +kernel)⟩
theorem lw_p13 : lw_okq (⟨"PledgeTips$Place", "isClosed", "(I)Z"⟩, 17) := ⟨⟨by decide +kernel, by decide +kernel⟩, List.mem_of_getElem? (i := 18) (by decide +kernel), List.mem_of_getElem? (i := 291) (by decide +kernel), List.mem_of_getElem? (i := 292) (by decide +kernel)⟩
theorem lw_p14 : lw_okq (⟨"PledgeTips$Place", "lowestFreeNumber", "()I"⟩, 17) := ⟨⟨by decide +kernel, by decide +kernel⟩, List.mem_of_getElem? (i := 18) (by decide +kernel), List.mem_of_getElem? (i := 295) (by decide +kernel), List.mem_of_getElem? (i := 296) (by decide +kernel)⟩
theorem lw_p15 : lw_okq (⟨"PledgeTips$Place", "hasPledge", "(I)Z"⟩, 17) := ⟨⟨by decide +kernel, by decide +kernel⟩, List.mem_of_getElem? (i := 18) (by decide +kernel), List.mem_of_getElem? (i := 299) (by decide +kernel), List.mem_of_getElem? (i := 300) (by decide +kernel)⟩
def lw_privs_1 : List (MethodName × Nat) := [(⟨"PledgeTips", "keepState", "()V"⟩, 7), (⟨"PledgeTips$Place", "copyFrom", "(LPledgeTips$Place;)V"⟩, 17), (⟨"PledgeTips$Clerk", "addProject", "(I)I"⟩, 2), (⟨"PledgeTips", "settle", "(I)I"⟩, 7), (⟨"PledgeTips", "dropOldest", "()V"⟩, 7), (⟨"PledgeTips$Clerk", "addPerson", "(I)I"⟩, 2), (⟨"PledgeTips$Clerk", "makePledge", "(IIIII)I"⟩, 2), (⟨"PledgeTips$Place", "hasPerson", "(I)Z"⟩, 17), (⟨"PledgeTips$Place", "hasProject", "(I)Z"⟩, 17), (⟨"PledgeTips$Clerk", "isCondition", "(IIII)Z"⟩, 2), (⟨"PledgeTips$Place", "pledgesOf", "(I)I"⟩, 17), (⟨"PledgeTips$Place", "pledges", "()I"⟩, 17), (⟨"PledgeTips$Place", "sum", "(I)I"⟩, 17), (⟨"PledgeTips$Place", "isClosed", "(I)Z"⟩, 17), (⟨"PledgeTips$Place", "lowestFreeNumber", "()I"⟩, 17), (⟨"PledgeTips$Place", "hasPledge", "(I)Z"⟩, 17)]
theorem lw_r1 : ∀ q ∈ lw_privs_1, lw_okq q := List.forall_mem_cons.mpr ⟨lw_p0, List.forall_mem_cons.mpr ⟨lw_p1, List.forall_mem_cons.mpr ⟨lw_p2, List.forall_mem_cons.mpr ⟨lw_p3, List.forall_mem_cons.mpr ⟨lw_p4, List.forall_mem_cons.mpr ⟨lw_p5, List.forall_mem_cons.mpr ⟨lw_p6, List.forall_mem_cons.mpr ⟨lw_p7, List.forall_mem_cons.mpr ⟨lw_p8, List.forall_mem_cons.mpr ⟨lw_p9, List.forall_mem_cons.mpr ⟨lw_p10, List.forall_mem_cons.mpr ⟨lw_p11, List.forall_mem_cons.mpr ⟨lw_p12, List.forall_mem_cons.mpr ⟨lw_p13, List.forall_mem_cons.mpr ⟨lw_p14, List.forall_mem_cons.mpr ⟨lw_p15, fun _ h => absurd h List.not_mem_nil⟩⟩⟩⟩⟩⟩⟩⟩⟩⟩⟩⟩⟩⟩⟩⟩
theorem lw_p16 : lw_okq (⟨"PledgeTips$Clerk", "takeBack", "(I)I"⟩, 2) := ⟨⟨by decide +kernel, by decide +kernel⟩, List.mem_of_getElem? (i := 140) (by decide +kernel), List.mem_of_getElem? (i := 307) (by decide +kernel), List.mem_of_getElem? (i := 308) (by decide +kernel)⟩
theorem lw_p17 : lw_okq (⟨"PledgeTips$Judge", "greatest", "(II)I"⟩, 4) := ⟨⟨by decide +kernel, by decide +kernel⟩, List.mem_of_getElem? (i := 121) (by decide +kernel), List.mem_of_getElem? (i := 312) (by decide +kernel), List.mem_of_getElem? (i := 313) (by decide +kernel)⟩
theorem lw_p18 : lw_okq (⟨"PledgeTips$Judge", "failing", "(II)I"⟩, 4) := ⟨⟨by decide +kernel, by decide +kernel⟩, List.mem_of_getElem? (i := 121) (by decide +kernel), List.mem_of_getElem? (i := 316) (by decide +kernel), List.mem_of_getElem? (i := 317) (by decide +kernel)⟩
theorem lw_p19 : lw_okq (⟨"PledgeTips$Judge", "gather", "(I)V"⟩, 4) := ⟨⟨by decide +kernel, by decide +kernel⟩, List.mem_of_getElem? (i := 121) (by decide +kernel), List.mem_of_getElem? (i := 320) (by decide +kernel), List.mem_of_getElem? (i := 321) (by decide +kernel)⟩
theorem lw_p20 : lw_okq (⟨"PledgeTips$Judge", "holds", "(I)Z"⟩, 4) := ⟨⟨by decide +kernel, by decide +kernel⟩, List.mem_of_getElem? (i := 121) (by decide +kernel), List.mem_of_getElem? (i := 324) (by decide +kernel), List.mem_of_getElem? (i := 325) (by decide +kernel)⟩
theorem lw_p21 : lw_okq (⟨"PledgeTips$Clerk", "collect", "(I)I"⟩, 2) := ⟨⟨by decide +kernel, by decide +kernel⟩, List.mem_of_getElem? (i := 140) (by decide +kernel), List.mem_of_getElem? (i := 332) (by decide +kernel), List.mem_of_getElem? (i := 333) (by decide +kernel)⟩
theorem lw_p22 : lw_okq (⟨"PledgeTips$Place", "pledgesFor", "(I)I"⟩, 17) := ⟨⟨by decide +kernel, by decide +kernel⟩, List.mem_of_getElem? (i := 18) (by decide +kernel), List.mem_of_getElem? (i := 336) (by decide +kernel), List.mem_of_getElem? (i := 337) (by decide +kernel)⟩
theorem lw_p23 : lw_okq (⟨"PledgeTips$Judge", "stand", "()I"⟩, 4) := ⟨⟨by decide +kernel, by decide +kernel⟩, List.mem_of_getElem? (i := 121) (by decide +kernel), List.mem_of_getElem? (i := 345) (by decide +kernel), List.mem_of_getElem? (i := 346) (by decide +kernel)⟩
theorem lw_p24 : lw_okq (⟨"PledgeTips$Judge", "standWithout", "(I)I"⟩, 4) := ⟨⟨by decide +kernel, by decide +kernel⟩, List.mem_of_getElem? (i := 121) (by decide +kernel), List.mem_of_getElem? (i := 349) (by decide +kernel), List.mem_of_getElem? (i := 350) (by decide +kernel)⟩
theorem lw_p25 : lw_okq (⟨"PledgeTips", "fallOf", "(I)I"⟩, 7) := ⟨⟨by decide +kernel, by decide +kernel⟩, List.mem_of_getElem? (i := 10) (by decide +kernel), List.mem_of_getElem? (i := 354) (by decide +kernel), List.mem_of_getElem? (i := 355) (by decide +kernel)⟩
theorem lw_p26 : lw_okq (⟨"PledgeTips$Judge", "waveOf", "(I)I"⟩, 4) := ⟨⟨by decide +kernel, by decide +kernel⟩, List.mem_of_getElem? (i := 121) (by decide +kernel), List.mem_of_getElem? (i := 358) (by decide +kernel), List.mem_of_getElem? (i := 359) (by decide +kernel)⟩
theorem lw_p27 : lw_okq (⟨"PledgeTips", "toppledBy", "(I)I"⟩, 7) := ⟨⟨by decide +kernel, by decide +kernel⟩, List.mem_of_getElem? (i := 10) (by decide +kernel), List.mem_of_getElem? (i := 362) (by decide +kernel), List.mem_of_getElem? (i := 363) (by decide +kernel)⟩
theorem lw_p28 : lw_okq (⟨"PledgeTips$Judge", "fallenWithout", "(I)I"⟩, 4) := ⟨⟨by decide +kernel, by decide +kernel⟩, List.mem_of_getElem? (i := 121) (by decide +kernel), List.mem_of_getElem? (i := 366) (by decide +kernel), List.mem_of_getElem? (i := 367) (by decide +kernel)⟩
theorem lw_p29 : lw_okq (⟨"PledgeTips$Judge", "hasGoal", "(I)Z"⟩, 4) := ⟨⟨by decide +kernel, by decide +kernel⟩, List.mem_of_getElem? (i := 121) (by decide +kernel), List.mem_of_getElem? (i := 378) (by decide +kernel), List.mem_of_getElem? (i := 379) (by decide +kernel)⟩
theorem lw_p30 : lw_okq (⟨"PledgeTips$Judge", "reaches", "(III)Z"⟩, 4) := ⟨⟨by decide +kernel, by decide +kernel⟩, List.mem_of_getElem? (i := 121) (by decide +kernel), List.mem_of_getElem? (i := 382) (by decide +kernel), List.mem_of_getElem? (i := 383) (by decide +kernel)⟩
theorem lw_p31 : lw_okq (⟨"PledgeTips$Judge", "tip", "(I)I"⟩, 4) := ⟨⟨by decide +kernel, by decide +kernel⟩, List.mem_of_getElem? (i := 121) (by decide +kernel), List.mem_of_getElem? (i := 388) (by decide +kernel), List.mem_of_getElem? (i := 389) (by decide +kernel)⟩
def lw_privs_2 : List (MethodName × Nat) := [(⟨"PledgeTips$Clerk", "takeBack", "(I)I"⟩, 2), (⟨"PledgeTips$Judge", "greatest", "(II)I"⟩, 4), (⟨"PledgeTips$Judge", "failing", "(II)I"⟩, 4), (⟨"PledgeTips$Judge", "gather", "(I)V"⟩, 4), (⟨"PledgeTips$Judge", "holds", "(I)Z"⟩, 4), (⟨"PledgeTips$Clerk", "collect", "(I)I"⟩, 2), (⟨"PledgeTips$Place", "pledgesFor", "(I)I"⟩, 17), (⟨"PledgeTips$Judge", "stand", "()I"⟩, 4), (⟨"PledgeTips$Judge", "standWithout", "(I)I"⟩, 4), (⟨"PledgeTips", "fallOf", "(I)I"⟩, 7), (⟨"PledgeTips$Judge", "waveOf", "(I)I"⟩, 4), (⟨"PledgeTips", "toppledBy", "(I)I"⟩, 7), (⟨"PledgeTips$Judge", "fallenWithout", "(I)I"⟩, 4), (⟨"PledgeTips$Judge", "hasGoal", "(I)Z"⟩, 4), (⟨"PledgeTips$Judge", "reaches", "(III)Z"⟩, 4), (⟨"PledgeTips$Judge", "tip", "(I)I"⟩, 4)]
theorem lw_r2 : ∀ q ∈ lw_privs_2, lw_okq q := List.forall_mem_cons.mpr ⟨lw_p16, List.forall_mem_cons.mpr ⟨lw_p17, List.forall_mem_cons.mpr ⟨lw_p18, List.forall_mem_cons.mpr ⟨lw_p19, List.forall_mem_cons.mpr ⟨lw_p20, List.forall_mem_cons.mpr ⟨lw_p21, List.forall_mem_cons.mpr ⟨lw_p22, List.forall_mem_cons.mpr ⟨lw_p23, List.forall_mem_cons.mpr ⟨lw_p24, List.forall_mem_cons.mpr ⟨lw_p25, List.forall_mem_cons.mpr ⟨lw_p26, List.forall_mem_cons.mpr ⟨lw_p27, List.forall_mem_cons.mpr ⟨lw_p28, List.forall_mem_cons.mpr ⟨lw_p29, List.forall_mem_cons.mpr ⟨lw_p30, List.forall_mem_cons.mpr ⟨lw_p31, fun _ h => absurd h List.not_mem_nil⟩⟩⟩⟩⟩⟩⟩⟩⟩⟩⟩⟩⟩⟩⟩⟩
theorem lw_p32 : lw_okq (⟨"PledgeTips$Place", "pledgesUpTo", "(I)I"⟩, 17) := ⟨⟨by decide +kernel, by decide +kernel⟩, List.mem_of_getElem? (i := 18) (by decide +kernel), List.mem_of_getElem? (i := 393) (by decide +kernel), List.mem_of_getElem? (i := 394) (by decide +kernel)⟩
theorem lw_p33 : lw_okq (⟨"PledgeTips$Judge", "needed", "(I)I"⟩, 4) := ⟨⟨by decide +kernel, by decide +kernel⟩, List.mem_of_getElem? (i := 121) (by decide +kernel), List.mem_of_getElem? (i := 397) (by decide +kernel), List.mem_of_getElem? (i := 398) (by decide +kernel)⟩
theorem lw_p34 : lw_okq (⟨"PledgeTips$Judge", "push", "(I)I"⟩, 4) := ⟨⟨by decide +kernel, by decide +kernel⟩, List.mem_of_getElem? (i := 121) (by decide +kernel), List.mem_of_getElem? (i := 402) (by decide +kernel), List.mem_of_getElem? (i := 403) (by decide +kernel)⟩
theorem lw_p35 : lw_okq (⟨"PledgeTips$Judge", "reachesWith", "(II)Z"⟩, 4) := ⟨⟨by decide +kernel, by decide +kernel⟩, List.mem_of_getElem? (i := 121) (by decide +kernel), List.mem_of_getElem? (i := 407) (by decide +kernel), List.mem_of_getElem? (i := 408) (by decide +kernel)⟩
theorem lw_p36 : lw_okq (⟨"PledgeTips$Place", "thinkOfExtra", "(II)V"⟩, 17) := ⟨⟨by decide +kernel, by decide +kernel⟩, List.mem_of_getElem? (i := 18) (by decide +kernel), List.mem_of_getElem? (i := 411) (by decide +kernel), List.mem_of_getElem? (i := 412) (by decide +kernel)⟩
theorem lw_p37 : lw_okq (⟨"PledgeTips", "errorOfSet", "(I)I"⟩, 7) := ⟨⟨by decide +kernel, by decide +kernel⟩, List.mem_of_getElem? (i := 10) (by decide +kernel), List.mem_of_getElem? (i := 431) (by decide +kernel), List.mem_of_getElem? (i := 432) (by decide +kernel)⟩
theorem lw_p38 : lw_okq (⟨"PledgeTips", "keyOf", "(II)J"⟩, 7) := ⟨⟨by decide +kernel, by decide +kernel⟩, List.mem_of_getElem? (i := 10) (by decide +kernel), List.mem_of_getElem? (i := 447) (by decide +kernel), List.mem_of_getElem? (i := 448) (by decide +kernel)⟩
theorem lw_p39 : lw_okq (⟨"PledgeTips", "keysBelow", "(J)I"⟩, 7) := ⟨⟨by decide +kernel, by decide +kernel⟩, List.mem_of_getElem? (i := 10) (by decide +kernel), List.mem_of_getElem? (i := 452) (by decide +kernel), List.mem_of_getElem? (i := 453) (by decide +kernel)⟩
theorem lw_p40 : lw_okq (⟨"PledgeTips$Judge", "waves", "()I"⟩, 4) := ⟨⟨by decide +kernel, by decide +kernel⟩, List.mem_of_getElem? (i := 121) (by decide +kernel), List.mem_of_getElem? (i := 460) (by decide +kernel), List.mem_of_getElem? (i := 461) (by decide +kernel)⟩
theorem lw_p41 : lw_okq (⟨"PledgeTips$Judge", "setsThatHold", "()I"⟩, 4) := ⟨⟨by decide +kernel, by decide +kernel⟩, List.mem_of_getElem? (i := 121) (by decide +kernel), List.mem_of_getElem? (i := 464) (by decide +kernel), List.mem_of_getElem? (i := 465) (by decide +kernel)⟩
theorem lw_p42 : lw_okq (⟨"PledgeTips$Judge", "projectsWithGoal", "()I"⟩, 4) := ⟨⟨by decide +kernel, by decide +kernel⟩, List.mem_of_getElem? (i := 121) (by decide +kernel), List.mem_of_getElem? (i := 468) (by decide +kernel), List.mem_of_getElem? (i := 469) (by decide +kernel)⟩
theorem lw_p43 : lw_okq (⟨"PledgeTips$Script", "append", "(C)I"⟩, 9) := ⟨⟨by decide +kernel, by decide +kernel⟩, List.mem_of_getElem? (i := 153) (by decide +kernel), List.mem_of_getElem? (i := 481) (by decide +kernel), List.mem_of_getElem? (i := 482) (by decide +kernel)⟩
theorem lw_p44 : lw_okq (⟨"PledgeTips$Script", "empty", "()I"⟩, 9) := ⟨⟨by decide +kernel, by decide +kernel⟩, List.mem_of_getElem? (i := 153) (by decide +kernel), List.mem_of_getElem? (i := 489) (by decide +kernel), List.mem_of_getElem? (i := 490) (by decide +kernel)⟩
theorem lw_p45 : lw_okq (⟨"PledgeTips$Script", "tryOn", "(LPledgeTips$Place;)V"⟩, 9) := ⟨⟨by decide +kernel, by decide +kernel⟩, List.mem_of_getElem? (i := 153) (by decide +kernel), List.mem_of_getElem? (i := 497) (by decide +kernel), List.mem_of_getElem? (i := 498) (by decide +kernel)⟩
theorem lw_p46 : lw_okq (⟨"PledgeTips$Script", "tellFault", "(III)V"⟩, 9) := ⟨⟨by decide +kernel, by decide +kernel⟩, List.mem_of_getElem? (i := 153) (by decide +kernel), List.mem_of_getElem? (i := 502) (by decide +kernel), List.mem_of_getElem? (i := 503) (by decide +kernel)⟩
theorem lw_p47 : lw_okq (⟨"PledgeTips$Script", "readCommand", "(I)I"⟩, 9) := ⟨⟨by decide +kernel, by decide +kernel⟩, List.mem_of_getElem? (i := 153) (by decide +kernel), List.mem_of_getElem? (i := 506) (by decide +kernel), List.mem_of_getElem? (i := 507) (by decide +kernel)⟩
def lw_privs_3 : List (MethodName × Nat) := [(⟨"PledgeTips$Place", "pledgesUpTo", "(I)I"⟩, 17), (⟨"PledgeTips$Judge", "needed", "(I)I"⟩, 4), (⟨"PledgeTips$Judge", "push", "(I)I"⟩, 4), (⟨"PledgeTips$Judge", "reachesWith", "(II)Z"⟩, 4), (⟨"PledgeTips$Place", "thinkOfExtra", "(II)V"⟩, 17), (⟨"PledgeTips", "errorOfSet", "(I)I"⟩, 7), (⟨"PledgeTips", "keyOf", "(II)J"⟩, 7), (⟨"PledgeTips", "keysBelow", "(J)I"⟩, 7), (⟨"PledgeTips$Judge", "waves", "()I"⟩, 4), (⟨"PledgeTips$Judge", "setsThatHold", "()I"⟩, 4), (⟨"PledgeTips$Judge", "projectsWithGoal", "()I"⟩, 4), (⟨"PledgeTips$Script", "append", "(C)I"⟩, 9), (⟨"PledgeTips$Script", "empty", "()I"⟩, 9), (⟨"PledgeTips$Script", "tryOn", "(LPledgeTips$Place;)V"⟩, 9), (⟨"PledgeTips$Script", "tellFault", "(III)V"⟩, 9), (⟨"PledgeTips$Script", "readCommand", "(I)I"⟩, 9)]
theorem lw_r3 : ∀ q ∈ lw_privs_3, lw_okq q := List.forall_mem_cons.mpr ⟨lw_p32, List.forall_mem_cons.mpr ⟨lw_p33, List.forall_mem_cons.mpr ⟨lw_p34, List.forall_mem_cons.mpr ⟨lw_p35, List.forall_mem_cons.mpr ⟨lw_p36, List.forall_mem_cons.mpr ⟨lw_p37, List.forall_mem_cons.mpr ⟨lw_p38, List.forall_mem_cons.mpr ⟨lw_p39, List.forall_mem_cons.mpr ⟨lw_p40, List.forall_mem_cons.mpr ⟨lw_p41, List.forall_mem_cons.mpr ⟨lw_p42, List.forall_mem_cons.mpr ⟨lw_p43, List.forall_mem_cons.mpr ⟨lw_p44, List.forall_mem_cons.mpr ⟨lw_p45, List.forall_mem_cons.mpr ⟨lw_p46, List.forall_mem_cons.mpr ⟨lw_p47, fun _ h => absurd h List.not_mem_nil⟩⟩⟩⟩⟩⟩⟩⟩⟩⟩⟩⟩⟩⟩⟩⟩
theorem lw_p48 : lw_okq (⟨"PledgeTips$Script", "signAt", "(I)C"⟩, 9) := ⟨⟨by decide +kernel, by decide +kernel⟩, List.mem_of_getElem? (i := 153) (by decide +kernel), List.mem_of_getElem? (i := 510) (by decide +kernel), List.mem_of_getElem? (i := 511) (by decide +kernel)⟩
theorem lw_p49 : lw_okq (⟨"PledgeTips$Script", "numbersBehind", "(C)I"⟩, 9) := ⟨⟨by decide +kernel, by decide +kernel⟩, List.mem_of_getElem? (i := 153) (by decide +kernel), List.mem_of_getElem? (i := 514) (by decide +kernel), List.mem_of_getElem? (i := 515) (by decide +kernel)⟩
theorem lw_p50 : lw_okq (⟨"PledgeTips$Script", "readNumber", "(II)I"⟩, 9) := ⟨⟨by decide +kernel, by decide +kernel⟩, List.mem_of_getElem? (i := 153) (by decide +kernel), List.mem_of_getElem? (i := 518) (by decide +kernel), List.mem_of_getElem? (i := 519) (by decide +kernel)⟩
theorem lw_p51 : lw_okq (⟨"PledgeTips$Script", "doCommand", "(C)I"⟩, 9) := ⟨⟨by decide +kernel, by decide +kernel⟩, List.mem_of_getElem? (i := 153) (by decide +kernel), List.mem_of_getElem? (i := 522) (by decide +kernel), List.mem_of_getElem? (i := 523) (by decide +kernel)⟩
theorem lw_p52 : lw_okq (⟨"PledgeTips$Script", "hasFault", "()Z"⟩, 9) := ⟨⟨by decide +kernel, by decide +kernel⟩, List.mem_of_getElem? (i := 153) (by decide +kernel), List.mem_of_getElem? (i := 535) (by decide +kernel), List.mem_of_getElem? (i := 536) (by decide +kernel)⟩
theorem lw_p53 : lw_okq (⟨"PledgeTipsModel", "begins", "()V"⟩, 15) := ⟨⟨by decide +kernel, by decide +kernel⟩, List.mem_of_getElem? (i := 539) (by decide +kernel), List.mem_of_getElem? (i := 595) (by decide +kernel), List.mem_of_getElem? (i := 596) (by decide +kernel)⟩
theorem lw_p54 : lw_okq (⟨"PledgeTipsModel", "adds", "(I)I"⟩, 15) := ⟨⟨by decide +kernel, by decide +kernel⟩, List.mem_of_getElem? (i := 539) (by decide +kernel), List.mem_of_getElem? (i := 599) (by decide +kernel), List.mem_of_getElem? (i := 600) (by decide +kernel)⟩
theorem lw_p55 : lw_okq (⟨"PledgeTipsModel", "acted", "(I)I"⟩, 15) := ⟨⟨by decide +kernel, by decide +kernel⟩, List.mem_of_getElem? (i := 539) (by decide +kernel), List.mem_of_getElem? (i := 606) (by decide +kernel), List.mem_of_getElem? (i := 607) (by decide +kernel)⟩
theorem lw_p56 : lw_okq (⟨"PledgeTipsModel", "comes", "(I)I"⟩, 15) := ⟨⟨by decide +kernel, by decide +kernel⟩, List.mem_of_getElem? (i := 539) (by decide +kernel), List.mem_of_getElem? (i := 614) (by decide +kernel), List.mem_of_getElem? (i := 615) (by decide +kernel)⟩
theorem lw_p57 : lw_okq (⟨"PledgeTipsModel", "makes", "(IIIII)I"⟩, 15) := ⟨⟨by decide +kernel, by decide +kernel⟩, List.mem_of_getElem? (i := 539) (by decide +kernel), List.mem_of_getElem? (i := 622) (by decide +kernel), List.mem_of_getElem? (i := 623) (by decide +kernel)⟩
theorem lw_p58 : lw_okq (⟨"PledgeTipsModel", "isPerson", "(I)Z"⟩, 15) := ⟨⟨by decide +kernel, by decide +kernel⟩, List.mem_of_getElem? (i := 539) (by decide +kernel), List.mem_of_getElem? (i := 626) (by decide +kernel), List.mem_of_getElem? (i := 627) (by decide +kernel)⟩
theorem lw_p59 : lw_okq (⟨"PledgeTipsModel", "isProject", "(I)Z"⟩, 15) := ⟨⟨by decide +kernel, by decide +kernel⟩, List.mem_of_getElem? (i := 539) (by decide +kernel), List.mem_of_getElem? (i := 630) (by decide +kernel), List.mem_of_getElem? (i := 631) (by decide +kernel)⟩
theorem lw_p60 : lw_okq (⟨"PledgeTipsModel", "isCondition", "(IIII)Z"⟩, 15) := ⟨⟨by decide +kernel, by decide +kernel⟩, List.mem_of_getElem? (i := 539) (by decide +kernel), List.mem_of_getElem? (i := 634) (by decide +kernel), List.mem_of_getElem? (i := 635) (by decide +kernel)⟩
theorem lw_p61 : lw_okq (⟨"PledgeTipsModel", "isClosed", "(I)Z"⟩, 15) := ⟨⟨by decide +kernel, by decide +kernel⟩, List.mem_of_getElem? (i := 539) (by decide +kernel), List.mem_of_getElem? (i := 638) (by decide +kernel), List.mem_of_getElem? (i := 639) (by decide +kernel)⟩
theorem lw_p62 : lw_okq (⟨"PledgeTipsModel", "ofPerson", "(I)I"⟩, 15) := ⟨⟨by decide +kernel, by decide +kernel⟩, List.mem_of_getElem? (i := 539) (by decide +kernel), List.mem_of_getElem? (i := 642) (by decide +kernel), List.mem_of_getElem? (i := 643) (by decide +kernel)⟩
theorem lw_p63 : lw_okq (⟨"PledgeTipsModel", "of", "(II)I"⟩, 15) := ⟨⟨by decide +kernel, by decide +kernel⟩, List.mem_of_getElem? (i := 539) (by decide +kernel), List.mem_of_getElem? (i := 646) (by decide +kernel), List.mem_of_getElem? (i := 647) (by decide +kernel)⟩
def lw_privs_4 : List (MethodName × Nat) := [(⟨"PledgeTips$Script", "signAt", "(I)C"⟩, 9), (⟨"PledgeTips$Script", "numbersBehind", "(C)I"⟩, 9), (⟨"PledgeTips$Script", "readNumber", "(II)I"⟩, 9), (⟨"PledgeTips$Script", "doCommand", "(C)I"⟩, 9), (⟨"PledgeTips$Script", "hasFault", "()Z"⟩, 9), (⟨"PledgeTipsModel", "begins", "()V"⟩, 15), (⟨"PledgeTipsModel", "adds", "(I)I"⟩, 15), (⟨"PledgeTipsModel", "acted", "(I)I"⟩, 15), (⟨"PledgeTipsModel", "comes", "(I)I"⟩, 15), (⟨"PledgeTipsModel", "makes", "(IIIII)I"⟩, 15), (⟨"PledgeTipsModel", "isPerson", "(I)Z"⟩, 15), (⟨"PledgeTipsModel", "isProject", "(I)Z"⟩, 15), (⟨"PledgeTipsModel", "isCondition", "(IIII)Z"⟩, 15), (⟨"PledgeTipsModel", "isClosed", "(I)Z"⟩, 15), (⟨"PledgeTipsModel", "ofPerson", "(I)I"⟩, 15), (⟨"PledgeTipsModel", "of", "(II)I"⟩, 15)]
theorem lw_r4 : ∀ q ∈ lw_privs_4, lw_okq q := List.forall_mem_cons.mpr ⟨lw_p48, List.forall_mem_cons.mpr ⟨lw_p49, List.forall_mem_cons.mpr ⟨lw_p50, List.forall_mem_cons.mpr ⟨lw_p51, List.forall_mem_cons.mpr ⟨lw_p52, List.forall_mem_cons.mpr ⟨lw_p53, List.forall_mem_cons.mpr ⟨lw_p54, List.forall_mem_cons.mpr ⟨lw_p55, List.forall_mem_cons.mpr ⟨lw_p56, List.forall_mem_cons.mpr ⟨lw_p57, List.forall_mem_cons.mpr ⟨lw_p58, List.forall_mem_cons.mpr ⟨lw_p59, List.forall_mem_cons.mpr ⟨lw_p60, List.forall_mem_cons.mpr ⟨lw_p61, List.forall_mem_cons.mpr ⟨lw_p62, List.forall_mem_cons.mpr ⟨lw_p63, fun _ h => absurd h List.not_mem_nil⟩⟩⟩⟩⟩⟩⟩⟩⟩⟩⟩⟩⟩⟩⟩⟩
theorem lw_p64 : lw_okq (⟨"PledgeTipsModel", "open", "()I"⟩, 15) := ⟨⟨by decide +kernel, by decide +kernel⟩, List.mem_of_getElem? (i := 539) (by decide +kernel), List.mem_of_getElem? (i := 650) (by decide +kernel), List.mem_of_getElem? (i := 651) (by decide +kernel)⟩
theorem lw_p65 : lw_okq (⟨"PledgeTipsModel", "pledges", "(ZZ)I"⟩, 15) := ⟨⟨by decide +kernel, by decide +kernel⟩, List.mem_of_getElem? (i := 539) (by decide +kernel), List.mem_of_getElem? (i := 654) (by decide +kernel), List.mem_of_getElem? (i := 655) (by decide +kernel)⟩
theorem lw_p66 : lw_okq (⟨"PledgeTipsModel", "amountOf", "(I)I"⟩, 15) := ⟨⟨by decide +kernel, by decide +kernel⟩, List.mem_of_getElem? (i := 539) (by decide +kernel), List.mem_of_getElem? (i := 658) (by decide +kernel), List.mem_of_getElem? (i := 659) (by decide +kernel)⟩
theorem lw_p67 : lw_okq (⟨"PledgeTipsModel", "lowestFree", "()I"⟩, 15) := ⟨⟨by decide +kernel, by decide +kernel⟩, List.mem_of_getElem? (i := 539) (by decide +kernel), List.mem_of_getElem? (i := 665) (by decide +kernel), List.mem_of_getElem? (i := 666) (by decide +kernel)⟩
theorem lw_p68 : lw_okq (⟨"PledgeTipsModel", "withdraws", "(I)I"⟩, 15) := ⟨⟨by decide +kernel, by decide +kernel⟩, List.mem_of_getElem? (i := 539) (by decide +kernel), List.mem_of_getElem? (i := 673) (by decide +kernel), List.mem_of_getElem? (i := 674) (by decide +kernel)⟩
theorem lw_p69 : lw_okq (⟨"PledgeTipsModel", "isPledge", "(I)Z"⟩, 15) := ⟨⟨by decide +kernel, by decide +kernel⟩, List.mem_of_getElem? (i := 539) (by decide +kernel), List.mem_of_getElem? (i := 677) (by decide +kernel), List.mem_of_getElem? (i := 678) (by decide +kernel)⟩
theorem lw_p70 : lw_okq (⟨"PledgeTipsModel", "stands", "(I)I"⟩, 15) := ⟨⟨by decide +kernel, by decide +kernel⟩, List.mem_of_getElem? (i := 539) (by decide +kernel), List.mem_of_getElem? (i := 681) (by decide +kernel), List.mem_of_getElem? (i := 682) (by decide +kernel)⟩
theorem lw_p71 : lw_okq (⟨"PledgeTipsModel", "called", "()I"⟩, 15) := ⟨⟨by decide +kernel, by decide +kernel⟩, List.mem_of_getElem? (i := 539) (by decide +kernel), List.mem_of_getElem? (i := 685) (by decide +kernel), List.mem_of_getElem? (i := 686) (by decide +kernel)⟩
theorem lw_p72 : lw_okq (⟨"PledgeTipsModel", "greatest", "(II)I"⟩, 15) := ⟨⟨by decide +kernel, by decide +kernel⟩, List.mem_of_getElem? (i := 539) (by decide +kernel), List.mem_of_getElem? (i := 689) (by decide +kernel), List.mem_of_getElem? (i := 690) (by decide +kernel)⟩
theorem lw_p73 : lw_okq (⟨"PledgeTipsModel", "fallingOf", "(II)I"⟩, 15) := ⟨⟨by decide +kernel, by decide +kernel⟩, List.mem_of_getElem? (i := 539) (by decide +kernel), List.mem_of_getElem? (i := 693) (by decide +kernel), List.mem_of_getElem? (i := 694) (by decide +kernel)⟩
theorem lw_p74 : lw_okq (⟨"PledgeTipsModel", "holds", "(II)Z"⟩, 15) := ⟨⟨by decide +kernel, by decide +kernel⟩, List.mem_of_getElem? (i := 539) (by decide +kernel), List.mem_of_getElem? (i := 697) (by decide +kernel), List.mem_of_getElem? (i := 698) (by decide +kernel)⟩
theorem lw_p75 : lw_okq (⟨"PledgeTipsModel", "moneyFor", "(II)I"⟩, 15) := ⟨⟨by decide +kernel, by decide +kernel⟩, List.mem_of_getElem? (i := 539) (by decide +kernel), List.mem_of_getElem? (i := 701) (by decide +kernel), List.mem_of_getElem? (i := 702) (by decide +kernel)⟩
theorem lw_p76 : lw_okq (⟨"PledgeTipsModel", "manyFor", "(II)I"⟩, 15) := ⟨⟨by decide +kernel, by decide +kernel⟩, List.mem_of_getElem? (i := 539) (by decide +kernel), List.mem_of_getElem? (i := 705) (by decide +kernel), List.mem_of_getElem? (i := 706) (by decide +kernel)⟩
theorem lw_p77 : lw_okq (⟨"PledgeTipsModel", "isOf", "(II)Z"⟩, 15) := ⟨⟨by decide +kernel, by decide +kernel⟩, List.mem_of_getElem? (i := 539) (by decide +kernel), List.mem_of_getElem? (i := 709) (by decide +kernel), List.mem_of_getElem? (i := 710) (by decide +kernel)⟩
theorem lw_p78 : lw_okq (⟨"PledgeTipsModel", "goal", "(I)I"⟩, 15) := ⟨⟨by decide +kernel, by decide +kernel⟩, List.mem_of_getElem? (i := 539) (by decide +kernel), List.mem_of_getElem? (i := 713) (by decide +kernel), List.mem_of_getElem? (i := 714) (by decide +kernel)⟩
theorem lw_p79 : lw_okq (⟨"PledgeTipsModel", "forgets", "(I)V"⟩, 15) := ⟨⟨by decide +kernel, by decide +kernel⟩, List.mem_of_getElem? (i := 539) (by decide +kernel), List.mem_of_getElem? (i := 717) (by decide +kernel), List.mem_of_getElem? (i := 718) (by decide +kernel)⟩
def lw_privs_5 : List (MethodName × Nat) := [(⟨"PledgeTipsModel", "open", "()I"⟩, 15), (⟨"PledgeTipsModel", "pledges", "(ZZ)I"⟩, 15), (⟨"PledgeTipsModel", "amountOf", "(I)I"⟩, 15), (⟨"PledgeTipsModel", "lowestFree", "()I"⟩, 15), (⟨"PledgeTipsModel", "withdraws", "(I)I"⟩, 15), (⟨"PledgeTipsModel", "isPledge", "(I)Z"⟩, 15), (⟨"PledgeTipsModel", "stands", "(I)I"⟩, 15), (⟨"PledgeTipsModel", "called", "()I"⟩, 15), (⟨"PledgeTipsModel", "greatest", "(II)I"⟩, 15), (⟨"PledgeTipsModel", "fallingOf", "(II)I"⟩, 15), (⟨"PledgeTipsModel", "holds", "(II)Z"⟩, 15), (⟨"PledgeTipsModel", "moneyFor", "(II)I"⟩, 15), (⟨"PledgeTipsModel", "manyFor", "(II)I"⟩, 15), (⟨"PledgeTipsModel", "isOf", "(II)Z"⟩, 15), (⟨"PledgeTipsModel", "goal", "(I)I"⟩, 15), (⟨"PledgeTipsModel", "forgets", "(I)V"⟩, 15)]
theorem lw_r5 : ∀ q ∈ lw_privs_5, lw_okq q := List.forall_mem_cons.mpr ⟨lw_p64, List.forall_mem_cons.mpr ⟨lw_p65, List.forall_mem_cons.mpr ⟨lw_p66, List.forall_mem_cons.mpr ⟨lw_p67, List.forall_mem_cons.mpr ⟨lw_p68, List.forall_mem_cons.mpr ⟨lw_p69, List.forall_mem_cons.mpr ⟨lw_p70, List.forall_mem_cons.mpr ⟨lw_p71, List.forall_mem_cons.mpr ⟨lw_p72, List.forall_mem_cons.mpr ⟨lw_p73, List.forall_mem_cons.mpr ⟨lw_p74, List.forall_mem_cons.mpr ⟨lw_p75, List.forall_mem_cons.mpr ⟨lw_p76, List.forall_mem_cons.mpr ⟨lw_p77, List.forall_mem_cons.mpr ⟨lw_p78, List.forall_mem_cons.mpr ⟨lw_p79, fun _ h => absurd h List.not_mem_nil⟩⟩⟩⟩⟩⟩⟩⟩⟩⟩⟩⟩⟩⟩⟩⟩
theorem lw_p80 : lw_okq (⟨"PledgeTipsModel", "calls", "(I)I"⟩, 15) := ⟨⟨by decide +kernel, by decide +kernel⟩, List.mem_of_getElem? (i := 539) (by decide +kernel), List.mem_of_getElem? (i := 725) (by decide +kernel), List.mem_of_getElem? (i := 726) (by decide +kernel)⟩
theorem lw_p81 : lw_okq (⟨"PledgeTipsModel", "hasGoal", "(II)Z"⟩, 15) := ⟨⟨by decide +kernel, by decide +kernel⟩, List.mem_of_getElem? (i := 539) (by decide +kernel), List.mem_of_getElem? (i := 729) (by decide +kernel), List.mem_of_getElem? (i := 730) (by decide +kernel)⟩
theorem lw_p82 : lw_okq (⟨"PledgeTipsModel", "ofProject", "(I)I"⟩, 15) := ⟨⟨by decide +kernel, by decide +kernel⟩, List.mem_of_getElem? (i := 539) (by decide +kernel), List.mem_of_getElem? (i := 733) (by decide +kernel), List.mem_of_getElem? (i := 734) (by decide +kernel)⟩
theorem lw_p83 : lw_okq (⟨"PledgeTipsModel", "tipOf", "(I)I"⟩, 15) := ⟨⟨by decide +kernel, by decide +kernel⟩, List.mem_of_getElem? (i := 539) (by decide +kernel), List.mem_of_getElem? (i := 745) (by decide +kernel), List.mem_of_getElem? (i := 746) (by decide +kernel)⟩
theorem lw_p84 : lw_okq (⟨"PledgeTipsModel", "neededFor", "(I)I"⟩, 15) := ⟨⟨by decide +kernel, by decide +kernel⟩, List.mem_of_getElem? (i := 539) (by decide +kernel), List.mem_of_getElem? (i := 749) (by decide +kernel), List.mem_of_getElem? (i := 750) (by decide +kernel)⟩
theorem lw_p85 : lw_okq (⟨"PledgeTipsModel", "pushOf", "(I)I"⟩, 15) := ⟨⟨by decide +kernel, by decide +kernel⟩, List.mem_of_getElem? (i := 539) (by decide +kernel), List.mem_of_getElem? (i := 753) (by decide +kernel), List.mem_of_getElem? (i := 754) (by decide +kernel)⟩
theorem lw_p86 : lw_okq (⟨"PledgeTipsModel", "isSet", "(I)Z"⟩, 15) := ⟨⟨by decide +kernel, by decide +kernel⟩, List.mem_of_getElem? (i := 539) (by decide +kernel), List.mem_of_getElem? (i := 768) (by decide +kernel), List.mem_of_getElem? (i := 769) (by decide +kernel)⟩
theorem lw_p87 : lw_okq (⟨"PledgeTipsModel", "isAhead", "(IIII)Z"⟩, 15) := ⟨⟨by decide +kernel, by decide +kernel⟩, List.mem_of_getElem? (i := 539) (by decide +kernel), List.mem_of_getElem? (i := 780) (by decide +kernel), List.mem_of_getElem? (i := 781) (by decide +kernel)⟩
theorem lw_p88 : lw_okq (⟨"PledgeTipsModel", "wavesNow", "()I"⟩, 15) := ⟨⟨by decide +kernel, by decide +kernel⟩, List.mem_of_getElem? (i := 539) (by decide +kernel), List.mem_of_getElem? (i := 788) (by decide +kernel), List.mem_of_getElem? (i := 789) (by decide +kernel)⟩
theorem lw_p89 : lw_okq (⟨"PledgeTipsModel", "setsThatHold", "()I"⟩, 15) := ⟨⟨by decide +kernel, by decide +kernel⟩, List.mem_of_getElem? (i := 539) (by decide +kernel), List.mem_of_getElem? (i := 792) (by decide +kernel), List.mem_of_getElem? (i := 793) (by decide +kernel)⟩
theorem lw_p90 : lw_okq (⟨"PledgeTipsModel", "goalsNow", "()I"⟩, 15) := ⟨⟨by decide +kernel, by decide +kernel⟩, List.mem_of_getElem? (i := 539) (by decide +kernel), List.mem_of_getElem? (i := 796) (by decide +kernel), List.mem_of_getElem? (i := 797) (by decide +kernel)⟩
theorem lw_p91 : lw_okq (⟨"PledgeTipsModel", "does", "()I"⟩, 15) := ⟨⟨by decide +kernel, by decide +kernel⟩, List.mem_of_getElem? (i := 539) (by decide +kernel), List.mem_of_getElem? (i := 816) (by decide +kernel), List.mem_of_getElem? (i := 817) (by decide +kernel)⟩
theorem lw_p92 : lw_okq (⟨"PledgeTipsModel", "command", "()I"⟩, 15) := ⟨⟨by decide +kernel, by decide +kernel⟩, List.mem_of_getElem? (i := 539) (by decide +kernel), List.mem_of_getElem? (i := 820) (by decide +kernel), List.mem_of_getElem? (i := 821) (by decide +kernel)⟩
theorem lw_p93 : lw_okq (⟨"PledgeTipsModel", "here", "()I"⟩, 15) := ⟨⟨by decide +kernel, by decide +kernel⟩, List.mem_of_getElem? (i := 539) (by decide +kernel), List.mem_of_getElem? (i := 824) (by decide +kernel), List.mem_of_getElem? (i := 825) (by decide +kernel)⟩
theorem lw_p94 : lw_okq (⟨"PledgeTipsModel", "readNumber", "(I)I"⟩, 15) := ⟨⟨by decide +kernel, by decide +kernel⟩, List.mem_of_getElem? (i := 539) (by decide +kernel), List.mem_of_getElem? (i := 828) (by decide +kernel), List.mem_of_getElem? (i := 829) (by decide +kernel)⟩
theorem lw_p95 : lw_okq (⟨"PledgeTipsModel", "must", "(I)V"⟩, 15) := ⟨⟨by decide +kernel, by decide +kernel⟩, List.mem_of_getElem? (i := 539) (by decide +kernel), List.mem_of_getElem? (i := 832) (by decide +kernel), List.mem_of_getElem? (i := 833) (by decide +kernel)⟩
def lw_privs_6 : List (MethodName × Nat) := [(⟨"PledgeTipsModel", "calls", "(I)I"⟩, 15), (⟨"PledgeTipsModel", "hasGoal", "(II)Z"⟩, 15), (⟨"PledgeTipsModel", "ofProject", "(I)I"⟩, 15), (⟨"PledgeTipsModel", "tipOf", "(I)I"⟩, 15), (⟨"PledgeTipsModel", "neededFor", "(I)I"⟩, 15), (⟨"PledgeTipsModel", "pushOf", "(I)I"⟩, 15), (⟨"PledgeTipsModel", "isSet", "(I)Z"⟩, 15), (⟨"PledgeTipsModel", "isAhead", "(IIII)Z"⟩, 15), (⟨"PledgeTipsModel", "wavesNow", "()I"⟩, 15), (⟨"PledgeTipsModel", "setsThatHold", "()I"⟩, 15), (⟨"PledgeTipsModel", "goalsNow", "()I"⟩, 15), (⟨"PledgeTipsModel", "does", "()I"⟩, 15), (⟨"PledgeTipsModel", "command", "()I"⟩, 15), (⟨"PledgeTipsModel", "here", "()I"⟩, 15), (⟨"PledgeTipsModel", "readNumber", "(I)I"⟩, 15), (⟨"PledgeTipsModel", "must", "(I)V"⟩, 15)]
theorem lw_r6 : ∀ q ∈ lw_privs_6, lw_okq q := List.forall_mem_cons.mpr ⟨lw_p80, List.forall_mem_cons.mpr ⟨lw_p81, List.forall_mem_cons.mpr ⟨lw_p82, List.forall_mem_cons.mpr ⟨lw_p83, List.forall_mem_cons.mpr ⟨lw_p84, List.forall_mem_cons.mpr ⟨lw_p85, List.forall_mem_cons.mpr ⟨lw_p86, List.forall_mem_cons.mpr ⟨lw_p87, List.forall_mem_cons.mpr ⟨lw_p88, List.forall_mem_cons.mpr ⟨lw_p89, List.forall_mem_cons.mpr ⟨lw_p90, List.forall_mem_cons.mpr ⟨lw_p91, List.forall_mem_cons.mpr ⟨lw_p92, List.forall_mem_cons.mpr ⟨lw_p93, List.forall_mem_cons.mpr ⟨lw_p94, List.forall_mem_cons.mpr ⟨lw_p95, fun _ h => absurd h List.not_mem_nil⟩⟩⟩⟩⟩⟩⟩⟩⟩⟩⟩⟩⟩⟩⟩⟩
theorem lw_p96 : lw_okq (⟨"PledgeTipsModel", "returns", "()V"⟩, 15) := ⟨⟨by decide +kernel, by decide +kernel⟩, List.mem_of_getElem? (i := 539) (by decide +kernel), List.mem_of_getElem? (i := 836) (by decide +kernel), List.mem_of_getElem? (i := 837) (by decide +kernel)⟩
def lw_privs_7 : List (MethodName × Nat) := [(⟨"PledgeTipsModel", "returns", "()V"⟩, 15)]
theorem lw_r7 : ∀ q ∈ lw_privs_7, lw_okq q := List.forall_mem_cons.mpr ⟨lw_p96, fun _ h => absurd h List.not_mem_nil⟩
def lw_privs : List (MethodName × Nat) := lw_privs_1 ++ (lw_privs_2 ++ (lw_privs_3 ++ (lw_privs_4 ++ (lw_privs_5 ++ (lw_privs_6 ++ (lw_privs_7))))))
def lw_tbl : List Cond := k2_sels lw_privs ++ tables_1
theorem lw_privs_ok : ∀ q ∈ lw_privs, lw_okq q := by
  show ∀ q ∈ lw_privs_1 ++ (lw_privs_2 ++ (lw_privs_3 ++ (lw_privs_4 ++ (lw_privs_5 ++ (lw_privs_6 ++ (lw_privs_7)))))), lw_okq q
  exact List.forall_mem_append.mpr ⟨lw_r1, List.forall_mem_append.mpr ⟨lw_r2, List.forall_mem_append.mpr ⟨lw_r3, List.forall_mem_append.mpr ⟨lw_r4, List.forall_mem_append.mpr ⟨lw_r5, List.forall_mem_append.mpr ⟨lw_r6, lw_r7⟩⟩⟩⟩⟩⟩
-- ===== end of PART A; then your names; then what follows =====
/-! THE CLAIM OUT OF ONE WALK OF THE LAW'S BODY. Your part is whole_start (and what it stands on); all else here is the same for every law, but numbers. -/
def R_law : String := "PledgeTipsLaw"
def lw_P (b : Addr) (xs : List Int32) (args : Array Value) (s : State) : Prop := args = #[.ref b] ∧ s.IntsAt b xs ∧ xs.length ≤ 3072 ∧ (Jvm.Cond.and given_1 narrow_1).before args s = true
def lw_Q (_ : Array Value) (s : State) (o : Outcome) (t : State) : Prop := o = .returned (some (.int 1)) ∧ Framed s o t [] 600000 7302250
def lw_Z (below : List Frame) (a : Array Value) (s : State) : State → Prop := fun t => ∃ o, t.status = .running ∧ Ended t below o ∧ lw_Q a s o t
/-- the law's own end, with 1 on the stack, nothing written that was there before, its room as the claim has it -/
theorem lw_ret {p : Program} {l : Launch} {e : Env} {s : State} {m : MethodId} {below : List Frame} {meth : Method} {c : Code} {b : Nat} (hx : p.tables.exec = Jvm.exec) (hb : c.code = code) (hr : meth.sig.returnType = ret) (hlocks : meth.locks = false) {pc : Nat} {H : Heap} {ls : Array Slot} (hdg : decode code pc = .ok (.ireturn, 1)) : W p l e room_1 s m #[Value.ref b] below meth c H [] 600000 7302250 (lw_Z below #[Value.ref b] s) (F0 m pc ls [.int 1]) := by
  intro T hT X
  obtain ⟨fs, hret, hrun, hended, hW, hframe⟩ := X.leave (v := some (.int 1)) (hlocks := hlocks) (fun h => by rw [hr] at h; cases h)
  have hmeth' : T.vm.method? m = some meth := X.method'
  refine ⟨T.setFrames fs, ?_, .returned (some (.int 1)), hrun, hended, rfl, ⟨_, rfl⟩, hW, hframe⟩
  jvm_step X.here [X.here.top, hx, hb, hdg, hmeth', hr, ret, narrow_b1]
  (try refine ⟨rfl, ?_⟩); (try refine ⟨rfl, ?_⟩)
  first | (intro acts; rw [hret _ acts rfl rfl rfl]) | rw [hret _ _ rfl rfl rfl]
  exact Steps.refl _
/-- what holds at the law's entry: the machine, the code, the tables' words (any of lw_tbl by 'hts w (by decide +kernel)'), the script of L ints xs at the cell b, what the Statement gives of the start (any of its parts by flat_of_before) -/
def lw_At (p : Program) (s : State) (m : MethodId) (meth : Method) (c : Code) (b L : Nat) (xs : Nat → Int32) : Prop :=
  p.tables.exec = Jvm.exec ∧ c.code = code ∧ meth.sig.returnType = ret ∧ c.maxLocals = 4 ∧ s.vm.findClass R_law = some m.cls ∧ (∀ w ∈ lw_tbl, w.before #[Value.ref b] s = true) ∧ va_X b L xs s s.heap ∧ b < s.heap.size ∧ meth.locks = false ∧ (Jvm.Cond.and given_1 narrow_1).before #[Value.ref b] s = true
def RX0 : String := "PledgeTips$Clerk"
def TX0 : u_T := fun k => match k with
  | 0 => ("PledgeTips$Clerk", "place", "LPledgeTips$Place;", true)
  | _ => ("PledgeTips$Clerk", "judge", "LPledgeTips$Judge;", true)
def tyX0 : Nat → FieldType := fun k => match k with
  | 0 => .object "PledgeTips$Place"
  | _ => .object "PledgeTips$Judge"
abbrev wsX00 : List Cond := u_ws RX0 TX0 2
theorem nmX0 : ∀ a, a < 2 → ∀ b, b < 2 → a ≠ b → (TX0 a).2.1 ≠ (TX0 b).2.1 := by decide +kernel
theorem tyX0_ok : ∀ k, k < 2 → parseFieldDescriptor (TX0 k).2.2.1 = some (tyX0 k) := by decide +kernel
abbrev cX0_init : ByteArray := prog_2_method_1_code
def yX0_init : MethodName := ⟨RX0, "<init>", "(LPledgeTips$Place;LPledgeTips$Judge;)V"⟩
abbrev cX0_addProject : ByteArray := prog_2_method_2_code
def yX0_addProject : MethodName := ⟨RX0, "addProject", "(I)I"⟩
abbrev cX0_addPerson : ByteArray := prog_2_method_3_code
def yX0_addPerson : MethodName := ⟨RX0, "addPerson", "(I)I"⟩
abbrev cX0_makePledge : ByteArray := prog_2_method_4_code
def yX0_makePledge : MethodName := ⟨RX0, "makePledge", "(IIIII)I"⟩
abbrev cX0_isCondition : ByteArray := prog_2_method_5_code
def yX0_isCondition : MethodName := ⟨RX0, "isCondition", "(IIII)Z"⟩
abbrev cX0_takeBack : ByteArray := prog_2_method_6_code
def yX0_takeBack : MethodName := ⟨RX0, "takeBack", "(I)I"⟩
abbrev cX0_collect : ByteArray := prog_2_method_7_code
def yX0_collect : MethodName := ⟨RX0, "collect", "(I)I"⟩
def RX1 : String := "PledgeTips$Judge"
def TX1 : u_T := fun k => match k with
  | 0 => ("PledgeTips$Judge", "place", "LPledgeTips$Place;", true)
  | 1 => ("PledgeTips$Judge", "sums", "[I", true)
  | 2 => ("PledgeTips$Judge", "counts", "[I", true)
  | _ => ("PledgeTips$Judge", "givers", "I", false)
def tyX1 : Nat → FieldType := fun k => match k with
  | 0 => .object "PledgeTips$Place"
  | 1 => .array .int
  | 2 => .array .int
  | _ => .int
abbrev wsX10 : List Cond := u_ws RX1 TX1 4
theorem nmX1 : ∀ a, a < 4 → ∀ b, b < 4 → a ≠ b → (TX1 a).2.1 ≠ (TX1 b).2.1 := by decide +kernel
theorem tyX1_ok : ∀ k, k < 4 → parseFieldDescriptor (TX1 k).2.2.1 = some (tyX1 k) := by decide +kernel
abbrev cX1_init : ByteArray := prog_3_method_1_code
def yX1_init : MethodName := ⟨RX1, "<init>", "(LPledgeTips$Place;)V"⟩
abbrev cX1_gather : ByteArray := prog_3_method_2_code
def yX1_gather : MethodName := ⟨RX1, "gather", "(I)V"⟩
abbrev cX1_holds : ByteArray := prog_3_method_3_code
def yX1_holds : MethodName := ⟨RX1, "holds", "(I)Z"⟩
abbrev cX1_failing : ByteArray := prog_3_method_4_code
def yX1_failing : MethodName := ⟨RX1, "failing", "(II)I"⟩
abbrev cX1_greatest : ByteArray := prog_3_method_5_code
def yX1_greatest : MethodName := ⟨RX1, "greatest", "(II)I"⟩
abbrev cX1_stand : ByteArray := prog_3_method_6_code
def yX1_stand : MethodName := ⟨RX1, "stand", "()I"⟩
abbrev cX1_standWithout : ByteArray := prog_3_method_7_code
def yX1_standWithout : MethodName := ⟨RX1, "standWithout", "(I)I"⟩
abbrev cX1_fallenWithout : ByteArray := prog_3_method_8_code
def yX1_fallenWithout : MethodName := ⟨RX1, "fallenWithout", "(I)I"⟩
abbrev cX1_waveOf : ByteArray := prog_3_method_9_code
def yX1_waveOf : MethodName := ⟨RX1, "waveOf", "(I)I"⟩
abbrev cX1_waves : ByteArray := prog_3_method_10_code
def yX1_waves : MethodName := ⟨RX1, "waves", "()I"⟩
abbrev cX1_setsThatHold : ByteArray := prog_3_method_11_code
def yX1_setsThatHold : MethodName := ⟨RX1, "setsThatHold", "()I"⟩
abbrev cX1_reaches : ByteArray := prog_3_method_12_code
def yX1_reaches : MethodName := ⟨RX1, "reaches", "(III)Z"⟩
abbrev cX1_hasGoal : ByteArray := prog_3_method_13_code
def yX1_hasGoal : MethodName := ⟨RX1, "hasGoal", "(I)Z"⟩
abbrev cX1_projectsWithGoal : ByteArray := prog_3_method_14_code
def yX1_projectsWithGoal : MethodName := ⟨RX1, "projectsWithGoal", "()I"⟩
abbrev cX1_tip : ByteArray := prog_3_method_15_code
def yX1_tip : MethodName := ⟨RX1, "tip", "(I)I"⟩
abbrev cX1_needed : ByteArray := prog_3_method_16_code
def yX1_needed : MethodName := ⟨RX1, "needed", "(I)I"⟩
abbrev cX1_push : ByteArray := prog_3_method_17_code
def yX1_push : MethodName := ⟨RX1, "push", "(I)I"⟩
abbrev cX1_reachesWith : ByteArray := prog_3_method_18_code
def yX1_reachesWith : MethodName := ⟨RX1, "reachesWith", "(II)Z"⟩
def RX2 : String := "PledgeTips$Place"
def TX2 : u_T := fun k => match k with
  | 0 => ("PledgeTips$Place", "projects", "I", false)
  | 1 => ("PledgeTips$Place", "goal", "[I", true)
  | 2 => ("PledgeTips$Place", "closed", "I", false)
  | 3 => ("PledgeTips$Place", "persons", "I", false)
  | 4 => ("PledgeTips$Place", "purse", "[I", true)
  | 5 => ("PledgeTips$Place", "paid", "[I", true)
  | 6 => ("PledgeTips$Place", "open", "I", false)
  | 7 => ("PledgeTips$Place", "called", "I", false)
  | 8 => ("PledgeTips$Place", "giver", "[I", true)
  | 9 => ("PledgeTips$Place", "target", "[I", true)
  | 10 => ("PledgeTips$Place", "amount", "[I", true)
  | 11 => ("PledgeTips$Place", "kind", "[I", true)
  | 12 => ("PledgeTips$Place", "value", "[I", true)
  | 13 => ("PledgeTips$Place", "turn", "[I", true)
  | 14 => ("PledgeTips$Place", "made", "I", false)
  | 15 => ("PledgeTips$Place", "withdrawn", "I", false)
  | _ => ("PledgeTips$Place", "money", "I", false)
def tyX2 : Nat → FieldType := fun k => match k with
  | 0 => .int
  | 1 => .array .int
  | 2 => .int
  | 3 => .int
  | 4 => .array .int
  | 5 => .array .int
  | 6 => .int
  | 7 => .int
  | 8 => .array .int
  | 9 => .array .int
  | 10 => .array .int
  | 11 => .array .int
  | 12 => .array .int
  | 13 => .array .int
  | 14 => .int
  | 15 => .int
  | _ => .int
abbrev wsX20 : List Cond := u_ws RX2 TX2 17
theorem nmX2 : ∀ a, a < 17 → ∀ b, b < 17 → a ≠ b → (TX2 a).2.1 ≠ (TX2 b).2.1 := by decide +kernel
theorem tyX2_ok : ∀ k, k < 17 → parseFieldDescriptor (TX2 k).2.2.1 = some (tyX2 k) := by decide +kernel
abbrev cX2_init : ByteArray := prog_4_method_1_code
def yX2_init : MethodName := ⟨RX2, "<init>", "()V"⟩
abbrev cX2_copyFrom : ByteArray := prog_4_method_2_code
def yX2_copyFrom : MethodName := ⟨RX2, "copyFrom", "(LPledgeTips$Place;)V"⟩
abbrev cX2_hasProject : ByteArray := prog_4_method_3_code
def yX2_hasProject : MethodName := ⟨RX2, "hasProject", "(I)Z"⟩
abbrev cX2_hasPerson : ByteArray := prog_4_method_4_code
def yX2_hasPerson : MethodName := ⟨RX2, "hasPerson", "(I)Z"⟩
abbrev cX2_hasPledge : ByteArray := prog_4_method_5_code
def yX2_hasPledge : MethodName := ⟨RX2, "hasPledge", "(I)Z"⟩
abbrev cX2_isClosed : ByteArray := prog_4_method_6_code
def yX2_isClosed : MethodName := ⟨RX2, "isClosed", "(I)Z"⟩
abbrev cX2_pledges : ByteArray := prog_4_method_7_code
def yX2_pledges : MethodName := ⟨RX2, "pledges", "()I"⟩
abbrev cX2_pledgesFor : ByteArray := prog_4_method_8_code
def yX2_pledgesFor : MethodName := ⟨RX2, "pledgesFor", "(I)I"⟩
abbrev cX2_pledgesOf : ByteArray := prog_4_method_9_code
def yX2_pledgesOf : MethodName := ⟨RX2, "pledgesOf", "(I)I"⟩
abbrev cX2_pledgesUpTo : ByteArray := prog_4_method_10_code
def yX2_pledgesUpTo : MethodName := ⟨RX2, "pledgesUpTo", "(I)I"⟩
abbrev cX2_sum : ByteArray := prog_4_method_11_code
def yX2_sum : MethodName := ⟨RX2, "sum", "(I)I"⟩
abbrev cX2_lowestFreeNumber : ByteArray := prog_4_method_12_code
def yX2_lowestFreeNumber : MethodName := ⟨RX2, "lowestFreeNumber", "()I"⟩
abbrev cX2_thinkOfExtra : ByteArray := prog_4_method_13_code
def yX2_thinkOfExtra : MethodName := ⟨RX2, "thinkOfExtra", "(II)V"⟩
def RX3 : String := "PledgeTips$Script"
def TX3 : u_T := fun k => match k with
  | 0 => ("PledgeTips$Script", "text", "[C", true)
  | 1 => ("PledgeTips$Script", "length", "I", false)
  | 2 => ("PledgeTips$Script", "numbers", "[I", true)
  | 3 => ("PledgeTips$Script", "outcome", "LPledgeTips$Place;", true)
  | 4 => ("PledgeTips$Script", "clerk", "LPledgeTips$Clerk;", true)
  | 5 => ("PledgeTips$Script", "commands", "I", false)
  | 6 => ("PledgeTips$Script", "faultPosition", "I", false)
  | 7 => ("PledgeTips$Script", "faultReason", "I", false)
  | _ => ("PledgeTips$Script", "faultCause", "I", false)
def tyX3 : Nat → FieldType := fun k => match k with
  | 0 => .array .char
  | 1 => .int
  | 2 => .array .int
  | 3 => .object "PledgeTips$Place"
  | 4 => .object "PledgeTips$Clerk"
  | 5 => .int
  | 6 => .int
  | 7 => .int
  | _ => .int
abbrev wsX30 : List Cond := u_ws RX3 TX3 9
theorem nmX3 : ∀ a, a < 9 → ∀ b, b < 9 → a ≠ b → (TX3 a).2.1 ≠ (TX3 b).2.1 := by decide +kernel
theorem tyX3_ok : ∀ k, k < 9 → parseFieldDescriptor (TX3 k).2.2.1 = some (tyX3 k) := by decide +kernel
abbrev cX3_init : ByteArray := prog_5_method_1_code
def yX3_init : MethodName := ⟨RX3, "<init>", "()V"⟩
abbrev cX3_append : ByteArray := prog_5_method_2_code
def yX3_append : MethodName := ⟨RX3, "append", "(C)I"⟩
abbrev cX3_empty : ByteArray := prog_5_method_3_code
def yX3_empty : MethodName := ⟨RX3, "empty", "()I"⟩
abbrev cX3_hasFault : ByteArray := prog_5_method_4_code
def yX3_hasFault : MethodName := ⟨RX3, "hasFault", "()Z"⟩
abbrev cX3_tryOn : ByteArray := prog_5_method_5_code
def yX3_tryOn : MethodName := ⟨RX3, "tryOn", "(LPledgeTips$Place;)V"⟩
abbrev cX3_tellFault : ByteArray := prog_5_method_6_code
def yX3_tellFault : MethodName := ⟨RX3, "tellFault", "(III)V"⟩
abbrev cX3_readCommand : ByteArray := prog_5_method_7_code
def yX3_readCommand : MethodName := ⟨RX3, "readCommand", "(I)I"⟩
abbrev cX3_readNumber : ByteArray := prog_5_method_8_code
def yX3_readNumber : MethodName := ⟨RX3, "readNumber", "(II)I"⟩
abbrev cX3_signAt : ByteArray := prog_5_method_9_code
def yX3_signAt : MethodName := ⟨RX3, "signAt", "(I)C"⟩
abbrev cX3_numbersBehind : ByteArray := prog_5_method_10_code
def yX3_numbersBehind : MethodName := ⟨RX3, "numbersBehind", "(C)I"⟩
abbrev cX3_doCommand : ByteArray := prog_5_method_11_code
def yX3_doCommand : MethodName := ⟨RX3, "doCommand", "(C)I"⟩
def RX4 : String := "PledgeTips"
def TX4 : u_T := fun k => match k with
  | 0 => ("PledgeTips", "now", "LPledgeTips$Place;", true)
  | 1 => ("PledgeTips", "judge", "LPledgeTips$Judge;", true)
  | 2 => ("PledgeTips", "clerk", "LPledgeTips$Clerk;", true)
  | 3 => ("PledgeTips", "script", "LPledgeTips$Script;", true)
  | 4 => ("PledgeTips", "history", "[LPledgeTips$Place;", true)
  | 5 => ("PledgeTips", "states", "I", false)
  | _ => ("PledgeTips", "keys", "[J", true)
def tyX4 : Nat → FieldType := fun k => match k with
  | 0 => .object "PledgeTips$Place"
  | 1 => .object "PledgeTips$Judge"
  | 2 => .object "PledgeTips$Clerk"
  | 3 => .object "PledgeTips$Script"
  | 4 => .array (.object "PledgeTips$Place")
  | 5 => .int
  | _ => .array .long
abbrev wsX40 : List Cond := u_ws RX4 TX4 7
theorem nmX4 : ∀ a, a < 7 → ∀ b, b < 7 → a ≠ b → (TX4 a).2.1 ≠ (TX4 b).2.1 := by decide +kernel
theorem tyX4_ok : ∀ k, k < 7 → parseFieldDescriptor (TX4 k).2.2.1 = some (tyX4 k) := by decide +kernel
abbrev cX4_init : ByteArray := prog_1_method_1_code
def yX4_init : MethodName := ⟨RX4, "<init>", "()V"⟩
abbrev cX4_project : ByteArray := prog_1_method_2_code
def yX4_project : MethodName := ⟨RX4, "project", "(I)I"⟩
abbrev cX4_person : ByteArray := prog_1_method_3_code
def yX4_person : MethodName := ⟨RX4, "person", "(I)I"⟩
abbrev cX4_pledge : ByteArray := prog_1_method_4_code
def yX4_pledge : MethodName := ⟨RX4, "pledge", "(IIIII)I"⟩
abbrev cX4_withdraw : ByteArray := prog_1_method_5_code
def yX4_withdraw : MethodName := ⟨RX4, "withdraw", "(I)I"⟩
abbrev cX4_callIn : ByteArray := prog_1_method_6_code
def yX4_callIn : MethodName := ⟨RX4, "callIn", "(I)I"⟩
abbrev cX4_pledgeOf : ByteArray := prog_1_method_7_code
def yX4_pledgeOf : MethodName := ⟨RX4, "pledgeOf", "(II)I"⟩
abbrev cX4_projectOf : ByteArray := prog_1_method_8_code
def yX4_projectOf : MethodName := ⟨RX4, "projectOf", "(II)I"⟩
abbrev cX4_personOf : ByteArray := prog_1_method_9_code
def yX4_personOf : MethodName := ⟨RX4, "personOf", "(II)I"⟩
abbrev cX4_standing : ByteArray := prog_1_method_10_code
def yX4_standing : MethodName := ⟨RX4, "standing", "(I)I"⟩
abbrev cX4_setOf : ByteArray := prog_1_method_11_code
def yX4_setOf : MethodName := ⟨RX4, "setOf", "(II)I"⟩
abbrev cX4_orderAt : ByteArray := prog_1_method_12_code
def yX4_orderAt : MethodName := ⟨RX4, "orderAt", "(II)I"⟩
abbrev cX4_count : ByteArray := prog_1_method_13_code
def yX4_count : MethodName := ⟨RX4, "count", "(I)I"⟩
abbrev cX4_undo : ByteArray := prog_1_method_14_code
def yX4_undo : MethodName := ⟨RX4, "undo", "()I"⟩
abbrev cX4_type : ByteArray := prog_1_method_15_code
def yX4_type : MethodName := ⟨RX4, "type", "(I)I"⟩
abbrev cX4_clearText : ByteArray := prog_1_method_16_code
def yX4_clearText : MethodName := ⟨RX4, "clearText", "()I"⟩
abbrev cX4_fault : ByteArray := prog_1_method_17_code
def yX4_fault : MethodName := ⟨RX4, "fault", "(I)I"⟩
abbrev cX4_play : ByteArray := prog_1_method_18_code
def yX4_play : MethodName := ⟨RX4, "play", "()I"⟩
abbrev cX4_keepState : ByteArray := prog_1_method_19_code
def yX4_keepState : MethodName := ⟨RX4, "keepState", "()V"⟩
abbrev cX4_settle : ByteArray := prog_1_method_20_code
def yX4_settle : MethodName := ⟨RX4, "settle", "(I)I"⟩
abbrev cX4_dropOldest : ByteArray := prog_1_method_21_code
def yX4_dropOldest : MethodName := ⟨RX4, "dropOldest", "()V"⟩
abbrev cX4_fallOf : ByteArray := prog_1_method_22_code
def yX4_fallOf : MethodName := ⟨RX4, "fallOf", "(I)I"⟩
abbrev cX4_toppledBy : ByteArray := prog_1_method_23_code
def yX4_toppledBy : MethodName := ⟨RX4, "toppledBy", "(I)I"⟩
abbrev cX4_errorOfSet : ByteArray := prog_1_method_24_code
def yX4_errorOfSet : MethodName := ⟨RX4, "errorOfSet", "(I)I"⟩
abbrev cX4_keyOf : ByteArray := prog_1_method_25_code
def yX4_keyOf : MethodName := ⟨RX4, "keyOf", "(II)J"⟩
abbrev cX4_keysBelow : ByteArray := prog_1_method_26_code
def yX4_keysBelow : MethodName := ⟨RX4, "keysBelow", "(J)I"⟩
def RX5 : String := "PledgeTipsModel"
def TX5 : u_T := fun k => match k with
  | 0 => ("PledgeTipsModel", "s", "[I", true)
  | 1 => ("PledgeTipsModel", "begun", "[I", true)
  | 2 => ("PledgeTipsModel", "past", "[I", true)
  | 3 => ("PledgeTipsModel", "states", "I", false)
  | 4 => ("PledgeTipsModel", "text", "[I", true)
  | 5 => ("PledgeTipsModel", "length", "I", false)
  | 6 => ("PledgeTipsModel", "moreFor", "I", false)
  | 7 => ("PledgeTipsModel", "more", "I", false)
  | 8 => ("PledgeTipsModel", "waves", "[I", true)
  | 9 => ("PledgeTipsModel", "waveMany", "I", false)
  | 10 => ("PledgeTipsModel", "at", "I", false)
  | 11 => ("PledgeTipsModel", "isForm", "Z", false)
  | 12 => ("PledgeTipsModel", "reason", "I", false)
  | 13 => ("PledgeTipsModel", "cause", "I", false)
  | _ => ("PledgeTipsModel", "numbers", "[I", true)
def tyX5 : Nat → FieldType := fun k => match k with
  | 0 => .array .int
  | 1 => .array .int
  | 2 => .array .int
  | 3 => .int
  | 4 => .array .int
  | 5 => .int
  | 6 => .int
  | 7 => .int
  | 8 => .array .int
  | 9 => .int
  | 10 => .int
  | 11 => .boolean
  | 12 => .int
  | 13 => .int
  | _ => .array .int
abbrev wsX50 : List Cond := u_ws RX5 TX5 15
theorem nmX5 : ∀ a, a < 15 → ∀ b, b < 15 → a ≠ b → (TX5 a).2.1 ≠ (TX5 b).2.1 := by decide +kernel
theorem tyX5_ok : ∀ k, k < 15 → parseFieldDescriptor (TX5 k).2.2.1 = some (tyX5 k) := by decide +kernel
abbrev cX5_init : ByteArray := prog_7_method_1_code
def yX5_init : MethodName := ⟨RX5, "<init>", "()V"⟩
abbrev cX5_in : ByteArray := prog_7_method_3_code
def yX5_in : MethodName := ⟨RX5, "in", "(III)Z"⟩
abbrev cX5_has : ByteArray := prog_7_method_4_code
def yX5_has : MethodName := ⟨RX5, "has", "(II)Z"⟩
abbrev cX5_of : ByteArray := prog_7_method_5_code
def yX5_of : MethodName := ⟨RX5, "of", "(II)I"⟩
abbrev cX5_goal : ByteArray := prog_7_method_6_code
def yX5_goal : MethodName := ⟨RX5, "goal", "(I)I"⟩
abbrev cX5_isClosed : ByteArray := prog_7_method_7_code
def yX5_isClosed : MethodName := ⟨RX5, "isClosed", "(I)Z"⟩
abbrev cX5_isProject : ByteArray := prog_7_method_8_code
def yX5_isProject : MethodName := ⟨RX5, "isProject", "(I)Z"⟩
abbrev cX5_isPerson : ByteArray := prog_7_method_9_code
def yX5_isPerson : MethodName := ⟨RX5, "isPerson", "(I)Z"⟩
abbrev cX5_isPledge : ByteArray := prog_7_method_10_code
def yX5_isPledge : MethodName := ⟨RX5, "isPledge", "(I)Z"⟩
abbrev cX5_begins : ByteArray := prog_7_method_11_code
def yX5_begins : MethodName := ⟨RX5, "begins", "()V"⟩
abbrev cX5_returns : ByteArray := prog_7_method_12_code
def yX5_returns : MethodName := ⟨RX5, "returns", "()V"⟩
abbrev cX5_acted : ByteArray := prog_7_method_13_code
def yX5_acted : MethodName := ⟨RX5, "acted", "(I)I"⟩
abbrev cX5_pledges : ByteArray := prog_7_method_14_code
def yX5_pledges : MethodName := ⟨RX5, "pledges", "(ZZ)I"⟩
abbrev cX5_moneyFor : ByteArray := prog_7_method_15_code
def yX5_moneyFor : MethodName := ⟨RX5, "moneyFor", "(II)I"⟩
abbrev cX5_manyFor : ByteArray := prog_7_method_16_code
def yX5_manyFor : MethodName := ⟨RX5, "manyFor", "(II)I"⟩
abbrev cX5_isOf : ByteArray := prog_7_method_17_code
def yX5_isOf : MethodName := ⟨RX5, "isOf", "(II)Z"⟩
abbrev cX5_holds : ByteArray := prog_7_method_18_code
def yX5_holds : MethodName := ⟨RX5, "holds", "(II)Z"⟩
abbrev cX5_fallingOf : ByteArray := prog_7_method_19_code
def yX5_fallingOf : MethodName := ⟨RX5, "fallingOf", "(II)I"⟩
abbrev cX5_greatest : ByteArray := prog_7_method_20_code
def yX5_greatest : MethodName := ⟨RX5, "greatest", "(II)I"⟩
abbrev cX5_called : ByteArray := prog_7_method_21_code
def yX5_called : MethodName := ⟨RX5, "called", "()I"⟩
abbrev cX5_open : ByteArray := prog_7_method_22_code
def yX5_open : MethodName := ⟨RX5, "open", "()I"⟩
abbrev cX5_stands : ByteArray := prog_7_method_23_code
def yX5_stands : MethodName := ⟨RX5, "stands", "(I)I"⟩
abbrev cX5_hasGoal : ByteArray := prog_7_method_24_code
def yX5_hasGoal : MethodName := ⟨RX5, "hasGoal", "(II)Z"⟩
abbrev cX5_amountOf : ByteArray := prog_7_method_25_code
def yX5_amountOf : MethodName := ⟨RX5, "amountOf", "(I)I"⟩
abbrev cX5_ofPerson : ByteArray := prog_7_method_26_code
def yX5_ofPerson : MethodName := ⟨RX5, "ofPerson", "(I)I"⟩
abbrev cX5_ofProject : ByteArray := prog_7_method_27_code
def yX5_ofProject : MethodName := ⟨RX5, "ofProject", "(I)I"⟩
abbrev cX5_many : ByteArray := prog_7_method_28_code
def yX5_many : MethodName := ⟨RX5, "many", "(I)I"⟩
abbrev cX5_adds : ByteArray := prog_7_method_29_code
def yX5_adds : MethodName := ⟨RX5, "adds", "(I)I"⟩
abbrev cX5_comes : ByteArray := prog_7_method_30_code
def yX5_comes : MethodName := ⟨RX5, "comes", "(I)I"⟩
abbrev cX5_isCondition : ByteArray := prog_7_method_31_code
def yX5_isCondition : MethodName := ⟨RX5, "isCondition", "(IIII)Z"⟩
abbrev cX5_lowestFree : ByteArray := prog_7_method_32_code
def yX5_lowestFree : MethodName := ⟨RX5, "lowestFree", "()I"⟩
abbrev cX5_makes : ByteArray := prog_7_method_33_code
def yX5_makes : MethodName := ⟨RX5, "makes", "(IIIII)I"⟩
abbrev cX5_forgets : ByteArray := prog_7_method_34_code
def yX5_forgets : MethodName := ⟨RX5, "forgets", "(I)V"⟩
abbrev cX5_withdraws : ByteArray := prog_7_method_35_code
def yX5_withdraws : MethodName := ⟨RX5, "withdraws", "(I)I"⟩
abbrev cX5_calls : ByteArray := prog_7_method_36_code
def yX5_calls : MethodName := ⟨RX5, "calls", "(I)I"⟩
abbrev cX5_project : ByteArray := prog_7_method_37_code
def yX5_project : MethodName := ⟨RX5, "project", "(I)I"⟩
abbrev cX5_person : ByteArray := prog_7_method_38_code
def yX5_person : MethodName := ⟨RX5, "person", "(I)I"⟩
abbrev cX5_pledge : ByteArray := prog_7_method_39_code
def yX5_pledge : MethodName := ⟨RX5, "pledge", "(IIIII)I"⟩
abbrev cX5_withdraw : ByteArray := prog_7_method_40_code
def yX5_withdraw : MethodName := ⟨RX5, "withdraw", "(I)I"⟩
abbrev cX5_callIn : ByteArray := prog_7_method_41_code
def yX5_callIn : MethodName := ⟨RX5, "callIn", "(I)I"⟩
abbrev cX5_pledgeOf : ByteArray := prog_7_method_42_code
def yX5_pledgeOf : MethodName := ⟨RX5, "pledgeOf", "(II)I"⟩
abbrev cX5_tipOf : ByteArray := prog_7_method_43_code
def yX5_tipOf : MethodName := ⟨RX5, "tipOf", "(I)I"⟩
abbrev cX5_neededFor : ByteArray := prog_7_method_44_code
def yX5_neededFor : MethodName := ⟨RX5, "neededFor", "(I)I"⟩
abbrev cX5_pushOf : ByteArray := prog_7_method_45_code
def yX5_pushOf : MethodName := ⟨RX5, "pushOf", "(I)I"⟩
abbrev cX5_projectOf : ByteArray := prog_7_method_46_code
def yX5_projectOf : MethodName := ⟨RX5, "projectOf", "(II)I"⟩
abbrev cX5_personOf : ByteArray := prog_7_method_47_code
def yX5_personOf : MethodName := ⟨RX5, "personOf", "(II)I"⟩
abbrev cX5_isSet : ByteArray := prog_7_method_48_code
def yX5_isSet : MethodName := ⟨RX5, "isSet", "(I)Z"⟩
abbrev cX5_standing : ByteArray := prog_7_method_49_code
def yX5_standing : MethodName := ⟨RX5, "standing", "(I)I"⟩
abbrev cX5_setOf : ByteArray := prog_7_method_50_code
def yX5_setOf : MethodName := ⟨RX5, "setOf", "(II)I"⟩
abbrev cX5_isAhead : ByteArray := prog_7_method_51_code
def yX5_isAhead : MethodName := ⟨RX5, "isAhead", "(IIII)Z"⟩
abbrev cX5_orderAt : ByteArray := prog_7_method_52_code
def yX5_orderAt : MethodName := ⟨RX5, "orderAt", "(II)I"⟩
abbrev cX5_setsThatHold : ByteArray := prog_7_method_53_code
def yX5_setsThatHold : MethodName := ⟨RX5, "setsThatHold", "()I"⟩
abbrev cX5_wavesNow : ByteArray := prog_7_method_54_code
def yX5_wavesNow : MethodName := ⟨RX5, "wavesNow", "()I"⟩
abbrev cX5_goalsNow : ByteArray := prog_7_method_55_code
def yX5_goalsNow : MethodName := ⟨RX5, "goalsNow", "()I"⟩
abbrev cX5_count : ByteArray := prog_7_method_56_code
def yX5_count : MethodName := ⟨RX5, "count", "(I)I"⟩
abbrev cX5_undo : ByteArray := prog_7_method_57_code
def yX5_undo : MethodName := ⟨RX5, "undo", "()I"⟩
abbrev cX5_type : ByteArray := prog_7_method_58_code
def yX5_type : MethodName := ⟨RX5, "type", "(I)I"⟩
abbrev cX5_clearText : ByteArray := prog_7_method_59_code
def yX5_clearText : MethodName := ⟨RX5, "clearText", "()I"⟩
abbrev cX5_here : ByteArray := prog_7_method_60_code
def yX5_here : MethodName := ⟨RX5, "here", "()I"⟩
abbrev cX5_must : ByteArray := prog_7_method_61_code
def yX5_must : MethodName := ⟨RX5, "must", "(I)V"⟩
abbrev cX5_readNumber : ByteArray := prog_7_method_62_code
def yX5_readNumber : MethodName := ⟨RX5, "readNumber", "(I)I"⟩
abbrev cX5_command : ByteArray := prog_7_method_63_code
def yX5_command : MethodName := ⟨RX5, "command", "()I"⟩
abbrev cX5_does : ByteArray := prog_7_method_64_code
def yX5_does : MethodName := ⟨RX5, "does", "()I"⟩
abbrev cX5_fault : ByteArray := prog_7_method_65_code
def yX5_fault : MethodName := ⟨RX5, "fault", "(I)I"⟩
abbrev cX5_play : ByteArray := prog_7_method_66_code
def yX5_play : MethodName := ⟨RX5, "play", "()I"⟩
def RJ6 : String := "java/lang/Integer"
abbrev cJ6_bitCount_0f7a4 : ByteArray := prog_8_method_49_code
def yJ6_bitCount_0f7a4 : MethodName := ⟨RJ6, "bitCount", "(I)I"⟩
def RJ10 : String := "java/lang/System"
def RL : String := "PledgeTipsLaw"
abbrev cL_law : ByteArray := code
def yL_law : MethodName := ⟨RL, "law", "([I)Z"⟩
abbrev vwCl : List vw_C := [(RX0, TX0, 2), (RX1, TX1, 4), (RX2, TX2, 17), (RX3, TX3, 9), (RX4, TX4, 7), (RX5, TX5, 15)]
def GW : List Cond := lw_tbl.filter goodWord
theorem gw_of {w : Cond} (h : w ∈ lw_tbl) (hg : goodWord w = true) : w ∈ GW := List.mem_filter.mpr ⟨h, hg⟩
theorem tb {w : Cond} (i : Nat) (h : tables_1[i]? = some w) : w ∈ lw_tbl := List.mem_append_right _ (List.mem_of_getElem? h)
theorem sl {q : MethodName × Nat} (i : Nat) (h : lw_privs[i]? = some q) : Cond.selects q.1.cls q.1 q.1 ∈ lw_tbl := List.mem_append_left _ (List.mem_map.mpr ⟨q, List.mem_of_getElem? h, rfl⟩)
theorem k0 : Cond.initialized RL ∈ GW := gw_of (tb 0 (by decide +kernel)) rfl
theorem k1 : Cond.initialized RX4 ∈ GW := gw_of (tb 1 (by decide +kernel)) rfl
theorem k2 : Cond.initialized RX2 ∈ GW := gw_of (tb 2 (by decide +kernel)) rfl
theorem k3 : Cond.initialized RX1 ∈ GW := gw_of (tb 3 (by decide +kernel)) rfl
theorem k4 : Cond.initialized RX0 ∈ GW := gw_of (tb 4 (by decide +kernel)) rfl
theorem k5 : Cond.initialized RX3 ∈ GW := gw_of (tb 5 (by decide +kernel)) rfl
theorem k6 : Cond.initialized RX5 ∈ GW := gw_of (tb 6 (by decide +kernel)) rfl
theorem k7 : Cond.initialized RJ10 ∈ GW := gw_of (tb 7 (by decide +kernel)) rfl
theorem k8 : Cond.initialized RJ6 ∈ GW := gw_of (tb 8 (by decide +kernel)) rfl
theorem k9 : Cond.classLink RL 7 RX4 ∈ GW := gw_of (tb 9 (by decide +kernel)) rfl
theorem k10 : Cond.instantiable RX4 7 ∈ GW := gw_of (tb 10 (by decide +kernel)) rfl
theorem k11 : Cond.methodLink RL 9 yX4_init ∈ GW := gw_of (tb 11 (by decide +kernel)) rfl
theorem k12 : Cond.instanceMethod yX4_init ∈ GW := gw_of (tb 12 (by decide +kernel)) rfl
theorem k13 : Cond.code yX4_init cX4_init 2 (none) ∈ GW := gw_of (tb 13 (by decide +kernel)) rfl
theorem k14 : Cond.methodLink RX4 1 objectInit ∈ GW := gw_of (tb 14 (by decide +kernel)) rfl
theorem k15 : Cond.instanceMethod objectInit ∈ GW := gw_of (tb 15 (by decide +kernel)) rfl
theorem k16 : Cond.code objectInit object_method_1_code 1 (none) ∈ GW := gw_of (tb 16 (by decide +kernel)) rfl
theorem k17 : Cond.classLink RX4 7 RX2 ∈ GW := gw_of (tb 17 (by decide +kernel)) rfl
theorem k18 : Cond.instantiable RX2 17 ∈ GW := gw_of (tb 18 (by decide +kernel)) rfl
theorem k19 : Cond.methodLinkNest RX4 9 yX2_init "PledgeTips" ∈ lw_tbl := tb 19 (by decide +kernel)
theorem k20 : Cond.instanceMethod yX2_init ∈ GW := gw_of (tb 20 (by decide +kernel)) rfl
theorem k21 : Cond.code yX2_init cX2_init 1 (none) ∈ GW := gw_of (tb 21 (by decide +kernel)) rfl
theorem k22 : Cond.methodLink RX2 3 objectInit ∈ GW := gw_of (tb 22 (by decide +kernel)) rfl
theorem k23 : Cond.fieldLink RX2 39 "PledgeTips$Place" "projects" "I" ∈ GW := gw_of (tb 23 (by decide +kernel)) rfl
theorem k24 : Cond.fieldLinkNest RX0 19 "PledgeTips$Place" "projects" "I" "PledgeTips" ∈ lw_tbl := tb 24 (by decide +kernel)
theorem k25 : Cond.fieldLinkNest RX4 183 "PledgeTips$Place" "projects" "I" "PledgeTips" ∈ lw_tbl := tb 25 (by decide +kernel)
theorem k26 : Cond.fieldLink RX2 9 "PledgeTips$Place" "goal" "[I" ∈ GW := gw_of (tb 26 (by decide +kernel)) rfl
theorem k27 : Cond.fieldLinkNest RX0 25 "PledgeTips$Place" "goal" "[I" "PledgeTips" ∈ lw_tbl := tb 27 (by decide +kernel)
theorem k28 : Cond.fieldLinkNest RX1 43 "PledgeTips$Place" "goal" "[I" "PledgeTips" ∈ lw_tbl := tb 28 (by decide +kernel)
theorem k29 : Cond.fieldLinkNest RX4 115 "PledgeTips$Place" "goal" "[I" "PledgeTips" ∈ lw_tbl := tb 29 (by decide +kernel)
theorem k30 : Cond.fieldLink RX2 43 "PledgeTips$Place" "closed" "I" ∈ GW := gw_of (tb 30 (by decide +kernel)) rfl
theorem k31 : Cond.fieldLinkNest RX0 105 "PledgeTips$Place" "closed" "I" "PledgeTips" ∈ lw_tbl := tb 31 (by decide +kernel)
theorem k32 : Cond.fieldLinkNest RX4 124 "PledgeTips$Place" "closed" "I" "PledgeTips" ∈ lw_tbl := tb 32 (by decide +kernel)
theorem k33 : Cond.fieldLink RX2 46 "PledgeTips$Place" "persons" "I" ∈ GW := gw_of (tb 33 (by decide +kernel)) rfl
theorem k34 : Cond.fieldLinkNest RX0 29 "PledgeTips$Place" "persons" "I" "PledgeTips" ∈ lw_tbl := tb 34 (by decide +kernel)
theorem k35 : Cond.fieldLinkNest RX4 186 "PledgeTips$Place" "persons" "I" "PledgeTips" ∈ lw_tbl := tb 35 (by decide +kernel)
theorem k36 : Cond.fieldLink RX2 15 "PledgeTips$Place" "purse" "[I" ∈ GW := gw_of (tb 36 (by decide +kernel)) rfl
theorem k37 : Cond.fieldLinkNest RX0 32 "PledgeTips$Place" "purse" "[I" "PledgeTips" ∈ lw_tbl := tb 37 (by decide +kernel)
theorem k38 : Cond.fieldLinkNest RX4 145 "PledgeTips$Place" "purse" "[I" "PledgeTips" ∈ lw_tbl := tb 38 (by decide +kernel)
theorem k39 : Cond.fieldLink RX2 18 "PledgeTips$Place" "paid" "[I" ∈ GW := gw_of (tb 39 (by decide +kernel)) rfl
theorem k40 : Cond.fieldLinkNest RX0 102 "PledgeTips$Place" "paid" "[I" "PledgeTips" ∈ lw_tbl := tb 40 (by decide +kernel)
theorem k41 : Cond.fieldLinkNest RX4 151 "PledgeTips$Place" "paid" "[I" "PledgeTips" ∈ lw_tbl := tb 41 (by decide +kernel)
theorem k42 : Cond.fieldLink RX2 49 "PledgeTips$Place" "open" "I" ∈ GW := gw_of (tb 42 (by decide +kernel)) rfl
theorem k43 : Cond.fieldLinkNest RX0 50 "PledgeTips$Place" "open" "I" "PledgeTips" ∈ lw_tbl := tb 43 (by decide +kernel)
theorem k44 : Cond.fieldLinkNest RX1 62 "PledgeTips$Place" "open" "I" "PledgeTips" ∈ lw_tbl := tb 44 (by decide +kernel)
theorem k45 : Cond.fieldLinkNest RX4 148 "PledgeTips$Place" "open" "I" "PledgeTips" ∈ lw_tbl := tb 45 (by decide +kernel)
theorem k46 : Cond.fieldLink RX2 52 "PledgeTips$Place" "called" "I" ∈ GW := gw_of (tb 46 (by decide +kernel)) rfl
theorem k47 : Cond.fieldLinkNest RX0 87 "PledgeTips$Place" "called" "I" "PledgeTips" ∈ lw_tbl := tb 47 (by decide +kernel)
theorem k48 : Cond.fieldLinkNest RX1 65 "PledgeTips$Place" "called" "I" "PledgeTips" ∈ lw_tbl := tb 48 (by decide +kernel)
theorem k49 : Cond.fieldLinkNest RX4 92 "PledgeTips$Place" "called" "I" "PledgeTips" ∈ lw_tbl := tb 49 (by decide +kernel)
theorem k50 : Cond.fieldLink RX2 21 "PledgeTips$Place" "giver" "[I" ∈ GW := gw_of (tb 50 (by decide +kernel)) rfl
theorem k51 : Cond.fieldLinkNest RX1 34 "PledgeTips$Place" "giver" "[I" "PledgeTips" ∈ lw_tbl := tb 51 (by decide +kernel)
theorem k52 : Cond.fieldLinkNest RX0 63 "PledgeTips$Place" "giver" "[I" "PledgeTips" ∈ lw_tbl := tb 52 (by decide +kernel)
theorem k53 : Cond.fieldLinkNest RX4 76 "PledgeTips$Place" "giver" "[I" "PledgeTips" ∈ lw_tbl := tb 53 (by decide +kernel)
theorem k54 : Cond.fieldLink RX2 24 "PledgeTips$Place" "target" "[I" ∈ GW := gw_of (tb 54 (by decide +kernel)) rfl
theorem k55 : Cond.fieldLinkNest RX1 28 "PledgeTips$Place" "target" "[I" "PledgeTips" ∈ lw_tbl := tb 55 (by decide +kernel)
theorem k56 : Cond.fieldLinkNest RX0 66 "PledgeTips$Place" "target" "[I" "PledgeTips" ∈ lw_tbl := tb 56 (by decide +kernel)
theorem k57 : Cond.fieldLinkNest RX4 80 "PledgeTips$Place" "target" "[I" "PledgeTips" ∈ lw_tbl := tb 57 (by decide +kernel)
theorem k58 : Cond.fieldLink RX2 27 "PledgeTips$Place" "amount" "[I" ∈ GW := gw_of (tb 58 (by decide +kernel)) rfl
theorem k59 : Cond.fieldLinkNest RX1 31 "PledgeTips$Place" "amount" "[I" "PledgeTips" ∈ lw_tbl := tb 59 (by decide +kernel)
theorem k60 : Cond.fieldLinkNest RX0 69 "PledgeTips$Place" "amount" "[I" "PledgeTips" ∈ lw_tbl := tb 60 (by decide +kernel)
theorem k61 : Cond.fieldLinkNest RX4 83 "PledgeTips$Place" "amount" "[I" "PledgeTips" ∈ lw_tbl := tb 61 (by decide +kernel)
theorem k62 : Cond.fieldLink RX2 30 "PledgeTips$Place" "kind" "[I" ∈ GW := gw_of (tb 62 (by decide +kernel)) rfl
theorem k63 : Cond.fieldLinkNest RX1 37 "PledgeTips$Place" "kind" "[I" "PledgeTips" ∈ lw_tbl := tb 63 (by decide +kernel)
theorem k64 : Cond.fieldLinkNest RX0 72 "PledgeTips$Place" "kind" "[I" "PledgeTips" ∈ lw_tbl := tb 64 (by decide +kernel)
theorem k65 : Cond.fieldLinkNest RX4 86 "PledgeTips$Place" "kind" "[I" "PledgeTips" ∈ lw_tbl := tb 65 (by decide +kernel)
theorem k66 : Cond.fieldLink RX2 33 "PledgeTips$Place" "value" "[I" ∈ GW := gw_of (tb 66 (by decide +kernel)) rfl
theorem k67 : Cond.fieldLinkNest RX1 40 "PledgeTips$Place" "value" "[I" "PledgeTips" ∈ lw_tbl := tb 67 (by decide +kernel)
theorem k68 : Cond.fieldLinkNest RX0 75 "PledgeTips$Place" "value" "[I" "PledgeTips" ∈ lw_tbl := tb 68 (by decide +kernel)
theorem k69 : Cond.fieldLinkNest RX4 89 "PledgeTips$Place" "value" "[I" "PledgeTips" ∈ lw_tbl := tb 69 (by decide +kernel)
theorem k70 : Cond.fieldLink RX2 36 "PledgeTips$Place" "turn" "[I" ∈ GW := gw_of (tb 70 (by decide +kernel)) rfl
theorem k71 : Cond.fieldLinkNest RX0 78 "PledgeTips$Place" "turn" "[I" "PledgeTips" ∈ lw_tbl := tb 71 (by decide +kernel)
theorem k72 : Cond.fieldLinkNest RX4 103 "PledgeTips$Place" "turn" "[I" "PledgeTips" ∈ lw_tbl := tb 72 (by decide +kernel)
theorem k73 : Cond.fieldLinkNest RX1 97 "PledgeTips$Place" "turn" "[I" "PledgeTips" ∈ lw_tbl := tb 73 (by decide +kernel)
theorem k74 : Cond.fieldLink RX2 55 "PledgeTips$Place" "made" "I" ∈ GW := gw_of (tb 74 (by decide +kernel)) rfl
theorem k75 : Cond.fieldLinkNest RX0 81 "PledgeTips$Place" "made" "I" "PledgeTips" ∈ lw_tbl := tb 75 (by decide +kernel)
theorem k76 : Cond.fieldLinkNest RX4 201 "PledgeTips$Place" "made" "I" "PledgeTips" ∈ lw_tbl := tb 76 (by decide +kernel)
theorem k77 : Cond.fieldLinkNest RX1 91 "PledgeTips$Place" "made" "I" "PledgeTips" ∈ lw_tbl := tb 77 (by decide +kernel)
theorem k78 : Cond.fieldLink RX2 58 "PledgeTips$Place" "withdrawn" "I" ∈ GW := gw_of (tb 78 (by decide +kernel)) rfl
theorem k79 : Cond.fieldLinkNest RX0 96 "PledgeTips$Place" "withdrawn" "I" "PledgeTips" ∈ lw_tbl := tb 79 (by decide +kernel)
theorem k80 : Cond.fieldLinkNest RX4 204 "PledgeTips$Place" "withdrawn" "I" "PledgeTips" ∈ lw_tbl := tb 80 (by decide +kernel)
theorem k81 : Cond.fieldLink RX2 61 "PledgeTips$Place" "money" "I" ∈ GW := gw_of (tb 81 (by decide +kernel)) rfl
theorem k82 : Cond.fieldLinkNest RX0 108 "PledgeTips$Place" "money" "I" "PledgeTips" ∈ lw_tbl := tb 82 (by decide +kernel)
theorem k83 : Cond.fieldLinkNest RX4 207 "PledgeTips$Place" "money" "I" "PledgeTips" ∈ lw_tbl := tb 83 (by decide +kernel)
theorem k84 : Cond.lays "PledgeTips$Place" "PledgeTips$Place" "projects" "I" ∈ GW := gw_of (tb 84 (by decide +kernel)) rfl
theorem k86 : Cond.laysFinal "PledgeTips$Place" "PledgeTips$Place" "goal" "[I" ∈ GW := gw_of (tb 86 (by decide +kernel)) rfl
theorem k88 : Cond.lays "PledgeTips$Place" "PledgeTips$Place" "closed" "I" ∈ GW := gw_of (tb 88 (by decide +kernel)) rfl
theorem k90 : Cond.lays "PledgeTips$Place" "PledgeTips$Place" "persons" "I" ∈ GW := gw_of (tb 90 (by decide +kernel)) rfl
theorem k92 : Cond.laysFinal "PledgeTips$Place" "PledgeTips$Place" "purse" "[I" ∈ GW := gw_of (tb 92 (by decide +kernel)) rfl
theorem k94 : Cond.laysFinal "PledgeTips$Place" "PledgeTips$Place" "paid" "[I" ∈ GW := gw_of (tb 94 (by decide +kernel)) rfl
theorem k96 : Cond.lays "PledgeTips$Place" "PledgeTips$Place" "open" "I" ∈ GW := gw_of (tb 96 (by decide +kernel)) rfl
theorem k98 : Cond.lays "PledgeTips$Place" "PledgeTips$Place" "called" "I" ∈ GW := gw_of (tb 98 (by decide +kernel)) rfl
theorem k100 : Cond.laysFinal "PledgeTips$Place" "PledgeTips$Place" "giver" "[I" ∈ GW := gw_of (tb 100 (by decide +kernel)) rfl
theorem k102 : Cond.laysFinal "PledgeTips$Place" "PledgeTips$Place" "target" "[I" ∈ GW := gw_of (tb 102 (by decide +kernel)) rfl
theorem k104 : Cond.laysFinal "PledgeTips$Place" "PledgeTips$Place" "amount" "[I" ∈ GW := gw_of (tb 104 (by decide +kernel)) rfl
theorem k106 : Cond.laysFinal "PledgeTips$Place" "PledgeTips$Place" "kind" "[I" ∈ GW := gw_of (tb 106 (by decide +kernel)) rfl
theorem k108 : Cond.laysFinal "PledgeTips$Place" "PledgeTips$Place" "value" "[I" ∈ GW := gw_of (tb 108 (by decide +kernel)) rfl
theorem k110 : Cond.laysFinal "PledgeTips$Place" "PledgeTips$Place" "turn" "[I" ∈ GW := gw_of (tb 110 (by decide +kernel)) rfl
theorem k112 : Cond.lays "PledgeTips$Place" "PledgeTips$Place" "made" "I" ∈ GW := gw_of (tb 112 (by decide +kernel)) rfl
theorem k114 : Cond.lays "PledgeTips$Place" "PledgeTips$Place" "withdrawn" "I" ∈ GW := gw_of (tb 114 (by decide +kernel)) rfl
theorem k116 : Cond.lays "PledgeTips$Place" "PledgeTips$Place" "money" "I" ∈ GW := gw_of (tb 116 (by decide +kernel)) rfl
theorem k119 : Cond.arrayClass FieldType.int ∈ GW := gw_of (tb 119 (by decide +kernel)) rfl
theorem k120 : Cond.classLink RX4 16 RX1 ∈ GW := gw_of (tb 120 (by decide +kernel)) rfl
theorem k121 : Cond.instantiable RX1 4 ∈ GW := gw_of (tb 121 (by decide +kernel)) rfl
theorem k122 : Cond.methodLinkNest RX4 18 yX1_init "PledgeTips" ∈ lw_tbl := tb 122 (by decide +kernel)
theorem k123 : Cond.instanceMethod yX1_init ∈ GW := gw_of (tb 123 (by decide +kernel)) rfl
theorem k124 : Cond.code yX1_init cX1_init 2 (none) ∈ GW := gw_of (tb 124 (by decide +kernel)) rfl
theorem k125 : Cond.methodLink RX1 3 objectInit ∈ GW := gw_of (tb 125 (by decide +kernel)) rfl
theorem k126 : Cond.fieldLink RX1 18 "PledgeTips$Judge" "place" "LPledgeTips$Place;" ∈ GW := gw_of (tb 126 (by decide +kernel)) rfl
theorem k127 : Cond.fieldLink RX1 9 "PledgeTips$Judge" "sums" "[I" ∈ GW := gw_of (tb 127 (by decide +kernel)) rfl
theorem k128 : Cond.fieldLink RX1 15 "PledgeTips$Judge" "counts" "[I" ∈ GW := gw_of (tb 128 (by decide +kernel)) rfl
theorem k129 : Cond.fieldLink RX1 22 "PledgeTips$Judge" "givers" "I" ∈ GW := gw_of (tb 129 (by decide +kernel)) rfl
theorem k130 : Cond.laysFinal "PledgeTips$Judge" "PledgeTips$Judge" "place" "LPledgeTips$Place;" ∈ GW := gw_of (tb 130 (by decide +kernel)) rfl
theorem k132 : Cond.laysFinal "PledgeTips$Judge" "PledgeTips$Judge" "sums" "[I" ∈ GW := gw_of (tb 132 (by decide +kernel)) rfl
theorem k134 : Cond.laysFinal "PledgeTips$Judge" "PledgeTips$Judge" "counts" "[I" ∈ GW := gw_of (tb 134 (by decide +kernel)) rfl
theorem k136 : Cond.lays "PledgeTips$Judge" "PledgeTips$Judge" "givers" "I" ∈ GW := gw_of (tb 136 (by decide +kernel)) rfl
theorem k139 : Cond.classLink RX4 25 RX0 ∈ GW := gw_of (tb 139 (by decide +kernel)) rfl
theorem k140 : Cond.instantiable RX0 2 ∈ GW := gw_of (tb 140 (by decide +kernel)) rfl
theorem k141 : Cond.methodLinkNest RX4 27 yX0_init "PledgeTips" ∈ lw_tbl := tb 141 (by decide +kernel)
theorem k142 : Cond.instanceMethod yX0_init ∈ GW := gw_of (tb 142 (by decide +kernel)) rfl
theorem k143 : Cond.code yX0_init cX0_init 3 (none) ∈ GW := gw_of (tb 143 (by decide +kernel)) rfl
theorem k144 : Cond.methodLink RX0 3 objectInit ∈ GW := gw_of (tb 144 (by decide +kernel)) rfl
theorem k145 : Cond.fieldLink RX0 9 "PledgeTips$Clerk" "place" "LPledgeTips$Place;" ∈ GW := gw_of (tb 145 (by decide +kernel)) rfl
theorem k146 : Cond.fieldLink RX0 15 "PledgeTips$Clerk" "judge" "LPledgeTips$Judge;" ∈ GW := gw_of (tb 146 (by decide +kernel)) rfl
theorem k147 : Cond.laysFinal "PledgeTips$Clerk" "PledgeTips$Clerk" "place" "LPledgeTips$Place;" ∈ GW := gw_of (tb 147 (by decide +kernel)) rfl
theorem k149 : Cond.laysFinal "PledgeTips$Clerk" "PledgeTips$Clerk" "judge" "LPledgeTips$Judge;" ∈ GW := gw_of (tb 149 (by decide +kernel)) rfl
theorem k152 : Cond.classLink RX4 34 RX3 ∈ GW := gw_of (tb 152 (by decide +kernel)) rfl
theorem k153 : Cond.instantiable RX3 9 ∈ GW := gw_of (tb 153 (by decide +kernel)) rfl
theorem k154 : Cond.methodLinkNest RX4 36 yX3_init "PledgeTips" ∈ lw_tbl := tb 154 (by decide +kernel)
theorem k155 : Cond.instanceMethod yX3_init ∈ GW := gw_of (tb 155 (by decide +kernel)) rfl
theorem k156 : Cond.code yX3_init cX3_init 1 (none) ∈ GW := gw_of (tb 156 (by decide +kernel)) rfl
theorem k157 : Cond.methodLink RX3 3 objectInit ∈ GW := gw_of (tb 157 (by decide +kernel)) rfl
theorem k158 : Cond.classLink RX3 19 RX2 ∈ GW := gw_of (tb 158 (by decide +kernel)) rfl
theorem k159 : Cond.methodLinkNest RX3 21 yX2_init "PledgeTips" ∈ lw_tbl := tb 159 (by decide +kernel)
theorem k160 : Cond.classLink RX3 26 RX0 ∈ GW := gw_of (tb 160 (by decide +kernel)) rfl
theorem k161 : Cond.classLink RX3 28 RX1 ∈ GW := gw_of (tb 161 (by decide +kernel)) rfl
theorem k162 : Cond.methodLinkNest RX3 30 yX1_init "PledgeTips" ∈ lw_tbl := tb 162 (by decide +kernel)
theorem k163 : Cond.methodLinkNest RX3 33 yX0_init "PledgeTips" ∈ lw_tbl := tb 163 (by decide +kernel)
theorem k164 : Cond.fieldLink RX3 9 "PledgeTips$Script" "text" "[C" ∈ GW := gw_of (tb 164 (by decide +kernel)) rfl
theorem k165 : Cond.fieldLink RX3 40 "PledgeTips$Script" "length" "I" ∈ GW := gw_of (tb 165 (by decide +kernel)) rfl
theorem k166 : Cond.fieldLinkNest RX4 213 "PledgeTips$Script" "length" "I" "PledgeTips" ∈ lw_tbl := tb 166 (by decide +kernel)
theorem k167 : Cond.fieldLink RX3 15 "PledgeTips$Script" "numbers" "[I" ∈ GW := gw_of (tb 167 (by decide +kernel)) rfl
theorem k168 : Cond.fieldLink RX3 22 "PledgeTips$Script" "outcome" "LPledgeTips$Place;" ∈ GW := gw_of (tb 168 (by decide +kernel)) rfl
theorem k169 : Cond.fieldLinkNest RX4 242 "PledgeTips$Script" "outcome" "LPledgeTips$Place;" "PledgeTips" ∈ lw_tbl := tb 169 (by decide +kernel)
theorem k170 : Cond.fieldLink RX3 36 "PledgeTips$Script" "clerk" "LPledgeTips$Clerk;" ∈ GW := gw_of (tb 170 (by decide +kernel)) rfl
theorem k171 : Cond.fieldLink RX3 50 "PledgeTips$Script" "commands" "I" ∈ GW := gw_of (tb 171 (by decide +kernel)) rfl
theorem k172 : Cond.fieldLinkNest RX4 245 "PledgeTips$Script" "commands" "I" "PledgeTips" ∈ lw_tbl := tb 172 (by decide +kernel)
theorem k173 : Cond.fieldLink RX3 69 "PledgeTips$Script" "faultPosition" "I" ∈ GW := gw_of (tb 173 (by decide +kernel)) rfl
theorem k174 : Cond.fieldLinkNest RX4 229 "PledgeTips$Script" "faultPosition" "I" "PledgeTips" ∈ lw_tbl := tb 174 (by decide +kernel)
theorem k175 : Cond.fieldLink RX3 44 "PledgeTips$Script" "faultReason" "I" ∈ GW := gw_of (tb 175 (by decide +kernel)) rfl
theorem k176 : Cond.fieldLinkNest RX4 232 "PledgeTips$Script" "faultReason" "I" "PledgeTips" ∈ lw_tbl := tb 176 (by decide +kernel)
theorem k177 : Cond.fieldLink RX3 72 "PledgeTips$Script" "faultCause" "I" ∈ GW := gw_of (tb 177 (by decide +kernel)) rfl
theorem k178 : Cond.fieldLinkNest RX4 235 "PledgeTips$Script" "faultCause" "I" "PledgeTips" ∈ lw_tbl := tb 178 (by decide +kernel)
theorem k179 : Cond.laysFinal "PledgeTips$Script" "PledgeTips$Script" "text" "[C" ∈ GW := gw_of (tb 179 (by decide +kernel)) rfl
theorem k181 : Cond.lays "PledgeTips$Script" "PledgeTips$Script" "length" "I" ∈ GW := gw_of (tb 181 (by decide +kernel)) rfl
theorem k183 : Cond.laysFinal "PledgeTips$Script" "PledgeTips$Script" "numbers" "[I" ∈ GW := gw_of (tb 183 (by decide +kernel)) rfl
theorem k185 : Cond.laysFinal "PledgeTips$Script" "PledgeTips$Script" "outcome" "LPledgeTips$Place;" ∈ GW := gw_of (tb 185 (by decide +kernel)) rfl
theorem k187 : Cond.laysFinal "PledgeTips$Script" "PledgeTips$Script" "clerk" "LPledgeTips$Clerk;" ∈ GW := gw_of (tb 187 (by decide +kernel)) rfl
theorem k189 : Cond.lays "PledgeTips$Script" "PledgeTips$Script" "commands" "I" ∈ GW := gw_of (tb 189 (by decide +kernel)) rfl
theorem k191 : Cond.lays "PledgeTips$Script" "PledgeTips$Script" "faultPosition" "I" ∈ GW := gw_of (tb 191 (by decide +kernel)) rfl
theorem k193 : Cond.lays "PledgeTips$Script" "PledgeTips$Script" "faultReason" "I" ∈ GW := gw_of (tb 193 (by decide +kernel)) rfl
theorem k195 : Cond.lays "PledgeTips$Script" "PledgeTips$Script" "faultCause" "I" ∈ GW := gw_of (tb 195 (by decide +kernel)) rfl
theorem k198 : Cond.arrayClass FieldType.char ∈ GW := gw_of (tb 198 (by decide +kernel)) rfl
theorem k199 : Cond.arrayOver (FieldType.object "PledgeTips$Place") ∈ lw_tbl := tb 199 (by decide +kernel)
theorem k200 : Cond.fieldLink RX4 10 "PledgeTips" "now" "LPledgeTips$Place;" ∈ GW := gw_of (tb 200 (by decide +kernel)) rfl
theorem k201 : Cond.fieldLink RX4 21 "PledgeTips" "judge" "LPledgeTips$Judge;" ∈ GW := gw_of (tb 201 (by decide +kernel)) rfl
theorem k202 : Cond.fieldLink RX4 30 "PledgeTips" "clerk" "LPledgeTips$Clerk;" ∈ GW := gw_of (tb 202 (by decide +kernel)) rfl
theorem k203 : Cond.fieldLink RX4 37 "PledgeTips" "script" "LPledgeTips$Script;" ∈ GW := gw_of (tb 203 (by decide +kernel)) rfl
theorem k204 : Cond.fieldLink RX4 41 "PledgeTips" "history" "[LPledgeTips$Place;" ∈ GW := gw_of (tb 204 (by decide +kernel)) rfl
theorem k205 : Cond.fieldLink RX4 210 "PledgeTips" "states" "I" ∈ GW := gw_of (tb 205 (by decide +kernel)) rfl
theorem k206 : Cond.fieldLink RX4 45 "PledgeTips" "keys" "[J" ∈ GW := gw_of (tb 206 (by decide +kernel)) rfl
theorem k207 : Cond.laysFinal "PledgeTips" "PledgeTips" "now" "LPledgeTips$Place;" ∈ GW := gw_of (tb 207 (by decide +kernel)) rfl
theorem k209 : Cond.laysFinal "PledgeTips" "PledgeTips" "judge" "LPledgeTips$Judge;" ∈ GW := gw_of (tb 209 (by decide +kernel)) rfl
theorem k211 : Cond.laysFinal "PledgeTips" "PledgeTips" "clerk" "LPledgeTips$Clerk;" ∈ GW := gw_of (tb 211 (by decide +kernel)) rfl
theorem k213 : Cond.laysFinal "PledgeTips" "PledgeTips" "script" "LPledgeTips$Script;" ∈ GW := gw_of (tb 213 (by decide +kernel)) rfl
theorem k215 : Cond.laysFinal "PledgeTips" "PledgeTips" "history" "[LPledgeTips$Place;" ∈ GW := gw_of (tb 215 (by decide +kernel)) rfl
theorem k217 : Cond.lays "PledgeTips" "PledgeTips" "states" "I" ∈ GW := gw_of (tb 217 (by decide +kernel)) rfl
theorem k219 : Cond.laysFinal "PledgeTips" "PledgeTips" "keys" "[J" ∈ GW := gw_of (tb 219 (by decide +kernel)) rfl
theorem k222 : Cond.arrayClass FieldType.long ∈ GW := gw_of (tb 222 (by decide +kernel)) rfl
theorem k223 : Cond.methodLink RL 13 yX4_project ∈ GW := gw_of (tb 223 (by decide +kernel)) rfl
theorem k224 : Cond.instanceMethod yX4_project ∈ GW := gw_of (tb 224 (by decide +kernel)) rfl
theorem k225 : Cond.selects RX4 yX4_project yX4_project ∈ GW := gw_of (tb 225 (by decide +kernel)) rfl
theorem k226 : Cond.code yX4_project cX4_project 2 (some FieldType.int) ∈ GW := gw_of (tb 226 (by decide +kernel)) rfl
theorem k227 : Cond.methodLink RX4 49 yX4_keepState ∈ GW := gw_of (tb 227 (by decide +kernel)) rfl
theorem k229 : Cond.instanceMethod yX4_keepState ∈ GW := gw_of (tb 229 (by decide +kernel)) rfl
theorem k230 : Cond.code yX4_keepState cX4_keepState 1 (none) ∈ GW := gw_of (tb 230 (by decide +kernel)) rfl
theorem k231 : Cond.methodLinkNest RX4 216 yX2_copyFrom "PledgeTips" ∈ lw_tbl := tb 231 (by decide +kernel)
theorem k233 : Cond.instanceMethod yX2_copyFrom ∈ GW := gw_of (tb 233 (by decide +kernel)) rfl
theorem k234 : Cond.code yX2_copyFrom cX2_copyFrom 2 (none) ∈ GW := gw_of (tb 234 (by decide +kernel)) rfl
theorem k235 : Cond.methodLink RX2 64 arraycopyName ∈ GW := gw_of (tb 235 (by decide +kernel)) rfl
theorem k236 : Cond.static arraycopyName ∈ GW := gw_of (tb 236 (by decide +kernel)) rfl
theorem k237 : Cond.native arraycopyName ∈ GW := gw_of (tb 237 (by decide +kernel)) rfl
theorem k238 : Cond.methodLinkNest RX4 52 yX0_addProject "PledgeTips" ∈ lw_tbl := tb 238 (by decide +kernel)
theorem k240 : Cond.instanceMethod yX0_addProject ∈ GW := gw_of (tb 240 (by decide +kernel)) rfl
theorem k241 : Cond.code yX0_addProject cX0_addProject 3 (some FieldType.int) ∈ GW := gw_of (tb 241 (by decide +kernel)) rfl
theorem k242 : Cond.methodLink RX4 56 yX4_settle ∈ GW := gw_of (tb 242 (by decide +kernel)) rfl
theorem k244 : Cond.instanceMethod yX4_settle ∈ GW := gw_of (tb 244 (by decide +kernel)) rfl
theorem k245 : Cond.code yX4_settle cX4_settle 2 (some FieldType.int) ∈ GW := gw_of (tb 245 (by decide +kernel)) rfl
theorem k246 : Cond.methodLink RX4 248 yX4_dropOldest ∈ GW := gw_of (tb 246 (by decide +kernel)) rfl
theorem k248 : Cond.instanceMethod yX4_dropOldest ∈ GW := gw_of (tb 248 (by decide +kernel)) rfl
theorem k249 : Cond.code yX4_dropOldest cX4_dropOldest 3 (none) ∈ GW := gw_of (tb 249 (by decide +kernel)) rfl
theorem k250 : Cond.methodLink RL 18 yX4_person ∈ GW := gw_of (tb 250 (by decide +kernel)) rfl
theorem k251 : Cond.instanceMethod yX4_person ∈ GW := gw_of (tb 251 (by decide +kernel)) rfl
theorem k252 : Cond.selects RX4 yX4_person yX4_person ∈ GW := gw_of (tb 252 (by decide +kernel)) rfl
theorem k253 : Cond.code yX4_person cX4_person 2 (some FieldType.int) ∈ GW := gw_of (tb 253 (by decide +kernel)) rfl
theorem k254 : Cond.methodLinkNest RX4 59 yX0_addPerson "PledgeTips" ∈ lw_tbl := tb 254 (by decide +kernel)
theorem k256 : Cond.instanceMethod yX0_addPerson ∈ GW := gw_of (tb 256 (by decide +kernel)) rfl
theorem k257 : Cond.code yX0_addPerson cX0_addPerson 3 (some FieldType.int) ∈ GW := gw_of (tb 257 (by decide +kernel)) rfl
theorem k258 : Cond.methodLink RL 22 yX4_pledge ∈ GW := gw_of (tb 258 (by decide +kernel)) rfl
theorem k259 : Cond.instanceMethod yX4_pledge ∈ GW := gw_of (tb 259 (by decide +kernel)) rfl
theorem k260 : Cond.selects RX4 yX4_pledge yX4_pledge ∈ GW := gw_of (tb 260 (by decide +kernel)) rfl
theorem k261 : Cond.code yX4_pledge cX4_pledge 6 (some FieldType.int) ∈ GW := gw_of (tb 261 (by decide +kernel)) rfl
theorem k262 : Cond.methodLinkNest RX4 62 yX0_makePledge "PledgeTips" ∈ lw_tbl := tb 262 (by decide +kernel)
theorem k264 : Cond.instanceMethod yX0_makePledge ∈ GW := gw_of (tb 264 (by decide +kernel)) rfl
theorem k265 : Cond.code yX0_makePledge cX0_makePledge 8 (some FieldType.int) ∈ GW := gw_of (tb 265 (by decide +kernel)) rfl
theorem k266 : Cond.methodLinkNest RX0 35 yX2_hasPerson "PledgeTips" ∈ lw_tbl := tb 266 (by decide +kernel)
theorem k268 : Cond.instanceMethod yX2_hasPerson ∈ GW := gw_of (tb 268 (by decide +kernel)) rfl
theorem k269 : Cond.code yX2_hasPerson cX2_hasPerson 2 (some FieldType.boolean) ∈ GW := gw_of (tb 269 (by decide +kernel)) rfl
theorem k270 : Cond.methodLinkNest RX0 39 yX2_hasProject "PledgeTips" ∈ lw_tbl := tb 270 (by decide +kernel)
theorem k272 : Cond.instanceMethod yX2_hasProject ∈ GW := gw_of (tb 272 (by decide +kernel)) rfl
theorem k273 : Cond.code yX2_hasProject cX2_hasProject 2 (some FieldType.boolean) ∈ GW := gw_of (tb 273 (by decide +kernel)) rfl
theorem k274 : Cond.methodLink RX0 42 yX0_isCondition ∈ GW := gw_of (tb 274 (by decide +kernel)) rfl
theorem k276 : Cond.instanceMethod yX0_isCondition ∈ GW := gw_of (tb 276 (by decide +kernel)) rfl
theorem k277 : Cond.code yX0_isCondition cX0_isCondition 5 (some FieldType.boolean) ∈ GW := gw_of (tb 277 (by decide +kernel)) rfl
theorem k278 : Cond.methodLinkNest RX0 46 yX2_pledgesOf "PledgeTips" ∈ lw_tbl := tb 278 (by decide +kernel)
theorem k280 : Cond.instanceMethod yX2_pledgesOf ∈ GW := gw_of (tb 280 (by decide +kernel)) rfl
theorem k281 : Cond.code yX2_pledgesOf cX2_pledgesOf 4 (some FieldType.int) ∈ GW := gw_of (tb 281 (by decide +kernel)) rfl
theorem k282 : Cond.methodLink RX2 70 yX2_pledges ∈ GW := gw_of (tb 282 (by decide +kernel)) rfl
theorem k284 : Cond.instanceMethod yX2_pledges ∈ GW := gw_of (tb 284 (by decide +kernel)) rfl
theorem k285 : Cond.code yX2_pledges cX2_pledges 1 (some FieldType.int) ∈ GW := gw_of (tb 285 (by decide +kernel)) rfl
theorem k286 : Cond.methodLinkNest RX0 53 yX2_sum "PledgeTips" ∈ lw_tbl := tb 286 (by decide +kernel)
theorem k288 : Cond.instanceMethod yX2_sum ∈ GW := gw_of (tb 288 (by decide +kernel)) rfl
theorem k289 : Cond.code yX2_sum cX2_sum 4 (some FieldType.int) ∈ GW := gw_of (tb 289 (by decide +kernel)) rfl
theorem k290 : Cond.methodLinkNest RX0 56 yX2_isClosed "PledgeTips" ∈ lw_tbl := tb 290 (by decide +kernel)
theorem k292 : Cond.instanceMethod yX2_isClosed ∈ GW := gw_of (tb 292 (by decide +kernel)) rfl
theorem k293 : Cond.code yX2_isClosed cX2_isClosed 2 (some FieldType.boolean) ∈ GW := gw_of (tb 293 (by decide +kernel)) rfl
theorem k294 : Cond.methodLinkNest RX0 59 yX2_lowestFreeNumber "PledgeTips" ∈ lw_tbl := tb 294 (by decide +kernel)
theorem k296 : Cond.instanceMethod yX2_lowestFreeNumber ∈ GW := gw_of (tb 296 (by decide +kernel)) rfl
theorem k297 : Cond.code yX2_lowestFreeNumber cX2_lowestFreeNumber 2 (some FieldType.int) ∈ GW := gw_of (tb 297 (by decide +kernel)) rfl
theorem k298 : Cond.methodLink RX2 74 yX2_hasPledge ∈ GW := gw_of (tb 298 (by decide +kernel)) rfl
theorem k300 : Cond.instanceMethod yX2_hasPledge ∈ GW := gw_of (tb 300 (by decide +kernel)) rfl
theorem k301 : Cond.code yX2_hasPledge cX2_hasPledge 2 (some FieldType.boolean) ∈ GW := gw_of (tb 301 (by decide +kernel)) rfl
theorem k302 : Cond.methodLink RL 27 yX4_withdraw ∈ GW := gw_of (tb 302 (by decide +kernel)) rfl
theorem k303 : Cond.instanceMethod yX4_withdraw ∈ GW := gw_of (tb 303 (by decide +kernel)) rfl
theorem k304 : Cond.selects RX4 yX4_withdraw yX4_withdraw ∈ GW := gw_of (tb 304 (by decide +kernel)) rfl
theorem k305 : Cond.code yX4_withdraw cX4_withdraw 2 (some FieldType.int) ∈ GW := gw_of (tb 305 (by decide +kernel)) rfl
theorem k306 : Cond.methodLinkNest RX4 66 yX0_takeBack "PledgeTips" ∈ lw_tbl := tb 306 (by decide +kernel)
theorem k308 : Cond.instanceMethod yX0_takeBack ∈ GW := gw_of (tb 308 (by decide +kernel)) rfl
theorem k309 : Cond.code yX0_takeBack cX0_takeBack 4 (some FieldType.int) ∈ GW := gw_of (tb 309 (by decide +kernel)) rfl
theorem k310 : Cond.methodLinkNest RX0 84 yX2_hasPledge "PledgeTips" ∈ lw_tbl := tb 310 (by decide +kernel)
theorem k311 : Cond.methodLinkNest RX0 90 yX1_greatest "PledgeTips" ∈ lw_tbl := tb 311 (by decide +kernel)
theorem k313 : Cond.instanceMethod yX1_greatest ∈ GW := gw_of (tb 313 (by decide +kernel)) rfl
theorem k314 : Cond.code yX1_greatest cX1_greatest 6 (some FieldType.int) ∈ GW := gw_of (tb 314 (by decide +kernel)) rfl
theorem k315 : Cond.methodLink RX1 54 yX1_failing ∈ GW := gw_of (tb 315 (by decide +kernel)) rfl
theorem k317 : Cond.instanceMethod yX1_failing ∈ GW := gw_of (tb 317 (by decide +kernel)) rfl
theorem k318 : Cond.code yX1_failing cX1_failing 5 (some FieldType.int) ∈ GW := gw_of (tb 318 (by decide +kernel)) rfl
theorem k319 : Cond.methodLink RX1 46 yX1_gather ∈ GW := gw_of (tb 319 (by decide +kernel)) rfl
theorem k321 : Cond.instanceMethod yX1_gather ∈ GW := gw_of (tb 321 (by decide +kernel)) rfl
theorem k322 : Cond.code yX1_gather cX1_gather 4 (none) ∈ GW := gw_of (tb 322 (by decide +kernel)) rfl
theorem k323 : Cond.methodLink RX1 50 yX1_holds ∈ GW := gw_of (tb 323 (by decide +kernel)) rfl
theorem k325 : Cond.instanceMethod yX1_holds ∈ GW := gw_of (tb 325 (by decide +kernel)) rfl
theorem k326 : Cond.code yX1_holds cX1_holds 5 (some FieldType.boolean) ∈ GW := gw_of (tb 326 (by decide +kernel)) rfl
theorem k327 : Cond.methodLink RL 31 yX4_callIn ∈ GW := gw_of (tb 327 (by decide +kernel)) rfl
theorem k328 : Cond.instanceMethod yX4_callIn ∈ GW := gw_of (tb 328 (by decide +kernel)) rfl
theorem k329 : Cond.selects RX4 yX4_callIn yX4_callIn ∈ GW := gw_of (tb 329 (by decide +kernel)) rfl
theorem k330 : Cond.code yX4_callIn cX4_callIn 2 (some FieldType.int) ∈ GW := gw_of (tb 330 (by decide +kernel)) rfl
theorem k331 : Cond.methodLinkNest RX4 69 yX0_collect "PledgeTips" ∈ lw_tbl := tb 331 (by decide +kernel)
theorem k333 : Cond.instanceMethod yX0_collect ∈ GW := gw_of (tb 333 (by decide +kernel)) rfl
theorem k334 : Cond.code yX0_collect cX0_collect 7 (some FieldType.int) ∈ GW := gw_of (tb 334 (by decide +kernel)) rfl
theorem k335 : Cond.methodLinkNest RX0 99 yX2_pledgesFor "PledgeTips" ∈ lw_tbl := tb 335 (by decide +kernel)
theorem k337 : Cond.instanceMethod yX2_pledgesFor ∈ GW := gw_of (tb 337 (by decide +kernel)) rfl
theorem k338 : Cond.code yX2_pledgesFor cX2_pledgesFor 4 (some FieldType.int) ∈ GW := gw_of (tb 338 (by decide +kernel)) rfl
theorem k339 : Cond.methodLink RL 35 yX4_pledgeOf ∈ GW := gw_of (tb 339 (by decide +kernel)) rfl
theorem k340 : Cond.instanceMethod yX4_pledgeOf ∈ GW := gw_of (tb 340 (by decide +kernel)) rfl
theorem k341 : Cond.selects RX4 yX4_pledgeOf yX4_pledgeOf ∈ GW := gw_of (tb 341 (by decide +kernel)) rfl
theorem k342 : Cond.code yX4_pledgeOf cX4_pledgeOf 3 (some FieldType.int) ∈ GW := gw_of (tb 342 (by decide +kernel)) rfl
theorem k343 : Cond.methodLinkNest RX4 72 yX2_hasPledge "PledgeTips" ∈ lw_tbl := tb 343 (by decide +kernel)
theorem k344 : Cond.methodLinkNest RX4 96 yX1_stand "PledgeTips" ∈ lw_tbl := tb 344 (by decide +kernel)
theorem k346 : Cond.instanceMethod yX1_stand ∈ GW := gw_of (tb 346 (by decide +kernel)) rfl
theorem k347 : Cond.code yX1_stand cX1_stand 1 (some FieldType.int) ∈ GW := gw_of (tb 347 (by decide +kernel)) rfl
theorem k348 : Cond.methodLink RX1 58 yX1_standWithout ∈ GW := gw_of (tb 348 (by decide +kernel)) rfl
theorem k350 : Cond.instanceMethod yX1_standWithout ∈ GW := gw_of (tb 350 (by decide +kernel)) rfl
theorem k351 : Cond.code yX1_standWithout cX1_standWithout 2 (some FieldType.int) ∈ GW := gw_of (tb 351 (by decide +kernel)) rfl
theorem k352 : Cond.methodLink RX1 68 yX1_greatest ∈ GW := gw_of (tb 352 (by decide +kernel)) rfl
theorem k353 : Cond.methodLink RX4 100 yX4_fallOf ∈ GW := gw_of (tb 353 (by decide +kernel)) rfl
theorem k355 : Cond.instanceMethod yX4_fallOf ∈ GW := gw_of (tb 355 (by decide +kernel)) rfl
theorem k356 : Cond.code yX4_fallOf cX4_fallOf 3 (some FieldType.int) ∈ GW := gw_of (tb 356 (by decide +kernel)) rfl
theorem k357 : Cond.methodLinkNest RX4 251 yX1_waveOf "PledgeTips" ∈ lw_tbl := tb 357 (by decide +kernel)
theorem k359 : Cond.instanceMethod yX1_waveOf ∈ GW := gw_of (tb 359 (by decide +kernel)) rfl
theorem k360 : Cond.code yX1_waveOf cX1_waveOf 5 (some FieldType.int) ∈ GW := gw_of (tb 360 (by decide +kernel)) rfl
theorem k361 : Cond.methodLink RX4 106 yX4_toppledBy ∈ GW := gw_of (tb 361 (by decide +kernel)) rfl
theorem k363 : Cond.instanceMethod yX4_toppledBy ∈ GW := gw_of (tb 363 (by decide +kernel)) rfl
theorem k364 : Cond.code yX4_toppledBy cX4_toppledBy 3 (some FieldType.int) ∈ GW := gw_of (tb 364 (by decide +kernel)) rfl
theorem k365 : Cond.methodLinkNest RX4 154 yX1_fallenWithout "PledgeTips" ∈ lw_tbl := tb 365 (by decide +kernel)
theorem k367 : Cond.instanceMethod yX1_fallenWithout ∈ GW := gw_of (tb 367 (by decide +kernel)) rfl
theorem k368 : Cond.code yX1_fallenWithout cX1_fallenWithout 2 (some FieldType.int) ∈ GW := gw_of (tb 368 (by decide +kernel)) rfl
theorem k369 : Cond.methodLink RX1 71 yX1_stand ∈ GW := gw_of (tb 369 (by decide +kernel)) rfl
theorem k370 : Cond.methodLink RL 40 yX4_projectOf ∈ GW := gw_of (tb 370 (by decide +kernel)) rfl
theorem k371 : Cond.instanceMethod yX4_projectOf ∈ GW := gw_of (tb 371 (by decide +kernel)) rfl
theorem k372 : Cond.selects RX4 yX4_projectOf yX4_projectOf ∈ GW := gw_of (tb 372 (by decide +kernel)) rfl
theorem k373 : Cond.code yX4_projectOf cX4_projectOf 4 (some FieldType.int) ∈ GW := gw_of (tb 373 (by decide +kernel)) rfl
theorem k374 : Cond.methodLinkNest RX4 109 yX2_hasProject "PledgeTips" ∈ lw_tbl := tb 374 (by decide +kernel)
theorem k375 : Cond.methodLinkNest RX4 112 yX2_pledgesFor "PledgeTips" ∈ lw_tbl := tb 375 (by decide +kernel)
theorem k376 : Cond.methodLinkNest RX4 118 yX2_sum "PledgeTips" ∈ lw_tbl := tb 376 (by decide +kernel)
theorem k377 : Cond.methodLinkNest RX4 121 yX1_hasGoal "PledgeTips" ∈ lw_tbl := tb 377 (by decide +kernel)
theorem k379 : Cond.instanceMethod yX1_hasGoal ∈ GW := gw_of (tb 379 (by decide +kernel)) rfl
theorem k380 : Cond.code yX1_hasGoal cX1_hasGoal 2 (some FieldType.boolean) ∈ GW := gw_of (tb 380 (by decide +kernel)) rfl
theorem k381 : Cond.methodLink RX1 81 yX1_reaches ∈ GW := gw_of (tb 381 (by decide +kernel)) rfl
theorem k383 : Cond.instanceMethod yX1_reaches ∈ GW := gw_of (tb 383 (by decide +kernel)) rfl
theorem k384 : Cond.code yX1_reaches cX1_reaches 5 (some FieldType.boolean) ∈ GW := gw_of (tb 384 (by decide +kernel)) rfl
theorem k385 : Cond.methodLinkNest RX1 75 yX2_pledgesFor "PledgeTips" ∈ lw_tbl := tb 385 (by decide +kernel)
theorem k386 : Cond.methodLinkNest RX1 78 yX2_sum "PledgeTips" ∈ lw_tbl := tb 386 (by decide +kernel)
theorem k387 : Cond.methodLinkNest RX4 127 yX1_tip "PledgeTips" ∈ lw_tbl := tb 387 (by decide +kernel)
theorem k389 : Cond.instanceMethod yX1_tip ∈ GW := gw_of (tb 389 (by decide +kernel)) rfl
theorem k390 : Cond.code yX1_tip cX1_tip 6 (some FieldType.int) ∈ GW := gw_of (tb 390 (by decide +kernel)) rfl
theorem k391 : Cond.methodLinkNest RX1 94 yX2_hasPledge "PledgeTips" ∈ lw_tbl := tb 391 (by decide +kernel)
theorem k392 : Cond.methodLinkNest RX1 100 yX2_pledgesUpTo "PledgeTips" ∈ lw_tbl := tb 392 (by decide +kernel)
theorem k394 : Cond.instanceMethod yX2_pledgesUpTo ∈ GW := gw_of (tb 394 (by decide +kernel)) rfl
theorem k395 : Cond.code yX2_pledgesUpTo cX2_pledgesUpTo 4 (some FieldType.int) ∈ GW := gw_of (tb 395 (by decide +kernel)) rfl
theorem k396 : Cond.methodLinkNest RX4 130 yX1_needed "PledgeTips" ∈ lw_tbl := tb 396 (by decide +kernel)
theorem k398 : Cond.instanceMethod yX1_needed ∈ GW := gw_of (tb 398 (by decide +kernel)) rfl
theorem k399 : Cond.code yX1_needed cX1_needed 5 (some FieldType.int) ∈ GW := gw_of (tb 399 (by decide +kernel)) rfl
theorem k400 : Cond.methodLinkNest RX4 133 yX2_isClosed "PledgeTips" ∈ lw_tbl := tb 400 (by decide +kernel)
theorem k401 : Cond.methodLinkNest RX4 136 yX1_push "PledgeTips" ∈ lw_tbl := tb 401 (by decide +kernel)
theorem k403 : Cond.instanceMethod yX1_push ∈ GW := gw_of (tb 403 (by decide +kernel)) rfl
theorem k404 : Cond.code yX1_push cX1_push 6 (some FieldType.int) ∈ GW := gw_of (tb 404 (by decide +kernel)) rfl
theorem k405 : Cond.methodLink RX1 88 yX1_hasGoal ∈ GW := gw_of (tb 405 (by decide +kernel)) rfl
theorem k406 : Cond.methodLink RX1 103 yX1_reachesWith ∈ GW := gw_of (tb 406 (by decide +kernel)) rfl
theorem k408 : Cond.instanceMethod yX1_reachesWith ∈ GW := gw_of (tb 408 (by decide +kernel)) rfl
theorem k409 : Cond.code yX1_reachesWith cX1_reachesWith 4 (some FieldType.boolean) ∈ GW := gw_of (tb 409 (by decide +kernel)) rfl
theorem k410 : Cond.methodLinkNest RX1 107 yX2_thinkOfExtra "PledgeTips" ∈ lw_tbl := tb 410 (by decide +kernel)
theorem k412 : Cond.instanceMethod yX2_thinkOfExtra ∈ GW := gw_of (tb 412 (by decide +kernel)) rfl
theorem k413 : Cond.code yX2_thinkOfExtra cX2_thinkOfExtra 3 (none) ∈ GW := gw_of (tb 413 (by decide +kernel)) rfl
theorem k414 : Cond.methodLink RL 44 yX4_personOf ∈ GW := gw_of (tb 414 (by decide +kernel)) rfl
theorem k415 : Cond.instanceMethod yX4_personOf ∈ GW := gw_of (tb 415 (by decide +kernel)) rfl
theorem k416 : Cond.selects RX4 yX4_personOf yX4_personOf ∈ GW := gw_of (tb 416 (by decide +kernel)) rfl
theorem k417 : Cond.code yX4_personOf cX4_personOf 4 (some FieldType.int) ∈ GW := gw_of (tb 417 (by decide +kernel)) rfl
theorem k418 : Cond.methodLinkNest RX4 139 yX2_hasPerson "PledgeTips" ∈ lw_tbl := tb 418 (by decide +kernel)
theorem k419 : Cond.methodLinkNest RX4 142 yX2_pledgesOf "PledgeTips" ∈ lw_tbl := tb 419 (by decide +kernel)
theorem k420 : Cond.methodLink RX4 157 yJ6_bitCount_0f7a4 ∈ GW := gw_of (tb 420 (by decide +kernel)) rfl
theorem k421 : Cond.static yJ6_bitCount_0f7a4 ∈ GW := gw_of (tb 421 (by decide +kernel)) rfl
theorem k422 : Cond.code yJ6_bitCount_0f7a4 cJ6_bitCount_0f7a4 1 (some FieldType.int) ∈ GW := gw_of (tb 422 (by decide +kernel)) rfl
theorem k423 : Cond.constant "java/lang/Integer" (265 : Nat) (1431655765 : Int32) ∈ GW := gw_of (tb 423 (by decide +kernel)) rfl
theorem k424 : Cond.constant "java/lang/Integer" (266 : Nat) (858993459 : Int32) ∈ GW := gw_of (tb 424 (by decide +kernel)) rfl
theorem k425 : Cond.constant "java/lang/Integer" (267 : Nat) (252645135 : Int32) ∈ GW := gw_of (tb 425 (by decide +kernel)) rfl
theorem k426 : Cond.methodLink RL 48 yX4_standing ∈ GW := gw_of (tb 426 (by decide +kernel)) rfl
theorem k427 : Cond.instanceMethod yX4_standing ∈ GW := gw_of (tb 427 (by decide +kernel)) rfl
theorem k428 : Cond.selects RX4 yX4_standing yX4_standing ∈ GW := gw_of (tb 428 (by decide +kernel)) rfl
theorem k429 : Cond.code yX4_standing cX4_standing 3 (some FieldType.int) ∈ GW := gw_of (tb 429 (by decide +kernel)) rfl
theorem k430 : Cond.methodLink RX4 162 yX4_errorOfSet ∈ GW := gw_of (tb 430 (by decide +kernel)) rfl
theorem k432 : Cond.instanceMethod yX4_errorOfSet ∈ GW := gw_of (tb 432 (by decide +kernel)) rfl
theorem k433 : Cond.code yX4_errorOfSet cX4_errorOfSet 2 (some FieldType.int) ∈ GW := gw_of (tb 433 (by decide +kernel)) rfl
theorem k434 : Cond.methodLinkNest RX4 189 yX2_pledges "PledgeTips" ∈ lw_tbl := tb 434 (by decide +kernel)
theorem k435 : Cond.methodLinkNest RX4 165 yX1_standWithout "PledgeTips" ∈ lw_tbl := tb 435 (by decide +kernel)
theorem k436 : Cond.methodLink RL 52 yX4_setOf ∈ GW := gw_of (tb 436 (by decide +kernel)) rfl
theorem k437 : Cond.instanceMethod yX4_setOf ∈ GW := gw_of (tb 437 (by decide +kernel)) rfl
theorem k438 : Cond.selects RX4 yX4_setOf yX4_setOf ∈ GW := gw_of (tb 438 (by decide +kernel)) rfl
theorem k439 : Cond.code yX4_setOf cX4_setOf 4 (some FieldType.int) ∈ GW := gw_of (tb 439 (by decide +kernel)) rfl
theorem k440 : Cond.methodLinkNest RX4 168 yX1_failing "PledgeTips" ∈ lw_tbl := tb 440 (by decide +kernel)
theorem k441 : Cond.methodLinkNest RX4 172 yX1_greatest "PledgeTips" ∈ lw_tbl := tb 441 (by decide +kernel)
theorem k442 : Cond.methodLink RL 56 yX4_orderAt ∈ GW := gw_of (tb 442 (by decide +kernel)) rfl
theorem k443 : Cond.instanceMethod yX4_orderAt ∈ GW := gw_of (tb 443 (by decide +kernel)) rfl
theorem k444 : Cond.selects RX4 yX4_orderAt yX4_orderAt ∈ GW := gw_of (tb 444 (by decide +kernel)) rfl
theorem k445 : Cond.code yX4_orderAt cX4_orderAt 4 (some FieldType.int) ∈ GW := gw_of (tb 445 (by decide +kernel)) rfl
theorem k446 : Cond.methodLink RX4 175 yX4_keyOf ∈ GW := gw_of (tb 446 (by decide +kernel)) rfl
theorem k448 : Cond.instanceMethod yX4_keyOf ∈ GW := gw_of (tb 448 (by decide +kernel)) rfl
theorem k449 : Cond.code yX4_keyOf cX4_keyOf 5 (some FieldType.long) ∈ GW := gw_of (tb 449 (by decide +kernel)) rfl
theorem k450 : Cond.constantLong "PledgeTips" (254 : Nat) (12 : Int64) ∈ GW := gw_of (tb 450 (by decide +kernel)) rfl
theorem k451 : Cond.methodLink RX4 179 yX4_keysBelow ∈ GW := gw_of (tb 451 (by decide +kernel)) rfl
theorem k453 : Cond.instanceMethod yX4_keysBelow ∈ GW := gw_of (tb 453 (by decide +kernel)) rfl
theorem k454 : Cond.code yX4_keysBelow cX4_keysBelow 5 (some FieldType.int) ∈ GW := gw_of (tb 454 (by decide +kernel)) rfl
theorem k455 : Cond.methodLink RL 60 yX4_count ∈ GW := gw_of (tb 455 (by decide +kernel)) rfl
theorem k456 : Cond.instanceMethod yX4_count ∈ GW := gw_of (tb 456 (by decide +kernel)) rfl
theorem k457 : Cond.selects RX4 yX4_count yX4_count ∈ GW := gw_of (tb 457 (by decide +kernel)) rfl
theorem k458 : Cond.code yX4_count cX4_count 2 (some FieldType.int) ∈ GW := gw_of (tb 458 (by decide +kernel)) rfl
theorem k459 : Cond.methodLinkNest RX4 192 yX1_waves "PledgeTips" ∈ lw_tbl := tb 459 (by decide +kernel)
theorem k461 : Cond.instanceMethod yX1_waves ∈ GW := gw_of (tb 461 (by decide +kernel)) rfl
theorem k462 : Cond.code yX1_waves cX1_waves 5 (some FieldType.int) ∈ GW := gw_of (tb 462 (by decide +kernel)) rfl
theorem k463 : Cond.methodLinkNest RX4 195 yX1_setsThatHold "PledgeTips" ∈ lw_tbl := tb 463 (by decide +kernel)
theorem k465 : Cond.instanceMethod yX1_setsThatHold ∈ GW := gw_of (tb 465 (by decide +kernel)) rfl
theorem k466 : Cond.code yX1_setsThatHold cX1_setsThatHold 4 (some FieldType.int) ∈ GW := gw_of (tb 466 (by decide +kernel)) rfl
theorem k467 : Cond.methodLinkNest RX4 198 yX1_projectsWithGoal "PledgeTips" ∈ lw_tbl := tb 467 (by decide +kernel)
theorem k469 : Cond.instanceMethod yX1_projectsWithGoal ∈ GW := gw_of (tb 469 (by decide +kernel)) rfl
theorem k470 : Cond.code yX1_projectsWithGoal cX1_projectsWithGoal 3 (some FieldType.int) ∈ GW := gw_of (tb 470 (by decide +kernel)) rfl
theorem k471 : Cond.methodLinkNest RX1 85 yX2_hasProject "PledgeTips" ∈ lw_tbl := tb 471 (by decide +kernel)
theorem k472 : Cond.methodLink RL 64 yX4_undo ∈ GW := gw_of (tb 472 (by decide +kernel)) rfl
theorem k473 : Cond.instanceMethod yX4_undo ∈ GW := gw_of (tb 473 (by decide +kernel)) rfl
theorem k474 : Cond.selects RX4 yX4_undo yX4_undo ∈ GW := gw_of (tb 474 (by decide +kernel)) rfl
theorem k475 : Cond.code yX4_undo cX4_undo 1 (some FieldType.int) ∈ GW := gw_of (tb 475 (by decide +kernel)) rfl
theorem k476 : Cond.methodLink RL 69 yX4_type ∈ GW := gw_of (tb 476 (by decide +kernel)) rfl
theorem k477 : Cond.instanceMethod yX4_type ∈ GW := gw_of (tb 477 (by decide +kernel)) rfl
theorem k478 : Cond.selects RX4 yX4_type yX4_type ∈ GW := gw_of (tb 478 (by decide +kernel)) rfl
theorem k479 : Cond.code yX4_type cX4_type 2 (some FieldType.int) ∈ GW := gw_of (tb 479 (by decide +kernel)) rfl
theorem k480 : Cond.methodLinkNest RX4 219 yX3_append "PledgeTips" ∈ lw_tbl := tb 480 (by decide +kernel)
theorem k482 : Cond.instanceMethod yX3_append ∈ GW := gw_of (tb 482 (by decide +kernel)) rfl
theorem k483 : Cond.code yX3_append cX3_append 2 (some FieldType.int) ∈ GW := gw_of (tb 483 (by decide +kernel)) rfl
theorem k484 : Cond.methodLink RL 73 yX4_clearText ∈ GW := gw_of (tb 484 (by decide +kernel)) rfl
theorem k485 : Cond.instanceMethod yX4_clearText ∈ GW := gw_of (tb 485 (by decide +kernel)) rfl
theorem k486 : Cond.selects RX4 yX4_clearText yX4_clearText ∈ GW := gw_of (tb 486 (by decide +kernel)) rfl
theorem k487 : Cond.code yX4_clearText cX4_clearText 1 (some FieldType.int) ∈ GW := gw_of (tb 487 (by decide +kernel)) rfl
theorem k488 : Cond.methodLinkNest RX4 223 yX3_empty "PledgeTips" ∈ lw_tbl := tb 488 (by decide +kernel)
theorem k490 : Cond.instanceMethod yX3_empty ∈ GW := gw_of (tb 490 (by decide +kernel)) rfl
theorem k491 : Cond.code yX3_empty cX3_empty 2 (some FieldType.int) ∈ GW := gw_of (tb 491 (by decide +kernel)) rfl
theorem k492 : Cond.methodLink RL 77 yX4_fault ∈ GW := gw_of (tb 492 (by decide +kernel)) rfl
theorem k493 : Cond.instanceMethod yX4_fault ∈ GW := gw_of (tb 493 (by decide +kernel)) rfl
theorem k494 : Cond.selects RX4 yX4_fault yX4_fault ∈ GW := gw_of (tb 494 (by decide +kernel)) rfl
theorem k495 : Cond.code yX4_fault cX4_fault 2 (some FieldType.int) ∈ GW := gw_of (tb 495 (by decide +kernel)) rfl
theorem k496 : Cond.methodLinkNest RX4 226 yX3_tryOn "PledgeTips" ∈ lw_tbl := tb 496 (by decide +kernel)
theorem k498 : Cond.instanceMethod yX3_tryOn ∈ GW := gw_of (tb 498 (by decide +kernel)) rfl
theorem k499 : Cond.code yX3_tryOn cX3_tryOn 5 (none) ∈ GW := gw_of (tb 499 (by decide +kernel)) rfl
theorem k500 : Cond.methodLinkNest RX3 47 yX2_copyFrom "PledgeTips" ∈ lw_tbl := tb 500 (by decide +kernel)
theorem k501 : Cond.methodLink RX3 53 yX3_tellFault ∈ GW := gw_of (tb 501 (by decide +kernel)) rfl
theorem k503 : Cond.instanceMethod yX3_tellFault ∈ GW := gw_of (tb 503 (by decide +kernel)) rfl
theorem k504 : Cond.code yX3_tellFault cX3_tellFault 4 (none) ∈ GW := gw_of (tb 504 (by decide +kernel)) rfl
theorem k505 : Cond.methodLink RX3 57 yX3_readCommand ∈ GW := gw_of (tb 505 (by decide +kernel)) rfl
theorem k507 : Cond.instanceMethod yX3_readCommand ∈ GW := gw_of (tb 507 (by decide +kernel)) rfl
theorem k508 : Cond.code yX3_readCommand cX3_readCommand 7 (some FieldType.int) ∈ GW := gw_of (tb 508 (by decide +kernel)) rfl
theorem k509 : Cond.methodLink RX3 61 yX3_signAt ∈ GW := gw_of (tb 509 (by decide +kernel)) rfl
theorem k511 : Cond.instanceMethod yX3_signAt ∈ GW := gw_of (tb 511 (by decide +kernel)) rfl
theorem k512 : Cond.code yX3_signAt cX3_signAt 2 (some FieldType.char) ∈ GW := gw_of (tb 512 (by decide +kernel)) rfl
theorem k513 : Cond.methodLink RX3 75 yX3_numbersBehind ∈ GW := gw_of (tb 513 (by decide +kernel)) rfl
theorem k515 : Cond.instanceMethod yX3_numbersBehind ∈ GW := gw_of (tb 515 (by decide +kernel)) rfl
theorem k516 : Cond.code yX3_numbersBehind cX3_numbersBehind 2 (some FieldType.int) ∈ GW := gw_of (tb 516 (by decide +kernel)) rfl
theorem k517 : Cond.methodLink RX3 78 yX3_readNumber ∈ GW := gw_of (tb 517 (by decide +kernel)) rfl
theorem k519 : Cond.instanceMethod yX3_readNumber ∈ GW := gw_of (tb 519 (by decide +kernel)) rfl
theorem k520 : Cond.code yX3_readNumber cX3_readNumber 5 (some FieldType.int) ∈ GW := gw_of (tb 520 (by decide +kernel)) rfl
theorem k521 : Cond.methodLink RX3 65 yX3_doCommand ∈ GW := gw_of (tb 521 (by decide +kernel)) rfl
theorem k523 : Cond.instanceMethod yX3_doCommand ∈ GW := gw_of (tb 523 (by decide +kernel)) rfl
theorem k524 : Cond.code yX3_doCommand cX3_doCommand 2 (some FieldType.int) ∈ GW := gw_of (tb 524 (by decide +kernel)) rfl
theorem k525 : Cond.methodLinkNest RX3 82 yX0_addProject "PledgeTips" ∈ lw_tbl := tb 525 (by decide +kernel)
theorem k526 : Cond.methodLinkNest RX3 85 yX0_addPerson "PledgeTips" ∈ lw_tbl := tb 526 (by decide +kernel)
theorem k527 : Cond.methodLinkNest RX3 88 yX0_makePledge "PledgeTips" ∈ lw_tbl := tb 527 (by decide +kernel)
theorem k528 : Cond.methodLinkNest RX3 92 yX0_takeBack "PledgeTips" ∈ lw_tbl := tb 528 (by decide +kernel)
theorem k529 : Cond.methodLinkNest RX3 95 yX0_collect "PledgeTips" ∈ lw_tbl := tb 529 (by decide +kernel)
theorem k530 : Cond.methodLink RL 81 yX4_play ∈ GW := gw_of (tb 530 (by decide +kernel)) rfl
theorem k531 : Cond.instanceMethod yX4_play ∈ GW := gw_of (tb 531 (by decide +kernel)) rfl
theorem k532 : Cond.selects RX4 yX4_play yX4_play ∈ GW := gw_of (tb 532 (by decide +kernel)) rfl
theorem k533 : Cond.code yX4_play cX4_play 1 (some FieldType.int) ∈ GW := gw_of (tb 533 (by decide +kernel)) rfl
theorem k534 : Cond.methodLinkNest RX4 238 yX3_hasFault "PledgeTips" ∈ lw_tbl := tb 534 (by decide +kernel)
theorem k536 : Cond.instanceMethod yX3_hasFault ∈ GW := gw_of (tb 536 (by decide +kernel)) rfl
theorem k537 : Cond.code yX3_hasFault cX3_hasFault 1 (some FieldType.boolean) ∈ GW := gw_of (tb 537 (by decide +kernel)) rfl
theorem k538 : Cond.classLink RL 10 RX5 ∈ GW := gw_of (tb 538 (by decide +kernel)) rfl
theorem k539 : Cond.instantiable RX5 15 ∈ GW := gw_of (tb 539 (by decide +kernel)) rfl
theorem k540 : Cond.methodLink RL 12 yX5_init ∈ GW := gw_of (tb 540 (by decide +kernel)) rfl
theorem k541 : Cond.instanceMethod yX5_init ∈ GW := gw_of (tb 541 (by decide +kernel)) rfl
theorem k542 : Cond.code yX5_init cX5_init 1 (none) ∈ GW := gw_of (tb 542 (by decide +kernel)) rfl
theorem k543 : Cond.methodLink RX5 1 objectInit ∈ GW := gw_of (tb 543 (by decide +kernel)) rfl
theorem k544 : Cond.fieldLink RX5 7 "PledgeTipsModel" "s" "[I" ∈ GW := gw_of (tb 544 (by decide +kernel)) rfl
theorem k545 : Cond.fieldLink RX5 13 "PledgeTipsModel" "begun" "[I" ∈ GW := gw_of (tb 545 (by decide +kernel)) rfl
theorem k546 : Cond.fieldLink RX5 16 "PledgeTipsModel" "past" "[I" ∈ GW := gw_of (tb 546 (by decide +kernel)) rfl
theorem k547 : Cond.fieldLink RX5 40 "PledgeTipsModel" "states" "I" ∈ GW := gw_of (tb 547 (by decide +kernel)) rfl
theorem k548 : Cond.fieldLink RX5 19 "PledgeTipsModel" "text" "[I" ∈ GW := gw_of (tb 548 (by decide +kernel)) rfl
theorem k549 : Cond.fieldLink RX5 174 "PledgeTipsModel" "length" "I" ∈ GW := gw_of (tb 549 (by decide +kernel)) rfl
theorem k550 : Cond.fieldLink RX5 22 "PledgeTipsModel" "moreFor" "I" ∈ GW := gw_of (tb 550 (by decide +kernel)) rfl
theorem k551 : Cond.fieldLink RX5 43 "PledgeTipsModel" "more" "I" ∈ GW := gw_of (tb 551 (by decide +kernel)) rfl
theorem k552 : Cond.fieldLink RX5 26 "PledgeTipsModel" "waves" "[I" ∈ GW := gw_of (tb 552 (by decide +kernel)) rfl
theorem k553 : Cond.fieldLink RX5 69 "PledgeTipsModel" "waveMany" "I" ∈ GW := gw_of (tb 553 (by decide +kernel)) rfl
theorem k554 : Cond.fieldLink RX5 177 "PledgeTipsModel" "at" "I" ∈ GW := gw_of (tb 554 (by decide +kernel)) rfl
theorem k555 : Cond.fieldLink RX5 180 "PledgeTipsModel" "isForm" "Z" ∈ GW := gw_of (tb 555 (by decide +kernel)) rfl
theorem k556 : Cond.fieldLink RX5 199 "PledgeTipsModel" "reason" "I" ∈ GW := gw_of (tb 556 (by decide +kernel)) rfl
theorem k557 : Cond.fieldLink RX5 196 "PledgeTipsModel" "cause" "I" ∈ GW := gw_of (tb 557 (by decide +kernel)) rfl
theorem k558 : Cond.fieldLink RX5 29 "PledgeTipsModel" "numbers" "[I" ∈ GW := gw_of (tb 558 (by decide +kernel)) rfl
theorem k559 : Cond.laysFinal "PledgeTipsModel" "PledgeTipsModel" "s" "[I" ∈ GW := gw_of (tb 559 (by decide +kernel)) rfl
theorem k561 : Cond.laysFinal "PledgeTipsModel" "PledgeTipsModel" "begun" "[I" ∈ GW := gw_of (tb 561 (by decide +kernel)) rfl
theorem k563 : Cond.laysFinal "PledgeTipsModel" "PledgeTipsModel" "past" "[I" ∈ GW := gw_of (tb 563 (by decide +kernel)) rfl
theorem k565 : Cond.lays "PledgeTipsModel" "PledgeTipsModel" "states" "I" ∈ GW := gw_of (tb 565 (by decide +kernel)) rfl
theorem k567 : Cond.laysFinal "PledgeTipsModel" "PledgeTipsModel" "text" "[I" ∈ GW := gw_of (tb 567 (by decide +kernel)) rfl
theorem k569 : Cond.lays "PledgeTipsModel" "PledgeTipsModel" "length" "I" ∈ GW := gw_of (tb 569 (by decide +kernel)) rfl
theorem k571 : Cond.lays "PledgeTipsModel" "PledgeTipsModel" "moreFor" "I" ∈ GW := gw_of (tb 571 (by decide +kernel)) rfl
theorem k573 : Cond.lays "PledgeTipsModel" "PledgeTipsModel" "more" "I" ∈ GW := gw_of (tb 573 (by decide +kernel)) rfl
theorem k575 : Cond.laysFinal "PledgeTipsModel" "PledgeTipsModel" "waves" "[I" ∈ GW := gw_of (tb 575 (by decide +kernel)) rfl
theorem k577 : Cond.lays "PledgeTipsModel" "PledgeTipsModel" "waveMany" "I" ∈ GW := gw_of (tb 577 (by decide +kernel)) rfl
theorem k579 : Cond.lays "PledgeTipsModel" "PledgeTipsModel" "at" "I" ∈ GW := gw_of (tb 579 (by decide +kernel)) rfl
theorem k581 : Cond.lays "PledgeTipsModel" "PledgeTipsModel" "isForm" "Z" ∈ GW := gw_of (tb 581 (by decide +kernel)) rfl
theorem k583 : Cond.lays "PledgeTipsModel" "PledgeTipsModel" "reason" "I" ∈ GW := gw_of (tb 583 (by decide +kernel)) rfl
theorem k585 : Cond.lays "PledgeTipsModel" "PledgeTipsModel" "cause" "I" ∈ GW := gw_of (tb 585 (by decide +kernel)) rfl
theorem k587 : Cond.laysFinal "PledgeTipsModel" "PledgeTipsModel" "numbers" "[I" ∈ GW := gw_of (tb 587 (by decide +kernel)) rfl
theorem k590 : Cond.methodLink RL 17 yX5_project ∈ GW := gw_of (tb 590 (by decide +kernel)) rfl
theorem k591 : Cond.instanceMethod yX5_project ∈ GW := gw_of (tb 591 (by decide +kernel)) rfl
theorem k592 : Cond.selects RX5 yX5_project yX5_project ∈ GW := gw_of (tb 592 (by decide +kernel)) rfl
theorem k593 : Cond.code yX5_project cX5_project 2 (some FieldType.int) ∈ GW := gw_of (tb 593 (by decide +kernel)) rfl
theorem k594 : Cond.methodLink RX5 125 yX5_begins ∈ GW := gw_of (tb 594 (by decide +kernel)) rfl
theorem k596 : Cond.instanceMethod yX5_begins ∈ GW := gw_of (tb 596 (by decide +kernel)) rfl
theorem k597 : Cond.code yX5_begins cX5_begins 2 (none) ∈ GW := gw_of (tb 597 (by decide +kernel)) rfl
theorem k598 : Cond.methodLink RX5 128 yX5_adds ∈ GW := gw_of (tb 598 (by decide +kernel)) rfl
theorem k600 : Cond.instanceMethod yX5_adds ∈ GW := gw_of (tb 600 (by decide +kernel)) rfl
theorem k601 : Cond.code yX5_adds cX5_adds 2 (some FieldType.int) ∈ GW := gw_of (tb 601 (by decide +kernel)) rfl
theorem k602 : Cond.methodLink RX5 32 yX5_in ∈ GW := gw_of (tb 602 (by decide +kernel)) rfl
theorem k603 : Cond.static yX5_in ∈ GW := gw_of (tb 603 (by decide +kernel)) rfl
theorem k604 : Cond.code yX5_in cX5_in 3 (some FieldType.boolean) ∈ GW := gw_of (tb 604 (by decide +kernel)) rfl
theorem k605 : Cond.methodLink RX5 131 yX5_acted ∈ GW := gw_of (tb 605 (by decide +kernel)) rfl
theorem k607 : Cond.instanceMethod yX5_acted ∈ GW := gw_of (tb 607 (by decide +kernel)) rfl
theorem k608 : Cond.code yX5_acted cX5_acted 3 (some FieldType.int) ∈ GW := gw_of (tb 608 (by decide +kernel)) rfl
theorem k609 : Cond.methodLink RL 21 yX5_person ∈ GW := gw_of (tb 609 (by decide +kernel)) rfl
theorem k610 : Cond.instanceMethod yX5_person ∈ GW := gw_of (tb 610 (by decide +kernel)) rfl
theorem k611 : Cond.selects RX5 yX5_person yX5_person ∈ GW := gw_of (tb 611 (by decide +kernel)) rfl
theorem k612 : Cond.code yX5_person cX5_person 2 (some FieldType.int) ∈ GW := gw_of (tb 612 (by decide +kernel)) rfl
theorem k613 : Cond.methodLink RX5 134 yX5_comes ∈ GW := gw_of (tb 613 (by decide +kernel)) rfl
theorem k615 : Cond.instanceMethod yX5_comes ∈ GW := gw_of (tb 615 (by decide +kernel)) rfl
theorem k616 : Cond.code yX5_comes cX5_comes 2 (some FieldType.int) ∈ GW := gw_of (tb 616 (by decide +kernel)) rfl
theorem k617 : Cond.methodLink RL 26 yX5_pledge ∈ GW := gw_of (tb 617 (by decide +kernel)) rfl
theorem k618 : Cond.instanceMethod yX5_pledge ∈ GW := gw_of (tb 618 (by decide +kernel)) rfl
theorem k619 : Cond.selects RX5 yX5_pledge yX5_pledge ∈ GW := gw_of (tb 619 (by decide +kernel)) rfl
theorem k620 : Cond.code yX5_pledge cX5_pledge 6 (some FieldType.int) ∈ GW := gw_of (tb 620 (by decide +kernel)) rfl
theorem k621 : Cond.methodLink RX5 137 yX5_makes ∈ GW := gw_of (tb 621 (by decide +kernel)) rfl
theorem k623 : Cond.instanceMethod yX5_makes ∈ GW := gw_of (tb 623 (by decide +kernel)) rfl
theorem k624 : Cond.code yX5_makes cX5_makes 8 (some FieldType.int) ∈ GW := gw_of (tb 624 (by decide +kernel)) rfl
theorem k625 : Cond.methodLink RX5 86 yX5_isPerson ∈ GW := gw_of (tb 625 (by decide +kernel)) rfl
theorem k627 : Cond.instanceMethod yX5_isPerson ∈ GW := gw_of (tb 627 (by decide +kernel)) rfl
theorem k628 : Cond.code yX5_isPerson cX5_isPerson 2 (some FieldType.boolean) ∈ GW := gw_of (tb 628 (by decide +kernel)) rfl
theorem k629 : Cond.methodLink RX5 90 yX5_isProject ∈ GW := gw_of (tb 629 (by decide +kernel)) rfl
theorem k631 : Cond.instanceMethod yX5_isProject ∈ GW := gw_of (tb 631 (by decide +kernel)) rfl
theorem k632 : Cond.code yX5_isProject cX5_isProject 2 (some FieldType.boolean) ∈ GW := gw_of (tb 632 (by decide +kernel)) rfl
theorem k633 : Cond.methodLink RX5 93 yX5_isCondition ∈ GW := gw_of (tb 633 (by decide +kernel)) rfl
theorem k635 : Cond.instanceMethod yX5_isCondition ∈ GW := gw_of (tb 635 (by decide +kernel)) rfl
theorem k636 : Cond.code yX5_isCondition cX5_isCondition 5 (some FieldType.boolean) ∈ GW := gw_of (tb 636 (by decide +kernel)) rfl
theorem k637 : Cond.methodLink RX5 97 yX5_isClosed ∈ GW := gw_of (tb 637 (by decide +kernel)) rfl
theorem k639 : Cond.instanceMethod yX5_isClosed ∈ GW := gw_of (tb 639 (by decide +kernel)) rfl
theorem k640 : Cond.code yX5_isClosed cX5_isClosed 2 (some FieldType.boolean) ∈ GW := gw_of (tb 640 (by decide +kernel)) rfl
theorem k641 : Cond.methodLink RX5 100 yX5_ofPerson ∈ GW := gw_of (tb 641 (by decide +kernel)) rfl
theorem k643 : Cond.instanceMethod yX5_ofPerson ∈ GW := gw_of (tb 643 (by decide +kernel)) rfl
theorem k644 : Cond.code yX5_ofPerson cX5_ofPerson 4 (some FieldType.int) ∈ GW := gw_of (tb 644 (by decide +kernel)) rfl
theorem k645 : Cond.methodLink RX5 36 yX5_of ∈ GW := gw_of (tb 645 (by decide +kernel)) rfl
theorem k647 : Cond.instanceMethod yX5_of ∈ GW := gw_of (tb 647 (by decide +kernel)) rfl
theorem k648 : Cond.code yX5_of cX5_of 3 (some FieldType.int) ∈ GW := gw_of (tb 648 (by decide +kernel)) rfl
theorem k649 : Cond.methodLink RX5 80 yX5_open ∈ GW := gw_of (tb 649 (by decide +kernel)) rfl
theorem k651 : Cond.instanceMethod yX5_open ∈ GW := gw_of (tb 651 (by decide +kernel)) rfl
theorem k652 : Cond.code yX5_open cX5_open 1 (some FieldType.int) ∈ GW := gw_of (tb 652 (by decide +kernel)) rfl
theorem k653 : Cond.methodLink RX5 72 yX5_pledges ∈ GW := gw_of (tb 653 (by decide +kernel)) rfl
theorem k655 : Cond.instanceMethod yX5_pledges ∈ GW := gw_of (tb 655 (by decide +kernel)) rfl
theorem k656 : Cond.code yX5_pledges cX5_pledges 6 (some FieldType.int) ∈ GW := gw_of (tb 656 (by decide +kernel)) rfl
theorem k657 : Cond.methodLink RX5 103 yX5_amountOf ∈ GW := gw_of (tb 657 (by decide +kernel)) rfl
theorem k659 : Cond.instanceMethod yX5_amountOf ∈ GW := gw_of (tb 659 (by decide +kernel)) rfl
theorem k660 : Cond.code yX5_amountOf cX5_amountOf 4 (some FieldType.int) ∈ GW := gw_of (tb 660 (by decide +kernel)) rfl
theorem k661 : Cond.methodLink RX5 46 yX5_has ∈ GW := gw_of (tb 661 (by decide +kernel)) rfl
theorem k662 : Cond.static yX5_has ∈ GW := gw_of (tb 662 (by decide +kernel)) rfl
theorem k663 : Cond.code yX5_has cX5_has 2 (some FieldType.boolean) ∈ GW := gw_of (tb 663 (by decide +kernel)) rfl
theorem k664 : Cond.methodLink RX5 106 yX5_lowestFree ∈ GW := gw_of (tb 664 (by decide +kernel)) rfl
theorem k666 : Cond.instanceMethod yX5_lowestFree ∈ GW := gw_of (tb 666 (by decide +kernel)) rfl
theorem k667 : Cond.code yX5_lowestFree cX5_lowestFree 3 (some FieldType.int) ∈ GW := gw_of (tb 667 (by decide +kernel)) rfl
theorem k668 : Cond.methodLink RL 30 yX5_withdraw ∈ GW := gw_of (tb 668 (by decide +kernel)) rfl
theorem k669 : Cond.instanceMethod yX5_withdraw ∈ GW := gw_of (tb 669 (by decide +kernel)) rfl
theorem k670 : Cond.selects RX5 yX5_withdraw yX5_withdraw ∈ GW := gw_of (tb 670 (by decide +kernel)) rfl
theorem k671 : Cond.code yX5_withdraw cX5_withdraw 2 (some FieldType.int) ∈ GW := gw_of (tb 671 (by decide +kernel)) rfl
theorem k672 : Cond.methodLink RX5 141 yX5_withdraws ∈ GW := gw_of (tb 672 (by decide +kernel)) rfl
theorem k674 : Cond.instanceMethod yX5_withdraws ∈ GW := gw_of (tb 674 (by decide +kernel)) rfl
theorem k675 : Cond.code yX5_withdraws cX5_withdraws 3 (some FieldType.int) ∈ GW := gw_of (tb 675 (by decide +kernel)) rfl
theorem k676 : Cond.methodLink RX5 109 yX5_isPledge ∈ GW := gw_of (tb 676 (by decide +kernel)) rfl
theorem k678 : Cond.instanceMethod yX5_isPledge ∈ GW := gw_of (tb 678 (by decide +kernel)) rfl
theorem k679 : Cond.code yX5_isPledge cX5_isPledge 2 (some FieldType.boolean) ∈ GW := gw_of (tb 679 (by decide +kernel)) rfl
theorem k680 : Cond.methodLink RX5 112 yX5_stands ∈ GW := gw_of (tb 680 (by decide +kernel)) rfl
theorem k682 : Cond.instanceMethod yX5_stands ∈ GW := gw_of (tb 682 (by decide +kernel)) rfl
theorem k683 : Cond.code yX5_stands cX5_stands 3 (some FieldType.int) ∈ GW := gw_of (tb 683 (by decide +kernel)) rfl
theorem k684 : Cond.methodLink RX5 76 yX5_called ∈ GW := gw_of (tb 684 (by decide +kernel)) rfl
theorem k686 : Cond.instanceMethod yX5_called ∈ GW := gw_of (tb 686 (by decide +kernel)) rfl
theorem k687 : Cond.code yX5_called cX5_called 1 (some FieldType.int) ∈ GW := gw_of (tb 687 (by decide +kernel)) rfl
theorem k688 : Cond.methodLink RX5 83 yX5_greatest ∈ GW := gw_of (tb 688 (by decide +kernel)) rfl
theorem k690 : Cond.instanceMethod yX5_greatest ∈ GW := gw_of (tb 690 (by decide +kernel)) rfl
theorem k691 : Cond.code yX5_greatest cX5_greatest 6 (some FieldType.int) ∈ GW := gw_of (tb 691 (by decide +kernel)) rfl
theorem k692 : Cond.methodLink RX5 66 yX5_fallingOf ∈ GW := gw_of (tb 692 (by decide +kernel)) rfl
theorem k694 : Cond.instanceMethod yX5_fallingOf ∈ GW := gw_of (tb 694 (by decide +kernel)) rfl
theorem k695 : Cond.code yX5_fallingOf cX5_fallingOf 5 (some FieldType.int) ∈ GW := gw_of (tb 695 (by decide +kernel)) rfl
theorem k696 : Cond.methodLink RX5 63 yX5_holds ∈ GW := gw_of (tb 696 (by decide +kernel)) rfl
theorem k698 : Cond.instanceMethod yX5_holds ∈ GW := gw_of (tb 698 (by decide +kernel)) rfl
theorem k699 : Cond.code yX5_holds cX5_holds 5 (some FieldType.boolean) ∈ GW := gw_of (tb 699 (by decide +kernel)) rfl
theorem k700 : Cond.methodLink RX5 50 yX5_moneyFor ∈ GW := gw_of (tb 700 (by decide +kernel)) rfl
theorem k702 : Cond.instanceMethod yX5_moneyFor ∈ GW := gw_of (tb 702 (by decide +kernel)) rfl
theorem k703 : Cond.code yX5_moneyFor cX5_moneyFor 5 (some FieldType.int) ∈ GW := gw_of (tb 703 (by decide +kernel)) rfl
theorem k704 : Cond.methodLink RX5 53 yX5_manyFor ∈ GW := gw_of (tb 704 (by decide +kernel)) rfl
theorem k706 : Cond.instanceMethod yX5_manyFor ∈ GW := gw_of (tb 706 (by decide +kernel)) rfl
theorem k707 : Cond.code yX5_manyFor cX5_manyFor 5 (some FieldType.int) ∈ GW := gw_of (tb 707 (by decide +kernel)) rfl
theorem k708 : Cond.methodLink RX5 56 yX5_isOf ∈ GW := gw_of (tb 708 (by decide +kernel)) rfl
theorem k710 : Cond.instanceMethod yX5_isOf ∈ GW := gw_of (tb 710 (by decide +kernel)) rfl
theorem k711 : Cond.code yX5_isOf cX5_isOf 5 (some FieldType.boolean) ∈ GW := gw_of (tb 711 (by decide +kernel)) rfl
theorem k712 : Cond.methodLink RX5 59 yX5_goal ∈ GW := gw_of (tb 712 (by decide +kernel)) rfl
theorem k714 : Cond.instanceMethod yX5_goal ∈ GW := gw_of (tb 714 (by decide +kernel)) rfl
theorem k715 : Cond.code yX5_goal cX5_goal 2 (some FieldType.int) ∈ GW := gw_of (tb 715 (by decide +kernel)) rfl
theorem k716 : Cond.methodLink RX5 115 yX5_forgets ∈ GW := gw_of (tb 716 (by decide +kernel)) rfl
theorem k718 : Cond.instanceMethod yX5_forgets ∈ GW := gw_of (tb 718 (by decide +kernel)) rfl
theorem k719 : Cond.code yX5_forgets cX5_forgets 3 (none) ∈ GW := gw_of (tb 719 (by decide +kernel)) rfl
theorem k720 : Cond.methodLink RL 34 yX5_callIn ∈ GW := gw_of (tb 720 (by decide +kernel)) rfl
theorem k721 : Cond.instanceMethod yX5_callIn ∈ GW := gw_of (tb 721 (by decide +kernel)) rfl
theorem k722 : Cond.selects RX5 yX5_callIn yX5_callIn ∈ GW := gw_of (tb 722 (by decide +kernel)) rfl
theorem k723 : Cond.code yX5_callIn cX5_callIn 2 (some FieldType.int) ∈ GW := gw_of (tb 723 (by decide +kernel)) rfl
theorem k724 : Cond.methodLink RX5 144 yX5_calls ∈ GW := gw_of (tb 724 (by decide +kernel)) rfl
theorem k726 : Cond.instanceMethod yX5_calls ∈ GW := gw_of (tb 726 (by decide +kernel)) rfl
theorem k727 : Cond.code yX5_calls cX5_calls 6 (some FieldType.int) ∈ GW := gw_of (tb 727 (by decide +kernel)) rfl
theorem k728 : Cond.methodLink RX5 119 yX5_hasGoal ∈ GW := gw_of (tb 728 (by decide +kernel)) rfl
theorem k730 : Cond.instanceMethod yX5_hasGoal ∈ GW := gw_of (tb 730 (by decide +kernel)) rfl
theorem k731 : Cond.code yX5_hasGoal cX5_hasGoal 3 (some FieldType.boolean) ∈ GW := gw_of (tb 731 (by decide +kernel)) rfl
theorem k732 : Cond.methodLink RX5 122 yX5_ofProject ∈ GW := gw_of (tb 732 (by decide +kernel)) rfl
theorem k734 : Cond.instanceMethod yX5_ofProject ∈ GW := gw_of (tb 734 (by decide +kernel)) rfl
theorem k735 : Cond.code yX5_ofProject cX5_ofProject 4 (some FieldType.int) ∈ GW := gw_of (tb 735 (by decide +kernel)) rfl
theorem k736 : Cond.methodLink RL 39 yX5_pledgeOf ∈ GW := gw_of (tb 736 (by decide +kernel)) rfl
theorem k737 : Cond.instanceMethod yX5_pledgeOf ∈ GW := gw_of (tb 737 (by decide +kernel)) rfl
theorem k738 : Cond.selects RX5 yX5_pledgeOf yX5_pledgeOf ∈ GW := gw_of (tb 738 (by decide +kernel)) rfl
theorem k739 : Cond.code yX5_pledgeOf cX5_pledgeOf 5 (some FieldType.int) ∈ GW := gw_of (tb 739 (by decide +kernel)) rfl
theorem k740 : Cond.methodLink RL 43 yX5_projectOf ∈ GW := gw_of (tb 740 (by decide +kernel)) rfl
theorem k741 : Cond.instanceMethod yX5_projectOf ∈ GW := gw_of (tb 741 (by decide +kernel)) rfl
theorem k742 : Cond.selects RX5 yX5_projectOf yX5_projectOf ∈ GW := gw_of (tb 742 (by decide +kernel)) rfl
theorem k743 : Cond.code yX5_projectOf cX5_projectOf 6 (some FieldType.int) ∈ GW := gw_of (tb 743 (by decide +kernel)) rfl
theorem k744 : Cond.methodLink RX5 147 yX5_tipOf ∈ GW := gw_of (tb 744 (by decide +kernel)) rfl
theorem k746 : Cond.instanceMethod yX5_tipOf ∈ GW := gw_of (tb 746 (by decide +kernel)) rfl
theorem k747 : Cond.code yX5_tipOf cX5_tipOf 6 (some FieldType.int) ∈ GW := gw_of (tb 747 (by decide +kernel)) rfl
theorem k748 : Cond.methodLink RX5 150 yX5_neededFor ∈ GW := gw_of (tb 748 (by decide +kernel)) rfl
theorem k750 : Cond.instanceMethod yX5_neededFor ∈ GW := gw_of (tb 750 (by decide +kernel)) rfl
theorem k751 : Cond.code yX5_neededFor cX5_neededFor 5 (some FieldType.int) ∈ GW := gw_of (tb 751 (by decide +kernel)) rfl
theorem k752 : Cond.methodLink RX5 153 yX5_pushOf ∈ GW := gw_of (tb 752 (by decide +kernel)) rfl
theorem k754 : Cond.instanceMethod yX5_pushOf ∈ GW := gw_of (tb 754 (by decide +kernel)) rfl
theorem k755 : Cond.code yX5_pushOf cX5_pushOf 2 (some FieldType.int) ∈ GW := gw_of (tb 755 (by decide +kernel)) rfl
theorem k756 : Cond.methodLink RL 47 yX5_personOf ∈ GW := gw_of (tb 756 (by decide +kernel)) rfl
theorem k757 : Cond.instanceMethod yX5_personOf ∈ GW := gw_of (tb 757 (by decide +kernel)) rfl
theorem k758 : Cond.selects RX5 yX5_personOf yX5_personOf ∈ GW := gw_of (tb 758 (by decide +kernel)) rfl
theorem k759 : Cond.code yX5_personOf cX5_personOf 6 (some FieldType.int) ∈ GW := gw_of (tb 759 (by decide +kernel)) rfl
theorem k760 : Cond.methodLink RX5 156 yX5_many ∈ GW := gw_of (tb 760 (by decide +kernel)) rfl
theorem k761 : Cond.static yX5_many ∈ GW := gw_of (tb 761 (by decide +kernel)) rfl
theorem k762 : Cond.code yX5_many cX5_many 3 (some FieldType.int) ∈ GW := gw_of (tb 762 (by decide +kernel)) rfl
theorem k763 : Cond.methodLink RL 51 yX5_standing ∈ GW := gw_of (tb 763 (by decide +kernel)) rfl
theorem k764 : Cond.instanceMethod yX5_standing ∈ GW := gw_of (tb 764 (by decide +kernel)) rfl
theorem k765 : Cond.selects RX5 yX5_standing yX5_standing ∈ GW := gw_of (tb 765 (by decide +kernel)) rfl
theorem k766 : Cond.code yX5_standing cX5_standing 2 (some FieldType.int) ∈ GW := gw_of (tb 766 (by decide +kernel)) rfl
theorem k767 : Cond.methodLink RX5 159 yX5_isSet ∈ GW := gw_of (tb 767 (by decide +kernel)) rfl
theorem k769 : Cond.instanceMethod yX5_isSet ∈ GW := gw_of (tb 769 (by decide +kernel)) rfl
theorem k770 : Cond.code yX5_isSet cX5_isSet 2 (some FieldType.boolean) ∈ GW := gw_of (tb 770 (by decide +kernel)) rfl
theorem k771 : Cond.methodLink RL 55 yX5_setOf ∈ GW := gw_of (tb 771 (by decide +kernel)) rfl
theorem k772 : Cond.instanceMethod yX5_setOf ∈ GW := gw_of (tb 772 (by decide +kernel)) rfl
theorem k773 : Cond.selects RX5 yX5_setOf yX5_setOf ∈ GW := gw_of (tb 773 (by decide +kernel)) rfl
theorem k774 : Cond.code yX5_setOf cX5_setOf 5 (some FieldType.int) ∈ GW := gw_of (tb 774 (by decide +kernel)) rfl
theorem k775 : Cond.methodLink RL 59 yX5_orderAt ∈ GW := gw_of (tb 775 (by decide +kernel)) rfl
theorem k776 : Cond.instanceMethod yX5_orderAt ∈ GW := gw_of (tb 776 (by decide +kernel)) rfl
theorem k777 : Cond.selects RX5 yX5_orderAt yX5_orderAt ∈ GW := gw_of (tb 777 (by decide +kernel)) rfl
theorem k778 : Cond.code yX5_orderAt cX5_orderAt 8 (some FieldType.int) ∈ GW := gw_of (tb 778 (by decide +kernel)) rfl
theorem k779 : Cond.methodLink RX5 162 yX5_isAhead ∈ GW := gw_of (tb 779 (by decide +kernel)) rfl
theorem k781 : Cond.instanceMethod yX5_isAhead ∈ GW := gw_of (tb 781 (by decide +kernel)) rfl
theorem k782 : Cond.code yX5_isAhead cX5_isAhead 8 (some FieldType.boolean) ∈ GW := gw_of (tb 782 (by decide +kernel)) rfl
theorem k783 : Cond.methodLink RL 63 yX5_count ∈ GW := gw_of (tb 783 (by decide +kernel)) rfl
theorem k784 : Cond.instanceMethod yX5_count ∈ GW := gw_of (tb 784 (by decide +kernel)) rfl
theorem k785 : Cond.selects RX5 yX5_count yX5_count ∈ GW := gw_of (tb 785 (by decide +kernel)) rfl
theorem k786 : Cond.code yX5_count cX5_count 2 (some FieldType.int) ∈ GW := gw_of (tb 786 (by decide +kernel)) rfl
theorem k787 : Cond.methodLink RX5 165 yX5_wavesNow ∈ GW := gw_of (tb 787 (by decide +kernel)) rfl
theorem k789 : Cond.instanceMethod yX5_wavesNow ∈ GW := gw_of (tb 789 (by decide +kernel)) rfl
theorem k790 : Cond.code yX5_wavesNow cX5_wavesNow 2 (some FieldType.int) ∈ GW := gw_of (tb 790 (by decide +kernel)) rfl
theorem k791 : Cond.methodLink RX5 168 yX5_setsThatHold ∈ GW := gw_of (tb 791 (by decide +kernel)) rfl
theorem k793 : Cond.instanceMethod yX5_setsThatHold ∈ GW := gw_of (tb 793 (by decide +kernel)) rfl
theorem k794 : Cond.code yX5_setsThatHold cX5_setsThatHold 5 (some FieldType.int) ∈ GW := gw_of (tb 794 (by decide +kernel)) rfl
theorem k795 : Cond.methodLink RX5 171 yX5_goalsNow ∈ GW := gw_of (tb 795 (by decide +kernel)) rfl
theorem k797 : Cond.instanceMethod yX5_goalsNow ∈ GW := gw_of (tb 797 (by decide +kernel)) rfl
theorem k798 : Cond.code yX5_goalsNow cX5_goalsNow 4 (some FieldType.int) ∈ GW := gw_of (tb 798 (by decide +kernel)) rfl
theorem k799 : Cond.methodLink RL 68 yX5_undo ∈ GW := gw_of (tb 799 (by decide +kernel)) rfl
theorem k800 : Cond.instanceMethod yX5_undo ∈ GW := gw_of (tb 800 (by decide +kernel)) rfl
theorem k801 : Cond.selects RX5 yX5_undo yX5_undo ∈ GW := gw_of (tb 801 (by decide +kernel)) rfl
theorem k802 : Cond.code yX5_undo cX5_undo 2 (some FieldType.int) ∈ GW := gw_of (tb 802 (by decide +kernel)) rfl
theorem k803 : Cond.methodLink RL 72 yX5_type ∈ GW := gw_of (tb 803 (by decide +kernel)) rfl
theorem k804 : Cond.instanceMethod yX5_type ∈ GW := gw_of (tb 804 (by decide +kernel)) rfl
theorem k805 : Cond.selects RX5 yX5_type yX5_type ∈ GW := gw_of (tb 805 (by decide +kernel)) rfl
theorem k806 : Cond.code yX5_type cX5_type 2 (some FieldType.int) ∈ GW := gw_of (tb 806 (by decide +kernel)) rfl
theorem k807 : Cond.methodLink RL 76 yX5_clearText ∈ GW := gw_of (tb 807 (by decide +kernel)) rfl
theorem k808 : Cond.instanceMethod yX5_clearText ∈ GW := gw_of (tb 808 (by decide +kernel)) rfl
theorem k809 : Cond.selects RX5 yX5_clearText yX5_clearText ∈ GW := gw_of (tb 809 (by decide +kernel)) rfl
theorem k810 : Cond.code yX5_clearText cX5_clearText 2 (some FieldType.int) ∈ GW := gw_of (tb 810 (by decide +kernel)) rfl
theorem k811 : Cond.methodLink RL 80 yX5_fault ∈ GW := gw_of (tb 811 (by decide +kernel)) rfl
theorem k812 : Cond.instanceMethod yX5_fault ∈ GW := gw_of (tb 812 (by decide +kernel)) rfl
theorem k813 : Cond.selects RX5 yX5_fault yX5_fault ∈ GW := gw_of (tb 813 (by decide +kernel)) rfl
theorem k814 : Cond.code yX5_fault cX5_fault 3 (some FieldType.int) ∈ GW := gw_of (tb 814 (by decide +kernel)) rfl
theorem k815 : Cond.methodLink RX5 202 yX5_does ∈ GW := gw_of (tb 815 (by decide +kernel)) rfl
theorem k817 : Cond.instanceMethod yX5_does ∈ GW := gw_of (tb 817 (by decide +kernel)) rfl
theorem k818 : Cond.code yX5_does cX5_does 3 (some FieldType.int) ∈ GW := gw_of (tb 818 (by decide +kernel)) rfl
theorem k819 : Cond.methodLink RX5 193 yX5_command ∈ GW := gw_of (tb 819 (by decide +kernel)) rfl
theorem k821 : Cond.instanceMethod yX5_command ∈ GW := gw_of (tb 821 (by decide +kernel)) rfl
theorem k822 : Cond.code yX5_command cX5_command 4 (some FieldType.int) ∈ GW := gw_of (tb 822 (by decide +kernel)) rfl
theorem k823 : Cond.methodLink RX5 184 yX5_here ∈ GW := gw_of (tb 823 (by decide +kernel)) rfl
theorem k825 : Cond.instanceMethod yX5_here ∈ GW := gw_of (tb 825 (by decide +kernel)) rfl
theorem k826 : Cond.code yX5_here cX5_here 1 (some FieldType.int) ∈ GW := gw_of (tb 826 (by decide +kernel)) rfl
theorem k827 : Cond.methodLink RX5 190 yX5_readNumber ∈ GW := gw_of (tb 827 (by decide +kernel)) rfl
theorem k829 : Cond.instanceMethod yX5_readNumber ∈ GW := gw_of (tb 829 (by decide +kernel)) rfl
theorem k830 : Cond.code yX5_readNumber cX5_readNumber 4 (some FieldType.int) ∈ GW := gw_of (tb 830 (by decide +kernel)) rfl
theorem k831 : Cond.methodLink RX5 187 yX5_must ∈ GW := gw_of (tb 831 (by decide +kernel)) rfl
theorem k833 : Cond.instanceMethod yX5_must ∈ GW := gw_of (tb 833 (by decide +kernel)) rfl
theorem k834 : Cond.code yX5_must cX5_must 2 (none) ∈ GW := gw_of (tb 834 (by decide +kernel)) rfl
theorem k835 : Cond.methodLink RX5 205 yX5_returns ∈ GW := gw_of (tb 835 (by decide +kernel)) rfl
theorem k837 : Cond.instanceMethod yX5_returns ∈ GW := gw_of (tb 837 (by decide +kernel)) rfl
theorem k838 : Cond.code yX5_returns cX5_returns 2 (none) ∈ GW := gw_of (tb 838 (by decide +kernel)) rfl
theorem k839 : Cond.methodLink RL 84 yX5_play ∈ GW := gw_of (tb 839 (by decide +kernel)) rfl
theorem k840 : Cond.instanceMethod yX5_play ∈ GW := gw_of (tb 840 (by decide +kernel)) rfl
theorem k841 : Cond.selects RX5 yX5_play yX5_play ∈ GW := gw_of (tb 841 (by decide +kernel)) rfl
theorem k842 : Cond.code yX5_play cX5_play 2 (some FieldType.int) ∈ GW := gw_of (tb 842 (by decide +kernel)) rfl
theorem ks0 : Cond.selects RX4 yX4_keepState yX4_keepState ∈ GW := gw_of (sl (q := (yX4_keepState, 7)) 0 (by decide +kernel)) rfl
theorem ks1 : Cond.selects RX2 yX2_copyFrom yX2_copyFrom ∈ GW := gw_of (sl (q := (yX2_copyFrom, 17)) 1 (by decide +kernel)) rfl
theorem ks2 : Cond.selects RX0 yX0_addProject yX0_addProject ∈ GW := gw_of (sl (q := (yX0_addProject, 2)) 2 (by decide +kernel)) rfl
theorem ks3 : Cond.selects RX4 yX4_settle yX4_settle ∈ GW := gw_of (sl (q := (yX4_settle, 7)) 3 (by decide +kernel)) rfl
theorem ks4 : Cond.selects RX4 yX4_dropOldest yX4_dropOldest ∈ GW := gw_of (sl (q := (yX4_dropOldest, 7)) 4 (by decide +kernel)) rfl
theorem ks5 : Cond.selects RX0 yX0_addPerson yX0_addPerson ∈ GW := gw_of (sl (q := (yX0_addPerson, 2)) 5 (by decide +kernel)) rfl
theorem ks6 : Cond.selects RX0 yX0_makePledge yX0_makePledge ∈ GW := gw_of (sl (q := (yX0_makePledge, 2)) 6 (by decide +kernel)) rfl
theorem ks7 : Cond.selects RX2 yX2_hasPerson yX2_hasPerson ∈ GW := gw_of (sl (q := (yX2_hasPerson, 17)) 7 (by decide +kernel)) rfl
theorem ks8 : Cond.selects RX2 yX2_hasProject yX2_hasProject ∈ GW := gw_of (sl (q := (yX2_hasProject, 17)) 8 (by decide +kernel)) rfl
theorem ks9 : Cond.selects RX0 yX0_isCondition yX0_isCondition ∈ GW := gw_of (sl (q := (yX0_isCondition, 2)) 9 (by decide +kernel)) rfl
theorem ks10 : Cond.selects RX2 yX2_pledgesOf yX2_pledgesOf ∈ GW := gw_of (sl (q := (yX2_pledgesOf, 17)) 10 (by decide +kernel)) rfl
theorem ks11 : Cond.selects RX2 yX2_pledges yX2_pledges ∈ GW := gw_of (sl (q := (yX2_pledges, 17)) 11 (by decide +kernel)) rfl
theorem ks12 : Cond.selects RX2 yX2_sum yX2_sum ∈ GW := gw_of (sl (q := (yX2_sum, 17)) 12 (by decide +kernel)) rfl
theorem ks13 : Cond.selects RX2 yX2_isClosed yX2_isClosed ∈ GW := gw_of (sl (q := (yX2_isClosed, 17)) 13 (by decide +kernel)) rfl
theorem ks14 : Cond.selects RX2 yX2_lowestFreeNumber yX2_lowestFreeNumber ∈ GW := gw_of (sl (q := (yX2_lowestFreeNumber, 17)) 14 (by decide +kernel)) rfl
theorem ks15 : Cond.selects RX2 yX2_hasPledge yX2_hasPledge ∈ GW := gw_of (sl (q := (yX2_hasPledge, 17)) 15 (by decide +kernel)) rfl
theorem ks16 : Cond.selects RX0 yX0_takeBack yX0_takeBack ∈ GW := gw_of (sl (q := (yX0_takeBack, 2)) 16 (by decide +kernel)) rfl
theorem ks17 : Cond.selects RX1 yX1_greatest yX1_greatest ∈ GW := gw_of (sl (q := (yX1_greatest, 4)) 17 (by decide +kernel)) rfl
theorem ks18 : Cond.selects RX1 yX1_failing yX1_failing ∈ GW := gw_of (sl (q := (yX1_failing, 4)) 18 (by decide +kernel)) rfl
theorem ks19 : Cond.selects RX1 yX1_gather yX1_gather ∈ GW := gw_of (sl (q := (yX1_gather, 4)) 19 (by decide +kernel)) rfl
theorem ks20 : Cond.selects RX1 yX1_holds yX1_holds ∈ GW := gw_of (sl (q := (yX1_holds, 4)) 20 (by decide +kernel)) rfl
theorem ks21 : Cond.selects RX0 yX0_collect yX0_collect ∈ GW := gw_of (sl (q := (yX0_collect, 2)) 21 (by decide +kernel)) rfl
theorem ks22 : Cond.selects RX2 yX2_pledgesFor yX2_pledgesFor ∈ GW := gw_of (sl (q := (yX2_pledgesFor, 17)) 22 (by decide +kernel)) rfl
theorem ks23 : Cond.selects RX1 yX1_stand yX1_stand ∈ GW := gw_of (sl (q := (yX1_stand, 4)) 23 (by decide +kernel)) rfl
theorem ks24 : Cond.selects RX1 yX1_standWithout yX1_standWithout ∈ GW := gw_of (sl (q := (yX1_standWithout, 4)) 24 (by decide +kernel)) rfl
theorem ks25 : Cond.selects RX4 yX4_fallOf yX4_fallOf ∈ GW := gw_of (sl (q := (yX4_fallOf, 7)) 25 (by decide +kernel)) rfl
theorem ks26 : Cond.selects RX1 yX1_waveOf yX1_waveOf ∈ GW := gw_of (sl (q := (yX1_waveOf, 4)) 26 (by decide +kernel)) rfl
theorem ks27 : Cond.selects RX4 yX4_toppledBy yX4_toppledBy ∈ GW := gw_of (sl (q := (yX4_toppledBy, 7)) 27 (by decide +kernel)) rfl
theorem ks28 : Cond.selects RX1 yX1_fallenWithout yX1_fallenWithout ∈ GW := gw_of (sl (q := (yX1_fallenWithout, 4)) 28 (by decide +kernel)) rfl
theorem ks29 : Cond.selects RX1 yX1_hasGoal yX1_hasGoal ∈ GW := gw_of (sl (q := (yX1_hasGoal, 4)) 29 (by decide +kernel)) rfl
theorem ks30 : Cond.selects RX1 yX1_reaches yX1_reaches ∈ GW := gw_of (sl (q := (yX1_reaches, 4)) 30 (by decide +kernel)) rfl
theorem ks31 : Cond.selects RX1 yX1_tip yX1_tip ∈ GW := gw_of (sl (q := (yX1_tip, 4)) 31 (by decide +kernel)) rfl
theorem ks32 : Cond.selects RX2 yX2_pledgesUpTo yX2_pledgesUpTo ∈ GW := gw_of (sl (q := (yX2_pledgesUpTo, 17)) 32 (by decide +kernel)) rfl
theorem ks33 : Cond.selects RX1 yX1_needed yX1_needed ∈ GW := gw_of (sl (q := (yX1_needed, 4)) 33 (by decide +kernel)) rfl
theorem ks34 : Cond.selects RX1 yX1_push yX1_push ∈ GW := gw_of (sl (q := (yX1_push, 4)) 34 (by decide +kernel)) rfl
theorem ks35 : Cond.selects RX1 yX1_reachesWith yX1_reachesWith ∈ GW := gw_of (sl (q := (yX1_reachesWith, 4)) 35 (by decide +kernel)) rfl
theorem ks36 : Cond.selects RX2 yX2_thinkOfExtra yX2_thinkOfExtra ∈ GW := gw_of (sl (q := (yX2_thinkOfExtra, 17)) 36 (by decide +kernel)) rfl
theorem ks37 : Cond.selects RX4 yX4_errorOfSet yX4_errorOfSet ∈ GW := gw_of (sl (q := (yX4_errorOfSet, 7)) 37 (by decide +kernel)) rfl
theorem ks38 : Cond.selects RX4 yX4_keyOf yX4_keyOf ∈ GW := gw_of (sl (q := (yX4_keyOf, 7)) 38 (by decide +kernel)) rfl
theorem ks39 : Cond.selects RX4 yX4_keysBelow yX4_keysBelow ∈ GW := gw_of (sl (q := (yX4_keysBelow, 7)) 39 (by decide +kernel)) rfl
theorem ks40 : Cond.selects RX1 yX1_waves yX1_waves ∈ GW := gw_of (sl (q := (yX1_waves, 4)) 40 (by decide +kernel)) rfl
theorem ks41 : Cond.selects RX1 yX1_setsThatHold yX1_setsThatHold ∈ GW := gw_of (sl (q := (yX1_setsThatHold, 4)) 41 (by decide +kernel)) rfl
theorem ks42 : Cond.selects RX1 yX1_projectsWithGoal yX1_projectsWithGoal ∈ GW := gw_of (sl (q := (yX1_projectsWithGoal, 4)) 42 (by decide +kernel)) rfl
theorem ks43 : Cond.selects RX3 yX3_append yX3_append ∈ GW := gw_of (sl (q := (yX3_append, 9)) 43 (by decide +kernel)) rfl
theorem ks44 : Cond.selects RX3 yX3_empty yX3_empty ∈ GW := gw_of (sl (q := (yX3_empty, 9)) 44 (by decide +kernel)) rfl
theorem ks45 : Cond.selects RX3 yX3_tryOn yX3_tryOn ∈ GW := gw_of (sl (q := (yX3_tryOn, 9)) 45 (by decide +kernel)) rfl
theorem ks46 : Cond.selects RX3 yX3_tellFault yX3_tellFault ∈ GW := gw_of (sl (q := (yX3_tellFault, 9)) 46 (by decide +kernel)) rfl
theorem ks47 : Cond.selects RX3 yX3_readCommand yX3_readCommand ∈ GW := gw_of (sl (q := (yX3_readCommand, 9)) 47 (by decide +kernel)) rfl
theorem ks48 : Cond.selects RX3 yX3_signAt yX3_signAt ∈ GW := gw_of (sl (q := (yX3_signAt, 9)) 48 (by decide +kernel)) rfl
theorem ks49 : Cond.selects RX3 yX3_numbersBehind yX3_numbersBehind ∈ GW := gw_of (sl (q := (yX3_numbersBehind, 9)) 49 (by decide +kernel)) rfl
theorem ks50 : Cond.selects RX3 yX3_readNumber yX3_readNumber ∈ GW := gw_of (sl (q := (yX3_readNumber, 9)) 50 (by decide +kernel)) rfl
theorem ks51 : Cond.selects RX3 yX3_doCommand yX3_doCommand ∈ GW := gw_of (sl (q := (yX3_doCommand, 9)) 51 (by decide +kernel)) rfl
theorem ks52 : Cond.selects RX3 yX3_hasFault yX3_hasFault ∈ GW := gw_of (sl (q := (yX3_hasFault, 9)) 52 (by decide +kernel)) rfl
theorem ks53 : Cond.selects RX5 yX5_begins yX5_begins ∈ GW := gw_of (sl (q := (yX5_begins, 15)) 53 (by decide +kernel)) rfl
theorem ks54 : Cond.selects RX5 yX5_adds yX5_adds ∈ GW := gw_of (sl (q := (yX5_adds, 15)) 54 (by decide +kernel)) rfl
theorem ks55 : Cond.selects RX5 yX5_acted yX5_acted ∈ GW := gw_of (sl (q := (yX5_acted, 15)) 55 (by decide +kernel)) rfl
theorem ks56 : Cond.selects RX5 yX5_comes yX5_comes ∈ GW := gw_of (sl (q := (yX5_comes, 15)) 56 (by decide +kernel)) rfl
theorem ks57 : Cond.selects RX5 yX5_makes yX5_makes ∈ GW := gw_of (sl (q := (yX5_makes, 15)) 57 (by decide +kernel)) rfl
theorem ks58 : Cond.selects RX5 yX5_isPerson yX5_isPerson ∈ GW := gw_of (sl (q := (yX5_isPerson, 15)) 58 (by decide +kernel)) rfl
theorem ks59 : Cond.selects RX5 yX5_isProject yX5_isProject ∈ GW := gw_of (sl (q := (yX5_isProject, 15)) 59 (by decide +kernel)) rfl
theorem ks60 : Cond.selects RX5 yX5_isCondition yX5_isCondition ∈ GW := gw_of (sl (q := (yX5_isCondition, 15)) 60 (by decide +kernel)) rfl
theorem ks61 : Cond.selects RX5 yX5_isClosed yX5_isClosed ∈ GW := gw_of (sl (q := (yX5_isClosed, 15)) 61 (by decide +kernel)) rfl
theorem ks62 : Cond.selects RX5 yX5_ofPerson yX5_ofPerson ∈ GW := gw_of (sl (q := (yX5_ofPerson, 15)) 62 (by decide +kernel)) rfl
theorem ks63 : Cond.selects RX5 yX5_of yX5_of ∈ GW := gw_of (sl (q := (yX5_of, 15)) 63 (by decide +kernel)) rfl
theorem ks64 : Cond.selects RX5 yX5_open yX5_open ∈ GW := gw_of (sl (q := (yX5_open, 15)) 64 (by decide +kernel)) rfl
theorem ks65 : Cond.selects RX5 yX5_pledges yX5_pledges ∈ GW := gw_of (sl (q := (yX5_pledges, 15)) 65 (by decide +kernel)) rfl
theorem ks66 : Cond.selects RX5 yX5_amountOf yX5_amountOf ∈ GW := gw_of (sl (q := (yX5_amountOf, 15)) 66 (by decide +kernel)) rfl
theorem ks67 : Cond.selects RX5 yX5_lowestFree yX5_lowestFree ∈ GW := gw_of (sl (q := (yX5_lowestFree, 15)) 67 (by decide +kernel)) rfl
theorem ks68 : Cond.selects RX5 yX5_withdraws yX5_withdraws ∈ GW := gw_of (sl (q := (yX5_withdraws, 15)) 68 (by decide +kernel)) rfl
theorem ks69 : Cond.selects RX5 yX5_isPledge yX5_isPledge ∈ GW := gw_of (sl (q := (yX5_isPledge, 15)) 69 (by decide +kernel)) rfl
theorem ks70 : Cond.selects RX5 yX5_stands yX5_stands ∈ GW := gw_of (sl (q := (yX5_stands, 15)) 70 (by decide +kernel)) rfl
theorem ks71 : Cond.selects RX5 yX5_called yX5_called ∈ GW := gw_of (sl (q := (yX5_called, 15)) 71 (by decide +kernel)) rfl
theorem ks72 : Cond.selects RX5 yX5_greatest yX5_greatest ∈ GW := gw_of (sl (q := (yX5_greatest, 15)) 72 (by decide +kernel)) rfl
theorem ks73 : Cond.selects RX5 yX5_fallingOf yX5_fallingOf ∈ GW := gw_of (sl (q := (yX5_fallingOf, 15)) 73 (by decide +kernel)) rfl
theorem ks74 : Cond.selects RX5 yX5_holds yX5_holds ∈ GW := gw_of (sl (q := (yX5_holds, 15)) 74 (by decide +kernel)) rfl
theorem ks75 : Cond.selects RX5 yX5_moneyFor yX5_moneyFor ∈ GW := gw_of (sl (q := (yX5_moneyFor, 15)) 75 (by decide +kernel)) rfl
theorem ks76 : Cond.selects RX5 yX5_manyFor yX5_manyFor ∈ GW := gw_of (sl (q := (yX5_manyFor, 15)) 76 (by decide +kernel)) rfl
theorem ks77 : Cond.selects RX5 yX5_isOf yX5_isOf ∈ GW := gw_of (sl (q := (yX5_isOf, 15)) 77 (by decide +kernel)) rfl
theorem ks78 : Cond.selects RX5 yX5_goal yX5_goal ∈ GW := gw_of (sl (q := (yX5_goal, 15)) 78 (by decide +kernel)) rfl
theorem ks79 : Cond.selects RX5 yX5_forgets yX5_forgets ∈ GW := gw_of (sl (q := (yX5_forgets, 15)) 79 (by decide +kernel)) rfl
theorem ks80 : Cond.selects RX5 yX5_calls yX5_calls ∈ GW := gw_of (sl (q := (yX5_calls, 15)) 80 (by decide +kernel)) rfl
theorem ks81 : Cond.selects RX5 yX5_hasGoal yX5_hasGoal ∈ GW := gw_of (sl (q := (yX5_hasGoal, 15)) 81 (by decide +kernel)) rfl
theorem ks82 : Cond.selects RX5 yX5_ofProject yX5_ofProject ∈ GW := gw_of (sl (q := (yX5_ofProject, 15)) 82 (by decide +kernel)) rfl
theorem ks83 : Cond.selects RX5 yX5_tipOf yX5_tipOf ∈ GW := gw_of (sl (q := (yX5_tipOf, 15)) 83 (by decide +kernel)) rfl
theorem ks84 : Cond.selects RX5 yX5_neededFor yX5_neededFor ∈ GW := gw_of (sl (q := (yX5_neededFor, 15)) 84 (by decide +kernel)) rfl
theorem ks85 : Cond.selects RX5 yX5_pushOf yX5_pushOf ∈ GW := gw_of (sl (q := (yX5_pushOf, 15)) 85 (by decide +kernel)) rfl
theorem ks86 : Cond.selects RX5 yX5_isSet yX5_isSet ∈ GW := gw_of (sl (q := (yX5_isSet, 15)) 86 (by decide +kernel)) rfl
theorem ks87 : Cond.selects RX5 yX5_isAhead yX5_isAhead ∈ GW := gw_of (sl (q := (yX5_isAhead, 15)) 87 (by decide +kernel)) rfl
theorem ks88 : Cond.selects RX5 yX5_wavesNow yX5_wavesNow ∈ GW := gw_of (sl (q := (yX5_wavesNow, 15)) 88 (by decide +kernel)) rfl
theorem ks89 : Cond.selects RX5 yX5_setsThatHold yX5_setsThatHold ∈ GW := gw_of (sl (q := (yX5_setsThatHold, 15)) 89 (by decide +kernel)) rfl
theorem ks90 : Cond.selects RX5 yX5_goalsNow yX5_goalsNow ∈ GW := gw_of (sl (q := (yX5_goalsNow, 15)) 90 (by decide +kernel)) rfl
theorem ks91 : Cond.selects RX5 yX5_does yX5_does ∈ GW := gw_of (sl (q := (yX5_does, 15)) 91 (by decide +kernel)) rfl
theorem ks92 : Cond.selects RX5 yX5_command yX5_command ∈ GW := gw_of (sl (q := (yX5_command, 15)) 92 (by decide +kernel)) rfl
theorem ks93 : Cond.selects RX5 yX5_here yX5_here ∈ GW := gw_of (sl (q := (yX5_here, 15)) 93 (by decide +kernel)) rfl
theorem ks94 : Cond.selects RX5 yX5_readNumber yX5_readNumber ∈ GW := gw_of (sl (q := (yX5_readNumber, 15)) 94 (by decide +kernel)) rfl
theorem ks95 : Cond.selects RX5 yX5_must yX5_must ∈ GW := gw_of (sl (q := (yX5_must, 15)) 95 (by decide +kernel)) rfl
theorem ks96 : Cond.selects RX5 yX5_returns yX5_returns ∈ GW := gw_of (sl (q := (yX5_returns, 15)) 96 (by decide +kernel)) rfl
theorem inX0 : ∀ w ∈ u_ws RX0 TX0 2, w ∈ GW := by
  intro w h
  obtain ⟨k, hk, rfl⟩ := List.mem_map.mp h
  have hk := List.mem_range.mp hk
  match k, hk with
  | 0, _ => exact k147
  | 1, _ => exact k149
  | n + 2, h => exact absurd h (by omega)
theorem inX1 : ∀ w ∈ u_ws RX1 TX1 4, w ∈ GW := by
  intro w h
  obtain ⟨k, hk, rfl⟩ := List.mem_map.mp h
  have hk := List.mem_range.mp hk
  match k, hk with
  | 0, _ => exact k130
  | 1, _ => exact k132
  | 2, _ => exact k134
  | 3, _ => exact k136
  | n + 4, h => exact absurd h (by omega)
theorem inX2 : ∀ w ∈ u_ws RX2 TX2 17, w ∈ GW := by
  intro w h
  obtain ⟨k, hk, rfl⟩ := List.mem_map.mp h
  have hk := List.mem_range.mp hk
  match k, hk with
  | 0, _ => exact k84
  | 1, _ => exact k86
  | 2, _ => exact k88
  | 3, _ => exact k90
  | 4, _ => exact k92
  | 5, _ => exact k94
  | 6, _ => exact k96
  | 7, _ => exact k98
  | 8, _ => exact k100
  | 9, _ => exact k102
  | 10, _ => exact k104
  | 11, _ => exact k106
  | 12, _ => exact k108
  | 13, _ => exact k110
  | 14, _ => exact k112
  | 15, _ => exact k114
  | 16, _ => exact k116
  | n + 17, h => exact absurd h (by omega)
theorem inX3 : ∀ w ∈ u_ws RX3 TX3 9, w ∈ GW := by
  intro w h
  obtain ⟨k, hk, rfl⟩ := List.mem_map.mp h
  have hk := List.mem_range.mp hk
  match k, hk with
  | 0, _ => exact k179
  | 1, _ => exact k181
  | 2, _ => exact k183
  | 3, _ => exact k185
  | 4, _ => exact k187
  | 5, _ => exact k189
  | 6, _ => exact k191
  | 7, _ => exact k193
  | 8, _ => exact k195
  | n + 9, h => exact absurd h (by omega)
theorem inX4 : ∀ w ∈ u_ws RX4 TX4 7, w ∈ GW := by
  intro w h
  obtain ⟨k, hk, rfl⟩ := List.mem_map.mp h
  have hk := List.mem_range.mp hk
  match k, hk with
  | 0, _ => exact k207
  | 1, _ => exact k209
  | 2, _ => exact k211
  | 3, _ => exact k213
  | 4, _ => exact k215
  | 5, _ => exact k217
  | 6, _ => exact k219
  | n + 7, h => exact absurd h (by omega)
theorem inX5 : ∀ w ∈ u_ws RX5 TX5 15, w ∈ GW := by
  intro w h
  obtain ⟨k, hk, rfl⟩ := List.mem_map.mp h
  have hk := List.mem_range.mp hk
  match k, hk with
  | 0, _ => exact k559
  | 1, _ => exact k561
  | 2, _ => exact k563
  | 3, _ => exact k565
  | 4, _ => exact k567
  | 5, _ => exact k569
  | 6, _ => exact k571
  | 7, _ => exact k573
  | 8, _ => exact k575
  | 9, _ => exact k577
  | 10, _ => exact k579
  | 11, _ => exact k581
  | 12, _ => exact k583
  | 13, _ => exact k585
  | 14, _ => exact k587
  | n + 15, h => exact absurd h (by omega)
