section
-- ===== PART A: goes FIRST, ahead of the names: the tables' words, and 'selects' of the private methods out of them =====
/-- a private method of a class that the tables say can be made, by its rows of tables_1 -/
def lw_okq (q : MethodName × Nat) : Prop := (q.1.cls ≠ "java/lang/invoke/MethodHandle" ∧ q.1.cls ≠ "java/lang/invoke/VarHandle") ∧ Cond.instantiable q.1.cls q.2 ∈ tables_1 ∧ Cond.privateMethod q.1 ∈ tables_1 ∧ Cond.instanceMethod q.1 ∈ tables_1
theorem lw_p0 : lw_okq (⟨"PledgeTips", "keepState", "()V"⟩, 7) := ⟨⟨by decide +kernel, by decide +kernel⟩, List.mem_of_getElem? (i := 10) (by decide +kernel), List.mem_of_getElem? (i := 228) (by decide +kernel), List.mem_of_getElem? (i := 229) (by decide +kernel)⟩
theorem lw_p1 : lw_okq (⟨"PledgeTips$Place", "copyFrom", "(LPledgeTips$Place;)V"⟩, 17) := ⟨⟨by decide +kernel, by decide +kernel⟩, List.mem_of_getElem? (i := 18) (by decide +kernel), List.mem_of_getElem? (i := 232) (by decide +kernel), List.mem_of_getElem? (i := 233) (by decide +kernel)⟩
theorem lw_p2 : lw_okq (⟨"PledgeTips$Clerk", "addProject", "(I)I"⟩, 2) := ⟨⟨by decide +kernel, by decide +kernel⟩, List.mem_of_getElem? (i := 140) (by decide +kernel), List.mem_of_getElem? (i := 239) (by decide +kernel), List.mem_of_getElem? (i := 240) (by decide +kernel)⟩
theorem lw_p3 : lw_okq (⟨"PledgeTips", "settle", "(I)I"⟩, 7) := ⟨⟨by decide +kernel, by decide +kernel⟩, List.mem_of_getElem? (i := 10) (by decide +kernel), List.mem_of_getElem? (i := 243) (by decide +kernel), List.mem_of_getElem? (i := 244) (by decide +kernel)⟩
theorem lw_p4 : lw_okq (⟨"PledgeTips", "dropOldest", "()V"⟩, 7) := ⟨⟨by decide +kernel, by decide +kernel⟩, List.mem_of_getElem? (i := 10) (by decide +kernel), List.mem_of_getElem? (i := 247) (by decide +kernel), List.mem_of_getElem? (i := 248) (by decide +kernel)⟩
theorem lw_p5 : lw_okq (⟨"PledgeTips$Clerk", "addPerson", "(I)I"⟩, 2) := ⟨⟨by decide +kernel, by decide +kernel⟩, List.mem_of_getElem? (i := 140) (by decide +kernel), List.mem_of_getElem? (i := 255) (by decide +kernel), List.mem_of_getElem? (i := 256) (by decide +kernel)⟩
theorem lw_p6 : lw_okq (⟨"PledgeTips$Clerk", "makePledge", "(IIIII)I"⟩, 2) := ⟨⟨by decide +kernel, by decide +kernel⟩, List.mem_of_getElem? (i := 140) (by decide +kernel), List.mem_of_getElem? (i := 263) (by decide +kernel), List.mem_of_getElem? (i := 264) (by decide +kernel)⟩
theorem lw_p7 : lw_okq (⟨"PledgeTips$Place", "hasPerson", "(I)Z"⟩, 17) := ⟨⟨by decide +kernel, by decide +kernel⟩, List.mem_of_getElem? (i := 18) (by decide +kernel), List.mem_of_getElem? (i := 267) (by decide +kernel), List.mem_of_getElem? (i := 268) (by decide +kernel)⟩
theorem lw_p8 : lw_okq (⟨"PledgeTips$Place", "hasProject", "(I)Z"⟩, 17) := ⟨⟨by decide +kernel, by decide +kernel⟩, List.mem_of_getElem? (i := 18) (by decide +kernel), List.mem_of_getElem? (i := 271) (by decide +kernel), List.mem_of_getElem? (i := 272) (by decide +kernel)⟩
theorem lw_p9 : lw_okq (⟨"PledgeTips$Clerk", "isCondition", "(IIII)Z"⟩, 2) := ⟨⟨by decide +kernel, by decide +kernel⟩, List.mem_of_getElem? (i := 140) (by decide +kernel), List.mem_of_getElem? (i := 275) (by decide +kernel), List.mem_of_getElem? (i := 276) (by decide +kernel)⟩
theorem lw_p10 : lw_okq (⟨"PledgeTips$Place", "pledgesOf", "(I)I"⟩, 17) := ⟨⟨by decide +kernel, by decide +kernel⟩, List.mem_of_getElem? (i := 18) (by decide +kernel), List.mem_of_getElem? (i := 279) (by decide +kernel), List.mem_of_getElem? (i := 280) (by decide +kernel)⟩
theorem lw_p11 : lw_okq (⟨"PledgeTips$Place", "pledges", "()I"⟩, 17) := ⟨⟨by decide +kernel, by decide +kernel⟩, List.mem_of_getElem? (i := 18) (by decide +kernel), List.mem_of_getElem? (i := 283) (by decide +kernel), List.mem_of_getElem? (i := 284) (by decide +kernel)⟩
theorem lw_p12 : lw_okq (⟨"PledgeTips$Place", "sum", "(I)I"⟩, 17) := ⟨⟨by decide +kernel, by decide +kernel⟩, List.mem_of_getElem? (i := 18) (by decide +kernel), List.mem_of_getElem? (i := 287) (by decide +kernel), List.mem_of_getElem? (i := 288) (by decide +kernel)⟩
theorem lw_p13 : lw_okq (⟨"PledgeTips$Place", "isClosed", "(I)Z"⟩, 17) := ⟨⟨by decide +kernel, by decide +kernel⟩, List.mem_of_getElem? (i := 18) (by decide +kernel), List.mem_of_getElem? (i := 291) (by decide +kernel), List.mem_of_getElem? (i := 292) (by decide +kernel)⟩
theorem lw_p14 : lw_okq (⟨"PledgeTips$Place", "lowestFreeNumber", "()I"⟩, 17) := ⟨⟨by decide +kernel, by decide +kernel⟩, List.mem_of_getElem? (i := 18) (by decide +kernel), List.mem_of_getElem? (i := 295) (by decide +kernel), List.mem_of_getElem? (i := 296) (by decide +kernel)⟩
theorem lw_p15 : lw_okq (⟨"PledgeTips$Place", "hasPledge", "(I)Z"⟩, 17) := ⟨⟨by decide +kernel, by decide +kernel⟩, List.mem_of_getElem? (i := 18) (by decide +kernel), List.mem_of_getElem? (i := 299) (by decide +kernel), List.mem_of_getElem? (i := 300) (by decide +kernel)⟩
def lw_privs_1 : List (MethodName × Nat) := [(⟨"PledgeTips", "keepState", "()V"⟩, 7), (⟨"PledgeTips$Place", "copyFrom", "(LPledgeTips$Place;)V"⟩, 17), (⟨"PledgeTips$Clerk", "addProject", "(I)I"⟩, 2), (⟨"PledgeTips", "settle", "(I)I"⟩, 7), (⟨"PledgeTips", "dropOldest", "()V"⟩, 7), (⟨"PledgeTips$Clerk", "addPerson", "(I)I"⟩, 2), (⟨"PledgeTips$Clerk", "makePledge", "(IIIII)I"⟩, 2), (⟨"PledgeTips$Place", "hasPerson", "(I)Z"⟩, 17), (⟨"PledgeTips$Place", "hasProject", "(I)Z"⟩, 17), (⟨"PledgeTips$Clerk", "isCondition", "(IIII)Z"⟩, 2), (⟨"PledgeTips$Place", "pledgesOf", "(I)I"⟩, 17), (⟨"PledgeTips$Place", "pledges", "()I"⟩, 17), (⟨"PledgeTips$Place", "sum", "(I)I"⟩, 17), (⟨"PledgeTips$Place", "isClosed", "(I)Z"⟩, 17), (⟨"PledgeTips$Place", "lowestFreeNumber", "()I"⟩, 17), (⟨"PledgeTips$Place", "hasPledge", "(I)Z"⟩, 17)]
theorem lw_r1 : ∀ q ∈ lw_privs_1, lw_okq q := List.forall_mem_cons.mpr ⟨lw_p0, List.forall_mem_cons.mpr ⟨lw_p1, List.forall_mem_cons.mpr ⟨lw_p2, List.forall_mem_cons.mpr ⟨lw_p3, List.forall_mem_cons.mpr ⟨lw_p4, List.forall_mem_cons.mpr ⟨lw_p5, List.forall_mem_cons.mpr ⟨lw_p6, List.forall_mem_cons.mpr ⟨lw_p7, List.forall_mem_cons.mpr ⟨lw_p8, List.forall_mem_cons.mpr ⟨lw_p9, List.forall_mem_cons.mpr ⟨lw_p10, List.forall_mem_cons.mpr ⟨lw_p11, List.forall_mem_cons.mpr ⟨lw_p12, List.forall_mem_cons.mpr ⟨lw_p13, List.forall_mem_cons.mpr ⟨lw_p14, List.forall_mem_cons.mpr ⟨lw_p15, fun _ h => absurd h List.not_mem_nil⟩⟩⟩⟩⟩⟩⟩⟩⟩⟩⟩⟩⟩⟩⟩⟩
theorem lw_p16 : lw_okq (⟨"PledgeTips$Clerk", "takeBack", "(I)I"⟩, 2) := ⟨⟨by decide +kernel, by decide +kernel⟩, List.mem_of_getElem? (i := 140) (by decide +kernel), List.mem_of_getElem? (i := 307) (by decide +kernel), List.mem_of_getElem? (i := 308) (by decide +kernel)⟩
theorem lw_p17 : lw_okq (⟨"PledgeTips$Judge", "greatest", "(II)I"⟩, 4) := ⟨⟨by decide +kernel, by decide +kernel⟩, List.mem_of_getElem? (i := 121) (by decide +kernel), List.mem_of_getElem? (i := 312) (by decide +kernel), List.mem_of_getElem? (i := 313) (by decide +kernel)⟩
theorem lw_p18 : lw_okq (⟨"PledgeTips$Judge", "failing", "(II)I"⟩, 4) := ⟨⟨by decide +kernel, by decide +kernel⟩, List.mem_of_getElem? (i := 121) (by decide +kernel), List.mem_of_getElem? (i := 316) (by decide +kernel), List.mem_of_getElem? (i := 317) (by decide +kernel)⟩
theorem lw_p19 : lw_okq (⟨"PledgeTips$Judge", "gather", "(I)V"⟩, 4) := ⟨⟨by decide +kernel, by decide +kernel⟩, List.mem_of_getElem? (i := 121) (by decide +kernel), List.mem_of_getElem? (i := 320) (by decide +kernel), List.mem_of_getElem? (i := 321) (by decide +kernel)⟩
theorem lw_p20 : lw_okq (⟨"PledgeTips$Judge", "holds", "(I)Z"⟩, 4) := ⟨⟨by decide +kernel, by decide +kernel⟩, List.mem_of_getElem? (i := 121) (by decide +kernel), List.mem_of_getElem? (i := 324) (by decide +kernel), List.mem_of_getElem? (i := 325) (by decide +kernel)⟩
theorem lw_p21 : lw_okq (⟨"PledgeTips$Clerk", "collect", "(I)I"⟩, 2) := ⟨⟨by decide +kernel, by decide +kernel⟩, List.mem_of_getElem? (i := 140) (by decide +kernel), List.mem_of_getElem? (i := 332) (by decide +kernel), List.mem_of_getElem? (i := 333) (by decide +kernel)⟩
theorem lw_p22 : lw_okq (⟨"PledgeTips$Place", "pledgesFor", "(I)I"⟩, 17) := ⟨⟨by decide +kernel, by decide +kernel⟩, List.mem_of_getElem? (i := 18) (by decide +kernel), List.mem_of_getElem? (i := 336) (by decide +kernel), List.mem_of_getElem? (i := 337) (by decide +kernel)⟩
theorem lw_p23 : lw_okq (⟨"PledgeTips$Judge", "stand", "()I"⟩, 4) := ⟨⟨by decide +kernel, by decide +kernel⟩, List.mem_of_getElem? (i := 121) (by decide +kernel), List.mem_of_getElem? (i := 345) (by decide +kernel), List.mem_of_getElem? (i := 346) (by decide +kernel)⟩
theorem lw_p24 : lw_okq (⟨"PledgeTips$Judge", "standWithout", "(I)I"⟩, 4) := ⟨⟨by decide +kernel, by decide +kernel⟩, List.mem_of_getElem? (i := 121) (by decide +kernel), List.mem_of_getElem? (i := 349) (by decide +kernel), List.mem_of_getElem? (i := 350) (by decide +kernel)⟩
theorem lw_p25 : lw_okq (⟨"PledgeTips", "fallOf", "(I)I"⟩, 7) := ⟨⟨by decide +kernel, by decide +kernel⟩, List.mem_of_getElem? (i := 10) (by decide +kernel), List.mem_of_getElem? (i := 354) (by decide +kernel), List.mem_of_getElem? (i := 355) (by decide +kernel)⟩
theorem lw_p26 : lw_okq (⟨"PledgeTips$Judge", "waveOf", "(I)I"⟩, 4) := ⟨⟨by decide +kernel, by decide +kernel⟩, List.mem_of_getElem? (i := 121) (by decide +kernel), List.mem_of_getElem? (i := 358) (by decide +kernel), List.mem_of_getElem? (i := 359) (by decide +kernel)⟩
theorem lw_p27 : lw_okq (⟨"PledgeTips", "toppledBy", "(I)I"⟩, 7) := ⟨⟨by decide +kernel, by decide +kernel⟩, List.mem_of_getElem? (i := 10) (by decide +kernel), List.mem_of_getElem? (i := 362) (by decide +kernel), List.mem_of_getElem? (i := 363) (by decide +kernel)⟩
theorem lw_p28 : lw_okq (⟨"PledgeTips$Judge", "fallenWithout", "(I)I"⟩, 4) := ⟨⟨by decide +kernel, by decide +kernel⟩, List.mem_of_getElem? (i := 121) (by decide +kernel), List.mem_of_getElem? (i := 366) (by decide +kernel), List.mem_of_getElem? (i := 367) (by decide +kernel)⟩
theorem lw_p29 : lw_okq (⟨"PledgeTips$Judge", "hasGoal", "(I)Z"⟩, 4) := ⟨⟨by decide +kernel, by decide +kernel⟩, List.mem_of_getElem? (i := 121) (by decide +kernel), List.mem_of_getElem? (i := 378) (by decide +kernel), List.mem_of_getElem? (i := 379) (by decide +kernel)⟩
theorem lw_p30 : lw_okq (⟨"PledgeTips$Judge", "reaches", "(III)Z"⟩, 4) := ⟨⟨by decide +kernel, by decide +kernel⟩, List.mem_of_getElem? (i := 121) (by decide +kernel), List.mem_of_getElem? (i := 382) (by decide +kernel), List.mem_of_getElem? (i := 383) (by decide +kernel)⟩
theorem lw_p31 : lw_okq (⟨"PledgeTips$Judge", "tip", "(I)I"⟩, 4) := ⟨⟨by decide +kernel, by decide +kernel⟩, List.mem_of_getElem? (i := 121) (by decide +kernel), List.mem_of_getElem? (i := 388) (by decide +kernel), List.mem_of_getElem? (i := 389) (by decide +kernel)⟩
def lw_privs_2 : List (MethodName × Nat) := [(⟨"PledgeTips$Clerk", "takeBack", "(I)I"⟩, 2), (⟨"PledgeTips$Judge", "greatest", "(II)I"⟩, 4), (⟨"PledgeTips$Judge", "failing", "(II)I"⟩, 4), (⟨"PledgeTips$Judge", "gather", "(I)V"⟩, 4), (⟨"PledgeTips$Judge", "holds", "(I)Z"⟩, 4), (⟨"PledgeTips$Clerk", "collect", "(I)I"⟩, 2), (⟨"PledgeTips$Place", "pledgesFor", "(I)I"⟩, 17), (⟨"PledgeTips$Judge", "stand", "()I"⟩, 4), (⟨"PledgeTips$Judge", "standWithout", "(I)I"⟩, 4), (⟨"PledgeTips", "fallOf", "(I)I"⟩, 7), (⟨"PledgeTips$Judge", "waveOf", "(I)I"⟩, 4), (⟨"PledgeTips", "toppledBy", "(I)I"⟩, 7), (⟨"PledgeTips$Judge", "fallenWithout", "(I)I"⟩, 4), (⟨"PledgeTips$Judge", "hasGoal", "(I)Z"⟩, 4), (⟨"PledgeTips$Judge", "reaches", "(III)Z"⟩, 4), (⟨"PledgeTips$Judge", "tip", "(I)I"⟩, 4)]
theorem lw_r2 : ∀ q ∈ lw_privs_2, lw_okq q := List.forall_mem_cons.mpr ⟨lw_p16, List.forall_mem_cons.mpr ⟨lw_p17, List.forall_mem_cons.mpr ⟨lw_p18, List.forall_mem_cons.mpr ⟨lw_p19, List.forall_mem_cons.mpr ⟨lw_p20, List.forall_mem_cons.mpr ⟨lw_p21, List.forall_mem_cons.mpr ⟨lw_p22, List.forall_mem_cons.mpr ⟨lw_p23, List.forall_mem_cons.mpr ⟨lw_p24, List.forall_mem_cons.mpr ⟨lw_p25, List.forall_mem_cons.mpr ⟨lw_p26, List.forall_mem_cons.mpr ⟨lw_p27, List.forall_mem_cons.mpr ⟨lw_p28, List.forall_mem_cons.mpr ⟨lw_p29, List.forall_mem_cons.mpr ⟨lw_p30, List.forall_mem_cons.mpr ⟨lw_p31, fun _ h => absurd h List.not_mem_nil⟩⟩⟩⟩⟩⟩⟩⟩⟩⟩⟩⟩⟩⟩⟩⟩
theorem lw_p32 : lw_okq (⟨"PledgeTips$Place", "pledgesUpTo", "(I)I"⟩, 17) := ⟨⟨by decide +kernel, by decide +kernel⟩, List.mem_of_getElem? (i := 18) (by decide +kernel), List.mem_of_getElem? (i := 393) (by decide +kernel), List.mem_of_getElem? (i := 394) (by decide +kernel)⟩
theorem lw_p33 : lw_okq (⟨"PledgeTips$Judge", "needed", "(I)I"⟩, 4) := ⟨⟨by decide +kernel, by decide +kernel⟩, List.mem_of_getElem? (i := 121) (by decide +kernel), List.mem_of_getElem? (i := 397) (by decide +kernel), List.mem_of_getElem? (i := 398) (by decide +kernel)⟩
theorem lw_p34 : lw_okq (⟨"PledgeTips$Judge", "push", "(I)I"⟩, 4) := ⟨⟨by decide +kernel, by decide +kernel⟩, List.mem_of_getElem? (i := 121) (by decide +kernel), List.mem_of_getElem? (i := 402) (by decide +kernel), List.mem_of_getElem? (i := 403) (by decide +kernel)⟩
theorem lw_p35 : lw_okq (⟨"PledgeTips$Judge", "reachesWith", "(II)Z"⟩, 4) := ⟨⟨by decide +kernel, by decide +kernel⟩, List.mem_of_getElem? (i := 121) (by decide +kernel), List.mem_of_getElem? (i := 407) (by decide +kernel), List.mem_of_getElem? (i := 408) (by decide +kernel)⟩
theorem lw_p36 : lw_okq (⟨"PledgeTips$Place", "thinkOfExtra", "(II)V"⟩, 17) := ⟨⟨by decide +kernel, by decide +kernel⟩, List.mem_of_getElem? (i := 18) (by decide +kernel), List.mem_of_getElem? (i := 411) (by decide +kernel), List.mem_of_getElem? (i := 412) (by decide +kernel)⟩
theorem lw_p37 : lw_okq (⟨"PledgeTips", "errorOfSet", "(I)I"⟩, 7) := ⟨⟨by decide +kernel, by decide +kernel⟩, List.mem_of_getElem? (i := 10) (by decide +kernel), List.mem_of_getElem? (i := 431) (by decide +kernel), List.mem_of_getElem? (i := 432) (by decide +kernel)⟩
theorem lw_p38 : lw_okq (⟨"PledgeTips", "keyOf", "(II)J"⟩, 7) := ⟨⟨by decide +kernel, by decide +kernel⟩, List.mem_of_getElem? (i := 10) (by decide +kernel), List.mem_of_getElem? (i := 447) (by decide +kernel), List.mem_of_getElem? (i := 448) (by decide +kernel)⟩
theorem lw_p39 : lw_okq (⟨"PledgeTips", "keysBelow", "(J)I"⟩, 7) := ⟨⟨by decide +kernel, by decide +kernel⟩, List.mem_of_getElem? (i := 10) (by decide +kernel), List.mem_of_getElem? (i := 452) (by decide +kernel), List.mem_of_getElem? (i := 453) (by decide +kernel)⟩
theorem lw_p40 : lw_okq (⟨"PledgeTips$Judge", "waves", "()I"⟩, 4) := ⟨⟨by decide +kernel, by decide +kernel⟩, List.mem_of_getElem? (i := 121) (by decide +kernel), List.mem_of_getElem? (i := 460) (by decide +kernel), List.mem_of_getElem? (i := 461) (by decide +kernel)⟩
theorem lw_p41 : lw_okq (⟨"PledgeTips$Judge", "setsThatHold", "()I"⟩, 4) := ⟨⟨by decide +kernel, by decide +kernel⟩, List.mem_of_getElem? (i := 121) (by decide +kernel), List.mem_of_getElem? (i := 464) (by decide +kernel), List.mem_of_getElem? (i := 465) (by decide +kernel)⟩
theorem lw_p42 : lw_okq (⟨"PledgeTips$Judge", "projectsWithGoal", "()I"⟩, 4) := ⟨⟨by decide +kernel, by decide +kernel⟩, List.mem_of_getElem? (i := 121) (by decide +kernel), List.mem_of_getElem? (i := 468) (by decide +kernel), List.mem_of_getElem? (i := 469) (by decide +kernel)⟩
theorem lw_p43 : lw_okq (⟨"PledgeTips$Script", "append", "(C)I"⟩, 9) := ⟨⟨by decide +kernel, by decide +kernel⟩, List.mem_of_getElem? (i := 153) (by decide +kernel), List.mem_of_getElem? (i := 481) (by decide +kernel), List.mem_of_getElem? (i := 482) (by decide +kernel)⟩
theorem lw_p44 : lw_okq (⟨"PledgeTips$Script", "empty", "()I"⟩, 9) := ⟨⟨by decide +kernel, by decide +kernel⟩, List.mem_of_getElem? (i := 153) (by decide +kernel), List.mem_of_getElem? (i := 489) (by decide +kernel), List.mem_of_getElem? (i := 490) (by decide +kernel)⟩
theorem lw_p45 : lw_okq (⟨"PledgeTips$Script", "tryOn", "(LPledgeTips$Place;)V"⟩, 9) := ⟨⟨by decide +kernel, by decide +kernel⟩, List.mem_of_getElem? (i := 153) (by decide +kernel), List.mem_of_getElem? (i := 497) (by decide +kernel), List.mem_of_getElem? (i := 498) (by decide +kernel)⟩
theorem lw_p46 : lw_okq (⟨"PledgeTips$Script", "tellFault", "(III)V"⟩, 9) := ⟨⟨by decide +kernel, by decide +kernel⟩, List.mem_of_getElem? (i := 153) (by decide +kernel), List.mem_of_getElem? (i := 502) (by decide +kernel), List.mem_of_getElem? (i := 503) (by decide +kernel)⟩
theorem lw_p47 : lw_okq (⟨"PledgeTips$Script", "readCommand", "(I)I"⟩, 9) := ⟨⟨by decide +kernel, by decide +kernel⟩, List.mem_of_getElem? (i := 153) (by decide +kernel), List.mem_of_getElem? (i := 506) (by decide +kernel), List.mem_of_getElem? (i := 507) (by decide +kernel)⟩
def lw_privs_3 : List (MethodName × Nat) := [(⟨"PledgeTips$Place", "pledgesUpTo", "(I)I"⟩, 17), (⟨"PledgeTips$Judge", "needed", "(I)I"⟩, 4), (⟨"PledgeTips$Judge", "push", "(I)I"⟩, 4), (⟨"PledgeTips$Judge", "reachesWith", "(II)Z"⟩, 4), (⟨"PledgeTips$Place", "thinkOfExtra", "(II)V"⟩, 17), (⟨"PledgeTips", "errorOfSet", "(I)I"⟩, 7), (⟨"PledgeTips", "keyOf", "(II)J"⟩, 7), (⟨"PledgeTips", "keysBelow", "(J)I"⟩, 7), (⟨"PledgeTips$Judge", "waves", "()I"⟩, 4), (⟨"PledgeTips$Judge", "setsThatHold", "()I"⟩, 4), (⟨"PledgeTips$Judge", "projectsWithGoal", "()I"⟩, 4), (⟨"PledgeTips$Script", "append", "(C)I"⟩, 9), (⟨"PledgeTips$Script", "empty", "()I"⟩, 9), (⟨"PledgeTips$Script", "tryOn", "(LPledgeTips$Place;)V"⟩, 9), (⟨"PledgeTips$Script", "tellFault", "(III)V"⟩, 9), (⟨"PledgeTips$Script", "readCommand", "(I)I"⟩, 9)]
theorem lw_r3 : ∀ q ∈ lw_privs_3, lw_okq q := List.forall_mem_cons.mpr ⟨lw_p32, List.forall_mem_cons.mpr ⟨lw_p33, List.forall_mem_cons.mpr ⟨lw_p34, List.forall_mem_cons.mpr ⟨lw_p35, List.forall_mem_cons.mpr ⟨lw_p36, List.forall_mem_cons.mpr ⟨lw_p37, List.forall_mem_cons.mpr ⟨lw_p38, List.forall_mem_cons.mpr ⟨lw_p39, List.forall_mem_cons.mpr ⟨lw_p40, List.forall_mem_cons.mpr ⟨lw_p41, List.forall_mem_cons.mpr ⟨lw_p42, List.forall_mem_cons.mpr ⟨lw_p43, List.forall_mem_cons.mpr ⟨lw_p44, List.forall_mem_cons.mpr ⟨lw_p45, List.forall_mem_cons.mpr ⟨lw_p46, List.forall_mem_cons.mpr ⟨lw_p47, fun _ h => absurd h List.not_mem_nil⟩⟩⟩⟩⟩⟩⟩⟩⟩⟩⟩⟩⟩⟩⟩⟩
theorem lw_p48 : lw_okq (⟨"PledgeTips$Script", "signAt", "(I)C"⟩, 9) := ⟨⟨by decide +kernel, by decide +kernel⟩, List.mem_of_getElem? (i := 153) (by decide +kernel), List.mem_of_getElem? (i := 510) (by decide +kernel), List.mem_of_getElem? (i := 511) (by decide +kernel)⟩
theorem lw_p49 : lw_okq (⟨"PledgeTips$Script", "numbersBehind", "(C)I"⟩, 9) := ⟨⟨by decide +kernel, by decide +kernel⟩, List.mem_of_getElem? (i := 153) (by decide +kernel), List.mem_of_getElem? (i := 514) (by decide +kernel), List.mem_of_getElem? (i := 515) (by decide +kernel)⟩
theorem lw_p50 : lw_okq (⟨"PledgeTips$Script", "readNumber", "(II)I"⟩, 9) := ⟨⟨by decide +kernel, by decide +kernel⟩, List.mem_of_getElem? (i := 153) (by decide +kernel), List.mem_of_getElem? (i := 518) (by decide +kernel), List.mem_of_getElem? (i := 519) (by decide +kernel)⟩
theorem lw_p51 : lw_okq (⟨"PledgeTips$Script", "doCommand", "(C)I"⟩, 9) := ⟨⟨by decide +kernel, by decide +kernel⟩, List.mem_of_getElem? (i := 153) (by decide +kernel), List.mem_of_getElem? (i := 522) (by decide +kernel), List.mem_of_getElem? (i := 523) (by decide +kernel)⟩
theorem lw_p52 : lw_okq (⟨"PledgeTips$Script", "hasFault", "()Z"⟩, 9) := ⟨⟨by decide +kernel, by decide +kernel⟩, List.mem_of_getElem? (i := 153) (by decide +kernel), List.mem_of_getElem? (i := 535) (by decide +kernel), List.mem_of_getElem? (i := 536) (by decide +kernel)⟩
theorem lw_p53 : lw_okq (⟨"PledgeTipsModel", "begins", "()V"⟩, 15) := ⟨⟨by decide +kernel, by decide +kernel⟩, List.mem_of_getElem? (i := 539) (by decide +kernel), List.mem_of_getElem? (i := 595) (by decide +kernel), List.mem_of_getElem? (i := 596) (by decide +kernel)⟩
theorem lw_p54 : lw_okq (⟨"PledgeTipsModel", "adds", "(I)I"⟩, 15) := ⟨⟨by decide +kernel, by decide +kernel⟩, List.mem_of_getElem? (i := 539) (by decide +kernel), List.mem_of_getElem? (i := 599) (by decide +kernel), List.mem_of_getElem? (i := 600) (by decide +kernel)⟩
theorem lw_p55 : lw_okq (⟨"PledgeTipsModel", "acted", "(I)I"⟩, 15) := ⟨⟨by decide +kernel, by decide +kernel⟩, List.mem_of_getElem? (i := 539) (by decide +kernel), List.mem_of_getElem? (i := 606) (by decide +kernel), List.mem_of_getElem? (i := 607) (by decide +kernel)⟩
theorem lw_p56 : lw_okq (⟨"PledgeTipsModel", "comes", "(I)I"⟩, 15) := ⟨⟨by decide +kernel, by decide +kernel⟩, List.mem_of_getElem? (i := 539) (by decide +kernel), List.mem_of_getElem? (i := 614) (by decide +kernel), List.mem_of_getElem? (i := 615) (by decide +kernel)⟩
theorem lw_p57 : lw_okq (⟨"PledgeTipsModel", "makes", "(IIIII)I"⟩, 15) := ⟨⟨by decide +kernel, by decide +kernel⟩, List.mem_of_getElem? (i := 539) (by decide +kernel), List.mem_of_getElem? (i := 622) (by decide +kernel), List.mem_of_getElem? (i := 623) (by decide +kernel)⟩
theorem lw_p58 : lw_okq (⟨"PledgeTipsModel", "isPerson", "(I)Z"⟩, 15) := ⟨⟨by decide +kernel, by decide +kernel⟩, List.mem_of_getElem? (i := 539) (by decide +kernel), List.mem_of_getElem? (i := 626) (by decide +kernel), List.mem_of_getElem? (i := 627) (by decide +kernel)⟩
theorem lw_p59 : lw_okq (⟨"PledgeTipsModel", "isProject", "(I)Z"⟩, 15) := ⟨⟨by decide +kernel, by decide +kernel⟩, List.mem_of_getElem? (i := 539) (by decide +kernel), List.mem_of_getElem? (i := 630) (by decide +kernel), List.mem_of_getElem? (i := 631) (by decide +kernel)⟩
theorem lw_p60 : lw_okq (⟨"PledgeTipsModel", "isCondition", "(IIII)Z"⟩, 15) := ⟨⟨by decide +kernel, by decide +kernel⟩, List.mem_of_getElem? (i := 539) (by decide +kernel), List.mem_of_getElem? (i := 634) (by decide +kernel), List.mem_of_getElem? (i := 635) (by decide +kernel)⟩
theorem lw_p61 : lw_okq (⟨"PledgeTipsModel", "isClosed", "(I)Z"⟩, 15) := ⟨⟨by decide +kernel, by decide +kernel⟩, List.mem_of_getElem? (i := 539) (by decide +kernel), List.mem_of_getElem? (i := 638) (by decide +kernel), List.mem_of_getElem? (i := 639) (by decide +kernel)⟩
theorem lw_p62 : lw_okq (⟨"PledgeTipsModel", "ofPerson", "(I)I"⟩, 15) := ⟨⟨by decide +kernel, by decide +kernel⟩, List.mem_of_getElem? (i := 539) (by decide +kernel), List.mem_of_getElem? (i := 642) (by decide +kernel), List.mem_of_getElem? (i := 643) (by decide +kernel)⟩
theorem lw_p63 : lw_okq (⟨"PledgeTipsModel", "of", "(II)I"⟩, 15) := ⟨⟨by decide +kernel, by decide +kernel⟩, List.mem_of_getElem? (i := 539) (by decide +kernel), List.mem_of_getElem? (i := 646) (by decide +kernel), List.mem_of_getElem? (i := 647) (by decide +kernel)⟩
def lw_privs_4 : List (MethodName × Nat) := [(⟨"PledgeTips$Script", "signAt", "(I)C"⟩, 9), (⟨"PledgeTips$Script", "numbersBehind", "(C)I"⟩, 9), (⟨"PledgeTips$Script", "readNumber", "(II)I"⟩, 9), (⟨"PledgeTips$Script", "doCommand", "(C)I"⟩, 9), (⟨"PledgeTips$Script", "hasFault", "()Z"⟩, 9), (⟨"PledgeTipsModel", "begins", "()V"⟩, 15), (⟨"PledgeTipsModel", "adds", "(I)I"⟩, 15), (⟨"PledgeTipsModel", "acted", "(I)I"⟩, 15), (⟨"PledgeTipsModel", "comes", "(I)I"⟩, 15), (⟨"PledgeTipsModel", "makes", "(IIIII)I"⟩, 15), (⟨"PledgeTipsModel", "isPerson", "(I)Z"⟩, 15), (⟨"PledgeTipsModel", "isProject", "(I)Z"⟩, 15), (⟨"PledgeTipsModel", "isCondition", "(IIII)Z"⟩, 15), (⟨"PledgeTipsModel", "isClosed", "(I)Z"⟩, 15), (⟨"PledgeTipsModel", "ofPerson", "(I)I"⟩, 15), (⟨"PledgeTipsModel", "of", "(II)I"⟩, 15)]
theorem lw_r4 : ∀ q ∈ lw_privs_4, lw_okq q := List.forall_mem_cons.mpr ⟨lw_p48, List.forall_mem_cons.mpr ⟨lw_p49, List.forall_mem_cons.mpr ⟨lw_p50, List.forall_mem_cons.mpr ⟨lw_p51, List.forall_mem_cons.mpr ⟨lw_p52, List.forall_mem_cons.mpr ⟨lw_p53, List.forall_mem_cons.mpr ⟨lw_p54, List.forall_mem_cons.mpr ⟨lw_p55, List.forall_mem_cons.mpr ⟨lw_p56, List.forall_mem_cons.mpr ⟨lw_p57, List.forall_mem_cons.mpr ⟨lw_p58, List.forall_mem_cons.mpr ⟨lw_p59, List.forall_mem_cons.mpr ⟨lw_p60, List.forall_mem_cons.mpr ⟨lw_p61, List.forall_mem_cons.mpr ⟨lw_p62, List.forall_mem_cons.mpr ⟨lw_p63, fun _ h => absurd h List.not_mem_nil⟩⟩⟩⟩⟩⟩⟩⟩⟩⟩⟩⟩⟩⟩⟩⟩
theorem lw_p64 : lw_okq (⟨"PledgeTipsModel", "open", "()I"⟩, 15) := ⟨⟨by decide +kernel, by decide +kernel⟩, List.mem_of_getElem? (i := 539) (by decide +kernel), List.mem_of_getElem? (i := 650) (by decide +kernel), List.mem_of_getElem? (i := 651) (by decide +kernel)⟩
theorem lw_p65 : lw_okq (⟨"PledgeTipsModel", "pledges", "(ZZ)I"⟩, 15) := ⟨⟨by decide +kernel, by decide +kernel⟩, List.mem_of_getElem? (i := 539) (by decide +kernel), List.mem_of_getElem? (i := 654) (by decide +kernel), List.mem_of_getElem? (i := 655) (by decide +kernel)⟩
theorem lw_p66 : lw_okq (⟨"PledgeTipsModel", "amountOf", "(I)I"⟩, 15) := ⟨⟨by decide +kernel, by decide +kernel⟩, List.mem_of_getElem? (i := 539) (by decide +kernel), List.mem_of_getElem? (i := 658) (by decide +kernel), List.mem_of_getElem? (i := 659) (by decide +kernel)⟩
theorem lw_p67 : lw_okq (⟨"PledgeTipsModel", "lowestFree", "()I"⟩, 15) := ⟨⟨by decide +kernel, by decide +kernel⟩, List.mem_of_getElem? (i := 539) (by decide +kernel), List.mem_of_getElem? (i := 665) (by decide +kernel), List.mem_of_getElem? (i := 666) (by decide +kernel)⟩
theorem lw_p68 : lw_okq (⟨"PledgeTipsModel", "withdraws", "(I)I"⟩, 15) := ⟨⟨by decide +kernel, by decide +kernel⟩, List.mem_of_getElem? (i := 539) (by decide +kernel), List.mem_of_getElem? (i := 673) (by decide +kernel), List.mem_of_getElem? (i := 674) (by decide +kernel)⟩
theorem lw_p69 : lw_okq (⟨"PledgeTipsModel", "isPledge", "(I)Z"⟩, 15) := ⟨⟨by decide +kernel, by decide +kernel⟩, List.mem_of_getElem? (i := 539) (by decide +kernel), List.mem_of_getElem? (i := 677) (by decide +kernel), List.mem_of_getElem? (i := 678) (by decide +kernel)⟩
theorem lw_p70 : lw_okq (⟨"PledgeTipsModel", "stands", "(I)I"⟩, 15) := ⟨⟨by decide +kernel, by decide +kernel⟩, List.mem_of_getElem? (i := 539) (by decide +kernel), List.mem_of_getElem? (i := 681) (by decide +kernel), List.mem_of_getElem? (i := 682) (by decide +kernel)⟩
theorem lw_p71 : lw_okq (⟨"PledgeTipsModel", "called", "()I"⟩, 15) := ⟨⟨by decide +kernel, by decide +kernel⟩, List.mem_of_getElem? (i := 539) (by decide +kernel), List.mem_of_getElem? (i := 685) (by decide +kernel), List.mem_of_getElem? (i := 686) (by decide +kernel)⟩
theorem lw_p72 : lw_okq (⟨"PledgeTipsModel", "greatest", "(II)I"⟩, 15) := ⟨⟨by decide +kernel, by decide +kernel⟩, List.mem_of_getElem? (i := 539) (by decide +kernel), List.mem_of_getElem? (i := 689) (by decide +kernel), List.mem_of_getElem? (i := 690) (by decide +kernel)⟩
theorem lw_p73 : lw_okq (⟨"PledgeTipsModel", "fallingOf", "(II)I"⟩, 15) := ⟨⟨by decide +kernel, by decide +kernel⟩, List.mem_of_getElem? (i := 539) (by decide +kernel), List.mem_of_getElem? (i := 693) (by decide +kernel), List.mem_of_getElem? (i := 694) (by decide +kernel)⟩
theorem lw_p74 : lw_okq (⟨"PledgeTipsModel", "holds", "(II)Z"⟩, 15) := ⟨⟨by decide +kernel, by decide +kernel⟩, List.mem_of_getElem? (i := 539) (by decide +kernel), List.mem_of_getElem? (i := 697) (by decide +kernel), List.mem_of_getElem? (i := 698) (by decide +kernel)⟩
theorem lw_p75 : lw_okq (⟨"PledgeTipsModel", "moneyFor", "(II)I"⟩, 15) := ⟨⟨by decide +kernel, by decide +kernel⟩, List.mem_of_getElem? (i := 539) (by decide +kernel), List.mem_of_getElem? (i := 701) (by decide +kernel), List.mem_of_getElem? (i := 702) (by decide +kernel)⟩
theorem lw_p76 : lw_okq (⟨"PledgeTipsModel", "manyFor", "(II)I"⟩, 15) := ⟨⟨by decide +kernel, by decide +kernel⟩, List.mem_of_getElem? (i := 539) (by decide +kernel), List.mem_of_getElem? (i := 705) (by decide +kernel), List.mem_of_getElem? (i := 706) (by decide +kernel)⟩
theorem lw_p77 : lw_okq (⟨"PledgeTipsModel", "isOf", "(II)Z"⟩, 15) := ⟨⟨by decide +kernel, by decide +kernel⟩, List.mem_of_getElem? (i := 539) (by decide +kernel), List.mem_of_getElem? (i := 709) (by decide +kernel), List.mem_of_getElem? (i := 710) (by decide +kernel)⟩
theorem lw_p78 : lw_okq (⟨"PledgeTipsModel", "goal", "(I)I"⟩, 15) := ⟨⟨by decide +kernel, by decide +kernel⟩, List.mem_of_getElem? (i := 539) (by decide +kernel), List.mem_of_getElem? (i := 713) (by decide +kernel), List.mem_of_getElem? (i := 714) (by decide +kernel)⟩
theorem lw_p79 : lw_okq (⟨"PledgeTipsModel", "forgets", "(I)V"⟩, 15) := ⟨⟨by decide +kernel, by decide +kernel⟩, List.mem_of_getElem? (i := 539) (by decide +kernel), List.mem_of_getElem? (i := 717) (by decide +kernel), List.mem_of_getElem? (i := 718) (by decide +kernel)⟩
def lw_privs_5 : List (MethodName × Nat) := [(⟨"PledgeTipsModel", "open", "()I"⟩, 15), (⟨"PledgeTipsModel", "pledges", "(ZZ)I"⟩, 15), (⟨"PledgeTipsModel", "amountOf", "(I)I"⟩, 15), (⟨"PledgeTipsModel", "lowestFree", "()I"⟩, 15), (⟨"PledgeTipsModel", "withdraws", "(I)I"⟩, 15), (⟨"PledgeTipsModel", "isPledge", "(I)Z"⟩, 15), (⟨"PledgeTipsModel", "stands", "(I)I"⟩, 15), (⟨"PledgeTipsModel", "called", "()I"⟩, 15), (⟨"PledgeTipsModel", "greatest", "(II)I"⟩, 15), (⟨"PledgeTipsModel", "fallingOf", "(II)I"⟩, 15), (⟨"PledgeTipsModel", "holds", "(II)Z"⟩, 15), (⟨"PledgeTipsModel", "moneyFor", "(II)I"⟩, 15), (⟨"PledgeTipsModel", "manyFor", "(II)I"⟩, 15), (⟨"PledgeTipsModel", "isOf", "(II)Z"⟩, 15), (⟨"PledgeTipsModel", "goal", "(I)I"⟩, 15), (⟨"PledgeTipsModel", "forgets", "(I)V"⟩, 15)]
theorem lw_r5 : ∀ q ∈ lw_privs_5, lw_okq q := List.forall_mem_cons.mpr ⟨lw_p64, List.forall_mem_cons.mpr ⟨lw_p65, List.forall_mem_cons.mpr ⟨lw_p66, List.forall_mem_cons.mpr ⟨lw_p67, List.forall_mem_cons.mpr ⟨lw_p68, List.forall_mem_cons.mpr ⟨lw_p69, List.forall_mem_cons.mpr ⟨lw_p70, List.forall_mem_cons.mpr ⟨lw_p71, List.forall_mem_cons.mpr ⟨lw_p72, List.forall_mem_cons.mpr ⟨lw_p73, List.forall_mem_cons.mpr ⟨lw_p74, List.forall_mem_cons.mpr ⟨lw_p75, List.forall_mem_cons.mpr ⟨lw_p76, List.forall_mem_cons.mpr ⟨lw_p77, List.forall_mem_cons.mpr ⟨lw_p78, List.forall_mem_cons.mpr ⟨lw_p79, fun _ h => absurd h List.not_mem_nil⟩⟩⟩⟩⟩⟩⟩⟩⟩⟩⟩⟩⟩⟩⟩⟩
theorem lw_p80 : lw_okq (⟨"PledgeTipsModel", "calls", "(I)I"⟩, 15) := ⟨⟨by decide +kernel, by decide +kernel⟩, List.mem_of_getElem? (i := 539) (by decide +kernel), List.mem_of_getElem? (i := 725) (by decide +kernel), List.mem_of_getElem? (i := 726) (by decide +kernel)⟩
theorem lw_p81 : lw_okq (⟨"PledgeTipsModel", "hasGoal", "(II)Z"⟩, 15) := ⟨⟨by decide +kernel, by decide +kernel⟩, List.mem_of_getElem? (i := 539) (by decide +kernel), List.mem_of_getElem? (i := 729) (by decide +kernel), List.mem_of_getElem? (i := 730) (by decide +kernel)⟩
theorem lw_p82 : lw_okq (⟨"PledgeTipsModel", "ofProject", "(I)I"⟩, 15) := ⟨⟨by decide +kernel, by decide +kernel⟩, List.mem_of_getElem? (i := 539) (by decide +kernel), List.mem_of_getElem? (i := 733) (by decide +kernel), List.mem_of_getElem? (i := 734) (by decide +kernel)⟩
theorem lw_p83 : lw_okq (⟨"PledgeTipsModel", "tipOf", "(I)I"⟩, 15) := ⟨⟨by decide +kernel, by decide +kernel⟩, List.mem_of_getElem? (i := 539) (by decide +kernel), List.mem_of_getElem? (i := 745) (by decide +kernel), List.mem_of_getElem? (i := 746) (by decide +kernel)⟩
theorem lw_p84 : lw_okq (⟨"PledgeTipsModel", "neededFor", "(I)I"⟩, 15) := ⟨⟨by decide +kernel, by decide +kernel⟩, List.mem_of_getElem? (i := 539) (by decide +kernel), List.mem_of_getElem? (i := 749) (by decide +kernel), List.mem_of_getElem? (i := 750) (by decide +kernel)⟩
theorem lw_p85 : lw_okq (⟨"PledgeTipsModel", "pushOf", "(I)I"⟩, 15) := ⟨⟨by decide +kernel, by decide +kernel⟩, List.mem_of_getElem? (i := 539) (by decide +kernel), List.mem_of_getElem? (i := 753) (by decide +kernel), List.mem_of_getElem? (i := 754) (by decide +kernel)⟩
theorem lw_p86 : lw_okq (⟨"PledgeTipsModel", "isSet", "(I)Z"⟩, 15) := ⟨⟨by decide +kernel, by decide +kernel⟩, List.mem_of_getElem? (i := 539) (by decide +kernel), List.mem_of_getElem? (i := 768) (by decide +kernel), List.mem_of_getElem? (i := 769) (by decide +kernel)⟩
theorem lw_p87 : lw_okq (⟨"PledgeTipsModel", "isAhead", "(IIII)Z"⟩, 15) := ⟨⟨by decide +kernel, by decide +kernel⟩, List.mem_of_getElem? (i := 539) (by decide +kernel), List.mem_of_getElem? (i := 780) (by decide +kernel), List.mem_of_getElem? (i := 781) (by decide +kernel)⟩
theorem lw_p88 : lw_okq (⟨"PledgeTipsModel", "wavesNow", "()I"⟩, 15) := ⟨⟨by decide +kernel, by decide +kernel⟩, List.mem_of_getElem? (i := 539) (by decide +kernel), List.mem_of_getElem? (i := 788) (by decide +kernel), List.mem_of_getElem? (i := 789) (by decide +kernel)⟩
theorem lw_p89 : lw_okq (⟨"PledgeTipsModel", "setsThatHold", "()I"⟩, 15) := ⟨⟨by decide +kernel, by decide +kernel⟩, List.mem_of_getElem? (i := 539) (by decide +kernel), List.mem_of_getElem? (i := 792) (by decide +kernel), List.mem_of_getElem? (i := 793) (by decide +kernel)⟩
theorem lw_p90 : lw_okq (⟨"PledgeTipsModel", "goalsNow", "()I"⟩, 15) := ⟨⟨by decide +kernel, by decide +kernel⟩, List.mem_of_getElem? (i := 539) (by decide +kernel), List.mem_of_getElem? (i := 796) (by decide +kernel), List.mem_of_getElem? (i := 797) (by decide +kernel)⟩
theorem lw_p91 : lw_okq (⟨"PledgeTipsModel", "does", "()I"⟩, 15) := ⟨⟨by decide +kernel, by decide +kernel⟩, List.mem_of_getElem? (i := 539) (by decide +kernel), List.mem_of_getElem? (i := 816) (by decide +kernel), List.mem_of_getElem? (i := 817) (by decide +kernel)⟩
theorem lw_p92 : lw_okq (⟨"PledgeTipsModel", "command", "()I"⟩, 15) := ⟨⟨by decide +kernel, by decide +kernel⟩, List.mem_of_getElem? (i := 539) (by decide +kernel), List.mem_of_getElem? (i := 820) (by decide +kernel), List.mem_of_getElem? (i := 821) (by decide +kernel)⟩
theorem lw_p93 : lw_okq (⟨"PledgeTipsModel", "here", "()I"⟩, 15) := ⟨⟨by decide +kernel, by decide +kernel⟩, List.mem_of_getElem? (i := 539) (by decide +kernel), List.mem_of_getElem? (i := 824) (by decide +kernel), List.mem_of_getElem? (i := 825) (by decide +kernel)⟩
theorem lw_p94 : lw_okq (⟨"PledgeTipsModel", "readNumber", "(I)I"⟩, 15) := ⟨⟨by decide +kernel, by decide +kernel⟩, List.mem_of_getElem? (i := 539) (by decide +kernel), List.mem_of_getElem? (i := 828) (by decide +kernel), List.mem_of_getElem? (i := 829) (by decide +kernel)⟩
theorem lw_p95 : lw_okq (⟨"PledgeTipsModel", "must", "(I)V"⟩, 15) := ⟨⟨by decide +kernel, by decide +kernel⟩, List.mem_of_getElem? (i := 539) (by decide +kernel), List.mem_of_getElem? (i := 832) (by decide +kernel), List.mem_of_getElem? (i := 833) (by decide +kernel)⟩
def lw_privs_6 : List (MethodName × Nat) := [(⟨"PledgeTipsModel", "calls", "(I)I"⟩, 15), (⟨"PledgeTipsModel", "hasGoal", "(II)Z"⟩, 15), (⟨"PledgeTipsModel", "ofProject", "(I)I"⟩, 15), (⟨"PledgeTipsModel", "tipOf", "(I)I"⟩, 15), (⟨"PledgeTipsModel", "neededFor", "(I)I"⟩, 15), (⟨"PledgeTipsModel", "pushOf", "(I)I"⟩, 15), (⟨"PledgeTipsModel", "isSet", "(I)Z"⟩, 15), (⟨"PledgeTipsModel", "isAhead", "(IIII)Z"⟩, 15), (⟨"PledgeTipsModel", "wavesNow", "()I"⟩, 15), (⟨"PledgeTipsModel", "setsThatHold", "()I"⟩, 15), (⟨"PledgeTipsModel", "goalsNow", "()I"⟩, 15), (⟨"PledgeTipsModel", "does", "()I"⟩, 15), (⟨"PledgeTipsModel", "command", "()I"⟩, 15), (⟨"PledgeTipsModel", "here", "()I"⟩, 15), (⟨"PledgeTipsModel", "readNumber", "(I)I"⟩, 15), (⟨"PledgeTipsModel", "must", "(I)V"⟩, 15)]
theorem lw_r6 : ∀ q ∈ lw_privs_6, lw_okq q := List.forall_mem_cons.mpr ⟨lw_p80, List.forall_mem_cons.mpr ⟨lw_p81, List.forall_mem_cons.mpr ⟨lw_p82, List.forall_mem_cons.mpr ⟨lw_p83, List.forall_mem_cons.mpr ⟨lw_p84, List.forall_mem_cons.mpr ⟨lw_p85, List.forall_mem_cons.mpr ⟨lw_p86, List.forall_mem_cons.mpr ⟨lw_p87, List.forall_mem_cons.mpr ⟨lw_p88, List.forall_mem_cons.mpr ⟨lw_p89, List.forall_mem_cons.mpr ⟨lw_p90, List.forall_mem_cons.mpr ⟨lw_p91, List.forall_mem_cons.mpr ⟨lw_p92, List.forall_mem_cons.mpr ⟨lw_p93, List.forall_mem_cons.mpr ⟨lw_p94, List.forall_mem_cons.mpr ⟨lw_p95, fun _ h => absurd h List.not_mem_nil⟩⟩⟩⟩⟩⟩⟩⟩⟩⟩⟩⟩⟩⟩⟩⟩
theorem lw_p96 : lw_okq (⟨"PledgeTipsModel", "returns", "()V"⟩, 15) := ⟨⟨by decide +kernel, by decide +kernel⟩, List.mem_of_getElem? (i := 539) (by decide +kernel), List.mem_of_getElem? (i := 836) (by decide +kernel), List.mem_of_getElem? (i := 837) (by decide +kernel)⟩
def lw_privs_7 : List (MethodName × Nat) := [(⟨"PledgeTipsModel", "returns", "()V"⟩, 15)]
theorem lw_r7 : ∀ q ∈ lw_privs_7, lw_okq q := List.forall_mem_cons.mpr ⟨lw_p96, fun _ h => absurd h List.not_mem_nil⟩
def lw_privs : List (MethodName × Nat) := lw_privs_1 ++ (lw_privs_2 ++ (lw_privs_3 ++ (lw_privs_4 ++ (lw_privs_5 ++ (lw_privs_6 ++ (lw_privs_7))))))
def lw_tbl : List Cond := k2_sels lw_privs ++ tables_1
theorem lw_privs_ok : ∀ q ∈ lw_privs, lw_okq q := by
  show ∀ q ∈ lw_privs_1 ++ (lw_privs_2 ++ (lw_privs_3 ++ (lw_privs_4 ++ (lw_privs_5 ++ (lw_privs_6 ++ (lw_privs_7)))))), lw_okq q
  exact List.forall_mem_append.mpr ⟨lw_r1, List.forall_mem_append.mpr ⟨lw_r2, List.forall_mem_append.mpr ⟨lw_r3, List.forall_mem_append.mpr ⟨lw_r4, List.forall_mem_append.mpr ⟨lw_r5, List.forall_mem_append.mpr ⟨lw_r6, lw_r7⟩⟩⟩⟩⟩⟩
-- ===== end of PART A; then your names; then what follows =====
/-! THE CLAIM OUT OF ONE WALK OF THE LAW'S BODY. Your part is whole_start (and what it stands on); all else here is the same for every law, but numbers. -/
def R_law : String := "PledgeTipsLaw"
def lw_P (b : Addr) (xs : List Int32) (args : Array Value) (s : State) : Prop := args = #[.ref b] ∧ s.IntsAt b xs ∧ xs.length ≤ 3072 ∧ (Jvm.Cond.and given_1 narrow_1).before args s = true
def lw_Q (_ : Array Value) (s : State) (o : Outcome) (t : State) : Prop := o = .returned (some (.int 1)) ∧ Framed s o t [] 600000 7302250
def lw_Z (below : List Frame) (a : Array Value) (s : State) : State → Prop := fun t => ∃ o, t.status = .running ∧ Ended t below o ∧ lw_Q a s o t
/-- the law's own end, with 1 on the stack, nothing written that was there before, its room as the claim has it -/
theorem lw_ret {p : Program} {l : Launch} {e : Env} {s : State} {m : MethodId} {below : List Frame} {meth : Method} {c : Code} {b : Nat} (hx : p.tables.exec = Jvm.exec) (hb : c.code = code) (hr : meth.sig.returnType = ret) (hlocks : meth.locks = false) {pc : Nat} {H : Heap} {ls : Array Slot} (hdg : decode code pc = .ok (.ireturn, 1)) : W p l e room_1 s m #[Value.ref b] below meth c H [] 600000 7302250 (lw_Z below #[Value.ref b] s) (F0 m pc ls [.int 1]) := by
  intro T hT X
  obtain ⟨fs, hret, hrun, hended, hW, hframe⟩ := X.leave (v := some (.int 1)) (hlocks := hlocks) (fun h => by rw [hr] at h; cases h)
  have hmeth' : T.vm.method? m = some meth := X.method'
  refine ⟨T.setFrames fs, ?_, .returned (some (.int 1)), hrun, hended, rfl, ⟨_, rfl⟩, hW, hframe⟩
  jvm_step X.here [X.here.top, hx, hb, hdg, hmeth', hr, ret, narrow_b1]
  (try refine ⟨rfl, ?_⟩); (try refine ⟨rfl, ?_⟩)
  first | (intro acts; rw [hret _ acts rfl rfl rfl]) | rw [hret _ _ rfl rfl rfl]
  exact Steps.refl _
/-- what holds at the law's entry: the machine, the code, the tables' words (any of lw_tbl by 'hts w (by decide +kernel)'), the script of L ints xs at the cell b, what the Statement gives of the start (any of its parts by flat_of_before) -/
def lw_At (p : Program) (s : State) (m : MethodId) (meth : Method) (c : Code) (b L : Nat) (xs : Nat → Int32) : Prop :=
  p.tables.exec = Jvm.exec ∧ c.code = code ∧ meth.sig.returnType = ret ∧ c.maxLocals = 4 ∧ s.vm.findClass R_law = some m.cls ∧ (∀ w ∈ lw_tbl, w.before #[Value.ref b] s = true) ∧ va_X b L xs s s.heap ∧ b < s.heap.size ∧ meth.locks = false ∧ (Jvm.Cond.and given_1 narrow_1).before #[Value.ref b] s = true
def RX0 : String := "PledgeTips$Clerk"
def TX0 : u_T := fun k => match k with
  | 0 => ("PledgeTips$Clerk", "place", "LPledgeTips$Place;", true)
  | _ => ("PledgeTips$Clerk", "judge", "LPledgeTips$Judge;", true)
def tyX0 : Nat → FieldType := fun k => match k with
  | 0 => .object "PledgeTips$Place"
  | _ => .object "PledgeTips$Judge"
abbrev wsX00 : List Cond := u_ws RX0 TX0 2
theorem nmX0 : ∀ a, a < 2 → ∀ b, b < 2 → a ≠ b → (TX0 a).2.1 ≠ (TX0 b).2.1 := by decide +kernel
theorem tyX0_ok : ∀ k, k < 2 → parseFieldDescriptor (TX0 k).2.2.1 = some (tyX0 k) := by decide +kernel
abbrev cX0_init : ByteArray := prog_2_method_1_code
def yX0_init : MethodName := ⟨RX0, "<init>", "(LPledgeTips$Place;LPledgeTips$Judge;)V"⟩
abbrev cX0_addProject : ByteArray := prog_2_method_2_code
def yX0_addProject : MethodName := ⟨RX0, "addProject", "(I)I"⟩
abbrev cX0_addPerson : ByteArray := prog_2_method_3_code
def yX0_addPerson : MethodName := ⟨RX0, "addPerson", "(I)I"⟩
abbrev cX0_makePledge : ByteArray := prog_2_method_4_code
def yX0_makePledge : MethodName := ⟨RX0, "makePledge", "(IIIII)I"⟩
abbrev cX0_isCondition : ByteArray := prog_2_method_5_code
def yX0_isCondition : MethodName := ⟨RX0, "isCondition", "(IIII)Z"⟩
abbrev cX0_takeBack : ByteArray := prog_2_method_6_code
def yX0_takeBack : MethodName := ⟨RX0, "takeBack", "(I)I"⟩
abbrev cX0_collect : ByteArray := prog_2_method_7_code
def yX0_collect : MethodName := ⟨RX0, "collect", "(I)I"⟩
def RX1 : String := "PledgeTips$Judge"
def TX1 : u_T := fun k => match k with
  | 0 => ("PledgeTips$Judge", "place", "LPledgeTips$Place;", true)
  | 1 => ("PledgeTips$Judge", "sums", "[I", true)
  | 2 => ("PledgeTips$Judge", "counts", "[I", true)
  | _ => ("PledgeTips$Judge", "givers", "I", false)
def tyX1 : Nat → FieldType := fun k => match k with
  | 0 => .object "PledgeTips$Place"
  | 1 => .array .int
  | 2 => .array .int
  | _ => .int
abbrev wsX10 : List Cond := u_ws RX1 TX1 4
theorem nmX1 : ∀ a, a < 4 → ∀ b, b < 4 → a ≠ b → (TX1 a).2.1 ≠ (TX1 b).2.1 := by decide +kernel
theorem tyX1_ok : ∀ k, k < 4 → parseFieldDescriptor (TX1 k).2.2.1 = some (tyX1 k) := by decide +kernel
abbrev cX1_init : ByteArray := prog_3_method_1_code
def yX1_init : MethodName := ⟨RX1, "<init>", "(LPledgeTips$Place;)V"⟩
abbrev cX1_gather : ByteArray := prog_3_method_2_code
def yX1_gather : MethodName := ⟨RX1, "gather", "(I)V"⟩
abbrev cX1_holds : ByteArray := prog_3_method_3_code
def yX1_holds : MethodName := ⟨RX1, "holds", "(I)Z"⟩
abbrev cX1_failing : ByteArray := prog_3_method_4_code
def yX1_failing : MethodName := ⟨RX1, "failing", "(II)I"⟩
abbrev cX1_greatest : ByteArray := prog_3_method_5_code
def yX1_greatest : MethodName := ⟨RX1, "greatest", "(II)I"⟩
abbrev cX1_stand : ByteArray := prog_3_method_6_code
def yX1_stand : MethodName := ⟨RX1, "stand", "()I"⟩
abbrev cX1_standWithout : ByteArray := prog_3_method_7_code
def yX1_standWithout : MethodName := ⟨RX1, "standWithout", "(I)I"⟩
abbrev cX1_fallenWithout : ByteArray := prog_3_method_8_code
def yX1_fallenWithout : MethodName := ⟨RX1, "fallenWithout", "(I)I"⟩
abbrev cX1_waveOf : ByteArray := prog_3_method_9_code
def yX1_waveOf : MethodName := ⟨RX1, "waveOf", "(I)I"⟩
abbrev cX1_waves : ByteArray := prog_3_method_10_code
def yX1_waves : MethodName := ⟨RX1, "waves", "()I"⟩
abbrev cX1_setsThatHold : ByteArray := prog_3_method_11_code
def yX1_setsThatHold : MethodName := ⟨RX1, "setsThatHold", "()I"⟩
abbrev cX1_reaches : ByteArray := prog_3_method_12_code
def yX1_reaches : MethodName := ⟨RX1, "reaches", "(III)Z"⟩
abbrev cX1_hasGoal : ByteArray := prog_3_method_13_code
def yX1_hasGoal : MethodName := ⟨RX1, "hasGoal", "(I)Z"⟩
abbrev cX1_projectsWithGoal : ByteArray := prog_3_method_14_code
def yX1_projectsWithGoal : MethodName := ⟨RX1, "projectsWithGoal", "()I"⟩
abbrev cX1_tip : ByteArray := prog_3_method_15_code
def yX1_tip : MethodName := ⟨RX1, "tip", "(I)I"⟩
abbrev cX1_needed : ByteArray := prog_3_method_16_code
def yX1_needed : MethodName := ⟨RX1, "needed", "(I)I"⟩
abbrev cX1_push : ByteArray := prog_3_method_17_code
def yX1_push : MethodName := ⟨RX1, "push", "(I)I"⟩
abbrev cX1_reachesWith : ByteArray := prog_3_method_18_code
def yX1_reachesWith : MethodName := ⟨RX1, "reachesWith", "(II)Z"⟩
def RX2 : String := "PledgeTips$Place"
def TX2 : u_T := fun k => match k with
  | 0 => ("PledgeTips$Place", "projects", "I", false)
  | 1 => ("PledgeTips$Place", "goal", "[I", true)
  | 2 => ("PledgeTips$Place", "closed", "I", false)
  | 3 => ("PledgeTips$Place", "persons", "I", false)
  | 4 => ("PledgeTips$Place", "purse", "[I", true)
  | 5 => ("PledgeTips$Place", "paid", "[I", true)
  | 6 => ("PledgeTips$Place", "open", "I", false)
  | 7 => ("PledgeTips$Place", "called", "I", false)
  | 8 => ("PledgeTips$Place", "giver", "[I", true)
  | 9 => ("PledgeTips$Place", "target", "[I", true)
  | 10 => ("PledgeTips$Place", "amount", "[I", true)
  | 11 => ("PledgeTips$Place", "kind", "[I", true)
  | 12 => ("PledgeTips$Place", "value", "[I", true)
  | 13 => ("PledgeTips$Place", "turn", "[I", true)
  | 14 => ("PledgeTips$Place", "made", "I", false)
  | 15 => ("PledgeTips$Place", "withdrawn", "I", false)
  | _ => ("PledgeTips$Place", "money", "I", false)
def tyX2 : Nat → FieldType := fun k => match k with
  | 0 => .int
  | 1 => .array .int
  | 2 => .int
  | 3 => .int
  | 4 => .array .int
  | 5 => .array .int
  | 6 => .int
  | 7 => .int
  | 8 => .array .int
  | 9 => .array .int
  | 10 => .array .int
  | 11 => .array .int
  | 12 => .array .int
  | 13 => .array .int
  | 14 => .int
  | 15 => .int
  | _ => .int
abbrev wsX20 : List Cond := u_ws RX2 TX2 17
theorem nmX2 : ∀ a, a < 17 → ∀ b, b < 17 → a ≠ b → (TX2 a).2.1 ≠ (TX2 b).2.1 := by decide +kernel
theorem tyX2_ok : ∀ k, k < 17 → parseFieldDescriptor (TX2 k).2.2.1 = some (tyX2 k) := by decide +kernel
abbrev cX2_init : ByteArray := prog_4_method_1_code
def yX2_init : MethodName := ⟨RX2, "<init>", "()V"⟩
abbrev cX2_copyFrom : ByteArray := prog_4_method_2_code
def yX2_copyFrom : MethodName := ⟨RX2, "copyFrom", "(LPledgeTips$Place;)V"⟩
abbrev cX2_hasProject : ByteArray := prog_4_method_3_code
def yX2_hasProject : MethodName := ⟨RX2, "hasProject", "(I)Z"⟩
abbrev cX2_hasPerson : ByteArray := prog_4_method_4_code
def yX2_hasPerson : MethodName := ⟨RX2, "hasPerson", "(I)Z"⟩
abbrev cX2_hasPledge : ByteArray := prog_4_method_5_code
def yX2_hasPledge : MethodName := ⟨RX2, "hasPledge", "(I)Z"⟩
abbrev cX2_isClosed : ByteArray := prog_4_method_6_code
def yX2_isClosed : MethodName := ⟨RX2, "isClosed", "(I)Z"⟩
abbrev cX2_pledges : ByteArray := prog_4_method_7_code
def yX2_pledges : MethodName := ⟨RX2, "pledges", "()I"⟩
abbrev cX2_pledgesFor : ByteArray := prog_4_method_8_code
def yX2_pledgesFor : MethodName := ⟨RX2, "pledgesFor", "(I)I"⟩
abbrev cX2_pledgesOf : ByteArray := prog_4_method_9_code
def yX2_pledgesOf : MethodName := ⟨RX2, "pledgesOf", "(I)I"⟩
abbrev cX2_pledgesUpTo : ByteArray := prog_4_method_10_code
def yX2_pledgesUpTo : MethodName := ⟨RX2, "pledgesUpTo", "(I)I"⟩
abbrev cX2_sum : ByteArray := prog_4_method_11_code
def yX2_sum : MethodName := ⟨RX2, "sum", "(I)I"⟩
abbrev cX2_lowestFreeNumber : ByteArray := prog_4_method_12_code
def yX2_lowestFreeNumber : MethodName := ⟨RX2, "lowestFreeNumber", "()I"⟩
abbrev cX2_thinkOfExtra : ByteArray := prog_4_method_13_code
def yX2_thinkOfExtra : MethodName := ⟨RX2, "thinkOfExtra", "(II)V"⟩
def RX3 : String := "PledgeTips$Script"
def TX3 : u_T := fun k => match k with
  | 0 => ("PledgeTips$Script", "text", "[C", true)
  | 1 => ("PledgeTips$Script", "length", "I", false)
  | 2 => ("PledgeTips$Script", "numbers", "[I", true)
  | 3 => ("PledgeTips$Script", "outcome", "LPledgeTips$Place;", true)
  | 4 => ("PledgeTips$Script", "clerk", "LPledgeTips$Clerk;", true)
  | 5 => ("PledgeTips$Script", "commands", "I", false)
  | 6 => ("PledgeTips$Script", "faultPosition", "I", false)
  | 7 => ("PledgeTips$Script", "faultReason", "I", false)
  | _ => ("PledgeTips$Script", "faultCause", "I", false)
def tyX3 : Nat → FieldType := fun k => match k with
  | 0 => .array .char
  | 1 => .int
  | 2 => .array .int
  | 3 => .object "PledgeTips$Place"
  | 4 => .object "PledgeTips$Clerk"
  | 5 => .int
  | 6 => .int
  | 7 => .int
  | _ => .int
abbrev wsX30 : List Cond := u_ws RX3 TX3 9
theorem nmX3 : ∀ a, a < 9 → ∀ b, b < 9 → a ≠ b → (TX3 a).2.1 ≠ (TX3 b).2.1 := by decide +kernel
theorem tyX3_ok : ∀ k, k < 9 → parseFieldDescriptor (TX3 k).2.2.1 = some (tyX3 k) := by decide +kernel
abbrev cX3_init : ByteArray := prog_5_method_1_code
def yX3_init : MethodName := ⟨RX3, "<init>", "()V"⟩
abbrev cX3_append : ByteArray := prog_5_method_2_code
def yX3_append : MethodName := ⟨RX3, "append", "(C)I"⟩
abbrev cX3_empty : ByteArray := prog_5_method_3_code
def yX3_empty : MethodName := ⟨RX3, "empty", "()I"⟩
abbrev cX3_hasFault : ByteArray := prog_5_method_4_code
def yX3_hasFault : MethodName := ⟨RX3, "hasFault", "()Z"⟩
abbrev cX3_tryOn : ByteArray := prog_5_method_5_code
def yX3_tryOn : MethodName := ⟨RX3, "tryOn", "(LPledgeTips$Place;)V"⟩
abbrev cX3_tellFault : ByteArray := prog_5_method_6_code
def yX3_tellFault : MethodName := ⟨RX3, "tellFault", "(III)V"⟩
abbrev cX3_readCommand : ByteArray := prog_5_method_7_code
def yX3_readCommand : MethodName := ⟨RX3, "readCommand", "(I)I"⟩
abbrev cX3_readNumber : ByteArray := prog_5_method_8_code
def yX3_readNumber : MethodName := ⟨RX3, "readNumber", "(II)I"⟩
abbrev cX3_signAt : ByteArray := prog_5_method_9_code
def yX3_signAt : MethodName := ⟨RX3, "signAt", "(I)C"⟩
abbrev cX3_numbersBehind : ByteArray := prog_5_method_10_code
def yX3_numbersBehind : MethodName := ⟨RX3, "numbersBehind", "(C)I"⟩
abbrev cX3_doCommand : ByteArray := prog_5_method_11_code
def yX3_doCommand : MethodName := ⟨RX3, "doCommand", "(C)I"⟩
def RX4 : String := "PledgeTips"
def TX4 : u_T := fun k => match k with
  | 0 => ("PledgeTips", "now", "LPledgeTips$Place;", true)
  | 1 => ("PledgeTips", "judge", "LPledgeTips$Judge;", true)
  | 2 => ("PledgeTips", "clerk", "LPledgeTips$Clerk;", true)
  | 3 => ("PledgeTips", "script", "LPledgeTips$Script;", true)
  | 4 => ("PledgeTips", "history", "[LPledgeTips$Place;", true)
  | 5 => ("PledgeTips", "states", "I", false)
  | _ => ("PledgeTips", "keys", "[J", true)
def tyX4 : Nat → FieldType := fun k => match k with
  | 0 => .object "PledgeTips$Place"
  | 1 => .object "PledgeTips$Judge"
  | 2 => .object "PledgeTips$Clerk"
  | 3 => .object "PledgeTips$Script"
  | 4 => .array (.object "PledgeTips$Place")
  | 5 => .int
  | _ => .array .long
abbrev wsX40 : List Cond := u_ws RX4 TX4 7
theorem nmX4 : ∀ a, a < 7 → ∀ b, b < 7 → a ≠ b → (TX4 a).2.1 ≠ (TX4 b).2.1 := by decide +kernel
theorem tyX4_ok : ∀ k, k < 7 → parseFieldDescriptor (TX4 k).2.2.1 = some (tyX4 k) := by decide +kernel
abbrev cX4_init : ByteArray := prog_1_method_1_code
def yX4_init : MethodName := ⟨RX4, "<init>", "()V"⟩
abbrev cX4_project : ByteArray := prog_1_method_2_code
def yX4_project : MethodName := ⟨RX4, "project", "(I)I"⟩
abbrev cX4_person : ByteArray := prog_1_method_3_code
def yX4_person : MethodName := ⟨RX4, "person", "(I)I"⟩
abbrev cX4_pledge : ByteArray := prog_1_method_4_code
def yX4_pledge : MethodName := ⟨RX4, "pledge", "(IIIII)I"⟩
abbrev cX4_withdraw : ByteArray := prog_1_method_5_code
def yX4_withdraw : MethodName := ⟨RX4, "withdraw", "(I)I"⟩
abbrev cX4_callIn : ByteArray := prog_1_method_6_code
def yX4_callIn : MethodName := ⟨RX4, "callIn", "(I)I"⟩
abbrev cX4_pledgeOf : ByteArray := prog_1_method_7_code
def yX4_pledgeOf : MethodName := ⟨RX4, "pledgeOf", "(II)I"⟩
abbrev cX4_projectOf : ByteArray := prog_1_method_8_code
def yX4_projectOf : MethodName := ⟨RX4, "projectOf", "(II)I"⟩
abbrev cX4_personOf : ByteArray := prog_1_method_9_code
def yX4_personOf : MethodName := ⟨RX4, "personOf", "(II)I"⟩
abbrev cX4_standing : ByteArray := prog_1_method_10_code
def yX4_standing : MethodName := ⟨RX4, "standing", "(I)I"⟩
abbrev cX4_setOf : ByteArray := prog_1_method_11_code
def yX4_setOf : MethodName := ⟨RX4, "setOf", "(II)I"⟩
abbrev cX4_orderAt : ByteArray := prog_1_method_12_code
def yX4_orderAt : MethodName := ⟨RX4, "orderAt", "(II)I"⟩
abbrev cX4_count : ByteArray := prog_1_method_13_code
def yX4_count : MethodName := ⟨RX4, "count", "(I)I"⟩
abbrev cX4_undo : ByteArray := prog_1_method_14_code
def yX4_undo : MethodName := ⟨RX4, "undo", "()I"⟩
abbrev cX4_type : ByteArray := prog_1_method_15_code
def yX4_type : MethodName := ⟨RX4, "type", "(I)I"⟩
abbrev cX4_clearText : ByteArray := prog_1_method_16_code
def yX4_clearText : MethodName := ⟨RX4, "clearText", "()I"⟩
abbrev cX4_fault : ByteArray := prog_1_method_17_code
def yX4_fault : MethodName := ⟨RX4, "fault", "(I)I"⟩
abbrev cX4_play : ByteArray := prog_1_method_18_code
def yX4_play : MethodName := ⟨RX4, "play", "()I"⟩
abbrev cX4_keepState : ByteArray := prog_1_method_19_code
def yX4_keepState : MethodName := ⟨RX4, "keepState", "()V"⟩
abbrev cX4_settle : ByteArray := prog_1_method_20_code
def yX4_settle : MethodName := ⟨RX4, "settle", "(I)I"⟩
abbrev cX4_dropOldest : ByteArray := prog_1_method_21_code
def yX4_dropOldest : MethodName := ⟨RX4, "dropOldest", "()V"⟩
abbrev cX4_fallOf : ByteArray := prog_1_method_22_code
def yX4_fallOf : MethodName := ⟨RX4, "fallOf", "(I)I"⟩
abbrev cX4_toppledBy : ByteArray := prog_1_method_23_code
def yX4_toppledBy : MethodName := ⟨RX4, "toppledBy", "(I)I"⟩
abbrev cX4_errorOfSet : ByteArray := prog_1_method_24_code
def yX4_errorOfSet : MethodName := ⟨RX4, "errorOfSet", "(I)I"⟩
abbrev cX4_keyOf : ByteArray := prog_1_method_25_code
def yX4_keyOf : MethodName := ⟨RX4, "keyOf", "(II)J"⟩
abbrev cX4_keysBelow : ByteArray := prog_1_method_26_code
def yX4_keysBelow : MethodName := ⟨RX4, "keysBelow", "(J)I"⟩
def RX5 : String := "PledgeTipsModel"
def TX5 : u_T := fun k => match k with
  | 0 => ("PledgeTipsModel", "s", "[I", true)
  | 1 => ("PledgeTipsModel", "begun", "[I", true)
  | 2 => ("PledgeTipsModel", "past", "[I", true)
  | 3 => ("PledgeTipsModel", "states", "I", false)
  | 4 => ("PledgeTipsModel", "text", "[I", true)
  | 5 => ("PledgeTipsModel", "length", "I", false)
  | 6 => ("PledgeTipsModel", "moreFor", "I", false)
  | 7 => ("PledgeTipsModel", "more", "I", false)
  | 8 => ("PledgeTipsModel", "waves", "[I", true)
  | 9 => ("PledgeTipsModel", "waveMany", "I", false)
  | 10 => ("PledgeTipsModel", "at", "I", false)
  | 11 => ("PledgeTipsModel", "isForm", "Z", false)
  | 12 => ("PledgeTipsModel", "reason", "I", false)
  | 13 => ("PledgeTipsModel", "cause", "I", false)
  | _ => ("PledgeTipsModel", "numbers", "[I", true)
def tyX5 : Nat → FieldType := fun k => match k with
  | 0 => .array .int
  | 1 => .array .int
  | 2 => .array .int
  | 3 => .int
  | 4 => .array .int
  | 5 => .int
  | 6 => .int
  | 7 => .int
  | 8 => .array .int
  | 9 => .int
  | 10 => .int
  | 11 => .boolean
  | 12 => .int
  | 13 => .int
  | _ => .array .int
abbrev wsX50 : List Cond := u_ws RX5 TX5 15
theorem nmX5 : ∀ a, a < 15 → ∀ b, b < 15 → a ≠ b → (TX5 a).2.1 ≠ (TX5 b).2.1 := by decide +kernel
theorem tyX5_ok : ∀ k, k < 15 → parseFieldDescriptor (TX5 k).2.2.1 = some (tyX5 k) := by decide +kernel
abbrev cX5_init : ByteArray := prog_7_method_1_code
def yX5_init : MethodName := ⟨RX5, "<init>", "()V"⟩
abbrev cX5_in : ByteArray := prog_7_method_3_code
def yX5_in : MethodName := ⟨RX5, "in", "(III)Z"⟩
abbrev cX5_has : ByteArray := prog_7_method_4_code
def yX5_has : MethodName := ⟨RX5, "has", "(II)Z"⟩
abbrev cX5_of : ByteArray := prog_7_method_5_code
def yX5_of : MethodName := ⟨RX5, "of", "(II)I"⟩
abbrev cX5_goal : ByteArray := prog_7_method_6_code
def yX5_goal : MethodName := ⟨RX5, "goal", "(I)I"⟩
abbrev cX5_isClosed : ByteArray := prog_7_method_7_code
def yX5_isClosed : MethodName := ⟨RX5, "isClosed", "(I)Z"⟩
abbrev cX5_isProject : ByteArray := prog_7_method_8_code
def yX5_isProject : MethodName := ⟨RX5, "isProject", "(I)Z"⟩
abbrev cX5_isPerson : ByteArray := prog_7_method_9_code
def yX5_isPerson : MethodName := ⟨RX5, "isPerson", "(I)Z"⟩
abbrev cX5_isPledge : ByteArray := prog_7_method_10_code
def yX5_isPledge : MethodName := ⟨RX5, "isPledge", "(I)Z"⟩
abbrev cX5_begins : ByteArray := prog_7_method_11_code
def yX5_begins : MethodName := ⟨RX5, "begins", "()V"⟩
abbrev cX5_returns : ByteArray := prog_7_method_12_code
def yX5_returns : MethodName := ⟨RX5, "returns", "()V"⟩
abbrev cX5_acted : ByteArray := prog_7_method_13_code
def yX5_acted : MethodName := ⟨RX5, "acted", "(I)I"⟩
abbrev cX5_pledges : ByteArray := prog_7_method_14_code
def yX5_pledges : MethodName := ⟨RX5, "pledges", "(ZZ)I"⟩
abbrev cX5_moneyFor : ByteArray := prog_7_method_15_code
def yX5_moneyFor : MethodName := ⟨RX5, "moneyFor", "(II)I"⟩
abbrev cX5_manyFor : ByteArray := prog_7_method_16_code
def yX5_manyFor : MethodName := ⟨RX5, "manyFor", "(II)I"⟩
abbrev cX5_isOf : ByteArray := prog_7_method_17_code
def yX5_isOf : MethodName := ⟨RX5, "isOf", "(II)Z"⟩
abbrev cX5_holds : ByteArray := prog_7_method_18_code
def yX5_holds : MethodName := ⟨RX5, "holds", "(II)Z"⟩
abbrev cX5_fallingOf : ByteArray := prog_7_method_19_code
def yX5_fallingOf : MethodName := ⟨RX5, "fallingOf", "(II)I"⟩
abbrev cX5_greatest : ByteArray := prog_7_method_20_code
def yX5_greatest : MethodName := ⟨RX5, "greatest", "(II)I"⟩
abbrev cX5_called : ByteArray := prog_7_method_21_code
def yX5_called : MethodName := ⟨RX5, "called", "()I"⟩
abbrev cX5_open : ByteArray := prog_7_method_22_code
def yX5_open : MethodName := ⟨RX5, "open", "()I"⟩
abbrev cX5_stands : ByteArray := prog_7_method_23_code
def yX5_stands : MethodName := ⟨RX5, "stands", "(I)I"⟩
abbrev cX5_hasGoal : ByteArray := prog_7_method_24_code
def yX5_hasGoal : MethodName := ⟨RX5, "hasGoal", "(II)Z"⟩
abbrev cX5_amountOf : ByteArray := prog_7_method_25_code
def yX5_amountOf : MethodName := ⟨RX5, "amountOf", "(I)I"⟩
abbrev cX5_ofPerson : ByteArray := prog_7_method_26_code
def yX5_ofPerson : MethodName := ⟨RX5, "ofPerson", "(I)I"⟩
abbrev cX5_ofProject : ByteArray := prog_7_method_27_code
def yX5_ofProject : MethodName := ⟨RX5, "ofProject", "(I)I"⟩
abbrev cX5_many : ByteArray := prog_7_method_28_code
def yX5_many : MethodName := ⟨RX5, "many", "(I)I"⟩
abbrev cX5_adds : ByteArray := prog_7_method_29_code
def yX5_adds : MethodName := ⟨RX5, "adds", "(I)I"⟩
abbrev cX5_comes : ByteArray := prog_7_method_30_code
def yX5_comes : MethodName := ⟨RX5, "comes", "(I)I"⟩
abbrev cX5_isCondition : ByteArray := prog_7_method_31_code
def yX5_isCondition : MethodName := ⟨RX5, "isCondition", "(IIII)Z"⟩
abbrev cX5_lowestFree : ByteArray := prog_7_method_32_code
def yX5_lowestFree : MethodName := ⟨RX5, "lowestFree", "()I"⟩
abbrev cX5_makes : ByteArray := prog_7_method_33_code
def yX5_makes : MethodName := ⟨RX5, "makes", "(IIIII)I"⟩
abbrev cX5_forgets : ByteArray := prog_7_method_34_code
def yX5_forgets : MethodName := ⟨RX5, "forgets", "(I)V"⟩
abbrev cX5_withdraws : ByteArray := prog_7_method_35_code
def yX5_withdraws : MethodName := ⟨RX5, "withdraws", "(I)I"⟩
abbrev cX5_calls : ByteArray := prog_7_method_36_code
def yX5_calls : MethodName := ⟨RX5, "calls", "(I)I"⟩
abbrev cX5_project : ByteArray := prog_7_method_37_code
def yX5_project : MethodName := ⟨RX5, "project", "(I)I"⟩
abbrev cX5_person : ByteArray := prog_7_method_38_code
def yX5_person : MethodName := ⟨RX5, "person", "(I)I"⟩
abbrev cX5_pledge : ByteArray := prog_7_method_39_code
def yX5_pledge : MethodName := ⟨RX5, "pledge", "(IIIII)I"⟩
abbrev cX5_withdraw : ByteArray := prog_7_method_40_code
def yX5_withdraw : MethodName := ⟨RX5, "withdraw", "(I)I"⟩
abbrev cX5_callIn : ByteArray := prog_7_method_41_code
def yX5_callIn : MethodName := ⟨RX5, "callIn", "(I)I"⟩
abbrev cX5_pledgeOf : ByteArray := prog_7_method_42_code
def yX5_pledgeOf : MethodName := ⟨RX5, "pledgeOf", "(II)I"⟩
abbrev cX5_tipOf : ByteArray := prog_7_method_43_code
def yX5_tipOf : MethodName := ⟨RX5, "tipOf", "(I)I"⟩
abbrev cX5_neededFor : ByteArray := prog_7_method_44_code
def yX5_neededFor : MethodName := ⟨RX5, "neededFor", "(I)I"⟩
abbrev cX5_pushOf : ByteArray := prog_7_method_45_code
def yX5_pushOf : MethodName := ⟨RX5, "pushOf", "(I)I"⟩
abbrev cX5_projectOf : ByteArray := prog_7_method_46_code
def yX5_projectOf : MethodName := ⟨RX5, "projectOf", "(II)I"⟩
abbrev cX5_personOf : ByteArray := prog_7_method_47_code
def yX5_personOf : MethodName := ⟨RX5, "personOf", "(II)I"⟩
abbrev cX5_isSet : ByteArray := prog_7_method_48_code
def yX5_isSet : MethodName := ⟨RX5, "isSet", "(I)Z"⟩
abbrev cX5_standing : ByteArray := prog_7_method_49_code
def yX5_standing : MethodName := ⟨RX5, "standing", "(I)I"⟩
abbrev cX5_setOf : ByteArray := prog_7_method_50_code
def yX5_setOf : MethodName := ⟨RX5, "setOf", "(II)I"⟩
abbrev cX5_isAhead : ByteArray := prog_7_method_51_code
def yX5_isAhead : MethodName := ⟨RX5, "isAhead", "(IIII)Z"⟩
abbrev cX5_orderAt : ByteArray := prog_7_method_52_code
def yX5_orderAt : MethodName := ⟨RX5, "orderAt", "(II)I"⟩
abbrev cX5_setsThatHold : ByteArray := prog_7_method_53_code
def yX5_setsThatHold : MethodName := ⟨RX5, "setsThatHold", "()I"⟩
abbrev cX5_wavesNow : ByteArray := prog_7_method_54_code
def yX5_wavesNow : MethodName := ⟨RX5, "wavesNow", "()I"⟩
abbrev cX5_goalsNow : ByteArray := prog_7_method_55_code
def yX5_goalsNow : MethodName := ⟨RX5, "goalsNow", "()I"⟩
abbrev cX5_count : ByteArray := prog_7_method_56_code
def yX5_count : MethodName := ⟨RX5, "count", "(I)I"⟩
abbrev cX5_undo : ByteArray := prog_7_method_57_code
def yX5_undo : MethodName := ⟨RX5, "undo", "()I"⟩
abbrev cX5_type : ByteArray := prog_7_method_58_code
def yX5_type : MethodName := ⟨RX5, "type", "(I)I"⟩
abbrev cX5_clearText : ByteArray := prog_7_method_59_code
def yX5_clearText : MethodName := ⟨RX5, "clearText", "()I"⟩
abbrev cX5_here : ByteArray := prog_7_method_60_code
def yX5_here : MethodName := ⟨RX5, "here", "()I"⟩
abbrev cX5_must : ByteArray := prog_7_method_61_code
def yX5_must : MethodName := ⟨RX5, "must", "(I)V"⟩
abbrev cX5_readNumber : ByteArray := prog_7_method_62_code
def yX5_readNumber : MethodName := ⟨RX5, "readNumber", "(I)I"⟩
abbrev cX5_command : ByteArray := prog_7_method_63_code
def yX5_command : MethodName := ⟨RX5, "command", "()I"⟩
abbrev cX5_does : ByteArray := prog_7_method_64_code
def yX5_does : MethodName := ⟨RX5, "does", "()I"⟩
abbrev cX5_fault : ByteArray := prog_7_method_65_code
def yX5_fault : MethodName := ⟨RX5, "fault", "(I)I"⟩
abbrev cX5_play : ByteArray := prog_7_method_66_code
def yX5_play : MethodName := ⟨RX5, "play", "()I"⟩
def RJ6 : String := "java/lang/Integer"
abbrev cJ6_bitCount_0f7a4 : ByteArray := prog_8_method_49_code
def yJ6_bitCount_0f7a4 : MethodName := ⟨RJ6, "bitCount", "(I)I"⟩
def RJ10 : String := "java/lang/System"
def RL : String := "PledgeTipsLaw"
abbrev cL_law : ByteArray := code
def yL_law : MethodName := ⟨RL, "law", "([I)Z"⟩
abbrev vwCl : List vw_C := [(RX0, TX0, 2), (RX1, TX1, 4), (RX2, TX2, 17), (RX3, TX3, 9), (RX4, TX4, 7), (RX5, TX5, 15)]
def GW : List Cond := lw_tbl.filter goodWord
theorem gw_of {w : Cond} (h : w ∈ lw_tbl) (hg : goodWord w = true) : w ∈ GW := List.mem_filter.mpr ⟨h, hg⟩
theorem tb {w : Cond} (i : Nat) (h : tables_1[i]? = some w) : w ∈ lw_tbl := List.mem_append_right _ (List.mem_of_getElem? h)
theorem sl {q : MethodName × Nat} (i : Nat) (h : lw_privs[i]? = some q) : Cond.selects q.1.cls q.1 q.1 ∈ lw_tbl := List.mem_append_left _ (List.mem_map.mpr ⟨q, List.mem_of_getElem? h, rfl⟩)
theorem k0 : Cond.initialized RL ∈ GW := gw_of (tb 0 (by decide +kernel)) rfl
theorem k1 : Cond.initialized RX4 ∈ GW := gw_of (tb 1 (by decide +kernel)) rfl
theorem k2 : Cond.initialized RX2 ∈ GW := gw_of (tb 2 (by decide +kernel)) rfl
theorem k3 : Cond.initialized RX1 ∈ GW := gw_of (tb 3 (by decide +kernel)) rfl
theorem k4 : Cond.initialized RX0 ∈ GW := gw_of (tb 4 (by decide +kernel)) rfl
theorem k5 : Cond.initialized RX3 ∈ GW := gw_of (tb 5 (by decide +kernel)) rfl
theorem k6 : Cond.initialized RX5 ∈ GW := gw_of (tb 6 (by decide +kernel)) rfl
theorem k7 : Cond.initialized RJ10 ∈ GW := gw_of (tb 7 (by decide +kernel)) rfl
theorem k8 : Cond.initialized RJ6 ∈ GW := gw_of (tb 8 (by decide +kernel)) rfl
theorem k9 : Cond.classLink RL 7 RX4 ∈ GW := gw_of (tb 9 (by decide +kernel)) rfl
theorem k10 : Cond.instantiable RX4 7 ∈ GW := gw_of (tb 10 (by decide +kernel)) rfl
theorem k11 : Cond.methodLink RL 9 yX4_init ∈ GW := gw_of (tb 11 (by decide +kernel)) rfl
theorem k12 : Cond.instanceMethod yX4_init ∈ GW := gw_of (tb 12 (by decide +kernel)) rfl
theorem k13 : Cond.code yX4_init cX4_init 2 (none) ∈ GW := gw_of (tb 13 (by decide +kernel)) rfl
theorem k14 : Cond.methodLink RX4 1 objectInit ∈ GW := gw_of (tb 14 (by decide +kernel)) rfl
theorem k15 : Cond.instanceMethod objectInit ∈ GW := gw_of (tb 15 (by decide +kernel)) rfl
theorem k16 : Cond.code objectInit object_method_1_code 1 (none) ∈ GW := gw_of (tb 16 (by decide +kernel)) rfl
theorem k17 : Cond.classLink RX4 7 RX2 ∈ GW := gw_of (tb 17 (by decide +kernel)) rfl
theorem k18 : Cond.instantiable RX2 17 ∈ GW := gw_of (tb 18 (by decide +kernel)) rfl
theorem k19 : Cond.methodLinkNest RX4 9 yX2_init "PledgeTips" ∈ lw_tbl := tb 19 (by decide +kernel)
theorem k20 : Cond.instanceMethod yX2_init ∈ GW := gw_of (tb 20 (by decide +kernel)) rfl
theorem k21 : Cond.code yX2_init cX2_init 1 (none) ∈ GW := gw_of (tb 21 (by decide +kernel)) rfl
theorem k22 : Cond.methodLink RX2 3 objectInit ∈ GW := gw_of (tb 22 (by decide +kernel)) rfl
theorem k23 : Cond.fieldLink RX2 39 "PledgeTips$Place" "projects" "I" ∈ GW := gw_of (tb 23 (by decide +kernel)) rfl
theorem k24 : Cond.fieldLinkNest RX0 19 "PledgeTips$Place" "projects" "I" "PledgeTips" ∈ lw_tbl := tb 24 (by decide +kernel)
theorem k25 : Cond.fieldLinkNest RX4 183 "PledgeTips$Place" "projects" "I" "PledgeTips" ∈ lw_tbl := tb 25 (by decide +kernel)
theorem k26 : Cond.fieldLink RX2 9 "PledgeTips$Place" "goal" "[I" ∈ GW := gw_of (tb 26 (by decide +kernel)) rfl
theorem k27 : Cond.fieldLinkNest RX0 25 "PledgeTips$Place" "goal" "[I" "PledgeTips" ∈ lw_tbl := tb 27 (by decide +kernel)
theorem k28 : Cond.fieldLinkNest RX1 43 "PledgeTips$Place" "goal" "[I" "PledgeTips" ∈ lw_tbl := tb 28 (by decide +kernel)
theorem k29 : Cond.fieldLinkNest RX4 115 "PledgeTips$Place" "goal" "[I" "PledgeTips" ∈ lw_tbl := tb 29 (by decide +kernel)
theorem k30 : Cond.fieldLink RX2 43 "PledgeTips$Place" "closed" "I" ∈ GW := gw_of (tb 30 (by decide +kernel)) rfl
theorem k31 : Cond.fieldLinkNest RX0 105 "PledgeTips$Place" "closed" "I" "PledgeTips" ∈ lw_tbl := tb 31 (by decide +kernel)
theorem k32 : Cond.fieldLinkNest RX4 124 "PledgeTips$Place" "closed" "I" "PledgeTips" ∈ lw_tbl := tb 32 (by decide +kernel)
theorem k33 : Cond.fieldLink RX2 46 "PledgeTips$Place" "persons" "I" ∈ GW := gw_of (tb 33 (by decide +kernel)) rfl
theorem k34 : Cond.fieldLinkNest RX0 29 "PledgeTips$Place" "persons" "I" "PledgeTips" ∈ lw_tbl := tb 34 (by decide +kernel)
theorem k35 : Cond.fieldLinkNest RX4 186 "PledgeTips$Place" "persons" "I" "PledgeTips" ∈ lw_tbl := tb 35 (by decide +kernel)
theorem k36 : Cond.fieldLink RX2 15 "PledgeTips$Place" "purse" "[I" ∈ GW := gw_of (tb 36 (by decide +kernel)) rfl
theorem k37 : Cond.fieldLinkNest RX0 32 "PledgeTips$Place" "purse" "[I" "PledgeTips" ∈ lw_tbl := tb 37 (by decide +kernel)
theorem k38 : Cond.fieldLinkNest RX4 145 "PledgeTips$Place" "purse" "[I" "PledgeTips" ∈ lw_tbl := tb 38 (by decide +kernel)
theorem k39 : Cond.fieldLink RX2 18 "PledgeTips$Place" "paid" "[I" ∈ GW := gw_of (tb 39 (by decide +kernel)) rfl
theorem k40 : Cond.fieldLinkNest RX0 102 "PledgeTips$Place" "paid" "[I" "PledgeTips" ∈ lw_tbl := tb 40 (by decide +kernel)
theorem k41 : Cond.fieldLinkNest RX4 151 "PledgeTips$Place" "paid" "[I" "PledgeTips" ∈ lw_tbl := tb 41 (by decide +kernel)
theorem k42 : Cond.fieldLink RX2 49 "PledgeTips$Place" "open" "I" ∈ GW := gw_of (tb 42 (by decide +kernel)) rfl
theorem k43 : Cond.fieldLinkNest RX0 50 "PledgeTips$Place" "open" "I" "PledgeTips" ∈ lw_tbl := tb 43 (by decide +kernel)
theorem k44 : Cond.fieldLinkNest RX1 62 "PledgeTips$Place" "open" "I" "PledgeTips" ∈ lw_tbl := tb 44 (by decide +kernel)
theorem k45 : Cond.fieldLinkNest RX4 148 "PledgeTips$Place" "open" "I" "PledgeTips" ∈ lw_tbl := tb 45 (by decide +kernel)
theorem k46 : Cond.fieldLink RX2 52 "PledgeTips$Place" "called" "I" ∈ GW := gw_of (tb 46 (by decide +kernel)) rfl
theorem k47 : Cond.fieldLinkNest RX0 87 "PledgeTips$Place" "called" "I" "PledgeTips" ∈ lw_tbl := tb 47 (by decide +kernel)
theorem k48 : Cond.fieldLinkNest RX1 65 "PledgeTips$Place" "called" "I" "PledgeTips" ∈ lw_tbl := tb 48 (by decide +kernel)
theorem k49 : Cond.fieldLinkNest RX4 92 "PledgeTips$Place" "called" "I" "PledgeTips" ∈ lw_tbl := tb 49 (by decide +kernel)
theorem k50 : Cond.fieldLink RX2 21 "PledgeTips$Place" "giver" "[I" ∈ GW := gw_of (tb 50 (by decide +kernel)) rfl
theorem k51 : Cond.fieldLinkNest RX1 34 "PledgeTips$Place" "giver" "[I" "PledgeTips" ∈ lw_tbl := tb 51 (by decide +kernel)
theorem k52 : Cond.fieldLinkNest RX0 63 "PledgeTips$Place" "giver" "[I" "PledgeTips" ∈ lw_tbl := tb 52 (by decide +kernel)
theorem k53 : Cond.fieldLinkNest RX4 76 "PledgeTips$Place" "giver" "[I" "PledgeTips" ∈ lw_tbl := tb 53 (by decide +kernel)
theorem k54 : Cond.fieldLink RX2 24 "PledgeTips$Place" "target" "[I" ∈ GW := gw_of (tb 54 (by decide +kernel)) rfl
theorem k55 : Cond.fieldLinkNest RX1 28 "PledgeTips$Place" "target" "[I" "PledgeTips" ∈ lw_tbl := tb 55 (by decide +kernel)
theorem k56 : Cond.fieldLinkNest RX0 66 "PledgeTips$Place" "target" "[I" "PledgeTips" ∈ lw_tbl := tb 56 (by decide +kernel)
theorem k57 : Cond.fieldLinkNest RX4 80 "PledgeTips$Place" "target" "[I" "PledgeTips" ∈ lw_tbl := tb 57 (by decide +kernel)
theorem k58 : Cond.fieldLink RX2 27 "PledgeTips$Place" "amount" "[I" ∈ GW := gw_of (tb 58 (by decide +kernel)) rfl
theorem k59 : Cond.fieldLinkNest RX1 31 "PledgeTips$Place" "amount" "[I" "PledgeTips" ∈ lw_tbl := tb 59 (by decide +kernel)
theorem k60 : Cond.fieldLinkNest RX0 69 "PledgeTips$Place" "amount" "[I" "PledgeTips" ∈ lw_tbl := tb 60 (by decide +kernel)
theorem k61 : Cond.fieldLinkNest RX4 83 "PledgeTips$Place" "amount" "[I" "PledgeTips" ∈ lw_tbl := tb 61 (by decide +kernel)
theorem k62 : Cond.fieldLink RX2 30 "PledgeTips$Place" "kind" "[I" ∈ GW := gw_of (tb 62 (by decide +kernel)) rfl
theorem k63 : Cond.fieldLinkNest RX1 37 "PledgeTips$Place" "kind" "[I" "PledgeTips" ∈ lw_tbl := tb 63 (by decide +kernel)
theorem k64 : Cond.fieldLinkNest RX0 72 "PledgeTips$Place" "kind" "[I" "PledgeTips" ∈ lw_tbl := tb 64 (by decide +kernel)
theorem k65 : Cond.fieldLinkNest RX4 86 "PledgeTips$Place" "kind" "[I" "PledgeTips" ∈ lw_tbl := tb 65 (by decide +kernel)
theorem k66 : Cond.fieldLink RX2 33 "PledgeTips$Place" "value" "[I" ∈ GW := gw_of (tb 66 (by decide +kernel)) rfl
theorem k67 : Cond.fieldLinkNest RX1 40 "PledgeTips$Place" "value" "[I" "PledgeTips" ∈ lw_tbl := tb 67 (by decide +kernel)
theorem k68 : Cond.fieldLinkNest RX0 75 "PledgeTips$Place" "value" "[I" "PledgeTips" ∈ lw_tbl := tb 68 (by decide +kernel)
theorem k69 : Cond.fieldLinkNest RX4 89 "PledgeTips$Place" "value" "[I" "PledgeTips" ∈ lw_tbl := tb 69 (by decide +kernel)
theorem k70 : Cond.fieldLink RX2 36 "PledgeTips$Place" "turn" "[I" ∈ GW := gw_of (tb 70 (by decide +kernel)) rfl
theorem k71 : Cond.fieldLinkNest RX0 78 "PledgeTips$Place" "turn" "[I" "PledgeTips" ∈ lw_tbl := tb 71 (by decide +kernel)
theorem k72 : Cond.fieldLinkNest RX4 103 "PledgeTips$Place" "turn" "[I" "PledgeTips" ∈ lw_tbl := tb 72 (by decide +kernel)
theorem k73 : Cond.fieldLinkNest RX1 97 "PledgeTips$Place" "turn" "[I" "PledgeTips" ∈ lw_tbl := tb 73 (by decide +kernel)
theorem k74 : Cond.fieldLink RX2 55 "PledgeTips$Place" "made" "I" ∈ GW := gw_of (tb 74 (by decide +kernel)) rfl
theorem k75 : Cond.fieldLinkNest RX0 81 "PledgeTips$Place" "made" "I" "PledgeTips" ∈ lw_tbl := tb 75 (by decide +kernel)
theorem k76 : Cond.fieldLinkNest RX4 201 "PledgeTips$Place" "made" "I" "PledgeTips" ∈ lw_tbl := tb 76 (by decide +kernel)
theorem k77 : Cond.fieldLinkNest RX1 91 "PledgeTips$Place" "made" "I" "PledgeTips" ∈ lw_tbl := tb 77 (by decide +kernel)
theorem k78 : Cond.fieldLink RX2 58 "PledgeTips$Place" "withdrawn" "I" ∈ GW := gw_of (tb 78 (by decide +kernel)) rfl
theorem k79 : Cond.fieldLinkNest RX0 96 "PledgeTips$Place" "withdrawn" "I" "PledgeTips" ∈ lw_tbl := tb 79 (by decide +kernel)
theorem k80 : Cond.fieldLinkNest RX4 204 "PledgeTips$Place" "withdrawn" "I" "PledgeTips" ∈ lw_tbl := tb 80 (by decide +kernel)
theorem k81 : Cond.fieldLink RX2 61 "PledgeTips$Place" "money" "I" ∈ GW := gw_of (tb 81 (by decide +kernel)) rfl
theorem k82 : Cond.fieldLinkNest RX0 108 "PledgeTips$Place" "money" "I" "PledgeTips" ∈ lw_tbl := tb 82 (by decide +kernel)
theorem k83 : Cond.fieldLinkNest RX4 207 "PledgeTips$Place" "money" "I" "PledgeTips" ∈ lw_tbl := tb 83 (by decide +kernel)
theorem k84 : Cond.lays "PledgeTips$Place" "PledgeTips$Place" "projects" "I" ∈ GW := gw_of (tb 84 (by decide +kernel)) rfl
theorem k86 : Cond.laysFinal "PledgeTips$Place" "PledgeTips$Place" "goal" "[I" ∈ GW := gw_of (tb 86 (by decide +kernel)) rfl
theorem k88 : Cond.lays "PledgeTips$Place" "PledgeTips$Place" "closed" "I" ∈ GW := gw_of (tb 88 (by decide +kernel)) rfl
theorem k90 : Cond.lays "PledgeTips$Place" "PledgeTips$Place" "persons" "I" ∈ GW := gw_of (tb 90 (by decide +kernel)) rfl
theorem k92 : Cond.laysFinal "PledgeTips$Place" "PledgeTips$Place" "purse" "[I" ∈ GW := gw_of (tb 92 (by decide +kernel)) rfl
theorem k94 : Cond.laysFinal "PledgeTips$Place" "PledgeTips$Place" "paid" "[I" ∈ GW := gw_of (tb 94 (by decide +kernel)) rfl
theorem k96 : Cond.lays "PledgeTips$Place" "PledgeTips$Place" "open" "I" ∈ GW := gw_of (tb 96 (by decide +kernel)) rfl
theorem k98 : Cond.lays "PledgeTips$Place" "PledgeTips$Place" "called" "I" ∈ GW := gw_of (tb 98 (by decide +kernel)) rfl
theorem k100 : Cond.laysFinal "PledgeTips$Place" "PledgeTips$Place" "giver" "[I" ∈ GW := gw_of (tb 100 (by decide +kernel)) rfl
theorem k102 : Cond.laysFinal "PledgeTips$Place" "PledgeTips$Place" "target" "[I" ∈ GW := gw_of (tb 102 (by decide +kernel)) rfl
theorem k104 : Cond.laysFinal "PledgeTips$Place" "PledgeTips$Place" "amount" "[I" ∈ GW := gw_of (tb 104 (by decide +kernel)) rfl
theorem k106 : Cond.laysFinal "PledgeTips$Place" "PledgeTips$Place" "kind" "[I" ∈ GW := gw_of (tb 106 (by decide +kernel)) rfl
theorem k108 : Cond.laysFinal "PledgeTips$Place" "PledgeTips$Place" "value" "[I" ∈ GW := gw_of (tb 108 (by decide +kernel)) rfl
theorem k110 : Cond.laysFinal "PledgeTips$Place" "PledgeTips$Place" "turn" "[I" ∈ GW := gw_of (tb 110 (by decide +kernel)) rfl
theorem k112 : Cond.lays "PledgeTips$Place" "PledgeTips$Place" "made" "I" ∈ GW := gw_of (tb 112 (by decide +kernel)) rfl
theorem k114 : Cond.lays "PledgeTips$Place" "PledgeTips$Place" "withdrawn" "I" ∈ GW := gw_of (tb 114 (by decide +kernel)) rfl
theorem k116 : Cond.lays "PledgeTips$Place" "PledgeTips$Place" "money" "I" ∈ GW := gw_of (tb 116 (by decide +kernel)) rfl
theorem k119 : Cond.arrayClass FieldType.int ∈ GW := gw_of (tb 119 (by decide +kernel)) rfl
theorem k120 : Cond.classLink RX4 16 RX1 ∈ GW := gw_of (tb 120 (by decide +kernel)) rfl
theorem k121 : Cond.instantiable RX1 4 ∈ GW := gw_of (tb 121 (by decide +kernel)) rfl
theorem k122 : Cond.methodLinkNest RX4 18 yX1_init "PledgeTips" ∈ lw_tbl := tb 122 (by decide +kernel)
theorem k123 : Cond.instanceMethod yX1_init ∈ GW := gw_of (tb 123 (by decide +kernel)) rfl
theorem k124 : Cond.code yX1_init cX1_init 2 (none) ∈ GW := gw_of (tb 124 (by decide +kernel)) rfl
theorem k125 : Cond.methodLink RX1 3 objectInit ∈ GW := gw_of (tb 125 (by decide +kernel)) rfl
theorem k126 : Cond.fieldLink RX1 18 "PledgeTips$Judge" "place" "LPledgeTips$Place;" ∈ GW := gw_of (tb 126 (by decide +kernel)) rfl
theorem k127 : Cond.fieldLink RX1 9 "PledgeTips$Judge" "sums" "[I" ∈ GW := gw_of (tb 127 (by decide +kernel)) rfl
theorem k128 : Cond.fieldLink RX1 15 "PledgeTips$Judge" "counts" "[I" ∈ GW := gw_of (tb 128 (by decide +kernel)) rfl
theorem k129 : Cond.fieldLink RX1 22 "PledgeTips$Judge" "givers" "I" ∈ GW := gw_of (tb 129 (by decide +kernel)) rfl
theorem k130 : Cond.laysFinal "PledgeTips$Judge" "PledgeTips$Judge" "place" "LPledgeTips$Place;" ∈ GW := gw_of (tb 130 (by decide +kernel)) rfl
theorem k132 : Cond.laysFinal "PledgeTips$Judge" "PledgeTips$Judge" "sums" "[I" ∈ GW := gw_of (tb 132 (by decide +kernel)) rfl
theorem k134 : Cond.laysFinal "PledgeTips$Judge" "PledgeTips$Judge" "counts" "[I" ∈ GW := gw_of (tb 134 (by decide +kernel)) rfl
theorem k136 : Cond.lays "PledgeTips$Judge" "PledgeTips$Judge" "givers" "I" ∈ GW := gw_of (tb 136 (by decide +kernel)) rfl
theorem k139 : Cond.classLink RX4 25 RX0 ∈ GW := gw_of (tb 139 (by decide +kernel)) rfl
theorem k140 : Cond.instantiable RX0 2 ∈ GW := gw_of (tb 140 (by decide +kernel)) rfl
theorem k141 : Cond.methodLinkNest RX4 27 yX0_init "PledgeTips" ∈ lw_tbl := tb 141 (by decide +kernel)
theorem k142 : Cond.instanceMethod yX0_init ∈ GW := gw_of (tb 142 (by decide +kernel)) rfl
theorem k143 : Cond.code yX0_init cX0_init 3 (none) ∈ GW := gw_of (tb 143 (by decide +kernel)) rfl
theorem k144 : Cond.methodLink RX0 3 objectInit ∈ GW := gw_of (tb 144 (by decide +kernel)) rfl
theorem k145 : Cond.fieldLink RX0 9 "PledgeTips$Clerk" "place" "LPledgeTips$Place;" ∈ GW := gw_of (tb 145 (by decide +kernel)) rfl
theorem k146 : Cond.fieldLink RX0 15 "PledgeTips$Clerk" "judge" "LPledgeTips$Judge;" ∈ GW := gw_of (tb 146 (by decide +kernel)) rfl
theorem k147 : Cond.laysFinal "PledgeTips$Clerk" "PledgeTips$Clerk" "place" "LPledgeTips$Place;" ∈ GW := gw_of (tb 147 (by decide +kernel)) rfl
theorem k149 : Cond.laysFinal "PledgeTips$Clerk" "PledgeTips$Clerk" "judge" "LPledgeTips$Judge;" ∈ GW := gw_of (tb 149 (by decide +kernel)) rfl
theorem k152 : Cond.classLink RX4 34 RX3 ∈ GW := gw_of (tb 152 (by decide +kernel)) rfl
theorem k153 : Cond.instantiable RX3 9 ∈ GW := gw_of (tb 153 (by decide +kernel)) rfl
theorem k154 : Cond.methodLinkNest RX4 36 yX3_init "PledgeTips" ∈ lw_tbl := tb 154 (by decide +kernel)
theorem k155 : Cond.instanceMethod yX3_init ∈ GW := gw_of (tb 155 (by decide +kernel)) rfl
theorem k156 : Cond.code yX3_init cX3_init 1 (none) ∈ GW := gw_of (tb 156 (by decide +kernel)) rfl
theorem k157 : Cond.methodLink RX3 3 objectInit ∈ GW := gw_of (tb 157 (by decide +kernel)) rfl
theorem k158 : Cond.classLink RX3 19 RX2 ∈ GW := gw_of (tb 158 (by decide +kernel)) rfl
theorem k159 : Cond.methodLinkNest RX3 21 yX2_init "PledgeTips" ∈ lw_tbl := tb 159 (by decide +kernel)
theorem k160 : Cond.classLink RX3 26 RX0 ∈ GW := gw_of (tb 160 (by decide +kernel)) rfl
theorem k161 : Cond.classLink RX3 28 RX1 ∈ GW := gw_of (tb 161 (by decide +kernel)) rfl
theorem k162 : Cond.methodLinkNest RX3 30 yX1_init "PledgeTips" ∈ lw_tbl := tb 162 (by decide +kernel)
theorem k163 : Cond.methodLinkNest RX3 33 yX0_init "PledgeTips" ∈ lw_tbl := tb 163 (by decide +kernel)
theorem k164 : Cond.fieldLink RX3 9 "PledgeTips$Script" "text" "[C" ∈ GW := gw_of (tb 164 (by decide +kernel)) rfl
theorem k165 : Cond.fieldLink RX3 40 "PledgeTips$Script" "length" "I" ∈ GW := gw_of (tb 165 (by decide +kernel)) rfl
theorem k166 : Cond.fieldLinkNest RX4 213 "PledgeTips$Script" "length" "I" "PledgeTips" ∈ lw_tbl := tb 166 (by decide +kernel)
theorem k167 : Cond.fieldLink RX3 15 "PledgeTips$Script" "numbers" "[I" ∈ GW := gw_of (tb 167 (by decide +kernel)) rfl
theorem k168 : Cond.fieldLink RX3 22 "PledgeTips$Script" "outcome" "LPledgeTips$Place;" ∈ GW := gw_of (tb 168 (by decide +kernel)) rfl
theorem k169 : Cond.fieldLinkNest RX4 242 "PledgeTips$Script" "outcome" "LPledgeTips$Place;" "PledgeTips" ∈ lw_tbl := tb 169 (by decide +kernel)
theorem k170 : Cond.fieldLink RX3 36 "PledgeTips$Script" "clerk" "LPledgeTips$Clerk;" ∈ GW := gw_of (tb 170 (by decide +kernel)) rfl
theorem k171 : Cond.fieldLink RX3 50 "PledgeTips$Script" "commands" "I" ∈ GW := gw_of (tb 171 (by decide +kernel)) rfl
theorem k172 : Cond.fieldLinkNest RX4 245 "PledgeTips$Script" "commands" "I" "PledgeTips" ∈ lw_tbl := tb 172 (by decide +kernel)
theorem k173 : Cond.fieldLink RX3 69 "PledgeTips$Script" "faultPosition" "I" ∈ GW := gw_of (tb 173 (by decide +kernel)) rfl
theorem k174 : Cond.fieldLinkNest RX4 229 "PledgeTips$Script" "faultPosition" "I" "PledgeTips" ∈ lw_tbl := tb 174 (by decide +kernel)
theorem k175 : Cond.fieldLink RX3 44 "PledgeTips$Script" "faultReason" "I" ∈ GW := gw_of (tb 175 (by decide +kernel)) rfl
theorem k176 : Cond.fieldLinkNest RX4 232 "PledgeTips$Script" "faultReason" "I" "PledgeTips" ∈ lw_tbl := tb 176 (by decide +kernel)
theorem k177 : Cond.fieldLink RX3 72 "PledgeTips$Script" "faultCause" "I" ∈ GW := gw_of (tb 177 (by decide +kernel)) rfl
theorem k178 : Cond.fieldLinkNest RX4 235 "PledgeTips$Script" "faultCause" "I" "PledgeTips" ∈ lw_tbl := tb 178 (by decide +kernel)
theorem k179 : Cond.laysFinal "PledgeTips$Script" "PledgeTips$Script" "text" "[C" ∈ GW := gw_of (tb 179 (by decide +kernel)) rfl
theorem k181 : Cond.lays "PledgeTips$Script" "PledgeTips$Script" "length" "I" ∈ GW := gw_of (tb 181 (by decide +kernel)) rfl
theorem k183 : Cond.laysFinal "PledgeTips$Script" "PledgeTips$Script" "numbers" "[I" ∈ GW := gw_of (tb 183 (by decide +kernel)) rfl
theorem k185 : Cond.laysFinal "PledgeTips$Script" "PledgeTips$Script" "outcome" "LPledgeTips$Place;" ∈ GW := gw_of (tb 185 (by decide +kernel)) rfl
theorem k187 : Cond.laysFinal "PledgeTips$Script" "PledgeTips$Script" "clerk" "LPledgeTips$Clerk;" ∈ GW := gw_of (tb 187 (by decide +kernel)) rfl
theorem k189 : Cond.lays "PledgeTips$Script" "PledgeTips$Script" "commands" "I" ∈ GW := gw_of (tb 189 (by decide +kernel)) rfl
theorem k191 : Cond.lays "PledgeTips$Script" "PledgeTips$Script" "faultPosition" "I" ∈ GW := gw_of (tb 191 (by decide +kernel)) rfl
theorem k193 : Cond.lays "PledgeTips$Script" "PledgeTips$Script" "faultReason" "I" ∈ GW := gw_of (tb 193 (by decide +kernel)) rfl
theorem k195 : Cond.lays "PledgeTips$Script" "PledgeTips$Script" "faultCause" "I" ∈ GW := gw_of (tb 195 (by decide +kernel)) rfl
theorem k198 : Cond.arrayClass FieldType.char ∈ GW := gw_of (tb 198 (by decide +kernel)) rfl
theorem k199 : Cond.arrayOver (FieldType.object "PledgeTips$Place") ∈ lw_tbl := tb 199 (by decide +kernel)
theorem k200 : Cond.fieldLink RX4 10 "PledgeTips" "now" "LPledgeTips$Place;" ∈ GW := gw_of (tb 200 (by decide +kernel)) rfl
theorem k201 : Cond.fieldLink RX4 21 "PledgeTips" "judge" "LPledgeTips$Judge;" ∈ GW := gw_of (tb 201 (by decide +kernel)) rfl
theorem k202 : Cond.fieldLink RX4 30 "PledgeTips" "clerk" "LPledgeTips$Clerk;" ∈ GW := gw_of (tb 202 (by decide +kernel)) rfl
theorem k203 : Cond.fieldLink RX4 37 "PledgeTips" "script" "LPledgeTips$Script;" ∈ GW := gw_of (tb 203 (by decide +kernel)) rfl
theorem k204 : Cond.fieldLink RX4 41 "PledgeTips" "history" "[LPledgeTips$Place;" ∈ GW := gw_of (tb 204 (by decide +kernel)) rfl
theorem k205 : Cond.fieldLink RX4 210 "PledgeTips" "states" "I" ∈ GW := gw_of (tb 205 (by decide +kernel)) rfl
theorem k206 : Cond.fieldLink RX4 45 "PledgeTips" "keys" "[J" ∈ GW := gw_of (tb 206 (by decide +kernel)) rfl
theorem k207 : Cond.laysFinal "PledgeTips" "PledgeTips" "now" "LPledgeTips$Place;" ∈ GW := gw_of (tb 207 (by decide +kernel)) rfl
theorem k209 : Cond.laysFinal "PledgeTips" "PledgeTips" "judge" "LPledgeTips$Judge;" ∈ GW := gw_of (tb 209 (by decide +kernel)) rfl
theorem k211 : Cond.laysFinal "PledgeTips" "PledgeTips" "clerk" "LPledgeTips$Clerk;" ∈ GW := gw_of (tb 211 (by decide +kernel)) rfl
theorem k213 : Cond.laysFinal "PledgeTips" "PledgeTips" "script" "LPledgeTips$Script;" ∈ GW := gw_of (tb 213 (by decide +kernel)) rfl
theorem k215 : Cond.laysFinal "PledgeTips" "PledgeTips" "history" "[LPledgeTips$Place;" ∈ GW := gw_of (tb 215 (by decide +kernel)) rfl
theorem k217 : Cond.lays "PledgeTips" "PledgeTips" "states" "I" ∈ GW := gw_of (tb 217 (by decide +kernel)) rfl
theorem k219 : Cond.laysFinal "PledgeTips" "PledgeTips" "keys" "[J" ∈ GW := gw_of (tb 219 (by decide +kernel)) rfl
theorem k222 : Cond.arrayClass FieldType.long ∈ GW := gw_of (tb 222 (by decide +kernel)) rfl
theorem k223 : Cond.methodLink RL 13 yX4_project ∈ GW := gw_of (tb 223 (by decide +kernel)) rfl
theorem k224 : Cond.instanceMethod yX4_project ∈ GW := gw_of (tb 224 (by decide +kernel)) rfl
theorem k225 : Cond.selects RX4 yX4_project yX4_project ∈ GW := gw_of (tb 225 (by decide +kernel)) rfl
theorem k226 : Cond.code yX4_project cX4_project 2 (some FieldType.int) ∈ GW := gw_of (tb 226 (by decide +kernel)) rfl
theorem k227 : Cond.methodLink RX4 49 yX4_keepState ∈ GW := gw_of (tb 227 (by decide +kernel)) rfl
theorem k229 : Cond.instanceMethod yX4_keepState ∈ GW := gw_of (tb 229 (by decide +kernel)) rfl
theorem k230 : Cond.code yX4_keepState cX4_keepState 1 (none) ∈ GW := gw_of (tb 230 (by decide +kernel)) rfl
theorem k231 : Cond.methodLinkNest RX4 216 yX2_copyFrom "PledgeTips" ∈ lw_tbl := tb 231 (by decide +kernel)
theorem k233 : Cond.instanceMethod yX2_copyFrom ∈ GW := gw_of (tb 233 (by decide +kernel)) rfl
theorem k234 : Cond.code yX2_copyFrom cX2_copyFrom 2 (none) ∈ GW := gw_of (tb 234 (by decide +kernel)) rfl
theorem k235 : Cond.methodLink RX2 64 arraycopyName ∈ GW := gw_of (tb 235 (by decide +kernel)) rfl
theorem k236 : Cond.static arraycopyName ∈ GW := gw_of (tb 236 (by decide +kernel)) rfl
theorem k237 : Cond.native arraycopyName ∈ GW := gw_of (tb 237 (by decide +kernel)) rfl
theorem k238 : Cond.methodLinkNest RX4 52 yX0_addProject "PledgeTips" ∈ lw_tbl := tb 238 (by decide +kernel)
theorem k240 : Cond.instanceMethod yX0_addProject ∈ GW := gw_of (tb 240 (by decide +kernel)) rfl
theorem k241 : Cond.code yX0_addProject cX0_addProject 3 (some FieldType.int) ∈ GW := gw_of (tb 241 (by decide +kernel)) rfl
theorem k242 : Cond.methodLink RX4 56 yX4_settle ∈ GW := gw_of (tb 242 (by decide +kernel)) rfl
theorem k244 : Cond.instanceMethod yX4_settle ∈ GW := gw_of (tb 244 (by decide +kernel)) rfl
theorem k245 : Cond.code yX4_settle cX4_settle 2 (some FieldType.int) ∈ GW := gw_of (tb 245 (by decide +kernel)) rfl
theorem k246 : Cond.methodLink RX4 248 yX4_dropOldest ∈ GW := gw_of (tb 246 (by decide +kernel)) rfl
theorem k248 : Cond.instanceMethod yX4_dropOldest ∈ GW := gw_of (tb 248 (by decide +kernel)) rfl
theorem k249 : Cond.code yX4_dropOldest cX4_dropOldest 3 (none) ∈ GW := gw_of (tb 249 (by decide +kernel)) rfl
theorem k250 : Cond.methodLink RL 18 yX4_person ∈ GW := gw_of (tb 250 (by decide +kernel)) rfl
theorem k251 : Cond.instanceMethod yX4_person ∈ GW := gw_of (tb 251 (by decide +kernel)) rfl
theorem k252 : Cond.selects RX4 yX4_person yX4_person ∈ GW := gw_of (tb 252 (by decide +kernel)) rfl
theorem k253 : Cond.code yX4_person cX4_person 2 (some FieldType.int) ∈ GW := gw_of (tb 253 (by decide +kernel)) rfl
theorem k254 : Cond.methodLinkNest RX4 59 yX0_addPerson "PledgeTips" ∈ lw_tbl := tb 254 (by decide +kernel)
theorem k256 : Cond.instanceMethod yX0_addPerson ∈ GW := gw_of (tb 256 (by decide +kernel)) rfl
theorem k257 : Cond.code yX0_addPerson cX0_addPerson 3 (some FieldType.int) ∈ GW := gw_of (tb 257 (by decide +kernel)) rfl
theorem k258 : Cond.methodLink RL 22 yX4_pledge ∈ GW := gw_of (tb 258 (by decide +kernel)) rfl
theorem k259 : Cond.instanceMethod yX4_pledge ∈ GW := gw_of (tb 259 (by decide +kernel)) rfl
theorem k260 : Cond.selects RX4 yX4_pledge yX4_pledge ∈ GW := gw_of (tb 260 (by decide +kernel)) rfl
theorem k261 : Cond.code yX4_pledge cX4_pledge 6 (some FieldType.int) ∈ GW := gw_of (tb 261 (by decide +kernel)) rfl
theorem k262 : Cond.methodLinkNest RX4 62 yX0_makePledge "PledgeTips" ∈ lw_tbl := tb 262 (by decide +kernel)
theorem k264 : Cond.instanceMethod yX0_makePledge ∈ GW := gw_of (tb 264 (by decide +kernel)) rfl
theorem k265 : Cond.code yX0_makePledge cX0_makePledge 8 (some FieldType.int) ∈ GW := gw_of (tb 265 (by decide +kernel)) rfl
theorem k266 : Cond.methodLinkNest RX0 35 yX2_hasPerson "PledgeTips" ∈ lw_tbl := tb 266 (by decide +kernel)
theorem k268 : Cond.instanceMethod yX2_hasPerson ∈ GW := gw_of (tb 268 (by decide +kernel)) rfl
theorem k269 : Cond.code yX2_hasPerson cX2_hasPerson 2 (some FieldType.boolean) ∈ GW := gw_of (tb 269 (by decide +kernel)) rfl
theorem k270 : Cond.methodLinkNest RX0 39 yX2_hasProject "PledgeTips" ∈ lw_tbl := tb 270 (by decide +kernel)
theorem k272 : Cond.instanceMethod yX2_hasProject ∈ GW := gw_of (tb 272 (by decide +kernel)) rfl
theorem k273 : Cond.code yX2_hasProject cX2_hasProject 2 (some FieldType.boolean) ∈ GW := gw_of (tb 273 (by decide +kernel)) rfl
theorem k274 : Cond.methodLink RX0 42 yX0_isCondition ∈ GW := gw_of (tb 274 (by decide +kernel)) rfl
theorem k276 : Cond.instanceMethod yX0_isCondition ∈ GW := gw_of (tb 276 (by decide +kernel)) rfl
theorem k277 : Cond.code yX0_isCondition cX0_isCondition 5 (some FieldType.boolean) ∈ GW := gw_of (tb 277 (by decide +kernel)) rfl
theorem k278 : Cond.methodLinkNest RX0 46 yX2_pledgesOf "PledgeTips" ∈ lw_tbl := tb 278 (by decide +kernel)
theorem k280 : Cond.instanceMethod yX2_pledgesOf ∈ GW := gw_of (tb 280 (by decide +kernel)) rfl
theorem k281 : Cond.code yX2_pledgesOf cX2_pledgesOf 4 (some FieldType.int) ∈ GW := gw_of (tb 281 (by decide +kernel)) rfl
theorem k282 : Cond.methodLink RX2 70 yX2_pledges ∈ GW := gw_of (tb 282 (by decide +kernel)) rfl
theorem k284 : Cond.instanceMethod yX2_pledges ∈ GW := gw_of (tb 284 (by decide +kernel)) rfl
theorem k285 : Cond.code yX2_pledges cX2_pledges 1 (some FieldType.int) ∈ GW := gw_of (tb 285 (by decide +kernel)) rfl
theorem k286 : Cond.methodLinkNest RX0 53 yX2_sum "PledgeTips" ∈ lw_tbl := tb 286 (by decide +kernel)
theorem k288 : Cond.instanceMethod yX2_sum ∈ GW := gw_of (tb 288 (by decide +kernel)) rfl
theorem k289 : Cond.code yX2_sum cX2_sum 4 (some FieldType.int) ∈ GW := gw_of (tb 289 (by decide +kernel)) rfl
theorem k290 : Cond.methodLinkNest RX0 56 yX2_isClosed "PledgeTips" ∈ lw_tbl := tb 290 (by decide +kernel)
theorem k292 : Cond.instanceMethod yX2_isClosed ∈ GW := gw_of (tb 292 (by decide +kernel)) rfl
theorem k293 : Cond.code yX2_isClosed cX2_isClosed 2 (some FieldType.boolean) ∈ GW := gw_of (tb 293 (by decide +kernel)) rfl
theorem k294 : Cond.methodLinkNest RX0 59 yX2_lowestFreeNumber "PledgeTips" ∈ lw_tbl := tb 294 (by decide +kernel)
theorem k296 : Cond.instanceMethod yX2_lowestFreeNumber ∈ GW := gw_of (tb 296 (by decide +kernel)) rfl
theorem k297 : Cond.code yX2_lowestFreeNumber cX2_lowestFreeNumber 2 (some FieldType.int) ∈ GW := gw_of (tb 297 (by decide +kernel)) rfl
theorem k298 : Cond.methodLink RX2 74 yX2_hasPledge ∈ GW := gw_of (tb 298 (by decide +kernel)) rfl
theorem k300 : Cond.instanceMethod yX2_hasPledge ∈ GW := gw_of (tb 300 (by decide +kernel)) rfl
theorem k301 : Cond.code yX2_hasPledge cX2_hasPledge 2 (some FieldType.boolean) ∈ GW := gw_of (tb 301 (by decide +kernel)) rfl
theorem k302 : Cond.methodLink RL 27 yX4_withdraw ∈ GW := gw_of (tb 302 (by decide +kernel)) rfl
theorem k303 : Cond.instanceMethod yX4_withdraw ∈ GW := gw_of (tb 303 (by decide +kernel)) rfl
theorem k304 : Cond.selects RX4 yX4_withdraw yX4_withdraw ∈ GW := gw_of (tb 304 (by decide +kernel)) rfl
theorem k305 : Cond.code yX4_withdraw cX4_withdraw 2 (some FieldType.int) ∈ GW := gw_of (tb 305 (by decide +kernel)) rfl
theorem k306 : Cond.methodLinkNest RX4 66 yX0_takeBack "PledgeTips" ∈ lw_tbl := tb 306 (by decide +kernel)
theorem k308 : Cond.instanceMethod yX0_takeBack ∈ GW := gw_of (tb 308 (by decide +kernel)) rfl
theorem k309 : Cond.code yX0_takeBack cX0_takeBack 4 (some FieldType.int) ∈ GW := gw_of (tb 309 (by decide +kernel)) rfl
theorem k310 : Cond.methodLinkNest RX0 84 yX2_hasPledge "PledgeTips" ∈ lw_tbl := tb 310 (by decide +kernel)
theorem k311 : Cond.methodLinkNest RX0 90 yX1_greatest "PledgeTips" ∈ lw_tbl := tb 311 (by decide +kernel)
theorem k313 : Cond.instanceMethod yX1_greatest ∈ GW := gw_of (tb 313 (by decide +kernel)) rfl
theorem k314 : Cond.code yX1_greatest cX1_greatest 6 (some FieldType.int) ∈ GW := gw_of (tb 314 (by decide +kernel)) rfl
theorem k315 : Cond.methodLink RX1 54 yX1_failing ∈ GW := gw_of (tb 315 (by decide +kernel)) rfl
theorem k317 : Cond.instanceMethod yX1_failing ∈ GW := gw_of (tb 317 (by decide +kernel)) rfl
theorem k318 : Cond.code yX1_failing cX1_failing 5 (some FieldType.int) ∈ GW := gw_of (tb 318 (by decide +kernel)) rfl
theorem k319 : Cond.methodLink RX1 46 yX1_gather ∈ GW := gw_of (tb 319 (by decide +kernel)) rfl
theorem k321 : Cond.instanceMethod yX1_gather ∈ GW := gw_of (tb 321 (by decide +kernel)) rfl
theorem k322 : Cond.code yX1_gather cX1_gather 4 (none) ∈ GW := gw_of (tb 322 (by decide +kernel)) rfl
theorem k323 : Cond.methodLink RX1 50 yX1_holds ∈ GW := gw_of (tb 323 (by decide +kernel)) rfl
theorem k325 : Cond.instanceMethod yX1_holds ∈ GW := gw_of (tb 325 (by decide +kernel)) rfl
theorem k326 : Cond.code yX1_holds cX1_holds 5 (some FieldType.boolean) ∈ GW := gw_of (tb 326 (by decide +kernel)) rfl
theorem k327 : Cond.methodLink RL 31 yX4_callIn ∈ GW := gw_of (tb 327 (by decide +kernel)) rfl
theorem k328 : Cond.instanceMethod yX4_callIn ∈ GW := gw_of (tb 328 (by decide +kernel)) rfl
theorem k329 : Cond.selects RX4 yX4_callIn yX4_callIn ∈ GW := gw_of (tb 329 (by decide +kernel)) rfl
theorem k330 : Cond.code yX4_callIn cX4_callIn 2 (some FieldType.int) ∈ GW := gw_of (tb 330 (by decide +kernel)) rfl
theorem k331 : Cond.methodLinkNest RX4 69 yX0_collect "PledgeTips" ∈ lw_tbl := tb 331 (by decide +kernel)
theorem k333 : Cond.instanceMethod yX0_collect ∈ GW := gw_of (tb 333 (by decide +kernel)) rfl
theorem k334 : Cond.code yX0_collect cX0_collect 7 (some FieldType.int) ∈ GW := gw_of (tb 334 (by decide +kernel)) rfl
theorem k335 : Cond.methodLinkNest RX0 99 yX2_pledgesFor "PledgeTips" ∈ lw_tbl := tb 335 (by decide +kernel)
theorem k337 : Cond.instanceMethod yX2_pledgesFor ∈ GW := gw_of (tb 337 (by decide +kernel)) rfl
theorem k338 : Cond.code yX2_pledgesFor cX2_pledgesFor 4 (some FieldType.int) ∈ GW := gw_of (tb 338 (by decide +kernel)) rfl
theorem k339 : Cond.methodLink RL 35 yX4_pledgeOf ∈ GW := gw_of (tb 339 (by decide +kernel)) rfl
theorem k340 : Cond.instanceMethod yX4_pledgeOf ∈ GW := gw_of (tb 340 (by decide +kernel)) rfl
theorem k341 : Cond.selects RX4 yX4_pledgeOf yX4_pledgeOf ∈ GW := gw_of (tb 341 (by decide +kernel)) rfl
theorem k342 : Cond.code yX4_pledgeOf cX4_pledgeOf 3 (some FieldType.int) ∈ GW := gw_of (tb 342 (by decide +kernel)) rfl
theorem k343 : Cond.methodLinkNest RX4 72 yX2_hasPledge "PledgeTips" ∈ lw_tbl := tb 343 (by decide +kernel)
theorem k344 : Cond.methodLinkNest RX4 96 yX1_stand "PledgeTips" ∈ lw_tbl := tb 344 (by decide +kernel)
theorem k346 : Cond.instanceMethod yX1_stand ∈ GW := gw_of (tb 346 (by decide +kernel)) rfl
theorem k347 : Cond.code yX1_stand cX1_stand 1 (some FieldType.int) ∈ GW := gw_of (tb 347 (by decide +kernel)) rfl
theorem k348 : Cond.methodLink RX1 58 yX1_standWithout ∈ GW := gw_of (tb 348 (by decide +kernel)) rfl
theorem k350 : Cond.instanceMethod yX1_standWithout ∈ GW := gw_of (tb 350 (by decide +kernel)) rfl
theorem k351 : Cond.code yX1_standWithout cX1_standWithout 2 (some FieldType.int) ∈ GW := gw_of (tb 351 (by decide +kernel)) rfl
theorem k352 : Cond.methodLink RX1 68 yX1_greatest ∈ GW := gw_of (tb 352 (by decide +kernel)) rfl
theorem k353 : Cond.methodLink RX4 100 yX4_fallOf ∈ GW := gw_of (tb 353 (by decide +kernel)) rfl
theorem k355 : Cond.instanceMethod yX4_fallOf ∈ GW := gw_of (tb 355 (by decide +kernel)) rfl
theorem k356 : Cond.code yX4_fallOf cX4_fallOf 3 (some FieldType.int) ∈ GW := gw_of (tb 356 (by decide +kernel)) rfl
theorem k357 : Cond.methodLinkNest RX4 251 yX1_waveOf "PledgeTips" ∈ lw_tbl := tb 357 (by decide +kernel)
theorem k359 : Cond.instanceMethod yX1_waveOf ∈ GW := gw_of (tb 359 (by decide +kernel)) rfl
theorem k360 : Cond.code yX1_waveOf cX1_waveOf 5 (some FieldType.int) ∈ GW := gw_of (tb 360 (by decide +kernel)) rfl
theorem k361 : Cond.methodLink RX4 106 yX4_toppledBy ∈ GW := gw_of (tb 361 (by decide +kernel)) rfl
theorem k363 : Cond.instanceMethod yX4_toppledBy ∈ GW := gw_of (tb 363 (by decide +kernel)) rfl
theorem k364 : Cond.code yX4_toppledBy cX4_toppledBy 3 (some FieldType.int) ∈ GW := gw_of (tb 364 (by decide +kernel)) rfl
theorem k365 : Cond.methodLinkNest RX4 154 yX1_fallenWithout "PledgeTips" ∈ lw_tbl := tb 365 (by decide +kernel)
theorem k367 : Cond.instanceMethod yX1_fallenWithout ∈ GW := gw_of (tb 367 (by decide +kernel)) rfl
theorem k368 : Cond.code yX1_fallenWithout cX1_fallenWithout 2 (some FieldType.int) ∈ GW := gw_of (tb 368 (by decide +kernel)) rfl
theorem k369 : Cond.methodLink RX1 71 yX1_stand ∈ GW := gw_of (tb 369 (by decide +kernel)) rfl
theorem k370 : Cond.methodLink RL 40 yX4_projectOf ∈ GW := gw_of (tb 370 (by decide +kernel)) rfl
theorem k371 : Cond.instanceMethod yX4_projectOf ∈ GW := gw_of (tb 371 (by decide +kernel)) rfl
theorem k372 : Cond.selects RX4 yX4_projectOf yX4_projectOf ∈ GW := gw_of (tb 372 (by decide +kernel)) rfl
theorem k373 : Cond.code yX4_projectOf cX4_projectOf 4 (some FieldType.int) ∈ GW := gw_of (tb 373 (by decide +kernel)) rfl
theorem k374 : Cond.methodLinkNest RX4 109 yX2_hasProject "PledgeTips" ∈ lw_tbl := tb 374 (by decide +kernel)
theorem k375 : Cond.methodLinkNest RX4 112 yX2_pledgesFor "PledgeTips" ∈ lw_tbl := tb 375 (by decide +kernel)
theorem k376 : Cond.methodLinkNest RX4 118 yX2_sum "PledgeTips" ∈ lw_tbl := tb 376 (by decide +kernel)
theorem k377 : Cond.methodLinkNest RX4 121 yX1_hasGoal "PledgeTips" ∈ lw_tbl := tb 377 (by decide +kernel)
theorem k379 : Cond.instanceMethod yX1_hasGoal ∈ GW := gw_of (tb 379 (by decide +kernel)) rfl
theorem k380 : Cond.code yX1_hasGoal cX1_hasGoal 2 (some FieldType.boolean) ∈ GW := gw_of (tb 380 (by decide +kernel)) rfl
theorem k381 : Cond.methodLink RX1 81 yX1_reaches ∈ GW := gw_of (tb 381 (by decide +kernel)) rfl
theorem k383 : Cond.instanceMethod yX1_reaches ∈ GW := gw_of (tb 383 (by decide +kernel)) rfl
theorem k384 : Cond.code yX1_reaches cX1_reaches 5 (some FieldType.boolean) ∈ GW := gw_of (tb 384 (by decide +kernel)) rfl
theorem k385 : Cond.methodLinkNest RX1 75 yX2_pledgesFor "PledgeTips" ∈ lw_tbl := tb 385 (by decide +kernel)
theorem k386 : Cond.methodLinkNest RX1 78 yX2_sum "PledgeTips" ∈ lw_tbl := tb 386 (by decide +kernel)
theorem k387 : Cond.methodLinkNest RX4 127 yX1_tip "PledgeTips" ∈ lw_tbl := tb 387 (by decide +kernel)
theorem k389 : Cond.instanceMethod yX1_tip ∈ GW := gw_of (tb 389 (by decide +kernel)) rfl
theorem k390 : Cond.code yX1_tip cX1_tip 6 (some FieldType.int) ∈ GW := gw_of (tb 390 (by decide +kernel)) rfl
theorem k391 : Cond.methodLinkNest RX1 94 yX2_hasPledge "PledgeTips" ∈ lw_tbl := tb 391 (by decide +kernel)
theorem k392 : Cond.methodLinkNest RX1 100 yX2_pledgesUpTo "PledgeTips" ∈ lw_tbl := tb 392 (by decide +kernel)
theorem k394 : Cond.instanceMethod yX2_pledgesUpTo ∈ GW := gw_of (tb 394 (by decide +kernel)) rfl
theorem k395 : Cond.code yX2_pledgesUpTo cX2_pledgesUpTo 4 (some FieldType.int) ∈ GW := gw_of (tb 395 (by decide +kernel)) rfl
theorem k396 : Cond.methodLinkNest RX4 130 yX1_needed "PledgeTips" ∈ lw_tbl := tb 396 (by decide +kernel)
theorem k398 : Cond.instanceMethod yX1_needed ∈ GW := gw_of (tb 398 (by decide +kernel)) rfl
theorem k399 : Cond.code yX1_needed cX1_needed 5 (some FieldType.int) ∈ GW := gw_of (tb 399 (by decide +kernel)) rfl
theorem k400 : Cond.methodLinkNest RX4 133 yX2_isClosed "PledgeTips" ∈ lw_tbl := tb 400 (by decide +kernel)
theorem k401 : Cond.methodLinkNest RX4 136 yX1_push "PledgeTips" ∈ lw_tbl := tb 401 (by decide +kernel)
theorem k403 : Cond.instanceMethod yX1_push ∈ GW := gw_of (tb 403 (by decide +kernel)) rfl
theorem k404 : Cond.code yX1_push cX1_push 6 (some FieldType.int) ∈ GW := gw_of (tb 404 (by decide +kernel)) rfl
theorem k405 : Cond.methodLink RX1 88 yX1_hasGoal ∈ GW := gw_of (tb 405 (by decide +kernel)) rfl
theorem k406 : Cond.methodLink RX1 103 yX1_reachesWith ∈ GW := gw_of (tb 406 (by decide +kernel)) rfl
theorem k408 : Cond.instanceMethod yX1_reachesWith ∈ GW := gw_of (tb 408 (by decide +kernel)) rfl
theorem k409 : Cond.code yX1_reachesWith cX1_reachesWith 4 (some FieldType.boolean) ∈ GW := gw_of (tb 409 (by decide +kernel)) rfl
theorem k410 : Cond.methodLinkNest RX1 107 yX2_thinkOfExtra "PledgeTips" ∈ lw_tbl := tb 410 (by decide +kernel)
theorem k412 : Cond.instanceMethod yX2_thinkOfExtra ∈ GW := gw_of (tb 412 (by decide +kernel)) rfl
theorem k413 : Cond.code yX2_thinkOfExtra cX2_thinkOfExtra 3 (none) ∈ GW := gw_of (tb 413 (by decide +kernel)) rfl
theorem k414 : Cond.methodLink RL 44 yX4_personOf ∈ GW := gw_of (tb 414 (by decide +kernel)) rfl
theorem k415 : Cond.instanceMethod yX4_personOf ∈ GW := gw_of (tb 415 (by decide +kernel)) rfl
theorem k416 : Cond.selects RX4 yX4_personOf yX4_personOf ∈ GW := gw_of (tb 416 (by decide +kernel)) rfl
theorem k417 : Cond.code yX4_personOf cX4_personOf 4 (some FieldType.int) ∈ GW := gw_of (tb 417 (by decide +kernel)) rfl
theorem k418 : Cond.methodLinkNest RX4 139 yX2_hasPerson "PledgeTips" ∈ lw_tbl := tb 418 (by decide +kernel)
theorem k419 : Cond.methodLinkNest RX4 142 yX2_pledgesOf "PledgeTips" ∈ lw_tbl := tb 419 (by decide +kernel)
theorem k420 : Cond.methodLink RX4 157 yJ6_bitCount_0f7a4 ∈ GW := gw_of (tb 420 (by decide +kernel)) rfl
theorem k421 : Cond.static yJ6_bitCount_0f7a4 ∈ GW := gw_of (tb 421 (by decide +kernel)) rfl
theorem k422 : Cond.code yJ6_bitCount_0f7a4 cJ6_bitCount_0f7a4 1 (some FieldType.int) ∈ GW := gw_of (tb 422 (by decide +kernel)) rfl
theorem k423 : Cond.constant "java/lang/Integer" (265 : Nat) (1431655765 : Int32) ∈ GW := gw_of (tb 423 (by decide +kernel)) rfl
theorem k424 : Cond.constant "java/lang/Integer" (266 : Nat) (858993459 : Int32) ∈ GW := gw_of (tb 424 (by decide +kernel)) rfl
theorem k425 : Cond.constant "java/lang/Integer" (267 : Nat) (252645135 : Int32) ∈ GW := gw_of (tb 425 (by decide +kernel)) rfl
theorem k426 : Cond.methodLink RL 48 yX4_standing ∈ GW := gw_of (tb 426 (by decide +kernel)) rfl
theorem k427 : Cond.instanceMethod yX4_standing ∈ GW := gw_of (tb 427 (by decide +kernel)) rfl
theorem k428 : Cond.selects RX4 yX4_standing yX4_standing ∈ GW := gw_of (tb 428 (by decide +kernel)) rfl
theorem k429 : Cond.code yX4_standing cX4_standing 3 (some FieldType.int) ∈ GW := gw_of (tb 429 (by decide +kernel)) rfl
theorem k430 : Cond.methodLink RX4 162 yX4_errorOfSet ∈ GW := gw_of (tb 430 (by decide +kernel)) rfl
theorem k432 : Cond.instanceMethod yX4_errorOfSet ∈ GW := gw_of (tb 432 (by decide +kernel)) rfl
theorem k433 : Cond.code yX4_errorOfSet cX4_errorOfSet 2 (some FieldType.int) ∈ GW := gw_of (tb 433 (by decide +kernel)) rfl
theorem k434 : Cond.methodLinkNest RX4 189 yX2_pledges "PledgeTips" ∈ lw_tbl := tb 434 (by decide +kernel)
theorem k435 : Cond.methodLinkNest RX4 165 yX1_standWithout "PledgeTips" ∈ lw_tbl := tb 435 (by decide +kernel)
theorem k436 : Cond.methodLink RL 52 yX4_setOf ∈ GW := gw_of (tb 436 (by decide +kernel)) rfl
theorem k437 : Cond.instanceMethod yX4_setOf ∈ GW := gw_of (tb 437 (by decide +kernel)) rfl
theorem k438 : Cond.selects RX4 yX4_setOf yX4_setOf ∈ GW := gw_of (tb 438 (by decide +kernel)) rfl
theorem k439 : Cond.code yX4_setOf cX4_setOf 4 (some FieldType.int) ∈ GW := gw_of (tb 439 (by decide +kernel)) rfl
theorem k440 : Cond.methodLinkNest RX4 168 yX1_failing "PledgeTips" ∈ lw_tbl := tb 440 (by decide +kernel)
theorem k441 : Cond.methodLinkNest RX4 172 yX1_greatest "PledgeTips" ∈ lw_tbl := tb 441 (by decide +kernel)
theorem k442 : Cond.methodLink RL 56 yX4_orderAt ∈ GW := gw_of (tb 442 (by decide +kernel)) rfl
theorem k443 : Cond.instanceMethod yX4_orderAt ∈ GW := gw_of (tb 443 (by decide +kernel)) rfl
theorem k444 : Cond.selects RX4 yX4_orderAt yX4_orderAt ∈ GW := gw_of (tb 444 (by decide +kernel)) rfl
theorem k445 : Cond.code yX4_orderAt cX4_orderAt 4 (some FieldType.int) ∈ GW := gw_of (tb 445 (by decide +kernel)) rfl
theorem k446 : Cond.methodLink RX4 175 yX4_keyOf ∈ GW := gw_of (tb 446 (by decide +kernel)) rfl
theorem k448 : Cond.instanceMethod yX4_keyOf ∈ GW := gw_of (tb 448 (by decide +kernel)) rfl
theorem k449 : Cond.code yX4_keyOf cX4_keyOf 5 (some FieldType.long) ∈ GW := gw_of (tb 449 (by decide +kernel)) rfl
theorem k450 : Cond.constantLong "PledgeTips" (254 : Nat) (12 : Int64) ∈ GW := gw_of (tb 450 (by decide +kernel)) rfl
theorem k451 : Cond.methodLink RX4 179 yX4_keysBelow ∈ GW := gw_of (tb 451 (by decide +kernel)) rfl
theorem k453 : Cond.instanceMethod yX4_keysBelow ∈ GW := gw_of (tb 453 (by decide +kernel)) rfl
theorem k454 : Cond.code yX4_keysBelow cX4_keysBelow 5 (some FieldType.int) ∈ GW := gw_of (tb 454 (by decide +kernel)) rfl
theorem k455 : Cond.methodLink RL 60 yX4_count ∈ GW := gw_of (tb 455 (by decide +kernel)) rfl
theorem k456 : Cond.instanceMethod yX4_count ∈ GW := gw_of (tb 456 (by decide +kernel)) rfl
theorem k457 : Cond.selects RX4 yX4_count yX4_count ∈ GW := gw_of (tb 457 (by decide +kernel)) rfl
theorem k458 : Cond.code yX4_count cX4_count 2 (some FieldType.int) ∈ GW := gw_of (tb 458 (by decide +kernel)) rfl
theorem k459 : Cond.methodLinkNest RX4 192 yX1_waves "PledgeTips" ∈ lw_tbl := tb 459 (by decide +kernel)
theorem k461 : Cond.instanceMethod yX1_waves ∈ GW := gw_of (tb 461 (by decide +kernel)) rfl
theorem k462 : Cond.code yX1_waves cX1_waves 5 (some FieldType.int) ∈ GW := gw_of (tb 462 (by decide +kernel)) rfl
theorem k463 : Cond.methodLinkNest RX4 195 yX1_setsThatHold "PledgeTips" ∈ lw_tbl := tb 463 (by decide +kernel)
theorem k465 : Cond.instanceMethod yX1_setsThatHold ∈ GW := gw_of (tb 465 (by decide +kernel)) rfl
theorem k466 : Cond.code yX1_setsThatHold cX1_setsThatHold 4 (some FieldType.int) ∈ GW := gw_of (tb 466 (by decide +kernel)) rfl
theorem k467 : Cond.methodLinkNest RX4 198 yX1_projectsWithGoal "PledgeTips" ∈ lw_tbl := tb 467 (by decide +kernel)
theorem k469 : Cond.instanceMethod yX1_projectsWithGoal ∈ GW := gw_of (tb 469 (by decide +kernel)) rfl
theorem k470 : Cond.code yX1_projectsWithGoal cX1_projectsWithGoal 3 (some FieldType.int) ∈ GW := gw_of (tb 470 (by decide +kernel)) rfl
theorem k471 : Cond.methodLinkNest RX1 85 yX2_hasProject "PledgeTips" ∈ lw_tbl := tb 471 (by decide +kernel)
theorem k472 : Cond.methodLink RL 64 yX4_undo ∈ GW := gw_of (tb 472 (by decide +kernel)) rfl
theorem k473 : Cond.instanceMethod yX4_undo ∈ GW := gw_of (tb 473 (by decide +kernel)) rfl
theorem k474 : Cond.selects RX4 yX4_undo yX4_undo ∈ GW := gw_of (tb 474 (by decide +kernel)) rfl
theorem k475 : Cond.code yX4_undo cX4_undo 1 (some FieldType.int) ∈ GW := gw_of (tb 475 (by decide +kernel)) rfl
theorem k476 : Cond.methodLink RL 69 yX4_type ∈ GW := gw_of (tb 476 (by decide +kernel)) rfl
theorem k477 : Cond.instanceMethod yX4_type ∈ GW := gw_of (tb 477 (by decide +kernel)) rfl
theorem k478 : Cond.selects RX4 yX4_type yX4_type ∈ GW := gw_of (tb 478 (by decide +kernel)) rfl
theorem k479 : Cond.code yX4_type cX4_type 2 (some FieldType.int) ∈ GW := gw_of (tb 479 (by decide +kernel)) rfl
theorem k480 : Cond.methodLinkNest RX4 219 yX3_append "PledgeTips" ∈ lw_tbl := tb 480 (by decide +kernel)
theorem k482 : Cond.instanceMethod yX3_append ∈ GW := gw_of (tb 482 (by decide +kernel)) rfl
theorem k483 : Cond.code yX3_append cX3_append 2 (some FieldType.int) ∈ GW := gw_of (tb 483 (by decide +kernel)) rfl
theorem k484 : Cond.methodLink RL 73 yX4_clearText ∈ GW := gw_of (tb 484 (by decide +kernel)) rfl
theorem k485 : Cond.instanceMethod yX4_clearText ∈ GW := gw_of (tb 485 (by decide +kernel)) rfl
theorem k486 : Cond.selects RX4 yX4_clearText yX4_clearText ∈ GW := gw_of (tb 486 (by decide +kernel)) rfl
theorem k487 : Cond.code yX4_clearText cX4_clearText 1 (some FieldType.int) ∈ GW := gw_of (tb 487 (by decide +kernel)) rfl
theorem k488 : Cond.methodLinkNest RX4 223 yX3_empty "PledgeTips" ∈ lw_tbl := tb 488 (by decide +kernel)
theorem k490 : Cond.instanceMethod yX3_empty ∈ GW := gw_of (tb 490 (by decide +kernel)) rfl
theorem k491 : Cond.code yX3_empty cX3_empty 2 (some FieldType.int) ∈ GW := gw_of (tb 491 (by decide +kernel)) rfl
theorem k492 : Cond.methodLink RL 77 yX4_fault ∈ GW := gw_of (tb 492 (by decide +kernel)) rfl
theorem k493 : Cond.instanceMethod yX4_fault ∈ GW := gw_of (tb 493 (by decide +kernel)) rfl
theorem k494 : Cond.selects RX4 yX4_fault yX4_fault ∈ GW := gw_of (tb 494 (by decide +kernel)) rfl
theorem k495 : Cond.code yX4_fault cX4_fault 2 (some FieldType.int) ∈ GW := gw_of (tb 495 (by decide +kernel)) rfl
theorem k496 : Cond.methodLinkNest RX4 226 yX3_tryOn "PledgeTips" ∈ lw_tbl := tb 496 (by decide +kernel)
theorem k498 : Cond.instanceMethod yX3_tryOn ∈ GW := gw_of (tb 498 (by decide +kernel)) rfl
theorem k499 : Cond.code yX3_tryOn cX3_tryOn 5 (none) ∈ GW := gw_of (tb 499 (by decide +kernel)) rfl
theorem k500 : Cond.methodLinkNest RX3 47 yX2_copyFrom "PledgeTips" ∈ lw_tbl := tb 500 (by decide +kernel)
theorem k501 : Cond.methodLink RX3 53 yX3_tellFault ∈ GW := gw_of (tb 501 (by decide +kernel)) rfl
theorem k503 : Cond.instanceMethod yX3_tellFault ∈ GW := gw_of (tb 503 (by decide +kernel)) rfl
theorem k504 : Cond.code yX3_tellFault cX3_tellFault 4 (none) ∈ GW := gw_of (tb 504 (by decide +kernel)) rfl
theorem k505 : Cond.methodLink RX3 57 yX3_readCommand ∈ GW := gw_of (tb 505 (by decide +kernel)) rfl
theorem k507 : Cond.instanceMethod yX3_readCommand ∈ GW := gw_of (tb 507 (by decide +kernel)) rfl
theorem k508 : Cond.code yX3_readCommand cX3_readCommand 7 (some FieldType.int) ∈ GW := gw_of (tb 508 (by decide +kernel)) rfl
theorem k509 : Cond.methodLink RX3 61 yX3_signAt ∈ GW := gw_of (tb 509 (by decide +kernel)) rfl
theorem k511 : Cond.instanceMethod yX3_signAt ∈ GW := gw_of (tb 511 (by decide +kernel)) rfl
theorem k512 : Cond.code yX3_signAt cX3_signAt 2 (some FieldType.char) ∈ GW := gw_of (tb 512 (by decide +kernel)) rfl
theorem k513 : Cond.methodLink RX3 75 yX3_numbersBehind ∈ GW := gw_of (tb 513 (by decide +kernel)) rfl
theorem k515 : Cond.instanceMethod yX3_numbersBehind ∈ GW := gw_of (tb 515 (by decide +kernel)) rfl
theorem k516 : Cond.code yX3_numbersBehind cX3_numbersBehind 2 (some FieldType.int) ∈ GW := gw_of (tb 516 (by decide +kernel)) rfl
theorem k517 : Cond.methodLink RX3 78 yX3_readNumber ∈ GW := gw_of (tb 517 (by decide +kernel)) rfl
theorem k519 : Cond.instanceMethod yX3_readNumber ∈ GW := gw_of (tb 519 (by decide +kernel)) rfl
theorem k520 : Cond.code yX3_readNumber cX3_readNumber 5 (some FieldType.int) ∈ GW := gw_of (tb 520 (by decide +kernel)) rfl
theorem k521 : Cond.methodLink RX3 65 yX3_doCommand ∈ GW := gw_of (tb 521 (by decide +kernel)) rfl
theorem k523 : Cond.instanceMethod yX3_doCommand ∈ GW := gw_of (tb 523 (by decide +kernel)) rfl
theorem k524 : Cond.code yX3_doCommand cX3_doCommand 2 (some FieldType.int) ∈ GW := gw_of (tb 524 (by decide +kernel)) rfl
theorem k525 : Cond.methodLinkNest RX3 82 yX0_addProject "PledgeTips" ∈ lw_tbl := tb 525 (by decide +kernel)
theorem k526 : Cond.methodLinkNest RX3 85 yX0_addPerson "PledgeTips" ∈ lw_tbl := tb 526 (by decide +kernel)
theorem k527 : Cond.methodLinkNest RX3 88 yX0_makePledge "PledgeTips" ∈ lw_tbl := tb 527 (by decide +kernel)
theorem k528 : Cond.methodLinkNest RX3 92 yX0_takeBack "PledgeTips" ∈ lw_tbl := tb 528 (by decide +kernel)
theorem k529 : Cond.methodLinkNest RX3 95 yX0_collect "PledgeTips" ∈ lw_tbl := tb 529 (by decide +kernel)
theorem k530 : Cond.methodLink RL 81 yX4_play ∈ GW := gw_of (tb 530 (by decide +kernel)) rfl
theorem k531 : Cond.instanceMethod yX4_play ∈ GW := gw_of (tb 531 (by decide +kernel)) rfl
theorem k532 : Cond.selects RX4 yX4_play yX4_play ∈ GW := gw_of (tb 532 (by decide +kernel)) rfl
theorem k533 : Cond.code yX4_play cX4_play 1 (some FieldType.int) ∈ GW := gw_of (tb 533 (by decide +kernel)) rfl
theorem k534 : Cond.methodLinkNest RX4 238 yX3_hasFault "PledgeTips" ∈ lw_tbl := tb 534 (by decide +kernel)
theorem k536 : Cond.instanceMethod yX3_hasFault ∈ GW := gw_of (tb 536 (by decide +kernel)) rfl
theorem k537 : Cond.code yX3_hasFault cX3_hasFault 1 (some FieldType.boolean) ∈ GW := gw_of (tb 537 (by decide +kernel)) rfl
theorem k538 : Cond.classLink RL 10 RX5 ∈ GW := gw_of (tb 538 (by decide +kernel)) rfl
theorem k539 : Cond.instantiable RX5 15 ∈ GW := gw_of (tb 539 (by decide +kernel)) rfl
theorem k540 : Cond.methodLink RL 12 yX5_init ∈ GW := gw_of (tb 540 (by decide +kernel)) rfl
theorem k541 : Cond.instanceMethod yX5_init ∈ GW := gw_of (tb 541 (by decide +kernel)) rfl
theorem k542 : Cond.code yX5_init cX5_init 1 (none) ∈ GW := gw_of (tb 542 (by decide +kernel)) rfl
theorem k543 : Cond.methodLink RX5 1 objectInit ∈ GW := gw_of (tb 543 (by decide +kernel)) rfl
theorem k544 : Cond.fieldLink RX5 7 "PledgeTipsModel" "s" "[I" ∈ GW := gw_of (tb 544 (by decide +kernel)) rfl
theorem k545 : Cond.fieldLink RX5 13 "PledgeTipsModel" "begun" "[I" ∈ GW := gw_of (tb 545 (by decide +kernel)) rfl
theorem k546 : Cond.fieldLink RX5 16 "PledgeTipsModel" "past" "[I" ∈ GW := gw_of (tb 546 (by decide +kernel)) rfl
theorem k547 : Cond.fieldLink RX5 40 "PledgeTipsModel" "states" "I" ∈ GW := gw_of (tb 547 (by decide +kernel)) rfl
theorem k548 : Cond.fieldLink RX5 19 "PledgeTipsModel" "text" "[I" ∈ GW := gw_of (tb 548 (by decide +kernel)) rfl
theorem k549 : Cond.fieldLink RX5 174 "PledgeTipsModel" "length" "I" ∈ GW := gw_of (tb 549 (by decide +kernel)) rfl
theorem k550 : Cond.fieldLink RX5 22 "PledgeTipsModel" "moreFor" "I" ∈ GW := gw_of (tb 550 (by decide +kernel)) rfl
theorem k551 : Cond.fieldLink RX5 43 "PledgeTipsModel" "more" "I" ∈ GW := gw_of (tb 551 (by decide +kernel)) rfl
theorem k552 : Cond.fieldLink RX5 26 "PledgeTipsModel" "waves" "[I" ∈ GW := gw_of (tb 552 (by decide +kernel)) rfl
theorem k553 : Cond.fieldLink RX5 69 "PledgeTipsModel" "waveMany" "I" ∈ GW := gw_of (tb 553 (by decide +kernel)) rfl
theorem k554 : Cond.fieldLink RX5 177 "PledgeTipsModel" "at" "I" ∈ GW := gw_of (tb 554 (by decide +kernel)) rfl
theorem k555 : Cond.fieldLink RX5 180 "PledgeTipsModel" "isForm" "Z" ∈ GW := gw_of (tb 555 (by decide +kernel)) rfl
theorem k556 : Cond.fieldLink RX5 199 "PledgeTipsModel" "reason" "I" ∈ GW := gw_of (tb 556 (by decide +kernel)) rfl
theorem k557 : Cond.fieldLink RX5 196 "PledgeTipsModel" "cause" "I" ∈ GW := gw_of (tb 557 (by decide +kernel)) rfl
theorem k558 : Cond.fieldLink RX5 29 "PledgeTipsModel" "numbers" "[I" ∈ GW := gw_of (tb 558 (by decide +kernel)) rfl
theorem k559 : Cond.laysFinal "PledgeTipsModel" "PledgeTipsModel" "s" "[I" ∈ GW := gw_of (tb 559 (by decide +kernel)) rfl
theorem k561 : Cond.laysFinal "PledgeTipsModel" "PledgeTipsModel" "begun" "[I" ∈ GW := gw_of (tb 561 (by decide +kernel)) rfl
theorem k563 : Cond.laysFinal "PledgeTipsModel" "PledgeTipsModel" "past" "[I" ∈ GW := gw_of (tb 563 (by decide +kernel)) rfl
theorem k565 : Cond.lays "PledgeTipsModel" "PledgeTipsModel" "states" "I" ∈ GW := gw_of (tb 565 (by decide +kernel)) rfl
theorem k567 : Cond.laysFinal "PledgeTipsModel" "PledgeTipsModel" "text" "[I" ∈ GW := gw_of (tb 567 (by decide +kernel)) rfl
theorem k569 : Cond.lays "PledgeTipsModel" "PledgeTipsModel" "length" "I" ∈ GW := gw_of (tb 569 (by decide +kernel)) rfl
theorem k571 : Cond.lays "PledgeTipsModel" "PledgeTipsModel" "moreFor" "I" ∈ GW := gw_of (tb 571 (by decide +kernel)) rfl
theorem k573 : Cond.lays "PledgeTipsModel" "PledgeTipsModel" "more" "I" ∈ GW := gw_of (tb 573 (by decide +kernel)) rfl
theorem k575 : Cond.laysFinal "PledgeTipsModel" "PledgeTipsModel" "waves" "[I" ∈ GW := gw_of (tb 575 (by decide +kernel)) rfl
theorem k577 : Cond.lays "PledgeTipsModel" "PledgeTipsModel" "waveMany" "I" ∈ GW := gw_of (tb 577 (by decide +kernel)) rfl
theorem k579 : Cond.lays "PledgeTipsModel" "PledgeTipsModel" "at" "I" ∈ GW := gw_of (tb 579 (by decide +kernel)) rfl
theorem k581 : Cond.lays "PledgeTipsModel" "PledgeTipsModel" "isForm" "Z" ∈ GW := gw_of (tb 581 (by decide +kernel)) rfl
theorem k583 : Cond.lays "PledgeTipsModel" "PledgeTipsModel" "reason" "I" ∈ GW := gw_of (tb 583 (by decide +kernel)) rfl
theorem k585 : Cond.lays "PledgeTipsModel" "PledgeTipsModel" "cause" "I" ∈ GW := gw_of (tb 585 (by decide +kernel)) rfl
theorem k587 : Cond.laysFinal "PledgeTipsModel" "PledgeTipsModel" "numbers" "[I" ∈ GW := gw_of (tb 587 (by decide +kernel)) rfl
theorem k590 : Cond.methodLink RL 17 yX5_project ∈ GW := gw_of (tb 590 (by decide +kernel)) rfl
theorem k591 : Cond.instanceMethod yX5_project ∈ GW := gw_of (tb 591 (by decide +kernel)) rfl
theorem k592 : Cond.selects RX5 yX5_project yX5_project ∈ GW := gw_of (tb 592 (by decide +kernel)) rfl
theorem k593 : Cond.code yX5_project cX5_project 2 (some FieldType.int) ∈ GW := gw_of (tb 593 (by decide +kernel)) rfl
theorem k594 : Cond.methodLink RX5 125 yX5_begins ∈ GW := gw_of (tb 594 (by decide +kernel)) rfl
theorem k596 : Cond.instanceMethod yX5_begins ∈ GW := gw_of (tb 596 (by decide +kernel)) rfl
theorem k597 : Cond.code yX5_begins cX5_begins 2 (none) ∈ GW := gw_of (tb 597 (by decide +kernel)) rfl
theorem k598 : Cond.methodLink RX5 128 yX5_adds ∈ GW := gw_of (tb 598 (by decide +kernel)) rfl
theorem k600 : Cond.instanceMethod yX5_adds ∈ GW := gw_of (tb 600 (by decide +kernel)) rfl
theorem k601 : Cond.code yX5_adds cX5_adds 2 (some FieldType.int) ∈ GW := gw_of (tb 601 (by decide +kernel)) rfl
theorem k602 : Cond.methodLink RX5 32 yX5_in ∈ GW := gw_of (tb 602 (by decide +kernel)) rfl
theorem k603 : Cond.static yX5_in ∈ GW := gw_of (tb 603 (by decide +kernel)) rfl
theorem k604 : Cond.code yX5_in cX5_in 3 (some FieldType.boolean) ∈ GW := gw_of (tb 604 (by decide +kernel)) rfl
theorem k605 : Cond.methodLink RX5 131 yX5_acted ∈ GW := gw_of (tb 605 (by decide +kernel)) rfl
theorem k607 : Cond.instanceMethod yX5_acted ∈ GW := gw_of (tb 607 (by decide +kernel)) rfl
theorem k608 : Cond.code yX5_acted cX5_acted 3 (some FieldType.int) ∈ GW := gw_of (tb 608 (by decide +kernel)) rfl
theorem k609 : Cond.methodLink RL 21 yX5_person ∈ GW := gw_of (tb 609 (by decide +kernel)) rfl
theorem k610 : Cond.instanceMethod yX5_person ∈ GW := gw_of (tb 610 (by decide +kernel)) rfl
theorem k611 : Cond.selects RX5 yX5_person yX5_person ∈ GW := gw_of (tb 611 (by decide +kernel)) rfl
theorem k612 : Cond.code yX5_person cX5_person 2 (some FieldType.int) ∈ GW := gw_of (tb 612 (by decide +kernel)) rfl
theorem k613 : Cond.methodLink RX5 134 yX5_comes ∈ GW := gw_of (tb 613 (by decide +kernel)) rfl
theorem k615 : Cond.instanceMethod yX5_comes ∈ GW := gw_of (tb 615 (by decide +kernel)) rfl
theorem k616 : Cond.code yX5_comes cX5_comes 2 (some FieldType.int) ∈ GW := gw_of (tb 616 (by decide +kernel)) rfl
theorem k617 : Cond.methodLink RL 26 yX5_pledge ∈ GW := gw_of (tb 617 (by decide +kernel)) rfl
theorem k618 : Cond.instanceMethod yX5_pledge ∈ GW := gw_of (tb 618 (by decide +kernel)) rfl
theorem k619 : Cond.selects RX5 yX5_pledge yX5_pledge ∈ GW := gw_of (tb 619 (by decide +kernel)) rfl
theorem k620 : Cond.code yX5_pledge cX5_pledge 6 (some FieldType.int) ∈ GW := gw_of (tb 620 (by decide +kernel)) rfl
theorem k621 : Cond.methodLink RX5 137 yX5_makes ∈ GW := gw_of (tb 621 (by decide +kernel)) rfl
theorem k623 : Cond.instanceMethod yX5_makes ∈ GW := gw_of (tb 623 (by decide +kernel)) rfl
theorem k624 : Cond.code yX5_makes cX5_makes 8 (some FieldType.int) ∈ GW := gw_of (tb 624 (by decide +kernel)) rfl
theorem k625 : Cond.methodLink RX5 86 yX5_isPerson ∈ GW := gw_of (tb 625 (by decide +kernel)) rfl
theorem k627 : Cond.instanceMethod yX5_isPerson ∈ GW := gw_of (tb 627 (by decide +kernel)) rfl
theorem k628 : Cond.code yX5_isPerson cX5_isPerson 2 (some FieldType.boolean) ∈ GW := gw_of (tb 628 (by decide +kernel)) rfl
theorem k629 : Cond.methodLink RX5 90 yX5_isProject ∈ GW := gw_of (tb 629 (by decide +kernel)) rfl
theorem k631 : Cond.instanceMethod yX5_isProject ∈ GW := gw_of (tb 631 (by decide +kernel)) rfl
theorem k632 : Cond.code yX5_isProject cX5_isProject 2 (some FieldType.boolean) ∈ GW := gw_of (tb 632 (by decide +kernel)) rfl
theorem k633 : Cond.methodLink RX5 93 yX5_isCondition ∈ GW := gw_of (tb 633 (by decide +kernel)) rfl
theorem k635 : Cond.instanceMethod yX5_isCondition ∈ GW := gw_of (tb 635 (by decide +kernel)) rfl
theorem k636 : Cond.code yX5_isCondition cX5_isCondition 5 (some FieldType.boolean) ∈ GW := gw_of (tb 636 (by decide +kernel)) rfl
theorem k637 : Cond.methodLink RX5 97 yX5_isClosed ∈ GW := gw_of (tb 637 (by decide +kernel)) rfl
theorem k639 : Cond.instanceMethod yX5_isClosed ∈ GW := gw_of (tb 639 (by decide +kernel)) rfl
theorem k640 : Cond.code yX5_isClosed cX5_isClosed 2 (some FieldType.boolean) ∈ GW := gw_of (tb 640 (by decide +kernel)) rfl
theorem k641 : Cond.methodLink RX5 100 yX5_ofPerson ∈ GW := gw_of (tb 641 (by decide +kernel)) rfl
theorem k643 : Cond.instanceMethod yX5_ofPerson ∈ GW := gw_of (tb 643 (by decide +kernel)) rfl
theorem k644 : Cond.code yX5_ofPerson cX5_ofPerson 4 (some FieldType.int) ∈ GW := gw_of (tb 644 (by decide +kernel)) rfl
theorem k645 : Cond.methodLink RX5 36 yX5_of ∈ GW := gw_of (tb 645 (by decide +kernel)) rfl
theorem k647 : Cond.instanceMethod yX5_of ∈ GW := gw_of (tb 647 (by decide +kernel)) rfl
theorem k648 : Cond.code yX5_of cX5_of 3 (some FieldType.int) ∈ GW := gw_of (tb 648 (by decide +kernel)) rfl
theorem k649 : Cond.methodLink RX5 80 yX5_open ∈ GW := gw_of (tb 649 (by decide +kernel)) rfl
theorem k651 : Cond.instanceMethod yX5_open ∈ GW := gw_of (tb 651 (by decide +kernel)) rfl
theorem k652 : Cond.code yX5_open cX5_open 1 (some FieldType.int) ∈ GW := gw_of (tb 652 (by decide +kernel)) rfl
theorem k653 : Cond.methodLink RX5 72 yX5_pledges ∈ GW := gw_of (tb 653 (by decide +kernel)) rfl
theorem k655 : Cond.instanceMethod yX5_pledges ∈ GW := gw_of (tb 655 (by decide +kernel)) rfl
theorem k656 : Cond.code yX5_pledges cX5_pledges 6 (some FieldType.int) ∈ GW := gw_of (tb 656 (by decide +kernel)) rfl
theorem k657 : Cond.methodLink RX5 103 yX5_amountOf ∈ GW := gw_of (tb 657 (by decide +kernel)) rfl
theorem k659 : Cond.instanceMethod yX5_amountOf ∈ GW := gw_of (tb 659 (by decide +kernel)) rfl
theorem k660 : Cond.code yX5_amountOf cX5_amountOf 4 (some FieldType.int) ∈ GW := gw_of (tb 660 (by decide +kernel)) rfl
theorem k661 : Cond.methodLink RX5 46 yX5_has ∈ GW := gw_of (tb 661 (by decide +kernel)) rfl
theorem k662 : Cond.static yX5_has ∈ GW := gw_of (tb 662 (by decide +kernel)) rfl
theorem k663 : Cond.code yX5_has cX5_has 2 (some FieldType.boolean) ∈ GW := gw_of (tb 663 (by decide +kernel)) rfl
theorem k664 : Cond.methodLink RX5 106 yX5_lowestFree ∈ GW := gw_of (tb 664 (by decide +kernel)) rfl
theorem k666 : Cond.instanceMethod yX5_lowestFree ∈ GW := gw_of (tb 666 (by decide +kernel)) rfl
theorem k667 : Cond.code yX5_lowestFree cX5_lowestFree 3 (some FieldType.int) ∈ GW := gw_of (tb 667 (by decide +kernel)) rfl
theorem k668 : Cond.methodLink RL 30 yX5_withdraw ∈ GW := gw_of (tb 668 (by decide +kernel)) rfl
theorem k669 : Cond.instanceMethod yX5_withdraw ∈ GW := gw_of (tb 669 (by decide +kernel)) rfl
theorem k670 : Cond.selects RX5 yX5_withdraw yX5_withdraw ∈ GW := gw_of (tb 670 (by decide +kernel)) rfl
theorem k671 : Cond.code yX5_withdraw cX5_withdraw 2 (some FieldType.int) ∈ GW := gw_of (tb 671 (by decide +kernel)) rfl
theorem k672 : Cond.methodLink RX5 141 yX5_withdraws ∈ GW := gw_of (tb 672 (by decide +kernel)) rfl
theorem k674 : Cond.instanceMethod yX5_withdraws ∈ GW := gw_of (tb 674 (by decide +kernel)) rfl
theorem k675 : Cond.code yX5_withdraws cX5_withdraws 3 (some FieldType.int) ∈ GW := gw_of (tb 675 (by decide +kernel)) rfl
theorem k676 : Cond.methodLink RX5 109 yX5_isPledge ∈ GW := gw_of (tb 676 (by decide +kernel)) rfl
theorem k678 : Cond.instanceMethod yX5_isPledge ∈ GW := gw_of (tb 678 (by decide +kernel)) rfl
theorem k679 : Cond.code yX5_isPledge cX5_isPledge 2 (some FieldType.boolean) ∈ GW := gw_of (tb 679 (by decide +kernel)) rfl
theorem k680 : Cond.methodLink RX5 112 yX5_stands ∈ GW := gw_of (tb 680 (by decide +kernel)) rfl
theorem k682 : Cond.instanceMethod yX5_stands ∈ GW := gw_of (tb 682 (by decide +kernel)) rfl
theorem k683 : Cond.code yX5_stands cX5_stands 3 (some FieldType.int) ∈ GW := gw_of (tb 683 (by decide +kernel)) rfl
theorem k684 : Cond.methodLink RX5 76 yX5_called ∈ GW := gw_of (tb 684 (by decide +kernel)) rfl
theorem k686 : Cond.instanceMethod yX5_called ∈ GW := gw_of (tb 686 (by decide +kernel)) rfl
theorem k687 : Cond.code yX5_called cX5_called 1 (some FieldType.int) ∈ GW := gw_of (tb 687 (by decide +kernel)) rfl
theorem k688 : Cond.methodLink RX5 83 yX5_greatest ∈ GW := gw_of (tb 688 (by decide +kernel)) rfl
theorem k690 : Cond.instanceMethod yX5_greatest ∈ GW := gw_of (tb 690 (by decide +kernel)) rfl
theorem k691 : Cond.code yX5_greatest cX5_greatest 6 (some FieldType.int) ∈ GW := gw_of (tb 691 (by decide +kernel)) rfl
theorem k692 : Cond.methodLink RX5 66 yX5_fallingOf ∈ GW := gw_of (tb 692 (by decide +kernel)) rfl
theorem k694 : Cond.instanceMethod yX5_fallingOf ∈ GW := gw_of (tb 694 (by decide +kernel)) rfl
theorem k695 : Cond.code yX5_fallingOf cX5_fallingOf 5 (some FieldType.int) ∈ GW := gw_of (tb 695 (by decide +kernel)) rfl
theorem k696 : Cond.methodLink RX5 63 yX5_holds ∈ GW := gw_of (tb 696 (by decide +kernel)) rfl
theorem k698 : Cond.instanceMethod yX5_holds ∈ GW := gw_of (tb 698 (by decide +kernel)) rfl
theorem k699 : Cond.code yX5_holds cX5_holds 5 (some FieldType.boolean) ∈ GW := gw_of (tb 699 (by decide +kernel)) rfl
theorem k700 : Cond.methodLink RX5 50 yX5_moneyFor ∈ GW := gw_of (tb 700 (by decide +kernel)) rfl
theorem k702 : Cond.instanceMethod yX5_moneyFor ∈ GW := gw_of (tb 702 (by decide +kernel)) rfl
theorem k703 : Cond.code yX5_moneyFor cX5_moneyFor 5 (some FieldType.int) ∈ GW := gw_of (tb 703 (by decide +kernel)) rfl
theorem k704 : Cond.methodLink RX5 53 yX5_manyFor ∈ GW := gw_of (tb 704 (by decide +kernel)) rfl
theorem k706 : Cond.instanceMethod yX5_manyFor ∈ GW := gw_of (tb 706 (by decide +kernel)) rfl
theorem k707 : Cond.code yX5_manyFor cX5_manyFor 5 (some FieldType.int) ∈ GW := gw_of (tb 707 (by decide +kernel)) rfl
theorem k708 : Cond.methodLink RX5 56 yX5_isOf ∈ GW := gw_of (tb 708 (by decide +kernel)) rfl
theorem k710 : Cond.instanceMethod yX5_isOf ∈ GW := gw_of (tb 710 (by decide +kernel)) rfl
theorem k711 : Cond.code yX5_isOf cX5_isOf 5 (some FieldType.boolean) ∈ GW := gw_of (tb 711 (by decide +kernel)) rfl
theorem k712 : Cond.methodLink RX5 59 yX5_goal ∈ GW := gw_of (tb 712 (by decide +kernel)) rfl
theorem k714 : Cond.instanceMethod yX5_goal ∈ GW := gw_of (tb 714 (by decide +kernel)) rfl
theorem k715 : Cond.code yX5_goal cX5_goal 2 (some FieldType.int) ∈ GW := gw_of (tb 715 (by decide +kernel)) rfl
theorem k716 : Cond.methodLink RX5 115 yX5_forgets ∈ GW := gw_of (tb 716 (by decide +kernel)) rfl
theorem k718 : Cond.instanceMethod yX5_forgets ∈ GW := gw_of (tb 718 (by decide +kernel)) rfl
theorem k719 : Cond.code yX5_forgets cX5_forgets 3 (none) ∈ GW := gw_of (tb 719 (by decide +kernel)) rfl
theorem k720 : Cond.methodLink RL 34 yX5_callIn ∈ GW := gw_of (tb 720 (by decide +kernel)) rfl
theorem k721 : Cond.instanceMethod yX5_callIn ∈ GW := gw_of (tb 721 (by decide +kernel)) rfl
theorem k722 : Cond.selects RX5 yX5_callIn yX5_callIn ∈ GW := gw_of (tb 722 (by decide +kernel)) rfl
theorem k723 : Cond.code yX5_callIn cX5_callIn 2 (some FieldType.int) ∈ GW := gw_of (tb 723 (by decide +kernel)) rfl
theorem k724 : Cond.methodLink RX5 144 yX5_calls ∈ GW := gw_of (tb 724 (by decide +kernel)) rfl
theorem k726 : Cond.instanceMethod yX5_calls ∈ GW := gw_of (tb 726 (by decide +kernel)) rfl
theorem k727 : Cond.code yX5_calls cX5_calls 6 (some FieldType.int) ∈ GW := gw_of (tb 727 (by decide +kernel)) rfl
theorem k728 : Cond.methodLink RX5 119 yX5_hasGoal ∈ GW := gw_of (tb 728 (by decide +kernel)) rfl
theorem k730 : Cond.instanceMethod yX5_hasGoal ∈ GW := gw_of (tb 730 (by decide +kernel)) rfl
theorem k731 : Cond.code yX5_hasGoal cX5_hasGoal 3 (some FieldType.boolean) ∈ GW := gw_of (tb 731 (by decide +kernel)) rfl
theorem k732 : Cond.methodLink RX5 122 yX5_ofProject ∈ GW := gw_of (tb 732 (by decide +kernel)) rfl
theorem k734 : Cond.instanceMethod yX5_ofProject ∈ GW := gw_of (tb 734 (by decide +kernel)) rfl
theorem k735 : Cond.code yX5_ofProject cX5_ofProject 4 (some FieldType.int) ∈ GW := gw_of (tb 735 (by decide +kernel)) rfl
theorem k736 : Cond.methodLink RL 39 yX5_pledgeOf ∈ GW := gw_of (tb 736 (by decide +kernel)) rfl
theorem k737 : Cond.instanceMethod yX5_pledgeOf ∈ GW := gw_of (tb 737 (by decide +kernel)) rfl
theorem k738 : Cond.selects RX5 yX5_pledgeOf yX5_pledgeOf ∈ GW := gw_of (tb 738 (by decide +kernel)) rfl
theorem k739 : Cond.code yX5_pledgeOf cX5_pledgeOf 5 (some FieldType.int) ∈ GW := gw_of (tb 739 (by decide +kernel)) rfl
theorem k740 : Cond.methodLink RL 43 yX5_projectOf ∈ GW := gw_of (tb 740 (by decide +kernel)) rfl
theorem k741 : Cond.instanceMethod yX5_projectOf ∈ GW := gw_of (tb 741 (by decide +kernel)) rfl
theorem k742 : Cond.selects RX5 yX5_projectOf yX5_projectOf ∈ GW := gw_of (tb 742 (by decide +kernel)) rfl
theorem k743 : Cond.code yX5_projectOf cX5_projectOf 6 (some FieldType.int) ∈ GW := gw_of (tb 743 (by decide +kernel)) rfl
theorem k744 : Cond.methodLink RX5 147 yX5_tipOf ∈ GW := gw_of (tb 744 (by decide +kernel)) rfl
theorem k746 : Cond.instanceMethod yX5_tipOf ∈ GW := gw_of (tb 746 (by decide +kernel)) rfl
theorem k747 : Cond.code yX5_tipOf cX5_tipOf 6 (some FieldType.int) ∈ GW := gw_of (tb 747 (by decide +kernel)) rfl
theorem k748 : Cond.methodLink RX5 150 yX5_neededFor ∈ GW := gw_of (tb 748 (by decide +kernel)) rfl
theorem k750 : Cond.instanceMethod yX5_neededFor ∈ GW := gw_of (tb 750 (by decide +kernel)) rfl
theorem k751 : Cond.code yX5_neededFor cX5_neededFor 5 (some FieldType.int) ∈ GW := gw_of (tb 751 (by decide +kernel)) rfl
theorem k752 : Cond.methodLink RX5 153 yX5_pushOf ∈ GW := gw_of (tb 752 (by decide +kernel)) rfl
theorem k754 : Cond.instanceMethod yX5_pushOf ∈ GW := gw_of (tb 754 (by decide +kernel)) rfl
theorem k755 : Cond.code yX5_pushOf cX5_pushOf 2 (some FieldType.int) ∈ GW := gw_of (tb 755 (by decide +kernel)) rfl
theorem k756 : Cond.methodLink RL 47 yX5_personOf ∈ GW := gw_of (tb 756 (by decide +kernel)) rfl
theorem k757 : Cond.instanceMethod yX5_personOf ∈ GW := gw_of (tb 757 (by decide +kernel)) rfl
theorem k758 : Cond.selects RX5 yX5_personOf yX5_personOf ∈ GW := gw_of (tb 758 (by decide +kernel)) rfl
theorem k759 : Cond.code yX5_personOf cX5_personOf 6 (some FieldType.int) ∈ GW := gw_of (tb 759 (by decide +kernel)) rfl
theorem k760 : Cond.methodLink RX5 156 yX5_many ∈ GW := gw_of (tb 760 (by decide +kernel)) rfl
theorem k761 : Cond.static yX5_many ∈ GW := gw_of (tb 761 (by decide +kernel)) rfl
theorem k762 : Cond.code yX5_many cX5_many 3 (some FieldType.int) ∈ GW := gw_of (tb 762 (by decide +kernel)) rfl
theorem k763 : Cond.methodLink RL 51 yX5_standing ∈ GW := gw_of (tb 763 (by decide +kernel)) rfl
theorem k764 : Cond.instanceMethod yX5_standing ∈ GW := gw_of (tb 764 (by decide +kernel)) rfl
theorem k765 : Cond.selects RX5 yX5_standing yX5_standing ∈ GW := gw_of (tb 765 (by decide +kernel)) rfl
theorem k766 : Cond.code yX5_standing cX5_standing 2 (some FieldType.int) ∈ GW := gw_of (tb 766 (by decide +kernel)) rfl
theorem k767 : Cond.methodLink RX5 159 yX5_isSet ∈ GW := gw_of (tb 767 (by decide +kernel)) rfl
theorem k769 : Cond.instanceMethod yX5_isSet ∈ GW := gw_of (tb 769 (by decide +kernel)) rfl
theorem k770 : Cond.code yX5_isSet cX5_isSet 2 (some FieldType.boolean) ∈ GW := gw_of (tb 770 (by decide +kernel)) rfl
theorem k771 : Cond.methodLink RL 55 yX5_setOf ∈ GW := gw_of (tb 771 (by decide +kernel)) rfl
theorem k772 : Cond.instanceMethod yX5_setOf ∈ GW := gw_of (tb 772 (by decide +kernel)) rfl
theorem k773 : Cond.selects RX5 yX5_setOf yX5_setOf ∈ GW := gw_of (tb 773 (by decide +kernel)) rfl
theorem k774 : Cond.code yX5_setOf cX5_setOf 5 (some FieldType.int) ∈ GW := gw_of (tb 774 (by decide +kernel)) rfl
theorem k775 : Cond.methodLink RL 59 yX5_orderAt ∈ GW := gw_of (tb 775 (by decide +kernel)) rfl
theorem k776 : Cond.instanceMethod yX5_orderAt ∈ GW := gw_of (tb 776 (by decide +kernel)) rfl
theorem k777 : Cond.selects RX5 yX5_orderAt yX5_orderAt ∈ GW := gw_of (tb 777 (by decide +kernel)) rfl
theorem k778 : Cond.code yX5_orderAt cX5_orderAt 8 (some FieldType.int) ∈ GW := gw_of (tb 778 (by decide +kernel)) rfl
theorem k779 : Cond.methodLink RX5 162 yX5_isAhead ∈ GW := gw_of (tb 779 (by decide +kernel)) rfl
theorem k781 : Cond.instanceMethod yX5_isAhead ∈ GW := gw_of (tb 781 (by decide +kernel)) rfl
theorem k782 : Cond.code yX5_isAhead cX5_isAhead 8 (some FieldType.boolean) ∈ GW := gw_of (tb 782 (by decide +kernel)) rfl
theorem k783 : Cond.methodLink RL 63 yX5_count ∈ GW := gw_of (tb 783 (by decide +kernel)) rfl
theorem k784 : Cond.instanceMethod yX5_count ∈ GW := gw_of (tb 784 (by decide +kernel)) rfl
theorem k785 : Cond.selects RX5 yX5_count yX5_count ∈ GW := gw_of (tb 785 (by decide +kernel)) rfl
theorem k786 : Cond.code yX5_count cX5_count 2 (some FieldType.int) ∈ GW := gw_of (tb 786 (by decide +kernel)) rfl
theorem k787 : Cond.methodLink RX5 165 yX5_wavesNow ∈ GW := gw_of (tb 787 (by decide +kernel)) rfl
theorem k789 : Cond.instanceMethod yX5_wavesNow ∈ GW := gw_of (tb 789 (by decide +kernel)) rfl
theorem k790 : Cond.code yX5_wavesNow cX5_wavesNow 2 (some FieldType.int) ∈ GW := gw_of (tb 790 (by decide +kernel)) rfl
theorem k791 : Cond.methodLink RX5 168 yX5_setsThatHold ∈ GW := gw_of (tb 791 (by decide +kernel)) rfl
theorem k793 : Cond.instanceMethod yX5_setsThatHold ∈ GW := gw_of (tb 793 (by decide +kernel)) rfl
theorem k794 : Cond.code yX5_setsThatHold cX5_setsThatHold 5 (some FieldType.int) ∈ GW := gw_of (tb 794 (by decide +kernel)) rfl
theorem k795 : Cond.methodLink RX5 171 yX5_goalsNow ∈ GW := gw_of (tb 795 (by decide +kernel)) rfl
theorem k797 : Cond.instanceMethod yX5_goalsNow ∈ GW := gw_of (tb 797 (by decide +kernel)) rfl
theorem k798 : Cond.code yX5_goalsNow cX5_goalsNow 4 (some FieldType.int) ∈ GW := gw_of (tb 798 (by decide +kernel)) rfl
theorem k799 : Cond.methodLink RL 68 yX5_undo ∈ GW := gw_of (tb 799 (by decide +kernel)) rfl
theorem k800 : Cond.instanceMethod yX5_undo ∈ GW := gw_of (tb 800 (by decide +kernel)) rfl
theorem k801 : Cond.selects RX5 yX5_undo yX5_undo ∈ GW := gw_of (tb 801 (by decide +kernel)) rfl
theorem k802 : Cond.code yX5_undo cX5_undo 2 (some FieldType.int) ∈ GW := gw_of (tb 802 (by decide +kernel)) rfl
theorem k803 : Cond.methodLink RL 72 yX5_type ∈ GW := gw_of (tb 803 (by decide +kernel)) rfl
theorem k804 : Cond.instanceMethod yX5_type ∈ GW := gw_of (tb 804 (by decide +kernel)) rfl
theorem k805 : Cond.selects RX5 yX5_type yX5_type ∈ GW := gw_of (tb 805 (by decide +kernel)) rfl
theorem k806 : Cond.code yX5_type cX5_type 2 (some FieldType.int) ∈ GW := gw_of (tb 806 (by decide +kernel)) rfl
theorem k807 : Cond.methodLink RL 76 yX5_clearText ∈ GW := gw_of (tb 807 (by decide +kernel)) rfl
theorem k808 : Cond.instanceMethod yX5_clearText ∈ GW := gw_of (tb 808 (by decide +kernel)) rfl
theorem k809 : Cond.selects RX5 yX5_clearText yX5_clearText ∈ GW := gw_of (tb 809 (by decide +kernel)) rfl
theorem k810 : Cond.code yX5_clearText cX5_clearText 2 (some FieldType.int) ∈ GW := gw_of (tb 810 (by decide +kernel)) rfl
theorem k811 : Cond.methodLink RL 80 yX5_fault ∈ GW := gw_of (tb 811 (by decide +kernel)) rfl
theorem k812 : Cond.instanceMethod yX5_fault ∈ GW := gw_of (tb 812 (by decide +kernel)) rfl
theorem k813 : Cond.selects RX5 yX5_fault yX5_fault ∈ GW := gw_of (tb 813 (by decide +kernel)) rfl
theorem k814 : Cond.code yX5_fault cX5_fault 3 (some FieldType.int) ∈ GW := gw_of (tb 814 (by decide +kernel)) rfl
theorem k815 : Cond.methodLink RX5 202 yX5_does ∈ GW := gw_of (tb 815 (by decide +kernel)) rfl
theorem k817 : Cond.instanceMethod yX5_does ∈ GW := gw_of (tb 817 (by decide +kernel)) rfl
theorem k818 : Cond.code yX5_does cX5_does 3 (some FieldType.int) ∈ GW := gw_of (tb 818 (by decide +kernel)) rfl
theorem k819 : Cond.methodLink RX5 193 yX5_command ∈ GW := gw_of (tb 819 (by decide +kernel)) rfl
theorem k821 : Cond.instanceMethod yX5_command ∈ GW := gw_of (tb 821 (by decide +kernel)) rfl
theorem k822 : Cond.code yX5_command cX5_command 4 (some FieldType.int) ∈ GW := gw_of (tb 822 (by decide +kernel)) rfl
theorem k823 : Cond.methodLink RX5 184 yX5_here ∈ GW := gw_of (tb 823 (by decide +kernel)) rfl
theorem k825 : Cond.instanceMethod yX5_here ∈ GW := gw_of (tb 825 (by decide +kernel)) rfl
theorem k826 : Cond.code yX5_here cX5_here 1 (some FieldType.int) ∈ GW := gw_of (tb 826 (by decide +kernel)) rfl
theorem k827 : Cond.methodLink RX5 190 yX5_readNumber ∈ GW := gw_of (tb 827 (by decide +kernel)) rfl
theorem k829 : Cond.instanceMethod yX5_readNumber ∈ GW := gw_of (tb 829 (by decide +kernel)) rfl
theorem k830 : Cond.code yX5_readNumber cX5_readNumber 4 (some FieldType.int) ∈ GW := gw_of (tb 830 (by decide +kernel)) rfl
theorem k831 : Cond.methodLink RX5 187 yX5_must ∈ GW := gw_of (tb 831 (by decide +kernel)) rfl
theorem k833 : Cond.instanceMethod yX5_must ∈ GW := gw_of (tb 833 (by decide +kernel)) rfl
theorem k834 : Cond.code yX5_must cX5_must 2 (none) ∈ GW := gw_of (tb 834 (by decide +kernel)) rfl
theorem k835 : Cond.methodLink RX5 205 yX5_returns ∈ GW := gw_of (tb 835 (by decide +kernel)) rfl
theorem k837 : Cond.instanceMethod yX5_returns ∈ GW := gw_of (tb 837 (by decide +kernel)) rfl
theorem k838 : Cond.code yX5_returns cX5_returns 2 (none) ∈ GW := gw_of (tb 838 (by decide +kernel)) rfl
theorem k839 : Cond.methodLink RL 84 yX5_play ∈ GW := gw_of (tb 839 (by decide +kernel)) rfl
theorem k840 : Cond.instanceMethod yX5_play ∈ GW := gw_of (tb 840 (by decide +kernel)) rfl
theorem k841 : Cond.selects RX5 yX5_play yX5_play ∈ GW := gw_of (tb 841 (by decide +kernel)) rfl
theorem k842 : Cond.code yX5_play cX5_play 2 (some FieldType.int) ∈ GW := gw_of (tb 842 (by decide +kernel)) rfl
theorem ks0 : Cond.selects RX4 yX4_keepState yX4_keepState ∈ GW := gw_of (sl (q := (yX4_keepState, 7)) 0 (by decide +kernel)) rfl
theorem ks1 : Cond.selects RX2 yX2_copyFrom yX2_copyFrom ∈ GW := gw_of (sl (q := (yX2_copyFrom, 17)) 1 (by decide +kernel)) rfl
theorem ks2 : Cond.selects RX0 yX0_addProject yX0_addProject ∈ GW := gw_of (sl (q := (yX0_addProject, 2)) 2 (by decide +kernel)) rfl
theorem ks3 : Cond.selects RX4 yX4_settle yX4_settle ∈ GW := gw_of (sl (q := (yX4_settle, 7)) 3 (by decide +kernel)) rfl
theorem ks4 : Cond.selects RX4 yX4_dropOldest yX4_dropOldest ∈ GW := gw_of (sl (q := (yX4_dropOldest, 7)) 4 (by decide +kernel)) rfl
theorem ks5 : Cond.selects RX0 yX0_addPerson yX0_addPerson ∈ GW := gw_of (sl (q := (yX0_addPerson, 2)) 5 (by decide +kernel)) rfl
theorem ks6 : Cond.selects RX0 yX0_makePledge yX0_makePledge ∈ GW := gw_of (sl (q := (yX0_makePledge, 2)) 6 (by decide +kernel)) rfl
theorem ks7 : Cond.selects RX2 yX2_hasPerson yX2_hasPerson ∈ GW := gw_of (sl (q := (yX2_hasPerson, 17)) 7 (by decide +kernel)) rfl
theorem ks8 : Cond.selects RX2 yX2_hasProject yX2_hasProject ∈ GW := gw_of (sl (q := (yX2_hasProject, 17)) 8 (by decide +kernel)) rfl
theorem ks9 : Cond.selects RX0 yX0_isCondition yX0_isCondition ∈ GW := gw_of (sl (q := (yX0_isCondition, 2)) 9 (by decide +kernel)) rfl
theorem ks10 : Cond.selects RX2 yX2_pledgesOf yX2_pledgesOf ∈ GW := gw_of (sl (q := (yX2_pledgesOf, 17)) 10 (by decide +kernel)) rfl
theorem ks11 : Cond.selects RX2 yX2_pledges yX2_pledges ∈ GW := gw_of (sl (q := (yX2_pledges, 17)) 11 (by decide +kernel)) rfl
theorem ks12 : Cond.selects RX2 yX2_sum yX2_sum ∈ GW := gw_of (sl (q := (yX2_sum, 17)) 12 (by decide +kernel)) rfl
theorem ks13 : Cond.selects RX2 yX2_isClosed yX2_isClosed ∈ GW := gw_of (sl (q := (yX2_isClosed, 17)) 13 (by decide +kernel)) rfl
theorem ks14 : Cond.selects RX2 yX2_lowestFreeNumber yX2_lowestFreeNumber ∈ GW := gw_of (sl (q := (yX2_lowestFreeNumber, 17)) 14 (by decide +kernel)) rfl
theorem ks15 : Cond.selects RX2 yX2_hasPledge yX2_hasPledge ∈ GW := gw_of (sl (q := (yX2_hasPledge, 17)) 15 (by decide +kernel)) rfl
theorem ks16 : Cond.selects RX0 yX0_takeBack yX0_takeBack ∈ GW := gw_of (sl (q := (yX0_takeBack, 2)) 16 (by decide +kernel)) rfl
theorem ks17 : Cond.selects RX1 yX1_greatest yX1_greatest ∈ GW := gw_of (sl (q := (yX1_greatest, 4)) 17 (by decide +kernel)) rfl
theorem ks18 : Cond.selects RX1 yX1_failing yX1_failing ∈ GW := gw_of (sl (q := (yX1_failing, 4)) 18 (by decide +kernel)) rfl
theorem ks19 : Cond.selects RX1 yX1_gather yX1_gather ∈ GW := gw_of (sl (q := (yX1_gather, 4)) 19 (by decide +kernel)) rfl
theorem ks20 : Cond.selects RX1 yX1_holds yX1_holds ∈ GW := gw_of (sl (q := (yX1_holds, 4)) 20 (by decide +kernel)) rfl
theorem ks21 : Cond.selects RX0 yX0_collect yX0_collect ∈ GW := gw_of (sl (q := (yX0_collect, 2)) 21 (by decide +kernel)) rfl
theorem ks22 : Cond.selects RX2 yX2_pledgesFor yX2_pledgesFor ∈ GW := gw_of (sl (q := (yX2_pledgesFor, 17)) 22 (by decide +kernel)) rfl
theorem ks23 : Cond.selects RX1 yX1_stand yX1_stand ∈ GW := gw_of (sl (q := (yX1_stand, 4)) 23 (by decide +kernel)) rfl
theorem ks24 : Cond.selects RX1 yX1_standWithout yX1_standWithout ∈ GW := gw_of (sl (q := (yX1_standWithout, 4)) 24 (by decide +kernel)) rfl
theorem ks25 : Cond.selects RX4 yX4_fallOf yX4_fallOf ∈ GW := gw_of (sl (q := (yX4_fallOf, 7)) 25 (by decide +kernel)) rfl
theorem ks26 : Cond.selects RX1 yX1_waveOf yX1_waveOf ∈ GW := gw_of (sl (q := (yX1_waveOf, 4)) 26 (by decide +kernel)) rfl
theorem ks27 : Cond.selects RX4 yX4_toppledBy yX4_toppledBy ∈ GW := gw_of (sl (q := (yX4_toppledBy, 7)) 27 (by decide +kernel)) rfl
theorem ks28 : Cond.selects RX1 yX1_fallenWithout yX1_fallenWithout ∈ GW := gw_of (sl (q := (yX1_fallenWithout, 4)) 28 (by decide +kernel)) rfl
theorem ks29 : Cond.selects RX1 yX1_hasGoal yX1_hasGoal ∈ GW := gw_of (sl (q := (yX1_hasGoal, 4)) 29 (by decide +kernel)) rfl
theorem ks30 : Cond.selects RX1 yX1_reaches yX1_reaches ∈ GW := gw_of (sl (q := (yX1_reaches, 4)) 30 (by decide +kernel)) rfl
theorem ks31 : Cond.selects RX1 yX1_tip yX1_tip ∈ GW := gw_of (sl (q := (yX1_tip, 4)) 31 (by decide +kernel)) rfl
theorem ks32 : Cond.selects RX2 yX2_pledgesUpTo yX2_pledgesUpTo ∈ GW := gw_of (sl (q := (yX2_pledgesUpTo, 17)) 32 (by decide +kernel)) rfl
theorem ks33 : Cond.selects RX1 yX1_needed yX1_needed ∈ GW := gw_of (sl (q := (yX1_needed, 4)) 33 (by decide +kernel)) rfl
theorem ks34 : Cond.selects RX1 yX1_push yX1_push ∈ GW := gw_of (sl (q := (yX1_push, 4)) 34 (by decide +kernel)) rfl
theorem ks35 : Cond.selects RX1 yX1_reachesWith yX1_reachesWith ∈ GW := gw_of (sl (q := (yX1_reachesWith, 4)) 35 (by decide +kernel)) rfl
theorem ks36 : Cond.selects RX2 yX2_thinkOfExtra yX2_thinkOfExtra ∈ GW := gw_of (sl (q := (yX2_thinkOfExtra, 17)) 36 (by decide +kernel)) rfl
theorem ks37 : Cond.selects RX4 yX4_errorOfSet yX4_errorOfSet ∈ GW := gw_of (sl (q := (yX4_errorOfSet, 7)) 37 (by decide +kernel)) rfl
theorem ks38 : Cond.selects RX4 yX4_keyOf yX4_keyOf ∈ GW := gw_of (sl (q := (yX4_keyOf, 7)) 38 (by decide +kernel)) rfl
theorem ks39 : Cond.selects RX4 yX4_keysBelow yX4_keysBelow ∈ GW := gw_of (sl (q := (yX4_keysBelow, 7)) 39 (by decide +kernel)) rfl
theorem ks40 : Cond.selects RX1 yX1_waves yX1_waves ∈ GW := gw_of (sl (q := (yX1_waves, 4)) 40 (by decide +kernel)) rfl
theorem ks41 : Cond.selects RX1 yX1_setsThatHold yX1_setsThatHold ∈ GW := gw_of (sl (q := (yX1_setsThatHold, 4)) 41 (by decide +kernel)) rfl
theorem ks42 : Cond.selects RX1 yX1_projectsWithGoal yX1_projectsWithGoal ∈ GW := gw_of (sl (q := (yX1_projectsWithGoal, 4)) 42 (by decide +kernel)) rfl
theorem ks43 : Cond.selects RX3 yX3_append yX3_append ∈ GW := gw_of (sl (q := (yX3_append, 9)) 43 (by decide +kernel)) rfl
theorem ks44 : Cond.selects RX3 yX3_empty yX3_empty ∈ GW := gw_of (sl (q := (yX3_empty, 9)) 44 (by decide +kernel)) rfl
theorem ks45 : Cond.selects RX3 yX3_tryOn yX3_tryOn ∈ GW := gw_of (sl (q := (yX3_tryOn, 9)) 45 (by decide +kernel)) rfl
theorem ks46 : Cond.selects RX3 yX3_tellFault yX3_tellFault ∈ GW := gw_of (sl (q := (yX3_tellFault, 9)) 46 (by decide +kernel)) rfl
theorem ks47 : Cond.selects RX3 yX3_readCommand yX3_readCommand ∈ GW := gw_of (sl (q := (yX3_readCommand, 9)) 47 (by decide +kernel)) rfl
theorem ks48 : Cond.selects RX3 yX3_signAt yX3_signAt ∈ GW := gw_of (sl (q := (yX3_signAt, 9)) 48 (by decide +kernel)) rfl
theorem ks49 : Cond.selects RX3 yX3_numbersBehind yX3_numbersBehind ∈ GW := gw_of (sl (q := (yX3_numbersBehind, 9)) 49 (by decide +kernel)) rfl
theorem ks50 : Cond.selects RX3 yX3_readNumber yX3_readNumber ∈ GW := gw_of (sl (q := (yX3_readNumber, 9)) 50 (by decide +kernel)) rfl
theorem ks51 : Cond.selects RX3 yX3_doCommand yX3_doCommand ∈ GW := gw_of (sl (q := (yX3_doCommand, 9)) 51 (by decide +kernel)) rfl
theorem ks52 : Cond.selects RX3 yX3_hasFault yX3_hasFault ∈ GW := gw_of (sl (q := (yX3_hasFault, 9)) 52 (by decide +kernel)) rfl
theorem ks53 : Cond.selects RX5 yX5_begins yX5_begins ∈ GW := gw_of (sl (q := (yX5_begins, 15)) 53 (by decide +kernel)) rfl
theorem ks54 : Cond.selects RX5 yX5_adds yX5_adds ∈ GW := gw_of (sl (q := (yX5_adds, 15)) 54 (by decide +kernel)) rfl
theorem ks55 : Cond.selects RX5 yX5_acted yX5_acted ∈ GW := gw_of (sl (q := (yX5_acted, 15)) 55 (by decide +kernel)) rfl
theorem ks56 : Cond.selects RX5 yX5_comes yX5_comes ∈ GW := gw_of (sl (q := (yX5_comes, 15)) 56 (by decide +kernel)) rfl
theorem ks57 : Cond.selects RX5 yX5_makes yX5_makes ∈ GW := gw_of (sl (q := (yX5_makes, 15)) 57 (by decide +kernel)) rfl
theorem ks58 : Cond.selects RX5 yX5_isPerson yX5_isPerson ∈ GW := gw_of (sl (q := (yX5_isPerson, 15)) 58 (by decide +kernel)) rfl
theorem ks59 : Cond.selects RX5 yX5_isProject yX5_isProject ∈ GW := gw_of (sl (q := (yX5_isProject, 15)) 59 (by decide +kernel)) rfl
theorem ks60 : Cond.selects RX5 yX5_isCondition yX5_isCondition ∈ GW := gw_of (sl (q := (yX5_isCondition, 15)) 60 (by decide +kernel)) rfl
theorem ks61 : Cond.selects RX5 yX5_isClosed yX5_isClosed ∈ GW := gw_of (sl (q := (yX5_isClosed, 15)) 61 (by decide +kernel)) rfl
theorem ks62 : Cond.selects RX5 yX5_ofPerson yX5_ofPerson ∈ GW := gw_of (sl (q := (yX5_ofPerson, 15)) 62 (by decide +kernel)) rfl
theorem ks63 : Cond.selects RX5 yX5_of yX5_of ∈ GW := gw_of (sl (q := (yX5_of, 15)) 63 (by decide +kernel)) rfl
theorem ks64 : Cond.selects RX5 yX5_open yX5_open ∈ GW := gw_of (sl (q := (yX5_open, 15)) 64 (by decide +kernel)) rfl
theorem ks65 : Cond.selects RX5 yX5_pledges yX5_pledges ∈ GW := gw_of (sl (q := (yX5_pledges, 15)) 65 (by decide +kernel)) rfl
theorem ks66 : Cond.selects RX5 yX5_amountOf yX5_amountOf ∈ GW := gw_of (sl (q := (yX5_amountOf, 15)) 66 (by decide +kernel)) rfl
theorem ks67 : Cond.selects RX5 yX5_lowestFree yX5_lowestFree ∈ GW := gw_of (sl (q := (yX5_lowestFree, 15)) 67 (by decide +kernel)) rfl
theorem ks68 : Cond.selects RX5 yX5_withdraws yX5_withdraws ∈ GW := gw_of (sl (q := (yX5_withdraws, 15)) 68 (by decide +kernel)) rfl
theorem ks69 : Cond.selects RX5 yX5_isPledge yX5_isPledge ∈ GW := gw_of (sl (q := (yX5_isPledge, 15)) 69 (by decide +kernel)) rfl
theorem ks70 : Cond.selects RX5 yX5_stands yX5_stands ∈ GW := gw_of (sl (q := (yX5_stands, 15)) 70 (by decide +kernel)) rfl
theorem ks71 : Cond.selects RX5 yX5_called yX5_called ∈ GW := gw_of (sl (q := (yX5_called, 15)) 71 (by decide +kernel)) rfl
theorem ks72 : Cond.selects RX5 yX5_greatest yX5_greatest ∈ GW := gw_of (sl (q := (yX5_greatest, 15)) 72 (by decide +kernel)) rfl
theorem ks73 : Cond.selects RX5 yX5_fallingOf yX5_fallingOf ∈ GW := gw_of (sl (q := (yX5_fallingOf, 15)) 73 (by decide +kernel)) rfl
theorem ks74 : Cond.selects RX5 yX5_holds yX5_holds ∈ GW := gw_of (sl (q := (yX5_holds, 15)) 74 (by decide +kernel)) rfl
theorem ks75 : Cond.selects RX5 yX5_moneyFor yX5_moneyFor ∈ GW := gw_of (sl (q := (yX5_moneyFor, 15)) 75 (by decide +kernel)) rfl
theorem ks76 : Cond.selects RX5 yX5_manyFor yX5_manyFor ∈ GW := gw_of (sl (q := (yX5_manyFor, 15)) 76 (by decide +kernel)) rfl
theorem ks77 : Cond.selects RX5 yX5_isOf yX5_isOf ∈ GW := gw_of (sl (q := (yX5_isOf, 15)) 77 (by decide +kernel)) rfl
theorem ks78 : Cond.selects RX5 yX5_goal yX5_goal ∈ GW := gw_of (sl (q := (yX5_goal, 15)) 78 (by decide +kernel)) rfl
theorem ks79 : Cond.selects RX5 yX5_forgets yX5_forgets ∈ GW := gw_of (sl (q := (yX5_forgets, 15)) 79 (by decide +kernel)) rfl
theorem ks80 : Cond.selects RX5 yX5_calls yX5_calls ∈ GW := gw_of (sl (q := (yX5_calls, 15)) 80 (by decide +kernel)) rfl
theorem ks81 : Cond.selects RX5 yX5_hasGoal yX5_hasGoal ∈ GW := gw_of (sl (q := (yX5_hasGoal, 15)) 81 (by decide +kernel)) rfl
theorem ks82 : Cond.selects RX5 yX5_ofProject yX5_ofProject ∈ GW := gw_of (sl (q := (yX5_ofProject, 15)) 82 (by decide +kernel)) rfl
theorem ks83 : Cond.selects RX5 yX5_tipOf yX5_tipOf ∈ GW := gw_of (sl (q := (yX5_tipOf, 15)) 83 (by decide +kernel)) rfl
theorem ks84 : Cond.selects RX5 yX5_neededFor yX5_neededFor ∈ GW := gw_of (sl (q := (yX5_neededFor, 15)) 84 (by decide +kernel)) rfl
theorem ks85 : Cond.selects RX5 yX5_pushOf yX5_pushOf ∈ GW := gw_of (sl (q := (yX5_pushOf, 15)) 85 (by decide +kernel)) rfl
theorem ks86 : Cond.selects RX5 yX5_isSet yX5_isSet ∈ GW := gw_of (sl (q := (yX5_isSet, 15)) 86 (by decide +kernel)) rfl
theorem ks87 : Cond.selects RX5 yX5_isAhead yX5_isAhead ∈ GW := gw_of (sl (q := (yX5_isAhead, 15)) 87 (by decide +kernel)) rfl
theorem ks88 : Cond.selects RX5 yX5_wavesNow yX5_wavesNow ∈ GW := gw_of (sl (q := (yX5_wavesNow, 15)) 88 (by decide +kernel)) rfl
theorem ks89 : Cond.selects RX5 yX5_setsThatHold yX5_setsThatHold ∈ GW := gw_of (sl (q := (yX5_setsThatHold, 15)) 89 (by decide +kernel)) rfl
theorem ks90 : Cond.selects RX5 yX5_goalsNow yX5_goalsNow ∈ GW := gw_of (sl (q := (yX5_goalsNow, 15)) 90 (by decide +kernel)) rfl
theorem ks91 : Cond.selects RX5 yX5_does yX5_does ∈ GW := gw_of (sl (q := (yX5_does, 15)) 91 (by decide +kernel)) rfl
theorem ks92 : Cond.selects RX5 yX5_command yX5_command ∈ GW := gw_of (sl (q := (yX5_command, 15)) 92 (by decide +kernel)) rfl
theorem ks93 : Cond.selects RX5 yX5_here yX5_here ∈ GW := gw_of (sl (q := (yX5_here, 15)) 93 (by decide +kernel)) rfl
theorem ks94 : Cond.selects RX5 yX5_readNumber yX5_readNumber ∈ GW := gw_of (sl (q := (yX5_readNumber, 15)) 94 (by decide +kernel)) rfl
theorem ks95 : Cond.selects RX5 yX5_must yX5_must ∈ GW := gw_of (sl (q := (yX5_must, 15)) 95 (by decide +kernel)) rfl
theorem ks96 : Cond.selects RX5 yX5_returns yX5_returns ∈ GW := gw_of (sl (q := (yX5_returns, 15)) 96 (by decide +kernel)) rfl
theorem inX0 : ∀ w ∈ u_ws RX0 TX0 2, w ∈ GW := by
  intro w h
  obtain ⟨k, hk, rfl⟩ := List.mem_map.mp h
  have hk := List.mem_range.mp hk
  match k, hk with
  | 0, _ => exact k147
  | 1, _ => exact k149
  | n + 2, h => exact absurd h (by omega)
theorem inX1 : ∀ w ∈ u_ws RX1 TX1 4, w ∈ GW := by
  intro w h
  obtain ⟨k, hk, rfl⟩ := List.mem_map.mp h
  have hk := List.mem_range.mp hk
  match k, hk with
  | 0, _ => exact k130
  | 1, _ => exact k132
  | 2, _ => exact k134
  | 3, _ => exact k136
  | n + 4, h => exact absurd h (by omega)
theorem inX2 : ∀ w ∈ u_ws RX2 TX2 17, w ∈ GW := by
  intro w h
  obtain ⟨k, hk, rfl⟩ := List.mem_map.mp h
  have hk := List.mem_range.mp hk
  match k, hk with
  | 0, _ => exact k84
  | 1, _ => exact k86
  | 2, _ => exact k88
  | 3, _ => exact k90
  | 4, _ => exact k92
  | 5, _ => exact k94
  | 6, _ => exact k96
  | 7, _ => exact k98
  | 8, _ => exact k100
  | 9, _ => exact k102
  | 10, _ => exact k104
  | 11, _ => exact k106
  | 12, _ => exact k108
  | 13, _ => exact k110
  | 14, _ => exact k112
  | 15, _ => exact k114
  | 16, _ => exact k116
  | n + 17, h => exact absurd h (by omega)
theorem inX3 : ∀ w ∈ u_ws RX3 TX3 9, w ∈ GW := by
  intro w h
  obtain ⟨k, hk, rfl⟩ := List.mem_map.mp h
  have hk := List.mem_range.mp hk
  match k, hk with
  | 0, _ => exact k179
  | 1, _ => exact k181
  | 2, _ => exact k183
  | 3, _ => exact k185
  | 4, _ => exact k187
  | 5, _ => exact k189
  | 6, _ => exact k191
  | 7, _ => exact k193
  | 8, _ => exact k195
  | n + 9, h => exact absurd h (by omega)
theorem inX4 : ∀ w ∈ u_ws RX4 TX4 7, w ∈ GW := by
  intro w h
  obtain ⟨k, hk, rfl⟩ := List.mem_map.mp h
  have hk := List.mem_range.mp hk
  match k, hk with
  | 0, _ => exact k207
  | 1, _ => exact k209
  | 2, _ => exact k211
  | 3, _ => exact k213
  | 4, _ => exact k215
  | 5, _ => exact k217
  | 6, _ => exact k219
  | n + 7, h => exact absurd h (by omega)
theorem inX5 : ∀ w ∈ u_ws RX5 TX5 15, w ∈ GW := by
  intro w h
  obtain ⟨k, hk, rfl⟩ := List.mem_map.mp h
  have hk := List.mem_range.mp hk
  match k, hk with
  | 0, _ => exact k559
  | 1, _ => exact k561
  | 2, _ => exact k563
  | 3, _ => exact k565
  | 4, _ => exact k567
  | 5, _ => exact k569
  | 6, _ => exact k571
  | 7, _ => exact k573
  | 8, _ => exact k575
  | 9, _ => exact k577
  | 10, _ => exact k579
  | 11, _ => exact k581
  | 12, _ => exact k583
  | 13, _ => exact k585
  | 14, _ => exact k587
  | n + 15, h => exact absurd h (by omega)
end
section
theorem dX0_init_0 : decode cX0_init 0 = .ok (.aload_n 0, 1) := by decide +kernel
theorem dX0_init_1 : decode cX0_init 1 = .ok (.invokespecial 3, 3) := by decide +kernel
theorem dX0_init_4 : decode cX0_init 4 = .ok (.aload_n 0, 1) := by decide +kernel
theorem dX0_init_5 : decode cX0_init 5 = .ok (.aload_n 1, 1) := by decide +kernel
theorem dX0_init_6 : decode cX0_init 6 = .ok (.putfield 9, 3) := by decide +kernel
theorem dX0_init_9 : decode cX0_init 9 = .ok (.aload_n 0, 1) := by decide +kernel
theorem dX0_init_10 : decode cX0_init 10 = .ok (.aload_n 2, 1) := by decide +kernel
theorem dX0_init_11 : decode cX0_init 11 = .ok (.putfield 15, 3) := by decide +kernel
theorem dX0_init_14 : decode cX0_init 14 = .ok (.return_, 1) := by decide +kernel
theorem dX0_addProject_0 : decode cX0_addProject 0 = .ok (.iload_n 1, 1) := by decide +kernel
theorem dX0_addProject_1 : decode cX0_addProject 1 = .ok (.iconst 1, 1) := by decide +kernel
theorem dX0_addProject_2 : decode cX0_addProject 2 = .ok (.if_icmp .lt 10, 3) := by decide +kernel
theorem dX0_addProject_5 : decode cX0_addProject 5 = .ok (.iload_n 1, 1) := by decide +kernel
theorem dX0_addProject_6 : decode cX0_addProject 6 = .ok (.sipush 999, 3) := by decide +kernel
theorem dX0_addProject_9 : decode cX0_addProject 9 = .ok (.if_icmp .le 5, 3) := by decide +kernel
theorem dX0_addProject_12 : decode cX0_addProject 12 = .ok (.iconst (-1), 1) := by decide +kernel
theorem dX0_addProject_13 : decode cX0_addProject 13 = .ok (.ireturn, 1) := by decide +kernel
theorem dX0_addProject_14 : decode cX0_addProject 14 = .ok (.aload_n 0, 1) := by decide +kernel
theorem dX0_addProject_15 : decode cX0_addProject 15 = .ok (.getfield 9, 3) := by decide +kernel
theorem dX0_addProject_18 : decode cX0_addProject 18 = .ok (.getfield 19, 3) := by decide +kernel
theorem dX0_addProject_21 : decode cX0_addProject 21 = .ok (.istore_n 2, 1) := by decide +kernel
theorem dX0_addProject_22 : decode cX0_addProject 22 = .ok (.iload_n 2, 1) := by decide +kernel
theorem dX0_addProject_23 : decode cX0_addProject 23 = .ok (.iconst 4, 1) := by decide +kernel
theorem dX0_addProject_24 : decode cX0_addProject 24 = .ok (.if_icmp .lt 6, 3) := by decide +kernel
theorem dX0_addProject_27 : decode cX0_addProject 27 = .ok (.bipush (-3), 2) := by decide +kernel
theorem dX0_addProject_29 : decode cX0_addProject 29 = .ok (.ireturn, 1) := by decide +kernel
theorem dX0_addProject_30 : decode cX0_addProject 30 = .ok (.aload_n 0, 1) := by decide +kernel
theorem dX0_addProject_31 : decode cX0_addProject 31 = .ok (.getfield 9, 3) := by decide +kernel
theorem dX0_addProject_34 : decode cX0_addProject 34 = .ok (.getfield 25, 3) := by decide +kernel
theorem dX0_addProject_37 : decode cX0_addProject 37 = .ok (.iload_n 2, 1) := by decide +kernel
theorem dX0_addProject_38 : decode cX0_addProject 38 = .ok (.iload_n 1, 1) := by decide +kernel
theorem dX0_addProject_39 : decode cX0_addProject 39 = .ok (.iastore, 1) := by decide +kernel
theorem dX0_addProject_40 : decode cX0_addProject 40 = .ok (.aload_n 0, 1) := by decide +kernel
theorem dX0_addProject_41 : decode cX0_addProject 41 = .ok (.getfield 9, 3) := by decide +kernel
theorem dX0_addProject_44 : decode cX0_addProject 44 = .ok (.iload_n 2, 1) := by decide +kernel
theorem dX0_addProject_45 : decode cX0_addProject 45 = .ok (.iconst 1, 1) := by decide +kernel
theorem dX0_addProject_46 : decode cX0_addProject 46 = .ok (.iadd, 1) := by decide +kernel
theorem dX0_addProject_47 : decode cX0_addProject 47 = .ok (.putfield 19, 3) := by decide +kernel
theorem dX0_addProject_50 : decode cX0_addProject 50 = .ok (.iload_n 2, 1) := by decide +kernel
theorem dX0_addProject_51 : decode cX0_addProject 51 = .ok (.ireturn, 1) := by decide +kernel
theorem dX0_addPerson_0 : decode cX0_addPerson 0 = .ok (.iload_n 1, 1) := by decide +kernel
theorem dX0_addPerson_1 : decode cX0_addPerson 1 = .ok (.ifCond .lt 10, 3) := by decide +kernel
theorem dX0_addPerson_4 : decode cX0_addPerson 4 = .ok (.iload_n 1, 1) := by decide +kernel
theorem dX0_addPerson_5 : decode cX0_addPerson 5 = .ok (.sipush 999, 3) := by decide +kernel
theorem dX0_addPerson_8 : decode cX0_addPerson 8 = .ok (.if_icmp .le 5, 3) := by decide +kernel
theorem dX0_addPerson_11 : decode cX0_addPerson 11 = .ok (.iconst (-1), 1) := by decide +kernel
theorem dX0_addPerson_12 : decode cX0_addPerson 12 = .ok (.ireturn, 1) := by decide +kernel
theorem dX0_addPerson_13 : decode cX0_addPerson 13 = .ok (.aload_n 0, 1) := by decide +kernel
theorem dX0_addPerson_14 : decode cX0_addPerson 14 = .ok (.getfield 9, 3) := by decide +kernel
theorem dX0_addPerson_17 : decode cX0_addPerson 17 = .ok (.getfield 29, 3) := by decide +kernel
theorem dX0_addPerson_20 : decode cX0_addPerson 20 = .ok (.istore_n 2, 1) := by decide +kernel
theorem dX0_addPerson_21 : decode cX0_addPerson 21 = .ok (.iload_n 2, 1) := by decide +kernel
theorem dX0_addPerson_22 : decode cX0_addPerson 22 = .ok (.bipush 8, 2) := by decide +kernel
theorem dX0_addPerson_24 : decode cX0_addPerson 24 = .ok (.if_icmp .lt 6, 3) := by decide +kernel
theorem dX0_addPerson_27 : decode cX0_addPerson 27 = .ok (.bipush (-3), 2) := by decide +kernel
theorem dX0_addPerson_29 : decode cX0_addPerson 29 = .ok (.ireturn, 1) := by decide +kernel
theorem dX0_addPerson_30 : decode cX0_addPerson 30 = .ok (.aload_n 0, 1) := by decide +kernel
theorem dX0_addPerson_31 : decode cX0_addPerson 31 = .ok (.getfield 9, 3) := by decide +kernel
theorem dX0_addPerson_34 : decode cX0_addPerson 34 = .ok (.getfield 32, 3) := by decide +kernel
theorem dX0_addPerson_37 : decode cX0_addPerson 37 = .ok (.iload_n 2, 1) := by decide +kernel
theorem dX0_addPerson_38 : decode cX0_addPerson 38 = .ok (.iload_n 1, 1) := by decide +kernel
theorem dX0_addPerson_39 : decode cX0_addPerson 39 = .ok (.iastore, 1) := by decide +kernel
theorem dX0_addPerson_40 : decode cX0_addPerson 40 = .ok (.aload_n 0, 1) := by decide +kernel
theorem dX0_addPerson_41 : decode cX0_addPerson 41 = .ok (.getfield 9, 3) := by decide +kernel
theorem dX0_addPerson_44 : decode cX0_addPerson 44 = .ok (.iload_n 2, 1) := by decide +kernel
theorem dX0_addPerson_45 : decode cX0_addPerson 45 = .ok (.iconst 1, 1) := by decide +kernel
theorem dX0_addPerson_46 : decode cX0_addPerson 46 = .ok (.iadd, 1) := by decide +kernel
theorem dX0_addPerson_47 : decode cX0_addPerson 47 = .ok (.putfield 29, 3) := by decide +kernel
theorem dX0_addPerson_50 : decode cX0_addPerson 50 = .ok (.iload_n 2, 1) := by decide +kernel
theorem dX0_addPerson_51 : decode cX0_addPerson 51 = .ok (.ireturn, 1) := by decide +kernel
theorem dX0_makePledge_0 : decode cX0_makePledge 0 = .ok (.aload_n 0, 1) := by decide +kernel
theorem dX0_makePledge_1 : decode cX0_makePledge 1 = .ok (.getfield 9, 3) := by decide +kernel
theorem dX0_makePledge_4 : decode cX0_makePledge 4 = .ok (.iload_n 1, 1) := by decide +kernel
theorem dX0_makePledge_5 : decode cX0_makePledge 5 = .ok (.invokevirtual 35, 3) := by decide +kernel
theorem dX0_makePledge_8 : decode cX0_makePledge 8 = .ok (.ifCond .eq 39, 3) := by decide +kernel
theorem dX0_makePledge_11 : decode cX0_makePledge 11 = .ok (.aload_n 0, 1) := by decide +kernel
theorem dX0_makePledge_12 : decode cX0_makePledge 12 = .ok (.getfield 9, 3) := by decide +kernel
theorem dX0_makePledge_15 : decode cX0_makePledge 15 = .ok (.iload_n 2, 1) := by decide +kernel
theorem dX0_makePledge_16 : decode cX0_makePledge 16 = .ok (.invokevirtual 39, 3) := by decide +kernel
theorem dX0_makePledge_19 : decode cX0_makePledge 19 = .ok (.ifCond .eq 28, 3) := by decide +kernel
theorem dX0_makePledge_22 : decode cX0_makePledge 22 = .ok (.iload_n 3, 1) := by decide +kernel
theorem dX0_makePledge_23 : decode cX0_makePledge 23 = .ok (.iconst 1, 1) := by decide +kernel
theorem dX0_makePledge_24 : decode cX0_makePledge 24 = .ok (.if_icmp .lt 23, 3) := by decide +kernel
theorem dX0_makePledge_27 : decode cX0_makePledge 27 = .ok (.iload_n 3, 1) := by decide +kernel
theorem dX0_makePledge_28 : decode cX0_makePledge 28 = .ok (.sipush 999, 3) := by decide +kernel
theorem dX0_makePledge_31 : decode cX0_makePledge 31 = .ok (.if_icmp .gt 16, 3) := by decide +kernel
theorem dX0_makePledge_34 : decode cX0_makePledge 34 = .ok (.aload_n 0, 1) := by decide +kernel
theorem dX0_makePledge_35 : decode cX0_makePledge 35 = .ok (.iload_n 1, 1) := by decide +kernel
theorem dX0_makePledge_36 : decode cX0_makePledge 36 = .ok (.iload_n 2, 1) := by decide +kernel
theorem dX0_makePledge_37 : decode cX0_makePledge 37 = .ok (.iload 4, 2) := by decide +kernel
theorem dX0_makePledge_39 : decode cX0_makePledge 39 = .ok (.iload 5, 2) := by decide +kernel
theorem dX0_makePledge_41 : decode cX0_makePledge 41 = .ok (.invokevirtual 42, 3) := by decide +kernel
theorem dX0_makePledge_44 : decode cX0_makePledge 44 = .ok (.ifCond .ne 5, 3) := by decide +kernel
theorem dX0_makePledge_47 : decode cX0_makePledge 47 = .ok (.iconst (-1), 1) := by decide +kernel
theorem dX0_makePledge_48 : decode cX0_makePledge 48 = .ok (.ireturn, 1) := by decide +kernel
theorem dX0_makePledge_49 : decode cX0_makePledge 49 = .ok (.aload_n 0, 1) := by decide +kernel
theorem dX0_makePledge_50 : decode cX0_makePledge 50 = .ok (.getfield 9, 3) := by decide +kernel
theorem dX0_makePledge_53 : decode cX0_makePledge 53 = .ok (.aload_n 0, 1) := by decide +kernel
theorem dX0_makePledge_54 : decode cX0_makePledge 54 = .ok (.getfield 9, 3) := by decide +kernel
theorem dX0_makePledge_57 : decode cX0_makePledge 57 = .ok (.iload_n 1, 1) := by decide +kernel
theorem dX0_makePledge_58 : decode cX0_makePledge 58 = .ok (.invokevirtual 46, 3) := by decide +kernel
theorem dX0_makePledge_61 : decode cX0_makePledge 61 = .ok (.aload_n 0, 1) := by decide +kernel
theorem dX0_makePledge_62 : decode cX0_makePledge 62 = .ok (.getfield 9, 3) := by decide +kernel
theorem dX0_makePledge_65 : decode cX0_makePledge 65 = .ok (.getfield 50, 3) := by decide +kernel
theorem dX0_makePledge_68 : decode cX0_makePledge 68 = .ok (.iand, 1) := by decide +kernel
theorem dX0_makePledge_69 : decode cX0_makePledge 69 = .ok (.invokevirtual 53, 3) := by decide +kernel
theorem dX0_makePledge_72 : decode cX0_makePledge 72 = .ok (.istore 6, 2) := by decide +kernel
theorem dX0_makePledge_74 : decode cX0_makePledge 74 = .ok (.aload_n 0, 1) := by decide +kernel
theorem dX0_makePledge_75 : decode cX0_makePledge 75 = .ok (.getfield 9, 3) := by decide +kernel
theorem dX0_makePledge_78 : decode cX0_makePledge 78 = .ok (.iload_n 2, 1) := by decide +kernel
theorem dX0_makePledge_79 : decode cX0_makePledge 79 = .ok (.invokevirtual 56, 3) := by decide +kernel
theorem dX0_makePledge_82 : decode cX0_makePledge 82 = .ok (.ifCond .ne 19, 3) := by decide +kernel
theorem dX0_makePledge_85 : decode cX0_makePledge 85 = .ok (.aload_n 0, 1) := by decide +kernel
theorem dX0_makePledge_86 : decode cX0_makePledge 86 = .ok (.getfield 9, 3) := by decide +kernel
theorem dX0_makePledge_89 : decode cX0_makePledge 89 = .ok (.getfield 32, 3) := by decide +kernel
theorem dX0_makePledge_92 : decode cX0_makePledge 92 = .ok (.iload_n 1, 1) := by decide +kernel
theorem dX0_makePledge_93 : decode cX0_makePledge 93 = .ok (.iaload, 1) := by decide +kernel
theorem dX0_makePledge_94 : decode cX0_makePledge 94 = .ok (.iload 6, 2) := by decide +kernel
theorem dX0_makePledge_96 : decode cX0_makePledge 96 = .ok (.iload_n 3, 1) := by decide +kernel
theorem dX0_makePledge_97 : decode cX0_makePledge 97 = .ok (.iadd, 1) := by decide +kernel
theorem dX0_makePledge_98 : decode cX0_makePledge 98 = .ok (.if_icmp .ge 6, 3) := by decide +kernel
theorem dX0_makePledge_101 : decode cX0_makePledge 101 = .ok (.bipush (-2), 2) := by decide +kernel
theorem dX0_makePledge_103 : decode cX0_makePledge 103 = .ok (.ireturn, 1) := by decide +kernel
theorem dX0_makePledge_104 : decode cX0_makePledge 104 = .ok (.aload_n 0, 1) := by decide +kernel
theorem dX0_makePledge_105 : decode cX0_makePledge 105 = .ok (.getfield 9, 3) := by decide +kernel
theorem dX0_makePledge_108 : decode cX0_makePledge 108 = .ok (.invokevirtual 59, 3) := by decide +kernel
theorem dX0_makePledge_111 : decode cX0_makePledge 111 = .ok (.istore 7, 2) := by decide +kernel
theorem dX0_makePledge_113 : decode cX0_makePledge 113 = .ok (.iload 7, 2) := by decide +kernel
theorem dX0_makePledge_115 : decode cX0_makePledge 115 = .ok (.bipush 12, 2) := by decide +kernel
theorem dX0_makePledge_117 : decode cX0_makePledge 117 = .ok (.if_icmp .lt 6, 3) := by decide +kernel
theorem dX0_makePledge_120 : decode cX0_makePledge 120 = .ok (.bipush (-3), 2) := by decide +kernel
theorem dX0_makePledge_122 : decode cX0_makePledge 122 = .ok (.ireturn, 1) := by decide +kernel
theorem dX0_makePledge_123 : decode cX0_makePledge 123 = .ok (.aload_n 0, 1) := by decide +kernel
theorem dX0_makePledge_124 : decode cX0_makePledge 124 = .ok (.getfield 9, 3) := by decide +kernel
theorem dX0_makePledge_127 : decode cX0_makePledge 127 = .ok (.getfield 63, 3) := by decide +kernel
theorem dX0_makePledge_130 : decode cX0_makePledge 130 = .ok (.iload 7, 2) := by decide +kernel
theorem dX0_makePledge_132 : decode cX0_makePledge 132 = .ok (.iload_n 1, 1) := by decide +kernel
theorem dX0_makePledge_133 : decode cX0_makePledge 133 = .ok (.iastore, 1) := by decide +kernel
theorem dX0_makePledge_134 : decode cX0_makePledge 134 = .ok (.aload_n 0, 1) := by decide +kernel
theorem dX0_makePledge_135 : decode cX0_makePledge 135 = .ok (.getfield 9, 3) := by decide +kernel
theorem dX0_makePledge_138 : decode cX0_makePledge 138 = .ok (.getfield 66, 3) := by decide +kernel
theorem dX0_makePledge_141 : decode cX0_makePledge 141 = .ok (.iload 7, 2) := by decide +kernel
theorem dX0_makePledge_143 : decode cX0_makePledge 143 = .ok (.iload_n 2, 1) := by decide +kernel
theorem dX0_makePledge_144 : decode cX0_makePledge 144 = .ok (.iastore, 1) := by decide +kernel
theorem dX0_makePledge_145 : decode cX0_makePledge 145 = .ok (.aload_n 0, 1) := by decide +kernel
theorem dX0_makePledge_146 : decode cX0_makePledge 146 = .ok (.getfield 9, 3) := by decide +kernel
theorem dX0_makePledge_149 : decode cX0_makePledge 149 = .ok (.getfield 69, 3) := by decide +kernel
theorem dX0_makePledge_152 : decode cX0_makePledge 152 = .ok (.iload 7, 2) := by decide +kernel
theorem dX0_makePledge_154 : decode cX0_makePledge 154 = .ok (.iload_n 3, 1) := by decide +kernel
theorem dX0_makePledge_155 : decode cX0_makePledge 155 = .ok (.iastore, 1) := by decide +kernel
theorem dX0_makePledge_156 : decode cX0_makePledge 156 = .ok (.aload_n 0, 1) := by decide +kernel
theorem dX0_makePledge_157 : decode cX0_makePledge 157 = .ok (.getfield 9, 3) := by decide +kernel
theorem dX0_makePledge_160 : decode cX0_makePledge 160 = .ok (.getfield 72, 3) := by decide +kernel
theorem dX0_makePledge_163 : decode cX0_makePledge 163 = .ok (.iload 7, 2) := by decide +kernel
theorem dX0_makePledge_165 : decode cX0_makePledge 165 = .ok (.iload 4, 2) := by decide +kernel
theorem dX0_makePledge_167 : decode cX0_makePledge 167 = .ok (.iastore, 1) := by decide +kernel
theorem dX0_makePledge_168 : decode cX0_makePledge 168 = .ok (.aload_n 0, 1) := by decide +kernel
theorem dX0_makePledge_169 : decode cX0_makePledge 169 = .ok (.getfield 9, 3) := by decide +kernel
theorem dX0_makePledge_172 : decode cX0_makePledge 172 = .ok (.getfield 75, 3) := by decide +kernel
theorem dX0_makePledge_175 : decode cX0_makePledge 175 = .ok (.iload 7, 2) := by decide +kernel
theorem dX0_makePledge_177 : decode cX0_makePledge 177 = .ok (.iload 5, 2) := by decide +kernel
theorem dX0_makePledge_179 : decode cX0_makePledge 179 = .ok (.iastore, 1) := by decide +kernel
theorem dX0_makePledge_180 : decode cX0_makePledge 180 = .ok (.aload_n 0, 1) := by decide +kernel
theorem dX0_makePledge_181 : decode cX0_makePledge 181 = .ok (.getfield 9, 3) := by decide +kernel
theorem dX0_makePledge_184 : decode cX0_makePledge 184 = .ok (.getfield 78, 3) := by decide +kernel
theorem dX0_makePledge_187 : decode cX0_makePledge 187 = .ok (.iload 7, 2) := by decide +kernel
theorem dX0_makePledge_189 : decode cX0_makePledge 189 = .ok (.aload_n 0, 1) := by decide +kernel
theorem dX0_makePledge_190 : decode cX0_makePledge 190 = .ok (.getfield 9, 3) := by decide +kernel
theorem dX0_makePledge_193 : decode cX0_makePledge 193 = .ok (.getfield 81, 3) := by decide +kernel
theorem dX0_makePledge_196 : decode cX0_makePledge 196 = .ok (.iastore, 1) := by decide +kernel
theorem dX0_makePledge_197 : decode cX0_makePledge 197 = .ok (.aload_n 0, 1) := by decide +kernel
theorem dX0_makePledge_198 : decode cX0_makePledge 198 = .ok (.getfield 9, 3) := by decide +kernel
theorem dX0_makePledge_201 : decode cX0_makePledge 201 = .ok (.dup, 1) := by decide +kernel
theorem dX0_makePledge_202 : decode cX0_makePledge 202 = .ok (.getfield 81, 3) := by decide +kernel
theorem dX0_makePledge_205 : decode cX0_makePledge 205 = .ok (.iconst 1, 1) := by decide +kernel
theorem dX0_makePledge_206 : decode cX0_makePledge 206 = .ok (.iadd, 1) := by decide +kernel
theorem dX0_makePledge_207 : decode cX0_makePledge 207 = .ok (.putfield 81, 3) := by decide +kernel
theorem dX0_makePledge_210 : decode cX0_makePledge 210 = .ok (.aload_n 0, 1) := by decide +kernel
theorem dX0_makePledge_211 : decode cX0_makePledge 211 = .ok (.getfield 9, 3) := by decide +kernel
theorem dX0_makePledge_214 : decode cX0_makePledge 214 = .ok (.dup, 1) := by decide +kernel
theorem dX0_makePledge_215 : decode cX0_makePledge 215 = .ok (.getfield 50, 3) := by decide +kernel
theorem dX0_makePledge_218 : decode cX0_makePledge 218 = .ok (.iconst 1, 1) := by decide +kernel
theorem dX0_makePledge_219 : decode cX0_makePledge 219 = .ok (.iload 7, 2) := by decide +kernel
theorem dX0_makePledge_221 : decode cX0_makePledge 221 = .ok (.ishl, 1) := by decide +kernel
theorem dX0_makePledge_222 : decode cX0_makePledge 222 = .ok (.ior, 1) := by decide +kernel
theorem dX0_makePledge_223 : decode cX0_makePledge 223 = .ok (.putfield 50, 3) := by decide +kernel
theorem dX0_makePledge_226 : decode cX0_makePledge 226 = .ok (.iload 7, 2) := by decide +kernel
theorem dX0_makePledge_228 : decode cX0_makePledge 228 = .ok (.ireturn, 1) := by decide +kernel
theorem dX0_isCondition_0 : decode cX0_isCondition 0 = .ok (.iload_n 3, 1) := by decide +kernel
theorem dX0_isCondition_1 : decode cX0_isCondition 1 = .ok (.tableswitch 133 0 4 #[35, 46, 66, 85, 109], 35) := by decide +kernel
theorem dX0_isCondition_36 : decode cX0_isCondition 36 = .ok (.iload 4, 2) := by decide +kernel
theorem dX0_isCondition_38 : decode cX0_isCondition 38 = .ok (.ifCond .ne 7, 3) := by decide +kernel
theorem dX0_isCondition_41 : decode cX0_isCondition 41 = .ok (.iconst 1, 1) := by decide +kernel
theorem dX0_isCondition_42 : decode cX0_isCondition 42 = .ok (.goto 4, 3) := by decide +kernel
theorem dX0_isCondition_45 : decode cX0_isCondition 45 = .ok (.iconst 0, 1) := by decide +kernel
theorem dX0_isCondition_46 : decode cX0_isCondition 46 = .ok (.ireturn, 1) := by decide +kernel
theorem dX0_isCondition_47 : decode cX0_isCondition 47 = .ok (.iload 4, 2) := by decide +kernel
theorem dX0_isCondition_49 : decode cX0_isCondition 49 = .ok (.iconst 1, 1) := by decide +kernel
theorem dX0_isCondition_50 : decode cX0_isCondition 50 = .ok (.if_icmp .lt 15, 3) := by decide +kernel
theorem dX0_isCondition_53 : decode cX0_isCondition 53 = .ok (.iload 4, 2) := by decide +kernel
theorem dX0_isCondition_55 : decode cX0_isCondition 55 = .ok (.sipush 999, 3) := by decide +kernel
theorem dX0_isCondition_58 : decode cX0_isCondition 58 = .ok (.if_icmp .gt 7, 3) := by decide +kernel
theorem dX0_isCondition_61 : decode cX0_isCondition 61 = .ok (.iconst 1, 1) := by decide +kernel
theorem dX0_isCondition_62 : decode cX0_isCondition 62 = .ok (.goto 4, 3) := by decide +kernel
theorem dX0_isCondition_65 : decode cX0_isCondition 65 = .ok (.iconst 0, 1) := by decide +kernel
theorem dX0_isCondition_66 : decode cX0_isCondition 66 = .ok (.ireturn, 1) := by decide +kernel
theorem dX0_isCondition_67 : decode cX0_isCondition 67 = .ok (.iload 4, 2) := by decide +kernel
theorem dX0_isCondition_69 : decode cX0_isCondition 69 = .ok (.iconst 1, 1) := by decide +kernel
theorem dX0_isCondition_70 : decode cX0_isCondition 70 = .ok (.if_icmp .lt 14, 3) := by decide +kernel
theorem dX0_isCondition_73 : decode cX0_isCondition 73 = .ok (.iload 4, 2) := by decide +kernel
theorem dX0_isCondition_75 : decode cX0_isCondition 75 = .ok (.bipush 12, 2) := by decide +kernel
theorem dX0_isCondition_77 : decode cX0_isCondition 77 = .ok (.if_icmp .ge 7, 3) := by decide +kernel
theorem dX0_isCondition_80 : decode cX0_isCondition 80 = .ok (.iconst 1, 1) := by decide +kernel
theorem dX0_isCondition_81 : decode cX0_isCondition 81 = .ok (.goto 4, 3) := by decide +kernel
theorem dX0_isCondition_84 : decode cX0_isCondition 84 = .ok (.iconst 0, 1) := by decide +kernel
theorem dX0_isCondition_85 : decode cX0_isCondition 85 = .ok (.ireturn, 1) := by decide +kernel
theorem dX0_isCondition_86 : decode cX0_isCondition 86 = .ok (.aload_n 0, 1) := by decide +kernel
theorem dX0_isCondition_87 : decode cX0_isCondition 87 = .ok (.getfield 9, 3) := by decide +kernel
theorem dX0_isCondition_90 : decode cX0_isCondition 90 = .ok (.iload 4, 2) := by decide +kernel
theorem dX0_isCondition_92 : decode cX0_isCondition 92 = .ok (.invokevirtual 35, 3) := by decide +kernel
theorem dX0_isCondition_95 : decode cX0_isCondition 95 = .ok (.ifCond .eq 13, 3) := by decide +kernel
theorem dX0_isCondition_98 : decode cX0_isCondition 98 = .ok (.iload 4, 2) := by decide +kernel
theorem dX0_isCondition_100 : decode cX0_isCondition 100 = .ok (.iload_n 1, 1) := by decide +kernel
theorem dX0_isCondition_101 : decode cX0_isCondition 101 = .ok (.if_icmp .eq 7, 3) := by decide +kernel
theorem dX0_isCondition_104 : decode cX0_isCondition 104 = .ok (.iconst 1, 1) := by decide +kernel
theorem dX0_isCondition_105 : decode cX0_isCondition 105 = .ok (.goto 4, 3) := by decide +kernel
theorem dX0_isCondition_108 : decode cX0_isCondition 108 = .ok (.iconst 0, 1) := by decide +kernel
theorem dX0_isCondition_109 : decode cX0_isCondition 109 = .ok (.ireturn, 1) := by decide +kernel
theorem dX0_isCondition_110 : decode cX0_isCondition 110 = .ok (.aload_n 0, 1) := by decide +kernel
theorem dX0_isCondition_111 : decode cX0_isCondition 111 = .ok (.getfield 9, 3) := by decide +kernel
theorem dX0_isCondition_114 : decode cX0_isCondition 114 = .ok (.iload 4, 2) := by decide +kernel
theorem dX0_isCondition_116 : decode cX0_isCondition 116 = .ok (.invokevirtual 39, 3) := by decide +kernel
theorem dX0_isCondition_119 : decode cX0_isCondition 119 = .ok (.ifCond .eq 13, 3) := by decide +kernel
theorem dX0_isCondition_122 : decode cX0_isCondition 122 = .ok (.iload 4, 2) := by decide +kernel
theorem dX0_isCondition_124 : decode cX0_isCondition 124 = .ok (.iload_n 2, 1) := by decide +kernel
theorem dX0_isCondition_125 : decode cX0_isCondition 125 = .ok (.if_icmp .eq 7, 3) := by decide +kernel
theorem dX0_isCondition_128 : decode cX0_isCondition 128 = .ok (.iconst 1, 1) := by decide +kernel
theorem dX0_isCondition_129 : decode cX0_isCondition 129 = .ok (.goto 4, 3) := by decide +kernel
theorem dX0_isCondition_132 : decode cX0_isCondition 132 = .ok (.iconst 0, 1) := by decide +kernel
theorem dX0_isCondition_133 : decode cX0_isCondition 133 = .ok (.ireturn, 1) := by decide +kernel
theorem dX0_isCondition_134 : decode cX0_isCondition 134 = .ok (.iconst 0, 1) := by decide +kernel
theorem dX0_isCondition_135 : decode cX0_isCondition 135 = .ok (.ireturn, 1) := by decide +kernel
theorem dX0_takeBack_0 : decode cX0_takeBack 0 = .ok (.aload_n 0, 1) := by decide +kernel
theorem dX0_takeBack_1 : decode cX0_takeBack 1 = .ok (.getfield 9, 3) := by decide +kernel
theorem dX0_takeBack_4 : decode cX0_takeBack 4 = .ok (.iload_n 1, 1) := by decide +kernel
theorem dX0_takeBack_5 : decode cX0_takeBack 5 = .ok (.invokevirtual 84, 3) := by decide +kernel
theorem dX0_takeBack_8 : decode cX0_takeBack 8 = .ok (.ifCond .ne 5, 3) := by decide +kernel
theorem dX0_takeBack_11 : decode cX0_takeBack 11 = .ok (.iconst (-1), 1) := by decide +kernel
theorem dX0_takeBack_12 : decode cX0_takeBack 12 = .ok (.ireturn, 1) := by decide +kernel
theorem dX0_takeBack_13 : decode cX0_takeBack 13 = .ok (.iconst 1, 1) := by decide +kernel
theorem dX0_takeBack_14 : decode cX0_takeBack 14 = .ok (.iload_n 1, 1) := by decide +kernel
theorem dX0_takeBack_15 : decode cX0_takeBack 15 = .ok (.ishl, 1) := by decide +kernel
theorem dX0_takeBack_16 : decode cX0_takeBack 16 = .ok (.istore_n 2, 1) := by decide +kernel
theorem dX0_takeBack_17 : decode cX0_takeBack 17 = .ok (.aload_n 0, 1) := by decide +kernel
theorem dX0_takeBack_18 : decode cX0_takeBack 18 = .ok (.getfield 9, 3) := by decide +kernel
theorem dX0_takeBack_21 : decode cX0_takeBack 21 = .ok (.getfield 87, 3) := by decide +kernel
theorem dX0_takeBack_24 : decode cX0_takeBack 24 = .ok (.iload_n 2, 1) := by decide +kernel
theorem dX0_takeBack_25 : decode cX0_takeBack 25 = .ok (.iand, 1) := by decide +kernel
theorem dX0_takeBack_26 : decode cX0_takeBack 26 = .ok (.ifCond .eq 6, 3) := by decide +kernel
theorem dX0_takeBack_29 : decode cX0_takeBack 29 = .ok (.bipush (-2), 2) := by decide +kernel
theorem dX0_takeBack_31 : decode cX0_takeBack 31 = .ok (.ireturn, 1) := by decide +kernel
theorem dX0_takeBack_32 : decode cX0_takeBack 32 = .ok (.aload_n 0, 1) := by decide +kernel
theorem dX0_takeBack_33 : decode cX0_takeBack 33 = .ok (.getfield 15, 3) := by decide +kernel
theorem dX0_takeBack_36 : decode cX0_takeBack 36 = .ok (.aload_n 0, 1) := by decide +kernel
theorem dX0_takeBack_37 : decode cX0_takeBack 37 = .ok (.getfield 9, 3) := by decide +kernel
theorem dX0_takeBack_40 : decode cX0_takeBack 40 = .ok (.getfield 50, 3) := by decide +kernel
theorem dX0_takeBack_43 : decode cX0_takeBack 43 = .ok (.aload_n 0, 1) := by decide +kernel
theorem dX0_takeBack_44 : decode cX0_takeBack 44 = .ok (.getfield 9, 3) := by decide +kernel
theorem dX0_takeBack_47 : decode cX0_takeBack 47 = .ok (.getfield 87, 3) := by decide +kernel
theorem dX0_takeBack_50 : decode cX0_takeBack 50 = .ok (.invokevirtual 90, 3) := by decide +kernel
theorem dX0_takeBack_53 : decode cX0_takeBack 53 = .ok (.istore_n 3, 1) := by decide +kernel
theorem dX0_takeBack_54 : decode cX0_takeBack 54 = .ok (.aload_n 0, 1) := by decide +kernel
theorem dX0_takeBack_55 : decode cX0_takeBack 55 = .ok (.getfield 9, 3) := by decide +kernel
theorem dX0_takeBack_58 : decode cX0_takeBack 58 = .ok (.dup, 1) := by decide +kernel
theorem dX0_takeBack_59 : decode cX0_takeBack 59 = .ok (.getfield 50, 3) := by decide +kernel
theorem dX0_takeBack_62 : decode cX0_takeBack 62 = .ok (.iload_n 2, 1) := by decide +kernel
theorem dX0_takeBack_63 : decode cX0_takeBack 63 = .ok (.iconst (-1), 1) := by decide +kernel
theorem dX0_takeBack_64 : decode cX0_takeBack 64 = .ok (.ixor, 1) := by decide +kernel
theorem dX0_takeBack_65 : decode cX0_takeBack 65 = .ok (.iand, 1) := by decide +kernel
theorem dX0_takeBack_66 : decode cX0_takeBack 66 = .ok (.putfield 50, 3) := by decide +kernel
theorem dX0_takeBack_69 : decode cX0_takeBack 69 = .ok (.aload_n 0, 1) := by decide +kernel
theorem dX0_takeBack_70 : decode cX0_takeBack 70 = .ok (.getfield 9, 3) := by decide +kernel
theorem dX0_takeBack_73 : decode cX0_takeBack 73 = .ok (.dup, 1) := by decide +kernel
theorem dX0_takeBack_74 : decode cX0_takeBack 74 = .ok (.getfield 96, 3) := by decide +kernel
theorem dX0_takeBack_77 : decode cX0_takeBack 77 = .ok (.iconst 1, 1) := by decide +kernel
theorem dX0_takeBack_78 : decode cX0_takeBack 78 = .ok (.iadd, 1) := by decide +kernel
theorem dX0_takeBack_79 : decode cX0_takeBack 79 = .ok (.putfield 96, 3) := by decide +kernel
theorem dX0_takeBack_82 : decode cX0_takeBack 82 = .ok (.iload_n 3, 1) := by decide +kernel
theorem dX0_takeBack_83 : decode cX0_takeBack 83 = .ok (.aload_n 0, 1) := by decide +kernel
theorem dX0_takeBack_84 : decode cX0_takeBack 84 = .ok (.getfield 15, 3) := by decide +kernel
theorem dX0_takeBack_87 : decode cX0_takeBack 87 = .ok (.aload_n 0, 1) := by decide +kernel
theorem dX0_takeBack_88 : decode cX0_takeBack 88 = .ok (.getfield 9, 3) := by decide +kernel
theorem dX0_takeBack_91 : decode cX0_takeBack 91 = .ok (.getfield 50, 3) := by decide +kernel
theorem dX0_takeBack_94 : decode cX0_takeBack 94 = .ok (.aload_n 0, 1) := by decide +kernel
theorem dX0_takeBack_95 : decode cX0_takeBack 95 = .ok (.getfield 9, 3) := by decide +kernel
theorem dX0_takeBack_98 : decode cX0_takeBack 98 = .ok (.getfield 87, 3) := by decide +kernel
theorem dX0_takeBack_101 : decode cX0_takeBack 101 = .ok (.invokevirtual 90, 3) := by decide +kernel
theorem dX0_takeBack_104 : decode cX0_takeBack 104 = .ok (.iconst (-1), 1) := by decide +kernel
theorem dX0_takeBack_105 : decode cX0_takeBack 105 = .ok (.ixor, 1) := by decide +kernel
theorem dX0_takeBack_106 : decode cX0_takeBack 106 = .ok (.iand, 1) := by decide +kernel
theorem dX0_takeBack_107 : decode cX0_takeBack 107 = .ok (.ireturn, 1) := by decide +kernel
theorem dX0_collect_0 : decode cX0_collect 0 = .ok (.aload_n 0, 1) := by decide +kernel
theorem dX0_collect_1 : decode cX0_collect 1 = .ok (.getfield 9, 3) := by decide +kernel
theorem dX0_collect_4 : decode cX0_collect 4 = .ok (.iload_n 1, 1) := by decide +kernel
theorem dX0_collect_5 : decode cX0_collect 5 = .ok (.invokevirtual 39, 3) := by decide +kernel
theorem dX0_collect_8 : decode cX0_collect 8 = .ok (.ifCond .ne 5, 3) := by decide +kernel
theorem dX0_collect_11 : decode cX0_collect 11 = .ok (.iconst (-1), 1) := by decide +kernel
theorem dX0_collect_12 : decode cX0_collect 12 = .ok (.ireturn, 1) := by decide +kernel
theorem dX0_collect_13 : decode cX0_collect 13 = .ok (.aload_n 0, 1) := by decide +kernel
theorem dX0_collect_14 : decode cX0_collect 14 = .ok (.getfield 9, 3) := by decide +kernel
theorem dX0_collect_17 : decode cX0_collect 17 = .ok (.iload_n 1, 1) := by decide +kernel
theorem dX0_collect_18 : decode cX0_collect 18 = .ok (.invokevirtual 99, 3) := by decide +kernel
theorem dX0_collect_21 : decode cX0_collect 21 = .ok (.istore_n 2, 1) := by decide +kernel
theorem dX0_collect_22 : decode cX0_collect 22 = .ok (.iload_n 2, 1) := by decide +kernel
theorem dX0_collect_23 : decode cX0_collect 23 = .ok (.aload_n 0, 1) := by decide +kernel
theorem dX0_collect_24 : decode cX0_collect 24 = .ok (.getfield 15, 3) := by decide +kernel
theorem dX0_collect_27 : decode cX0_collect 27 = .ok (.aload_n 0, 1) := by decide +kernel
theorem dX0_collect_28 : decode cX0_collect 28 = .ok (.getfield 9, 3) := by decide +kernel
theorem dX0_collect_31 : decode cX0_collect 31 = .ok (.getfield 50, 3) := by decide +kernel
theorem dX0_collect_34 : decode cX0_collect 34 = .ok (.aload_n 0, 1) := by decide +kernel
theorem dX0_collect_35 : decode cX0_collect 35 = .ok (.getfield 9, 3) := by decide +kernel
theorem dX0_collect_38 : decode cX0_collect 38 = .ok (.getfield 87, 3) := by decide +kernel
theorem dX0_collect_41 : decode cX0_collect 41 = .ok (.invokevirtual 90, 3) := by decide +kernel
theorem dX0_collect_44 : decode cX0_collect 44 = .ok (.iand, 1) := by decide +kernel
theorem dX0_collect_45 : decode cX0_collect 45 = .ok (.istore_n 3, 1) := by decide +kernel
theorem dX0_collect_46 : decode cX0_collect 46 = .ok (.aload_n 0, 1) := by decide +kernel
theorem dX0_collect_47 : decode cX0_collect 47 = .ok (.getfield 9, 3) := by decide +kernel
theorem dX0_collect_50 : decode cX0_collect 50 = .ok (.iload_n 3, 1) := by decide +kernel
theorem dX0_collect_51 : decode cX0_collect 51 = .ok (.invokevirtual 53, 3) := by decide +kernel
theorem dX0_collect_54 : decode cX0_collect 54 = .ok (.istore 4, 2) := by decide +kernel
theorem dX0_collect_56 : decode cX0_collect 56 = .ok (.aload_n 0, 1) := by decide +kernel
theorem dX0_collect_57 : decode cX0_collect 57 = .ok (.getfield 9, 3) := by decide +kernel
theorem dX0_collect_60 : decode cX0_collect 60 = .ok (.iload_n 1, 1) := by decide +kernel
theorem dX0_collect_61 : decode cX0_collect 61 = .ok (.invokevirtual 56, 3) := by decide +kernel
theorem dX0_collect_64 : decode cX0_collect 64 = .ok (.ifCond .ne 17, 3) := by decide +kernel
theorem dX0_collect_67 : decode cX0_collect 67 = .ok (.iload 4, 2) := by decide +kernel
theorem dX0_collect_69 : decode cX0_collect 69 = .ok (.aload_n 0, 1) := by decide +kernel
theorem dX0_collect_70 : decode cX0_collect 70 = .ok (.getfield 9, 3) := by decide +kernel
theorem dX0_collect_73 : decode cX0_collect 73 = .ok (.getfield 25, 3) := by decide +kernel
theorem dX0_collect_76 : decode cX0_collect 76 = .ok (.iload_n 1, 1) := by decide +kernel
theorem dX0_collect_77 : decode cX0_collect 77 = .ok (.iaload, 1) := by decide +kernel
theorem dX0_collect_78 : decode cX0_collect 78 = .ok (.if_icmp .ge 6, 3) := by decide +kernel
theorem dX0_collect_81 : decode cX0_collect 81 = .ok (.bipush (-2), 2) := by decide +kernel
theorem dX0_collect_83 : decode cX0_collect 83 = .ok (.ireturn, 1) := by decide +kernel
theorem dX0_collect_84 : decode cX0_collect 84 = .ok (.iconst 0, 1) := by decide +kernel
theorem dX0_collect_85 : decode cX0_collect 85 = .ok (.istore 5, 2) := by decide +kernel
theorem dX0_collect_87 : decode cX0_collect 87 = .ok (.iload 5, 2) := by decide +kernel
theorem dX0_collect_89 : decode cX0_collect 89 = .ok (.bipush 8, 2) := by decide +kernel
theorem dX0_collect_91 : decode cX0_collect 91 = .ok (.if_icmp .ge 59, 3) := by decide +kernel
theorem dX0_collect_94 : decode cX0_collect 94 = .ok (.aload_n 0, 1) := by decide +kernel
theorem dX0_collect_95 : decode cX0_collect 95 = .ok (.getfield 9, 3) := by decide +kernel
theorem dX0_collect_98 : decode cX0_collect 98 = .ok (.iload_n 3, 1) := by decide +kernel
theorem dX0_collect_99 : decode cX0_collect 99 = .ok (.aload_n 0, 1) := by decide +kernel
theorem dX0_collect_100 : decode cX0_collect 100 = .ok (.getfield 9, 3) := by decide +kernel
theorem dX0_collect_103 : decode cX0_collect 103 = .ok (.iload 5, 2) := by decide +kernel
theorem dX0_collect_105 : decode cX0_collect 105 = .ok (.invokevirtual 46, 3) := by decide +kernel
theorem dX0_collect_108 : decode cX0_collect 108 = .ok (.iand, 1) := by decide +kernel
theorem dX0_collect_109 : decode cX0_collect 109 = .ok (.invokevirtual 53, 3) := by decide +kernel
theorem dX0_collect_112 : decode cX0_collect 112 = .ok (.istore 6, 2) := by decide +kernel
theorem dX0_collect_114 : decode cX0_collect 114 = .ok (.aload_n 0, 1) := by decide +kernel
theorem dX0_collect_115 : decode cX0_collect 115 = .ok (.getfield 9, 3) := by decide +kernel
theorem dX0_collect_118 : decode cX0_collect 118 = .ok (.getfield 32, 3) := by decide +kernel
theorem dX0_collect_121 : decode cX0_collect 121 = .ok (.iload 5, 2) := by decide +kernel
theorem dX0_collect_123 : decode cX0_collect 123 = .ok (.dup2, 1) := by decide +kernel
theorem dX0_collect_124 : decode cX0_collect 124 = .ok (.iaload, 1) := by decide +kernel
theorem dX0_collect_125 : decode cX0_collect 125 = .ok (.iload 6, 2) := by decide +kernel
theorem dX0_collect_127 : decode cX0_collect 127 = .ok (.isub, 1) := by decide +kernel
theorem dX0_collect_128 : decode cX0_collect 128 = .ok (.iastore, 1) := by decide +kernel
theorem dX0_collect_129 : decode cX0_collect 129 = .ok (.aload_n 0, 1) := by decide +kernel
theorem dX0_collect_130 : decode cX0_collect 130 = .ok (.getfield 9, 3) := by decide +kernel
theorem dX0_collect_133 : decode cX0_collect 133 = .ok (.getfield 102, 3) := by decide +kernel
theorem dX0_collect_136 : decode cX0_collect 136 = .ok (.iload 5, 2) := by decide +kernel
theorem dX0_collect_138 : decode cX0_collect 138 = .ok (.dup2, 1) := by decide +kernel
theorem dX0_collect_139 : decode cX0_collect 139 = .ok (.iaload, 1) := by decide +kernel
theorem dX0_collect_140 : decode cX0_collect 140 = .ok (.iload 6, 2) := by decide +kernel
theorem dX0_collect_142 : decode cX0_collect 142 = .ok (.iadd, 1) := by decide +kernel
theorem dX0_collect_143 : decode cX0_collect 143 = .ok (.iastore, 1) := by decide +kernel
theorem dX0_collect_144 : decode cX0_collect 144 = .ok (.iinc 5 1, 3) := by decide +kernel
theorem dX0_collect_147 : decode cX0_collect 147 = .ok (.goto (-60), 3) := by decide +kernel
theorem dX0_collect_150 : decode cX0_collect 150 = .ok (.aload_n 0, 1) := by decide +kernel
theorem dX0_collect_151 : decode cX0_collect 151 = .ok (.getfield 9, 3) := by decide +kernel
theorem dX0_collect_154 : decode cX0_collect 154 = .ok (.dup, 1) := by decide +kernel
theorem dX0_collect_155 : decode cX0_collect 155 = .ok (.getfield 50, 3) := by decide +kernel
theorem dX0_collect_158 : decode cX0_collect 158 = .ok (.iload_n 2, 1) := by decide +kernel
theorem dX0_collect_159 : decode cX0_collect 159 = .ok (.iconst (-1), 1) := by decide +kernel
theorem dX0_collect_160 : decode cX0_collect 160 = .ok (.ixor, 1) := by decide +kernel
theorem dX0_collect_161 : decode cX0_collect 161 = .ok (.iand, 1) := by decide +kernel
theorem dX0_collect_162 : decode cX0_collect 162 = .ok (.putfield 50, 3) := by decide +kernel
theorem dX0_collect_165 : decode cX0_collect 165 = .ok (.aload_n 0, 1) := by decide +kernel
theorem dX0_collect_166 : decode cX0_collect 166 = .ok (.getfield 9, 3) := by decide +kernel
theorem dX0_collect_169 : decode cX0_collect 169 = .ok (.dup, 1) := by decide +kernel
theorem dX0_collect_170 : decode cX0_collect 170 = .ok (.getfield 87, 3) := by decide +kernel
theorem dX0_collect_173 : decode cX0_collect 173 = .ok (.iload_n 3, 1) := by decide +kernel
theorem dX0_collect_174 : decode cX0_collect 174 = .ok (.ior, 1) := by decide +kernel
theorem dX0_collect_175 : decode cX0_collect 175 = .ok (.putfield 87, 3) := by decide +kernel
theorem dX0_collect_178 : decode cX0_collect 178 = .ok (.aload_n 0, 1) := by decide +kernel
theorem dX0_collect_179 : decode cX0_collect 179 = .ok (.getfield 9, 3) := by decide +kernel
theorem dX0_collect_182 : decode cX0_collect 182 = .ok (.dup, 1) := by decide +kernel
theorem dX0_collect_183 : decode cX0_collect 183 = .ok (.getfield 105, 3) := by decide +kernel
theorem dX0_collect_186 : decode cX0_collect 186 = .ok (.iconst 1, 1) := by decide +kernel
theorem dX0_collect_187 : decode cX0_collect 187 = .ok (.iload_n 1, 1) := by decide +kernel
theorem dX0_collect_188 : decode cX0_collect 188 = .ok (.ishl, 1) := by decide +kernel
theorem dX0_collect_189 : decode cX0_collect 189 = .ok (.ior, 1) := by decide +kernel
theorem dX0_collect_190 : decode cX0_collect 190 = .ok (.putfield 105, 3) := by decide +kernel
theorem dX0_collect_193 : decode cX0_collect 193 = .ok (.aload_n 0, 1) := by decide +kernel
theorem dX0_collect_194 : decode cX0_collect 194 = .ok (.getfield 9, 3) := by decide +kernel
theorem dX0_collect_197 : decode cX0_collect 197 = .ok (.dup, 1) := by decide +kernel
theorem dX0_collect_198 : decode cX0_collect 198 = .ok (.getfield 108, 3) := by decide +kernel
theorem dX0_collect_201 : decode cX0_collect 201 = .ok (.iload 4, 2) := by decide +kernel
theorem dX0_collect_203 : decode cX0_collect 203 = .ok (.iadd, 1) := by decide +kernel
theorem dX0_collect_204 : decode cX0_collect 204 = .ok (.putfield 108, 3) := by decide +kernel
theorem dX0_collect_207 : decode cX0_collect 207 = .ok (.iload 4, 2) := by decide +kernel
theorem dX0_collect_209 : decode cX0_collect 209 = .ok (.ireturn, 1) := by decide +kernel
theorem dX1_init_0 : decode cX1_init 0 = .ok (.aload_n 0, 1) := by decide +kernel
theorem dX1_init_1 : decode cX1_init 1 = .ok (.invokespecial 3, 3) := by decide +kernel
theorem dX1_init_4 : decode cX1_init 4 = .ok (.aload_n 0, 1) := by decide +kernel
theorem dX1_init_5 : decode cX1_init 5 = .ok (.iconst 4, 1) := by decide +kernel
theorem dX1_init_6 : decode cX1_init 6 = .ok (.newarray .int, 2) := by decide +kernel
theorem dX1_init_8 : decode cX1_init 8 = .ok (.putfield 9, 3) := by decide +kernel
theorem dX1_init_11 : decode cX1_init 11 = .ok (.aload_n 0, 1) := by decide +kernel
theorem dX1_init_12 : decode cX1_init 12 = .ok (.iconst 4, 1) := by decide +kernel
theorem dX1_init_13 : decode cX1_init 13 = .ok (.newarray .int, 2) := by decide +kernel
theorem dX1_init_15 : decode cX1_init 15 = .ok (.putfield 15, 3) := by decide +kernel
theorem dX1_init_18 : decode cX1_init 18 = .ok (.aload_n 0, 1) := by decide +kernel
theorem dX1_init_19 : decode cX1_init 19 = .ok (.aload_n 1, 1) := by decide +kernel
theorem dX1_init_20 : decode cX1_init 20 = .ok (.putfield 18, 3) := by decide +kernel
theorem dX1_init_23 : decode cX1_init 23 = .ok (.return_, 1) := by decide +kernel
theorem dX1_gather_0 : decode cX1_gather 0 = .ok (.iconst 0, 1) := by decide +kernel
theorem dX1_gather_1 : decode cX1_gather 1 = .ok (.istore_n 2, 1) := by decide +kernel
theorem dX1_gather_2 : decode cX1_gather 2 = .ok (.iload_n 2, 1) := by decide +kernel
theorem dX1_gather_3 : decode cX1_gather 3 = .ok (.iconst 4, 1) := by decide +kernel
theorem dX1_gather_4 : decode cX1_gather 4 = .ok (.if_icmp .ge 23, 3) := by decide +kernel
theorem dX1_gather_7 : decode cX1_gather 7 = .ok (.aload_n 0, 1) := by decide +kernel
theorem dX1_gather_8 : decode cX1_gather 8 = .ok (.getfield 9, 3) := by decide +kernel
theorem dX1_gather_11 : decode cX1_gather 11 = .ok (.iload_n 2, 1) := by decide +kernel
theorem dX1_gather_12 : decode cX1_gather 12 = .ok (.iconst 0, 1) := by decide +kernel
theorem dX1_gather_13 : decode cX1_gather 13 = .ok (.iastore, 1) := by decide +kernel
theorem dX1_gather_14 : decode cX1_gather 14 = .ok (.aload_n 0, 1) := by decide +kernel
theorem dX1_gather_15 : decode cX1_gather 15 = .ok (.getfield 15, 3) := by decide +kernel
theorem dX1_gather_18 : decode cX1_gather 18 = .ok (.iload_n 2, 1) := by decide +kernel
theorem dX1_gather_19 : decode cX1_gather 19 = .ok (.iconst 0, 1) := by decide +kernel
theorem dX1_gather_20 : decode cX1_gather 20 = .ok (.iastore, 1) := by decide +kernel
theorem dX1_gather_21 : decode cX1_gather 21 = .ok (.iinc 2 1, 3) := by decide +kernel
theorem dX1_gather_24 : decode cX1_gather 24 = .ok (.goto (-22), 3) := by decide +kernel
theorem dX1_gather_27 : decode cX1_gather 27 = .ok (.aload_n 0, 1) := by decide +kernel
theorem dX1_gather_28 : decode cX1_gather 28 = .ok (.iconst 0, 1) := by decide +kernel
theorem dX1_gather_29 : decode cX1_gather 29 = .ok (.putfield 22, 3) := by decide +kernel
theorem dX1_gather_32 : decode cX1_gather 32 = .ok (.iconst 0, 1) := by decide +kernel
theorem dX1_gather_33 : decode cX1_gather 33 = .ok (.istore_n 2, 1) := by decide +kernel
theorem dX1_gather_34 : decode cX1_gather 34 = .ok (.iload_n 2, 1) := by decide +kernel
theorem dX1_gather_35 : decode cX1_gather 35 = .ok (.bipush 13, 2) := by decide +kernel
theorem dX1_gather_37 : decode cX1_gather 37 = .ok (.if_icmp .ge 84, 3) := by decide +kernel
theorem dX1_gather_40 : decode cX1_gather 40 = .ok (.aload_n 0, 1) := by decide +kernel
theorem dX1_gather_41 : decode cX1_gather 41 = .ok (.getfield 18, 3) := by decide +kernel
theorem dX1_gather_44 : decode cX1_gather 44 = .ok (.getfield 28, 3) := by decide +kernel
theorem dX1_gather_47 : decode cX1_gather 47 = .ok (.iload_n 2, 1) := by decide +kernel
theorem dX1_gather_48 : decode cX1_gather 48 = .ok (.iaload, 1) := by decide +kernel
theorem dX1_gather_49 : decode cX1_gather 49 = .ok (.istore_n 3, 1) := by decide +kernel
theorem dX1_gather_50 : decode cX1_gather 50 = .ok (.iload_n 1, 1) := by decide +kernel
theorem dX1_gather_51 : decode cX1_gather 51 = .ok (.iload_n 2, 1) := by decide +kernel
theorem dX1_gather_52 : decode cX1_gather 52 = .ok (.ishr, 1) := by decide +kernel
theorem dX1_gather_53 : decode cX1_gather 53 = .ok (.iconst 1, 1) := by decide +kernel
theorem dX1_gather_54 : decode cX1_gather 54 = .ok (.iand, 1) := by decide +kernel
theorem dX1_gather_55 : decode cX1_gather 55 = .ok (.ifCond .eq 60, 3) := by decide +kernel
theorem dX1_gather_58 : decode cX1_gather 58 = .ok (.iload_n 3, 1) := by decide +kernel
theorem dX1_gather_59 : decode cX1_gather 59 = .ok (.ifCond .lt 56, 3) := by decide +kernel
theorem dX1_gather_62 : decode cX1_gather 62 = .ok (.iload_n 3, 1) := by decide +kernel
theorem dX1_gather_63 : decode cX1_gather 63 = .ok (.iconst 4, 1) := by decide +kernel
theorem dX1_gather_64 : decode cX1_gather 64 = .ok (.if_icmp .ge 51, 3) := by decide +kernel
theorem dX1_gather_67 : decode cX1_gather 67 = .ok (.aload_n 0, 1) := by decide +kernel
theorem dX1_gather_68 : decode cX1_gather 68 = .ok (.getfield 9, 3) := by decide +kernel
theorem dX1_gather_71 : decode cX1_gather 71 = .ok (.iload_n 3, 1) := by decide +kernel
theorem dX1_gather_72 : decode cX1_gather 72 = .ok (.dup2, 1) := by decide +kernel
theorem dX1_gather_73 : decode cX1_gather 73 = .ok (.iaload, 1) := by decide +kernel
theorem dX1_gather_74 : decode cX1_gather 74 = .ok (.aload_n 0, 1) := by decide +kernel
theorem dX1_gather_75 : decode cX1_gather 75 = .ok (.getfield 18, 3) := by decide +kernel
theorem dX1_gather_78 : decode cX1_gather 78 = .ok (.getfield 31, 3) := by decide +kernel
theorem dX1_gather_81 : decode cX1_gather 81 = .ok (.iload_n 2, 1) := by decide +kernel
theorem dX1_gather_82 : decode cX1_gather 82 = .ok (.iaload, 1) := by decide +kernel
theorem dX1_gather_83 : decode cX1_gather 83 = .ok (.iadd, 1) := by decide +kernel
theorem dX1_gather_84 : decode cX1_gather 84 = .ok (.iastore, 1) := by decide +kernel
theorem dX1_gather_85 : decode cX1_gather 85 = .ok (.aload_n 0, 1) := by decide +kernel
theorem dX1_gather_86 : decode cX1_gather 86 = .ok (.getfield 15, 3) := by decide +kernel
theorem dX1_gather_89 : decode cX1_gather 89 = .ok (.iload_n 3, 1) := by decide +kernel
theorem dX1_gather_90 : decode cX1_gather 90 = .ok (.dup2, 1) := by decide +kernel
theorem dX1_gather_91 : decode cX1_gather 91 = .ok (.iaload, 1) := by decide +kernel
theorem dX1_gather_92 : decode cX1_gather 92 = .ok (.iconst 1, 1) := by decide +kernel
theorem dX1_gather_93 : decode cX1_gather 93 = .ok (.iadd, 1) := by decide +kernel
theorem dX1_gather_94 : decode cX1_gather 94 = .ok (.iastore, 1) := by decide +kernel
theorem dX1_gather_95 : decode cX1_gather 95 = .ok (.aload_n 0, 1) := by decide +kernel
theorem dX1_gather_96 : decode cX1_gather 96 = .ok (.dup, 1) := by decide +kernel
theorem dX1_gather_97 : decode cX1_gather 97 = .ok (.getfield 22, 3) := by decide +kernel
theorem dX1_gather_100 : decode cX1_gather 100 = .ok (.iconst 1, 1) := by decide +kernel
theorem dX1_gather_101 : decode cX1_gather 101 = .ok (.aload_n 0, 1) := by decide +kernel
theorem dX1_gather_102 : decode cX1_gather 102 = .ok (.getfield 18, 3) := by decide +kernel
theorem dX1_gather_105 : decode cX1_gather 105 = .ok (.getfield 34, 3) := by decide +kernel
theorem dX1_gather_108 : decode cX1_gather 108 = .ok (.iload_n 2, 1) := by decide +kernel
theorem dX1_gather_109 : decode cX1_gather 109 = .ok (.iaload, 1) := by decide +kernel
theorem dX1_gather_110 : decode cX1_gather 110 = .ok (.ishl, 1) := by decide +kernel
theorem dX1_gather_111 : decode cX1_gather 111 = .ok (.ior, 1) := by decide +kernel
theorem dX1_gather_112 : decode cX1_gather 112 = .ok (.putfield 22, 3) := by decide +kernel
theorem dX1_gather_115 : decode cX1_gather 115 = .ok (.iinc 2 1, 3) := by decide +kernel
theorem dX1_gather_118 : decode cX1_gather 118 = .ok (.goto (-84), 3) := by decide +kernel
theorem dX1_gather_121 : decode cX1_gather 121 = .ok (.return_, 1) := by decide +kernel
theorem dX1_holds_0 : decode cX1_holds 0 = .ok (.aload_n 0, 1) := by decide +kernel
theorem dX1_holds_1 : decode cX1_holds 1 = .ok (.getfield 18, 3) := by decide +kernel
theorem dX1_holds_4 : decode cX1_holds 4 = .ok (.getfield 37, 3) := by decide +kernel
theorem dX1_holds_7 : decode cX1_holds 7 = .ok (.iload_n 1, 1) := by decide +kernel
theorem dX1_holds_8 : decode cX1_holds 8 = .ok (.iaload, 1) := by decide +kernel
theorem dX1_holds_9 : decode cX1_holds 9 = .ok (.istore_n 2, 1) := by decide +kernel
theorem dX1_holds_10 : decode cX1_holds 10 = .ok (.aload_n 0, 1) := by decide +kernel
theorem dX1_holds_11 : decode cX1_holds 11 = .ok (.getfield 18, 3) := by decide +kernel
theorem dX1_holds_14 : decode cX1_holds 14 = .ok (.getfield 40, 3) := by decide +kernel
theorem dX1_holds_17 : decode cX1_holds 17 = .ok (.iload_n 1, 1) := by decide +kernel
theorem dX1_holds_18 : decode cX1_holds 18 = .ok (.iaload, 1) := by decide +kernel
theorem dX1_holds_19 : decode cX1_holds 19 = .ok (.istore_n 3, 1) := by decide +kernel
theorem dX1_holds_20 : decode cX1_holds 20 = .ok (.iload_n 2, 1) := by decide +kernel
theorem dX1_holds_21 : decode cX1_holds 21 = .ok (.iconst 4, 1) := by decide +kernel
theorem dX1_holds_22 : decode cX1_holds 22 = .ok (.if_icmp .ne 7, 3) := by decide +kernel
theorem dX1_holds_25 : decode cX1_holds 25 = .ok (.iload_n 3, 1) := by decide +kernel
theorem dX1_holds_26 : decode cX1_holds 26 = .ok (.goto 12, 3) := by decide +kernel
theorem dX1_holds_29 : decode cX1_holds 29 = .ok (.aload_n 0, 1) := by decide +kernel
theorem dX1_holds_30 : decode cX1_holds 30 = .ok (.getfield 18, 3) := by decide +kernel
theorem dX1_holds_33 : decode cX1_holds 33 = .ok (.getfield 28, 3) := by decide +kernel
theorem dX1_holds_36 : decode cX1_holds 36 = .ok (.iload_n 1, 1) := by decide +kernel
theorem dX1_holds_37 : decode cX1_holds 37 = .ok (.iaload, 1) := by decide +kernel
theorem dX1_holds_38 : decode cX1_holds 38 = .ok (.istore 4, 2) := by decide +kernel
theorem dX1_holds_40 : decode cX1_holds 40 = .ok (.iload 4, 2) := by decide +kernel
theorem dX1_holds_42 : decode cX1_holds 42 = .ok (.ifCond .lt 9, 3) := by decide +kernel
theorem dX1_holds_45 : decode cX1_holds 45 = .ok (.iload 4, 2) := by decide +kernel
theorem dX1_holds_47 : decode cX1_holds 47 = .ok (.iconst 4, 1) := by decide +kernel
theorem dX1_holds_48 : decode cX1_holds 48 = .ok (.if_icmp .lt 5, 3) := by decide +kernel
theorem dX1_holds_51 : decode cX1_holds 51 = .ok (.iconst 0, 1) := by decide +kernel
theorem dX1_holds_52 : decode cX1_holds 52 = .ok (.ireturn, 1) := by decide +kernel
theorem dX1_holds_53 : decode cX1_holds 53 = .ok (.iload_n 2, 1) := by decide +kernel
theorem dX1_holds_54 : decode cX1_holds 54 = .ok (.tableswitch 119 1 4 #[30, 57, 76, 93], 30) := by decide +kernel
theorem dX1_holds_84 : decode cX1_holds 84 = .ok (.aload_n 0, 1) := by decide +kernel
theorem dX1_holds_85 : decode cX1_holds 85 = .ok (.getfield 9, 3) := by decide +kernel
theorem dX1_holds_88 : decode cX1_holds 88 = .ok (.iload 4, 2) := by decide +kernel
theorem dX1_holds_90 : decode cX1_holds 90 = .ok (.iaload, 1) := by decide +kernel
theorem dX1_holds_91 : decode cX1_holds 91 = .ok (.aload_n 0, 1) := by decide +kernel
theorem dX1_holds_92 : decode cX1_holds 92 = .ok (.getfield 18, 3) := by decide +kernel
theorem dX1_holds_95 : decode cX1_holds 95 = .ok (.getfield 31, 3) := by decide +kernel
theorem dX1_holds_98 : decode cX1_holds 98 = .ok (.iload_n 1, 1) := by decide +kernel
theorem dX1_holds_99 : decode cX1_holds 99 = .ok (.iaload, 1) := by decide +kernel
theorem dX1_holds_100 : decode cX1_holds 100 = .ok (.isub, 1) := by decide +kernel
theorem dX1_holds_101 : decode cX1_holds 101 = .ok (.iload_n 3, 1) := by decide +kernel
theorem dX1_holds_102 : decode cX1_holds 102 = .ok (.if_icmp .lt 7, 3) := by decide +kernel
theorem dX1_holds_105 : decode cX1_holds 105 = .ok (.iconst 1, 1) := by decide +kernel
theorem dX1_holds_106 : decode cX1_holds 106 = .ok (.goto 4, 3) := by decide +kernel
theorem dX1_holds_109 : decode cX1_holds 109 = .ok (.iconst 0, 1) := by decide +kernel
theorem dX1_holds_110 : decode cX1_holds 110 = .ok (.ireturn, 1) := by decide +kernel
theorem dX1_holds_111 : decode cX1_holds 111 = .ok (.aload_n 0, 1) := by decide +kernel
theorem dX1_holds_112 : decode cX1_holds 112 = .ok (.getfield 15, 3) := by decide +kernel
theorem dX1_holds_115 : decode cX1_holds 115 = .ok (.iload 4, 2) := by decide +kernel
theorem dX1_holds_117 : decode cX1_holds 117 = .ok (.iaload, 1) := by decide +kernel
theorem dX1_holds_118 : decode cX1_holds 118 = .ok (.iconst 1, 1) := by decide +kernel
theorem dX1_holds_119 : decode cX1_holds 119 = .ok (.isub, 1) := by decide +kernel
theorem dX1_holds_120 : decode cX1_holds 120 = .ok (.iload_n 3, 1) := by decide +kernel
theorem dX1_holds_121 : decode cX1_holds 121 = .ok (.if_icmp .lt 7, 3) := by decide +kernel
theorem dX1_holds_124 : decode cX1_holds 124 = .ok (.iconst 1, 1) := by decide +kernel
theorem dX1_holds_125 : decode cX1_holds 125 = .ok (.goto 4, 3) := by decide +kernel
theorem dX1_holds_128 : decode cX1_holds 128 = .ok (.iconst 0, 1) := by decide +kernel
theorem dX1_holds_129 : decode cX1_holds 129 = .ok (.ireturn, 1) := by decide +kernel
theorem dX1_holds_130 : decode cX1_holds 130 = .ok (.aload_n 0, 1) := by decide +kernel
theorem dX1_holds_131 : decode cX1_holds 131 = .ok (.getfield 22, 3) := by decide +kernel
theorem dX1_holds_134 : decode cX1_holds 134 = .ok (.iload_n 3, 1) := by decide +kernel
theorem dX1_holds_135 : decode cX1_holds 135 = .ok (.ishr, 1) := by decide +kernel
theorem dX1_holds_136 : decode cX1_holds 136 = .ok (.iconst 1, 1) := by decide +kernel
theorem dX1_holds_137 : decode cX1_holds 137 = .ok (.iand, 1) := by decide +kernel
theorem dX1_holds_138 : decode cX1_holds 138 = .ok (.ifCond .eq 7, 3) := by decide +kernel
theorem dX1_holds_141 : decode cX1_holds 141 = .ok (.iconst 1, 1) := by decide +kernel
theorem dX1_holds_142 : decode cX1_holds 142 = .ok (.goto 4, 3) := by decide +kernel
theorem dX1_holds_145 : decode cX1_holds 145 = .ok (.iconst 0, 1) := by decide +kernel
theorem dX1_holds_146 : decode cX1_holds 146 = .ok (.ireturn, 1) := by decide +kernel
theorem dX1_holds_147 : decode cX1_holds 147 = .ok (.aload_n 0, 1) := by decide +kernel
theorem dX1_holds_148 : decode cX1_holds 148 = .ok (.getfield 9, 3) := by decide +kernel
theorem dX1_holds_151 : decode cX1_holds 151 = .ok (.iload 4, 2) := by decide +kernel
theorem dX1_holds_153 : decode cX1_holds 153 = .ok (.iaload, 1) := by decide +kernel
theorem dX1_holds_154 : decode cX1_holds 154 = .ok (.aload_n 0, 1) := by decide +kernel
theorem dX1_holds_155 : decode cX1_holds 155 = .ok (.getfield 18, 3) := by decide +kernel
theorem dX1_holds_158 : decode cX1_holds 158 = .ok (.getfield 43, 3) := by decide +kernel
theorem dX1_holds_161 : decode cX1_holds 161 = .ok (.iload 4, 2) := by decide +kernel
theorem dX1_holds_163 : decode cX1_holds 163 = .ok (.iaload, 1) := by decide +kernel
theorem dX1_holds_164 : decode cX1_holds 164 = .ok (.if_icmp .lt 7, 3) := by decide +kernel
theorem dX1_holds_167 : decode cX1_holds 167 = .ok (.iconst 1, 1) := by decide +kernel
theorem dX1_holds_168 : decode cX1_holds 168 = .ok (.goto 4, 3) := by decide +kernel
theorem dX1_holds_171 : decode cX1_holds 171 = .ok (.iconst 0, 1) := by decide +kernel
theorem dX1_holds_172 : decode cX1_holds 172 = .ok (.ireturn, 1) := by decide +kernel
theorem dX1_holds_173 : decode cX1_holds 173 = .ok (.iconst 1, 1) := by decide +kernel
theorem dX1_holds_174 : decode cX1_holds 174 = .ok (.ireturn, 1) := by decide +kernel
theorem dX1_failing_0 : decode cX1_failing 0 = .ok (.aload_n 0, 1) := by decide +kernel
theorem dX1_failing_1 : decode cX1_failing 1 = .ok (.iload_n 1, 1) := by decide +kernel
theorem dX1_failing_2 : decode cX1_failing 2 = .ok (.iload_n 2, 1) := by decide +kernel
theorem dX1_failing_3 : decode cX1_failing 3 = .ok (.ior, 1) := by decide +kernel
theorem dX1_failing_4 : decode cX1_failing 4 = .ok (.invokevirtual 46, 3) := by decide +kernel
theorem dX1_failing_7 : decode cX1_failing 7 = .ok (.iconst 0, 1) := by decide +kernel
theorem dX1_failing_8 : decode cX1_failing 8 = .ok (.istore_n 3, 1) := by decide +kernel
theorem dX1_failing_9 : decode cX1_failing 9 = .ok (.iconst 0, 1) := by decide +kernel
theorem dX1_failing_10 : decode cX1_failing 10 = .ok (.istore 4, 2) := by decide +kernel
theorem dX1_failing_12 : decode cX1_failing 12 = .ok (.iload 4, 2) := by decide +kernel
theorem dX1_failing_14 : decode cX1_failing 14 = .ok (.bipush 12, 2) := by decide +kernel
theorem dX1_failing_16 : decode cX1_failing 16 = .ok (.if_icmp .ge 34, 3) := by decide +kernel
theorem dX1_failing_19 : decode cX1_failing 19 = .ok (.iload_n 1, 1) := by decide +kernel
theorem dX1_failing_20 : decode cX1_failing 20 = .ok (.iload 4, 2) := by decide +kernel
theorem dX1_failing_22 : decode cX1_failing 22 = .ok (.ishr, 1) := by decide +kernel
theorem dX1_failing_23 : decode cX1_failing 23 = .ok (.iconst 1, 1) := by decide +kernel
theorem dX1_failing_24 : decode cX1_failing 24 = .ok (.iand, 1) := by decide +kernel
theorem dX1_failing_25 : decode cX1_failing 25 = .ok (.ifCond .eq 19, 3) := by decide +kernel
theorem dX1_failing_28 : decode cX1_failing 28 = .ok (.aload_n 0, 1) := by decide +kernel
theorem dX1_failing_29 : decode cX1_failing 29 = .ok (.iload 4, 2) := by decide +kernel
theorem dX1_failing_31 : decode cX1_failing 31 = .ok (.invokevirtual 50, 3) := by decide +kernel
theorem dX1_failing_34 : decode cX1_failing 34 = .ok (.ifCond .ne 10, 3) := by decide +kernel
theorem dX1_failing_37 : decode cX1_failing 37 = .ok (.iload_n 3, 1) := by decide +kernel
theorem dX1_failing_38 : decode cX1_failing 38 = .ok (.iconst 1, 1) := by decide +kernel
theorem dX1_failing_39 : decode cX1_failing 39 = .ok (.iload 4, 2) := by decide +kernel
theorem dX1_failing_41 : decode cX1_failing 41 = .ok (.ishl, 1) := by decide +kernel
theorem dX1_failing_42 : decode cX1_failing 42 = .ok (.ior, 1) := by decide +kernel
theorem dX1_failing_43 : decode cX1_failing 43 = .ok (.istore_n 3, 1) := by decide +kernel
theorem dX1_failing_44 : decode cX1_failing 44 = .ok (.iinc 4 1, 3) := by decide +kernel
theorem dX1_failing_47 : decode cX1_failing 47 = .ok (.goto (-35), 3) := by decide +kernel
theorem dX1_failing_50 : decode cX1_failing 50 = .ok (.iload_n 3, 1) := by decide +kernel
theorem dX1_failing_51 : decode cX1_failing 51 = .ok (.ireturn, 1) := by decide +kernel
theorem dX1_greatest_0 : decode cX1_greatest 0 = .ok (.iload_n 1, 1) := by decide +kernel
theorem dX1_greatest_1 : decode cX1_greatest 1 = .ok (.istore_n 3, 1) := by decide +kernel
theorem dX1_greatest_2 : decode cX1_greatest 2 = .ok (.iconst 1, 1) := by decide +kernel
theorem dX1_greatest_3 : decode cX1_greatest 3 = .ok (.istore 4, 2) := by decide +kernel
theorem dX1_greatest_5 : decode cX1_greatest 5 = .ok (.iload 4, 2) := by decide +kernel
theorem dX1_greatest_7 : decode cX1_greatest 7 = .ok (.bipush 12, 2) := by decide +kernel
theorem dX1_greatest_9 : decode cX1_greatest 9 = .ok (.if_icmp .gt 32, 3) := by decide +kernel
theorem dX1_greatest_12 : decode cX1_greatest 12 = .ok (.aload_n 0, 1) := by decide +kernel
theorem dX1_greatest_13 : decode cX1_greatest 13 = .ok (.iload_n 3, 1) := by decide +kernel
theorem dX1_greatest_14 : decode cX1_greatest 14 = .ok (.iload_n 2, 1) := by decide +kernel
theorem dX1_greatest_15 : decode cX1_greatest 15 = .ok (.invokevirtual 54, 3) := by decide +kernel
theorem dX1_greatest_18 : decode cX1_greatest 18 = .ok (.istore 5, 2) := by decide +kernel
theorem dX1_greatest_20 : decode cX1_greatest 20 = .ok (.iload 5, 2) := by decide +kernel
theorem dX1_greatest_22 : decode cX1_greatest 22 = .ok (.ifCond .ne 6, 3) := by decide +kernel
theorem dX1_greatest_25 : decode cX1_greatest 25 = .ok (.goto 16, 3) := by decide +kernel
theorem dX1_greatest_28 : decode cX1_greatest 28 = .ok (.iload_n 3, 1) := by decide +kernel
theorem dX1_greatest_29 : decode cX1_greatest 29 = .ok (.iload 5, 2) := by decide +kernel
theorem dX1_greatest_31 : decode cX1_greatest 31 = .ok (.iconst (-1), 1) := by decide +kernel
theorem dX1_greatest_32 : decode cX1_greatest 32 = .ok (.ixor, 1) := by decide +kernel
theorem dX1_greatest_33 : decode cX1_greatest 33 = .ok (.iand, 1) := by decide +kernel
theorem dX1_greatest_34 : decode cX1_greatest 34 = .ok (.istore_n 3, 1) := by decide +kernel
theorem dX1_greatest_35 : decode cX1_greatest 35 = .ok (.iinc 4 1, 3) := by decide +kernel
theorem dX1_greatest_38 : decode cX1_greatest 38 = .ok (.goto (-33), 3) := by decide +kernel
theorem dX1_greatest_41 : decode cX1_greatest 41 = .ok (.iload_n 3, 1) := by decide +kernel
theorem dX1_greatest_42 : decode cX1_greatest 42 = .ok (.ireturn, 1) := by decide +kernel
theorem dX1_stand_0 : decode cX1_stand 0 = .ok (.aload_n 0, 1) := by decide +kernel
theorem dX1_stand_1 : decode cX1_stand 1 = .ok (.iconst 0, 1) := by decide +kernel
theorem dX1_stand_2 : decode cX1_stand 2 = .ok (.invokevirtual 58, 3) := by decide +kernel
theorem dX1_stand_5 : decode cX1_stand 5 = .ok (.ireturn, 1) := by decide +kernel
theorem dX1_standWithout_0 : decode cX1_standWithout 0 = .ok (.aload_n 0, 1) := by decide +kernel
theorem dX1_standWithout_1 : decode cX1_standWithout 1 = .ok (.aload_n 0, 1) := by decide +kernel
theorem dX1_standWithout_2 : decode cX1_standWithout 2 = .ok (.getfield 18, 3) := by decide +kernel
theorem dX1_standWithout_5 : decode cX1_standWithout 5 = .ok (.getfield 62, 3) := by decide +kernel
theorem dX1_standWithout_8 : decode cX1_standWithout 8 = .ok (.iload_n 1, 1) := by decide +kernel
theorem dX1_standWithout_9 : decode cX1_standWithout 9 = .ok (.iconst (-1), 1) := by decide +kernel
theorem dX1_standWithout_10 : decode cX1_standWithout 10 = .ok (.ixor, 1) := by decide +kernel
theorem dX1_standWithout_11 : decode cX1_standWithout 11 = .ok (.iand, 1) := by decide +kernel
theorem dX1_standWithout_12 : decode cX1_standWithout 12 = .ok (.aload_n 0, 1) := by decide +kernel
theorem dX1_standWithout_13 : decode cX1_standWithout 13 = .ok (.getfield 18, 3) := by decide +kernel
theorem dX1_standWithout_16 : decode cX1_standWithout 16 = .ok (.getfield 65, 3) := by decide +kernel
theorem dX1_standWithout_19 : decode cX1_standWithout 19 = .ok (.invokevirtual 68, 3) := by decide +kernel
theorem dX1_standWithout_22 : decode cX1_standWithout 22 = .ok (.aload_n 0, 1) := by decide +kernel
theorem dX1_standWithout_23 : decode cX1_standWithout 23 = .ok (.getfield 18, 3) := by decide +kernel
theorem dX1_standWithout_26 : decode cX1_standWithout 26 = .ok (.getfield 65, 3) := by decide +kernel
theorem dX1_standWithout_29 : decode cX1_standWithout 29 = .ok (.ior, 1) := by decide +kernel
theorem dX1_standWithout_30 : decode cX1_standWithout 30 = .ok (.ireturn, 1) := by decide +kernel
theorem dX1_fallenWithout_0 : decode cX1_fallenWithout 0 = .ok (.aload_n 0, 1) := by decide +kernel
theorem dX1_fallenWithout_1 : decode cX1_fallenWithout 1 = .ok (.invokevirtual 71, 3) := by decide +kernel
theorem dX1_fallenWithout_4 : decode cX1_fallenWithout 4 = .ok (.aload_n 0, 1) := by decide +kernel
theorem dX1_fallenWithout_5 : decode cX1_fallenWithout 5 = .ok (.iload_n 1, 1) := by decide +kernel
theorem dX1_fallenWithout_6 : decode cX1_fallenWithout 6 = .ok (.invokevirtual 58, 3) := by decide +kernel
theorem dX1_fallenWithout_9 : decode cX1_fallenWithout 9 = .ok (.iconst (-1), 1) := by decide +kernel
theorem dX1_fallenWithout_10 : decode cX1_fallenWithout 10 = .ok (.ixor, 1) := by decide +kernel
theorem dX1_fallenWithout_11 : decode cX1_fallenWithout 11 = .ok (.iand, 1) := by decide +kernel
theorem dX1_fallenWithout_12 : decode cX1_fallenWithout 12 = .ok (.ireturn, 1) := by decide +kernel
theorem dX1_waveOf_0 : decode cX1_waveOf 0 = .ok (.aload_n 0, 1) := by decide +kernel
theorem dX1_waveOf_1 : decode cX1_waveOf 1 = .ok (.getfield 18, 3) := by decide +kernel
theorem dX1_waveOf_4 : decode cX1_waveOf 4 = .ok (.getfield 62, 3) := by decide +kernel
theorem dX1_waveOf_7 : decode cX1_waveOf 7 = .ok (.istore_n 2, 1) := by decide +kernel
theorem dX1_waveOf_8 : decode cX1_waveOf 8 = .ok (.iconst 1, 1) := by decide +kernel
theorem dX1_waveOf_9 : decode cX1_waveOf 9 = .ok (.istore_n 3, 1) := by decide +kernel
theorem dX1_waveOf_10 : decode cX1_waveOf 10 = .ok (.iload_n 3, 1) := by decide +kernel
theorem dX1_waveOf_11 : decode cX1_waveOf 11 = .ok (.bipush 12, 2) := by decide +kernel
theorem dX1_waveOf_13 : decode cX1_waveOf 13 = .ok (.if_icmp .gt 41, 3) := by decide +kernel
theorem dX1_waveOf_16 : decode cX1_waveOf 16 = .ok (.aload_n 0, 1) := by decide +kernel
theorem dX1_waveOf_17 : decode cX1_waveOf 17 = .ok (.iload_n 2, 1) := by decide +kernel
theorem dX1_waveOf_18 : decode cX1_waveOf 18 = .ok (.aload_n 0, 1) := by decide +kernel
theorem dX1_waveOf_19 : decode cX1_waveOf 19 = .ok (.getfield 18, 3) := by decide +kernel
theorem dX1_waveOf_22 : decode cX1_waveOf 22 = .ok (.getfield 65, 3) := by decide +kernel
theorem dX1_waveOf_25 : decode cX1_waveOf 25 = .ok (.invokevirtual 54, 3) := by decide +kernel
theorem dX1_waveOf_28 : decode cX1_waveOf 28 = .ok (.istore 4, 2) := by decide +kernel
theorem dX1_waveOf_30 : decode cX1_waveOf 30 = .ok (.iload 4, 2) := by decide +kernel
theorem dX1_waveOf_32 : decode cX1_waveOf 32 = .ok (.iload_n 1, 1) := by decide +kernel
theorem dX1_waveOf_33 : decode cX1_waveOf 33 = .ok (.ishr, 1) := by decide +kernel
theorem dX1_waveOf_34 : decode cX1_waveOf 34 = .ok (.iconst 1, 1) := by decide +kernel
theorem dX1_waveOf_35 : decode cX1_waveOf 35 = .ok (.iand, 1) := by decide +kernel
theorem dX1_waveOf_36 : decode cX1_waveOf 36 = .ok (.ifCond .eq 5, 3) := by decide +kernel
theorem dX1_waveOf_39 : decode cX1_waveOf 39 = .ok (.iload_n 3, 1) := by decide +kernel
theorem dX1_waveOf_40 : decode cX1_waveOf 40 = .ok (.ireturn, 1) := by decide +kernel
theorem dX1_waveOf_41 : decode cX1_waveOf 41 = .ok (.iload_n 2, 1) := by decide +kernel
theorem dX1_waveOf_42 : decode cX1_waveOf 42 = .ok (.iload 4, 2) := by decide +kernel
theorem dX1_waveOf_44 : decode cX1_waveOf 44 = .ok (.iconst (-1), 1) := by decide +kernel
theorem dX1_waveOf_45 : decode cX1_waveOf 45 = .ok (.ixor, 1) := by decide +kernel
theorem dX1_waveOf_46 : decode cX1_waveOf 46 = .ok (.iand, 1) := by decide +kernel
theorem dX1_waveOf_47 : decode cX1_waveOf 47 = .ok (.istore_n 2, 1) := by decide +kernel
theorem dX1_waveOf_48 : decode cX1_waveOf 48 = .ok (.iinc 3 1, 3) := by decide +kernel
theorem dX1_waveOf_51 : decode cX1_waveOf 51 = .ok (.goto (-41), 3) := by decide +kernel
theorem dX1_waveOf_54 : decode cX1_waveOf 54 = .ok (.iconst 0, 1) := by decide +kernel
theorem dX1_waveOf_55 : decode cX1_waveOf 55 = .ok (.ireturn, 1) := by decide +kernel
theorem dX1_waves_0 : decode cX1_waves 0 = .ok (.aload_n 0, 1) := by decide +kernel
theorem dX1_waves_1 : decode cX1_waves 1 = .ok (.getfield 18, 3) := by decide +kernel
theorem dX1_waves_4 : decode cX1_waves 4 = .ok (.getfield 62, 3) := by decide +kernel
theorem dX1_waves_7 : decode cX1_waves 7 = .ok (.istore_n 1, 1) := by decide +kernel
theorem dX1_waves_8 : decode cX1_waves 8 = .ok (.iconst 0, 1) := by decide +kernel
theorem dX1_waves_9 : decode cX1_waves 9 = .ok (.istore_n 2, 1) := by decide +kernel
theorem dX1_waves_10 : decode cX1_waves 10 = .ok (.iconst 1, 1) := by decide +kernel
theorem dX1_waves_11 : decode cX1_waves 11 = .ok (.istore_n 3, 1) := by decide +kernel
theorem dX1_waves_12 : decode cX1_waves 12 = .ok (.iload_n 3, 1) := by decide +kernel
theorem dX1_waves_13 : decode cX1_waves 13 = .ok (.bipush 12, 2) := by decide +kernel
theorem dX1_waves_15 : decode cX1_waves 15 = .ok (.if_icmp .gt 40, 3) := by decide +kernel
theorem dX1_waves_18 : decode cX1_waves 18 = .ok (.aload_n 0, 1) := by decide +kernel
theorem dX1_waves_19 : decode cX1_waves 19 = .ok (.iload_n 1, 1) := by decide +kernel
theorem dX1_waves_20 : decode cX1_waves 20 = .ok (.aload_n 0, 1) := by decide +kernel
theorem dX1_waves_21 : decode cX1_waves 21 = .ok (.getfield 18, 3) := by decide +kernel
theorem dX1_waves_24 : decode cX1_waves 24 = .ok (.getfield 65, 3) := by decide +kernel
theorem dX1_waves_27 : decode cX1_waves 27 = .ok (.invokevirtual 54, 3) := by decide +kernel
theorem dX1_waves_30 : decode cX1_waves 30 = .ok (.istore 4, 2) := by decide +kernel
theorem dX1_waves_32 : decode cX1_waves 32 = .ok (.iload 4, 2) := by decide +kernel
theorem dX1_waves_34 : decode cX1_waves 34 = .ok (.ifCond .ne 6, 3) := by decide +kernel
theorem dX1_waves_37 : decode cX1_waves 37 = .ok (.goto 18, 3) := by decide +kernel
theorem dX1_waves_40 : decode cX1_waves 40 = .ok (.iload_n 3, 1) := by decide +kernel
theorem dX1_waves_41 : decode cX1_waves 41 = .ok (.istore_n 2, 1) := by decide +kernel
theorem dX1_waves_42 : decode cX1_waves 42 = .ok (.iload_n 1, 1) := by decide +kernel
theorem dX1_waves_43 : decode cX1_waves 43 = .ok (.iload 4, 2) := by decide +kernel
theorem dX1_waves_45 : decode cX1_waves 45 = .ok (.iconst (-1), 1) := by decide +kernel
theorem dX1_waves_46 : decode cX1_waves 46 = .ok (.ixor, 1) := by decide +kernel
theorem dX1_waves_47 : decode cX1_waves 47 = .ok (.iand, 1) := by decide +kernel
theorem dX1_waves_48 : decode cX1_waves 48 = .ok (.istore_n 1, 1) := by decide +kernel
theorem dX1_waves_49 : decode cX1_waves 49 = .ok (.iinc 3 1, 3) := by decide +kernel
theorem dX1_waves_52 : decode cX1_waves 52 = .ok (.goto (-40), 3) := by decide +kernel
theorem dX1_waves_55 : decode cX1_waves 55 = .ok (.iload_n 2, 1) := by decide +kernel
theorem dX1_waves_56 : decode cX1_waves 56 = .ok (.ireturn, 1) := by decide +kernel
theorem dX1_setsThatHold_0 : decode cX1_setsThatHold 0 = .ok (.aload_n 0, 1) := by decide +kernel
theorem dX1_setsThatHold_1 : decode cX1_setsThatHold 1 = .ok (.aload_n 0, 1) := by decide +kernel
theorem dX1_setsThatHold_2 : decode cX1_setsThatHold 2 = .ok (.getfield 18, 3) := by decide +kernel
theorem dX1_setsThatHold_5 : decode cX1_setsThatHold 5 = .ok (.getfield 62, 3) := by decide +kernel
theorem dX1_setsThatHold_8 : decode cX1_setsThatHold 8 = .ok (.aload_n 0, 1) := by decide +kernel
theorem dX1_setsThatHold_9 : decode cX1_setsThatHold 9 = .ok (.getfield 18, 3) := by decide +kernel
theorem dX1_setsThatHold_12 : decode cX1_setsThatHold 12 = .ok (.getfield 65, 3) := by decide +kernel
theorem dX1_setsThatHold_15 : decode cX1_setsThatHold 15 = .ok (.invokevirtual 68, 3) := by decide +kernel
theorem dX1_setsThatHold_18 : decode cX1_setsThatHold 18 = .ok (.istore_n 1, 1) := by decide +kernel
theorem dX1_setsThatHold_19 : decode cX1_setsThatHold 19 = .ok (.iconst 0, 1) := by decide +kernel
theorem dX1_setsThatHold_20 : decode cX1_setsThatHold 20 = .ok (.istore_n 2, 1) := by decide +kernel
theorem dX1_setsThatHold_21 : decode cX1_setsThatHold 21 = .ok (.iconst 0, 1) := by decide +kernel
theorem dX1_setsThatHold_22 : decode cX1_setsThatHold 22 = .ok (.istore_n 3, 1) := by decide +kernel
theorem dX1_setsThatHold_23 : decode cX1_setsThatHold 23 = .ok (.iload_n 3, 1) := by decide +kernel
theorem dX1_setsThatHold_24 : decode cX1_setsThatHold 24 = .ok (.iload_n 1, 1) := by decide +kernel
theorem dX1_setsThatHold_25 : decode cX1_setsThatHold 25 = .ok (.if_icmp .gt 35, 3) := by decide +kernel
theorem dX1_setsThatHold_28 : decode cX1_setsThatHold 28 = .ok (.iload_n 3, 1) := by decide +kernel
theorem dX1_setsThatHold_29 : decode cX1_setsThatHold 29 = .ok (.iload_n 1, 1) := by decide +kernel
theorem dX1_setsThatHold_30 : decode cX1_setsThatHold 30 = .ok (.iconst (-1), 1) := by decide +kernel
theorem dX1_setsThatHold_31 : decode cX1_setsThatHold 31 = .ok (.ixor, 1) := by decide +kernel
theorem dX1_setsThatHold_32 : decode cX1_setsThatHold 32 = .ok (.iand, 1) := by decide +kernel
theorem dX1_setsThatHold_33 : decode cX1_setsThatHold 33 = .ok (.ifCond .ne 21, 3) := by decide +kernel
theorem dX1_setsThatHold_36 : decode cX1_setsThatHold 36 = .ok (.aload_n 0, 1) := by decide +kernel
theorem dX1_setsThatHold_37 : decode cX1_setsThatHold 37 = .ok (.iload_n 3, 1) := by decide +kernel
theorem dX1_setsThatHold_38 : decode cX1_setsThatHold 38 = .ok (.aload_n 0, 1) := by decide +kernel
theorem dX1_setsThatHold_39 : decode cX1_setsThatHold 39 = .ok (.getfield 18, 3) := by decide +kernel
theorem dX1_setsThatHold_42 : decode cX1_setsThatHold 42 = .ok (.getfield 65, 3) := by decide +kernel
theorem dX1_setsThatHold_45 : decode cX1_setsThatHold 45 = .ok (.invokevirtual 54, 3) := by decide +kernel
theorem dX1_setsThatHold_48 : decode cX1_setsThatHold 48 = .ok (.ifCond .ne 6, 3) := by decide +kernel
theorem dX1_setsThatHold_51 : decode cX1_setsThatHold 51 = .ok (.iinc 2 1, 3) := by decide +kernel
theorem dX1_setsThatHold_54 : decode cX1_setsThatHold 54 = .ok (.iinc 3 1, 3) := by decide +kernel
theorem dX1_setsThatHold_57 : decode cX1_setsThatHold 57 = .ok (.goto (-34), 3) := by decide +kernel
theorem dX1_setsThatHold_60 : decode cX1_setsThatHold 60 = .ok (.iload_n 2, 1) := by decide +kernel
theorem dX1_setsThatHold_61 : decode cX1_setsThatHold 61 = .ok (.ireturn, 1) := by decide +kernel
theorem dX1_reaches_0 : decode cX1_reaches 0 = .ok (.aload_n 0, 1) := by decide +kernel
theorem dX1_reaches_1 : decode cX1_reaches 1 = .ok (.iload_n 2, 1) := by decide +kernel
theorem dX1_reaches_2 : decode cX1_reaches 2 = .ok (.iload_n 3, 1) := by decide +kernel
theorem dX1_reaches_3 : decode cX1_reaches 3 = .ok (.invokevirtual 68, 3) := by decide +kernel
theorem dX1_reaches_6 : decode cX1_reaches 6 = .ok (.iload_n 3, 1) := by decide +kernel
theorem dX1_reaches_7 : decode cX1_reaches 7 = .ok (.ior, 1) := by decide +kernel
theorem dX1_reaches_8 : decode cX1_reaches 8 = .ok (.istore 4, 2) := by decide +kernel
theorem dX1_reaches_10 : decode cX1_reaches 10 = .ok (.aload_n 0, 1) := by decide +kernel
theorem dX1_reaches_11 : decode cX1_reaches 11 = .ok (.getfield 18, 3) := by decide +kernel
theorem dX1_reaches_14 : decode cX1_reaches 14 = .ok (.aload_n 0, 1) := by decide +kernel
theorem dX1_reaches_15 : decode cX1_reaches 15 = .ok (.getfield 18, 3) := by decide +kernel
theorem dX1_reaches_18 : decode cX1_reaches 18 = .ok (.iload_n 1, 1) := by decide +kernel
theorem dX1_reaches_19 : decode cX1_reaches 19 = .ok (.invokevirtual 75, 3) := by decide +kernel
theorem dX1_reaches_22 : decode cX1_reaches 22 = .ok (.iload 4, 2) := by decide +kernel
theorem dX1_reaches_24 : decode cX1_reaches 24 = .ok (.iand, 1) := by decide +kernel
theorem dX1_reaches_25 : decode cX1_reaches 25 = .ok (.invokevirtual 78, 3) := by decide +kernel
theorem dX1_reaches_28 : decode cX1_reaches 28 = .ok (.aload_n 0, 1) := by decide +kernel
theorem dX1_reaches_29 : decode cX1_reaches 29 = .ok (.getfield 18, 3) := by decide +kernel
theorem dX1_reaches_32 : decode cX1_reaches 32 = .ok (.getfield 43, 3) := by decide +kernel
theorem dX1_reaches_35 : decode cX1_reaches 35 = .ok (.iload_n 1, 1) := by decide +kernel
theorem dX1_reaches_36 : decode cX1_reaches 36 = .ok (.iaload, 1) := by decide +kernel
theorem dX1_reaches_37 : decode cX1_reaches 37 = .ok (.if_icmp .lt 7, 3) := by decide +kernel
theorem dX1_reaches_40 : decode cX1_reaches 40 = .ok (.iconst 1, 1) := by decide +kernel
theorem dX1_reaches_41 : decode cX1_reaches 41 = .ok (.goto 4, 3) := by decide +kernel
theorem dX1_reaches_44 : decode cX1_reaches 44 = .ok (.iconst 0, 1) := by decide +kernel
theorem dX1_reaches_45 : decode cX1_reaches 45 = .ok (.ireturn, 1) := by decide +kernel
theorem dX1_hasGoal_0 : decode cX1_hasGoal 0 = .ok (.aload_n 0, 1) := by decide +kernel
theorem dX1_hasGoal_1 : decode cX1_hasGoal 1 = .ok (.iload_n 1, 1) := by decide +kernel
theorem dX1_hasGoal_2 : decode cX1_hasGoal 2 = .ok (.aload_n 0, 1) := by decide +kernel
theorem dX1_hasGoal_3 : decode cX1_hasGoal 3 = .ok (.getfield 18, 3) := by decide +kernel
theorem dX1_hasGoal_6 : decode cX1_hasGoal 6 = .ok (.getfield 62, 3) := by decide +kernel
theorem dX1_hasGoal_9 : decode cX1_hasGoal 9 = .ok (.aload_n 0, 1) := by decide +kernel
theorem dX1_hasGoal_10 : decode cX1_hasGoal 10 = .ok (.getfield 18, 3) := by decide +kernel
theorem dX1_hasGoal_13 : decode cX1_hasGoal 13 = .ok (.getfield 65, 3) := by decide +kernel
theorem dX1_hasGoal_16 : decode cX1_hasGoal 16 = .ok (.invokevirtual 81, 3) := by decide +kernel
theorem dX1_hasGoal_19 : decode cX1_hasGoal 19 = .ok (.ireturn, 1) := by decide +kernel
theorem dX1_projectsWithGoal_0 : decode cX1_projectsWithGoal 0 = .ok (.iconst 0, 1) := by decide +kernel
theorem dX1_projectsWithGoal_1 : decode cX1_projectsWithGoal 1 = .ok (.istore_n 1, 1) := by decide +kernel
theorem dX1_projectsWithGoal_2 : decode cX1_projectsWithGoal 2 = .ok (.iconst 0, 1) := by decide +kernel
theorem dX1_projectsWithGoal_3 : decode cX1_projectsWithGoal 3 = .ok (.istore_n 2, 1) := by decide +kernel
theorem dX1_projectsWithGoal_4 : decode cX1_projectsWithGoal 4 = .ok (.iload_n 2, 1) := by decide +kernel
theorem dX1_projectsWithGoal_5 : decode cX1_projectsWithGoal 5 = .ok (.iconst 4, 1) := by decide +kernel
theorem dX1_projectsWithGoal_6 : decode cX1_projectsWithGoal 6 = .ok (.if_icmp .ge 31, 3) := by decide +kernel
theorem dX1_projectsWithGoal_9 : decode cX1_projectsWithGoal 9 = .ok (.aload_n 0, 1) := by decide +kernel
theorem dX1_projectsWithGoal_10 : decode cX1_projectsWithGoal 10 = .ok (.getfield 18, 3) := by decide +kernel
theorem dX1_projectsWithGoal_13 : decode cX1_projectsWithGoal 13 = .ok (.iload_n 2, 1) := by decide +kernel
theorem dX1_projectsWithGoal_14 : decode cX1_projectsWithGoal 14 = .ok (.invokevirtual 85, 3) := by decide +kernel
theorem dX1_projectsWithGoal_17 : decode cX1_projectsWithGoal 17 = .ok (.ifCond .eq 14, 3) := by decide +kernel
theorem dX1_projectsWithGoal_20 : decode cX1_projectsWithGoal 20 = .ok (.aload_n 0, 1) := by decide +kernel
theorem dX1_projectsWithGoal_21 : decode cX1_projectsWithGoal 21 = .ok (.iload_n 2, 1) := by decide +kernel
theorem dX1_projectsWithGoal_22 : decode cX1_projectsWithGoal 22 = .ok (.invokevirtual 88, 3) := by decide +kernel
theorem dX1_projectsWithGoal_25 : decode cX1_projectsWithGoal 25 = .ok (.ifCond .eq 6, 3) := by decide +kernel
theorem dX1_projectsWithGoal_28 : decode cX1_projectsWithGoal 28 = .ok (.iinc 1 1, 3) := by decide +kernel
theorem dX1_projectsWithGoal_31 : decode cX1_projectsWithGoal 31 = .ok (.iinc 2 1, 3) := by decide +kernel
theorem dX1_projectsWithGoal_34 : decode cX1_projectsWithGoal 34 = .ok (.goto (-30), 3) := by decide +kernel
theorem dX1_projectsWithGoal_37 : decode cX1_projectsWithGoal 37 = .ok (.iload_n 1, 1) := by decide +kernel
theorem dX1_projectsWithGoal_38 : decode cX1_projectsWithGoal 38 = .ok (.ireturn, 1) := by decide +kernel
theorem dX1_tip_0 : decode cX1_tip 0 = .ok (.bipush (-4), 2) := by decide +kernel
theorem dX1_tip_2 : decode cX1_tip 2 = .ok (.istore_n 2, 1) := by decide +kernel
theorem dX1_tip_3 : decode cX1_tip 3 = .ok (.aload_n 0, 1) := by decide +kernel
theorem dX1_tip_4 : decode cX1_tip 4 = .ok (.getfield 18, 3) := by decide +kernel
theorem dX1_tip_7 : decode cX1_tip 7 = .ok (.getfield 91, 3) := by decide +kernel
theorem dX1_tip_10 : decode cX1_tip 10 = .ok (.istore_n 3, 1) := by decide +kernel
theorem dX1_tip_11 : decode cX1_tip 11 = .ok (.iconst 0, 1) := by decide +kernel
theorem dX1_tip_12 : decode cX1_tip 12 = .ok (.istore 4, 2) := by decide +kernel
theorem dX1_tip_14 : decode cX1_tip 14 = .ok (.iload 4, 2) := by decide +kernel
theorem dX1_tip_16 : decode cX1_tip 16 = .ok (.bipush 12, 2) := by decide +kernel
theorem dX1_tip_18 : decode cX1_tip 18 = .ok (.if_icmp .ge 96, 3) := by decide +kernel
theorem dX1_tip_21 : decode cX1_tip 21 = .ok (.aload_n 0, 1) := by decide +kernel
theorem dX1_tip_22 : decode cX1_tip 22 = .ok (.getfield 18, 3) := by decide +kernel
theorem dX1_tip_25 : decode cX1_tip 25 = .ok (.iload 4, 2) := by decide +kernel
theorem dX1_tip_27 : decode cX1_tip 27 = .ok (.invokevirtual 94, 3) := by decide +kernel
theorem dX1_tip_30 : decode cX1_tip 30 = .ok (.ifCond .eq 78, 3) := by decide +kernel
theorem dX1_tip_33 : decode cX1_tip 33 = .ok (.aload_n 0, 1) := by decide +kernel
theorem dX1_tip_34 : decode cX1_tip 34 = .ok (.getfield 18, 3) := by decide +kernel
theorem dX1_tip_37 : decode cX1_tip 37 = .ok (.getfield 97, 3) := by decide +kernel
theorem dX1_tip_40 : decode cX1_tip 40 = .ok (.iload 4, 2) := by decide +kernel
theorem dX1_tip_42 : decode cX1_tip 42 = .ok (.iaload, 1) := by decide +kernel
theorem dX1_tip_43 : decode cX1_tip 43 = .ok (.iload_n 3, 1) := by decide +kernel
theorem dX1_tip_44 : decode cX1_tip 44 = .ok (.if_icmp .ge 64, 3) := by decide +kernel
theorem dX1_tip_47 : decode cX1_tip 47 = .ok (.aload_n 0, 1) := by decide +kernel
theorem dX1_tip_48 : decode cX1_tip 48 = .ok (.getfield 18, 3) := by decide +kernel
theorem dX1_tip_51 : decode cX1_tip 51 = .ok (.aload_n 0, 1) := by decide +kernel
theorem dX1_tip_52 : decode cX1_tip 52 = .ok (.getfield 18, 3) := by decide +kernel
theorem dX1_tip_55 : decode cX1_tip 55 = .ok (.getfield 97, 3) := by decide +kernel
theorem dX1_tip_58 : decode cX1_tip 58 = .ok (.iload 4, 2) := by decide +kernel
theorem dX1_tip_60 : decode cX1_tip 60 = .ok (.iaload, 1) := by decide +kernel
theorem dX1_tip_61 : decode cX1_tip 61 = .ok (.invokevirtual 100, 3) := by decide +kernel
theorem dX1_tip_64 : decode cX1_tip 64 = .ok (.istore 5, 2) := by decide +kernel
theorem dX1_tip_66 : decode cX1_tip 66 = .ok (.aload_n 0, 1) := by decide +kernel
theorem dX1_tip_67 : decode cX1_tip 67 = .ok (.iload_n 1, 1) := by decide +kernel
theorem dX1_tip_68 : decode cX1_tip 68 = .ok (.aload_n 0, 1) := by decide +kernel
theorem dX1_tip_69 : decode cX1_tip 69 = .ok (.getfield 18, 3) := by decide +kernel
theorem dX1_tip_72 : decode cX1_tip 72 = .ok (.getfield 62, 3) := by decide +kernel
theorem dX1_tip_75 : decode cX1_tip 75 = .ok (.iload 5, 2) := by decide +kernel
theorem dX1_tip_77 : decode cX1_tip 77 = .ok (.iand, 1) := by decide +kernel
theorem dX1_tip_78 : decode cX1_tip 78 = .ok (.aload_n 0, 1) := by decide +kernel
theorem dX1_tip_79 : decode cX1_tip 79 = .ok (.getfield 18, 3) := by decide +kernel
theorem dX1_tip_82 : decode cX1_tip 82 = .ok (.getfield 65, 3) := by decide +kernel
theorem dX1_tip_85 : decode cX1_tip 85 = .ok (.iload 5, 2) := by decide +kernel
theorem dX1_tip_87 : decode cX1_tip 87 = .ok (.iand, 1) := by decide +kernel
theorem dX1_tip_88 : decode cX1_tip 88 = .ok (.invokevirtual 81, 3) := by decide +kernel
theorem dX1_tip_91 : decode cX1_tip 91 = .ok (.ifCond .eq 17, 3) := by decide +kernel
theorem dX1_tip_94 : decode cX1_tip 94 = .ok (.iload 4, 2) := by decide +kernel
theorem dX1_tip_96 : decode cX1_tip 96 = .ok (.istore_n 2, 1) := by decide +kernel
theorem dX1_tip_97 : decode cX1_tip 97 = .ok (.aload_n 0, 1) := by decide +kernel
theorem dX1_tip_98 : decode cX1_tip 98 = .ok (.getfield 18, 3) := by decide +kernel
theorem dX1_tip_101 : decode cX1_tip 101 = .ok (.getfield 97, 3) := by decide +kernel
theorem dX1_tip_104 : decode cX1_tip 104 = .ok (.iload 4, 2) := by decide +kernel
theorem dX1_tip_106 : decode cX1_tip 106 = .ok (.iaload, 1) := by decide +kernel
theorem dX1_tip_107 : decode cX1_tip 107 = .ok (.istore_n 3, 1) := by decide +kernel
theorem dX1_tip_108 : decode cX1_tip 108 = .ok (.iinc 4 1, 3) := by decide +kernel
theorem dX1_tip_111 : decode cX1_tip 111 = .ok (.goto (-97), 3) := by decide +kernel
theorem dX1_tip_114 : decode cX1_tip 114 = .ok (.iload_n 2, 1) := by decide +kernel
theorem dX1_tip_115 : decode cX1_tip 115 = .ok (.ireturn, 1) := by decide +kernel
theorem dX1_needed_0 : decode cX1_needed 0 = .ok (.iconst 0, 1) := by decide +kernel
theorem dX1_needed_1 : decode cX1_needed 1 = .ok (.istore_n 2, 1) := by decide +kernel
theorem dX1_needed_2 : decode cX1_needed 2 = .ok (.iconst 0, 1) := by decide +kernel
theorem dX1_needed_3 : decode cX1_needed 3 = .ok (.istore_n 3, 1) := by decide +kernel
theorem dX1_needed_4 : decode cX1_needed 4 = .ok (.iload_n 3, 1) := by decide +kernel
theorem dX1_needed_5 : decode cX1_needed 5 = .ok (.bipush 12, 2) := by decide +kernel
theorem dX1_needed_7 : decode cX1_needed 7 = .ok (.if_icmp .ge 59, 3) := by decide +kernel
theorem dX1_needed_10 : decode cX1_needed 10 = .ok (.iconst 1, 1) := by decide +kernel
theorem dX1_needed_11 : decode cX1_needed 11 = .ok (.iload_n 3, 1) := by decide +kernel
theorem dX1_needed_12 : decode cX1_needed 12 = .ok (.ishl, 1) := by decide +kernel
theorem dX1_needed_13 : decode cX1_needed 13 = .ok (.aload_n 0, 1) := by decide +kernel
theorem dX1_needed_14 : decode cX1_needed 14 = .ok (.getfield 18, 3) := by decide +kernel
theorem dX1_needed_17 : decode cX1_needed 17 = .ok (.getfield 62, 3) := by decide +kernel
theorem dX1_needed_20 : decode cX1_needed 20 = .ok (.iand, 1) := by decide +kernel
theorem dX1_needed_21 : decode cX1_needed 21 = .ok (.istore 4, 2) := by decide +kernel
theorem dX1_needed_23 : decode cX1_needed 23 = .ok (.iload 4, 2) := by decide +kernel
theorem dX1_needed_25 : decode cX1_needed 25 = .ok (.ifCond .eq 35, 3) := by decide +kernel
theorem dX1_needed_28 : decode cX1_needed 28 = .ok (.aload_n 0, 1) := by decide +kernel
theorem dX1_needed_29 : decode cX1_needed 29 = .ok (.iload_n 1, 1) := by decide +kernel
theorem dX1_needed_30 : decode cX1_needed 30 = .ok (.aload_n 0, 1) := by decide +kernel
theorem dX1_needed_31 : decode cX1_needed 31 = .ok (.getfield 18, 3) := by decide +kernel
theorem dX1_needed_34 : decode cX1_needed 34 = .ok (.getfield 62, 3) := by decide +kernel
theorem dX1_needed_37 : decode cX1_needed 37 = .ok (.iload 4, 2) := by decide +kernel
theorem dX1_needed_39 : decode cX1_needed 39 = .ok (.iconst (-1), 1) := by decide +kernel
theorem dX1_needed_40 : decode cX1_needed 40 = .ok (.ixor, 1) := by decide +kernel
theorem dX1_needed_41 : decode cX1_needed 41 = .ok (.iand, 1) := by decide +kernel
theorem dX1_needed_42 : decode cX1_needed 42 = .ok (.aload_n 0, 1) := by decide +kernel
theorem dX1_needed_43 : decode cX1_needed 43 = .ok (.getfield 18, 3) := by decide +kernel
theorem dX1_needed_46 : decode cX1_needed 46 = .ok (.getfield 65, 3) := by decide +kernel
theorem dX1_needed_49 : decode cX1_needed 49 = .ok (.invokevirtual 81, 3) := by decide +kernel
theorem dX1_needed_52 : decode cX1_needed 52 = .ok (.ifCond .ne 8, 3) := by decide +kernel
theorem dX1_needed_55 : decode cX1_needed 55 = .ok (.iload_n 2, 1) := by decide +kernel
theorem dX1_needed_56 : decode cX1_needed 56 = .ok (.iload 4, 2) := by decide +kernel
theorem dX1_needed_58 : decode cX1_needed 58 = .ok (.ior, 1) := by decide +kernel
theorem dX1_needed_59 : decode cX1_needed 59 = .ok (.istore_n 2, 1) := by decide +kernel
theorem dX1_needed_60 : decode cX1_needed 60 = .ok (.iinc 3 1, 3) := by decide +kernel
theorem dX1_needed_63 : decode cX1_needed 63 = .ok (.goto (-59), 3) := by decide +kernel
theorem dX1_needed_66 : decode cX1_needed 66 = .ok (.iload_n 2, 1) := by decide +kernel
theorem dX1_needed_67 : decode cX1_needed 67 = .ok (.ireturn, 1) := by decide +kernel
theorem dX1_push_0 : decode cX1_push 0 = .ok (.aload_n 0, 1) := by decide +kernel
theorem dX1_push_1 : decode cX1_push 1 = .ok (.iload_n 1, 1) := by decide +kernel
theorem dX1_push_2 : decode cX1_push 2 = .ok (.invokevirtual 88, 3) := by decide +kernel
theorem dX1_push_5 : decode cX1_push 5 = .ok (.ifCond .eq 5, 3) := by decide +kernel
theorem dX1_push_8 : decode cX1_push 8 = .ok (.iconst 0, 1) := by decide +kernel
theorem dX1_push_9 : decode cX1_push 9 = .ok (.ireturn, 1) := by decide +kernel
theorem dX1_push_10 : decode cX1_push 10 = .ok (.iconst 1, 1) := by decide +kernel
theorem dX1_push_11 : decode cX1_push 11 = .ok (.istore_n 2, 1) := by decide +kernel
theorem dX1_push_12 : decode cX1_push 12 = .ok (.aload_n 0, 1) := by decide +kernel
theorem dX1_push_13 : decode cX1_push 13 = .ok (.getfield 18, 3) := by decide +kernel
theorem dX1_push_16 : decode cX1_push 16 = .ok (.getfield 43, 3) := by decide +kernel
theorem dX1_push_19 : decode cX1_push 19 = .ok (.iload_n 1, 1) := by decide +kernel
theorem dX1_push_20 : decode cX1_push 20 = .ok (.iaload, 1) := by decide +kernel
theorem dX1_push_21 : decode cX1_push 21 = .ok (.istore_n 3, 1) := by decide +kernel
theorem dX1_push_22 : decode cX1_push 22 = .ok (.iconst 0, 1) := by decide +kernel
theorem dX1_push_23 : decode cX1_push 23 = .ok (.istore 4, 2) := by decide +kernel
theorem dX1_push_25 : decode cX1_push 25 = .ok (.iload 4, 2) := by decide +kernel
theorem dX1_push_27 : decode cX1_push 27 = .ok (.bipush 10, 2) := by decide +kernel
theorem dX1_push_29 : decode cX1_push 29 = .ok (.if_icmp .ge 42, 3) := by decide +kernel
theorem dX1_push_32 : decode cX1_push 32 = .ok (.iload_n 2, 1) := by decide +kernel
theorem dX1_push_33 : decode cX1_push 33 = .ok (.iload_n 3, 1) := by decide +kernel
theorem dX1_push_34 : decode cX1_push 34 = .ok (.if_icmp .ge 37, 3) := by decide +kernel
theorem dX1_push_37 : decode cX1_push 37 = .ok (.iload_n 2, 1) := by decide +kernel
theorem dX1_push_38 : decode cX1_push 38 = .ok (.iload_n 3, 1) := by decide +kernel
theorem dX1_push_39 : decode cX1_push 39 = .ok (.iadd, 1) := by decide +kernel
theorem dX1_push_40 : decode cX1_push 40 = .ok (.iconst 1, 1) := by decide +kernel
theorem dX1_push_41 : decode cX1_push 41 = .ok (.ishr, 1) := by decide +kernel
theorem dX1_push_42 : decode cX1_push 42 = .ok (.istore 5, 2) := by decide +kernel
theorem dX1_push_44 : decode cX1_push 44 = .ok (.aload_n 0, 1) := by decide +kernel
theorem dX1_push_45 : decode cX1_push 45 = .ok (.iload_n 1, 1) := by decide +kernel
theorem dX1_push_46 : decode cX1_push 46 = .ok (.iload 5, 2) := by decide +kernel
theorem dX1_push_48 : decode cX1_push 48 = .ok (.invokevirtual 103, 3) := by decide +kernel
theorem dX1_push_51 : decode cX1_push 51 = .ok (.ifCond .eq 9, 3) := by decide +kernel
theorem dX1_push_54 : decode cX1_push 54 = .ok (.iload 5, 2) := by decide +kernel
theorem dX1_push_56 : decode cX1_push 56 = .ok (.istore_n 3, 1) := by decide +kernel
theorem dX1_push_57 : decode cX1_push 57 = .ok (.goto 8, 3) := by decide +kernel
theorem dX1_push_60 : decode cX1_push 60 = .ok (.iload 5, 2) := by decide +kernel
theorem dX1_push_62 : decode cX1_push 62 = .ok (.iconst 1, 1) := by decide +kernel
theorem dX1_push_63 : decode cX1_push 63 = .ok (.iadd, 1) := by decide +kernel
theorem dX1_push_64 : decode cX1_push 64 = .ok (.istore_n 2, 1) := by decide +kernel
theorem dX1_push_65 : decode cX1_push 65 = .ok (.iinc 4 1, 3) := by decide +kernel
theorem dX1_push_68 : decode cX1_push 68 = .ok (.goto (-43), 3) := by decide +kernel
theorem dX1_push_71 : decode cX1_push 71 = .ok (.iload_n 2, 1) := by decide +kernel
theorem dX1_push_72 : decode cX1_push 72 = .ok (.ireturn, 1) := by decide +kernel
theorem dX1_reachesWith_0 : decode cX1_reachesWith 0 = .ok (.aload_n 0, 1) := by decide +kernel
theorem dX1_reachesWith_1 : decode cX1_reachesWith 1 = .ok (.getfield 18, 3) := by decide +kernel
theorem dX1_reachesWith_4 : decode cX1_reachesWith 4 = .ok (.iload_n 1, 1) := by decide +kernel
theorem dX1_reachesWith_5 : decode cX1_reachesWith 5 = .ok (.iload_n 2, 1) := by decide +kernel
theorem dX1_reachesWith_6 : decode cX1_reachesWith 6 = .ok (.invokevirtual 107, 3) := by decide +kernel
theorem dX1_reachesWith_9 : decode cX1_reachesWith 9 = .ok (.aload_n 0, 1) := by decide +kernel
theorem dX1_reachesWith_10 : decode cX1_reachesWith 10 = .ok (.aload_n 0, 1) := by decide +kernel
theorem dX1_reachesWith_11 : decode cX1_reachesWith 11 = .ok (.getfield 18, 3) := by decide +kernel
theorem dX1_reachesWith_14 : decode cX1_reachesWith 14 = .ok (.getfield 62, 3) := by decide +kernel
theorem dX1_reachesWith_17 : decode cX1_reachesWith 17 = .ok (.aload_n 0, 1) := by decide +kernel
theorem dX1_reachesWith_18 : decode cX1_reachesWith 18 = .ok (.getfield 18, 3) := by decide +kernel
theorem dX1_reachesWith_21 : decode cX1_reachesWith 21 = .ok (.getfield 65, 3) := by decide +kernel
theorem dX1_reachesWith_24 : decode cX1_reachesWith 24 = .ok (.sipush 4096, 3) := by decide +kernel
theorem dX1_reachesWith_27 : decode cX1_reachesWith 27 = .ok (.ior, 1) := by decide +kernel
theorem dX1_reachesWith_28 : decode cX1_reachesWith 28 = .ok (.invokevirtual 68, 3) := by decide +kernel
theorem dX1_reachesWith_31 : decode cX1_reachesWith 31 = .ok (.aload_n 0, 1) := by decide +kernel
theorem dX1_reachesWith_32 : decode cX1_reachesWith 32 = .ok (.getfield 18, 3) := by decide +kernel
theorem dX1_reachesWith_35 : decode cX1_reachesWith 35 = .ok (.getfield 65, 3) := by decide +kernel
theorem dX1_reachesWith_38 : decode cX1_reachesWith 38 = .ok (.ior, 1) := by decide +kernel
theorem dX1_reachesWith_39 : decode cX1_reachesWith 39 = .ok (.istore_n 3, 1) := by decide +kernel
theorem dX1_reachesWith_40 : decode cX1_reachesWith 40 = .ok (.aload_n 0, 1) := by decide +kernel
theorem dX1_reachesWith_41 : decode cX1_reachesWith 41 = .ok (.getfield 18, 3) := by decide +kernel
theorem dX1_reachesWith_44 : decode cX1_reachesWith 44 = .ok (.aload_n 0, 1) := by decide +kernel
theorem dX1_reachesWith_45 : decode cX1_reachesWith 45 = .ok (.getfield 18, 3) := by decide +kernel
theorem dX1_reachesWith_48 : decode cX1_reachesWith 48 = .ok (.iload_n 1, 1) := by decide +kernel
theorem dX1_reachesWith_49 : decode cX1_reachesWith 49 = .ok (.invokevirtual 75, 3) := by decide +kernel
theorem dX1_reachesWith_52 : decode cX1_reachesWith 52 = .ok (.iload_n 3, 1) := by decide +kernel
theorem dX1_reachesWith_53 : decode cX1_reachesWith 53 = .ok (.iand, 1) := by decide +kernel
theorem dX1_reachesWith_54 : decode cX1_reachesWith 54 = .ok (.invokevirtual 78, 3) := by decide +kernel
theorem dX1_reachesWith_57 : decode cX1_reachesWith 57 = .ok (.iload_n 2, 1) := by decide +kernel
theorem dX1_reachesWith_58 : decode cX1_reachesWith 58 = .ok (.iadd, 1) := by decide +kernel
theorem dX1_reachesWith_59 : decode cX1_reachesWith 59 = .ok (.aload_n 0, 1) := by decide +kernel
theorem dX1_reachesWith_60 : decode cX1_reachesWith 60 = .ok (.getfield 18, 3) := by decide +kernel
theorem dX1_reachesWith_63 : decode cX1_reachesWith 63 = .ok (.getfield 43, 3) := by decide +kernel
theorem dX1_reachesWith_66 : decode cX1_reachesWith 66 = .ok (.iload_n 1, 1) := by decide +kernel
theorem dX1_reachesWith_67 : decode cX1_reachesWith 67 = .ok (.iaload, 1) := by decide +kernel
theorem dX1_reachesWith_68 : decode cX1_reachesWith 68 = .ok (.if_icmp .lt 7, 3) := by decide +kernel
theorem dX1_reachesWith_71 : decode cX1_reachesWith 71 = .ok (.iconst 1, 1) := by decide +kernel
theorem dX1_reachesWith_72 : decode cX1_reachesWith 72 = .ok (.goto 4, 3) := by decide +kernel
theorem dX1_reachesWith_75 : decode cX1_reachesWith 75 = .ok (.iconst 0, 1) := by decide +kernel
theorem dX1_reachesWith_76 : decode cX1_reachesWith 76 = .ok (.ireturn, 1) := by decide +kernel
theorem dX2_init_0 : decode cX2_init 0 = .ok (.aload_n 0, 1) := by decide +kernel
theorem dX2_init_1 : decode cX2_init 1 = .ok (.invokespecial 3, 3) := by decide +kernel
theorem dX2_init_4 : decode cX2_init 4 = .ok (.aload_n 0, 1) := by decide +kernel
theorem dX2_init_5 : decode cX2_init 5 = .ok (.iconst 4, 1) := by decide +kernel
theorem dX2_init_6 : decode cX2_init 6 = .ok (.newarray .int, 2) := by decide +kernel
theorem dX2_init_8 : decode cX2_init 8 = .ok (.putfield 9, 3) := by decide +kernel
theorem dX2_init_11 : decode cX2_init 11 = .ok (.aload_n 0, 1) := by decide +kernel
theorem dX2_init_12 : decode cX2_init 12 = .ok (.bipush 8, 2) := by decide +kernel
theorem dX2_init_14 : decode cX2_init 14 = .ok (.newarray .int, 2) := by decide +kernel
theorem dX2_init_16 : decode cX2_init 16 = .ok (.putfield 15, 3) := by decide +kernel
theorem dX2_init_19 : decode cX2_init 19 = .ok (.aload_n 0, 1) := by decide +kernel
theorem dX2_init_20 : decode cX2_init 20 = .ok (.bipush 8, 2) := by decide +kernel
theorem dX2_init_22 : decode cX2_init 22 = .ok (.newarray .int, 2) := by decide +kernel
theorem dX2_init_24 : decode cX2_init 24 = .ok (.putfield 18, 3) := by decide +kernel
theorem dX2_init_27 : decode cX2_init 27 = .ok (.aload_n 0, 1) := by decide +kernel
theorem dX2_init_28 : decode cX2_init 28 = .ok (.bipush 13, 2) := by decide +kernel
theorem dX2_init_30 : decode cX2_init 30 = .ok (.newarray .int, 2) := by decide +kernel
theorem dX2_init_32 : decode cX2_init 32 = .ok (.putfield 21, 3) := by decide +kernel
theorem dX2_init_35 : decode cX2_init 35 = .ok (.aload_n 0, 1) := by decide +kernel
theorem dX2_init_36 : decode cX2_init 36 = .ok (.bipush 13, 2) := by decide +kernel
theorem dX2_init_38 : decode cX2_init 38 = .ok (.newarray .int, 2) := by decide +kernel
theorem dX2_init_40 : decode cX2_init 40 = .ok (.putfield 24, 3) := by decide +kernel
theorem dX2_init_43 : decode cX2_init 43 = .ok (.aload_n 0, 1) := by decide +kernel
theorem dX2_init_44 : decode cX2_init 44 = .ok (.bipush 13, 2) := by decide +kernel
theorem dX2_init_46 : decode cX2_init 46 = .ok (.newarray .int, 2) := by decide +kernel
theorem dX2_init_48 : decode cX2_init 48 = .ok (.putfield 27, 3) := by decide +kernel
theorem dX2_init_51 : decode cX2_init 51 = .ok (.aload_n 0, 1) := by decide +kernel
theorem dX2_init_52 : decode cX2_init 52 = .ok (.bipush 13, 2) := by decide +kernel
theorem dX2_init_54 : decode cX2_init 54 = .ok (.newarray .int, 2) := by decide +kernel
theorem dX2_init_56 : decode cX2_init 56 = .ok (.putfield 30, 3) := by decide +kernel
theorem dX2_init_59 : decode cX2_init 59 = .ok (.aload_n 0, 1) := by decide +kernel
theorem dX2_init_60 : decode cX2_init 60 = .ok (.bipush 13, 2) := by decide +kernel
theorem dX2_init_62 : decode cX2_init 62 = .ok (.newarray .int, 2) := by decide +kernel
theorem dX2_init_64 : decode cX2_init 64 = .ok (.putfield 33, 3) := by decide +kernel
theorem dX2_init_67 : decode cX2_init 67 = .ok (.aload_n 0, 1) := by decide +kernel
theorem dX2_init_68 : decode cX2_init 68 = .ok (.bipush 13, 2) := by decide +kernel
theorem dX2_init_70 : decode cX2_init 70 = .ok (.newarray .int, 2) := by decide +kernel
theorem dX2_init_72 : decode cX2_init 72 = .ok (.putfield 36, 3) := by decide +kernel
theorem dX2_init_75 : decode cX2_init 75 = .ok (.return_, 1) := by decide +kernel
theorem dX2_copyFrom_0 : decode cX2_copyFrom 0 = .ok (.aload_n 0, 1) := by decide +kernel
theorem dX2_copyFrom_1 : decode cX2_copyFrom 1 = .ok (.aload_n 1, 1) := by decide +kernel
theorem dX2_copyFrom_2 : decode cX2_copyFrom 2 = .ok (.getfield 39, 3) := by decide +kernel
theorem dX2_copyFrom_5 : decode cX2_copyFrom 5 = .ok (.putfield 39, 3) := by decide +kernel
theorem dX2_copyFrom_8 : decode cX2_copyFrom 8 = .ok (.aload_n 0, 1) := by decide +kernel
theorem dX2_copyFrom_9 : decode cX2_copyFrom 9 = .ok (.aload_n 1, 1) := by decide +kernel
theorem dX2_copyFrom_10 : decode cX2_copyFrom 10 = .ok (.getfield 43, 3) := by decide +kernel
theorem dX2_copyFrom_13 : decode cX2_copyFrom 13 = .ok (.putfield 43, 3) := by decide +kernel
theorem dX2_copyFrom_16 : decode cX2_copyFrom 16 = .ok (.aload_n 0, 1) := by decide +kernel
theorem dX2_copyFrom_17 : decode cX2_copyFrom 17 = .ok (.aload_n 1, 1) := by decide +kernel
theorem dX2_copyFrom_18 : decode cX2_copyFrom 18 = .ok (.getfield 46, 3) := by decide +kernel
theorem dX2_copyFrom_21 : decode cX2_copyFrom 21 = .ok (.putfield 46, 3) := by decide +kernel
theorem dX2_copyFrom_24 : decode cX2_copyFrom 24 = .ok (.aload_n 0, 1) := by decide +kernel
theorem dX2_copyFrom_25 : decode cX2_copyFrom 25 = .ok (.aload_n 1, 1) := by decide +kernel
theorem dX2_copyFrom_26 : decode cX2_copyFrom 26 = .ok (.getfield 49, 3) := by decide +kernel
theorem dX2_copyFrom_29 : decode cX2_copyFrom 29 = .ok (.putfield 49, 3) := by decide +kernel
theorem dX2_copyFrom_32 : decode cX2_copyFrom 32 = .ok (.aload_n 0, 1) := by decide +kernel
theorem dX2_copyFrom_33 : decode cX2_copyFrom 33 = .ok (.aload_n 1, 1) := by decide +kernel
theorem dX2_copyFrom_34 : decode cX2_copyFrom 34 = .ok (.getfield 52, 3) := by decide +kernel
theorem dX2_copyFrom_37 : decode cX2_copyFrom 37 = .ok (.putfield 52, 3) := by decide +kernel
theorem dX2_copyFrom_40 : decode cX2_copyFrom 40 = .ok (.aload_n 0, 1) := by decide +kernel
theorem dX2_copyFrom_41 : decode cX2_copyFrom 41 = .ok (.aload_n 1, 1) := by decide +kernel
theorem dX2_copyFrom_42 : decode cX2_copyFrom 42 = .ok (.getfield 55, 3) := by decide +kernel
theorem dX2_copyFrom_45 : decode cX2_copyFrom 45 = .ok (.putfield 55, 3) := by decide +kernel
theorem dX2_copyFrom_48 : decode cX2_copyFrom 48 = .ok (.aload_n 0, 1) := by decide +kernel
theorem dX2_copyFrom_49 : decode cX2_copyFrom 49 = .ok (.aload_n 1, 1) := by decide +kernel
theorem dX2_copyFrom_50 : decode cX2_copyFrom 50 = .ok (.getfield 58, 3) := by decide +kernel
theorem dX2_copyFrom_53 : decode cX2_copyFrom 53 = .ok (.putfield 58, 3) := by decide +kernel
theorem dX2_copyFrom_56 : decode cX2_copyFrom 56 = .ok (.aload_n 0, 1) := by decide +kernel
theorem dX2_copyFrom_57 : decode cX2_copyFrom 57 = .ok (.aload_n 1, 1) := by decide +kernel
theorem dX2_copyFrom_58 : decode cX2_copyFrom 58 = .ok (.getfield 61, 3) := by decide +kernel
theorem dX2_copyFrom_61 : decode cX2_copyFrom 61 = .ok (.putfield 61, 3) := by decide +kernel
theorem dX2_copyFrom_64 : decode cX2_copyFrom 64 = .ok (.aload_n 1, 1) := by decide +kernel
theorem dX2_copyFrom_65 : decode cX2_copyFrom 65 = .ok (.getfield 9, 3) := by decide +kernel
theorem dX2_copyFrom_68 : decode cX2_copyFrom 68 = .ok (.iconst 0, 1) := by decide +kernel
theorem dX2_copyFrom_69 : decode cX2_copyFrom 69 = .ok (.aload_n 0, 1) := by decide +kernel
theorem dX2_copyFrom_70 : decode cX2_copyFrom 70 = .ok (.getfield 9, 3) := by decide +kernel
theorem dX2_copyFrom_73 : decode cX2_copyFrom 73 = .ok (.iconst 0, 1) := by decide +kernel
theorem dX2_copyFrom_74 : decode cX2_copyFrom 74 = .ok (.iconst 4, 1) := by decide +kernel
theorem dX2_copyFrom_75 : decode cX2_copyFrom 75 = .ok (.invokestatic 64, 3) := by decide +kernel
theorem dX2_copyFrom_78 : decode cX2_copyFrom 78 = .ok (.aload_n 1, 1) := by decide +kernel
theorem dX2_copyFrom_79 : decode cX2_copyFrom 79 = .ok (.getfield 15, 3) := by decide +kernel
theorem dX2_copyFrom_82 : decode cX2_copyFrom 82 = .ok (.iconst 0, 1) := by decide +kernel
theorem dX2_copyFrom_83 : decode cX2_copyFrom 83 = .ok (.aload_n 0, 1) := by decide +kernel
theorem dX2_copyFrom_84 : decode cX2_copyFrom 84 = .ok (.getfield 15, 3) := by decide +kernel
theorem dX2_copyFrom_87 : decode cX2_copyFrom 87 = .ok (.iconst 0, 1) := by decide +kernel
theorem dX2_copyFrom_88 : decode cX2_copyFrom 88 = .ok (.bipush 8, 2) := by decide +kernel
theorem dX2_copyFrom_90 : decode cX2_copyFrom 90 = .ok (.invokestatic 64, 3) := by decide +kernel
theorem dX2_copyFrom_93 : decode cX2_copyFrom 93 = .ok (.aload_n 1, 1) := by decide +kernel
theorem dX2_copyFrom_94 : decode cX2_copyFrom 94 = .ok (.getfield 18, 3) := by decide +kernel
theorem dX2_copyFrom_97 : decode cX2_copyFrom 97 = .ok (.iconst 0, 1) := by decide +kernel
theorem dX2_copyFrom_98 : decode cX2_copyFrom 98 = .ok (.aload_n 0, 1) := by decide +kernel
theorem dX2_copyFrom_99 : decode cX2_copyFrom 99 = .ok (.getfield 18, 3) := by decide +kernel
theorem dX2_copyFrom_102 : decode cX2_copyFrom 102 = .ok (.iconst 0, 1) := by decide +kernel
theorem dX2_copyFrom_103 : decode cX2_copyFrom 103 = .ok (.bipush 8, 2) := by decide +kernel
theorem dX2_copyFrom_105 : decode cX2_copyFrom 105 = .ok (.invokestatic 64, 3) := by decide +kernel
theorem dX2_copyFrom_108 : decode cX2_copyFrom 108 = .ok (.aload_n 1, 1) := by decide +kernel
theorem dX2_copyFrom_109 : decode cX2_copyFrom 109 = .ok (.getfield 21, 3) := by decide +kernel
theorem dX2_copyFrom_112 : decode cX2_copyFrom 112 = .ok (.iconst 0, 1) := by decide +kernel
theorem dX2_copyFrom_113 : decode cX2_copyFrom 113 = .ok (.aload_n 0, 1) := by decide +kernel
theorem dX2_copyFrom_114 : decode cX2_copyFrom 114 = .ok (.getfield 21, 3) := by decide +kernel
theorem dX2_copyFrom_117 : decode cX2_copyFrom 117 = .ok (.iconst 0, 1) := by decide +kernel
theorem dX2_copyFrom_118 : decode cX2_copyFrom 118 = .ok (.bipush 13, 2) := by decide +kernel
theorem dX2_copyFrom_120 : decode cX2_copyFrom 120 = .ok (.invokestatic 64, 3) := by decide +kernel
theorem dX2_copyFrom_123 : decode cX2_copyFrom 123 = .ok (.aload_n 1, 1) := by decide +kernel
theorem dX2_copyFrom_124 : decode cX2_copyFrom 124 = .ok (.getfield 24, 3) := by decide +kernel
theorem dX2_copyFrom_127 : decode cX2_copyFrom 127 = .ok (.iconst 0, 1) := by decide +kernel
theorem dX2_copyFrom_128 : decode cX2_copyFrom 128 = .ok (.aload_n 0, 1) := by decide +kernel
theorem dX2_copyFrom_129 : decode cX2_copyFrom 129 = .ok (.getfield 24, 3) := by decide +kernel
theorem dX2_copyFrom_132 : decode cX2_copyFrom 132 = .ok (.iconst 0, 1) := by decide +kernel
theorem dX2_copyFrom_133 : decode cX2_copyFrom 133 = .ok (.bipush 13, 2) := by decide +kernel
theorem dX2_copyFrom_135 : decode cX2_copyFrom 135 = .ok (.invokestatic 64, 3) := by decide +kernel
theorem dX2_copyFrom_138 : decode cX2_copyFrom 138 = .ok (.aload_n 1, 1) := by decide +kernel
theorem dX2_copyFrom_139 : decode cX2_copyFrom 139 = .ok (.getfield 27, 3) := by decide +kernel
theorem dX2_copyFrom_142 : decode cX2_copyFrom 142 = .ok (.iconst 0, 1) := by decide +kernel
theorem dX2_copyFrom_143 : decode cX2_copyFrom 143 = .ok (.aload_n 0, 1) := by decide +kernel
theorem dX2_copyFrom_144 : decode cX2_copyFrom 144 = .ok (.getfield 27, 3) := by decide +kernel
theorem dX2_copyFrom_147 : decode cX2_copyFrom 147 = .ok (.iconst 0, 1) := by decide +kernel
theorem dX2_copyFrom_148 : decode cX2_copyFrom 148 = .ok (.bipush 13, 2) := by decide +kernel
theorem dX2_copyFrom_150 : decode cX2_copyFrom 150 = .ok (.invokestatic 64, 3) := by decide +kernel
theorem dX2_copyFrom_153 : decode cX2_copyFrom 153 = .ok (.aload_n 1, 1) := by decide +kernel
theorem dX2_copyFrom_154 : decode cX2_copyFrom 154 = .ok (.getfield 30, 3) := by decide +kernel
theorem dX2_copyFrom_157 : decode cX2_copyFrom 157 = .ok (.iconst 0, 1) := by decide +kernel
theorem dX2_copyFrom_158 : decode cX2_copyFrom 158 = .ok (.aload_n 0, 1) := by decide +kernel
theorem dX2_copyFrom_159 : decode cX2_copyFrom 159 = .ok (.getfield 30, 3) := by decide +kernel
theorem dX2_copyFrom_162 : decode cX2_copyFrom 162 = .ok (.iconst 0, 1) := by decide +kernel
theorem dX2_copyFrom_163 : decode cX2_copyFrom 163 = .ok (.bipush 13, 2) := by decide +kernel
theorem dX2_copyFrom_165 : decode cX2_copyFrom 165 = .ok (.invokestatic 64, 3) := by decide +kernel
theorem dX2_copyFrom_168 : decode cX2_copyFrom 168 = .ok (.aload_n 1, 1) := by decide +kernel
theorem dX2_copyFrom_169 : decode cX2_copyFrom 169 = .ok (.getfield 33, 3) := by decide +kernel
theorem dX2_copyFrom_172 : decode cX2_copyFrom 172 = .ok (.iconst 0, 1) := by decide +kernel
theorem dX2_copyFrom_173 : decode cX2_copyFrom 173 = .ok (.aload_n 0, 1) := by decide +kernel
theorem dX2_copyFrom_174 : decode cX2_copyFrom 174 = .ok (.getfield 33, 3) := by decide +kernel
theorem dX2_copyFrom_177 : decode cX2_copyFrom 177 = .ok (.iconst 0, 1) := by decide +kernel
theorem dX2_copyFrom_178 : decode cX2_copyFrom 178 = .ok (.bipush 13, 2) := by decide +kernel
theorem dX2_copyFrom_180 : decode cX2_copyFrom 180 = .ok (.invokestatic 64, 3) := by decide +kernel
theorem dX2_copyFrom_183 : decode cX2_copyFrom 183 = .ok (.aload_n 1, 1) := by decide +kernel
theorem dX2_copyFrom_184 : decode cX2_copyFrom 184 = .ok (.getfield 36, 3) := by decide +kernel
theorem dX2_copyFrom_187 : decode cX2_copyFrom 187 = .ok (.iconst 0, 1) := by decide +kernel
theorem dX2_copyFrom_188 : decode cX2_copyFrom 188 = .ok (.aload_n 0, 1) := by decide +kernel
theorem dX2_copyFrom_189 : decode cX2_copyFrom 189 = .ok (.getfield 36, 3) := by decide +kernel
theorem dX2_copyFrom_192 : decode cX2_copyFrom 192 = .ok (.iconst 0, 1) := by decide +kernel
theorem dX2_copyFrom_193 : decode cX2_copyFrom 193 = .ok (.bipush 13, 2) := by decide +kernel
theorem dX2_copyFrom_195 : decode cX2_copyFrom 195 = .ok (.invokestatic 64, 3) := by decide +kernel
theorem dX2_copyFrom_198 : decode cX2_copyFrom 198 = .ok (.return_, 1) := by decide +kernel
theorem dX2_hasProject_0 : decode cX2_hasProject 0 = .ok (.iload_n 1, 1) := by decide +kernel
theorem dX2_hasProject_1 : decode cX2_hasProject 1 = .ok (.ifCond .lt 15, 3) := by decide +kernel
theorem dX2_hasProject_4 : decode cX2_hasProject 4 = .ok (.iload_n 1, 1) := by decide +kernel
theorem dX2_hasProject_5 : decode cX2_hasProject 5 = .ok (.aload_n 0, 1) := by decide +kernel
theorem dX2_hasProject_6 : decode cX2_hasProject 6 = .ok (.getfield 39, 3) := by decide +kernel
theorem dX2_hasProject_9 : decode cX2_hasProject 9 = .ok (.if_icmp .ge 7, 3) := by decide +kernel
theorem dX2_hasProject_12 : decode cX2_hasProject 12 = .ok (.iconst 1, 1) := by decide +kernel
theorem dX2_hasProject_13 : decode cX2_hasProject 13 = .ok (.goto 4, 3) := by decide +kernel
theorem dX2_hasProject_16 : decode cX2_hasProject 16 = .ok (.iconst 0, 1) := by decide +kernel
theorem dX2_hasProject_17 : decode cX2_hasProject 17 = .ok (.ireturn, 1) := by decide +kernel
theorem dX2_hasPerson_0 : decode cX2_hasPerson 0 = .ok (.iload_n 1, 1) := by decide +kernel
theorem dX2_hasPerson_1 : decode cX2_hasPerson 1 = .ok (.ifCond .lt 15, 3) := by decide +kernel
theorem dX2_hasPerson_4 : decode cX2_hasPerson 4 = .ok (.iload_n 1, 1) := by decide +kernel
theorem dX2_hasPerson_5 : decode cX2_hasPerson 5 = .ok (.aload_n 0, 1) := by decide +kernel
theorem dX2_hasPerson_6 : decode cX2_hasPerson 6 = .ok (.getfield 46, 3) := by decide +kernel
theorem dX2_hasPerson_9 : decode cX2_hasPerson 9 = .ok (.if_icmp .ge 7, 3) := by decide +kernel
theorem dX2_hasPerson_12 : decode cX2_hasPerson 12 = .ok (.iconst 1, 1) := by decide +kernel
theorem dX2_hasPerson_13 : decode cX2_hasPerson 13 = .ok (.goto 4, 3) := by decide +kernel
theorem dX2_hasPerson_16 : decode cX2_hasPerson 16 = .ok (.iconst 0, 1) := by decide +kernel
theorem dX2_hasPerson_17 : decode cX2_hasPerson 17 = .ok (.ireturn, 1) := by decide +kernel
theorem dX2_hasPledge_0 : decode cX2_hasPledge 0 = .ok (.iload_n 1, 1) := by decide +kernel
theorem dX2_hasPledge_1 : decode cX2_hasPledge 1 = .ok (.ifCond .lt 24, 3) := by decide +kernel
theorem dX2_hasPledge_4 : decode cX2_hasPledge 4 = .ok (.iload_n 1, 1) := by decide +kernel
theorem dX2_hasPledge_5 : decode cX2_hasPledge 5 = .ok (.bipush 12, 2) := by decide +kernel
theorem dX2_hasPledge_7 : decode cX2_hasPledge 7 = .ok (.if_icmp .ge 18, 3) := by decide +kernel
theorem dX2_hasPledge_10 : decode cX2_hasPledge 10 = .ok (.aload_n 0, 1) := by decide +kernel
theorem dX2_hasPledge_11 : decode cX2_hasPledge 11 = .ok (.invokevirtual 70, 3) := by decide +kernel
theorem dX2_hasPledge_14 : decode cX2_hasPledge 14 = .ok (.iload_n 1, 1) := by decide +kernel
theorem dX2_hasPledge_15 : decode cX2_hasPledge 15 = .ok (.ishr, 1) := by decide +kernel
theorem dX2_hasPledge_16 : decode cX2_hasPledge 16 = .ok (.iconst 1, 1) := by decide +kernel
theorem dX2_hasPledge_17 : decode cX2_hasPledge 17 = .ok (.iand, 1) := by decide +kernel
theorem dX2_hasPledge_18 : decode cX2_hasPledge 18 = .ok (.ifCond .eq 7, 3) := by decide +kernel
theorem dX2_hasPledge_21 : decode cX2_hasPledge 21 = .ok (.iconst 1, 1) := by decide +kernel
theorem dX2_hasPledge_22 : decode cX2_hasPledge 22 = .ok (.goto 4, 3) := by decide +kernel
theorem dX2_hasPledge_25 : decode cX2_hasPledge 25 = .ok (.iconst 0, 1) := by decide +kernel
theorem dX2_hasPledge_26 : decode cX2_hasPledge 26 = .ok (.ireturn, 1) := by decide +kernel
theorem dX2_isClosed_0 : decode cX2_isClosed 0 = .ok (.aload_n 0, 1) := by decide +kernel
theorem dX2_isClosed_1 : decode cX2_isClosed 1 = .ok (.getfield 43, 3) := by decide +kernel
theorem dX2_isClosed_4 : decode cX2_isClosed 4 = .ok (.iload_n 1, 1) := by decide +kernel
theorem dX2_isClosed_5 : decode cX2_isClosed 5 = .ok (.ishr, 1) := by decide +kernel
theorem dX2_isClosed_6 : decode cX2_isClosed 6 = .ok (.iconst 1, 1) := by decide +kernel
theorem dX2_isClosed_7 : decode cX2_isClosed 7 = .ok (.iand, 1) := by decide +kernel
theorem dX2_isClosed_8 : decode cX2_isClosed 8 = .ok (.ifCond .eq 7, 3) := by decide +kernel
theorem dX2_isClosed_11 : decode cX2_isClosed 11 = .ok (.iconst 1, 1) := by decide +kernel
theorem dX2_isClosed_12 : decode cX2_isClosed 12 = .ok (.goto 4, 3) := by decide +kernel
theorem dX2_isClosed_15 : decode cX2_isClosed 15 = .ok (.iconst 0, 1) := by decide +kernel
theorem dX2_isClosed_16 : decode cX2_isClosed 16 = .ok (.ireturn, 1) := by decide +kernel
theorem dX2_pledges_0 : decode cX2_pledges 0 = .ok (.aload_n 0, 1) := by decide +kernel
theorem dX2_pledges_1 : decode cX2_pledges 1 = .ok (.getfield 49, 3) := by decide +kernel
theorem dX2_pledges_4 : decode cX2_pledges 4 = .ok (.aload_n 0, 1) := by decide +kernel
theorem dX2_pledges_5 : decode cX2_pledges 5 = .ok (.getfield 52, 3) := by decide +kernel
theorem dX2_pledges_8 : decode cX2_pledges 8 = .ok (.ior, 1) := by decide +kernel
theorem dX2_pledges_9 : decode cX2_pledges 9 = .ok (.ireturn, 1) := by decide +kernel
theorem dX2_pledgesFor_0 : decode cX2_pledgesFor 0 = .ok (.iconst 0, 1) := by decide +kernel
theorem dX2_pledgesFor_1 : decode cX2_pledgesFor 1 = .ok (.istore_n 2, 1) := by decide +kernel
theorem dX2_pledgesFor_2 : decode cX2_pledgesFor 2 = .ok (.iconst 0, 1) := by decide +kernel
theorem dX2_pledgesFor_3 : decode cX2_pledgesFor 3 = .ok (.istore_n 3, 1) := by decide +kernel
theorem dX2_pledgesFor_4 : decode cX2_pledgesFor 4 = .ok (.iload_n 3, 1) := by decide +kernel
theorem dX2_pledgesFor_5 : decode cX2_pledgesFor 5 = .ok (.bipush 12, 2) := by decide +kernel
theorem dX2_pledgesFor_7 : decode cX2_pledgesFor 7 = .ok (.if_icmp .ge 25, 3) := by decide +kernel
theorem dX2_pledgesFor_10 : decode cX2_pledgesFor 10 = .ok (.aload_n 0, 1) := by decide +kernel
theorem dX2_pledgesFor_11 : decode cX2_pledgesFor 11 = .ok (.getfield 24, 3) := by decide +kernel
theorem dX2_pledgesFor_14 : decode cX2_pledgesFor 14 = .ok (.iload_n 3, 1) := by decide +kernel
theorem dX2_pledgesFor_15 : decode cX2_pledgesFor 15 = .ok (.iaload, 1) := by decide +kernel
theorem dX2_pledgesFor_16 : decode cX2_pledgesFor 16 = .ok (.iload_n 1, 1) := by decide +kernel
theorem dX2_pledgesFor_17 : decode cX2_pledgesFor 17 = .ok (.if_icmp .ne 9, 3) := by decide +kernel
theorem dX2_pledgesFor_20 : decode cX2_pledgesFor 20 = .ok (.iload_n 2, 1) := by decide +kernel
theorem dX2_pledgesFor_21 : decode cX2_pledgesFor 21 = .ok (.iconst 1, 1) := by decide +kernel
theorem dX2_pledgesFor_22 : decode cX2_pledgesFor 22 = .ok (.iload_n 3, 1) := by decide +kernel
theorem dX2_pledgesFor_23 : decode cX2_pledgesFor 23 = .ok (.ishl, 1) := by decide +kernel
theorem dX2_pledgesFor_24 : decode cX2_pledgesFor 24 = .ok (.ior, 1) := by decide +kernel
theorem dX2_pledgesFor_25 : decode cX2_pledgesFor 25 = .ok (.istore_n 2, 1) := by decide +kernel
theorem dX2_pledgesFor_26 : decode cX2_pledgesFor 26 = .ok (.iinc 3 1, 3) := by decide +kernel
theorem dX2_pledgesFor_29 : decode cX2_pledgesFor 29 = .ok (.goto (-25), 3) := by decide +kernel
theorem dX2_pledgesFor_32 : decode cX2_pledgesFor 32 = .ok (.iload_n 2, 1) := by decide +kernel
theorem dX2_pledgesFor_33 : decode cX2_pledgesFor 33 = .ok (.aload_n 0, 1) := by decide +kernel
theorem dX2_pledgesFor_34 : decode cX2_pledgesFor 34 = .ok (.invokevirtual 70, 3) := by decide +kernel
theorem dX2_pledgesFor_37 : decode cX2_pledgesFor 37 = .ok (.iand, 1) := by decide +kernel
theorem dX2_pledgesFor_38 : decode cX2_pledgesFor 38 = .ok (.ireturn, 1) := by decide +kernel
theorem dX2_pledgesOf_0 : decode cX2_pledgesOf 0 = .ok (.iconst 0, 1) := by decide +kernel
theorem dX2_pledgesOf_1 : decode cX2_pledgesOf 1 = .ok (.istore_n 2, 1) := by decide +kernel
theorem dX2_pledgesOf_2 : decode cX2_pledgesOf 2 = .ok (.iconst 0, 1) := by decide +kernel
theorem dX2_pledgesOf_3 : decode cX2_pledgesOf 3 = .ok (.istore_n 3, 1) := by decide +kernel
theorem dX2_pledgesOf_4 : decode cX2_pledgesOf 4 = .ok (.iload_n 3, 1) := by decide +kernel
theorem dX2_pledgesOf_5 : decode cX2_pledgesOf 5 = .ok (.bipush 12, 2) := by decide +kernel
theorem dX2_pledgesOf_7 : decode cX2_pledgesOf 7 = .ok (.if_icmp .ge 25, 3) := by decide +kernel
theorem dX2_pledgesOf_10 : decode cX2_pledgesOf 10 = .ok (.aload_n 0, 1) := by decide +kernel
theorem dX2_pledgesOf_11 : decode cX2_pledgesOf 11 = .ok (.getfield 21, 3) := by decide +kernel
theorem dX2_pledgesOf_14 : decode cX2_pledgesOf 14 = .ok (.iload_n 3, 1) := by decide +kernel
theorem dX2_pledgesOf_15 : decode cX2_pledgesOf 15 = .ok (.iaload, 1) := by decide +kernel
theorem dX2_pledgesOf_16 : decode cX2_pledgesOf 16 = .ok (.iload_n 1, 1) := by decide +kernel
theorem dX2_pledgesOf_17 : decode cX2_pledgesOf 17 = .ok (.if_icmp .ne 9, 3) := by decide +kernel
theorem dX2_pledgesOf_20 : decode cX2_pledgesOf 20 = .ok (.iload_n 2, 1) := by decide +kernel
theorem dX2_pledgesOf_21 : decode cX2_pledgesOf 21 = .ok (.iconst 1, 1) := by decide +kernel
theorem dX2_pledgesOf_22 : decode cX2_pledgesOf 22 = .ok (.iload_n 3, 1) := by decide +kernel
theorem dX2_pledgesOf_23 : decode cX2_pledgesOf 23 = .ok (.ishl, 1) := by decide +kernel
theorem dX2_pledgesOf_24 : decode cX2_pledgesOf 24 = .ok (.ior, 1) := by decide +kernel
theorem dX2_pledgesOf_25 : decode cX2_pledgesOf 25 = .ok (.istore_n 2, 1) := by decide +kernel
theorem dX2_pledgesOf_26 : decode cX2_pledgesOf 26 = .ok (.iinc 3 1, 3) := by decide +kernel
theorem dX2_pledgesOf_29 : decode cX2_pledgesOf 29 = .ok (.goto (-25), 3) := by decide +kernel
theorem dX2_pledgesOf_32 : decode cX2_pledgesOf 32 = .ok (.iload_n 2, 1) := by decide +kernel
theorem dX2_pledgesOf_33 : decode cX2_pledgesOf 33 = .ok (.aload_n 0, 1) := by decide +kernel
theorem dX2_pledgesOf_34 : decode cX2_pledgesOf 34 = .ok (.invokevirtual 70, 3) := by decide +kernel
theorem dX2_pledgesOf_37 : decode cX2_pledgesOf 37 = .ok (.iand, 1) := by decide +kernel
theorem dX2_pledgesOf_38 : decode cX2_pledgesOf 38 = .ok (.ireturn, 1) := by decide +kernel
theorem dX2_pledgesUpTo_0 : decode cX2_pledgesUpTo 0 = .ok (.iconst 0, 1) := by decide +kernel
theorem dX2_pledgesUpTo_1 : decode cX2_pledgesUpTo 1 = .ok (.istore_n 2, 1) := by decide +kernel
theorem dX2_pledgesUpTo_2 : decode cX2_pledgesUpTo 2 = .ok (.iconst 0, 1) := by decide +kernel
theorem dX2_pledgesUpTo_3 : decode cX2_pledgesUpTo 3 = .ok (.istore_n 3, 1) := by decide +kernel
theorem dX2_pledgesUpTo_4 : decode cX2_pledgesUpTo 4 = .ok (.iload_n 3, 1) := by decide +kernel
theorem dX2_pledgesUpTo_5 : decode cX2_pledgesUpTo 5 = .ok (.bipush 12, 2) := by decide +kernel
theorem dX2_pledgesUpTo_7 : decode cX2_pledgesUpTo 7 = .ok (.if_icmp .ge 25, 3) := by decide +kernel
theorem dX2_pledgesUpTo_10 : decode cX2_pledgesUpTo 10 = .ok (.aload_n 0, 1) := by decide +kernel
theorem dX2_pledgesUpTo_11 : decode cX2_pledgesUpTo 11 = .ok (.getfield 36, 3) := by decide +kernel
theorem dX2_pledgesUpTo_14 : decode cX2_pledgesUpTo 14 = .ok (.iload_n 3, 1) := by decide +kernel
theorem dX2_pledgesUpTo_15 : decode cX2_pledgesUpTo 15 = .ok (.iaload, 1) := by decide +kernel
theorem dX2_pledgesUpTo_16 : decode cX2_pledgesUpTo 16 = .ok (.iload_n 1, 1) := by decide +kernel
theorem dX2_pledgesUpTo_17 : decode cX2_pledgesUpTo 17 = .ok (.if_icmp .gt 9, 3) := by decide +kernel
theorem dX2_pledgesUpTo_20 : decode cX2_pledgesUpTo 20 = .ok (.iload_n 2, 1) := by decide +kernel
theorem dX2_pledgesUpTo_21 : decode cX2_pledgesUpTo 21 = .ok (.iconst 1, 1) := by decide +kernel
theorem dX2_pledgesUpTo_22 : decode cX2_pledgesUpTo 22 = .ok (.iload_n 3, 1) := by decide +kernel
theorem dX2_pledgesUpTo_23 : decode cX2_pledgesUpTo 23 = .ok (.ishl, 1) := by decide +kernel
theorem dX2_pledgesUpTo_24 : decode cX2_pledgesUpTo 24 = .ok (.ior, 1) := by decide +kernel
theorem dX2_pledgesUpTo_25 : decode cX2_pledgesUpTo 25 = .ok (.istore_n 2, 1) := by decide +kernel
theorem dX2_pledgesUpTo_26 : decode cX2_pledgesUpTo 26 = .ok (.iinc 3 1, 3) := by decide +kernel
theorem dX2_pledgesUpTo_29 : decode cX2_pledgesUpTo 29 = .ok (.goto (-25), 3) := by decide +kernel
theorem dX2_pledgesUpTo_32 : decode cX2_pledgesUpTo 32 = .ok (.iload_n 2, 1) := by decide +kernel
theorem dX2_pledgesUpTo_33 : decode cX2_pledgesUpTo 33 = .ok (.aload_n 0, 1) := by decide +kernel
theorem dX2_pledgesUpTo_34 : decode cX2_pledgesUpTo 34 = .ok (.invokevirtual 70, 3) := by decide +kernel
theorem dX2_pledgesUpTo_37 : decode cX2_pledgesUpTo 37 = .ok (.iand, 1) := by decide +kernel
theorem dX2_pledgesUpTo_38 : decode cX2_pledgesUpTo 38 = .ok (.ireturn, 1) := by decide +kernel
theorem dX2_sum_0 : decode cX2_sum 0 = .ok (.iconst 0, 1) := by decide +kernel
theorem dX2_sum_1 : decode cX2_sum 1 = .ok (.istore_n 2, 1) := by decide +kernel
theorem dX2_sum_2 : decode cX2_sum 2 = .ok (.iconst 0, 1) := by decide +kernel
theorem dX2_sum_3 : decode cX2_sum 3 = .ok (.istore_n 3, 1) := by decide +kernel
theorem dX2_sum_4 : decode cX2_sum 4 = .ok (.iload_n 3, 1) := by decide +kernel
theorem dX2_sum_5 : decode cX2_sum 5 = .ok (.bipush 12, 2) := by decide +kernel
theorem dX2_sum_7 : decode cX2_sum 7 = .ok (.if_icmp .ge 26, 3) := by decide +kernel
theorem dX2_sum_10 : decode cX2_sum 10 = .ok (.iload_n 1, 1) := by decide +kernel
theorem dX2_sum_11 : decode cX2_sum 11 = .ok (.iload_n 3, 1) := by decide +kernel
theorem dX2_sum_12 : decode cX2_sum 12 = .ok (.ishr, 1) := by decide +kernel
theorem dX2_sum_13 : decode cX2_sum 13 = .ok (.iconst 1, 1) := by decide +kernel
theorem dX2_sum_14 : decode cX2_sum 14 = .ok (.iand, 1) := by decide +kernel
theorem dX2_sum_15 : decode cX2_sum 15 = .ok (.ifCond .eq 12, 3) := by decide +kernel
theorem dX2_sum_18 : decode cX2_sum 18 = .ok (.iload_n 2, 1) := by decide +kernel
theorem dX2_sum_19 : decode cX2_sum 19 = .ok (.aload_n 0, 1) := by decide +kernel
theorem dX2_sum_20 : decode cX2_sum 20 = .ok (.getfield 27, 3) := by decide +kernel
theorem dX2_sum_23 : decode cX2_sum 23 = .ok (.iload_n 3, 1) := by decide +kernel
theorem dX2_sum_24 : decode cX2_sum 24 = .ok (.iaload, 1) := by decide +kernel
theorem dX2_sum_25 : decode cX2_sum 25 = .ok (.iadd, 1) := by decide +kernel
theorem dX2_sum_26 : decode cX2_sum 26 = .ok (.istore_n 2, 1) := by decide +kernel
theorem dX2_sum_27 : decode cX2_sum 27 = .ok (.iinc 3 1, 3) := by decide +kernel
theorem dX2_sum_30 : decode cX2_sum 30 = .ok (.goto (-26), 3) := by decide +kernel
theorem dX2_sum_33 : decode cX2_sum 33 = .ok (.iload_n 2, 1) := by decide +kernel
theorem dX2_sum_34 : decode cX2_sum 34 = .ok (.ireturn, 1) := by decide +kernel
theorem dX2_lowestFreeNumber_0 : decode cX2_lowestFreeNumber 0 = .ok (.iconst 0, 1) := by decide +kernel
theorem dX2_lowestFreeNumber_1 : decode cX2_lowestFreeNumber 1 = .ok (.istore_n 1, 1) := by decide +kernel
theorem dX2_lowestFreeNumber_2 : decode cX2_lowestFreeNumber 2 = .ok (.iload_n 1, 1) := by decide +kernel
theorem dX2_lowestFreeNumber_3 : decode cX2_lowestFreeNumber 3 = .ok (.bipush 12, 2) := by decide +kernel
theorem dX2_lowestFreeNumber_5 : decode cX2_lowestFreeNumber 5 = .ok (.if_icmp .ge 17, 3) := by decide +kernel
theorem dX2_lowestFreeNumber_8 : decode cX2_lowestFreeNumber 8 = .ok (.aload_n 0, 1) := by decide +kernel
theorem dX2_lowestFreeNumber_9 : decode cX2_lowestFreeNumber 9 = .ok (.iload_n 1, 1) := by decide +kernel
theorem dX2_lowestFreeNumber_10 : decode cX2_lowestFreeNumber 10 = .ok (.invokevirtual 74, 3) := by decide +kernel
theorem dX2_lowestFreeNumber_13 : decode cX2_lowestFreeNumber 13 = .ok (.ifCond .eq 9, 3) := by decide +kernel
theorem dX2_lowestFreeNumber_16 : decode cX2_lowestFreeNumber 16 = .ok (.iinc 1 1, 3) := by decide +kernel
theorem dX2_lowestFreeNumber_19 : decode cX2_lowestFreeNumber 19 = .ok (.goto (-17), 3) := by decide +kernel
theorem dX2_lowestFreeNumber_22 : decode cX2_lowestFreeNumber 22 = .ok (.iload_n 1, 1) := by decide +kernel
theorem dX2_lowestFreeNumber_23 : decode cX2_lowestFreeNumber 23 = .ok (.ireturn, 1) := by decide +kernel
theorem dX2_thinkOfExtra_0 : decode cX2_thinkOfExtra 0 = .ok (.aload_n 0, 1) := by decide +kernel
theorem dX2_thinkOfExtra_1 : decode cX2_thinkOfExtra 1 = .ok (.getfield 21, 3) := by decide +kernel
theorem dX2_thinkOfExtra_4 : decode cX2_thinkOfExtra 4 = .ok (.bipush 12, 2) := by decide +kernel
theorem dX2_thinkOfExtra_6 : decode cX2_thinkOfExtra 6 = .ok (.bipush 8, 2) := by decide +kernel
theorem dX2_thinkOfExtra_8 : decode cX2_thinkOfExtra 8 = .ok (.iastore, 1) := by decide +kernel
theorem dX2_thinkOfExtra_9 : decode cX2_thinkOfExtra 9 = .ok (.aload_n 0, 1) := by decide +kernel
theorem dX2_thinkOfExtra_10 : decode cX2_thinkOfExtra 10 = .ok (.getfield 24, 3) := by decide +kernel
theorem dX2_thinkOfExtra_13 : decode cX2_thinkOfExtra 13 = .ok (.bipush 12, 2) := by decide +kernel
theorem dX2_thinkOfExtra_15 : decode cX2_thinkOfExtra 15 = .ok (.iload_n 1, 1) := by decide +kernel
theorem dX2_thinkOfExtra_16 : decode cX2_thinkOfExtra 16 = .ok (.iastore, 1) := by decide +kernel
theorem dX2_thinkOfExtra_17 : decode cX2_thinkOfExtra 17 = .ok (.aload_n 0, 1) := by decide +kernel
theorem dX2_thinkOfExtra_18 : decode cX2_thinkOfExtra 18 = .ok (.getfield 27, 3) := by decide +kernel
theorem dX2_thinkOfExtra_21 : decode cX2_thinkOfExtra 21 = .ok (.bipush 12, 2) := by decide +kernel
theorem dX2_thinkOfExtra_23 : decode cX2_thinkOfExtra 23 = .ok (.iload_n 2, 1) := by decide +kernel
theorem dX2_thinkOfExtra_24 : decode cX2_thinkOfExtra 24 = .ok (.iastore, 1) := by decide +kernel
theorem dX2_thinkOfExtra_25 : decode cX2_thinkOfExtra 25 = .ok (.aload_n 0, 1) := by decide +kernel
theorem dX2_thinkOfExtra_26 : decode cX2_thinkOfExtra 26 = .ok (.getfield 30, 3) := by decide +kernel
theorem dX2_thinkOfExtra_29 : decode cX2_thinkOfExtra 29 = .ok (.bipush 12, 2) := by decide +kernel
theorem dX2_thinkOfExtra_31 : decode cX2_thinkOfExtra 31 = .ok (.iconst 0, 1) := by decide +kernel
theorem dX2_thinkOfExtra_32 : decode cX2_thinkOfExtra 32 = .ok (.iastore, 1) := by decide +kernel
theorem dX2_thinkOfExtra_33 : decode cX2_thinkOfExtra 33 = .ok (.aload_n 0, 1) := by decide +kernel
theorem dX2_thinkOfExtra_34 : decode cX2_thinkOfExtra 34 = .ok (.getfield 33, 3) := by decide +kernel
theorem dX2_thinkOfExtra_37 : decode cX2_thinkOfExtra 37 = .ok (.bipush 12, 2) := by decide +kernel
theorem dX2_thinkOfExtra_39 : decode cX2_thinkOfExtra 39 = .ok (.iconst 0, 1) := by decide +kernel
theorem dX2_thinkOfExtra_40 : decode cX2_thinkOfExtra 40 = .ok (.iastore, 1) := by decide +kernel
theorem dX2_thinkOfExtra_41 : decode cX2_thinkOfExtra 41 = .ok (.return_, 1) := by decide +kernel
theorem dX3_init_0 : decode cX3_init 0 = .ok (.aload_n 0, 1) := by decide +kernel
theorem dX3_init_1 : decode cX3_init 1 = .ok (.invokespecial 3, 3) := by decide +kernel
theorem dX3_init_4 : decode cX3_init 4 = .ok (.aload_n 0, 1) := by decide +kernel
theorem dX3_init_5 : decode cX3_init 5 = .ok (.bipush 80, 2) := by decide +kernel
theorem dX3_init_7 : decode cX3_init 7 = .ok (.newarray .char, 2) := by decide +kernel
theorem dX3_init_9 : decode cX3_init 9 = .ok (.putfield 9, 3) := by decide +kernel
theorem dX3_init_12 : decode cX3_init 12 = .ok (.aload_n 0, 1) := by decide +kernel
theorem dX3_init_13 : decode cX3_init 13 = .ok (.iconst 5, 1) := by decide +kernel
theorem dX3_init_14 : decode cX3_init 14 = .ok (.newarray .int, 2) := by decide +kernel
theorem dX3_init_16 : decode cX3_init 16 = .ok (.putfield 15, 3) := by decide +kernel
theorem dX3_init_19 : decode cX3_init 19 = .ok (.aload_n 0, 1) := by decide +kernel
theorem dX3_init_20 : decode cX3_init 20 = .ok (.new 19, 3) := by decide +kernel
theorem dX3_init_23 : decode cX3_init 23 = .ok (.dup, 1) := by decide +kernel
theorem dX3_init_24 : decode cX3_init 24 = .ok (.invokespecial 21, 3) := by decide +kernel
theorem dX3_init_27 : decode cX3_init 27 = .ok (.putfield 22, 3) := by decide +kernel
theorem dX3_init_30 : decode cX3_init 30 = .ok (.aload_n 0, 1) := by decide +kernel
theorem dX3_init_31 : decode cX3_init 31 = .ok (.new 26, 3) := by decide +kernel
theorem dX3_init_34 : decode cX3_init 34 = .ok (.dup, 1) := by decide +kernel
theorem dX3_init_35 : decode cX3_init 35 = .ok (.aload_n 0, 1) := by decide +kernel
theorem dX3_init_36 : decode cX3_init 36 = .ok (.getfield 22, 3) := by decide +kernel
theorem dX3_init_39 : decode cX3_init 39 = .ok (.new 28, 3) := by decide +kernel
theorem dX3_init_42 : decode cX3_init 42 = .ok (.dup, 1) := by decide +kernel
theorem dX3_init_43 : decode cX3_init 43 = .ok (.aload_n 0, 1) := by decide +kernel
theorem dX3_init_44 : decode cX3_init 44 = .ok (.getfield 22, 3) := by decide +kernel
theorem dX3_init_47 : decode cX3_init 47 = .ok (.invokespecial 30, 3) := by decide +kernel
theorem dX3_init_50 : decode cX3_init 50 = .ok (.invokespecial 33, 3) := by decide +kernel
theorem dX3_init_53 : decode cX3_init 53 = .ok (.putfield 36, 3) := by decide +kernel
theorem dX3_init_56 : decode cX3_init 56 = .ok (.return_, 1) := by decide +kernel
theorem dX3_append_0 : decode cX3_append 0 = .ok (.aload_n 0, 1) := by decide +kernel
theorem dX3_append_1 : decode cX3_append 1 = .ok (.getfield 40, 3) := by decide +kernel
theorem dX3_append_4 : decode cX3_append 4 = .ok (.bipush 80, 2) := by decide +kernel
theorem dX3_append_6 : decode cX3_append 6 = .ok (.if_icmp .lt 6, 3) := by decide +kernel
theorem dX3_append_9 : decode cX3_append 9 = .ok (.bipush (-3), 2) := by decide +kernel
theorem dX3_append_11 : decode cX3_append 11 = .ok (.ireturn, 1) := by decide +kernel
theorem dX3_append_12 : decode cX3_append 12 = .ok (.aload_n 0, 1) := by decide +kernel
theorem dX3_append_13 : decode cX3_append 13 = .ok (.getfield 9, 3) := by decide +kernel
theorem dX3_append_16 : decode cX3_append 16 = .ok (.aload_n 0, 1) := by decide +kernel
theorem dX3_append_17 : decode cX3_append 17 = .ok (.getfield 40, 3) := by decide +kernel
theorem dX3_append_20 : decode cX3_append 20 = .ok (.iload_n 1, 1) := by decide +kernel
theorem dX3_append_21 : decode cX3_append 21 = .ok (.castore, 1) := by decide +kernel
theorem dX3_append_22 : decode cX3_append 22 = .ok (.aload_n 0, 1) := by decide +kernel
theorem dX3_append_23 : decode cX3_append 23 = .ok (.dup, 1) := by decide +kernel
theorem dX3_append_24 : decode cX3_append 24 = .ok (.getfield 40, 3) := by decide +kernel
theorem dX3_append_27 : decode cX3_append 27 = .ok (.iconst 1, 1) := by decide +kernel
theorem dX3_append_28 : decode cX3_append 28 = .ok (.iadd, 1) := by decide +kernel
theorem dX3_append_29 : decode cX3_append 29 = .ok (.putfield 40, 3) := by decide +kernel
theorem dX3_append_32 : decode cX3_append 32 = .ok (.aload_n 0, 1) := by decide +kernel
theorem dX3_append_33 : decode cX3_append 33 = .ok (.getfield 40, 3) := by decide +kernel
theorem dX3_append_36 : decode cX3_append 36 = .ok (.ireturn, 1) := by decide +kernel
theorem dX3_empty_0 : decode cX3_empty 0 = .ok (.aload_n 0, 1) := by decide +kernel
theorem dX3_empty_1 : decode cX3_empty 1 = .ok (.getfield 40, 3) := by decide +kernel
theorem dX3_empty_4 : decode cX3_empty 4 = .ok (.istore_n 1, 1) := by decide +kernel
theorem dX3_empty_5 : decode cX3_empty 5 = .ok (.aload_n 0, 1) := by decide +kernel
theorem dX3_empty_6 : decode cX3_empty 6 = .ok (.iconst 0, 1) := by decide +kernel
theorem dX3_empty_7 : decode cX3_empty 7 = .ok (.putfield 40, 3) := by decide +kernel
theorem dX3_empty_10 : decode cX3_empty 10 = .ok (.iload_n 1, 1) := by decide +kernel
theorem dX3_empty_11 : decode cX3_empty 11 = .ok (.ireturn, 1) := by decide +kernel
theorem dX3_hasFault_0 : decode cX3_hasFault 0 = .ok (.aload_n 0, 1) := by decide +kernel
theorem dX3_hasFault_1 : decode cX3_hasFault 1 = .ok (.getfield 44, 3) := by decide +kernel
theorem dX3_hasFault_4 : decode cX3_hasFault 4 = .ok (.bipush (-4), 2) := by decide +kernel
theorem dX3_hasFault_6 : decode cX3_hasFault 6 = .ok (.if_icmp .eq 7, 3) := by decide +kernel
theorem dX3_hasFault_9 : decode cX3_hasFault 9 = .ok (.iconst 1, 1) := by decide +kernel
theorem dX3_hasFault_10 : decode cX3_hasFault 10 = .ok (.goto 4, 3) := by decide +kernel
theorem dX3_hasFault_13 : decode cX3_hasFault 13 = .ok (.iconst 0, 1) := by decide +kernel
theorem dX3_hasFault_14 : decode cX3_hasFault 14 = .ok (.ireturn, 1) := by decide +kernel
theorem dX3_tryOn_0 : decode cX3_tryOn 0 = .ok (.aload_n 0, 1) := by decide +kernel
theorem dX3_tryOn_1 : decode cX3_tryOn 1 = .ok (.getfield 22, 3) := by decide +kernel
theorem dX3_tryOn_4 : decode cX3_tryOn 4 = .ok (.aload_n 1, 1) := by decide +kernel
theorem dX3_tryOn_5 : decode cX3_tryOn 5 = .ok (.invokevirtual 47, 3) := by decide +kernel
theorem dX3_tryOn_8 : decode cX3_tryOn 8 = .ok (.aload_n 0, 1) := by decide +kernel
theorem dX3_tryOn_9 : decode cX3_tryOn 9 = .ok (.iconst 0, 1) := by decide +kernel
theorem dX3_tryOn_10 : decode cX3_tryOn 10 = .ok (.putfield 50, 3) := by decide +kernel
theorem dX3_tryOn_13 : decode cX3_tryOn 13 = .ok (.aload_n 0, 1) := by decide +kernel
theorem dX3_tryOn_14 : decode cX3_tryOn 14 = .ok (.bipush (-4), 2) := by decide +kernel
theorem dX3_tryOn_16 : decode cX3_tryOn 16 = .ok (.bipush (-4), 2) := by decide +kernel
theorem dX3_tryOn_18 : decode cX3_tryOn 18 = .ok (.bipush (-4), 2) := by decide +kernel
theorem dX3_tryOn_20 : decode cX3_tryOn 20 = .ok (.invokevirtual 53, 3) := by decide +kernel
theorem dX3_tryOn_23 : decode cX3_tryOn 23 = .ok (.iconst 0, 1) := by decide +kernel
theorem dX3_tryOn_24 : decode cX3_tryOn 24 = .ok (.istore_n 2, 1) := by decide +kernel
theorem dX3_tryOn_25 : decode cX3_tryOn 25 = .ok (.iload_n 2, 1) := by decide +kernel
theorem dX3_tryOn_26 : decode cX3_tryOn 26 = .ok (.aload_n 0, 1) := by decide +kernel
theorem dX3_tryOn_27 : decode cX3_tryOn 27 = .ok (.getfield 40, 3) := by decide +kernel
theorem dX3_tryOn_30 : decode cX3_tryOn 30 = .ok (.if_icmp .ge 72, 3) := by decide +kernel
theorem dX3_tryOn_33 : decode cX3_tryOn 33 = .ok (.aload_n 0, 1) := by decide +kernel
theorem dX3_tryOn_34 : decode cX3_tryOn 34 = .ok (.getfield 50, 3) := by decide +kernel
theorem dX3_tryOn_37 : decode cX3_tryOn 37 = .ok (.bipush 80, 2) := by decide +kernel
theorem dX3_tryOn_39 : decode cX3_tryOn 39 = .ok (.if_icmp .ge 63, 3) := by decide +kernel
theorem dX3_tryOn_42 : decode cX3_tryOn 42 = .ok (.aload_n 0, 1) := by decide +kernel
theorem dX3_tryOn_43 : decode cX3_tryOn 43 = .ok (.iload_n 2, 1) := by decide +kernel
theorem dX3_tryOn_44 : decode cX3_tryOn 44 = .ok (.invokevirtual 57, 3) := by decide +kernel
theorem dX3_tryOn_47 : decode cX3_tryOn 47 = .ok (.istore_n 3, 1) := by decide +kernel
theorem dX3_tryOn_48 : decode cX3_tryOn 48 = .ok (.iload_n 3, 1) := by decide +kernel
theorem dX3_tryOn_49 : decode cX3_tryOn 49 = .ok (.iconst (-1), 1) := by decide +kernel
theorem dX3_tryOn_50 : decode cX3_tryOn 50 = .ok (.if_icmp .ne 12, 3) := by decide +kernel
theorem dX3_tryOn_53 : decode cX3_tryOn 53 = .ok (.aload_n 0, 1) := by decide +kernel
theorem dX3_tryOn_54 : decode cX3_tryOn 54 = .ok (.iload_n 2, 1) := by decide +kernel
theorem dX3_tryOn_55 : decode cX3_tryOn 55 = .ok (.iconst 1, 1) := by decide +kernel
theorem dX3_tryOn_56 : decode cX3_tryOn 56 = .ok (.bipush (-4), 2) := by decide +kernel
theorem dX3_tryOn_58 : decode cX3_tryOn 58 = .ok (.invokevirtual 53, 3) := by decide +kernel
theorem dX3_tryOn_61 : decode cX3_tryOn 61 = .ok (.return_, 1) := by decide +kernel
theorem dX3_tryOn_62 : decode cX3_tryOn 62 = .ok (.aload_n 0, 1) := by decide +kernel
theorem dX3_tryOn_63 : decode cX3_tryOn 63 = .ok (.aload_n 0, 1) := by decide +kernel
theorem dX3_tryOn_64 : decode cX3_tryOn 64 = .ok (.iload_n 2, 1) := by decide +kernel
theorem dX3_tryOn_65 : decode cX3_tryOn 65 = .ok (.invokevirtual 61, 3) := by decide +kernel
theorem dX3_tryOn_68 : decode cX3_tryOn 68 = .ok (.invokevirtual 65, 3) := by decide +kernel
theorem dX3_tryOn_71 : decode cX3_tryOn 71 = .ok (.istore 4, 2) := by decide +kernel
theorem dX3_tryOn_73 : decode cX3_tryOn 73 = .ok (.iload 4, 2) := by decide +kernel
theorem dX3_tryOn_75 : decode cX3_tryOn 75 = .ok (.ifCond .ge 12, 3) := by decide +kernel
theorem dX3_tryOn_78 : decode cX3_tryOn 78 = .ok (.aload_n 0, 1) := by decide +kernel
theorem dX3_tryOn_79 : decode cX3_tryOn 79 = .ok (.iload_n 2, 1) := by decide +kernel
theorem dX3_tryOn_80 : decode cX3_tryOn 80 = .ok (.iconst 2, 1) := by decide +kernel
theorem dX3_tryOn_81 : decode cX3_tryOn 81 = .ok (.iload 4, 2) := by decide +kernel
theorem dX3_tryOn_83 : decode cX3_tryOn 83 = .ok (.invokevirtual 53, 3) := by decide +kernel
theorem dX3_tryOn_86 : decode cX3_tryOn 86 = .ok (.return_, 1) := by decide +kernel
theorem dX3_tryOn_87 : decode cX3_tryOn 87 = .ok (.aload_n 0, 1) := by decide +kernel
theorem dX3_tryOn_88 : decode cX3_tryOn 88 = .ok (.dup, 1) := by decide +kernel
theorem dX3_tryOn_89 : decode cX3_tryOn 89 = .ok (.getfield 50, 3) := by decide +kernel
theorem dX3_tryOn_92 : decode cX3_tryOn 92 = .ok (.iconst 1, 1) := by decide +kernel
theorem dX3_tryOn_93 : decode cX3_tryOn 93 = .ok (.iadd, 1) := by decide +kernel
theorem dX3_tryOn_94 : decode cX3_tryOn 94 = .ok (.putfield 50, 3) := by decide +kernel
theorem dX3_tryOn_97 : decode cX3_tryOn 97 = .ok (.iload_n 3, 1) := by decide +kernel
theorem dX3_tryOn_98 : decode cX3_tryOn 98 = .ok (.istore_n 2, 1) := by decide +kernel
theorem dX3_tryOn_99 : decode cX3_tryOn 99 = .ok (.goto (-74), 3) := by decide +kernel
theorem dX3_tryOn_102 : decode cX3_tryOn 102 = .ok (.return_, 1) := by decide +kernel
theorem dX3_tellFault_0 : decode cX3_tellFault 0 = .ok (.aload_n 0, 1) := by decide +kernel
theorem dX3_tellFault_1 : decode cX3_tellFault 1 = .ok (.iload_n 1, 1) := by decide +kernel
theorem dX3_tellFault_2 : decode cX3_tellFault 2 = .ok (.putfield 69, 3) := by decide +kernel
theorem dX3_tellFault_5 : decode cX3_tellFault 5 = .ok (.aload_n 0, 1) := by decide +kernel
theorem dX3_tellFault_6 : decode cX3_tellFault 6 = .ok (.iload_n 2, 1) := by decide +kernel
theorem dX3_tellFault_7 : decode cX3_tellFault 7 = .ok (.putfield 44, 3) := by decide +kernel
theorem dX3_tellFault_10 : decode cX3_tellFault 10 = .ok (.aload_n 0, 1) := by decide +kernel
theorem dX3_tellFault_11 : decode cX3_tellFault 11 = .ok (.iload_n 3, 1) := by decide +kernel
theorem dX3_tellFault_12 : decode cX3_tellFault 12 = .ok (.putfield 72, 3) := by decide +kernel
theorem dX3_tellFault_15 : decode cX3_tellFault 15 = .ok (.return_, 1) := by decide +kernel
theorem dX3_readCommand_0 : decode cX3_readCommand 0 = .ok (.aload_n 0, 1) := by decide +kernel
theorem dX3_readCommand_1 : decode cX3_readCommand 1 = .ok (.aload_n 0, 1) := by decide +kernel
theorem dX3_readCommand_2 : decode cX3_readCommand 2 = .ok (.iload_n 1, 1) := by decide +kernel
theorem dX3_readCommand_3 : decode cX3_readCommand 3 = .ok (.invokevirtual 61, 3) := by decide +kernel
theorem dX3_readCommand_6 : decode cX3_readCommand 6 = .ok (.invokevirtual 75, 3) := by decide +kernel
theorem dX3_readCommand_9 : decode cX3_readCommand 9 = .ok (.istore_n 2, 1) := by decide +kernel
theorem dX3_readCommand_10 : decode cX3_readCommand 10 = .ok (.iload_n 2, 1) := by decide +kernel
theorem dX3_readCommand_11 : decode cX3_readCommand 11 = .ok (.ifCond .ne 5, 3) := by decide +kernel
theorem dX3_readCommand_14 : decode cX3_readCommand 14 = .ok (.iconst (-1), 1) := by decide +kernel
theorem dX3_readCommand_15 : decode cX3_readCommand 15 = .ok (.ireturn, 1) := by decide +kernel
theorem dX3_readCommand_16 : decode cX3_readCommand 16 = .ok (.iload_n 1, 1) := by decide +kernel
theorem dX3_readCommand_17 : decode cX3_readCommand 17 = .ok (.iconst 1, 1) := by decide +kernel
theorem dX3_readCommand_18 : decode cX3_readCommand 18 = .ok (.iadd, 1) := by decide +kernel
theorem dX3_readCommand_19 : decode cX3_readCommand 19 = .ok (.istore_n 3, 1) := by decide +kernel
theorem dX3_readCommand_20 : decode cX3_readCommand 20 = .ok (.iconst 0, 1) := by decide +kernel
theorem dX3_readCommand_21 : decode cX3_readCommand 21 = .ok (.istore 4, 2) := by decide +kernel
theorem dX3_readCommand_23 : decode cX3_readCommand 23 = .ok (.iload 4, 2) := by decide +kernel
theorem dX3_readCommand_25 : decode cX3_readCommand 25 = .ok (.iload_n 2, 1) := by decide +kernel
theorem dX3_readCommand_26 : decode cX3_readCommand 26 = .ok (.if_icmp .ge 59, 3) := by decide +kernel
theorem dX3_readCommand_29 : decode cX3_readCommand 29 = .ok (.aload_n 0, 1) := by decide +kernel
theorem dX3_readCommand_30 : decode cX3_readCommand 30 = .ok (.iload_n 3, 1) := by decide +kernel
theorem dX3_readCommand_31 : decode cX3_readCommand 31 = .ok (.iload 4, 2) := by decide +kernel
theorem dX3_readCommand_33 : decode cX3_readCommand 33 = .ok (.invokevirtual 78, 3) := by decide +kernel
theorem dX3_readCommand_36 : decode cX3_readCommand 36 = .ok (.istore 5, 2) := by decide +kernel
theorem dX3_readCommand_38 : decode cX3_readCommand 38 = .ok (.iload 4, 2) := by decide +kernel
theorem dX3_readCommand_40 : decode cX3_readCommand 40 = .ok (.iconst 1, 1) := by decide +kernel
theorem dX3_readCommand_41 : decode cX3_readCommand 41 = .ok (.iadd, 1) := by decide +kernel
theorem dX3_readCommand_42 : decode cX3_readCommand 42 = .ok (.iload_n 2, 1) := by decide +kernel
theorem dX3_readCommand_43 : decode cX3_readCommand 43 = .ok (.if_icmp .ge 8, 3) := by decide +kernel
theorem dX3_readCommand_46 : decode cX3_readCommand 46 = .ok (.bipush 44, 2) := by decide +kernel
theorem dX3_readCommand_48 : decode cX3_readCommand 48 = .ok (.goto 5, 3) := by decide +kernel
theorem dX3_readCommand_51 : decode cX3_readCommand 51 = .ok (.bipush 59, 2) := by decide +kernel
theorem dX3_readCommand_53 : decode cX3_readCommand 53 = .ok (.istore 6, 2) := by decide +kernel
theorem dX3_readCommand_55 : decode cX3_readCommand 55 = .ok (.iload 5, 2) := by decide +kernel
theorem dX3_readCommand_57 : decode cX3_readCommand 57 = .ok (.iload_n 3, 1) := by decide +kernel
theorem dX3_readCommand_58 : decode cX3_readCommand 58 = .ok (.if_icmp .eq 14, 3) := by decide +kernel
theorem dX3_readCommand_61 : decode cX3_readCommand 61 = .ok (.aload_n 0, 1) := by decide +kernel
theorem dX3_readCommand_62 : decode cX3_readCommand 62 = .ok (.iload 5, 2) := by decide +kernel
theorem dX3_readCommand_64 : decode cX3_readCommand 64 = .ok (.invokevirtual 61, 3) := by decide +kernel
theorem dX3_readCommand_67 : decode cX3_readCommand 67 = .ok (.iload 6, 2) := by decide +kernel
theorem dX3_readCommand_69 : decode cX3_readCommand 69 = .ok (.if_icmp .eq 5, 3) := by decide +kernel
theorem dX3_readCommand_72 : decode cX3_readCommand 72 = .ok (.iconst (-1), 1) := by decide +kernel
theorem dX3_readCommand_73 : decode cX3_readCommand 73 = .ok (.ireturn, 1) := by decide +kernel
theorem dX3_readCommand_74 : decode cX3_readCommand 74 = .ok (.iload 5, 2) := by decide +kernel
theorem dX3_readCommand_76 : decode cX3_readCommand 76 = .ok (.iconst 1, 1) := by decide +kernel
theorem dX3_readCommand_77 : decode cX3_readCommand 77 = .ok (.iadd, 1) := by decide +kernel
theorem dX3_readCommand_78 : decode cX3_readCommand 78 = .ok (.istore_n 3, 1) := by decide +kernel
theorem dX3_readCommand_79 : decode cX3_readCommand 79 = .ok (.iinc 4 1, 3) := by decide +kernel
theorem dX3_readCommand_82 : decode cX3_readCommand 82 = .ok (.goto (-59), 3) := by decide +kernel
theorem dX3_readCommand_85 : decode cX3_readCommand 85 = .ok (.iload_n 3, 1) := by decide +kernel
theorem dX3_readCommand_86 : decode cX3_readCommand 86 = .ok (.ireturn, 1) := by decide +kernel
theorem dX3_readNumber_0 : decode cX3_readNumber 0 = .ok (.iconst 0, 1) := by decide +kernel
theorem dX3_readNumber_1 : decode cX3_readNumber 1 = .ok (.istore_n 3, 1) := by decide +kernel
theorem dX3_readNumber_2 : decode cX3_readNumber 2 = .ok (.iload_n 1, 1) := by decide +kernel
theorem dX3_readNumber_3 : decode cX3_readNumber 3 = .ok (.istore 4, 2) := by decide +kernel
theorem dX3_readNumber_5 : decode cX3_readNumber 5 = .ok (.iload 4, 2) := by decide +kernel
theorem dX3_readNumber_7 : decode cX3_readNumber 7 = .ok (.iload_n 1, 1) := by decide +kernel
theorem dX3_readNumber_8 : decode cX3_readNumber 8 = .ok (.iconst 3, 1) := by decide +kernel
theorem dX3_readNumber_9 : decode cX3_readNumber 9 = .ok (.iadd, 1) := by decide +kernel
theorem dX3_readNumber_10 : decode cX3_readNumber 10 = .ok (.if_icmp .ge 46, 3) := by decide +kernel
theorem dX3_readNumber_13 : decode cX3_readNumber 13 = .ok (.aload_n 0, 1) := by decide +kernel
theorem dX3_readNumber_14 : decode cX3_readNumber 14 = .ok (.iload 4, 2) := by decide +kernel
theorem dX3_readNumber_16 : decode cX3_readNumber 16 = .ok (.invokevirtual 61, 3) := by decide +kernel
theorem dX3_readNumber_19 : decode cX3_readNumber 19 = .ok (.bipush 48, 2) := by decide +kernel
theorem dX3_readNumber_21 : decode cX3_readNumber 21 = .ok (.if_icmp .lt 35, 3) := by decide +kernel
theorem dX3_readNumber_24 : decode cX3_readNumber 24 = .ok (.aload_n 0, 1) := by decide +kernel
theorem dX3_readNumber_25 : decode cX3_readNumber 25 = .ok (.iload 4, 2) := by decide +kernel
theorem dX3_readNumber_27 : decode cX3_readNumber 27 = .ok (.invokevirtual 61, 3) := by decide +kernel
theorem dX3_readNumber_30 : decode cX3_readNumber 30 = .ok (.bipush 57, 2) := by decide +kernel
theorem dX3_readNumber_32 : decode cX3_readNumber 32 = .ok (.if_icmp .gt 24, 3) := by decide +kernel
theorem dX3_readNumber_35 : decode cX3_readNumber 35 = .ok (.iload_n 3, 1) := by decide +kernel
theorem dX3_readNumber_36 : decode cX3_readNumber 36 = .ok (.bipush 10, 2) := by decide +kernel
theorem dX3_readNumber_38 : decode cX3_readNumber 38 = .ok (.imul, 1) := by decide +kernel
theorem dX3_readNumber_39 : decode cX3_readNumber 39 = .ok (.aload_n 0, 1) := by decide +kernel
theorem dX3_readNumber_40 : decode cX3_readNumber 40 = .ok (.iload 4, 2) := by decide +kernel
theorem dX3_readNumber_42 : decode cX3_readNumber 42 = .ok (.invokevirtual 61, 3) := by decide +kernel
theorem dX3_readNumber_45 : decode cX3_readNumber 45 = .ok (.bipush 48, 2) := by decide +kernel
theorem dX3_readNumber_47 : decode cX3_readNumber 47 = .ok (.isub, 1) := by decide +kernel
theorem dX3_readNumber_48 : decode cX3_readNumber 48 = .ok (.iadd, 1) := by decide +kernel
theorem dX3_readNumber_49 : decode cX3_readNumber 49 = .ok (.istore_n 3, 1) := by decide +kernel
theorem dX3_readNumber_50 : decode cX3_readNumber 50 = .ok (.iinc 4 1, 3) := by decide +kernel
theorem dX3_readNumber_53 : decode cX3_readNumber 53 = .ok (.goto (-48), 3) := by decide +kernel
theorem dX3_readNumber_56 : decode cX3_readNumber 56 = .ok (.iload_n 2, 1) := by decide +kernel
theorem dX3_readNumber_57 : decode cX3_readNumber 57 = .ok (.ifCond .lt 15, 3) := by decide +kernel
theorem dX3_readNumber_60 : decode cX3_readNumber 60 = .ok (.iload_n 2, 1) := by decide +kernel
theorem dX3_readNumber_61 : decode cX3_readNumber 61 = .ok (.iconst 5, 1) := by decide +kernel
theorem dX3_readNumber_62 : decode cX3_readNumber 62 = .ok (.if_icmp .ge 10, 3) := by decide +kernel
theorem dX3_readNumber_65 : decode cX3_readNumber 65 = .ok (.aload_n 0, 1) := by decide +kernel
theorem dX3_readNumber_66 : decode cX3_readNumber 66 = .ok (.getfield 15, 3) := by decide +kernel
theorem dX3_readNumber_69 : decode cX3_readNumber 69 = .ok (.iload_n 2, 1) := by decide +kernel
theorem dX3_readNumber_70 : decode cX3_readNumber 70 = .ok (.iload_n 3, 1) := by decide +kernel
theorem dX3_readNumber_71 : decode cX3_readNumber 71 = .ok (.iastore, 1) := by decide +kernel
theorem dX3_readNumber_72 : decode cX3_readNumber 72 = .ok (.iload 4, 2) := by decide +kernel
theorem dX3_readNumber_74 : decode cX3_readNumber 74 = .ok (.ireturn, 1) := by decide +kernel
theorem dX3_signAt_0 : decode cX3_signAt 0 = .ok (.iload_n 1, 1) := by decide +kernel
theorem dX3_signAt_1 : decode cX3_signAt 1 = .ok (.ifCond .lt 26, 3) := by decide +kernel
theorem dX3_signAt_4 : decode cX3_signAt 4 = .ok (.iload_n 1, 1) := by decide +kernel
theorem dX3_signAt_5 : decode cX3_signAt 5 = .ok (.aload_n 0, 1) := by decide +kernel
theorem dX3_signAt_6 : decode cX3_signAt 6 = .ok (.getfield 40, 3) := by decide +kernel
theorem dX3_signAt_9 : decode cX3_signAt 9 = .ok (.if_icmp .ge 18, 3) := by decide +kernel
theorem dX3_signAt_12 : decode cX3_signAt 12 = .ok (.iload_n 1, 1) := by decide +kernel
theorem dX3_signAt_13 : decode cX3_signAt 13 = .ok (.bipush 80, 2) := by decide +kernel
theorem dX3_signAt_15 : decode cX3_signAt 15 = .ok (.if_icmp .ge 12, 3) := by decide +kernel
theorem dX3_signAt_18 : decode cX3_signAt 18 = .ok (.aload_n 0, 1) := by decide +kernel
theorem dX3_signAt_19 : decode cX3_signAt 19 = .ok (.getfield 9, 3) := by decide +kernel
theorem dX3_signAt_22 : decode cX3_signAt 22 = .ok (.iload_n 1, 1) := by decide +kernel
theorem dX3_signAt_23 : decode cX3_signAt 23 = .ok (.caload, 1) := by decide +kernel
theorem dX3_signAt_24 : decode cX3_signAt 24 = .ok (.goto 4, 3) := by decide +kernel
theorem dX3_signAt_27 : decode cX3_signAt 27 = .ok (.iconst 0, 1) := by decide +kernel
theorem dX3_signAt_28 : decode cX3_signAt 28 = .ok (.ireturn, 1) := by decide +kernel
theorem dX3_numbersBehind_0 : decode cX3_numbersBehind 0 = .ok (.iload_n 1, 1) := by decide +kernel
theorem dX3_numbersBehind_1 : decode cX3_numbersBehind 1 = .ok (.lookupswitch 55 #[(99, 51), (103, 51), (104, 51), (112, 53), (119, 51)], 51) := by decide +kernel
theorem dX3_numbersBehind_52 : decode cX3_numbersBehind 52 = .ok (.iconst 1, 1) := by decide +kernel
theorem dX3_numbersBehind_53 : decode cX3_numbersBehind 53 = .ok (.ireturn, 1) := by decide +kernel
theorem dX3_numbersBehind_54 : decode cX3_numbersBehind 54 = .ok (.iconst 5, 1) := by decide +kernel
theorem dX3_numbersBehind_55 : decode cX3_numbersBehind 55 = .ok (.ireturn, 1) := by decide +kernel
theorem dX3_numbersBehind_56 : decode cX3_numbersBehind 56 = .ok (.iconst 0, 1) := by decide +kernel
theorem dX3_numbersBehind_57 : decode cX3_numbersBehind 57 = .ok (.ireturn, 1) := by decide +kernel
theorem dX3_doCommand_0 : decode cX3_doCommand 0 = .ok (.iload_n 1, 1) := by decide +kernel
theorem dX3_doCommand_1 : decode cX3_doCommand 1 = .ok (.lookupswitch 145 #[(99, 131), (103, 51), (104, 65), (112, 79), (119, 117)], 51) := by decide +kernel
theorem dX3_doCommand_52 : decode cX3_doCommand 52 = .ok (.aload_n 0, 1) := by decide +kernel
theorem dX3_doCommand_53 : decode cX3_doCommand 53 = .ok (.getfield 36, 3) := by decide +kernel
theorem dX3_doCommand_56 : decode cX3_doCommand 56 = .ok (.aload_n 0, 1) := by decide +kernel
theorem dX3_doCommand_57 : decode cX3_doCommand 57 = .ok (.getfield 15, 3) := by decide +kernel
theorem dX3_doCommand_60 : decode cX3_doCommand 60 = .ok (.iconst 0, 1) := by decide +kernel
theorem dX3_doCommand_61 : decode cX3_doCommand 61 = .ok (.iaload, 1) := by decide +kernel
theorem dX3_doCommand_62 : decode cX3_doCommand 62 = .ok (.invokevirtual 82, 3) := by decide +kernel
theorem dX3_doCommand_65 : decode cX3_doCommand 65 = .ok (.ireturn, 1) := by decide +kernel
theorem dX3_doCommand_66 : decode cX3_doCommand 66 = .ok (.aload_n 0, 1) := by decide +kernel
theorem dX3_doCommand_67 : decode cX3_doCommand 67 = .ok (.getfield 36, 3) := by decide +kernel
theorem dX3_doCommand_70 : decode cX3_doCommand 70 = .ok (.aload_n 0, 1) := by decide +kernel
theorem dX3_doCommand_71 : decode cX3_doCommand 71 = .ok (.getfield 15, 3) := by decide +kernel
theorem dX3_doCommand_74 : decode cX3_doCommand 74 = .ok (.iconst 0, 1) := by decide +kernel
theorem dX3_doCommand_75 : decode cX3_doCommand 75 = .ok (.iaload, 1) := by decide +kernel
theorem dX3_doCommand_76 : decode cX3_doCommand 76 = .ok (.invokevirtual 85, 3) := by decide +kernel
theorem dX3_doCommand_79 : decode cX3_doCommand 79 = .ok (.ireturn, 1) := by decide +kernel
theorem dX3_doCommand_80 : decode cX3_doCommand 80 = .ok (.aload_n 0, 1) := by decide +kernel
theorem dX3_doCommand_81 : decode cX3_doCommand 81 = .ok (.getfield 36, 3) := by decide +kernel
theorem dX3_doCommand_84 : decode cX3_doCommand 84 = .ok (.aload_n 0, 1) := by decide +kernel
theorem dX3_doCommand_85 : decode cX3_doCommand 85 = .ok (.getfield 15, 3) := by decide +kernel
theorem dX3_doCommand_88 : decode cX3_doCommand 88 = .ok (.iconst 0, 1) := by decide +kernel
theorem dX3_doCommand_89 : decode cX3_doCommand 89 = .ok (.iaload, 1) := by decide +kernel
theorem dX3_doCommand_90 : decode cX3_doCommand 90 = .ok (.aload_n 0, 1) := by decide +kernel
theorem dX3_doCommand_91 : decode cX3_doCommand 91 = .ok (.getfield 15, 3) := by decide +kernel
theorem dX3_doCommand_94 : decode cX3_doCommand 94 = .ok (.iconst 1, 1) := by decide +kernel
theorem dX3_doCommand_95 : decode cX3_doCommand 95 = .ok (.iaload, 1) := by decide +kernel
theorem dX3_doCommand_96 : decode cX3_doCommand 96 = .ok (.aload_n 0, 1) := by decide +kernel
theorem dX3_doCommand_97 : decode cX3_doCommand 97 = .ok (.getfield 15, 3) := by decide +kernel
theorem dX3_doCommand_100 : decode cX3_doCommand 100 = .ok (.iconst 2, 1) := by decide +kernel
theorem dX3_doCommand_101 : decode cX3_doCommand 101 = .ok (.iaload, 1) := by decide +kernel
theorem dX3_doCommand_102 : decode cX3_doCommand 102 = .ok (.aload_n 0, 1) := by decide +kernel
theorem dX3_doCommand_103 : decode cX3_doCommand 103 = .ok (.getfield 15, 3) := by decide +kernel
theorem dX3_doCommand_106 : decode cX3_doCommand 106 = .ok (.iconst 3, 1) := by decide +kernel
theorem dX3_doCommand_107 : decode cX3_doCommand 107 = .ok (.iaload, 1) := by decide +kernel
theorem dX3_doCommand_108 : decode cX3_doCommand 108 = .ok (.aload_n 0, 1) := by decide +kernel
theorem dX3_doCommand_109 : decode cX3_doCommand 109 = .ok (.getfield 15, 3) := by decide +kernel
theorem dX3_doCommand_112 : decode cX3_doCommand 112 = .ok (.iconst 4, 1) := by decide +kernel
theorem dX3_doCommand_113 : decode cX3_doCommand 113 = .ok (.iaload, 1) := by decide +kernel
theorem dX3_doCommand_114 : decode cX3_doCommand 114 = .ok (.invokevirtual 88, 3) := by decide +kernel
theorem dX3_doCommand_117 : decode cX3_doCommand 117 = .ok (.ireturn, 1) := by decide +kernel
theorem dX3_doCommand_118 : decode cX3_doCommand 118 = .ok (.aload_n 0, 1) := by decide +kernel
theorem dX3_doCommand_119 : decode cX3_doCommand 119 = .ok (.getfield 36, 3) := by decide +kernel
theorem dX3_doCommand_122 : decode cX3_doCommand 122 = .ok (.aload_n 0, 1) := by decide +kernel
theorem dX3_doCommand_123 : decode cX3_doCommand 123 = .ok (.getfield 15, 3) := by decide +kernel
theorem dX3_doCommand_126 : decode cX3_doCommand 126 = .ok (.iconst 0, 1) := by decide +kernel
theorem dX3_doCommand_127 : decode cX3_doCommand 127 = .ok (.iaload, 1) := by decide +kernel
theorem dX3_doCommand_128 : decode cX3_doCommand 128 = .ok (.invokevirtual 92, 3) := by decide +kernel
theorem dX3_doCommand_131 : decode cX3_doCommand 131 = .ok (.ireturn, 1) := by decide +kernel
theorem dX3_doCommand_132 : decode cX3_doCommand 132 = .ok (.aload_n 0, 1) := by decide +kernel
theorem dX3_doCommand_133 : decode cX3_doCommand 133 = .ok (.getfield 36, 3) := by decide +kernel
theorem dX3_doCommand_136 : decode cX3_doCommand 136 = .ok (.aload_n 0, 1) := by decide +kernel
theorem dX3_doCommand_137 : decode cX3_doCommand 137 = .ok (.getfield 15, 3) := by decide +kernel
theorem dX3_doCommand_140 : decode cX3_doCommand 140 = .ok (.iconst 0, 1) := by decide +kernel
theorem dX3_doCommand_141 : decode cX3_doCommand 141 = .ok (.iaload, 1) := by decide +kernel
theorem dX3_doCommand_142 : decode cX3_doCommand 142 = .ok (.invokevirtual 95, 3) := by decide +kernel
theorem dX3_doCommand_145 : decode cX3_doCommand 145 = .ok (.ireturn, 1) := by decide +kernel
theorem dX3_doCommand_146 : decode cX3_doCommand 146 = .ok (.iconst (-1), 1) := by decide +kernel
theorem dX3_doCommand_147 : decode cX3_doCommand 147 = .ok (.ireturn, 1) := by decide +kernel
theorem dX4_init_0 : decode cX4_init 0 = .ok (.aload_n 0, 1) := by decide +kernel
theorem dX4_init_1 : decode cX4_init 1 = .ok (.invokespecial 1, 3) := by decide +kernel
theorem dX4_init_4 : decode cX4_init 4 = .ok (.aload_n 0, 1) := by decide +kernel
theorem dX4_init_5 : decode cX4_init 5 = .ok (.new 7, 3) := by decide +kernel
theorem dX4_init_8 : decode cX4_init 8 = .ok (.dup, 1) := by decide +kernel
theorem dX4_init_9 : decode cX4_init 9 = .ok (.invokespecial 9, 3) := by decide +kernel
theorem dX4_init_12 : decode cX4_init 12 = .ok (.putfield 10, 3) := by decide +kernel
theorem dX4_init_15 : decode cX4_init 15 = .ok (.aload_n 0, 1) := by decide +kernel
theorem dX4_init_16 : decode cX4_init 16 = .ok (.new 16, 3) := by decide +kernel
theorem dX4_init_19 : decode cX4_init 19 = .ok (.dup, 1) := by decide +kernel
theorem dX4_init_20 : decode cX4_init 20 = .ok (.aload_n 0, 1) := by decide +kernel
theorem dX4_init_21 : decode cX4_init 21 = .ok (.getfield 10, 3) := by decide +kernel
theorem dX4_init_24 : decode cX4_init 24 = .ok (.invokespecial 18, 3) := by decide +kernel
theorem dX4_init_27 : decode cX4_init 27 = .ok (.putfield 21, 3) := by decide +kernel
theorem dX4_init_30 : decode cX4_init 30 = .ok (.aload_n 0, 1) := by decide +kernel
theorem dX4_init_31 : decode cX4_init 31 = .ok (.new 25, 3) := by decide +kernel
theorem dX4_init_34 : decode cX4_init 34 = .ok (.dup, 1) := by decide +kernel
theorem dX4_init_35 : decode cX4_init 35 = .ok (.aload_n 0, 1) := by decide +kernel
theorem dX4_init_36 : decode cX4_init 36 = .ok (.getfield 10, 3) := by decide +kernel
theorem dX4_init_39 : decode cX4_init 39 = .ok (.aload_n 0, 1) := by decide +kernel
theorem dX4_init_40 : decode cX4_init 40 = .ok (.getfield 21, 3) := by decide +kernel
theorem dX4_init_43 : decode cX4_init 43 = .ok (.invokespecial 27, 3) := by decide +kernel
theorem dX4_init_46 : decode cX4_init 46 = .ok (.putfield 30, 3) := by decide +kernel
theorem dX4_init_49 : decode cX4_init 49 = .ok (.aload_n 0, 1) := by decide +kernel
theorem dX4_init_50 : decode cX4_init 50 = .ok (.new 34, 3) := by decide +kernel
theorem dX4_init_53 : decode cX4_init 53 = .ok (.dup, 1) := by decide +kernel
theorem dX4_init_54 : decode cX4_init 54 = .ok (.invokespecial 36, 3) := by decide +kernel
theorem dX4_init_57 : decode cX4_init 57 = .ok (.putfield 37, 3) := by decide +kernel
theorem dX4_init_60 : decode cX4_init 60 = .ok (.aload_n 0, 1) := by decide +kernel
theorem dX4_init_61 : decode cX4_init 61 = .ok (.iconst 5, 1) := by decide +kernel
theorem dX4_init_62 : decode cX4_init 62 = .ok (.anewarray 7, 3) := by decide +kernel
theorem dX4_init_65 : decode cX4_init 65 = .ok (.putfield 41, 3) := by decide +kernel
theorem dX4_init_68 : decode cX4_init 68 = .ok (.iconst 0, 1) := by decide +kernel
theorem dX4_init_69 : decode cX4_init 69 = .ok (.istore_n 1, 1) := by decide +kernel
theorem dX4_init_70 : decode cX4_init 70 = .ok (.iload_n 1, 1) := by decide +kernel
theorem dX4_init_71 : decode cX4_init 71 = .ok (.iconst 4, 1) := by decide +kernel
theorem dX4_init_72 : decode cX4_init 72 = .ok (.if_icmp .gt 22, 3) := by decide +kernel
theorem dX4_init_75 : decode cX4_init 75 = .ok (.aload_n 0, 1) := by decide +kernel
theorem dX4_init_76 : decode cX4_init 76 = .ok (.getfield 41, 3) := by decide +kernel
theorem dX4_init_79 : decode cX4_init 79 = .ok (.iload_n 1, 1) := by decide +kernel
theorem dX4_init_80 : decode cX4_init 80 = .ok (.new 7, 3) := by decide +kernel
theorem dX4_init_83 : decode cX4_init 83 = .ok (.dup, 1) := by decide +kernel
theorem dX4_init_84 : decode cX4_init 84 = .ok (.invokespecial 9, 3) := by decide +kernel
theorem dX4_init_87 : decode cX4_init 87 = .ok (.aastore, 1) := by decide +kernel
theorem dX4_init_88 : decode cX4_init 88 = .ok (.iinc 1 1, 3) := by decide +kernel
theorem dX4_init_91 : decode cX4_init 91 = .ok (.goto (-21), 3) := by decide +kernel
theorem dX4_init_94 : decode cX4_init 94 = .ok (.aload_n 0, 1) := by decide +kernel
theorem dX4_init_95 : decode cX4_init 95 = .ok (.bipush 12, 2) := by decide +kernel
theorem dX4_init_97 : decode cX4_init 97 = .ok (.newarray .long, 2) := by decide +kernel
theorem dX4_init_99 : decode cX4_init 99 = .ok (.putfield 45, 3) := by decide +kernel
theorem dX4_init_102 : decode cX4_init 102 = .ok (.return_, 1) := by decide +kernel
theorem dX4_project_0 : decode cX4_project 0 = .ok (.aload_n 0, 1) := by decide +kernel
theorem dX4_project_1 : decode cX4_project 1 = .ok (.invokevirtual 49, 3) := by decide +kernel
theorem dX4_project_4 : decode cX4_project 4 = .ok (.aload_n 0, 1) := by decide +kernel
theorem dX4_project_5 : decode cX4_project 5 = .ok (.aload_n 0, 1) := by decide +kernel
theorem dX4_project_6 : decode cX4_project 6 = .ok (.getfield 30, 3) := by decide +kernel
theorem dX4_project_9 : decode cX4_project 9 = .ok (.iload_n 1, 1) := by decide +kernel
theorem dX4_project_10 : decode cX4_project 10 = .ok (.invokevirtual 52, 3) := by decide +kernel
theorem dX4_project_13 : decode cX4_project 13 = .ok (.invokevirtual 56, 3) := by decide +kernel
theorem dX4_project_16 : decode cX4_project 16 = .ok (.ireturn, 1) := by decide +kernel
theorem dX4_person_0 : decode cX4_person 0 = .ok (.aload_n 0, 1) := by decide +kernel
theorem dX4_person_1 : decode cX4_person 1 = .ok (.invokevirtual 49, 3) := by decide +kernel
theorem dX4_person_4 : decode cX4_person 4 = .ok (.aload_n 0, 1) := by decide +kernel
theorem dX4_person_5 : decode cX4_person 5 = .ok (.aload_n 0, 1) := by decide +kernel
theorem dX4_person_6 : decode cX4_person 6 = .ok (.getfield 30, 3) := by decide +kernel
theorem dX4_person_9 : decode cX4_person 9 = .ok (.iload_n 1, 1) := by decide +kernel
theorem dX4_person_10 : decode cX4_person 10 = .ok (.invokevirtual 59, 3) := by decide +kernel
theorem dX4_person_13 : decode cX4_person 13 = .ok (.invokevirtual 56, 3) := by decide +kernel
theorem dX4_person_16 : decode cX4_person 16 = .ok (.ireturn, 1) := by decide +kernel
theorem dX4_pledge_0 : decode cX4_pledge 0 = .ok (.aload_n 0, 1) := by decide +kernel
theorem dX4_pledge_1 : decode cX4_pledge 1 = .ok (.invokevirtual 49, 3) := by decide +kernel
theorem dX4_pledge_4 : decode cX4_pledge 4 = .ok (.aload_n 0, 1) := by decide +kernel
theorem dX4_pledge_5 : decode cX4_pledge 5 = .ok (.aload_n 0, 1) := by decide +kernel
theorem dX4_pledge_6 : decode cX4_pledge 6 = .ok (.getfield 30, 3) := by decide +kernel
theorem dX4_pledge_9 : decode cX4_pledge 9 = .ok (.iload_n 1, 1) := by decide +kernel
theorem dX4_pledge_10 : decode cX4_pledge 10 = .ok (.iload_n 2, 1) := by decide +kernel
theorem dX4_pledge_11 : decode cX4_pledge 11 = .ok (.iload_n 3, 1) := by decide +kernel
theorem dX4_pledge_12 : decode cX4_pledge 12 = .ok (.iload 4, 2) := by decide +kernel
theorem dX4_pledge_14 : decode cX4_pledge 14 = .ok (.iload 5, 2) := by decide +kernel
theorem dX4_pledge_16 : decode cX4_pledge 16 = .ok (.invokevirtual 62, 3) := by decide +kernel
theorem dX4_pledge_19 : decode cX4_pledge 19 = .ok (.invokevirtual 56, 3) := by decide +kernel
theorem dX4_pledge_22 : decode cX4_pledge 22 = .ok (.ireturn, 1) := by decide +kernel
theorem dX4_withdraw_0 : decode cX4_withdraw 0 = .ok (.aload_n 0, 1) := by decide +kernel
theorem dX4_withdraw_1 : decode cX4_withdraw 1 = .ok (.invokevirtual 49, 3) := by decide +kernel
theorem dX4_withdraw_4 : decode cX4_withdraw 4 = .ok (.aload_n 0, 1) := by decide +kernel
theorem dX4_withdraw_5 : decode cX4_withdraw 5 = .ok (.aload_n 0, 1) := by decide +kernel
theorem dX4_withdraw_6 : decode cX4_withdraw 6 = .ok (.getfield 30, 3) := by decide +kernel
theorem dX4_withdraw_9 : decode cX4_withdraw 9 = .ok (.iload_n 1, 1) := by decide +kernel
theorem dX4_withdraw_10 : decode cX4_withdraw 10 = .ok (.invokevirtual 66, 3) := by decide +kernel
theorem dX4_withdraw_13 : decode cX4_withdraw 13 = .ok (.invokevirtual 56, 3) := by decide +kernel
theorem dX4_withdraw_16 : decode cX4_withdraw 16 = .ok (.ireturn, 1) := by decide +kernel
theorem dX4_callIn_0 : decode cX4_callIn 0 = .ok (.aload_n 0, 1) := by decide +kernel
theorem dX4_callIn_1 : decode cX4_callIn 1 = .ok (.invokevirtual 49, 3) := by decide +kernel
theorem dX4_callIn_4 : decode cX4_callIn 4 = .ok (.aload_n 0, 1) := by decide +kernel
theorem dX4_callIn_5 : decode cX4_callIn 5 = .ok (.aload_n 0, 1) := by decide +kernel
theorem dX4_callIn_6 : decode cX4_callIn 6 = .ok (.getfield 30, 3) := by decide +kernel
theorem dX4_callIn_9 : decode cX4_callIn 9 = .ok (.iload_n 1, 1) := by decide +kernel
theorem dX4_callIn_10 : decode cX4_callIn 10 = .ok (.invokevirtual 69, 3) := by decide +kernel
theorem dX4_callIn_13 : decode cX4_callIn 13 = .ok (.invokevirtual 56, 3) := by decide +kernel
theorem dX4_callIn_16 : decode cX4_callIn 16 = .ok (.ireturn, 1) := by decide +kernel
theorem dX4_pledgeOf_0 : decode cX4_pledgeOf 0 = .ok (.aload_n 0, 1) := by decide +kernel
theorem dX4_pledgeOf_1 : decode cX4_pledgeOf 1 = .ok (.getfield 10, 3) := by decide +kernel
theorem dX4_pledgeOf_4 : decode cX4_pledgeOf 4 = .ok (.iload_n 1, 1) := by decide +kernel
theorem dX4_pledgeOf_5 : decode cX4_pledgeOf 5 = .ok (.invokevirtual 72, 3) := by decide +kernel
theorem dX4_pledgeOf_8 : decode cX4_pledgeOf 8 = .ok (.ifCond .eq 13, 3) := by decide +kernel
theorem dX4_pledgeOf_11 : decode cX4_pledgeOf 11 = .ok (.iload_n 2, 1) := by decide +kernel
theorem dX4_pledgeOf_12 : decode cX4_pledgeOf 12 = .ok (.ifCond .lt 9, 3) := by decide +kernel
theorem dX4_pledgeOf_15 : decode cX4_pledgeOf 15 = .ok (.iload_n 2, 1) := by decide +kernel
theorem dX4_pledgeOf_16 : decode cX4_pledgeOf 16 = .ok (.bipush 9, 2) := by decide +kernel
theorem dX4_pledgeOf_18 : decode cX4_pledgeOf 18 = .ok (.if_icmp .le 5, 3) := by decide +kernel
theorem dX4_pledgeOf_21 : decode cX4_pledgeOf 21 = .ok (.iconst (-1), 1) := by decide +kernel
theorem dX4_pledgeOf_22 : decode cX4_pledgeOf 22 = .ok (.ireturn, 1) := by decide +kernel
theorem dX4_pledgeOf_23 : decode cX4_pledgeOf 23 = .ok (.iload_n 2, 1) := by decide +kernel
theorem dX4_pledgeOf_24 : decode cX4_pledgeOf 24 = .ok (.tableswitch 142 0 8 #[52, 62, 72, 82, 92, 102, 114, 126, 132], 52) := by decide +kernel
theorem dX4_pledgeOf_76 : decode cX4_pledgeOf 76 = .ok (.aload_n 0, 1) := by decide +kernel
theorem dX4_pledgeOf_77 : decode cX4_pledgeOf 77 = .ok (.getfield 10, 3) := by decide +kernel
theorem dX4_pledgeOf_80 : decode cX4_pledgeOf 80 = .ok (.getfield 76, 3) := by decide +kernel
theorem dX4_pledgeOf_83 : decode cX4_pledgeOf 83 = .ok (.iload_n 1, 1) := by decide +kernel
theorem dX4_pledgeOf_84 : decode cX4_pledgeOf 84 = .ok (.iaload, 1) := by decide +kernel
theorem dX4_pledgeOf_85 : decode cX4_pledgeOf 85 = .ok (.ireturn, 1) := by decide +kernel
theorem dX4_pledgeOf_86 : decode cX4_pledgeOf 86 = .ok (.aload_n 0, 1) := by decide +kernel
theorem dX4_pledgeOf_87 : decode cX4_pledgeOf 87 = .ok (.getfield 10, 3) := by decide +kernel
theorem dX4_pledgeOf_90 : decode cX4_pledgeOf 90 = .ok (.getfield 80, 3) := by decide +kernel
theorem dX4_pledgeOf_93 : decode cX4_pledgeOf 93 = .ok (.iload_n 1, 1) := by decide +kernel
theorem dX4_pledgeOf_94 : decode cX4_pledgeOf 94 = .ok (.iaload, 1) := by decide +kernel
theorem dX4_pledgeOf_95 : decode cX4_pledgeOf 95 = .ok (.ireturn, 1) := by decide +kernel
theorem dX4_pledgeOf_96 : decode cX4_pledgeOf 96 = .ok (.aload_n 0, 1) := by decide +kernel
theorem dX4_pledgeOf_97 : decode cX4_pledgeOf 97 = .ok (.getfield 10, 3) := by decide +kernel
theorem dX4_pledgeOf_100 : decode cX4_pledgeOf 100 = .ok (.getfield 83, 3) := by decide +kernel
theorem dX4_pledgeOf_103 : decode cX4_pledgeOf 103 = .ok (.iload_n 1, 1) := by decide +kernel
theorem dX4_pledgeOf_104 : decode cX4_pledgeOf 104 = .ok (.iaload, 1) := by decide +kernel
theorem dX4_pledgeOf_105 : decode cX4_pledgeOf 105 = .ok (.ireturn, 1) := by decide +kernel
theorem dX4_pledgeOf_106 : decode cX4_pledgeOf 106 = .ok (.aload_n 0, 1) := by decide +kernel
theorem dX4_pledgeOf_107 : decode cX4_pledgeOf 107 = .ok (.getfield 10, 3) := by decide +kernel
theorem dX4_pledgeOf_110 : decode cX4_pledgeOf 110 = .ok (.getfield 86, 3) := by decide +kernel
theorem dX4_pledgeOf_113 : decode cX4_pledgeOf 113 = .ok (.iload_n 1, 1) := by decide +kernel
theorem dX4_pledgeOf_114 : decode cX4_pledgeOf 114 = .ok (.iaload, 1) := by decide +kernel
theorem dX4_pledgeOf_115 : decode cX4_pledgeOf 115 = .ok (.ireturn, 1) := by decide +kernel
theorem dX4_pledgeOf_116 : decode cX4_pledgeOf 116 = .ok (.aload_n 0, 1) := by decide +kernel
theorem dX4_pledgeOf_117 : decode cX4_pledgeOf 117 = .ok (.getfield 10, 3) := by decide +kernel
theorem dX4_pledgeOf_120 : decode cX4_pledgeOf 120 = .ok (.getfield 89, 3) := by decide +kernel
theorem dX4_pledgeOf_123 : decode cX4_pledgeOf 123 = .ok (.iload_n 1, 1) := by decide +kernel
theorem dX4_pledgeOf_124 : decode cX4_pledgeOf 124 = .ok (.iaload, 1) := by decide +kernel
theorem dX4_pledgeOf_125 : decode cX4_pledgeOf 125 = .ok (.ireturn, 1) := by decide +kernel
theorem dX4_pledgeOf_126 : decode cX4_pledgeOf 126 = .ok (.aload_n 0, 1) := by decide +kernel
theorem dX4_pledgeOf_127 : decode cX4_pledgeOf 127 = .ok (.getfield 10, 3) := by decide +kernel
theorem dX4_pledgeOf_130 : decode cX4_pledgeOf 130 = .ok (.getfield 92, 3) := by decide +kernel
theorem dX4_pledgeOf_133 : decode cX4_pledgeOf 133 = .ok (.iload_n 1, 1) := by decide +kernel
theorem dX4_pledgeOf_134 : decode cX4_pledgeOf 134 = .ok (.ishr, 1) := by decide +kernel
theorem dX4_pledgeOf_135 : decode cX4_pledgeOf 135 = .ok (.iconst 1, 1) := by decide +kernel
theorem dX4_pledgeOf_136 : decode cX4_pledgeOf 136 = .ok (.iand, 1) := by decide +kernel
theorem dX4_pledgeOf_137 : decode cX4_pledgeOf 137 = .ok (.ireturn, 1) := by decide +kernel
theorem dX4_pledgeOf_138 : decode cX4_pledgeOf 138 = .ok (.aload_n 0, 1) := by decide +kernel
theorem dX4_pledgeOf_139 : decode cX4_pledgeOf 139 = .ok (.getfield 21, 3) := by decide +kernel
theorem dX4_pledgeOf_142 : decode cX4_pledgeOf 142 = .ok (.invokevirtual 96, 3) := by decide +kernel
theorem dX4_pledgeOf_145 : decode cX4_pledgeOf 145 = .ok (.iload_n 1, 1) := by decide +kernel
theorem dX4_pledgeOf_146 : decode cX4_pledgeOf 146 = .ok (.ishr, 1) := by decide +kernel
theorem dX4_pledgeOf_147 : decode cX4_pledgeOf 147 = .ok (.iconst 1, 1) := by decide +kernel
theorem dX4_pledgeOf_148 : decode cX4_pledgeOf 148 = .ok (.iand, 1) := by decide +kernel
theorem dX4_pledgeOf_149 : decode cX4_pledgeOf 149 = .ok (.ireturn, 1) := by decide +kernel
theorem dX4_pledgeOf_150 : decode cX4_pledgeOf 150 = .ok (.aload_n 0, 1) := by decide +kernel
theorem dX4_pledgeOf_151 : decode cX4_pledgeOf 151 = .ok (.iload_n 1, 1) := by decide +kernel
theorem dX4_pledgeOf_152 : decode cX4_pledgeOf 152 = .ok (.invokevirtual 100, 3) := by decide +kernel
theorem dX4_pledgeOf_155 : decode cX4_pledgeOf 155 = .ok (.ireturn, 1) := by decide +kernel
theorem dX4_pledgeOf_156 : decode cX4_pledgeOf 156 = .ok (.aload_n 0, 1) := by decide +kernel
theorem dX4_pledgeOf_157 : decode cX4_pledgeOf 157 = .ok (.getfield 10, 3) := by decide +kernel
theorem dX4_pledgeOf_160 : decode cX4_pledgeOf 160 = .ok (.getfield 103, 3) := by decide +kernel
theorem dX4_pledgeOf_163 : decode cX4_pledgeOf 163 = .ok (.iload_n 1, 1) := by decide +kernel
theorem dX4_pledgeOf_164 : decode cX4_pledgeOf 164 = .ok (.iaload, 1) := by decide +kernel
theorem dX4_pledgeOf_165 : decode cX4_pledgeOf 165 = .ok (.ireturn, 1) := by decide +kernel
theorem dX4_pledgeOf_166 : decode cX4_pledgeOf 166 = .ok (.aload_n 0, 1) := by decide +kernel
theorem dX4_pledgeOf_167 : decode cX4_pledgeOf 167 = .ok (.iload_n 1, 1) := by decide +kernel
theorem dX4_pledgeOf_168 : decode cX4_pledgeOf 168 = .ok (.invokevirtual 106, 3) := by decide +kernel
theorem dX4_pledgeOf_171 : decode cX4_pledgeOf 171 = .ok (.ireturn, 1) := by decide +kernel
theorem dX4_projectOf_0 : decode cX4_projectOf 0 = .ok (.aload_n 0, 1) := by decide +kernel
theorem dX4_projectOf_1 : decode cX4_projectOf 1 = .ok (.getfield 10, 3) := by decide +kernel
theorem dX4_projectOf_4 : decode cX4_projectOf 4 = .ok (.iload_n 1, 1) := by decide +kernel
theorem dX4_projectOf_5 : decode cX4_projectOf 5 = .ok (.invokevirtual 109, 3) := by decide +kernel
theorem dX4_projectOf_8 : decode cX4_projectOf 8 = .ok (.ifCond .eq 13, 3) := by decide +kernel
theorem dX4_projectOf_11 : decode cX4_projectOf 11 = .ok (.iload_n 2, 1) := by decide +kernel
theorem dX4_projectOf_12 : decode cX4_projectOf 12 = .ok (.ifCond .lt 9, 3) := by decide +kernel
theorem dX4_projectOf_15 : decode cX4_projectOf 15 = .ok (.iload_n 2, 1) := by decide +kernel
theorem dX4_projectOf_16 : decode cX4_projectOf 16 = .ok (.bipush 9, 2) := by decide +kernel
theorem dX4_projectOf_18 : decode cX4_projectOf 18 = .ok (.if_icmp .le 5, 3) := by decide +kernel
theorem dX4_projectOf_21 : decode cX4_projectOf 21 = .ok (.iconst (-1), 1) := by decide +kernel
theorem dX4_projectOf_22 : decode cX4_projectOf 22 = .ok (.ireturn, 1) := by decide +kernel
theorem dX4_projectOf_23 : decode cX4_projectOf 23 = .ok (.aload_n 0, 1) := by decide +kernel
theorem dX4_projectOf_24 : decode cX4_projectOf 24 = .ok (.getfield 10, 3) := by decide +kernel
theorem dX4_projectOf_27 : decode cX4_projectOf 27 = .ok (.iload_n 1, 1) := by decide +kernel
theorem dX4_projectOf_28 : decode cX4_projectOf 28 = .ok (.invokevirtual 112, 3) := by decide +kernel
theorem dX4_projectOf_31 : decode cX4_projectOf 31 = .ok (.istore_n 3, 1) := by decide +kernel
theorem dX4_projectOf_32 : decode cX4_projectOf 32 = .ok (.iload_n 2, 1) := by decide +kernel
theorem dX4_projectOf_33 : decode cX4_projectOf 33 = .ok (.tableswitch 178 0 8 #[51, 61, 70, 87, 104, 116, 118, 128, 153], 51) := by decide +kernel
theorem dX4_projectOf_84 : decode cX4_projectOf 84 = .ok (.aload_n 0, 1) := by decide +kernel
theorem dX4_projectOf_85 : decode cX4_projectOf 85 = .ok (.getfield 10, 3) := by decide +kernel
theorem dX4_projectOf_88 : decode cX4_projectOf 88 = .ok (.getfield 115, 3) := by decide +kernel
theorem dX4_projectOf_91 : decode cX4_projectOf 91 = .ok (.iload_n 1, 1) := by decide +kernel
theorem dX4_projectOf_92 : decode cX4_projectOf 92 = .ok (.iaload, 1) := by decide +kernel
theorem dX4_projectOf_93 : decode cX4_projectOf 93 = .ok (.ireturn, 1) := by decide +kernel
theorem dX4_projectOf_94 : decode cX4_projectOf 94 = .ok (.aload_n 0, 1) := by decide +kernel
theorem dX4_projectOf_95 : decode cX4_projectOf 95 = .ok (.getfield 10, 3) := by decide +kernel
theorem dX4_projectOf_98 : decode cX4_projectOf 98 = .ok (.iload_n 3, 1) := by decide +kernel
theorem dX4_projectOf_99 : decode cX4_projectOf 99 = .ok (.invokevirtual 118, 3) := by decide +kernel
theorem dX4_projectOf_102 : decode cX4_projectOf 102 = .ok (.ireturn, 1) := by decide +kernel
theorem dX4_projectOf_103 : decode cX4_projectOf 103 = .ok (.aload_n 0, 1) := by decide +kernel
theorem dX4_projectOf_104 : decode cX4_projectOf 104 = .ok (.getfield 10, 3) := by decide +kernel
theorem dX4_projectOf_107 : decode cX4_projectOf 107 = .ok (.iload_n 3, 1) := by decide +kernel
theorem dX4_projectOf_108 : decode cX4_projectOf 108 = .ok (.aload_n 0, 1) := by decide +kernel
theorem dX4_projectOf_109 : decode cX4_projectOf 109 = .ok (.getfield 21, 3) := by decide +kernel
theorem dX4_projectOf_112 : decode cX4_projectOf 112 = .ok (.invokevirtual 96, 3) := by decide +kernel
theorem dX4_projectOf_115 : decode cX4_projectOf 115 = .ok (.iand, 1) := by decide +kernel
theorem dX4_projectOf_116 : decode cX4_projectOf 116 = .ok (.invokevirtual 118, 3) := by decide +kernel
theorem dX4_projectOf_119 : decode cX4_projectOf 119 = .ok (.ireturn, 1) := by decide +kernel
theorem dX4_projectOf_120 : decode cX4_projectOf 120 = .ok (.aload_n 0, 1) := by decide +kernel
theorem dX4_projectOf_121 : decode cX4_projectOf 121 = .ok (.getfield 21, 3) := by decide +kernel
theorem dX4_projectOf_124 : decode cX4_projectOf 124 = .ok (.iload_n 1, 1) := by decide +kernel
theorem dX4_projectOf_125 : decode cX4_projectOf 125 = .ok (.invokevirtual 121, 3) := by decide +kernel
theorem dX4_projectOf_128 : decode cX4_projectOf 128 = .ok (.ifCond .eq 7, 3) := by decide +kernel
theorem dX4_projectOf_131 : decode cX4_projectOf 131 = .ok (.iconst 1, 1) := by decide +kernel
theorem dX4_projectOf_132 : decode cX4_projectOf 132 = .ok (.goto 4, 3) := by decide +kernel
theorem dX4_projectOf_135 : decode cX4_projectOf 135 = .ok (.iconst 0, 1) := by decide +kernel
theorem dX4_projectOf_136 : decode cX4_projectOf 136 = .ok (.ireturn, 1) := by decide +kernel
theorem dX4_projectOf_137 : decode cX4_projectOf 137 = .ok (.aload_n 0, 1) := by decide +kernel
theorem dX4_projectOf_138 : decode cX4_projectOf 138 = .ok (.getfield 10, 3) := by decide +kernel
theorem dX4_projectOf_141 : decode cX4_projectOf 141 = .ok (.getfield 124, 3) := by decide +kernel
theorem dX4_projectOf_144 : decode cX4_projectOf 144 = .ok (.iload_n 1, 1) := by decide +kernel
theorem dX4_projectOf_145 : decode cX4_projectOf 145 = .ok (.ishr, 1) := by decide +kernel
theorem dX4_projectOf_146 : decode cX4_projectOf 146 = .ok (.iconst 1, 1) := by decide +kernel
theorem dX4_projectOf_147 : decode cX4_projectOf 147 = .ok (.iand, 1) := by decide +kernel
theorem dX4_projectOf_148 : decode cX4_projectOf 148 = .ok (.ireturn, 1) := by decide +kernel
theorem dX4_projectOf_149 : decode cX4_projectOf 149 = .ok (.iload_n 3, 1) := by decide +kernel
theorem dX4_projectOf_150 : decode cX4_projectOf 150 = .ok (.ireturn, 1) := by decide +kernel
theorem dX4_projectOf_151 : decode cX4_projectOf 151 = .ok (.iload_n 3, 1) := by decide +kernel
theorem dX4_projectOf_152 : decode cX4_projectOf 152 = .ok (.aload_n 0, 1) := by decide +kernel
theorem dX4_projectOf_153 : decode cX4_projectOf 153 = .ok (.getfield 21, 3) := by decide +kernel
theorem dX4_projectOf_156 : decode cX4_projectOf 156 = .ok (.invokevirtual 96, 3) := by decide +kernel
theorem dX4_projectOf_159 : decode cX4_projectOf 159 = .ok (.iand, 1) := by decide +kernel
theorem dX4_projectOf_160 : decode cX4_projectOf 160 = .ok (.ireturn, 1) := by decide +kernel
theorem dX4_projectOf_161 : decode cX4_projectOf 161 = .ok (.aload_n 0, 1) := by decide +kernel
theorem dX4_projectOf_162 : decode cX4_projectOf 162 = .ok (.getfield 21, 3) := by decide +kernel
theorem dX4_projectOf_165 : decode cX4_projectOf 165 = .ok (.iload_n 1, 1) := by decide +kernel
theorem dX4_projectOf_166 : decode cX4_projectOf 166 = .ok (.invokevirtual 121, 3) := by decide +kernel
theorem dX4_projectOf_169 : decode cX4_projectOf 169 = .ok (.ifCond .eq 14, 3) := by decide +kernel
theorem dX4_projectOf_172 : decode cX4_projectOf 172 = .ok (.aload_n 0, 1) := by decide +kernel
theorem dX4_projectOf_173 : decode cX4_projectOf 173 = .ok (.getfield 21, 3) := by decide +kernel
theorem dX4_projectOf_176 : decode cX4_projectOf 176 = .ok (.iload_n 1, 1) := by decide +kernel
theorem dX4_projectOf_177 : decode cX4_projectOf 177 = .ok (.invokevirtual 127, 3) := by decide +kernel
theorem dX4_projectOf_180 : decode cX4_projectOf 180 = .ok (.goto 5, 3) := by decide +kernel
theorem dX4_projectOf_183 : decode cX4_projectOf 183 = .ok (.bipush (-4), 2) := by decide +kernel
theorem dX4_projectOf_185 : decode cX4_projectOf 185 = .ok (.ireturn, 1) := by decide +kernel
theorem dX4_projectOf_186 : decode cX4_projectOf 186 = .ok (.aload_n 0, 1) := by decide +kernel
theorem dX4_projectOf_187 : decode cX4_projectOf 187 = .ok (.getfield 21, 3) := by decide +kernel
theorem dX4_projectOf_190 : decode cX4_projectOf 190 = .ok (.iload_n 1, 1) := by decide +kernel
theorem dX4_projectOf_191 : decode cX4_projectOf 191 = .ok (.invokevirtual 121, 3) := by decide +kernel
theorem dX4_projectOf_194 : decode cX4_projectOf 194 = .ok (.ifCond .eq 14, 3) := by decide +kernel
theorem dX4_projectOf_197 : decode cX4_projectOf 197 = .ok (.aload_n 0, 1) := by decide +kernel
theorem dX4_projectOf_198 : decode cX4_projectOf 198 = .ok (.getfield 21, 3) := by decide +kernel
theorem dX4_projectOf_201 : decode cX4_projectOf 201 = .ok (.iload_n 1, 1) := by decide +kernel
theorem dX4_projectOf_202 : decode cX4_projectOf 202 = .ok (.invokevirtual 130, 3) := by decide +kernel
theorem dX4_projectOf_205 : decode cX4_projectOf 205 = .ok (.goto 5, 3) := by decide +kernel
theorem dX4_projectOf_208 : decode cX4_projectOf 208 = .ok (.bipush (-4), 2) := by decide +kernel
theorem dX4_projectOf_210 : decode cX4_projectOf 210 = .ok (.ireturn, 1) := by decide +kernel
theorem dX4_projectOf_211 : decode cX4_projectOf 211 = .ok (.aload_n 0, 1) := by decide +kernel
theorem dX4_projectOf_212 : decode cX4_projectOf 212 = .ok (.getfield 10, 3) := by decide +kernel
theorem dX4_projectOf_215 : decode cX4_projectOf 215 = .ok (.iload_n 1, 1) := by decide +kernel
theorem dX4_projectOf_216 : decode cX4_projectOf 216 = .ok (.invokevirtual 133, 3) := by decide +kernel
theorem dX4_projectOf_219 : decode cX4_projectOf 219 = .ok (.ifCond .eq 8, 3) := by decide +kernel
theorem dX4_projectOf_222 : decode cX4_projectOf 222 = .ok (.bipush (-4), 2) := by decide +kernel
theorem dX4_projectOf_224 : decode cX4_projectOf 224 = .ok (.goto 11, 3) := by decide +kernel
theorem dX4_projectOf_227 : decode cX4_projectOf 227 = .ok (.aload_n 0, 1) := by decide +kernel
theorem dX4_projectOf_228 : decode cX4_projectOf 228 = .ok (.getfield 21, 3) := by decide +kernel
theorem dX4_projectOf_231 : decode cX4_projectOf 231 = .ok (.iload_n 1, 1) := by decide +kernel
theorem dX4_projectOf_232 : decode cX4_projectOf 232 = .ok (.invokevirtual 136, 3) := by decide +kernel
theorem dX4_projectOf_235 : decode cX4_projectOf 235 = .ok (.ireturn, 1) := by decide +kernel
theorem dX4_personOf_0 : decode cX4_personOf 0 = .ok (.aload_n 0, 1) := by decide +kernel
theorem dX4_personOf_1 : decode cX4_personOf 1 = .ok (.getfield 10, 3) := by decide +kernel
theorem dX4_personOf_4 : decode cX4_personOf 4 = .ok (.iload_n 1, 1) := by decide +kernel
theorem dX4_personOf_5 : decode cX4_personOf 5 = .ok (.invokevirtual 139, 3) := by decide +kernel
theorem dX4_personOf_8 : decode cX4_personOf 8 = .ok (.ifCond .eq 12, 3) := by decide +kernel
theorem dX4_personOf_11 : decode cX4_personOf 11 = .ok (.iload_n 2, 1) := by decide +kernel
theorem dX4_personOf_12 : decode cX4_personOf 12 = .ok (.ifCond .lt 8, 3) := by decide +kernel
theorem dX4_personOf_15 : decode cX4_personOf 15 = .ok (.iload_n 2, 1) := by decide +kernel
theorem dX4_personOf_16 : decode cX4_personOf 16 = .ok (.iconst 5, 1) := by decide +kernel
theorem dX4_personOf_17 : decode cX4_personOf 17 = .ok (.if_icmp .le 5, 3) := by decide +kernel
theorem dX4_personOf_20 : decode cX4_personOf 20 = .ok (.iconst (-1), 1) := by decide +kernel
theorem dX4_personOf_21 : decode cX4_personOf 21 = .ok (.ireturn, 1) := by decide +kernel
theorem dX4_personOf_22 : decode cX4_personOf 22 = .ok (.aload_n 0, 1) := by decide +kernel
theorem dX4_personOf_23 : decode cX4_personOf 23 = .ok (.getfield 10, 3) := by decide +kernel
theorem dX4_personOf_26 : decode cX4_personOf 26 = .ok (.iload_n 1, 1) := by decide +kernel
theorem dX4_personOf_27 : decode cX4_personOf 27 = .ok (.invokevirtual 142, 3) := by decide +kernel
theorem dX4_personOf_30 : decode cX4_personOf 30 = .ok (.istore_n 3, 1) := by decide +kernel
theorem dX4_personOf_31 : decode cX4_personOf 31 = .ok (.iload_n 2, 1) := by decide +kernel
theorem dX4_personOf_32 : decode cX4_personOf 32 = .ok (.tableswitch 100 0 4 #[36, 46, 63, 88, 98], 36) := by decide +kernel
theorem dX4_personOf_68 : decode cX4_personOf 68 = .ok (.aload_n 0, 1) := by decide +kernel
theorem dX4_personOf_69 : decode cX4_personOf 69 = .ok (.getfield 10, 3) := by decide +kernel
theorem dX4_personOf_72 : decode cX4_personOf 72 = .ok (.getfield 145, 3) := by decide +kernel
theorem dX4_personOf_75 : decode cX4_personOf 75 = .ok (.iload_n 1, 1) := by decide +kernel
theorem dX4_personOf_76 : decode cX4_personOf 76 = .ok (.iaload, 1) := by decide +kernel
theorem dX4_personOf_77 : decode cX4_personOf 77 = .ok (.ireturn, 1) := by decide +kernel
theorem dX4_personOf_78 : decode cX4_personOf 78 = .ok (.aload_n 0, 1) := by decide +kernel
theorem dX4_personOf_79 : decode cX4_personOf 79 = .ok (.getfield 10, 3) := by decide +kernel
theorem dX4_personOf_82 : decode cX4_personOf 82 = .ok (.iload_n 3, 1) := by decide +kernel
theorem dX4_personOf_83 : decode cX4_personOf 83 = .ok (.aload_n 0, 1) := by decide +kernel
theorem dX4_personOf_84 : decode cX4_personOf 84 = .ok (.getfield 10, 3) := by decide +kernel
theorem dX4_personOf_87 : decode cX4_personOf 87 = .ok (.getfield 148, 3) := by decide +kernel
theorem dX4_personOf_90 : decode cX4_personOf 90 = .ok (.iand, 1) := by decide +kernel
theorem dX4_personOf_91 : decode cX4_personOf 91 = .ok (.invokevirtual 118, 3) := by decide +kernel
theorem dX4_personOf_94 : decode cX4_personOf 94 = .ok (.ireturn, 1) := by decide +kernel
theorem dX4_personOf_95 : decode cX4_personOf 95 = .ok (.aload_n 0, 1) := by decide +kernel
theorem dX4_personOf_96 : decode cX4_personOf 96 = .ok (.getfield 10, 3) := by decide +kernel
theorem dX4_personOf_99 : decode cX4_personOf 99 = .ok (.iload_n 3, 1) := by decide +kernel
theorem dX4_personOf_100 : decode cX4_personOf 100 = .ok (.aload_n 0, 1) := by decide +kernel
theorem dX4_personOf_101 : decode cX4_personOf 101 = .ok (.getfield 10, 3) := by decide +kernel
theorem dX4_personOf_104 : decode cX4_personOf 104 = .ok (.getfield 148, 3) := by decide +kernel
theorem dX4_personOf_107 : decode cX4_personOf 107 = .ok (.iand, 1) := by decide +kernel
theorem dX4_personOf_108 : decode cX4_personOf 108 = .ok (.aload_n 0, 1) := by decide +kernel
theorem dX4_personOf_109 : decode cX4_personOf 109 = .ok (.getfield 21, 3) := by decide +kernel
theorem dX4_personOf_112 : decode cX4_personOf 112 = .ok (.invokevirtual 96, 3) := by decide +kernel
theorem dX4_personOf_115 : decode cX4_personOf 115 = .ok (.iand, 1) := by decide +kernel
theorem dX4_personOf_116 : decode cX4_personOf 116 = .ok (.invokevirtual 118, 3) := by decide +kernel
theorem dX4_personOf_119 : decode cX4_personOf 119 = .ok (.ireturn, 1) := by decide +kernel
theorem dX4_personOf_120 : decode cX4_personOf 120 = .ok (.aload_n 0, 1) := by decide +kernel
theorem dX4_personOf_121 : decode cX4_personOf 121 = .ok (.getfield 10, 3) := by decide +kernel
theorem dX4_personOf_124 : decode cX4_personOf 124 = .ok (.getfield 151, 3) := by decide +kernel
theorem dX4_personOf_127 : decode cX4_personOf 127 = .ok (.iload_n 1, 1) := by decide +kernel
theorem dX4_personOf_128 : decode cX4_personOf 128 = .ok (.iaload, 1) := by decide +kernel
theorem dX4_personOf_129 : decode cX4_personOf 129 = .ok (.ireturn, 1) := by decide +kernel
theorem dX4_personOf_130 : decode cX4_personOf 130 = .ok (.iload_n 3, 1) := by decide +kernel
theorem dX4_personOf_131 : decode cX4_personOf 131 = .ok (.ireturn, 1) := by decide +kernel
theorem dX4_personOf_132 : decode cX4_personOf 132 = .ok (.aload_n 0, 1) := by decide +kernel
theorem dX4_personOf_133 : decode cX4_personOf 133 = .ok (.getfield 21, 3) := by decide +kernel
theorem dX4_personOf_136 : decode cX4_personOf 136 = .ok (.iload_n 3, 1) := by decide +kernel
theorem dX4_personOf_137 : decode cX4_personOf 137 = .ok (.aload_n 0, 1) := by decide +kernel
theorem dX4_personOf_138 : decode cX4_personOf 138 = .ok (.getfield 10, 3) := by decide +kernel
theorem dX4_personOf_141 : decode cX4_personOf 141 = .ok (.getfield 148, 3) := by decide +kernel
theorem dX4_personOf_144 : decode cX4_personOf 144 = .ok (.iand, 1) := by decide +kernel
theorem dX4_personOf_145 : decode cX4_personOf 145 = .ok (.invokevirtual 154, 3) := by decide +kernel
theorem dX4_personOf_148 : decode cX4_personOf 148 = .ok (.iload_n 3, 1) := by decide +kernel
theorem dX4_personOf_149 : decode cX4_personOf 149 = .ok (.iconst (-1), 1) := by decide +kernel
theorem dX4_personOf_150 : decode cX4_personOf 150 = .ok (.ixor, 1) := by decide +kernel
theorem dX4_personOf_151 : decode cX4_personOf 151 = .ok (.iand, 1) := by decide +kernel
theorem dX4_personOf_152 : decode cX4_personOf 152 = .ok (.invokestatic 157, 3) := by decide +kernel
theorem dX4_personOf_155 : decode cX4_personOf 155 = .ok (.ireturn, 1) := by decide +kernel
theorem dX4_standing_0 : decode cX4_standing 0 = .ok (.aload_n 0, 1) := by decide +kernel
theorem dX4_standing_1 : decode cX4_standing 1 = .ok (.iload_n 1, 1) := by decide +kernel
theorem dX4_standing_2 : decode cX4_standing 2 = .ok (.invokevirtual 162, 3) := by decide +kernel
theorem dX4_standing_5 : decode cX4_standing 5 = .ok (.istore_n 2, 1) := by decide +kernel
theorem dX4_standing_6 : decode cX4_standing 6 = .ok (.iload_n 2, 1) := by decide +kernel
theorem dX4_standing_7 : decode cX4_standing 7 = .ok (.ifCond .ge 7, 3) := by decide +kernel
theorem dX4_standing_10 : decode cX4_standing 10 = .ok (.iload_n 2, 1) := by decide +kernel
theorem dX4_standing_11 : decode cX4_standing 11 = .ok (.goto 11, 3) := by decide +kernel
theorem dX4_standing_14 : decode cX4_standing 14 = .ok (.aload_n 0, 1) := by decide +kernel
theorem dX4_standing_15 : decode cX4_standing 15 = .ok (.getfield 21, 3) := by decide +kernel
theorem dX4_standing_18 : decode cX4_standing 18 = .ok (.iload_n 1, 1) := by decide +kernel
theorem dX4_standing_19 : decode cX4_standing 19 = .ok (.invokevirtual 165, 3) := by decide +kernel
theorem dX4_standing_22 : decode cX4_standing 22 = .ok (.ireturn, 1) := by decide +kernel
theorem dX4_setOf_0 : decode cX4_setOf 0 = .ok (.iload_n 2, 1) := by decide +kernel
theorem dX4_setOf_1 : decode cX4_setOf 1 = .ok (.ifCond .lt 8, 3) := by decide +kernel
theorem dX4_setOf_4 : decode cX4_setOf 4 = .ok (.iload_n 2, 1) := by decide +kernel
theorem dX4_setOf_5 : decode cX4_setOf 5 = .ok (.iconst 2, 1) := by decide +kernel
theorem dX4_setOf_6 : decode cX4_setOf 6 = .ok (.if_icmp .le 5, 3) := by decide +kernel
theorem dX4_setOf_9 : decode cX4_setOf 9 = .ok (.iconst (-1), 1) := by decide +kernel
theorem dX4_setOf_10 : decode cX4_setOf 10 = .ok (.ireturn, 1) := by decide +kernel
theorem dX4_setOf_11 : decode cX4_setOf 11 = .ok (.aload_n 0, 1) := by decide +kernel
theorem dX4_setOf_12 : decode cX4_setOf 12 = .ok (.iload_n 1, 1) := by decide +kernel
theorem dX4_setOf_13 : decode cX4_setOf 13 = .ok (.invokevirtual 162, 3) := by decide +kernel
theorem dX4_setOf_16 : decode cX4_setOf 16 = .ok (.istore_n 3, 1) := by decide +kernel
theorem dX4_setOf_17 : decode cX4_setOf 17 = .ok (.iload_n 3, 1) := by decide +kernel
theorem dX4_setOf_18 : decode cX4_setOf 18 = .ok (.ifCond .ge 5, 3) := by decide +kernel
theorem dX4_setOf_21 : decode cX4_setOf 21 = .ok (.iload_n 3, 1) := by decide +kernel
theorem dX4_setOf_22 : decode cX4_setOf 22 = .ok (.ireturn, 1) := by decide +kernel
theorem dX4_setOf_23 : decode cX4_setOf 23 = .ok (.iload_n 2, 1) := by decide +kernel
theorem dX4_setOf_24 : decode cX4_setOf 24 = .ok (.lookupswitch 68 #[(0, 28), (1, 52)], 28) := by decide +kernel
theorem dX4_setOf_52 : decode cX4_setOf 52 = .ok (.aload_n 0, 1) := by decide +kernel
theorem dX4_setOf_53 : decode cX4_setOf 53 = .ok (.getfield 21, 3) := by decide +kernel
theorem dX4_setOf_56 : decode cX4_setOf 56 = .ok (.iload_n 1, 1) := by decide +kernel
theorem dX4_setOf_57 : decode cX4_setOf 57 = .ok (.aload_n 0, 1) := by decide +kernel
theorem dX4_setOf_58 : decode cX4_setOf 58 = .ok (.getfield 10, 3) := by decide +kernel
theorem dX4_setOf_61 : decode cX4_setOf 61 = .ok (.getfield 92, 3) := by decide +kernel
theorem dX4_setOf_64 : decode cX4_setOf 64 = .ok (.invokevirtual 168, 3) := by decide +kernel
theorem dX4_setOf_67 : decode cX4_setOf 67 = .ok (.ifCond .ne 7, 3) := by decide +kernel
theorem dX4_setOf_70 : decode cX4_setOf 70 = .ok (.iconst 1, 1) := by decide +kernel
theorem dX4_setOf_71 : decode cX4_setOf 71 = .ok (.goto 4, 3) := by decide +kernel
theorem dX4_setOf_74 : decode cX4_setOf 74 = .ok (.iconst 0, 1) := by decide +kernel
theorem dX4_setOf_75 : decode cX4_setOf 75 = .ok (.ireturn, 1) := by decide +kernel
theorem dX4_setOf_76 : decode cX4_setOf 76 = .ok (.aload_n 0, 1) := by decide +kernel
theorem dX4_setOf_77 : decode cX4_setOf 77 = .ok (.getfield 21, 3) := by decide +kernel
theorem dX4_setOf_80 : decode cX4_setOf 80 = .ok (.iload_n 1, 1) := by decide +kernel
theorem dX4_setOf_81 : decode cX4_setOf 81 = .ok (.aload_n 0, 1) := by decide +kernel
theorem dX4_setOf_82 : decode cX4_setOf 82 = .ok (.getfield 10, 3) := by decide +kernel
theorem dX4_setOf_85 : decode cX4_setOf 85 = .ok (.getfield 92, 3) := by decide +kernel
theorem dX4_setOf_88 : decode cX4_setOf 88 = .ok (.invokevirtual 168, 3) := by decide +kernel
theorem dX4_setOf_91 : decode cX4_setOf 91 = .ok (.ireturn, 1) := by decide +kernel
theorem dX4_setOf_92 : decode cX4_setOf 92 = .ok (.aload_n 0, 1) := by decide +kernel
theorem dX4_setOf_93 : decode cX4_setOf 93 = .ok (.getfield 21, 3) := by decide +kernel
theorem dX4_setOf_96 : decode cX4_setOf 96 = .ok (.iload_n 1, 1) := by decide +kernel
theorem dX4_setOf_97 : decode cX4_setOf 97 = .ok (.aload_n 0, 1) := by decide +kernel
theorem dX4_setOf_98 : decode cX4_setOf 98 = .ok (.getfield 10, 3) := by decide +kernel
theorem dX4_setOf_101 : decode cX4_setOf 101 = .ok (.getfield 92, 3) := by decide +kernel
theorem dX4_setOf_104 : decode cX4_setOf 104 = .ok (.invokevirtual 172, 3) := by decide +kernel
theorem dX4_setOf_107 : decode cX4_setOf 107 = .ok (.ireturn, 1) := by decide +kernel
theorem dX4_orderAt_0 : decode cX4_orderAt 0 = .ok (.iload_n 1, 1) := by decide +kernel
theorem dX4_orderAt_1 : decode cX4_orderAt 1 = .ok (.ifCond .lt 12, 3) := by decide +kernel
theorem dX4_orderAt_4 : decode cX4_orderAt 4 = .ok (.iload_n 1, 1) := by decide +kernel
theorem dX4_orderAt_5 : decode cX4_orderAt 5 = .ok (.iconst 2, 1) := by decide +kernel
theorem dX4_orderAt_6 : decode cX4_orderAt 6 = .ok (.if_icmp .gt 7, 3) := by decide +kernel
theorem dX4_orderAt_9 : decode cX4_orderAt 9 = .ok (.iload_n 2, 1) := by decide +kernel
theorem dX4_orderAt_10 : decode cX4_orderAt 10 = .ok (.ifCond .ge 5, 3) := by decide +kernel
theorem dX4_orderAt_13 : decode cX4_orderAt 13 = .ok (.iconst (-1), 1) := by decide +kernel
theorem dX4_orderAt_14 : decode cX4_orderAt 14 = .ok (.ireturn, 1) := by decide +kernel
theorem dX4_orderAt_15 : decode cX4_orderAt 15 = .ok (.iconst 0, 1) := by decide +kernel
theorem dX4_orderAt_16 : decode cX4_orderAt 16 = .ok (.istore_n 3, 1) := by decide +kernel
theorem dX4_orderAt_17 : decode cX4_orderAt 17 = .ok (.iload_n 3, 1) := by decide +kernel
theorem dX4_orderAt_18 : decode cX4_orderAt 18 = .ok (.bipush 12, 2) := by decide +kernel
theorem dX4_orderAt_20 : decode cX4_orderAt 20 = .ok (.if_icmp .ge 21, 3) := by decide +kernel
theorem dX4_orderAt_23 : decode cX4_orderAt 23 = .ok (.aload_n 0, 1) := by decide +kernel
theorem dX4_orderAt_24 : decode cX4_orderAt 24 = .ok (.getfield 45, 3) := by decide +kernel
theorem dX4_orderAt_27 : decode cX4_orderAt 27 = .ok (.iload_n 3, 1) := by decide +kernel
theorem dX4_orderAt_28 : decode cX4_orderAt 28 = .ok (.aload_n 0, 1) := by decide +kernel
theorem dX4_orderAt_29 : decode cX4_orderAt 29 = .ok (.iload_n 1, 1) := by decide +kernel
theorem dX4_orderAt_30 : decode cX4_orderAt 30 = .ok (.iload_n 3, 1) := by decide +kernel
theorem dX4_orderAt_31 : decode cX4_orderAt 31 = .ok (.invokevirtual 175, 3) := by decide +kernel
theorem dX4_orderAt_34 : decode cX4_orderAt 34 = .ok (.lastore, 1) := by decide +kernel
theorem dX4_orderAt_35 : decode cX4_orderAt 35 = .ok (.iinc 3 1, 3) := by decide +kernel
theorem dX4_orderAt_38 : decode cX4_orderAt 38 = .ok (.goto (-21), 3) := by decide +kernel
theorem dX4_orderAt_41 : decode cX4_orderAt 41 = .ok (.iconst 0, 1) := by decide +kernel
theorem dX4_orderAt_42 : decode cX4_orderAt 42 = .ok (.istore_n 3, 1) := by decide +kernel
theorem dX4_orderAt_43 : decode cX4_orderAt 43 = .ok (.iload_n 3, 1) := by decide +kernel
theorem dX4_orderAt_44 : decode cX4_orderAt 44 = .ok (.bipush 12, 2) := by decide +kernel
theorem dX4_orderAt_46 : decode cX4_orderAt 46 = .ok (.if_icmp .ge 36, 3) := by decide +kernel
theorem dX4_orderAt_49 : decode cX4_orderAt 49 = .ok (.aload_n 0, 1) := by decide +kernel
theorem dX4_orderAt_50 : decode cX4_orderAt 50 = .ok (.getfield 10, 3) := by decide +kernel
theorem dX4_orderAt_53 : decode cX4_orderAt 53 = .ok (.iload_n 3, 1) := by decide +kernel
theorem dX4_orderAt_54 : decode cX4_orderAt 54 = .ok (.invokevirtual 72, 3) := by decide +kernel
theorem dX4_orderAt_57 : decode cX4_orderAt 57 = .ok (.ifCond .eq 19, 3) := by decide +kernel
theorem dX4_orderAt_60 : decode cX4_orderAt 60 = .ok (.aload_n 0, 1) := by decide +kernel
theorem dX4_orderAt_61 : decode cX4_orderAt 61 = .ok (.aload_n 0, 1) := by decide +kernel
theorem dX4_orderAt_62 : decode cX4_orderAt 62 = .ok (.getfield 45, 3) := by decide +kernel
theorem dX4_orderAt_65 : decode cX4_orderAt 65 = .ok (.iload_n 3, 1) := by decide +kernel
theorem dX4_orderAt_66 : decode cX4_orderAt 66 = .ok (.laload, 1) := by decide +kernel
theorem dX4_orderAt_67 : decode cX4_orderAt 67 = .ok (.invokevirtual 179, 3) := by decide +kernel
theorem dX4_orderAt_70 : decode cX4_orderAt 70 = .ok (.iload_n 2, 1) := by decide +kernel
theorem dX4_orderAt_71 : decode cX4_orderAt 71 = .ok (.if_icmp .ne 5, 3) := by decide +kernel
theorem dX4_orderAt_74 : decode cX4_orderAt 74 = .ok (.iload_n 3, 1) := by decide +kernel
theorem dX4_orderAt_75 : decode cX4_orderAt 75 = .ok (.ireturn, 1) := by decide +kernel
theorem dX4_orderAt_76 : decode cX4_orderAt 76 = .ok (.iinc 3 1, 3) := by decide +kernel
theorem dX4_orderAt_79 : decode cX4_orderAt 79 = .ok (.goto (-36), 3) := by decide +kernel
theorem dX4_orderAt_82 : decode cX4_orderAt 82 = .ok (.bipush (-4), 2) := by decide +kernel
theorem dX4_orderAt_84 : decode cX4_orderAt 84 = .ok (.ireturn, 1) := by decide +kernel
theorem dX4_count_0 : decode cX4_count 0 = .ok (.iload_n 1, 1) := by decide +kernel
theorem dX4_count_1 : decode cX4_count 1 = .ok (.tableswitch 174 0 12 #[67, 75, 83, 94, 105, 113, 121, 129, 137, 145, 153, 161, 166], 67) := by decide +kernel
theorem dX4_count_68 : decode cX4_count 68 = .ok (.aload_n 0, 1) := by decide +kernel
theorem dX4_count_69 : decode cX4_count 69 = .ok (.getfield 10, 3) := by decide +kernel
theorem dX4_count_72 : decode cX4_count 72 = .ok (.getfield 183, 3) := by decide +kernel
theorem dX4_count_75 : decode cX4_count 75 = .ok (.ireturn, 1) := by decide +kernel
theorem dX4_count_76 : decode cX4_count 76 = .ok (.aload_n 0, 1) := by decide +kernel
theorem dX4_count_77 : decode cX4_count 77 = .ok (.getfield 10, 3) := by decide +kernel
theorem dX4_count_80 : decode cX4_count 80 = .ok (.getfield 186, 3) := by decide +kernel
theorem dX4_count_83 : decode cX4_count 83 = .ok (.ireturn, 1) := by decide +kernel
theorem dX4_count_84 : decode cX4_count 84 = .ok (.aload_n 0, 1) := by decide +kernel
theorem dX4_count_85 : decode cX4_count 85 = .ok (.getfield 10, 3) := by decide +kernel
theorem dX4_count_88 : decode cX4_count 88 = .ok (.invokevirtual 189, 3) := by decide +kernel
theorem dX4_count_91 : decode cX4_count 91 = .ok (.invokestatic 157, 3) := by decide +kernel
theorem dX4_count_94 : decode cX4_count 94 = .ok (.ireturn, 1) := by decide +kernel
theorem dX4_count_95 : decode cX4_count 95 = .ok (.aload_n 0, 1) := by decide +kernel
theorem dX4_count_96 : decode cX4_count 96 = .ok (.getfield 10, 3) := by decide +kernel
theorem dX4_count_99 : decode cX4_count 99 = .ok (.getfield 148, 3) := by decide +kernel
theorem dX4_count_102 : decode cX4_count 102 = .ok (.invokestatic 157, 3) := by decide +kernel
theorem dX4_count_105 : decode cX4_count 105 = .ok (.ireturn, 1) := by decide +kernel
theorem dX4_count_106 : decode cX4_count 106 = .ok (.aload_n 0, 1) := by decide +kernel
theorem dX4_count_107 : decode cX4_count 107 = .ok (.getfield 21, 3) := by decide +kernel
theorem dX4_count_110 : decode cX4_count 110 = .ok (.invokevirtual 96, 3) := by decide +kernel
theorem dX4_count_113 : decode cX4_count 113 = .ok (.ireturn, 1) := by decide +kernel
theorem dX4_count_114 : decode cX4_count 114 = .ok (.aload_n 0, 1) := by decide +kernel
theorem dX4_count_115 : decode cX4_count 115 = .ok (.getfield 21, 3) := by decide +kernel
theorem dX4_count_118 : decode cX4_count 118 = .ok (.invokevirtual 192, 3) := by decide +kernel
theorem dX4_count_121 : decode cX4_count 121 = .ok (.ireturn, 1) := by decide +kernel
theorem dX4_count_122 : decode cX4_count 122 = .ok (.aload_n 0, 1) := by decide +kernel
theorem dX4_count_123 : decode cX4_count 123 = .ok (.getfield 21, 3) := by decide +kernel
theorem dX4_count_126 : decode cX4_count 126 = .ok (.invokevirtual 195, 3) := by decide +kernel
theorem dX4_count_129 : decode cX4_count 129 = .ok (.ireturn, 1) := by decide +kernel
theorem dX4_count_130 : decode cX4_count 130 = .ok (.aload_n 0, 1) := by decide +kernel
theorem dX4_count_131 : decode cX4_count 131 = .ok (.getfield 21, 3) := by decide +kernel
theorem dX4_count_134 : decode cX4_count 134 = .ok (.invokevirtual 198, 3) := by decide +kernel
theorem dX4_count_137 : decode cX4_count 137 = .ok (.ireturn, 1) := by decide +kernel
theorem dX4_count_138 : decode cX4_count 138 = .ok (.aload_n 0, 1) := by decide +kernel
theorem dX4_count_139 : decode cX4_count 139 = .ok (.getfield 10, 3) := by decide +kernel
theorem dX4_count_142 : decode cX4_count 142 = .ok (.getfield 201, 3) := by decide +kernel
theorem dX4_count_145 : decode cX4_count 145 = .ok (.ireturn, 1) := by decide +kernel
theorem dX4_count_146 : decode cX4_count 146 = .ok (.aload_n 0, 1) := by decide +kernel
theorem dX4_count_147 : decode cX4_count 147 = .ok (.getfield 10, 3) := by decide +kernel
theorem dX4_count_150 : decode cX4_count 150 = .ok (.getfield 204, 3) := by decide +kernel
theorem dX4_count_153 : decode cX4_count 153 = .ok (.ireturn, 1) := by decide +kernel
theorem dX4_count_154 : decode cX4_count 154 = .ok (.aload_n 0, 1) := by decide +kernel
theorem dX4_count_155 : decode cX4_count 155 = .ok (.getfield 10, 3) := by decide +kernel
theorem dX4_count_158 : decode cX4_count 158 = .ok (.getfield 207, 3) := by decide +kernel
theorem dX4_count_161 : decode cX4_count 161 = .ok (.ireturn, 1) := by decide +kernel
theorem dX4_count_162 : decode cX4_count 162 = .ok (.aload_n 0, 1) := by decide +kernel
theorem dX4_count_163 : decode cX4_count 163 = .ok (.getfield 210, 3) := by decide +kernel
theorem dX4_count_166 : decode cX4_count 166 = .ok (.ireturn, 1) := by decide +kernel
theorem dX4_count_167 : decode cX4_count 167 = .ok (.aload_n 0, 1) := by decide +kernel
theorem dX4_count_168 : decode cX4_count 168 = .ok (.getfield 37, 3) := by decide +kernel
theorem dX4_count_171 : decode cX4_count 171 = .ok (.getfield 213, 3) := by decide +kernel
theorem dX4_count_174 : decode cX4_count 174 = .ok (.ireturn, 1) := by decide +kernel
theorem dX4_count_175 : decode cX4_count 175 = .ok (.iconst (-1), 1) := by decide +kernel
theorem dX4_count_176 : decode cX4_count 176 = .ok (.ireturn, 1) := by decide +kernel
theorem dX4_undo_0 : decode cX4_undo 0 = .ok (.aload_n 0, 1) := by decide +kernel
theorem dX4_undo_1 : decode cX4_undo 1 = .ok (.getfield 210, 3) := by decide +kernel
theorem dX4_undo_4 : decode cX4_undo 4 = .ok (.ifCond .gt 6, 3) := by decide +kernel
theorem dX4_undo_7 : decode cX4_undo 7 = .ok (.bipush (-2), 2) := by decide +kernel
theorem dX4_undo_9 : decode cX4_undo 9 = .ok (.ireturn, 1) := by decide +kernel
theorem dX4_undo_10 : decode cX4_undo 10 = .ok (.aload_n 0, 1) := by decide +kernel
theorem dX4_undo_11 : decode cX4_undo 11 = .ok (.dup, 1) := by decide +kernel
theorem dX4_undo_12 : decode cX4_undo 12 = .ok (.getfield 210, 3) := by decide +kernel
theorem dX4_undo_15 : decode cX4_undo 15 = .ok (.iconst 1, 1) := by decide +kernel
theorem dX4_undo_16 : decode cX4_undo 16 = .ok (.isub, 1) := by decide +kernel
theorem dX4_undo_17 : decode cX4_undo 17 = .ok (.putfield 210, 3) := by decide +kernel
theorem dX4_undo_20 : decode cX4_undo 20 = .ok (.aload_n 0, 1) := by decide +kernel
theorem dX4_undo_21 : decode cX4_undo 21 = .ok (.getfield 10, 3) := by decide +kernel
theorem dX4_undo_24 : decode cX4_undo 24 = .ok (.aload_n 0, 1) := by decide +kernel
theorem dX4_undo_25 : decode cX4_undo 25 = .ok (.getfield 41, 3) := by decide +kernel
theorem dX4_undo_28 : decode cX4_undo 28 = .ok (.aload_n 0, 1) := by decide +kernel
theorem dX4_undo_29 : decode cX4_undo 29 = .ok (.getfield 210, 3) := by decide +kernel
theorem dX4_undo_32 : decode cX4_undo 32 = .ok (.aaload, 1) := by decide +kernel
theorem dX4_undo_33 : decode cX4_undo 33 = .ok (.invokevirtual 216, 3) := by decide +kernel
theorem dX4_undo_36 : decode cX4_undo 36 = .ok (.aload_n 0, 1) := by decide +kernel
theorem dX4_undo_37 : decode cX4_undo 37 = .ok (.getfield 210, 3) := by decide +kernel
theorem dX4_undo_40 : decode cX4_undo 40 = .ok (.ireturn, 1) := by decide +kernel
theorem dX4_type_0 : decode cX4_type 0 = .ok (.iload_n 1, 1) := by decide +kernel
theorem dX4_type_1 : decode cX4_type 1 = .ok (.bipush 32, 2) := by decide +kernel
theorem dX4_type_3 : decode cX4_type 3 = .ok (.if_icmp .lt 9, 3) := by decide +kernel
theorem dX4_type_6 : decode cX4_type 6 = .ok (.iload_n 1, 1) := by decide +kernel
theorem dX4_type_7 : decode cX4_type 7 = .ok (.bipush 126, 2) := by decide +kernel
theorem dX4_type_9 : decode cX4_type 9 = .ok (.if_icmp .le 5, 3) := by decide +kernel
theorem dX4_type_12 : decode cX4_type 12 = .ok (.iconst (-1), 1) := by decide +kernel
theorem dX4_type_13 : decode cX4_type 13 = .ok (.ireturn, 1) := by decide +kernel
theorem dX4_type_14 : decode cX4_type 14 = .ok (.aload_n 0, 1) := by decide +kernel
theorem dX4_type_15 : decode cX4_type 15 = .ok (.getfield 37, 3) := by decide +kernel
theorem dX4_type_18 : decode cX4_type 18 = .ok (.iload_n 1, 1) := by decide +kernel
theorem dX4_type_19 : decode cX4_type 19 = .ok (.i2c, 1) := by decide +kernel
theorem dX4_type_20 : decode cX4_type 20 = .ok (.invokevirtual 219, 3) := by decide +kernel
theorem dX4_type_23 : decode cX4_type 23 = .ok (.ireturn, 1) := by decide +kernel
theorem dX4_clearText_0 : decode cX4_clearText 0 = .ok (.aload_n 0, 1) := by decide +kernel
theorem dX4_clearText_1 : decode cX4_clearText 1 = .ok (.getfield 37, 3) := by decide +kernel
theorem dX4_clearText_4 : decode cX4_clearText 4 = .ok (.invokevirtual 223, 3) := by decide +kernel
theorem dX4_clearText_7 : decode cX4_clearText 7 = .ok (.ireturn, 1) := by decide +kernel
theorem dX4_fault_0 : decode cX4_fault 0 = .ok (.iload_n 1, 1) := by decide +kernel
theorem dX4_fault_1 : decode cX4_fault 1 = .ok (.ifCond .lt 8, 3) := by decide +kernel
theorem dX4_fault_4 : decode cX4_fault 4 = .ok (.iload_n 1, 1) := by decide +kernel
theorem dX4_fault_5 : decode cX4_fault 5 = .ok (.iconst 2, 1) := by decide +kernel
theorem dX4_fault_6 : decode cX4_fault 6 = .ok (.if_icmp .le 5, 3) := by decide +kernel
theorem dX4_fault_9 : decode cX4_fault 9 = .ok (.iconst (-1), 1) := by decide +kernel
theorem dX4_fault_10 : decode cX4_fault 10 = .ok (.ireturn, 1) := by decide +kernel
theorem dX4_fault_11 : decode cX4_fault 11 = .ok (.aload_n 0, 1) := by decide +kernel
theorem dX4_fault_12 : decode cX4_fault 12 = .ok (.getfield 37, 3) := by decide +kernel
theorem dX4_fault_15 : decode cX4_fault 15 = .ok (.aload_n 0, 1) := by decide +kernel
theorem dX4_fault_16 : decode cX4_fault 16 = .ok (.getfield 10, 3) := by decide +kernel
theorem dX4_fault_19 : decode cX4_fault 19 = .ok (.invokevirtual 226, 3) := by decide +kernel
theorem dX4_fault_22 : decode cX4_fault 22 = .ok (.iload_n 1, 1) := by decide +kernel
theorem dX4_fault_23 : decode cX4_fault 23 = .ok (.lookupswitch 41 #[(0, 25), (1, 33)], 25) := by decide +kernel
theorem dX4_fault_48 : decode cX4_fault 48 = .ok (.aload_n 0, 1) := by decide +kernel
theorem dX4_fault_49 : decode cX4_fault 49 = .ok (.getfield 37, 3) := by decide +kernel
theorem dX4_fault_52 : decode cX4_fault 52 = .ok (.getfield 229, 3) := by decide +kernel
theorem dX4_fault_55 : decode cX4_fault 55 = .ok (.ireturn, 1) := by decide +kernel
theorem dX4_fault_56 : decode cX4_fault 56 = .ok (.aload_n 0, 1) := by decide +kernel
theorem dX4_fault_57 : decode cX4_fault 57 = .ok (.getfield 37, 3) := by decide +kernel
theorem dX4_fault_60 : decode cX4_fault 60 = .ok (.getfield 232, 3) := by decide +kernel
theorem dX4_fault_63 : decode cX4_fault 63 = .ok (.ireturn, 1) := by decide +kernel
theorem dX4_fault_64 : decode cX4_fault 64 = .ok (.aload_n 0, 1) := by decide +kernel
theorem dX4_fault_65 : decode cX4_fault 65 = .ok (.getfield 37, 3) := by decide +kernel
theorem dX4_fault_68 : decode cX4_fault 68 = .ok (.getfield 235, 3) := by decide +kernel
theorem dX4_fault_71 : decode cX4_fault 71 = .ok (.ireturn, 1) := by decide +kernel
theorem dX4_play_0 : decode cX4_play 0 = .ok (.aload_n 0, 1) := by decide +kernel
theorem dX4_play_1 : decode cX4_play 1 = .ok (.getfield 37, 3) := by decide +kernel
theorem dX4_play_4 : decode cX4_play 4 = .ok (.aload_n 0, 1) := by decide +kernel
theorem dX4_play_5 : decode cX4_play 5 = .ok (.getfield 10, 3) := by decide +kernel
theorem dX4_play_8 : decode cX4_play 8 = .ok (.invokevirtual 226, 3) := by decide +kernel
theorem dX4_play_11 : decode cX4_play 11 = .ok (.aload_n 0, 1) := by decide +kernel
theorem dX4_play_12 : decode cX4_play 12 = .ok (.getfield 37, 3) := by decide +kernel
theorem dX4_play_15 : decode cX4_play 15 = .ok (.invokevirtual 238, 3) := by decide +kernel
theorem dX4_play_18 : decode cX4_play 18 = .ok (.ifCond .eq 6, 3) := by decide +kernel
theorem dX4_play_21 : decode cX4_play 21 = .ok (.bipush (-2), 2) := by decide +kernel
theorem dX4_play_23 : decode cX4_play 23 = .ok (.ireturn, 1) := by decide +kernel
theorem dX4_play_24 : decode cX4_play 24 = .ok (.aload_n 0, 1) := by decide +kernel
theorem dX4_play_25 : decode cX4_play 25 = .ok (.invokevirtual 49, 3) := by decide +kernel
theorem dX4_play_28 : decode cX4_play 28 = .ok (.aload_n 0, 1) := by decide +kernel
theorem dX4_play_29 : decode cX4_play 29 = .ok (.getfield 10, 3) := by decide +kernel
theorem dX4_play_32 : decode cX4_play 32 = .ok (.aload_n 0, 1) := by decide +kernel
theorem dX4_play_33 : decode cX4_play 33 = .ok (.getfield 37, 3) := by decide +kernel
theorem dX4_play_36 : decode cX4_play 36 = .ok (.getfield 242, 3) := by decide +kernel
theorem dX4_play_39 : decode cX4_play 39 = .ok (.invokevirtual 216, 3) := by decide +kernel
theorem dX4_play_42 : decode cX4_play 42 = .ok (.aload_n 0, 1) := by decide +kernel
theorem dX4_play_43 : decode cX4_play 43 = .ok (.aload_n 0, 1) := by decide +kernel
theorem dX4_play_44 : decode cX4_play 44 = .ok (.getfield 37, 3) := by decide +kernel
theorem dX4_play_47 : decode cX4_play 47 = .ok (.getfield 245, 3) := by decide +kernel
theorem dX4_play_50 : decode cX4_play 50 = .ok (.invokevirtual 56, 3) := by decide +kernel
theorem dX4_play_53 : decode cX4_play 53 = .ok (.ireturn, 1) := by decide +kernel
theorem dX4_keepState_0 : decode cX4_keepState 0 = .ok (.aload_n 0, 1) := by decide +kernel
theorem dX4_keepState_1 : decode cX4_keepState 1 = .ok (.getfield 41, 3) := by decide +kernel
theorem dX4_keepState_4 : decode cX4_keepState 4 = .ok (.aload_n 0, 1) := by decide +kernel
theorem dX4_keepState_5 : decode cX4_keepState 5 = .ok (.getfield 210, 3) := by decide +kernel
theorem dX4_keepState_8 : decode cX4_keepState 8 = .ok (.aaload, 1) := by decide +kernel
theorem dX4_keepState_9 : decode cX4_keepState 9 = .ok (.aload_n 0, 1) := by decide +kernel
theorem dX4_keepState_10 : decode cX4_keepState 10 = .ok (.getfield 10, 3) := by decide +kernel
theorem dX4_keepState_13 : decode cX4_keepState 13 = .ok (.invokevirtual 216, 3) := by decide +kernel
theorem dX4_keepState_16 : decode cX4_keepState 16 = .ok (.return_, 1) := by decide +kernel
theorem dX4_settle_0 : decode cX4_settle 0 = .ok (.iload_n 1, 1) := by decide +kernel
theorem dX4_settle_1 : decode cX4_settle 1 = .ok (.ifCond .lt 25, 3) := by decide +kernel
theorem dX4_settle_4 : decode cX4_settle 4 = .ok (.aload_n 0, 1) := by decide +kernel
theorem dX4_settle_5 : decode cX4_settle 5 = .ok (.dup, 1) := by decide +kernel
theorem dX4_settle_6 : decode cX4_settle 6 = .ok (.getfield 210, 3) := by decide +kernel
theorem dX4_settle_9 : decode cX4_settle 9 = .ok (.iconst 1, 1) := by decide +kernel
theorem dX4_settle_10 : decode cX4_settle 10 = .ok (.iadd, 1) := by decide +kernel
theorem dX4_settle_11 : decode cX4_settle 11 = .ok (.putfield 210, 3) := by decide +kernel
theorem dX4_settle_14 : decode cX4_settle 14 = .ok (.aload_n 0, 1) := by decide +kernel
theorem dX4_settle_15 : decode cX4_settle 15 = .ok (.getfield 210, 3) := by decide +kernel
theorem dX4_settle_18 : decode cX4_settle 18 = .ok (.iconst 4, 1) := by decide +kernel
theorem dX4_settle_19 : decode cX4_settle 19 = .ok (.if_icmp .le 7, 3) := by decide +kernel
theorem dX4_settle_22 : decode cX4_settle 22 = .ok (.aload_n 0, 1) := by decide +kernel
theorem dX4_settle_23 : decode cX4_settle 23 = .ok (.invokevirtual 248, 3) := by decide +kernel
theorem dX4_settle_26 : decode cX4_settle 26 = .ok (.iload_n 1, 1) := by decide +kernel
theorem dX4_settle_27 : decode cX4_settle 27 = .ok (.ireturn, 1) := by decide +kernel
theorem dX4_dropOldest_0 : decode cX4_dropOldest 0 = .ok (.aload_n 0, 1) := by decide +kernel
theorem dX4_dropOldest_1 : decode cX4_dropOldest 1 = .ok (.getfield 41, 3) := by decide +kernel
theorem dX4_dropOldest_4 : decode cX4_dropOldest 4 = .ok (.iconst 0, 1) := by decide +kernel
theorem dX4_dropOldest_5 : decode cX4_dropOldest 5 = .ok (.aaload, 1) := by decide +kernel
theorem dX4_dropOldest_6 : decode cX4_dropOldest 6 = .ok (.astore_n 1, 1) := by decide +kernel
theorem dX4_dropOldest_7 : decode cX4_dropOldest 7 = .ok (.iconst 0, 1) := by decide +kernel
theorem dX4_dropOldest_8 : decode cX4_dropOldest 8 = .ok (.istore_n 2, 1) := by decide +kernel
theorem dX4_dropOldest_9 : decode cX4_dropOldest 9 = .ok (.iload_n 2, 1) := by decide +kernel
theorem dX4_dropOldest_10 : decode cX4_dropOldest 10 = .ok (.iconst 4, 1) := by decide +kernel
theorem dX4_dropOldest_11 : decode cX4_dropOldest 11 = .ok (.if_icmp .ge 23, 3) := by decide +kernel
theorem dX4_dropOldest_14 : decode cX4_dropOldest 14 = .ok (.aload_n 0, 1) := by decide +kernel
theorem dX4_dropOldest_15 : decode cX4_dropOldest 15 = .ok (.getfield 41, 3) := by decide +kernel
theorem dX4_dropOldest_18 : decode cX4_dropOldest 18 = .ok (.iload_n 2, 1) := by decide +kernel
theorem dX4_dropOldest_19 : decode cX4_dropOldest 19 = .ok (.aload_n 0, 1) := by decide +kernel
theorem dX4_dropOldest_20 : decode cX4_dropOldest 20 = .ok (.getfield 41, 3) := by decide +kernel
theorem dX4_dropOldest_23 : decode cX4_dropOldest 23 = .ok (.iload_n 2, 1) := by decide +kernel
theorem dX4_dropOldest_24 : decode cX4_dropOldest 24 = .ok (.iconst 1, 1) := by decide +kernel
theorem dX4_dropOldest_25 : decode cX4_dropOldest 25 = .ok (.iadd, 1) := by decide +kernel
theorem dX4_dropOldest_26 : decode cX4_dropOldest 26 = .ok (.aaload, 1) := by decide +kernel
theorem dX4_dropOldest_27 : decode cX4_dropOldest 27 = .ok (.aastore, 1) := by decide +kernel
theorem dX4_dropOldest_28 : decode cX4_dropOldest 28 = .ok (.iinc 2 1, 3) := by decide +kernel
theorem dX4_dropOldest_31 : decode cX4_dropOldest 31 = .ok (.goto (-22), 3) := by decide +kernel
theorem dX4_dropOldest_34 : decode cX4_dropOldest 34 = .ok (.aload_n 0, 1) := by decide +kernel
theorem dX4_dropOldest_35 : decode cX4_dropOldest 35 = .ok (.getfield 41, 3) := by decide +kernel
theorem dX4_dropOldest_38 : decode cX4_dropOldest 38 = .ok (.iconst 4, 1) := by decide +kernel
theorem dX4_dropOldest_39 : decode cX4_dropOldest 39 = .ok (.aload_n 1, 1) := by decide +kernel
theorem dX4_dropOldest_40 : decode cX4_dropOldest 40 = .ok (.aastore, 1) := by decide +kernel
theorem dX4_dropOldest_41 : decode cX4_dropOldest 41 = .ok (.aload_n 0, 1) := by decide +kernel
theorem dX4_dropOldest_42 : decode cX4_dropOldest 42 = .ok (.iconst 4, 1) := by decide +kernel
theorem dX4_dropOldest_43 : decode cX4_dropOldest 43 = .ok (.putfield 210, 3) := by decide +kernel
theorem dX4_dropOldest_46 : decode cX4_dropOldest 46 = .ok (.return_, 1) := by decide +kernel
theorem dX4_fallOf_0 : decode cX4_fallOf 0 = .ok (.aload_n 0, 1) := by decide +kernel
theorem dX4_fallOf_1 : decode cX4_fallOf 1 = .ok (.getfield 21, 3) := by decide +kernel
theorem dX4_fallOf_4 : decode cX4_fallOf 4 = .ok (.iload_n 1, 1) := by decide +kernel
theorem dX4_fallOf_5 : decode cX4_fallOf 5 = .ok (.invokevirtual 251, 3) := by decide +kernel
theorem dX4_fallOf_8 : decode cX4_fallOf 8 = .ok (.istore_n 2, 1) := by decide +kernel
theorem dX4_fallOf_9 : decode cX4_fallOf 9 = .ok (.iload_n 2, 1) := by decide +kernel
theorem dX4_fallOf_10 : decode cX4_fallOf 10 = .ok (.ifCond .ne 8, 3) := by decide +kernel
theorem dX4_fallOf_13 : decode cX4_fallOf 13 = .ok (.bipush (-4), 2) := by decide +kernel
theorem dX4_fallOf_15 : decode cX4_fallOf 15 = .ok (.goto 4, 3) := by decide +kernel
theorem dX4_fallOf_18 : decode cX4_fallOf 18 = .ok (.iload_n 2, 1) := by decide +kernel
theorem dX4_fallOf_19 : decode cX4_fallOf 19 = .ok (.ireturn, 1) := by decide +kernel
theorem dX4_toppledBy_0 : decode cX4_toppledBy 0 = .ok (.iconst 1, 1) := by decide +kernel
theorem dX4_toppledBy_1 : decode cX4_toppledBy 1 = .ok (.iload_n 1, 1) := by decide +kernel
theorem dX4_toppledBy_2 : decode cX4_toppledBy 2 = .ok (.ishl, 1) := by decide +kernel
theorem dX4_toppledBy_3 : decode cX4_toppledBy 3 = .ok (.istore_n 2, 1) := by decide +kernel
theorem dX4_toppledBy_4 : decode cX4_toppledBy 4 = .ok (.aload_n 0, 1) := by decide +kernel
theorem dX4_toppledBy_5 : decode cX4_toppledBy 5 = .ok (.getfield 10, 3) := by decide +kernel
theorem dX4_toppledBy_8 : decode cX4_toppledBy 8 = .ok (.getfield 92, 3) := by decide +kernel
theorem dX4_toppledBy_11 : decode cX4_toppledBy 11 = .ok (.iload_n 2, 1) := by decide +kernel
theorem dX4_toppledBy_12 : decode cX4_toppledBy 12 = .ok (.iand, 1) := by decide +kernel
theorem dX4_toppledBy_13 : decode cX4_toppledBy 13 = .ok (.ifCond .eq 6, 3) := by decide +kernel
theorem dX4_toppledBy_16 : decode cX4_toppledBy 16 = .ok (.bipush (-2), 2) := by decide +kernel
theorem dX4_toppledBy_18 : decode cX4_toppledBy 18 = .ok (.ireturn, 1) := by decide +kernel
theorem dX4_toppledBy_19 : decode cX4_toppledBy 19 = .ok (.aload_n 0, 1) := by decide +kernel
theorem dX4_toppledBy_20 : decode cX4_toppledBy 20 = .ok (.getfield 21, 3) := by decide +kernel
theorem dX4_toppledBy_23 : decode cX4_toppledBy 23 = .ok (.iload_n 2, 1) := by decide +kernel
theorem dX4_toppledBy_24 : decode cX4_toppledBy 24 = .ok (.invokevirtual 154, 3) := by decide +kernel
theorem dX4_toppledBy_27 : decode cX4_toppledBy 27 = .ok (.iload_n 2, 1) := by decide +kernel
theorem dX4_toppledBy_28 : decode cX4_toppledBy 28 = .ok (.iconst (-1), 1) := by decide +kernel
theorem dX4_toppledBy_29 : decode cX4_toppledBy 29 = .ok (.ixor, 1) := by decide +kernel
theorem dX4_toppledBy_30 : decode cX4_toppledBy 30 = .ok (.iand, 1) := by decide +kernel
theorem dX4_toppledBy_31 : decode cX4_toppledBy 31 = .ok (.ireturn, 1) := by decide +kernel
theorem dX4_errorOfSet_0 : decode cX4_errorOfSet 0 = .ok (.iload_n 1, 1) := by decide +kernel
theorem dX4_errorOfSet_1 : decode cX4_errorOfSet 1 = .ok (.aload_n 0, 1) := by decide +kernel
theorem dX4_errorOfSet_2 : decode cX4_errorOfSet 2 = .ok (.getfield 10, 3) := by decide +kernel
theorem dX4_errorOfSet_5 : decode cX4_errorOfSet 5 = .ok (.invokevirtual 189, 3) := by decide +kernel
theorem dX4_errorOfSet_8 : decode cX4_errorOfSet 8 = .ok (.iconst (-1), 1) := by decide +kernel
theorem dX4_errorOfSet_9 : decode cX4_errorOfSet 9 = .ok (.ixor, 1) := by decide +kernel
theorem dX4_errorOfSet_10 : decode cX4_errorOfSet 10 = .ok (.iand, 1) := by decide +kernel
theorem dX4_errorOfSet_11 : decode cX4_errorOfSet 11 = .ok (.ifCond .eq 5, 3) := by decide +kernel
theorem dX4_errorOfSet_14 : decode cX4_errorOfSet 14 = .ok (.iconst (-1), 1) := by decide +kernel
theorem dX4_errorOfSet_15 : decode cX4_errorOfSet 15 = .ok (.ireturn, 1) := by decide +kernel
theorem dX4_errorOfSet_16 : decode cX4_errorOfSet 16 = .ok (.iload_n 1, 1) := by decide +kernel
theorem dX4_errorOfSet_17 : decode cX4_errorOfSet 17 = .ok (.aload_n 0, 1) := by decide +kernel
theorem dX4_errorOfSet_18 : decode cX4_errorOfSet 18 = .ok (.getfield 10, 3) := by decide +kernel
theorem dX4_errorOfSet_21 : decode cX4_errorOfSet 21 = .ok (.getfield 92, 3) := by decide +kernel
theorem dX4_errorOfSet_24 : decode cX4_errorOfSet 24 = .ok (.iand, 1) := by decide +kernel
theorem dX4_errorOfSet_25 : decode cX4_errorOfSet 25 = .ok (.ifCond .eq 8, 3) := by decide +kernel
theorem dX4_errorOfSet_28 : decode cX4_errorOfSet 28 = .ok (.bipush (-2), 2) := by decide +kernel
theorem dX4_errorOfSet_30 : decode cX4_errorOfSet 30 = .ok (.goto 4, 3) := by decide +kernel
theorem dX4_errorOfSet_33 : decode cX4_errorOfSet 33 = .ok (.iconst 0, 1) := by decide +kernel
theorem dX4_errorOfSet_34 : decode cX4_errorOfSet 34 = .ok (.ireturn, 1) := by decide +kernel
theorem dX4_keyOf_0 : decode cX4_keyOf 0 = .ok (.iload_n 1, 1) := by decide +kernel
theorem dX4_keyOf_1 : decode cX4_keyOf 1 = .ok (.ifCond .ne 32, 3) := by decide +kernel
theorem dX4_keyOf_4 : decode cX4_keyOf 4 = .ok (.sipush 999, 3) := by decide +kernel
theorem dX4_keyOf_7 : decode cX4_keyOf 7 = .ok (.aload_n 0, 1) := by decide +kernel
theorem dX4_keyOf_8 : decode cX4_keyOf 8 = .ok (.getfield 10, 3) := by decide +kernel
theorem dX4_keyOf_11 : decode cX4_keyOf 11 = .ok (.getfield 83, 3) := by decide +kernel
theorem dX4_keyOf_14 : decode cX4_keyOf 14 = .ok (.iload_n 2, 1) := by decide +kernel
theorem dX4_keyOf_15 : decode cX4_keyOf 15 = .ok (.iaload, 1) := by decide +kernel
theorem dX4_keyOf_16 : decode cX4_keyOf 16 = .ok (.isub, 1) := by decide +kernel
theorem dX4_keyOf_17 : decode cX4_keyOf 17 = .ok (.i2l, 1) := by decide +kernel
theorem dX4_keyOf_18 : decode cX4_keyOf 18 = .ok (.bipush 20, 2) := by decide +kernel
theorem dX4_keyOf_20 : decode cX4_keyOf 20 = .ok (.lshl, 1) := by decide +kernel
theorem dX4_keyOf_21 : decode cX4_keyOf 21 = .ok (.aload_n 0, 1) := by decide +kernel
theorem dX4_keyOf_22 : decode cX4_keyOf 22 = .ok (.getfield 10, 3) := by decide +kernel
theorem dX4_keyOf_25 : decode cX4_keyOf 25 = .ok (.getfield 103, 3) := by decide +kernel
theorem dX4_keyOf_28 : decode cX4_keyOf 28 = .ok (.iload_n 2, 1) := by decide +kernel
theorem dX4_keyOf_29 : decode cX4_keyOf 29 = .ok (.iaload, 1) := by decide +kernel
theorem dX4_keyOf_30 : decode cX4_keyOf 30 = .ok (.i2l, 1) := by decide +kernel
theorem dX4_keyOf_31 : decode cX4_keyOf 31 = .ok (.lor, 1) := by decide +kernel
theorem dX4_keyOf_32 : decode cX4_keyOf 32 = .ok (.lreturn, 1) := by decide +kernel
theorem dX4_keyOf_33 : decode cX4_keyOf 33 = .ok (.iload_n 1, 1) := by decide +kernel
theorem dX4_keyOf_34 : decode cX4_keyOf 34 = .ok (.iconst 1, 1) := by decide +kernel
theorem dX4_keyOf_35 : decode cX4_keyOf 35 = .ok (.if_icmp .ne 37, 3) := by decide +kernel
theorem dX4_keyOf_38 : decode cX4_keyOf 38 = .ok (.aload_n 0, 1) := by decide +kernel
theorem dX4_keyOf_39 : decode cX4_keyOf 39 = .ok (.getfield 21, 3) := by decide +kernel
theorem dX4_keyOf_42 : decode cX4_keyOf 42 = .ok (.iload_n 2, 1) := by decide +kernel
theorem dX4_keyOf_43 : decode cX4_keyOf 43 = .ok (.invokevirtual 251, 3) := by decide +kernel
theorem dX4_keyOf_46 : decode cX4_keyOf 46 = .ok (.istore_n 3, 1) := by decide +kernel
theorem dX4_keyOf_47 : decode cX4_keyOf 47 = .ok (.iload_n 3, 1) := by decide +kernel
theorem dX4_keyOf_48 : decode cX4_keyOf 48 = .ok (.ifCond .ne 7, 3) := by decide +kernel
theorem dX4_keyOf_51 : decode cX4_keyOf 51 = .ok (.iconst 0, 1) := by decide +kernel
theorem dX4_keyOf_52 : decode cX4_keyOf 52 = .ok (.goto 7, 3) := by decide +kernel
theorem dX4_keyOf_55 : decode cX4_keyOf 55 = .ok (.bipush 13, 2) := by decide +kernel
theorem dX4_keyOf_57 : decode cX4_keyOf 57 = .ok (.iload_n 3, 1) := by decide +kernel
theorem dX4_keyOf_58 : decode cX4_keyOf 58 = .ok (.isub, 1) := by decide +kernel
theorem dX4_keyOf_59 : decode cX4_keyOf 59 = .ok (.istore 4, 2) := by decide +kernel
theorem dX4_keyOf_61 : decode cX4_keyOf 61 = .ok (.iload 4, 2) := by decide +kernel
theorem dX4_keyOf_63 : decode cX4_keyOf 63 = .ok (.i2l, 1) := by decide +kernel
theorem dX4_keyOf_64 : decode cX4_keyOf 64 = .ok (.ldc2_w 254, 3) := by decide +kernel
theorem dX4_keyOf_67 : decode cX4_keyOf 67 = .ok (.lmul, 1) := by decide +kernel
theorem dX4_keyOf_68 : decode cX4_keyOf 68 = .ok (.iload_n 2, 1) := by decide +kernel
theorem dX4_keyOf_69 : decode cX4_keyOf 69 = .ok (.i2l, 1) := by decide +kernel
theorem dX4_keyOf_70 : decode cX4_keyOf 70 = .ok (.ladd, 1) := by decide +kernel
theorem dX4_keyOf_71 : decode cX4_keyOf 71 = .ok (.lreturn, 1) := by decide +kernel
theorem dX4_keyOf_72 : decode cX4_keyOf 72 = .ok (.aload_n 0, 1) := by decide +kernel
theorem dX4_keyOf_73 : decode cX4_keyOf 73 = .ok (.getfield 10, 3) := by decide +kernel
theorem dX4_keyOf_76 : decode cX4_keyOf 76 = .ok (.getfield 80, 3) := by decide +kernel
theorem dX4_keyOf_79 : decode cX4_keyOf 79 = .ok (.iload_n 2, 1) := by decide +kernel
theorem dX4_keyOf_80 : decode cX4_keyOf 80 = .ok (.iaload, 1) := by decide +kernel
theorem dX4_keyOf_81 : decode cX4_keyOf 81 = .ok (.bipush 8, 2) := by decide +kernel
theorem dX4_keyOf_83 : decode cX4_keyOf 83 = .ok (.imul, 1) := by decide +kernel
theorem dX4_keyOf_84 : decode cX4_keyOf 84 = .ok (.aload_n 0, 1) := by decide +kernel
theorem dX4_keyOf_85 : decode cX4_keyOf 85 = .ok (.getfield 10, 3) := by decide +kernel
theorem dX4_keyOf_88 : decode cX4_keyOf 88 = .ok (.getfield 76, 3) := by decide +kernel
theorem dX4_keyOf_91 : decode cX4_keyOf 91 = .ok (.iload_n 2, 1) := by decide +kernel
theorem dX4_keyOf_92 : decode cX4_keyOf 92 = .ok (.iaload, 1) := by decide +kernel
theorem dX4_keyOf_93 : decode cX4_keyOf 93 = .ok (.iadd, 1) := by decide +kernel
theorem dX4_keyOf_94 : decode cX4_keyOf 94 = .ok (.istore_n 3, 1) := by decide +kernel
theorem dX4_keyOf_95 : decode cX4_keyOf 95 = .ok (.iload_n 3, 1) := by decide +kernel
theorem dX4_keyOf_96 : decode cX4_keyOf 96 = .ok (.i2l, 1) := by decide +kernel
theorem dX4_keyOf_97 : decode cX4_keyOf 97 = .ok (.bipush 20, 2) := by decide +kernel
theorem dX4_keyOf_99 : decode cX4_keyOf 99 = .ok (.lshl, 1) := by decide +kernel
theorem dX4_keyOf_100 : decode cX4_keyOf 100 = .ok (.aload_n 0, 1) := by decide +kernel
theorem dX4_keyOf_101 : decode cX4_keyOf 101 = .ok (.getfield 10, 3) := by decide +kernel
theorem dX4_keyOf_104 : decode cX4_keyOf 104 = .ok (.getfield 103, 3) := by decide +kernel
theorem dX4_keyOf_107 : decode cX4_keyOf 107 = .ok (.iload_n 2, 1) := by decide +kernel
theorem dX4_keyOf_108 : decode cX4_keyOf 108 = .ok (.iaload, 1) := by decide +kernel
theorem dX4_keyOf_109 : decode cX4_keyOf 109 = .ok (.i2l, 1) := by decide +kernel
theorem dX4_keyOf_110 : decode cX4_keyOf 110 = .ok (.lor, 1) := by decide +kernel
theorem dX4_keyOf_111 : decode cX4_keyOf 111 = .ok (.lreturn, 1) := by decide +kernel
theorem dX4_keysBelow_0 : decode cX4_keysBelow 0 = .ok (.iconst 0, 1) := by decide +kernel
theorem dX4_keysBelow_1 : decode cX4_keysBelow 1 = .ok (.istore_n 3, 1) := by decide +kernel
theorem dX4_keysBelow_2 : decode cX4_keysBelow 2 = .ok (.iconst 0, 1) := by decide +kernel
theorem dX4_keysBelow_3 : decode cX4_keysBelow 3 = .ok (.istore 4, 2) := by decide +kernel
theorem dX4_keysBelow_5 : decode cX4_keysBelow 5 = .ok (.iload 4, 2) := by decide +kernel
theorem dX4_keysBelow_7 : decode cX4_keysBelow 7 = .ok (.bipush 12, 2) := by decide +kernel
theorem dX4_keysBelow_9 : decode cX4_keysBelow 9 = .ok (.if_icmp .ge 36, 3) := by decide +kernel
theorem dX4_keysBelow_12 : decode cX4_keysBelow 12 = .ok (.aload_n 0, 1) := by decide +kernel
theorem dX4_keysBelow_13 : decode cX4_keysBelow 13 = .ok (.getfield 10, 3) := by decide +kernel
theorem dX4_keysBelow_16 : decode cX4_keysBelow 16 = .ok (.iload 4, 2) := by decide +kernel
theorem dX4_keysBelow_18 : decode cX4_keysBelow 18 = .ok (.invokevirtual 72, 3) := by decide +kernel
theorem dX4_keysBelow_21 : decode cX4_keysBelow 21 = .ok (.ifCond .eq 18, 3) := by decide +kernel
theorem dX4_keysBelow_24 : decode cX4_keysBelow 24 = .ok (.aload_n 0, 1) := by decide +kernel
theorem dX4_keysBelow_25 : decode cX4_keysBelow 25 = .ok (.getfield 45, 3) := by decide +kernel
theorem dX4_keysBelow_28 : decode cX4_keysBelow 28 = .ok (.iload 4, 2) := by decide +kernel
theorem dX4_keysBelow_30 : decode cX4_keysBelow 30 = .ok (.laload, 1) := by decide +kernel
theorem dX4_keysBelow_31 : decode cX4_keysBelow 31 = .ok (.lload_n 1, 1) := by decide +kernel
theorem dX4_keysBelow_32 : decode cX4_keysBelow 32 = .ok (.lcmp, 1) := by decide +kernel
theorem dX4_keysBelow_33 : decode cX4_keysBelow 33 = .ok (.ifCond .ge 6, 3) := by decide +kernel
theorem dX4_keysBelow_36 : decode cX4_keysBelow 36 = .ok (.iinc 3 1, 3) := by decide +kernel
theorem dX4_keysBelow_39 : decode cX4_keysBelow 39 = .ok (.iinc 4 1, 3) := by decide +kernel
theorem dX4_keysBelow_42 : decode cX4_keysBelow 42 = .ok (.goto (-37), 3) := by decide +kernel
theorem dX4_keysBelow_45 : decode cX4_keysBelow 45 = .ok (.iload_n 3, 1) := by decide +kernel
theorem dX4_keysBelow_46 : decode cX4_keysBelow 46 = .ok (.ireturn, 1) := by decide +kernel
theorem dX5_init_0 : decode cX5_init 0 = .ok (.aload_n 0, 1) := by decide +kernel
theorem dX5_init_1 : decode cX5_init 1 = .ok (.invokespecial 1, 3) := by decide +kernel
theorem dX5_init_4 : decode cX5_init 4 = .ok (.aload_n 0, 1) := by decide +kernel
theorem dX5_init_5 : decode cX5_init 5 = .ok (.bipush 125, 2) := by decide +kernel
theorem dX5_init_7 : decode cX5_init 7 = .ok (.newarray .int, 2) := by decide +kernel
theorem dX5_init_9 : decode cX5_init 9 = .ok (.putfield 7, 3) := by decide +kernel
theorem dX5_init_12 : decode cX5_init 12 = .ok (.aload_n 0, 1) := by decide +kernel
theorem dX5_init_13 : decode cX5_init 13 = .ok (.bipush 125, 2) := by decide +kernel
theorem dX5_init_15 : decode cX5_init 15 = .ok (.newarray .int, 2) := by decide +kernel
theorem dX5_init_17 : decode cX5_init 17 = .ok (.putfield 13, 3) := by decide +kernel
theorem dX5_init_20 : decode cX5_init 20 = .ok (.aload_n 0, 1) := by decide +kernel
theorem dX5_init_21 : decode cX5_init 21 = .ok (.sipush 500, 3) := by decide +kernel
theorem dX5_init_24 : decode cX5_init 24 = .ok (.newarray .int, 2) := by decide +kernel
theorem dX5_init_26 : decode cX5_init 26 = .ok (.putfield 16, 3) := by decide +kernel
theorem dX5_init_29 : decode cX5_init 29 = .ok (.aload_n 0, 1) := by decide +kernel
theorem dX5_init_30 : decode cX5_init 30 = .ok (.bipush 80, 2) := by decide +kernel
theorem dX5_init_32 : decode cX5_init 32 = .ok (.newarray .int, 2) := by decide +kernel
theorem dX5_init_34 : decode cX5_init 34 = .ok (.putfield 19, 3) := by decide +kernel
theorem dX5_init_37 : decode cX5_init 37 = .ok (.aload_n 0, 1) := by decide +kernel
theorem dX5_init_38 : decode cX5_init 38 = .ok (.iconst (-1), 1) := by decide +kernel
theorem dX5_init_39 : decode cX5_init 39 = .ok (.putfield 22, 3) := by decide +kernel
theorem dX5_init_42 : decode cX5_init 42 = .ok (.aload_n 0, 1) := by decide +kernel
theorem dX5_init_43 : decode cX5_init 43 = .ok (.bipush 12, 2) := by decide +kernel
theorem dX5_init_45 : decode cX5_init 45 = .ok (.newarray .int, 2) := by decide +kernel
theorem dX5_init_47 : decode cX5_init 47 = .ok (.putfield 26, 3) := by decide +kernel
theorem dX5_init_50 : decode cX5_init 50 = .ok (.aload_n 0, 1) := by decide +kernel
theorem dX5_init_51 : decode cX5_init 51 = .ok (.iconst 5, 1) := by decide +kernel
theorem dX5_init_52 : decode cX5_init 52 = .ok (.newarray .int, 2) := by decide +kernel
theorem dX5_init_54 : decode cX5_init 54 = .ok (.putfield 29, 3) := by decide +kernel
theorem dX5_init_57 : decode cX5_init 57 = .ok (.return_, 1) := by decide +kernel
theorem dX5_in_0 : decode cX5_in 0 = .ok (.iload_n 0, 1) := by decide +kernel
theorem dX5_in_1 : decode cX5_in 1 = .ok (.iload_n 1, 1) := by decide +kernel
theorem dX5_in_2 : decode cX5_in 2 = .ok (.if_icmp .lt 12, 3) := by decide +kernel
theorem dX5_in_5 : decode cX5_in 5 = .ok (.iload_n 0, 1) := by decide +kernel
theorem dX5_in_6 : decode cX5_in 6 = .ok (.iload_n 2, 1) := by decide +kernel
theorem dX5_in_7 : decode cX5_in 7 = .ok (.if_icmp .gt 7, 3) := by decide +kernel
theorem dX5_in_10 : decode cX5_in 10 = .ok (.iconst 1, 1) := by decide +kernel
theorem dX5_in_11 : decode cX5_in 11 = .ok (.goto 4, 3) := by decide +kernel
theorem dX5_in_14 : decode cX5_in 14 = .ok (.iconst 0, 1) := by decide +kernel
theorem dX5_in_15 : decode cX5_in 15 = .ok (.ireturn, 1) := by decide +kernel
theorem dX5_has_0 : decode cX5_has 0 = .ok (.iload_n 0, 1) := by decide +kernel
theorem dX5_has_1 : decode cX5_has 1 = .ok (.iload_n 1, 1) := by decide +kernel
theorem dX5_has_2 : decode cX5_has 2 = .ok (.ishr, 1) := by decide +kernel
theorem dX5_has_3 : decode cX5_has 3 = .ok (.iconst 1, 1) := by decide +kernel
theorem dX5_has_4 : decode cX5_has 4 = .ok (.iand, 1) := by decide +kernel
theorem dX5_has_5 : decode cX5_has 5 = .ok (.iconst 1, 1) := by decide +kernel
theorem dX5_has_6 : decode cX5_has 6 = .ok (.if_icmp .ne 7, 3) := by decide +kernel
theorem dX5_has_9 : decode cX5_has 9 = .ok (.iconst 1, 1) := by decide +kernel
theorem dX5_has_10 : decode cX5_has 10 = .ok (.goto 4, 3) := by decide +kernel
theorem dX5_has_13 : decode cX5_has 13 = .ok (.iconst 0, 1) := by decide +kernel
theorem dX5_has_14 : decode cX5_has 14 = .ok (.ireturn, 1) := by decide +kernel
theorem dX5_of_0 : decode cX5_of 0 = .ok (.aload_n 0, 1) := by decide +kernel
theorem dX5_of_1 : decode cX5_of 1 = .ok (.getfield 7, 3) := by decide +kernel
theorem dX5_of_4 : decode cX5_of 4 = .ok (.bipush 29, 2) := by decide +kernel
theorem dX5_of_6 : decode cX5_of 6 = .ok (.bipush 8, 2) := by decide +kernel
theorem dX5_of_8 : decode cX5_of 8 = .ok (.iload_n 1, 1) := by decide +kernel
theorem dX5_of_9 : decode cX5_of 9 = .ok (.imul, 1) := by decide +kernel
theorem dX5_of_10 : decode cX5_of 10 = .ok (.iadd, 1) := by decide +kernel
theorem dX5_of_11 : decode cX5_of 11 = .ok (.iload_n 2, 1) := by decide +kernel
theorem dX5_of_12 : decode cX5_of 12 = .ok (.iadd, 1) := by decide +kernel
theorem dX5_of_13 : decode cX5_of 13 = .ok (.iaload, 1) := by decide +kernel
theorem dX5_of_14 : decode cX5_of 14 = .ok (.ireturn, 1) := by decide +kernel
theorem dX5_goal_0 : decode cX5_goal 0 = .ok (.aload_n 0, 1) := by decide +kernel
theorem dX5_goal_1 : decode cX5_goal 1 = .ok (.getfield 7, 3) := by decide +kernel
theorem dX5_goal_4 : decode cX5_goal 4 = .ok (.iconst 5, 1) := by decide +kernel
theorem dX5_goal_5 : decode cX5_goal 5 = .ok (.iconst 2, 1) := by decide +kernel
theorem dX5_goal_6 : decode cX5_goal 6 = .ok (.iload_n 1, 1) := by decide +kernel
theorem dX5_goal_7 : decode cX5_goal 7 = .ok (.imul, 1) := by decide +kernel
theorem dX5_goal_8 : decode cX5_goal 8 = .ok (.iadd, 1) := by decide +kernel
theorem dX5_goal_9 : decode cX5_goal 9 = .ok (.iaload, 1) := by decide +kernel
theorem dX5_goal_10 : decode cX5_goal 10 = .ok (.ireturn, 1) := by decide +kernel
theorem dX5_isClosed_0 : decode cX5_isClosed 0 = .ok (.aload_n 0, 1) := by decide +kernel
theorem dX5_isClosed_1 : decode cX5_isClosed 1 = .ok (.getfield 7, 3) := by decide +kernel
theorem dX5_isClosed_4 : decode cX5_isClosed 4 = .ok (.iconst 5, 1) := by decide +kernel
theorem dX5_isClosed_5 : decode cX5_isClosed 5 = .ok (.iconst 2, 1) := by decide +kernel
theorem dX5_isClosed_6 : decode cX5_isClosed 6 = .ok (.iload_n 1, 1) := by decide +kernel
theorem dX5_isClosed_7 : decode cX5_isClosed 7 = .ok (.imul, 1) := by decide +kernel
theorem dX5_isClosed_8 : decode cX5_isClosed 8 = .ok (.iadd, 1) := by decide +kernel
theorem dX5_isClosed_9 : decode cX5_isClosed 9 = .ok (.iconst 1, 1) := by decide +kernel
theorem dX5_isClosed_10 : decode cX5_isClosed 10 = .ok (.iadd, 1) := by decide +kernel
theorem dX5_isClosed_11 : decode cX5_isClosed 11 = .ok (.iaload, 1) := by decide +kernel
theorem dX5_isClosed_12 : decode cX5_isClosed 12 = .ok (.iconst 1, 1) := by decide +kernel
theorem dX5_isClosed_13 : decode cX5_isClosed 13 = .ok (.if_icmp .ne 7, 3) := by decide +kernel
theorem dX5_isClosed_16 : decode cX5_isClosed 16 = .ok (.iconst 1, 1) := by decide +kernel
theorem dX5_isClosed_17 : decode cX5_isClosed 17 = .ok (.goto 4, 3) := by decide +kernel
theorem dX5_isClosed_20 : decode cX5_isClosed 20 = .ok (.iconst 0, 1) := by decide +kernel
theorem dX5_isClosed_21 : decode cX5_isClosed 21 = .ok (.ireturn, 1) := by decide +kernel
theorem dX5_isProject_0 : decode cX5_isProject 0 = .ok (.iload_n 1, 1) := by decide +kernel
theorem dX5_isProject_1 : decode cX5_isProject 1 = .ok (.iconst 0, 1) := by decide +kernel
theorem dX5_isProject_2 : decode cX5_isProject 2 = .ok (.aload_n 0, 1) := by decide +kernel
theorem dX5_isProject_3 : decode cX5_isProject 3 = .ok (.getfield 7, 3) := by decide +kernel
theorem dX5_isProject_6 : decode cX5_isProject 6 = .ok (.iconst 0, 1) := by decide +kernel
theorem dX5_isProject_7 : decode cX5_isProject 7 = .ok (.iaload, 1) := by decide +kernel
theorem dX5_isProject_8 : decode cX5_isProject 8 = .ok (.iconst 1, 1) := by decide +kernel
theorem dX5_isProject_9 : decode cX5_isProject 9 = .ok (.isub, 1) := by decide +kernel
theorem dX5_isProject_10 : decode cX5_isProject 10 = .ok (.invokestatic 32, 3) := by decide +kernel
theorem dX5_isProject_13 : decode cX5_isProject 13 = .ok (.ireturn, 1) := by decide +kernel
theorem dX5_isPerson_0 : decode cX5_isPerson 0 = .ok (.iload_n 1, 1) := by decide +kernel
theorem dX5_isPerson_1 : decode cX5_isPerson 1 = .ok (.iconst 0, 1) := by decide +kernel
theorem dX5_isPerson_2 : decode cX5_isPerson 2 = .ok (.aload_n 0, 1) := by decide +kernel
theorem dX5_isPerson_3 : decode cX5_isPerson 3 = .ok (.getfield 7, 3) := by decide +kernel
theorem dX5_isPerson_6 : decode cX5_isPerson 6 = .ok (.iconst 1, 1) := by decide +kernel
theorem dX5_isPerson_7 : decode cX5_isPerson 7 = .ok (.iaload, 1) := by decide +kernel
theorem dX5_isPerson_8 : decode cX5_isPerson 8 = .ok (.iconst 1, 1) := by decide +kernel
theorem dX5_isPerson_9 : decode cX5_isPerson 9 = .ok (.isub, 1) := by decide +kernel
theorem dX5_isPerson_10 : decode cX5_isPerson 10 = .ok (.invokestatic 32, 3) := by decide +kernel
theorem dX5_isPerson_13 : decode cX5_isPerson 13 = .ok (.ireturn, 1) := by decide +kernel
theorem dX5_isPledge_0 : decode cX5_isPledge 0 = .ok (.iload_n 1, 1) := by decide +kernel
theorem dX5_isPledge_1 : decode cX5_isPledge 1 = .ok (.iconst 0, 1) := by decide +kernel
theorem dX5_isPledge_2 : decode cX5_isPledge 2 = .ok (.bipush 11, 2) := by decide +kernel
theorem dX5_isPledge_4 : decode cX5_isPledge 4 = .ok (.invokestatic 32, 3) := by decide +kernel
theorem dX5_isPledge_7 : decode cX5_isPledge 7 = .ok (.ifCond .eq 17, 3) := by decide +kernel
theorem dX5_isPledge_10 : decode cX5_isPledge 10 = .ok (.aload_n 0, 1) := by decide +kernel
theorem dX5_isPledge_11 : decode cX5_isPledge 11 = .ok (.iload_n 1, 1) := by decide +kernel
theorem dX5_isPledge_12 : decode cX5_isPledge 12 = .ok (.iconst 0, 1) := by decide +kernel
theorem dX5_isPledge_13 : decode cX5_isPledge 13 = .ok (.invokevirtual 36, 3) := by decide +kernel
theorem dX5_isPledge_16 : decode cX5_isPledge 16 = .ok (.iconst 1, 1) := by decide +kernel
theorem dX5_isPledge_17 : decode cX5_isPledge 17 = .ok (.if_icmp .ne 7, 3) := by decide +kernel
theorem dX5_isPledge_20 : decode cX5_isPledge 20 = .ok (.iconst 1, 1) := by decide +kernel
theorem dX5_isPledge_21 : decode cX5_isPledge 21 = .ok (.goto 4, 3) := by decide +kernel
theorem dX5_isPledge_24 : decode cX5_isPledge 24 = .ok (.iconst 0, 1) := by decide +kernel
theorem dX5_isPledge_25 : decode cX5_isPledge 25 = .ok (.ireturn, 1) := by decide +kernel
theorem dX5_begins_0 : decode cX5_begins 0 = .ok (.iconst 0, 1) := by decide +kernel
theorem dX5_begins_1 : decode cX5_begins 1 = .ok (.istore_n 1, 1) := by decide +kernel
theorem dX5_begins_2 : decode cX5_begins 2 = .ok (.iload_n 1, 1) := by decide +kernel
theorem dX5_begins_3 : decode cX5_begins 3 = .ok (.bipush 125, 2) := by decide +kernel
theorem dX5_begins_5 : decode cX5_begins 5 = .ok (.if_icmp .ge 21, 3) := by decide +kernel
theorem dX5_begins_8 : decode cX5_begins 8 = .ok (.aload_n 0, 1) := by decide +kernel
theorem dX5_begins_9 : decode cX5_begins 9 = .ok (.getfield 13, 3) := by decide +kernel
theorem dX5_begins_12 : decode cX5_begins 12 = .ok (.iload_n 1, 1) := by decide +kernel
theorem dX5_begins_13 : decode cX5_begins 13 = .ok (.aload_n 0, 1) := by decide +kernel
theorem dX5_begins_14 : decode cX5_begins 14 = .ok (.getfield 7, 3) := by decide +kernel
theorem dX5_begins_17 : decode cX5_begins 17 = .ok (.iload_n 1, 1) := by decide +kernel
theorem dX5_begins_18 : decode cX5_begins 18 = .ok (.iaload, 1) := by decide +kernel
theorem dX5_begins_19 : decode cX5_begins 19 = .ok (.iastore, 1) := by decide +kernel
theorem dX5_begins_20 : decode cX5_begins 20 = .ok (.iinc 1 1, 3) := by decide +kernel
theorem dX5_begins_23 : decode cX5_begins 23 = .ok (.goto (-21), 3) := by decide +kernel
theorem dX5_begins_26 : decode cX5_begins 26 = .ok (.return_, 1) := by decide +kernel
theorem dX5_returns_0 : decode cX5_returns 0 = .ok (.iconst 0, 1) := by decide +kernel
theorem dX5_returns_1 : decode cX5_returns 1 = .ok (.istore_n 1, 1) := by decide +kernel
theorem dX5_returns_2 : decode cX5_returns 2 = .ok (.iload_n 1, 1) := by decide +kernel
theorem dX5_returns_3 : decode cX5_returns 3 = .ok (.bipush 125, 2) := by decide +kernel
theorem dX5_returns_5 : decode cX5_returns 5 = .ok (.if_icmp .ge 21, 3) := by decide +kernel
theorem dX5_returns_8 : decode cX5_returns 8 = .ok (.aload_n 0, 1) := by decide +kernel
theorem dX5_returns_9 : decode cX5_returns 9 = .ok (.getfield 7, 3) := by decide +kernel
theorem dX5_returns_12 : decode cX5_returns 12 = .ok (.iload_n 1, 1) := by decide +kernel
theorem dX5_returns_13 : decode cX5_returns 13 = .ok (.aload_n 0, 1) := by decide +kernel
theorem dX5_returns_14 : decode cX5_returns 14 = .ok (.getfield 13, 3) := by decide +kernel
theorem dX5_returns_17 : decode cX5_returns 17 = .ok (.iload_n 1, 1) := by decide +kernel
theorem dX5_returns_18 : decode cX5_returns 18 = .ok (.iaload, 1) := by decide +kernel
theorem dX5_returns_19 : decode cX5_returns 19 = .ok (.iastore, 1) := by decide +kernel
theorem dX5_returns_20 : decode cX5_returns 20 = .ok (.iinc 1 1, 3) := by decide +kernel
theorem dX5_returns_23 : decode cX5_returns 23 = .ok (.goto (-21), 3) := by decide +kernel
theorem dX5_returns_26 : decode cX5_returns 26 = .ok (.return_, 1) := by decide +kernel
theorem dX5_acted_0 : decode cX5_acted 0 = .ok (.iload_n 1, 1) := by decide +kernel
theorem dX5_acted_1 : decode cX5_acted 1 = .ok (.ifCond .ge 5, 3) := by decide +kernel
theorem dX5_acted_4 : decode cX5_acted 4 = .ok (.iload_n 1, 1) := by decide +kernel
theorem dX5_acted_5 : decode cX5_acted 5 = .ok (.ireturn, 1) := by decide +kernel
theorem dX5_acted_6 : decode cX5_acted 6 = .ok (.aload_n 0, 1) := by decide +kernel
theorem dX5_acted_7 : decode cX5_acted 7 = .ok (.getfield 40, 3) := by decide +kernel
theorem dX5_acted_10 : decode cX5_acted 10 = .ok (.iconst 4, 1) := by decide +kernel
theorem dX5_acted_11 : decode cX5_acted 11 = .ok (.if_icmp .ne 43, 3) := by decide +kernel
theorem dX5_acted_14 : decode cX5_acted 14 = .ok (.iconst 0, 1) := by decide +kernel
theorem dX5_acted_15 : decode cX5_acted 15 = .ok (.istore_n 2, 1) := by decide +kernel
theorem dX5_acted_16 : decode cX5_acted 16 = .ok (.iload_n 2, 1) := by decide +kernel
theorem dX5_acted_17 : decode cX5_acted 17 = .ok (.sipush 375, 3) := by decide +kernel
theorem dX5_acted_20 : decode cX5_acted 20 = .ok (.if_icmp .ge 24, 3) := by decide +kernel
theorem dX5_acted_23 : decode cX5_acted 23 = .ok (.aload_n 0, 1) := by decide +kernel
theorem dX5_acted_24 : decode cX5_acted 24 = .ok (.getfield 16, 3) := by decide +kernel
theorem dX5_acted_27 : decode cX5_acted 27 = .ok (.iload_n 2, 1) := by decide +kernel
theorem dX5_acted_28 : decode cX5_acted 28 = .ok (.aload_n 0, 1) := by decide +kernel
theorem dX5_acted_29 : decode cX5_acted 29 = .ok (.getfield 16, 3) := by decide +kernel
theorem dX5_acted_32 : decode cX5_acted 32 = .ok (.iload_n 2, 1) := by decide +kernel
theorem dX5_acted_33 : decode cX5_acted 33 = .ok (.bipush 125, 2) := by decide +kernel
theorem dX5_acted_35 : decode cX5_acted 35 = .ok (.iadd, 1) := by decide +kernel
theorem dX5_acted_36 : decode cX5_acted 36 = .ok (.iaload, 1) := by decide +kernel
theorem dX5_acted_37 : decode cX5_acted 37 = .ok (.iastore, 1) := by decide +kernel
theorem dX5_acted_38 : decode cX5_acted 38 = .ok (.iinc 2 1, 3) := by decide +kernel
theorem dX5_acted_41 : decode cX5_acted 41 = .ok (.goto (-25), 3) := by decide +kernel
theorem dX5_acted_44 : decode cX5_acted 44 = .ok (.aload_n 0, 1) := by decide +kernel
theorem dX5_acted_45 : decode cX5_acted 45 = .ok (.dup, 1) := by decide +kernel
theorem dX5_acted_46 : decode cX5_acted 46 = .ok (.getfield 40, 3) := by decide +kernel
theorem dX5_acted_49 : decode cX5_acted 49 = .ok (.iconst 1, 1) := by decide +kernel
theorem dX5_acted_50 : decode cX5_acted 50 = .ok (.isub, 1) := by decide +kernel
theorem dX5_acted_51 : decode cX5_acted 51 = .ok (.putfield 40, 3) := by decide +kernel
theorem dX5_acted_54 : decode cX5_acted 54 = .ok (.iconst 0, 1) := by decide +kernel
theorem dX5_acted_55 : decode cX5_acted 55 = .ok (.istore_n 2, 1) := by decide +kernel
theorem dX5_acted_56 : decode cX5_acted 56 = .ok (.iload_n 2, 1) := by decide +kernel
theorem dX5_acted_57 : decode cX5_acted 57 = .ok (.bipush 125, 2) := by decide +kernel
theorem dX5_acted_59 : decode cX5_acted 59 = .ok (.if_icmp .ge 29, 3) := by decide +kernel
theorem dX5_acted_62 : decode cX5_acted 62 = .ok (.aload_n 0, 1) := by decide +kernel
theorem dX5_acted_63 : decode cX5_acted 63 = .ok (.getfield 16, 3) := by decide +kernel
theorem dX5_acted_66 : decode cX5_acted 66 = .ok (.bipush 125, 2) := by decide +kernel
theorem dX5_acted_68 : decode cX5_acted 68 = .ok (.aload_n 0, 1) := by decide +kernel
theorem dX5_acted_69 : decode cX5_acted 69 = .ok (.getfield 40, 3) := by decide +kernel
theorem dX5_acted_72 : decode cX5_acted 72 = .ok (.imul, 1) := by decide +kernel
theorem dX5_acted_73 : decode cX5_acted 73 = .ok (.iload_n 2, 1) := by decide +kernel
theorem dX5_acted_74 : decode cX5_acted 74 = .ok (.iadd, 1) := by decide +kernel
theorem dX5_acted_75 : decode cX5_acted 75 = .ok (.aload_n 0, 1) := by decide +kernel
theorem dX5_acted_76 : decode cX5_acted 76 = .ok (.getfield 13, 3) := by decide +kernel
theorem dX5_acted_79 : decode cX5_acted 79 = .ok (.iload_n 2, 1) := by decide +kernel
theorem dX5_acted_80 : decode cX5_acted 80 = .ok (.iaload, 1) := by decide +kernel
theorem dX5_acted_81 : decode cX5_acted 81 = .ok (.iastore, 1) := by decide +kernel
theorem dX5_acted_82 : decode cX5_acted 82 = .ok (.iinc 2 1, 3) := by decide +kernel
theorem dX5_acted_85 : decode cX5_acted 85 = .ok (.goto (-29), 3) := by decide +kernel
theorem dX5_acted_88 : decode cX5_acted 88 = .ok (.aload_n 0, 1) := by decide +kernel
theorem dX5_acted_89 : decode cX5_acted 89 = .ok (.dup, 1) := by decide +kernel
theorem dX5_acted_90 : decode cX5_acted 90 = .ok (.getfield 40, 3) := by decide +kernel
theorem dX5_acted_93 : decode cX5_acted 93 = .ok (.iconst 1, 1) := by decide +kernel
theorem dX5_acted_94 : decode cX5_acted 94 = .ok (.iadd, 1) := by decide +kernel
theorem dX5_acted_95 : decode cX5_acted 95 = .ok (.putfield 40, 3) := by decide +kernel
theorem dX5_acted_98 : decode cX5_acted 98 = .ok (.iload_n 1, 1) := by decide +kernel
theorem dX5_acted_99 : decode cX5_acted 99 = .ok (.ireturn, 1) := by decide +kernel
theorem dX5_pledges_0 : decode cX5_pledges 0 = .ok (.iconst 0, 1) := by decide +kernel
theorem dX5_pledges_1 : decode cX5_pledges 1 = .ok (.istore_n 3, 1) := by decide +kernel
theorem dX5_pledges_2 : decode cX5_pledges 2 = .ok (.iconst 0, 1) := by decide +kernel
theorem dX5_pledges_3 : decode cX5_pledges 3 = .ok (.istore 4, 2) := by decide +kernel
theorem dX5_pledges_5 : decode cX5_pledges 5 = .ok (.iload 4, 2) := by decide +kernel
theorem dX5_pledges_7 : decode cX5_pledges 7 = .ok (.bipush 12, 2) := by decide +kernel
theorem dX5_pledges_9 : decode cX5_pledges 9 = .ok (.if_icmp .ge 66, 3) := by decide +kernel
theorem dX5_pledges_12 : decode cX5_pledges 12 = .ok (.aload_n 0, 1) := by decide +kernel
theorem dX5_pledges_13 : decode cX5_pledges 13 = .ok (.iload 4, 2) := by decide +kernel
theorem dX5_pledges_15 : decode cX5_pledges 15 = .ok (.iconst 0, 1) := by decide +kernel
theorem dX5_pledges_16 : decode cX5_pledges 16 = .ok (.invokevirtual 36, 3) := by decide +kernel
theorem dX5_pledges_19 : decode cX5_pledges 19 = .ok (.iconst 1, 1) := by decide +kernel
theorem dX5_pledges_20 : decode cX5_pledges 20 = .ok (.if_icmp .ne 30, 3) := by decide +kernel
theorem dX5_pledges_23 : decode cX5_pledges 23 = .ok (.aload_n 0, 1) := by decide +kernel
theorem dX5_pledges_24 : decode cX5_pledges 24 = .ok (.iload 4, 2) := by decide +kernel
theorem dX5_pledges_26 : decode cX5_pledges 26 = .ok (.bipush 6, 2) := by decide +kernel
theorem dX5_pledges_28 : decode cX5_pledges 28 = .ok (.invokevirtual 36, 3) := by decide +kernel
theorem dX5_pledges_31 : decode cX5_pledges 31 = .ok (.iconst 1, 1) := by decide +kernel
theorem dX5_pledges_32 : decode cX5_pledges 32 = .ok (.if_icmp .ne 10, 3) := by decide +kernel
theorem dX5_pledges_35 : decode cX5_pledges 35 = .ok (.iload_n 2, 1) := by decide +kernel
theorem dX5_pledges_36 : decode cX5_pledges 36 = .ok (.ifCond .eq 14, 3) := by decide +kernel
theorem dX5_pledges_39 : decode cX5_pledges 39 = .ok (.goto 7, 3) := by decide +kernel
theorem dX5_pledges_42 : decode cX5_pledges 42 = .ok (.iload_n 1, 1) := by decide +kernel
theorem dX5_pledges_43 : decode cX5_pledges 43 = .ok (.ifCond .eq 7, 3) := by decide +kernel
theorem dX5_pledges_46 : decode cX5_pledges 46 = .ok (.iconst 1, 1) := by decide +kernel
theorem dX5_pledges_47 : decode cX5_pledges 47 = .ok (.goto 4, 3) := by decide +kernel
theorem dX5_pledges_50 : decode cX5_pledges 50 = .ok (.iconst 0, 1) := by decide +kernel
theorem dX5_pledges_51 : decode cX5_pledges 51 = .ok (.istore 5, 2) := by decide +kernel
theorem dX5_pledges_53 : decode cX5_pledges 53 = .ok (.iload_n 3, 1) := by decide +kernel
theorem dX5_pledges_54 : decode cX5_pledges 54 = .ok (.iload 5, 2) := by decide +kernel
theorem dX5_pledges_56 : decode cX5_pledges 56 = .ok (.ifCond .eq 10, 3) := by decide +kernel
theorem dX5_pledges_59 : decode cX5_pledges 59 = .ok (.iconst 1, 1) := by decide +kernel
theorem dX5_pledges_60 : decode cX5_pledges 60 = .ok (.iload 4, 2) := by decide +kernel
theorem dX5_pledges_62 : decode cX5_pledges 62 = .ok (.ishl, 1) := by decide +kernel
theorem dX5_pledges_63 : decode cX5_pledges 63 = .ok (.goto 4, 3) := by decide +kernel
theorem dX5_pledges_66 : decode cX5_pledges 66 = .ok (.iconst 0, 1) := by decide +kernel
theorem dX5_pledges_67 : decode cX5_pledges 67 = .ok (.ior, 1) := by decide +kernel
theorem dX5_pledges_68 : decode cX5_pledges 68 = .ok (.istore_n 3, 1) := by decide +kernel
theorem dX5_pledges_69 : decode cX5_pledges 69 = .ok (.iinc 4 1, 3) := by decide +kernel
theorem dX5_pledges_72 : decode cX5_pledges 72 = .ok (.goto (-67), 3) := by decide +kernel
theorem dX5_pledges_75 : decode cX5_pledges 75 = .ok (.iload_n 3, 1) := by decide +kernel
theorem dX5_pledges_76 : decode cX5_pledges 76 = .ok (.ireturn, 1) := by decide +kernel
theorem dX5_moneyFor_0 : decode cX5_moneyFor 0 = .ok (.aload_n 0, 1) := by decide +kernel
theorem dX5_moneyFor_1 : decode cX5_moneyFor 1 = .ok (.getfield 22, 3) := by decide +kernel
theorem dX5_moneyFor_4 : decode cX5_moneyFor 4 = .ok (.iload_n 2, 1) := by decide +kernel
theorem dX5_moneyFor_5 : decode cX5_moneyFor 5 = .ok (.if_icmp .ne 10, 3) := by decide +kernel
theorem dX5_moneyFor_8 : decode cX5_moneyFor 8 = .ok (.aload_n 0, 1) := by decide +kernel
theorem dX5_moneyFor_9 : decode cX5_moneyFor 9 = .ok (.getfield 43, 3) := by decide +kernel
theorem dX5_moneyFor_12 : decode cX5_moneyFor 12 = .ok (.goto 4, 3) := by decide +kernel
theorem dX5_moneyFor_15 : decode cX5_moneyFor 15 = .ok (.iconst 0, 1) := by decide +kernel
theorem dX5_moneyFor_16 : decode cX5_moneyFor 16 = .ok (.istore_n 3, 1) := by decide +kernel
theorem dX5_moneyFor_17 : decode cX5_moneyFor 17 = .ok (.iconst 0, 1) := by decide +kernel
theorem dX5_moneyFor_18 : decode cX5_moneyFor 18 = .ok (.istore 4, 2) := by decide +kernel
theorem dX5_moneyFor_20 : decode cX5_moneyFor 20 = .ok (.iload 4, 2) := by decide +kernel
theorem dX5_moneyFor_22 : decode cX5_moneyFor 22 = .ok (.bipush 12, 2) := by decide +kernel
theorem dX5_moneyFor_24 : decode cX5_moneyFor 24 = .ok (.if_icmp .ge 43, 3) := by decide +kernel
theorem dX5_moneyFor_27 : decode cX5_moneyFor 27 = .ok (.iload_n 3, 1) := by decide +kernel
theorem dX5_moneyFor_28 : decode cX5_moneyFor 28 = .ok (.iload_n 1, 1) := by decide +kernel
theorem dX5_moneyFor_29 : decode cX5_moneyFor 29 = .ok (.iload 4, 2) := by decide +kernel
theorem dX5_moneyFor_31 : decode cX5_moneyFor 31 = .ok (.invokestatic 46, 3) := by decide +kernel
theorem dX5_moneyFor_34 : decode cX5_moneyFor 34 = .ok (.ifCond .eq 24, 3) := by decide +kernel
theorem dX5_moneyFor_37 : decode cX5_moneyFor 37 = .ok (.aload_n 0, 1) := by decide +kernel
theorem dX5_moneyFor_38 : decode cX5_moneyFor 38 = .ok (.iload 4, 2) := by decide +kernel
theorem dX5_moneyFor_40 : decode cX5_moneyFor 40 = .ok (.iconst 2, 1) := by decide +kernel
theorem dX5_moneyFor_41 : decode cX5_moneyFor 41 = .ok (.invokevirtual 36, 3) := by decide +kernel
theorem dX5_moneyFor_44 : decode cX5_moneyFor 44 = .ok (.iload_n 2, 1) := by decide +kernel
theorem dX5_moneyFor_45 : decode cX5_moneyFor 45 = .ok (.if_icmp .ne 13, 3) := by decide +kernel
theorem dX5_moneyFor_48 : decode cX5_moneyFor 48 = .ok (.aload_n 0, 1) := by decide +kernel
theorem dX5_moneyFor_49 : decode cX5_moneyFor 49 = .ok (.iload 4, 2) := by decide +kernel
theorem dX5_moneyFor_51 : decode cX5_moneyFor 51 = .ok (.iconst 3, 1) := by decide +kernel
theorem dX5_moneyFor_52 : decode cX5_moneyFor 52 = .ok (.invokevirtual 36, 3) := by decide +kernel
theorem dX5_moneyFor_55 : decode cX5_moneyFor 55 = .ok (.goto 4, 3) := by decide +kernel
theorem dX5_moneyFor_58 : decode cX5_moneyFor 58 = .ok (.iconst 0, 1) := by decide +kernel
theorem dX5_moneyFor_59 : decode cX5_moneyFor 59 = .ok (.iadd, 1) := by decide +kernel
theorem dX5_moneyFor_60 : decode cX5_moneyFor 60 = .ok (.istore_n 3, 1) := by decide +kernel
theorem dX5_moneyFor_61 : decode cX5_moneyFor 61 = .ok (.iinc 4 1, 3) := by decide +kernel
theorem dX5_moneyFor_64 : decode cX5_moneyFor 64 = .ok (.goto (-44), 3) := by decide +kernel
theorem dX5_moneyFor_67 : decode cX5_moneyFor 67 = .ok (.iload_n 3, 1) := by decide +kernel
theorem dX5_moneyFor_68 : decode cX5_moneyFor 68 = .ok (.ireturn, 1) := by decide +kernel
theorem dX5_manyFor_0 : decode cX5_manyFor 0 = .ok (.aload_n 0, 1) := by decide +kernel
theorem dX5_manyFor_1 : decode cX5_manyFor 1 = .ok (.getfield 22, 3) := by decide +kernel
theorem dX5_manyFor_4 : decode cX5_manyFor 4 = .ok (.iload_n 2, 1) := by decide +kernel
theorem dX5_manyFor_5 : decode cX5_manyFor 5 = .ok (.if_icmp .ne 7, 3) := by decide +kernel
theorem dX5_manyFor_8 : decode cX5_manyFor 8 = .ok (.iconst 1, 1) := by decide +kernel
theorem dX5_manyFor_9 : decode cX5_manyFor 9 = .ok (.goto 4, 3) := by decide +kernel
theorem dX5_manyFor_12 : decode cX5_manyFor 12 = .ok (.iconst 0, 1) := by decide +kernel
theorem dX5_manyFor_13 : decode cX5_manyFor 13 = .ok (.istore_n 3, 1) := by decide +kernel
theorem dX5_manyFor_14 : decode cX5_manyFor 14 = .ok (.iconst 0, 1) := by decide +kernel
theorem dX5_manyFor_15 : decode cX5_manyFor 15 = .ok (.istore 4, 2) := by decide +kernel
theorem dX5_manyFor_17 : decode cX5_manyFor 17 = .ok (.iload 4, 2) := by decide +kernel
theorem dX5_manyFor_19 : decode cX5_manyFor 19 = .ok (.bipush 12, 2) := by decide +kernel
theorem dX5_manyFor_21 : decode cX5_manyFor 21 = .ok (.if_icmp .ge 37, 3) := by decide +kernel
theorem dX5_manyFor_24 : decode cX5_manyFor 24 = .ok (.iload_n 3, 1) := by decide +kernel
theorem dX5_manyFor_25 : decode cX5_manyFor 25 = .ok (.iload_n 1, 1) := by decide +kernel
theorem dX5_manyFor_26 : decode cX5_manyFor 26 = .ok (.iload 4, 2) := by decide +kernel
theorem dX5_manyFor_28 : decode cX5_manyFor 28 = .ok (.invokestatic 46, 3) := by decide +kernel
theorem dX5_manyFor_31 : decode cX5_manyFor 31 = .ok (.ifCond .eq 18, 3) := by decide +kernel
theorem dX5_manyFor_34 : decode cX5_manyFor 34 = .ok (.aload_n 0, 1) := by decide +kernel
theorem dX5_manyFor_35 : decode cX5_manyFor 35 = .ok (.iload 4, 2) := by decide +kernel
theorem dX5_manyFor_37 : decode cX5_manyFor 37 = .ok (.iconst 2, 1) := by decide +kernel
theorem dX5_manyFor_38 : decode cX5_manyFor 38 = .ok (.invokevirtual 36, 3) := by decide +kernel
theorem dX5_manyFor_41 : decode cX5_manyFor 41 = .ok (.iload_n 2, 1) := by decide +kernel
theorem dX5_manyFor_42 : decode cX5_manyFor 42 = .ok (.if_icmp .ne 7, 3) := by decide +kernel
theorem dX5_manyFor_45 : decode cX5_manyFor 45 = .ok (.iconst 1, 1) := by decide +kernel
theorem dX5_manyFor_46 : decode cX5_manyFor 46 = .ok (.goto 4, 3) := by decide +kernel
theorem dX5_manyFor_49 : decode cX5_manyFor 49 = .ok (.iconst 0, 1) := by decide +kernel
theorem dX5_manyFor_50 : decode cX5_manyFor 50 = .ok (.iadd, 1) := by decide +kernel
theorem dX5_manyFor_51 : decode cX5_manyFor 51 = .ok (.istore_n 3, 1) := by decide +kernel
theorem dX5_manyFor_52 : decode cX5_manyFor 52 = .ok (.iinc 4 1, 3) := by decide +kernel
theorem dX5_manyFor_55 : decode cX5_manyFor 55 = .ok (.goto (-38), 3) := by decide +kernel
theorem dX5_manyFor_58 : decode cX5_manyFor 58 = .ok (.iload_n 3, 1) := by decide +kernel
theorem dX5_manyFor_59 : decode cX5_manyFor 59 = .ok (.ireturn, 1) := by decide +kernel
theorem dX5_isOf_0 : decode cX5_isOf 0 = .ok (.iconst 0, 1) := by decide +kernel
theorem dX5_isOf_1 : decode cX5_isOf 1 = .ok (.istore_n 3, 1) := by decide +kernel
theorem dX5_isOf_2 : decode cX5_isOf 2 = .ok (.iconst 0, 1) := by decide +kernel
theorem dX5_isOf_3 : decode cX5_isOf 3 = .ok (.istore 4, 2) := by decide +kernel
theorem dX5_isOf_5 : decode cX5_isOf 5 = .ok (.iload 4, 2) := by decide +kernel
theorem dX5_isOf_7 : decode cX5_isOf 7 = .ok (.bipush 12, 2) := by decide +kernel
theorem dX5_isOf_9 : decode cX5_isOf 9 = .ok (.if_icmp .ge 39, 3) := by decide +kernel
theorem dX5_isOf_12 : decode cX5_isOf 12 = .ok (.iload_n 3, 1) := by decide +kernel
theorem dX5_isOf_13 : decode cX5_isOf 13 = .ok (.ifCond .ne 23, 3) := by decide +kernel
theorem dX5_isOf_16 : decode cX5_isOf 16 = .ok (.iload_n 1, 1) := by decide +kernel
theorem dX5_isOf_17 : decode cX5_isOf 17 = .ok (.iload 4, 2) := by decide +kernel
theorem dX5_isOf_19 : decode cX5_isOf 19 = .ok (.invokestatic 46, 3) := by decide +kernel
theorem dX5_isOf_22 : decode cX5_isOf 22 = .ok (.ifCond .eq 18, 3) := by decide +kernel
theorem dX5_isOf_25 : decode cX5_isOf 25 = .ok (.aload_n 0, 1) := by decide +kernel
theorem dX5_isOf_26 : decode cX5_isOf 26 = .ok (.iload 4, 2) := by decide +kernel
theorem dX5_isOf_28 : decode cX5_isOf 28 = .ok (.iconst 1, 1) := by decide +kernel
theorem dX5_isOf_29 : decode cX5_isOf 29 = .ok (.invokevirtual 36, 3) := by decide +kernel
theorem dX5_isOf_32 : decode cX5_isOf 32 = .ok (.iload_n 2, 1) := by decide +kernel
theorem dX5_isOf_33 : decode cX5_isOf 33 = .ok (.if_icmp .ne 7, 3) := by decide +kernel
theorem dX5_isOf_36 : decode cX5_isOf 36 = .ok (.iconst 1, 1) := by decide +kernel
theorem dX5_isOf_37 : decode cX5_isOf 37 = .ok (.goto 4, 3) := by decide +kernel
theorem dX5_isOf_40 : decode cX5_isOf 40 = .ok (.iconst 0, 1) := by decide +kernel
theorem dX5_isOf_41 : decode cX5_isOf 41 = .ok (.istore_n 3, 1) := by decide +kernel
theorem dX5_isOf_42 : decode cX5_isOf 42 = .ok (.iinc 4 1, 3) := by decide +kernel
theorem dX5_isOf_45 : decode cX5_isOf 45 = .ok (.goto (-40), 3) := by decide +kernel
theorem dX5_isOf_48 : decode cX5_isOf 48 = .ok (.iload_n 3, 1) := by decide +kernel
theorem dX5_isOf_49 : decode cX5_isOf 49 = .ok (.ireturn, 1) := by decide +kernel
theorem dX5_holds_0 : decode cX5_holds 0 = .ok (.iload_n 2, 1) := by decide +kernel
theorem dX5_holds_1 : decode cX5_holds 1 = .ok (.iconst 1, 1) := by decide +kernel
theorem dX5_holds_2 : decode cX5_holds 2 = .ok (.iload_n 1, 1) := by decide +kernel
theorem dX5_holds_3 : decode cX5_holds 3 = .ok (.ishl, 1) := by decide +kernel
theorem dX5_holds_4 : decode cX5_holds 4 = .ok (.iconst (-1), 1) := by decide +kernel
theorem dX5_holds_5 : decode cX5_holds 5 = .ok (.ixor, 1) := by decide +kernel
theorem dX5_holds_6 : decode cX5_holds 6 = .ok (.iand, 1) := by decide +kernel
theorem dX5_holds_7 : decode cX5_holds 7 = .ok (.istore_n 3, 1) := by decide +kernel
theorem dX5_holds_8 : decode cX5_holds 8 = .ok (.aload_n 0, 1) := by decide +kernel
theorem dX5_holds_9 : decode cX5_holds 9 = .ok (.iload_n 1, 1) := by decide +kernel
theorem dX5_holds_10 : decode cX5_holds 10 = .ok (.iconst 5, 1) := by decide +kernel
theorem dX5_holds_11 : decode cX5_holds 11 = .ok (.invokevirtual 36, 3) := by decide +kernel
theorem dX5_holds_14 : decode cX5_holds 14 = .ok (.istore 4, 2) := by decide +kernel
theorem dX5_holds_16 : decode cX5_holds 16 = .ok (.aload_n 0, 1) := by decide +kernel
theorem dX5_holds_17 : decode cX5_holds 17 = .ok (.iload_n 1, 1) := by decide +kernel
theorem dX5_holds_18 : decode cX5_holds 18 = .ok (.iconst 4, 1) := by decide +kernel
theorem dX5_holds_19 : decode cX5_holds 19 = .ok (.invokevirtual 36, 3) := by decide +kernel
theorem dX5_holds_22 : decode cX5_holds 22 = .ok (.tableswitch 84 0 3 #[30, 32, 54, 76], 30) := by decide +kernel
theorem dX5_holds_52 : decode cX5_holds 52 = .ok (.iconst 1, 1) := by decide +kernel
theorem dX5_holds_53 : decode cX5_holds 53 = .ok (.ireturn, 1) := by decide +kernel
theorem dX5_holds_54 : decode cX5_holds 54 = .ok (.aload_n 0, 1) := by decide +kernel
theorem dX5_holds_55 : decode cX5_holds 55 = .ok (.iload_n 3, 1) := by decide +kernel
theorem dX5_holds_56 : decode cX5_holds 56 = .ok (.aload_n 0, 1) := by decide +kernel
theorem dX5_holds_57 : decode cX5_holds 57 = .ok (.iload_n 1, 1) := by decide +kernel
theorem dX5_holds_58 : decode cX5_holds 58 = .ok (.iconst 2, 1) := by decide +kernel
theorem dX5_holds_59 : decode cX5_holds 59 = .ok (.invokevirtual 36, 3) := by decide +kernel
theorem dX5_holds_62 : decode cX5_holds 62 = .ok (.invokevirtual 50, 3) := by decide +kernel
theorem dX5_holds_65 : decode cX5_holds 65 = .ok (.iload 4, 2) := by decide +kernel
theorem dX5_holds_67 : decode cX5_holds 67 = .ok (.if_icmp .lt 7, 3) := by decide +kernel
theorem dX5_holds_70 : decode cX5_holds 70 = .ok (.iconst 1, 1) := by decide +kernel
theorem dX5_holds_71 : decode cX5_holds 71 = .ok (.goto 4, 3) := by decide +kernel
theorem dX5_holds_74 : decode cX5_holds 74 = .ok (.iconst 0, 1) := by decide +kernel
theorem dX5_holds_75 : decode cX5_holds 75 = .ok (.ireturn, 1) := by decide +kernel
theorem dX5_holds_76 : decode cX5_holds 76 = .ok (.aload_n 0, 1) := by decide +kernel
theorem dX5_holds_77 : decode cX5_holds 77 = .ok (.iload_n 3, 1) := by decide +kernel
theorem dX5_holds_78 : decode cX5_holds 78 = .ok (.aload_n 0, 1) := by decide +kernel
theorem dX5_holds_79 : decode cX5_holds 79 = .ok (.iload_n 1, 1) := by decide +kernel
theorem dX5_holds_80 : decode cX5_holds 80 = .ok (.iconst 2, 1) := by decide +kernel
theorem dX5_holds_81 : decode cX5_holds 81 = .ok (.invokevirtual 36, 3) := by decide +kernel
theorem dX5_holds_84 : decode cX5_holds 84 = .ok (.invokevirtual 53, 3) := by decide +kernel
theorem dX5_holds_87 : decode cX5_holds 87 = .ok (.iload 4, 2) := by decide +kernel
theorem dX5_holds_89 : decode cX5_holds 89 = .ok (.if_icmp .lt 7, 3) := by decide +kernel
theorem dX5_holds_92 : decode cX5_holds 92 = .ok (.iconst 1, 1) := by decide +kernel
theorem dX5_holds_93 : decode cX5_holds 93 = .ok (.goto 4, 3) := by decide +kernel
theorem dX5_holds_96 : decode cX5_holds 96 = .ok (.iconst 0, 1) := by decide +kernel
theorem dX5_holds_97 : decode cX5_holds 97 = .ok (.ireturn, 1) := by decide +kernel
theorem dX5_holds_98 : decode cX5_holds 98 = .ok (.aload_n 0, 1) := by decide +kernel
theorem dX5_holds_99 : decode cX5_holds 99 = .ok (.iload_n 2, 1) := by decide +kernel
theorem dX5_holds_100 : decode cX5_holds 100 = .ok (.iload 4, 2) := by decide +kernel
theorem dX5_holds_102 : decode cX5_holds 102 = .ok (.invokevirtual 56, 3) := by decide +kernel
theorem dX5_holds_105 : decode cX5_holds 105 = .ok (.ireturn, 1) := by decide +kernel
theorem dX5_holds_106 : decode cX5_holds 106 = .ok (.aload_n 0, 1) := by decide +kernel
theorem dX5_holds_107 : decode cX5_holds 107 = .ok (.iload_n 2, 1) := by decide +kernel
theorem dX5_holds_108 : decode cX5_holds 108 = .ok (.iload 4, 2) := by decide +kernel
theorem dX5_holds_110 : decode cX5_holds 110 = .ok (.invokevirtual 50, 3) := by decide +kernel
theorem dX5_holds_113 : decode cX5_holds 113 = .ok (.aload_n 0, 1) := by decide +kernel
theorem dX5_holds_114 : decode cX5_holds 114 = .ok (.iload 4, 2) := by decide +kernel
theorem dX5_holds_116 : decode cX5_holds 116 = .ok (.invokevirtual 59, 3) := by decide +kernel
theorem dX5_holds_119 : decode cX5_holds 119 = .ok (.if_icmp .lt 7, 3) := by decide +kernel
theorem dX5_holds_122 : decode cX5_holds 122 = .ok (.iconst 1, 1) := by decide +kernel
theorem dX5_holds_123 : decode cX5_holds 123 = .ok (.goto 4, 3) := by decide +kernel
theorem dX5_holds_126 : decode cX5_holds 126 = .ok (.iconst 0, 1) := by decide +kernel
theorem dX5_holds_127 : decode cX5_holds 127 = .ok (.ireturn, 1) := by decide +kernel
theorem dX5_fallingOf_0 : decode cX5_fallingOf 0 = .ok (.iconst 0, 1) := by decide +kernel
theorem dX5_fallingOf_1 : decode cX5_fallingOf 1 = .ok (.istore_n 3, 1) := by decide +kernel
theorem dX5_fallingOf_2 : decode cX5_fallingOf 2 = .ok (.iconst 0, 1) := by decide +kernel
theorem dX5_fallingOf_3 : decode cX5_fallingOf 3 = .ok (.istore 4, 2) := by decide +kernel
theorem dX5_fallingOf_5 : decode cX5_fallingOf 5 = .ok (.iload 4, 2) := by decide +kernel
theorem dX5_fallingOf_7 : decode cX5_fallingOf 7 = .ok (.bipush 12, 2) := by decide +kernel
theorem dX5_fallingOf_9 : decode cX5_fallingOf 9 = .ok (.if_icmp .ge 41, 3) := by decide +kernel
theorem dX5_fallingOf_12 : decode cX5_fallingOf 12 = .ok (.iload_n 3, 1) := by decide +kernel
theorem dX5_fallingOf_13 : decode cX5_fallingOf 13 = .ok (.iload_n 1, 1) := by decide +kernel
theorem dX5_fallingOf_14 : decode cX5_fallingOf 14 = .ok (.iload 4, 2) := by decide +kernel
theorem dX5_fallingOf_16 : decode cX5_fallingOf 16 = .ok (.invokestatic 46, 3) := by decide +kernel
theorem dX5_fallingOf_19 : decode cX5_fallingOf 19 = .ok (.ifCond .eq 22, 3) := by decide +kernel
theorem dX5_fallingOf_22 : decode cX5_fallingOf 22 = .ok (.aload_n 0, 1) := by decide +kernel
theorem dX5_fallingOf_23 : decode cX5_fallingOf 23 = .ok (.iload 4, 2) := by decide +kernel
theorem dX5_fallingOf_25 : decode cX5_fallingOf 25 = .ok (.iload_n 1, 1) := by decide +kernel
theorem dX5_fallingOf_26 : decode cX5_fallingOf 26 = .ok (.iload_n 2, 1) := by decide +kernel
theorem dX5_fallingOf_27 : decode cX5_fallingOf 27 = .ok (.ior, 1) := by decide +kernel
theorem dX5_fallingOf_28 : decode cX5_fallingOf 28 = .ok (.invokevirtual 63, 3) := by decide +kernel
theorem dX5_fallingOf_31 : decode cX5_fallingOf 31 = .ok (.ifCond .ne 10, 3) := by decide +kernel
theorem dX5_fallingOf_34 : decode cX5_fallingOf 34 = .ok (.iconst 1, 1) := by decide +kernel
theorem dX5_fallingOf_35 : decode cX5_fallingOf 35 = .ok (.iload 4, 2) := by decide +kernel
theorem dX5_fallingOf_37 : decode cX5_fallingOf 37 = .ok (.ishl, 1) := by decide +kernel
theorem dX5_fallingOf_38 : decode cX5_fallingOf 38 = .ok (.goto 4, 3) := by decide +kernel
theorem dX5_fallingOf_41 : decode cX5_fallingOf 41 = .ok (.iconst 0, 1) := by decide +kernel
theorem dX5_fallingOf_42 : decode cX5_fallingOf 42 = .ok (.ior, 1) := by decide +kernel
theorem dX5_fallingOf_43 : decode cX5_fallingOf 43 = .ok (.istore_n 3, 1) := by decide +kernel
theorem dX5_fallingOf_44 : decode cX5_fallingOf 44 = .ok (.iinc 4 1, 3) := by decide +kernel
theorem dX5_fallingOf_47 : decode cX5_fallingOf 47 = .ok (.goto (-42), 3) := by decide +kernel
theorem dX5_fallingOf_50 : decode cX5_fallingOf 50 = .ok (.iload_n 3, 1) := by decide +kernel
theorem dX5_fallingOf_51 : decode cX5_fallingOf 51 = .ok (.ireturn, 1) := by decide +kernel
theorem dX5_greatest_0 : decode cX5_greatest 0 = .ok (.iload_n 1, 1) := by decide +kernel
theorem dX5_greatest_1 : decode cX5_greatest 1 = .ok (.istore_n 3, 1) := by decide +kernel
theorem dX5_greatest_2 : decode cX5_greatest 2 = .ok (.aload_n 0, 1) := by decide +kernel
theorem dX5_greatest_3 : decode cX5_greatest 3 = .ok (.iload_n 3, 1) := by decide +kernel
theorem dX5_greatest_4 : decode cX5_greatest 4 = .ok (.iload_n 2, 1) := by decide +kernel
theorem dX5_greatest_5 : decode cX5_greatest 5 = .ok (.invokevirtual 66, 3) := by decide +kernel
theorem dX5_greatest_8 : decode cX5_greatest 8 = .ok (.istore 4, 2) := by decide +kernel
theorem dX5_greatest_10 : decode cX5_greatest 10 = .ok (.aload_n 0, 1) := by decide +kernel
theorem dX5_greatest_11 : decode cX5_greatest 11 = .ok (.iconst 0, 1) := by decide +kernel
theorem dX5_greatest_12 : decode cX5_greatest 12 = .ok (.putfield 69, 3) := by decide +kernel
theorem dX5_greatest_15 : decode cX5_greatest 15 = .ok (.iload 4, 2) := by decide +kernel
theorem dX5_greatest_17 : decode cX5_greatest 17 = .ok (.ifCond .eq 78, 3) := by decide +kernel
theorem dX5_greatest_20 : decode cX5_greatest 20 = .ok (.aload_n 0, 1) := by decide +kernel
theorem dX5_greatest_21 : decode cX5_greatest 21 = .ok (.dup, 1) := by decide +kernel
theorem dX5_greatest_22 : decode cX5_greatest 22 = .ok (.getfield 69, 3) := by decide +kernel
theorem dX5_greatest_25 : decode cX5_greatest 25 = .ok (.iconst 1, 1) := by decide +kernel
theorem dX5_greatest_26 : decode cX5_greatest 26 = .ok (.iadd, 1) := by decide +kernel
theorem dX5_greatest_27 : decode cX5_greatest 27 = .ok (.putfield 69, 3) := by decide +kernel
theorem dX5_greatest_30 : decode cX5_greatest 30 = .ok (.iconst 0, 1) := by decide +kernel
theorem dX5_greatest_31 : decode cX5_greatest 31 = .ok (.istore 5, 2) := by decide +kernel
theorem dX5_greatest_33 : decode cX5_greatest 33 = .ok (.iload 5, 2) := by decide +kernel
theorem dX5_greatest_35 : decode cX5_greatest 35 = .ok (.bipush 12, 2) := by decide +kernel
theorem dX5_greatest_37 : decode cX5_greatest 37 = .ok (.if_icmp .ge 40, 3) := by decide +kernel
theorem dX5_greatest_40 : decode cX5_greatest 40 = .ok (.aload_n 0, 1) := by decide +kernel
theorem dX5_greatest_41 : decode cX5_greatest 41 = .ok (.getfield 26, 3) := by decide +kernel
theorem dX5_greatest_44 : decode cX5_greatest 44 = .ok (.iload 5, 2) := by decide +kernel
theorem dX5_greatest_46 : decode cX5_greatest 46 = .ok (.iload 4, 2) := by decide +kernel
theorem dX5_greatest_48 : decode cX5_greatest 48 = .ok (.iload 5, 2) := by decide +kernel
theorem dX5_greatest_50 : decode cX5_greatest 50 = .ok (.invokestatic 46, 3) := by decide +kernel
theorem dX5_greatest_53 : decode cX5_greatest 53 = .ok (.ifCond .eq 10, 3) := by decide +kernel
theorem dX5_greatest_56 : decode cX5_greatest 56 = .ok (.aload_n 0, 1) := by decide +kernel
theorem dX5_greatest_57 : decode cX5_greatest 57 = .ok (.getfield 69, 3) := by decide +kernel
theorem dX5_greatest_60 : decode cX5_greatest 60 = .ok (.goto 10, 3) := by decide +kernel
theorem dX5_greatest_63 : decode cX5_greatest 63 = .ok (.aload_n 0, 1) := by decide +kernel
theorem dX5_greatest_64 : decode cX5_greatest 64 = .ok (.getfield 26, 3) := by decide +kernel
theorem dX5_greatest_67 : decode cX5_greatest 67 = .ok (.iload 5, 2) := by decide +kernel
theorem dX5_greatest_69 : decode cX5_greatest 69 = .ok (.iaload, 1) := by decide +kernel
theorem dX5_greatest_70 : decode cX5_greatest 70 = .ok (.iastore, 1) := by decide +kernel
theorem dX5_greatest_71 : decode cX5_greatest 71 = .ok (.iinc 5 1, 3) := by decide +kernel
theorem dX5_greatest_74 : decode cX5_greatest 74 = .ok (.goto (-41), 3) := by decide +kernel
theorem dX5_greatest_77 : decode cX5_greatest 77 = .ok (.iload_n 3, 1) := by decide +kernel
theorem dX5_greatest_78 : decode cX5_greatest 78 = .ok (.iload 4, 2) := by decide +kernel
theorem dX5_greatest_80 : decode cX5_greatest 80 = .ok (.iconst (-1), 1) := by decide +kernel
theorem dX5_greatest_81 : decode cX5_greatest 81 = .ok (.ixor, 1) := by decide +kernel
theorem dX5_greatest_82 : decode cX5_greatest 82 = .ok (.iand, 1) := by decide +kernel
theorem dX5_greatest_83 : decode cX5_greatest 83 = .ok (.istore_n 3, 1) := by decide +kernel
theorem dX5_greatest_84 : decode cX5_greatest 84 = .ok (.aload_n 0, 1) := by decide +kernel
theorem dX5_greatest_85 : decode cX5_greatest 85 = .ok (.iload_n 3, 1) := by decide +kernel
theorem dX5_greatest_86 : decode cX5_greatest 86 = .ok (.iload_n 2, 1) := by decide +kernel
theorem dX5_greatest_87 : decode cX5_greatest 87 = .ok (.invokevirtual 66, 3) := by decide +kernel
theorem dX5_greatest_90 : decode cX5_greatest 90 = .ok (.istore 4, 2) := by decide +kernel
theorem dX5_greatest_92 : decode cX5_greatest 92 = .ok (.goto (-77), 3) := by decide +kernel
theorem dX5_greatest_95 : decode cX5_greatest 95 = .ok (.iload_n 3, 1) := by decide +kernel
theorem dX5_greatest_96 : decode cX5_greatest 96 = .ok (.ireturn, 1) := by decide +kernel
theorem dX5_called_0 : decode cX5_called 0 = .ok (.aload_n 0, 1) := by decide +kernel
theorem dX5_called_1 : decode cX5_called 1 = .ok (.iconst 0, 1) := by decide +kernel
theorem dX5_called_2 : decode cX5_called 2 = .ok (.iconst 1, 1) := by decide +kernel
theorem dX5_called_3 : decode cX5_called 3 = .ok (.invokevirtual 72, 3) := by decide +kernel
theorem dX5_called_6 : decode cX5_called 6 = .ok (.ireturn, 1) := by decide +kernel
theorem dX5_open_0 : decode cX5_open 0 = .ok (.aload_n 0, 1) := by decide +kernel
theorem dX5_open_1 : decode cX5_open 1 = .ok (.iconst 1, 1) := by decide +kernel
theorem dX5_open_2 : decode cX5_open 2 = .ok (.iconst 0, 1) := by decide +kernel
theorem dX5_open_3 : decode cX5_open 3 = .ok (.invokevirtual 72, 3) := by decide +kernel
theorem dX5_open_6 : decode cX5_open 6 = .ok (.ireturn, 1) := by decide +kernel
theorem dX5_stands_0 : decode cX5_stands 0 = .ok (.aload_n 0, 1) := by decide +kernel
theorem dX5_stands_1 : decode cX5_stands 1 = .ok (.invokevirtual 76, 3) := by decide +kernel
theorem dX5_stands_4 : decode cX5_stands 4 = .ok (.istore_n 2, 1) := by decide +kernel
theorem dX5_stands_5 : decode cX5_stands 5 = .ok (.aload_n 0, 1) := by decide +kernel
theorem dX5_stands_6 : decode cX5_stands 6 = .ok (.aload_n 0, 1) := by decide +kernel
theorem dX5_stands_7 : decode cX5_stands 7 = .ok (.invokevirtual 80, 3) := by decide +kernel
theorem dX5_stands_10 : decode cX5_stands 10 = .ok (.iload_n 1, 1) := by decide +kernel
theorem dX5_stands_11 : decode cX5_stands 11 = .ok (.iconst (-1), 1) := by decide +kernel
theorem dX5_stands_12 : decode cX5_stands 12 = .ok (.ixor, 1) := by decide +kernel
theorem dX5_stands_13 : decode cX5_stands 13 = .ok (.iand, 1) := by decide +kernel
theorem dX5_stands_14 : decode cX5_stands 14 = .ok (.iload_n 2, 1) := by decide +kernel
theorem dX5_stands_15 : decode cX5_stands 15 = .ok (.invokevirtual 83, 3) := by decide +kernel
theorem dX5_stands_18 : decode cX5_stands 18 = .ok (.iload_n 2, 1) := by decide +kernel
theorem dX5_stands_19 : decode cX5_stands 19 = .ok (.ior, 1) := by decide +kernel
theorem dX5_stands_20 : decode cX5_stands 20 = .ok (.ireturn, 1) := by decide +kernel
theorem dX5_hasGoal_0 : decode cX5_hasGoal 0 = .ok (.aload_n 0, 1) := by decide +kernel
theorem dX5_hasGoal_1 : decode cX5_hasGoal 1 = .ok (.iload_n 1, 1) := by decide +kernel
theorem dX5_hasGoal_2 : decode cX5_hasGoal 2 = .ok (.iload_n 2, 1) := by decide +kernel
theorem dX5_hasGoal_3 : decode cX5_hasGoal 3 = .ok (.invokevirtual 50, 3) := by decide +kernel
theorem dX5_hasGoal_6 : decode cX5_hasGoal 6 = .ok (.aload_n 0, 1) := by decide +kernel
theorem dX5_hasGoal_7 : decode cX5_hasGoal 7 = .ok (.iload_n 2, 1) := by decide +kernel
theorem dX5_hasGoal_8 : decode cX5_hasGoal 8 = .ok (.invokevirtual 59, 3) := by decide +kernel
theorem dX5_hasGoal_11 : decode cX5_hasGoal 11 = .ok (.if_icmp .lt 7, 3) := by decide +kernel
theorem dX5_hasGoal_14 : decode cX5_hasGoal 14 = .ok (.iconst 1, 1) := by decide +kernel
theorem dX5_hasGoal_15 : decode cX5_hasGoal 15 = .ok (.goto 4, 3) := by decide +kernel
theorem dX5_hasGoal_18 : decode cX5_hasGoal 18 = .ok (.iconst 0, 1) := by decide +kernel
theorem dX5_hasGoal_19 : decode cX5_hasGoal 19 = .ok (.ireturn, 1) := by decide +kernel
theorem dX5_amountOf_0 : decode cX5_amountOf 0 = .ok (.iconst 0, 1) := by decide +kernel
theorem dX5_amountOf_1 : decode cX5_amountOf 1 = .ok (.istore_n 2, 1) := by decide +kernel
theorem dX5_amountOf_2 : decode cX5_amountOf 2 = .ok (.iconst 0, 1) := by decide +kernel
theorem dX5_amountOf_3 : decode cX5_amountOf 3 = .ok (.istore_n 3, 1) := by decide +kernel
theorem dX5_amountOf_4 : decode cX5_amountOf 4 = .ok (.iload_n 3, 1) := by decide +kernel
theorem dX5_amountOf_5 : decode cX5_amountOf 5 = .ok (.bipush 12, 2) := by decide +kernel
theorem dX5_amountOf_7 : decode cX5_amountOf 7 = .ok (.if_icmp .ge 30, 3) := by decide +kernel
theorem dX5_amountOf_10 : decode cX5_amountOf 10 = .ok (.iload_n 2, 1) := by decide +kernel
theorem dX5_amountOf_11 : decode cX5_amountOf 11 = .ok (.iload_n 1, 1) := by decide +kernel
theorem dX5_amountOf_12 : decode cX5_amountOf 12 = .ok (.iload_n 3, 1) := by decide +kernel
theorem dX5_amountOf_13 : decode cX5_amountOf 13 = .ok (.invokestatic 46, 3) := by decide +kernel
theorem dX5_amountOf_16 : decode cX5_amountOf 16 = .ok (.ifCond .eq 12, 3) := by decide +kernel
theorem dX5_amountOf_19 : decode cX5_amountOf 19 = .ok (.aload_n 0, 1) := by decide +kernel
theorem dX5_amountOf_20 : decode cX5_amountOf 20 = .ok (.iload_n 3, 1) := by decide +kernel
theorem dX5_amountOf_21 : decode cX5_amountOf 21 = .ok (.iconst 3, 1) := by decide +kernel
theorem dX5_amountOf_22 : decode cX5_amountOf 22 = .ok (.invokevirtual 36, 3) := by decide +kernel
theorem dX5_amountOf_25 : decode cX5_amountOf 25 = .ok (.goto 4, 3) := by decide +kernel
theorem dX5_amountOf_28 : decode cX5_amountOf 28 = .ok (.iconst 0, 1) := by decide +kernel
theorem dX5_amountOf_29 : decode cX5_amountOf 29 = .ok (.iadd, 1) := by decide +kernel
theorem dX5_amountOf_30 : decode cX5_amountOf 30 = .ok (.istore_n 2, 1) := by decide +kernel
theorem dX5_amountOf_31 : decode cX5_amountOf 31 = .ok (.iinc 3 1, 3) := by decide +kernel
theorem dX5_amountOf_34 : decode cX5_amountOf 34 = .ok (.goto (-30), 3) := by decide +kernel
theorem dX5_amountOf_37 : decode cX5_amountOf 37 = .ok (.iload_n 2, 1) := by decide +kernel
theorem dX5_amountOf_38 : decode cX5_amountOf 38 = .ok (.ireturn, 1) := by decide +kernel
theorem dX5_ofPerson_0 : decode cX5_ofPerson 0 = .ok (.iconst 0, 1) := by decide +kernel
theorem dX5_ofPerson_1 : decode cX5_ofPerson 1 = .ok (.istore_n 2, 1) := by decide +kernel
theorem dX5_ofPerson_2 : decode cX5_ofPerson 2 = .ok (.iconst 0, 1) := by decide +kernel
theorem dX5_ofPerson_3 : decode cX5_ofPerson 3 = .ok (.istore_n 3, 1) := by decide +kernel
theorem dX5_ofPerson_4 : decode cX5_ofPerson 4 = .ok (.iload_n 3, 1) := by decide +kernel
theorem dX5_ofPerson_5 : decode cX5_ofPerson 5 = .ok (.bipush 12, 2) := by decide +kernel
theorem dX5_ofPerson_7 : decode cX5_ofPerson 7 = .ok (.if_icmp .ge 39, 3) := by decide +kernel
theorem dX5_ofPerson_10 : decode cX5_ofPerson 10 = .ok (.iload_n 2, 1) := by decide +kernel
theorem dX5_ofPerson_11 : decode cX5_ofPerson 11 = .ok (.aload_n 0, 1) := by decide +kernel
theorem dX5_ofPerson_12 : decode cX5_ofPerson 12 = .ok (.iload_n 3, 1) := by decide +kernel
theorem dX5_ofPerson_13 : decode cX5_ofPerson 13 = .ok (.iconst 0, 1) := by decide +kernel
theorem dX5_ofPerson_14 : decode cX5_ofPerson 14 = .ok (.invokevirtual 36, 3) := by decide +kernel
theorem dX5_ofPerson_17 : decode cX5_ofPerson 17 = .ok (.iconst 1, 1) := by decide +kernel
theorem dX5_ofPerson_18 : decode cX5_ofPerson 18 = .ok (.if_icmp .ne 19, 3) := by decide +kernel
theorem dX5_ofPerson_21 : decode cX5_ofPerson 21 = .ok (.aload_n 0, 1) := by decide +kernel
theorem dX5_ofPerson_22 : decode cX5_ofPerson 22 = .ok (.iload_n 3, 1) := by decide +kernel
theorem dX5_ofPerson_23 : decode cX5_ofPerson 23 = .ok (.iconst 1, 1) := by decide +kernel
theorem dX5_ofPerson_24 : decode cX5_ofPerson 24 = .ok (.invokevirtual 36, 3) := by decide +kernel
theorem dX5_ofPerson_27 : decode cX5_ofPerson 27 = .ok (.iload_n 1, 1) := by decide +kernel
theorem dX5_ofPerson_28 : decode cX5_ofPerson 28 = .ok (.if_icmp .ne 9, 3) := by decide +kernel
theorem dX5_ofPerson_31 : decode cX5_ofPerson 31 = .ok (.iconst 1, 1) := by decide +kernel
theorem dX5_ofPerson_32 : decode cX5_ofPerson 32 = .ok (.iload_n 3, 1) := by decide +kernel
theorem dX5_ofPerson_33 : decode cX5_ofPerson 33 = .ok (.ishl, 1) := by decide +kernel
theorem dX5_ofPerson_34 : decode cX5_ofPerson 34 = .ok (.goto 4, 3) := by decide +kernel
theorem dX5_ofPerson_37 : decode cX5_ofPerson 37 = .ok (.iconst 0, 1) := by decide +kernel
theorem dX5_ofPerson_38 : decode cX5_ofPerson 38 = .ok (.ior, 1) := by decide +kernel
theorem dX5_ofPerson_39 : decode cX5_ofPerson 39 = .ok (.istore_n 2, 1) := by decide +kernel
theorem dX5_ofPerson_40 : decode cX5_ofPerson 40 = .ok (.iinc 3 1, 3) := by decide +kernel
theorem dX5_ofPerson_43 : decode cX5_ofPerson 43 = .ok (.goto (-39), 3) := by decide +kernel
theorem dX5_ofPerson_46 : decode cX5_ofPerson 46 = .ok (.iload_n 2, 1) := by decide +kernel
theorem dX5_ofPerson_47 : decode cX5_ofPerson 47 = .ok (.ireturn, 1) := by decide +kernel
theorem dX5_ofProject_0 : decode cX5_ofProject 0 = .ok (.iconst 0, 1) := by decide +kernel
theorem dX5_ofProject_1 : decode cX5_ofProject 1 = .ok (.istore_n 2, 1) := by decide +kernel
theorem dX5_ofProject_2 : decode cX5_ofProject 2 = .ok (.iconst 0, 1) := by decide +kernel
theorem dX5_ofProject_3 : decode cX5_ofProject 3 = .ok (.istore_n 3, 1) := by decide +kernel
theorem dX5_ofProject_4 : decode cX5_ofProject 4 = .ok (.iload_n 3, 1) := by decide +kernel
theorem dX5_ofProject_5 : decode cX5_ofProject 5 = .ok (.bipush 12, 2) := by decide +kernel
theorem dX5_ofProject_7 : decode cX5_ofProject 7 = .ok (.if_icmp .ge 39, 3) := by decide +kernel
theorem dX5_ofProject_10 : decode cX5_ofProject 10 = .ok (.iload_n 2, 1) := by decide +kernel
theorem dX5_ofProject_11 : decode cX5_ofProject 11 = .ok (.aload_n 0, 1) := by decide +kernel
theorem dX5_ofProject_12 : decode cX5_ofProject 12 = .ok (.iload_n 3, 1) := by decide +kernel
theorem dX5_ofProject_13 : decode cX5_ofProject 13 = .ok (.iconst 0, 1) := by decide +kernel
theorem dX5_ofProject_14 : decode cX5_ofProject 14 = .ok (.invokevirtual 36, 3) := by decide +kernel
theorem dX5_ofProject_17 : decode cX5_ofProject 17 = .ok (.iconst 1, 1) := by decide +kernel
theorem dX5_ofProject_18 : decode cX5_ofProject 18 = .ok (.if_icmp .ne 19, 3) := by decide +kernel
theorem dX5_ofProject_21 : decode cX5_ofProject 21 = .ok (.aload_n 0, 1) := by decide +kernel
theorem dX5_ofProject_22 : decode cX5_ofProject 22 = .ok (.iload_n 3, 1) := by decide +kernel
theorem dX5_ofProject_23 : decode cX5_ofProject 23 = .ok (.iconst 2, 1) := by decide +kernel
theorem dX5_ofProject_24 : decode cX5_ofProject 24 = .ok (.invokevirtual 36, 3) := by decide +kernel
theorem dX5_ofProject_27 : decode cX5_ofProject 27 = .ok (.iload_n 1, 1) := by decide +kernel
theorem dX5_ofProject_28 : decode cX5_ofProject 28 = .ok (.if_icmp .ne 9, 3) := by decide +kernel
theorem dX5_ofProject_31 : decode cX5_ofProject 31 = .ok (.iconst 1, 1) := by decide +kernel
theorem dX5_ofProject_32 : decode cX5_ofProject 32 = .ok (.iload_n 3, 1) := by decide +kernel
theorem dX5_ofProject_33 : decode cX5_ofProject 33 = .ok (.ishl, 1) := by decide +kernel
theorem dX5_ofProject_34 : decode cX5_ofProject 34 = .ok (.goto 4, 3) := by decide +kernel
theorem dX5_ofProject_37 : decode cX5_ofProject 37 = .ok (.iconst 0, 1) := by decide +kernel
theorem dX5_ofProject_38 : decode cX5_ofProject 38 = .ok (.ior, 1) := by decide +kernel
theorem dX5_ofProject_39 : decode cX5_ofProject 39 = .ok (.istore_n 2, 1) := by decide +kernel
theorem dX5_ofProject_40 : decode cX5_ofProject 40 = .ok (.iinc 3 1, 3) := by decide +kernel
theorem dX5_ofProject_43 : decode cX5_ofProject 43 = .ok (.goto (-39), 3) := by decide +kernel
theorem dX5_ofProject_46 : decode cX5_ofProject 46 = .ok (.iload_n 2, 1) := by decide +kernel
theorem dX5_ofProject_47 : decode cX5_ofProject 47 = .ok (.ireturn, 1) := by decide +kernel
theorem dX5_many_0 : decode cX5_many 0 = .ok (.iconst 0, 1) := by decide +kernel
theorem dX5_many_1 : decode cX5_many 1 = .ok (.istore_n 1, 1) := by decide +kernel
theorem dX5_many_2 : decode cX5_many 2 = .ok (.iconst 0, 1) := by decide +kernel
theorem dX5_many_3 : decode cX5_many 3 = .ok (.istore_n 2, 1) := by decide +kernel
theorem dX5_many_4 : decode cX5_many 4 = .ok (.iload_n 2, 1) := by decide +kernel
theorem dX5_many_5 : decode cX5_many 5 = .ok (.bipush 12, 2) := by decide +kernel
theorem dX5_many_7 : decode cX5_many 7 = .ok (.if_icmp .ge 25, 3) := by decide +kernel
theorem dX5_many_10 : decode cX5_many 10 = .ok (.iload_n 1, 1) := by decide +kernel
theorem dX5_many_11 : decode cX5_many 11 = .ok (.iload_n 0, 1) := by decide +kernel
theorem dX5_many_12 : decode cX5_many 12 = .ok (.iload_n 2, 1) := by decide +kernel
theorem dX5_many_13 : decode cX5_many 13 = .ok (.invokestatic 46, 3) := by decide +kernel
theorem dX5_many_16 : decode cX5_many 16 = .ok (.ifCond .eq 7, 3) := by decide +kernel
theorem dX5_many_19 : decode cX5_many 19 = .ok (.iconst 1, 1) := by decide +kernel
theorem dX5_many_20 : decode cX5_many 20 = .ok (.goto 4, 3) := by decide +kernel
theorem dX5_many_23 : decode cX5_many 23 = .ok (.iconst 0, 1) := by decide +kernel
theorem dX5_many_24 : decode cX5_many 24 = .ok (.iadd, 1) := by decide +kernel
theorem dX5_many_25 : decode cX5_many 25 = .ok (.istore_n 1, 1) := by decide +kernel
theorem dX5_many_26 : decode cX5_many 26 = .ok (.iinc 2 1, 3) := by decide +kernel
theorem dX5_many_29 : decode cX5_many 29 = .ok (.goto (-25), 3) := by decide +kernel
theorem dX5_many_32 : decode cX5_many 32 = .ok (.iload_n 1, 1) := by decide +kernel
theorem dX5_many_33 : decode cX5_many 33 = .ok (.ireturn, 1) := by decide +kernel
theorem dX5_adds_0 : decode cX5_adds 0 = .ok (.iload_n 1, 1) := by decide +kernel
theorem dX5_adds_1 : decode cX5_adds 1 = .ok (.iconst 1, 1) := by decide +kernel
theorem dX5_adds_2 : decode cX5_adds 2 = .ok (.sipush 999, 3) := by decide +kernel
theorem dX5_adds_5 : decode cX5_adds 5 = .ok (.invokestatic 32, 3) := by decide +kernel
theorem dX5_adds_8 : decode cX5_adds 8 = .ok (.ifCond .ne 5, 3) := by decide +kernel
theorem dX5_adds_11 : decode cX5_adds 11 = .ok (.iconst (-1), 1) := by decide +kernel
theorem dX5_adds_12 : decode cX5_adds 12 = .ok (.ireturn, 1) := by decide +kernel
theorem dX5_adds_13 : decode cX5_adds 13 = .ok (.aload_n 0, 1) := by decide +kernel
theorem dX5_adds_14 : decode cX5_adds 14 = .ok (.getfield 7, 3) := by decide +kernel
theorem dX5_adds_17 : decode cX5_adds 17 = .ok (.iconst 0, 1) := by decide +kernel
theorem dX5_adds_18 : decode cX5_adds 18 = .ok (.iaload, 1) := by decide +kernel
theorem dX5_adds_19 : decode cX5_adds 19 = .ok (.iconst 4, 1) := by decide +kernel
theorem dX5_adds_20 : decode cX5_adds 20 = .ok (.if_icmp .ne 6, 3) := by decide +kernel
theorem dX5_adds_23 : decode cX5_adds 23 = .ok (.bipush (-3), 2) := by decide +kernel
theorem dX5_adds_25 : decode cX5_adds 25 = .ok (.ireturn, 1) := by decide +kernel
theorem dX5_adds_26 : decode cX5_adds 26 = .ok (.aload_n 0, 1) := by decide +kernel
theorem dX5_adds_27 : decode cX5_adds 27 = .ok (.getfield 7, 3) := by decide +kernel
theorem dX5_adds_30 : decode cX5_adds 30 = .ok (.iconst 5, 1) := by decide +kernel
theorem dX5_adds_31 : decode cX5_adds 31 = .ok (.iconst 2, 1) := by decide +kernel
theorem dX5_adds_32 : decode cX5_adds 32 = .ok (.aload_n 0, 1) := by decide +kernel
theorem dX5_adds_33 : decode cX5_adds 33 = .ok (.getfield 7, 3) := by decide +kernel
theorem dX5_adds_36 : decode cX5_adds 36 = .ok (.iconst 0, 1) := by decide +kernel
theorem dX5_adds_37 : decode cX5_adds 37 = .ok (.iaload, 1) := by decide +kernel
theorem dX5_adds_38 : decode cX5_adds 38 = .ok (.imul, 1) := by decide +kernel
theorem dX5_adds_39 : decode cX5_adds 39 = .ok (.iadd, 1) := by decide +kernel
theorem dX5_adds_40 : decode cX5_adds 40 = .ok (.iload_n 1, 1) := by decide +kernel
theorem dX5_adds_41 : decode cX5_adds 41 = .ok (.iastore, 1) := by decide +kernel
theorem dX5_adds_42 : decode cX5_adds 42 = .ok (.aload_n 0, 1) := by decide +kernel
theorem dX5_adds_43 : decode cX5_adds 43 = .ok (.getfield 7, 3) := by decide +kernel
theorem dX5_adds_46 : decode cX5_adds 46 = .ok (.iconst 0, 1) := by decide +kernel
theorem dX5_adds_47 : decode cX5_adds 47 = .ok (.dup2, 1) := by decide +kernel
theorem dX5_adds_48 : decode cX5_adds 48 = .ok (.iaload, 1) := by decide +kernel
theorem dX5_adds_49 : decode cX5_adds 49 = .ok (.iconst 1, 1) := by decide +kernel
theorem dX5_adds_50 : decode cX5_adds 50 = .ok (.iadd, 1) := by decide +kernel
theorem dX5_adds_51 : decode cX5_adds 51 = .ok (.iastore, 1) := by decide +kernel
theorem dX5_adds_52 : decode cX5_adds 52 = .ok (.aload_n 0, 1) := by decide +kernel
theorem dX5_adds_53 : decode cX5_adds 53 = .ok (.getfield 7, 3) := by decide +kernel
theorem dX5_adds_56 : decode cX5_adds 56 = .ok (.iconst 0, 1) := by decide +kernel
theorem dX5_adds_57 : decode cX5_adds 57 = .ok (.iaload, 1) := by decide +kernel
theorem dX5_adds_58 : decode cX5_adds 58 = .ok (.iconst 1, 1) := by decide +kernel
theorem dX5_adds_59 : decode cX5_adds 59 = .ok (.isub, 1) := by decide +kernel
theorem dX5_adds_60 : decode cX5_adds 60 = .ok (.ireturn, 1) := by decide +kernel
theorem dX5_comes_0 : decode cX5_comes 0 = .ok (.iload_n 1, 1) := by decide +kernel
theorem dX5_comes_1 : decode cX5_comes 1 = .ok (.iconst 0, 1) := by decide +kernel
theorem dX5_comes_2 : decode cX5_comes 2 = .ok (.sipush 999, 3) := by decide +kernel
theorem dX5_comes_5 : decode cX5_comes 5 = .ok (.invokestatic 32, 3) := by decide +kernel
theorem dX5_comes_8 : decode cX5_comes 8 = .ok (.ifCond .ne 5, 3) := by decide +kernel
theorem dX5_comes_11 : decode cX5_comes 11 = .ok (.iconst (-1), 1) := by decide +kernel
theorem dX5_comes_12 : decode cX5_comes 12 = .ok (.ireturn, 1) := by decide +kernel
theorem dX5_comes_13 : decode cX5_comes 13 = .ok (.aload_n 0, 1) := by decide +kernel
theorem dX5_comes_14 : decode cX5_comes 14 = .ok (.getfield 7, 3) := by decide +kernel
theorem dX5_comes_17 : decode cX5_comes 17 = .ok (.iconst 1, 1) := by decide +kernel
theorem dX5_comes_18 : decode cX5_comes 18 = .ok (.iaload, 1) := by decide +kernel
theorem dX5_comes_19 : decode cX5_comes 19 = .ok (.bipush 8, 2) := by decide +kernel
theorem dX5_comes_21 : decode cX5_comes 21 = .ok (.if_icmp .ne 6, 3) := by decide +kernel
theorem dX5_comes_24 : decode cX5_comes 24 = .ok (.bipush (-3), 2) := by decide +kernel
theorem dX5_comes_26 : decode cX5_comes 26 = .ok (.ireturn, 1) := by decide +kernel
theorem dX5_comes_27 : decode cX5_comes 27 = .ok (.aload_n 0, 1) := by decide +kernel
theorem dX5_comes_28 : decode cX5_comes 28 = .ok (.getfield 7, 3) := by decide +kernel
theorem dX5_comes_31 : decode cX5_comes 31 = .ok (.bipush 13, 2) := by decide +kernel
theorem dX5_comes_33 : decode cX5_comes 33 = .ok (.iconst 2, 1) := by decide +kernel
theorem dX5_comes_34 : decode cX5_comes 34 = .ok (.aload_n 0, 1) := by decide +kernel
theorem dX5_comes_35 : decode cX5_comes 35 = .ok (.getfield 7, 3) := by decide +kernel
theorem dX5_comes_38 : decode cX5_comes 38 = .ok (.iconst 1, 1) := by decide +kernel
theorem dX5_comes_39 : decode cX5_comes 39 = .ok (.iaload, 1) := by decide +kernel
theorem dX5_comes_40 : decode cX5_comes 40 = .ok (.imul, 1) := by decide +kernel
theorem dX5_comes_41 : decode cX5_comes 41 = .ok (.iadd, 1) := by decide +kernel
theorem dX5_comes_42 : decode cX5_comes 42 = .ok (.iload_n 1, 1) := by decide +kernel
theorem dX5_comes_43 : decode cX5_comes 43 = .ok (.iastore, 1) := by decide +kernel
theorem dX5_comes_44 : decode cX5_comes 44 = .ok (.aload_n 0, 1) := by decide +kernel
theorem dX5_comes_45 : decode cX5_comes 45 = .ok (.getfield 7, 3) := by decide +kernel
theorem dX5_comes_48 : decode cX5_comes 48 = .ok (.iconst 1, 1) := by decide +kernel
theorem dX5_comes_49 : decode cX5_comes 49 = .ok (.dup2, 1) := by decide +kernel
theorem dX5_comes_50 : decode cX5_comes 50 = .ok (.iaload, 1) := by decide +kernel
theorem dX5_comes_51 : decode cX5_comes 51 = .ok (.iconst 1, 1) := by decide +kernel
theorem dX5_comes_52 : decode cX5_comes 52 = .ok (.iadd, 1) := by decide +kernel
theorem dX5_comes_53 : decode cX5_comes 53 = .ok (.iastore, 1) := by decide +kernel
theorem dX5_comes_54 : decode cX5_comes 54 = .ok (.aload_n 0, 1) := by decide +kernel
theorem dX5_comes_55 : decode cX5_comes 55 = .ok (.getfield 7, 3) := by decide +kernel
theorem dX5_comes_58 : decode cX5_comes 58 = .ok (.iconst 1, 1) := by decide +kernel
theorem dX5_comes_59 : decode cX5_comes 59 = .ok (.iaload, 1) := by decide +kernel
theorem dX5_comes_60 : decode cX5_comes 60 = .ok (.iconst 1, 1) := by decide +kernel
theorem dX5_comes_61 : decode cX5_comes 61 = .ok (.isub, 1) := by decide +kernel
theorem dX5_comes_62 : decode cX5_comes 62 = .ok (.ireturn, 1) := by decide +kernel
theorem dX5_isCondition_0 : decode cX5_isCondition 0 = .ok (.iload_n 3, 1) := by decide +kernel
theorem dX5_isCondition_1 : decode cX5_isCondition 1 = .ok (.tableswitch 107 0 4 #[35, 46, 56, 65, 86], 35) := by decide +kernel
theorem dX5_isCondition_36 : decode cX5_isCondition 36 = .ok (.iload 4, 2) := by decide +kernel
theorem dX5_isCondition_38 : decode cX5_isCondition 38 = .ok (.ifCond .ne 7, 3) := by decide +kernel
theorem dX5_isCondition_41 : decode cX5_isCondition 41 = .ok (.iconst 1, 1) := by decide +kernel
theorem dX5_isCondition_42 : decode cX5_isCondition 42 = .ok (.goto 4, 3) := by decide +kernel
theorem dX5_isCondition_45 : decode cX5_isCondition 45 = .ok (.iconst 0, 1) := by decide +kernel
theorem dX5_isCondition_46 : decode cX5_isCondition 46 = .ok (.ireturn, 1) := by decide +kernel
theorem dX5_isCondition_47 : decode cX5_isCondition 47 = .ok (.iload 4, 2) := by decide +kernel
theorem dX5_isCondition_49 : decode cX5_isCondition 49 = .ok (.iconst 1, 1) := by decide +kernel
theorem dX5_isCondition_50 : decode cX5_isCondition 50 = .ok (.sipush 999, 3) := by decide +kernel
theorem dX5_isCondition_53 : decode cX5_isCondition 53 = .ok (.invokestatic 32, 3) := by decide +kernel
theorem dX5_isCondition_56 : decode cX5_isCondition 56 = .ok (.ireturn, 1) := by decide +kernel
theorem dX5_isCondition_57 : decode cX5_isCondition 57 = .ok (.iload 4, 2) := by decide +kernel
theorem dX5_isCondition_59 : decode cX5_isCondition 59 = .ok (.iconst 1, 1) := by decide +kernel
theorem dX5_isCondition_60 : decode cX5_isCondition 60 = .ok (.bipush 11, 2) := by decide +kernel
theorem dX5_isCondition_62 : decode cX5_isCondition 62 = .ok (.invokestatic 32, 3) := by decide +kernel
theorem dX5_isCondition_65 : decode cX5_isCondition 65 = .ok (.ireturn, 1) := by decide +kernel
theorem dX5_isCondition_66 : decode cX5_isCondition 66 = .ok (.aload_n 0, 1) := by decide +kernel
theorem dX5_isCondition_67 : decode cX5_isCondition 67 = .ok (.iload 4, 2) := by decide +kernel
theorem dX5_isCondition_69 : decode cX5_isCondition 69 = .ok (.invokevirtual 86, 3) := by decide +kernel
theorem dX5_isCondition_72 : decode cX5_isCondition 72 = .ok (.ifCond .eq 13, 3) := by decide +kernel
theorem dX5_isCondition_75 : decode cX5_isCondition 75 = .ok (.iload 4, 2) := by decide +kernel
theorem dX5_isCondition_77 : decode cX5_isCondition 77 = .ok (.iload_n 1, 1) := by decide +kernel
theorem dX5_isCondition_78 : decode cX5_isCondition 78 = .ok (.if_icmp .eq 7, 3) := by decide +kernel
theorem dX5_isCondition_81 : decode cX5_isCondition 81 = .ok (.iconst 1, 1) := by decide +kernel
theorem dX5_isCondition_82 : decode cX5_isCondition 82 = .ok (.goto 4, 3) := by decide +kernel
theorem dX5_isCondition_85 : decode cX5_isCondition 85 = .ok (.iconst 0, 1) := by decide +kernel
theorem dX5_isCondition_86 : decode cX5_isCondition 86 = .ok (.ireturn, 1) := by decide +kernel
theorem dX5_isCondition_87 : decode cX5_isCondition 87 = .ok (.aload_n 0, 1) := by decide +kernel
theorem dX5_isCondition_88 : decode cX5_isCondition 88 = .ok (.iload 4, 2) := by decide +kernel
theorem dX5_isCondition_90 : decode cX5_isCondition 90 = .ok (.invokevirtual 90, 3) := by decide +kernel
theorem dX5_isCondition_93 : decode cX5_isCondition 93 = .ok (.ifCond .eq 13, 3) := by decide +kernel
theorem dX5_isCondition_96 : decode cX5_isCondition 96 = .ok (.iload 4, 2) := by decide +kernel
theorem dX5_isCondition_98 : decode cX5_isCondition 98 = .ok (.iload_n 2, 1) := by decide +kernel
theorem dX5_isCondition_99 : decode cX5_isCondition 99 = .ok (.if_icmp .eq 7, 3) := by decide +kernel
theorem dX5_isCondition_102 : decode cX5_isCondition 102 = .ok (.iconst 1, 1) := by decide +kernel
theorem dX5_isCondition_103 : decode cX5_isCondition 103 = .ok (.goto 4, 3) := by decide +kernel
theorem dX5_isCondition_106 : decode cX5_isCondition 106 = .ok (.iconst 0, 1) := by decide +kernel
theorem dX5_isCondition_107 : decode cX5_isCondition 107 = .ok (.ireturn, 1) := by decide +kernel
theorem dX5_isCondition_108 : decode cX5_isCondition 108 = .ok (.iconst 0, 1) := by decide +kernel
theorem dX5_isCondition_109 : decode cX5_isCondition 109 = .ok (.ireturn, 1) := by decide +kernel
theorem dX5_lowestFree_0 : decode cX5_lowestFree 0 = .ok (.iconst (-1), 1) := by decide +kernel
theorem dX5_lowestFree_1 : decode cX5_lowestFree 1 = .ok (.istore_n 1, 1) := by decide +kernel
theorem dX5_lowestFree_2 : decode cX5_lowestFree 2 = .ok (.bipush 11, 2) := by decide +kernel
theorem dX5_lowestFree_4 : decode cX5_lowestFree 4 = .ok (.istore_n 2, 1) := by decide +kernel
theorem dX5_lowestFree_5 : decode cX5_lowestFree 5 = .ok (.iload_n 2, 1) := by decide +kernel
theorem dX5_lowestFree_6 : decode cX5_lowestFree 6 = .ok (.ifCond .lt 24, 3) := by decide +kernel
theorem dX5_lowestFree_9 : decode cX5_lowestFree 9 = .ok (.aload_n 0, 1) := by decide +kernel
theorem dX5_lowestFree_10 : decode cX5_lowestFree 10 = .ok (.iload_n 2, 1) := by decide +kernel
theorem dX5_lowestFree_11 : decode cX5_lowestFree 11 = .ok (.iconst 0, 1) := by decide +kernel
theorem dX5_lowestFree_12 : decode cX5_lowestFree 12 = .ok (.invokevirtual 36, 3) := by decide +kernel
theorem dX5_lowestFree_15 : decode cX5_lowestFree 15 = .ok (.ifCond .ne 7, 3) := by decide +kernel
theorem dX5_lowestFree_18 : decode cX5_lowestFree 18 = .ok (.iload_n 2, 1) := by decide +kernel
theorem dX5_lowestFree_19 : decode cX5_lowestFree 19 = .ok (.goto 4, 3) := by decide +kernel
theorem dX5_lowestFree_22 : decode cX5_lowestFree 22 = .ok (.iload_n 1, 1) := by decide +kernel
theorem dX5_lowestFree_23 : decode cX5_lowestFree 23 = .ok (.istore_n 1, 1) := by decide +kernel
theorem dX5_lowestFree_24 : decode cX5_lowestFree 24 = .ok (.iinc 2 (-1), 3) := by decide +kernel
theorem dX5_lowestFree_27 : decode cX5_lowestFree 27 = .ok (.goto (-22), 3) := by decide +kernel
theorem dX5_lowestFree_30 : decode cX5_lowestFree 30 = .ok (.iload_n 1, 1) := by decide +kernel
theorem dX5_lowestFree_31 : decode cX5_lowestFree 31 = .ok (.ireturn, 1) := by decide +kernel
theorem dX5_makes_0 : decode cX5_makes 0 = .ok (.aload_n 0, 1) := by decide +kernel
theorem dX5_makes_1 : decode cX5_makes 1 = .ok (.iload_n 1, 1) := by decide +kernel
theorem dX5_makes_2 : decode cX5_makes 2 = .ok (.invokevirtual 86, 3) := by decide +kernel
theorem dX5_makes_5 : decode cX5_makes 5 = .ok (.ifCond .eq 35, 3) := by decide +kernel
theorem dX5_makes_8 : decode cX5_makes 8 = .ok (.aload_n 0, 1) := by decide +kernel
theorem dX5_makes_9 : decode cX5_makes 9 = .ok (.iload_n 2, 1) := by decide +kernel
theorem dX5_makes_10 : decode cX5_makes 10 = .ok (.invokevirtual 90, 3) := by decide +kernel
theorem dX5_makes_13 : decode cX5_makes 13 = .ok (.ifCond .eq 27, 3) := by decide +kernel
theorem dX5_makes_16 : decode cX5_makes 16 = .ok (.iload_n 3, 1) := by decide +kernel
theorem dX5_makes_17 : decode cX5_makes 17 = .ok (.iconst 1, 1) := by decide +kernel
theorem dX5_makes_18 : decode cX5_makes 18 = .ok (.sipush 999, 3) := by decide +kernel
theorem dX5_makes_21 : decode cX5_makes 21 = .ok (.invokestatic 32, 3) := by decide +kernel
theorem dX5_makes_24 : decode cX5_makes 24 = .ok (.ifCond .eq 16, 3) := by decide +kernel
theorem dX5_makes_27 : decode cX5_makes 27 = .ok (.aload_n 0, 1) := by decide +kernel
theorem dX5_makes_28 : decode cX5_makes 28 = .ok (.iload_n 1, 1) := by decide +kernel
theorem dX5_makes_29 : decode cX5_makes 29 = .ok (.iload_n 2, 1) := by decide +kernel
theorem dX5_makes_30 : decode cX5_makes 30 = .ok (.iload 4, 2) := by decide +kernel
theorem dX5_makes_32 : decode cX5_makes 32 = .ok (.iload 5, 2) := by decide +kernel
theorem dX5_makes_34 : decode cX5_makes 34 = .ok (.invokevirtual 93, 3) := by decide +kernel
theorem dX5_makes_37 : decode cX5_makes 37 = .ok (.ifCond .ne 5, 3) := by decide +kernel
theorem dX5_makes_40 : decode cX5_makes 40 = .ok (.iconst (-1), 1) := by decide +kernel
theorem dX5_makes_41 : decode cX5_makes 41 = .ok (.ireturn, 1) := by decide +kernel
theorem dX5_makes_42 : decode cX5_makes 42 = .ok (.aload_n 0, 1) := by decide +kernel
theorem dX5_makes_43 : decode cX5_makes 43 = .ok (.iload_n 2, 1) := by decide +kernel
theorem dX5_makes_44 : decode cX5_makes 44 = .ok (.invokevirtual 97, 3) := by decide +kernel
theorem dX5_makes_47 : decode cX5_makes 47 = .ok (.ifCond .ne 33, 3) := by decide +kernel
theorem dX5_makes_50 : decode cX5_makes 50 = .ok (.aload_n 0, 1) := by decide +kernel
theorem dX5_makes_51 : decode cX5_makes 51 = .ok (.getfield 7, 3) := by decide +kernel
theorem dX5_makes_54 : decode cX5_makes 54 = .ok (.bipush 13, 2) := by decide +kernel
theorem dX5_makes_56 : decode cX5_makes 56 = .ok (.iconst 2, 1) := by decide +kernel
theorem dX5_makes_57 : decode cX5_makes 57 = .ok (.iload_n 1, 1) := by decide +kernel
theorem dX5_makes_58 : decode cX5_makes 58 = .ok (.imul, 1) := by decide +kernel
theorem dX5_makes_59 : decode cX5_makes 59 = .ok (.iadd, 1) := by decide +kernel
theorem dX5_makes_60 : decode cX5_makes 60 = .ok (.iaload, 1) := by decide +kernel
theorem dX5_makes_61 : decode cX5_makes 61 = .ok (.aload_n 0, 1) := by decide +kernel
theorem dX5_makes_62 : decode cX5_makes 62 = .ok (.aload_n 0, 1) := by decide +kernel
theorem dX5_makes_63 : decode cX5_makes 63 = .ok (.iload_n 1, 1) := by decide +kernel
theorem dX5_makes_64 : decode cX5_makes 64 = .ok (.invokevirtual 100, 3) := by decide +kernel
theorem dX5_makes_67 : decode cX5_makes 67 = .ok (.aload_n 0, 1) := by decide +kernel
theorem dX5_makes_68 : decode cX5_makes 68 = .ok (.invokevirtual 80, 3) := by decide +kernel
theorem dX5_makes_71 : decode cX5_makes 71 = .ok (.iand, 1) := by decide +kernel
theorem dX5_makes_72 : decode cX5_makes 72 = .ok (.invokevirtual 103, 3) := by decide +kernel
theorem dX5_makes_75 : decode cX5_makes 75 = .ok (.iload_n 3, 1) := by decide +kernel
theorem dX5_makes_76 : decode cX5_makes 76 = .ok (.iadd, 1) := by decide +kernel
theorem dX5_makes_77 : decode cX5_makes 77 = .ok (.if_icmp .ge 6, 3) := by decide +kernel
theorem dX5_makes_80 : decode cX5_makes 80 = .ok (.bipush (-2), 2) := by decide +kernel
theorem dX5_makes_82 : decode cX5_makes 82 = .ok (.ireturn, 1) := by decide +kernel
theorem dX5_makes_83 : decode cX5_makes 83 = .ok (.aload_n 0, 1) := by decide +kernel
theorem dX5_makes_84 : decode cX5_makes 84 = .ok (.invokevirtual 106, 3) := by decide +kernel
theorem dX5_makes_87 : decode cX5_makes 87 = .ok (.istore 6, 2) := by decide +kernel
theorem dX5_makes_89 : decode cX5_makes 89 = .ok (.iload 6, 2) := by decide +kernel
theorem dX5_makes_91 : decode cX5_makes 91 = .ok (.ifCond .ge 6, 3) := by decide +kernel
theorem dX5_makes_94 : decode cX5_makes 94 = .ok (.bipush (-3), 2) := by decide +kernel
theorem dX5_makes_96 : decode cX5_makes 96 = .ok (.ireturn, 1) := by decide +kernel
theorem dX5_makes_97 : decode cX5_makes 97 = .ok (.bipush 29, 2) := by decide +kernel
theorem dX5_makes_99 : decode cX5_makes 99 = .ok (.bipush 8, 2) := by decide +kernel
theorem dX5_makes_101 : decode cX5_makes 101 = .ok (.iload 6, 2) := by decide +kernel
theorem dX5_makes_103 : decode cX5_makes 103 = .ok (.imul, 1) := by decide +kernel
theorem dX5_makes_104 : decode cX5_makes 104 = .ok (.iadd, 1) := by decide +kernel
theorem dX5_makes_105 : decode cX5_makes 105 = .ok (.istore 7, 2) := by decide +kernel
theorem dX5_makes_107 : decode cX5_makes 107 = .ok (.aload_n 0, 1) := by decide +kernel
theorem dX5_makes_108 : decode cX5_makes 108 = .ok (.getfield 7, 3) := by decide +kernel
theorem dX5_makes_111 : decode cX5_makes 111 = .ok (.iload 7, 2) := by decide +kernel
theorem dX5_makes_113 : decode cX5_makes 113 = .ok (.iconst 0, 1) := by decide +kernel
theorem dX5_makes_114 : decode cX5_makes 114 = .ok (.iadd, 1) := by decide +kernel
theorem dX5_makes_115 : decode cX5_makes 115 = .ok (.iconst 1, 1) := by decide +kernel
theorem dX5_makes_116 : decode cX5_makes 116 = .ok (.iastore, 1) := by decide +kernel
theorem dX5_makes_117 : decode cX5_makes 117 = .ok (.aload_n 0, 1) := by decide +kernel
theorem dX5_makes_118 : decode cX5_makes 118 = .ok (.getfield 7, 3) := by decide +kernel
theorem dX5_makes_121 : decode cX5_makes 121 = .ok (.iload 7, 2) := by decide +kernel
theorem dX5_makes_123 : decode cX5_makes 123 = .ok (.iconst 1, 1) := by decide +kernel
theorem dX5_makes_124 : decode cX5_makes 124 = .ok (.iadd, 1) := by decide +kernel
theorem dX5_makes_125 : decode cX5_makes 125 = .ok (.iload_n 1, 1) := by decide +kernel
theorem dX5_makes_126 : decode cX5_makes 126 = .ok (.iastore, 1) := by decide +kernel
theorem dX5_makes_127 : decode cX5_makes 127 = .ok (.aload_n 0, 1) := by decide +kernel
theorem dX5_makes_128 : decode cX5_makes 128 = .ok (.getfield 7, 3) := by decide +kernel
theorem dX5_makes_131 : decode cX5_makes 131 = .ok (.iload 7, 2) := by decide +kernel
theorem dX5_makes_133 : decode cX5_makes 133 = .ok (.iconst 2, 1) := by decide +kernel
theorem dX5_makes_134 : decode cX5_makes 134 = .ok (.iadd, 1) := by decide +kernel
theorem dX5_makes_135 : decode cX5_makes 135 = .ok (.iload_n 2, 1) := by decide +kernel
theorem dX5_makes_136 : decode cX5_makes 136 = .ok (.iastore, 1) := by decide +kernel
theorem dX5_makes_137 : decode cX5_makes 137 = .ok (.aload_n 0, 1) := by decide +kernel
theorem dX5_makes_138 : decode cX5_makes 138 = .ok (.getfield 7, 3) := by decide +kernel
theorem dX5_makes_141 : decode cX5_makes 141 = .ok (.iload 7, 2) := by decide +kernel
theorem dX5_makes_143 : decode cX5_makes 143 = .ok (.iconst 3, 1) := by decide +kernel
theorem dX5_makes_144 : decode cX5_makes 144 = .ok (.iadd, 1) := by decide +kernel
theorem dX5_makes_145 : decode cX5_makes 145 = .ok (.iload_n 3, 1) := by decide +kernel
theorem dX5_makes_146 : decode cX5_makes 146 = .ok (.iastore, 1) := by decide +kernel
theorem dX5_makes_147 : decode cX5_makes 147 = .ok (.aload_n 0, 1) := by decide +kernel
theorem dX5_makes_148 : decode cX5_makes 148 = .ok (.getfield 7, 3) := by decide +kernel
theorem dX5_makes_151 : decode cX5_makes 151 = .ok (.iload 7, 2) := by decide +kernel
theorem dX5_makes_153 : decode cX5_makes 153 = .ok (.iconst 4, 1) := by decide +kernel
theorem dX5_makes_154 : decode cX5_makes 154 = .ok (.iadd, 1) := by decide +kernel
theorem dX5_makes_155 : decode cX5_makes 155 = .ok (.iload 4, 2) := by decide +kernel
theorem dX5_makes_157 : decode cX5_makes 157 = .ok (.iastore, 1) := by decide +kernel
theorem dX5_makes_158 : decode cX5_makes 158 = .ok (.aload_n 0, 1) := by decide +kernel
theorem dX5_makes_159 : decode cX5_makes 159 = .ok (.getfield 7, 3) := by decide +kernel
theorem dX5_makes_162 : decode cX5_makes 162 = .ok (.iload 7, 2) := by decide +kernel
theorem dX5_makes_164 : decode cX5_makes 164 = .ok (.iconst 5, 1) := by decide +kernel
theorem dX5_makes_165 : decode cX5_makes 165 = .ok (.iadd, 1) := by decide +kernel
theorem dX5_makes_166 : decode cX5_makes 166 = .ok (.iload 5, 2) := by decide +kernel
theorem dX5_makes_168 : decode cX5_makes 168 = .ok (.iastore, 1) := by decide +kernel
theorem dX5_makes_169 : decode cX5_makes 169 = .ok (.aload_n 0, 1) := by decide +kernel
theorem dX5_makes_170 : decode cX5_makes 170 = .ok (.getfield 7, 3) := by decide +kernel
theorem dX5_makes_173 : decode cX5_makes 173 = .ok (.iload 7, 2) := by decide +kernel
theorem dX5_makes_175 : decode cX5_makes 175 = .ok (.bipush 6, 2) := by decide +kernel
theorem dX5_makes_177 : decode cX5_makes 177 = .ok (.iadd, 1) := by decide +kernel
theorem dX5_makes_178 : decode cX5_makes 178 = .ok (.iconst 0, 1) := by decide +kernel
theorem dX5_makes_179 : decode cX5_makes 179 = .ok (.iastore, 1) := by decide +kernel
theorem dX5_makes_180 : decode cX5_makes 180 = .ok (.aload_n 0, 1) := by decide +kernel
theorem dX5_makes_181 : decode cX5_makes 181 = .ok (.getfield 7, 3) := by decide +kernel
theorem dX5_makes_184 : decode cX5_makes 184 = .ok (.iload 7, 2) := by decide +kernel
theorem dX5_makes_186 : decode cX5_makes 186 = .ok (.bipush 7, 2) := by decide +kernel
theorem dX5_makes_188 : decode cX5_makes 188 = .ok (.iadd, 1) := by decide +kernel
theorem dX5_makes_189 : decode cX5_makes 189 = .ok (.aload_n 0, 1) := by decide +kernel
theorem dX5_makes_190 : decode cX5_makes 190 = .ok (.getfield 7, 3) := by decide +kernel
theorem dX5_makes_193 : decode cX5_makes 193 = .ok (.iconst 2, 1) := by decide +kernel
theorem dX5_makes_194 : decode cX5_makes 194 = .ok (.iaload, 1) := by decide +kernel
theorem dX5_makes_195 : decode cX5_makes 195 = .ok (.iastore, 1) := by decide +kernel
theorem dX5_makes_196 : decode cX5_makes 196 = .ok (.aload_n 0, 1) := by decide +kernel
theorem dX5_makes_197 : decode cX5_makes 197 = .ok (.getfield 7, 3) := by decide +kernel
theorem dX5_makes_200 : decode cX5_makes 200 = .ok (.iconst 2, 1) := by decide +kernel
theorem dX5_makes_201 : decode cX5_makes 201 = .ok (.dup2, 1) := by decide +kernel
theorem dX5_makes_202 : decode cX5_makes 202 = .ok (.iaload, 1) := by decide +kernel
theorem dX5_makes_203 : decode cX5_makes 203 = .ok (.iconst 1, 1) := by decide +kernel
theorem dX5_makes_204 : decode cX5_makes 204 = .ok (.iadd, 1) := by decide +kernel
theorem dX5_makes_205 : decode cX5_makes 205 = .ok (.iastore, 1) := by decide +kernel
theorem dX5_makes_206 : decode cX5_makes 206 = .ok (.iload 6, 2) := by decide +kernel
theorem dX5_makes_208 : decode cX5_makes 208 = .ok (.ireturn, 1) := by decide +kernel
theorem dX5_forgets_0 : decode cX5_forgets 0 = .ok (.iconst 0, 1) := by decide +kernel
theorem dX5_forgets_1 : decode cX5_forgets 1 = .ok (.istore_n 2, 1) := by decide +kernel
theorem dX5_forgets_2 : decode cX5_forgets 2 = .ok (.iload_n 2, 1) := by decide +kernel
theorem dX5_forgets_3 : decode cX5_forgets 3 = .ok (.bipush 8, 2) := by decide +kernel
theorem dX5_forgets_5 : decode cX5_forgets 5 = .ok (.if_icmp .ge 24, 3) := by decide +kernel
theorem dX5_forgets_8 : decode cX5_forgets 8 = .ok (.aload_n 0, 1) := by decide +kernel
theorem dX5_forgets_9 : decode cX5_forgets 9 = .ok (.getfield 7, 3) := by decide +kernel
theorem dX5_forgets_12 : decode cX5_forgets 12 = .ok (.bipush 29, 2) := by decide +kernel
theorem dX5_forgets_14 : decode cX5_forgets 14 = .ok (.bipush 8, 2) := by decide +kernel
theorem dX5_forgets_16 : decode cX5_forgets 16 = .ok (.iload_n 1, 1) := by decide +kernel
theorem dX5_forgets_17 : decode cX5_forgets 17 = .ok (.imul, 1) := by decide +kernel
theorem dX5_forgets_18 : decode cX5_forgets 18 = .ok (.iadd, 1) := by decide +kernel
theorem dX5_forgets_19 : decode cX5_forgets 19 = .ok (.iload_n 2, 1) := by decide +kernel
theorem dX5_forgets_20 : decode cX5_forgets 20 = .ok (.iadd, 1) := by decide +kernel
theorem dX5_forgets_21 : decode cX5_forgets 21 = .ok (.iconst 0, 1) := by decide +kernel
theorem dX5_forgets_22 : decode cX5_forgets 22 = .ok (.iastore, 1) := by decide +kernel
theorem dX5_forgets_23 : decode cX5_forgets 23 = .ok (.iinc 2 1, 3) := by decide +kernel
theorem dX5_forgets_26 : decode cX5_forgets 26 = .ok (.goto (-24), 3) := by decide +kernel
theorem dX5_forgets_29 : decode cX5_forgets 29 = .ok (.return_, 1) := by decide +kernel
theorem dX5_withdraws_0 : decode cX5_withdraws 0 = .ok (.aload_n 0, 1) := by decide +kernel
theorem dX5_withdraws_1 : decode cX5_withdraws 1 = .ok (.iload_n 1, 1) := by decide +kernel
theorem dX5_withdraws_2 : decode cX5_withdraws 2 = .ok (.invokevirtual 109, 3) := by decide +kernel
theorem dX5_withdraws_5 : decode cX5_withdraws 5 = .ok (.ifCond .ne 5, 3) := by decide +kernel
theorem dX5_withdraws_8 : decode cX5_withdraws 8 = .ok (.iconst (-1), 1) := by decide +kernel
theorem dX5_withdraws_9 : decode cX5_withdraws 9 = .ok (.ireturn, 1) := by decide +kernel
theorem dX5_withdraws_10 : decode cX5_withdraws 10 = .ok (.aload_n 0, 1) := by decide +kernel
theorem dX5_withdraws_11 : decode cX5_withdraws 11 = .ok (.iload_n 1, 1) := by decide +kernel
theorem dX5_withdraws_12 : decode cX5_withdraws 12 = .ok (.bipush 6, 2) := by decide +kernel
theorem dX5_withdraws_14 : decode cX5_withdraws 14 = .ok (.invokevirtual 36, 3) := by decide +kernel
theorem dX5_withdraws_17 : decode cX5_withdraws 17 = .ok (.iconst 1, 1) := by decide +kernel
theorem dX5_withdraws_18 : decode cX5_withdraws 18 = .ok (.if_icmp .ne 6, 3) := by decide +kernel
theorem dX5_withdraws_21 : decode cX5_withdraws 21 = .ok (.bipush (-2), 2) := by decide +kernel
theorem dX5_withdraws_23 : decode cX5_withdraws 23 = .ok (.ireturn, 1) := by decide +kernel
theorem dX5_withdraws_24 : decode cX5_withdraws 24 = .ok (.aload_n 0, 1) := by decide +kernel
theorem dX5_withdraws_25 : decode cX5_withdraws 25 = .ok (.iconst 0, 1) := by decide +kernel
theorem dX5_withdraws_26 : decode cX5_withdraws 26 = .ok (.invokevirtual 112, 3) := by decide +kernel
theorem dX5_withdraws_29 : decode cX5_withdraws 29 = .ok (.istore_n 2, 1) := by decide +kernel
theorem dX5_withdraws_30 : decode cX5_withdraws 30 = .ok (.aload_n 0, 1) := by decide +kernel
theorem dX5_withdraws_31 : decode cX5_withdraws 31 = .ok (.iload_n 1, 1) := by decide +kernel
theorem dX5_withdraws_32 : decode cX5_withdraws 32 = .ok (.invokevirtual 115, 3) := by decide +kernel
theorem dX5_withdraws_35 : decode cX5_withdraws 35 = .ok (.aload_n 0, 1) := by decide +kernel
theorem dX5_withdraws_36 : decode cX5_withdraws 36 = .ok (.getfield 7, 3) := by decide +kernel
theorem dX5_withdraws_39 : decode cX5_withdraws 39 = .ok (.iconst 3, 1) := by decide +kernel
theorem dX5_withdraws_40 : decode cX5_withdraws 40 = .ok (.dup2, 1) := by decide +kernel
theorem dX5_withdraws_41 : decode cX5_withdraws 41 = .ok (.iaload, 1) := by decide +kernel
theorem dX5_withdraws_42 : decode cX5_withdraws 42 = .ok (.iconst 1, 1) := by decide +kernel
theorem dX5_withdraws_43 : decode cX5_withdraws 43 = .ok (.iadd, 1) := by decide +kernel
theorem dX5_withdraws_44 : decode cX5_withdraws 44 = .ok (.iastore, 1) := by decide +kernel
theorem dX5_withdraws_45 : decode cX5_withdraws 45 = .ok (.iload_n 2, 1) := by decide +kernel
theorem dX5_withdraws_46 : decode cX5_withdraws 46 = .ok (.aload_n 0, 1) := by decide +kernel
theorem dX5_withdraws_47 : decode cX5_withdraws 47 = .ok (.iconst 0, 1) := by decide +kernel
theorem dX5_withdraws_48 : decode cX5_withdraws 48 = .ok (.invokevirtual 112, 3) := by decide +kernel
theorem dX5_withdraws_51 : decode cX5_withdraws 51 = .ok (.iconst (-1), 1) := by decide +kernel
theorem dX5_withdraws_52 : decode cX5_withdraws 52 = .ok (.ixor, 1) := by decide +kernel
theorem dX5_withdraws_53 : decode cX5_withdraws 53 = .ok (.iand, 1) := by decide +kernel
theorem dX5_withdraws_54 : decode cX5_withdraws 54 = .ok (.ireturn, 1) := by decide +kernel
theorem dX5_calls_0 : decode cX5_calls 0 = .ok (.aload_n 0, 1) := by decide +kernel
theorem dX5_calls_1 : decode cX5_calls 1 = .ok (.iload_n 1, 1) := by decide +kernel
theorem dX5_calls_2 : decode cX5_calls 2 = .ok (.invokevirtual 90, 3) := by decide +kernel
theorem dX5_calls_5 : decode cX5_calls 5 = .ok (.ifCond .ne 5, 3) := by decide +kernel
theorem dX5_calls_8 : decode cX5_calls 8 = .ok (.iconst (-1), 1) := by decide +kernel
theorem dX5_calls_9 : decode cX5_calls 9 = .ok (.ireturn, 1) := by decide +kernel
theorem dX5_calls_10 : decode cX5_calls 10 = .ok (.aload_n 0, 1) := by decide +kernel
theorem dX5_calls_11 : decode cX5_calls 11 = .ok (.iconst 0, 1) := by decide +kernel
theorem dX5_calls_12 : decode cX5_calls 12 = .ok (.invokevirtual 112, 3) := by decide +kernel
theorem dX5_calls_15 : decode cX5_calls 15 = .ok (.istore_n 2, 1) := by decide +kernel
theorem dX5_calls_16 : decode cX5_calls 16 = .ok (.aload_n 0, 1) := by decide +kernel
theorem dX5_calls_17 : decode cX5_calls 17 = .ok (.iload_n 1, 1) := by decide +kernel
theorem dX5_calls_18 : decode cX5_calls 18 = .ok (.invokevirtual 97, 3) := by decide +kernel
theorem dX5_calls_21 : decode cX5_calls 21 = .ok (.ifCond .ne 12, 3) := by decide +kernel
theorem dX5_calls_24 : decode cX5_calls 24 = .ok (.aload_n 0, 1) := by decide +kernel
theorem dX5_calls_25 : decode cX5_calls 25 = .ok (.iload_n 2, 1) := by decide +kernel
theorem dX5_calls_26 : decode cX5_calls 26 = .ok (.iload_n 1, 1) := by decide +kernel
theorem dX5_calls_27 : decode cX5_calls 27 = .ok (.invokevirtual 119, 3) := by decide +kernel
theorem dX5_calls_30 : decode cX5_calls 30 = .ok (.ifCond .ne 6, 3) := by decide +kernel
theorem dX5_calls_33 : decode cX5_calls 33 = .ok (.bipush (-2), 2) := by decide +kernel
theorem dX5_calls_35 : decode cX5_calls 35 = .ok (.ireturn, 1) := by decide +kernel
theorem dX5_calls_36 : decode cX5_calls 36 = .ok (.aload_n 0, 1) := by decide +kernel
theorem dX5_calls_37 : decode cX5_calls 37 = .ok (.iload_n 1, 1) := by decide +kernel
theorem dX5_calls_38 : decode cX5_calls 38 = .ok (.invokevirtual 122, 3) := by decide +kernel
theorem dX5_calls_41 : decode cX5_calls 41 = .ok (.istore_n 3, 1) := by decide +kernel
theorem dX5_calls_42 : decode cX5_calls 42 = .ok (.iconst 0, 1) := by decide +kernel
theorem dX5_calls_43 : decode cX5_calls 43 = .ok (.istore 4, 2) := by decide +kernel
theorem dX5_calls_45 : decode cX5_calls 45 = .ok (.iconst 0, 1) := by decide +kernel
theorem dX5_calls_46 : decode cX5_calls 46 = .ok (.istore 5, 2) := by decide +kernel
theorem dX5_calls_48 : decode cX5_calls 48 = .ok (.iload 5, 2) := by decide +kernel
theorem dX5_calls_50 : decode cX5_calls 50 = .ok (.bipush 12, 2) := by decide +kernel
theorem dX5_calls_52 : decode cX5_calls 52 = .ok (.if_icmp .ge 123, 3) := by decide +kernel
theorem dX5_calls_55 : decode cX5_calls 55 = .ok (.iload_n 3, 1) := by decide +kernel
theorem dX5_calls_56 : decode cX5_calls 56 = .ok (.iload_n 2, 1) := by decide +kernel
theorem dX5_calls_57 : decode cX5_calls 57 = .ok (.iand, 1) := by decide +kernel
theorem dX5_calls_58 : decode cX5_calls 58 = .ok (.iload 5, 2) := by decide +kernel
theorem dX5_calls_60 : decode cX5_calls 60 = .ok (.invokestatic 46, 3) := by decide +kernel
theorem dX5_calls_63 : decode cX5_calls 63 = .ok (.ifCond .eq 91, 3) := by decide +kernel
theorem dX5_calls_66 : decode cX5_calls 66 = .ok (.aload_n 0, 1) := by decide +kernel
theorem dX5_calls_67 : decode cX5_calls 67 = .ok (.getfield 7, 3) := by decide +kernel
theorem dX5_calls_70 : decode cX5_calls 70 = .ok (.bipush 29, 2) := by decide +kernel
theorem dX5_calls_72 : decode cX5_calls 72 = .ok (.bipush 8, 2) := by decide +kernel
theorem dX5_calls_74 : decode cX5_calls 74 = .ok (.iload 5, 2) := by decide +kernel
theorem dX5_calls_76 : decode cX5_calls 76 = .ok (.imul, 1) := by decide +kernel
theorem dX5_calls_77 : decode cX5_calls 77 = .ok (.iadd, 1) := by decide +kernel
theorem dX5_calls_78 : decode cX5_calls 78 = .ok (.bipush 6, 2) := by decide +kernel
theorem dX5_calls_80 : decode cX5_calls 80 = .ok (.iadd, 1) := by decide +kernel
theorem dX5_calls_81 : decode cX5_calls 81 = .ok (.iconst 1, 1) := by decide +kernel
theorem dX5_calls_82 : decode cX5_calls 82 = .ok (.iastore, 1) := by decide +kernel
theorem dX5_calls_83 : decode cX5_calls 83 = .ok (.aload_n 0, 1) := by decide +kernel
theorem dX5_calls_84 : decode cX5_calls 84 = .ok (.getfield 7, 3) := by decide +kernel
theorem dX5_calls_87 : decode cX5_calls 87 = .ok (.bipush 13, 2) := by decide +kernel
theorem dX5_calls_89 : decode cX5_calls 89 = .ok (.iconst 2, 1) := by decide +kernel
theorem dX5_calls_90 : decode cX5_calls 90 = .ok (.aload_n 0, 1) := by decide +kernel
theorem dX5_calls_91 : decode cX5_calls 91 = .ok (.iload 5, 2) := by decide +kernel
theorem dX5_calls_93 : decode cX5_calls 93 = .ok (.iconst 1, 1) := by decide +kernel
theorem dX5_calls_94 : decode cX5_calls 94 = .ok (.invokevirtual 36, 3) := by decide +kernel
theorem dX5_calls_97 : decode cX5_calls 97 = .ok (.imul, 1) := by decide +kernel
theorem dX5_calls_98 : decode cX5_calls 98 = .ok (.iadd, 1) := by decide +kernel
theorem dX5_calls_99 : decode cX5_calls 99 = .ok (.dup2, 1) := by decide +kernel
theorem dX5_calls_100 : decode cX5_calls 100 = .ok (.iaload, 1) := by decide +kernel
theorem dX5_calls_101 : decode cX5_calls 101 = .ok (.aload_n 0, 1) := by decide +kernel
theorem dX5_calls_102 : decode cX5_calls 102 = .ok (.iload 5, 2) := by decide +kernel
theorem dX5_calls_104 : decode cX5_calls 104 = .ok (.iconst 3, 1) := by decide +kernel
theorem dX5_calls_105 : decode cX5_calls 105 = .ok (.invokevirtual 36, 3) := by decide +kernel
theorem dX5_calls_108 : decode cX5_calls 108 = .ok (.isub, 1) := by decide +kernel
theorem dX5_calls_109 : decode cX5_calls 109 = .ok (.iastore, 1) := by decide +kernel
theorem dX5_calls_110 : decode cX5_calls 110 = .ok (.aload_n 0, 1) := by decide +kernel
theorem dX5_calls_111 : decode cX5_calls 111 = .ok (.getfield 7, 3) := by decide +kernel
theorem dX5_calls_114 : decode cX5_calls 114 = .ok (.bipush 13, 2) := by decide +kernel
theorem dX5_calls_116 : decode cX5_calls 116 = .ok (.iconst 2, 1) := by decide +kernel
theorem dX5_calls_117 : decode cX5_calls 117 = .ok (.aload_n 0, 1) := by decide +kernel
theorem dX5_calls_118 : decode cX5_calls 118 = .ok (.iload 5, 2) := by decide +kernel
theorem dX5_calls_120 : decode cX5_calls 120 = .ok (.iconst 1, 1) := by decide +kernel
theorem dX5_calls_121 : decode cX5_calls 121 = .ok (.invokevirtual 36, 3) := by decide +kernel
theorem dX5_calls_124 : decode cX5_calls 124 = .ok (.imul, 1) := by decide +kernel
theorem dX5_calls_125 : decode cX5_calls 125 = .ok (.iadd, 1) := by decide +kernel
theorem dX5_calls_126 : decode cX5_calls 126 = .ok (.iconst 1, 1) := by decide +kernel
theorem dX5_calls_127 : decode cX5_calls 127 = .ok (.iadd, 1) := by decide +kernel
theorem dX5_calls_128 : decode cX5_calls 128 = .ok (.dup2, 1) := by decide +kernel
theorem dX5_calls_129 : decode cX5_calls 129 = .ok (.iaload, 1) := by decide +kernel
theorem dX5_calls_130 : decode cX5_calls 130 = .ok (.aload_n 0, 1) := by decide +kernel
theorem dX5_calls_131 : decode cX5_calls 131 = .ok (.iload 5, 2) := by decide +kernel
theorem dX5_calls_133 : decode cX5_calls 133 = .ok (.iconst 3, 1) := by decide +kernel
theorem dX5_calls_134 : decode cX5_calls 134 = .ok (.invokevirtual 36, 3) := by decide +kernel
theorem dX5_calls_137 : decode cX5_calls 137 = .ok (.iadd, 1) := by decide +kernel
theorem dX5_calls_138 : decode cX5_calls 138 = .ok (.iastore, 1) := by decide +kernel
theorem dX5_calls_139 : decode cX5_calls 139 = .ok (.iload 4, 2) := by decide +kernel
theorem dX5_calls_141 : decode cX5_calls 141 = .ok (.aload_n 0, 1) := by decide +kernel
theorem dX5_calls_142 : decode cX5_calls 142 = .ok (.iload 5, 2) := by decide +kernel
theorem dX5_calls_144 : decode cX5_calls 144 = .ok (.iconst 3, 1) := by decide +kernel
theorem dX5_calls_145 : decode cX5_calls 145 = .ok (.invokevirtual 36, 3) := by decide +kernel
theorem dX5_calls_148 : decode cX5_calls 148 = .ok (.iadd, 1) := by decide +kernel
theorem dX5_calls_149 : decode cX5_calls 149 = .ok (.istore 4, 2) := by decide +kernel
theorem dX5_calls_151 : decode cX5_calls 151 = .ok (.goto 18, 3) := by decide +kernel
theorem dX5_calls_154 : decode cX5_calls 154 = .ok (.iload_n 3, 1) := by decide +kernel
theorem dX5_calls_155 : decode cX5_calls 155 = .ok (.iload 5, 2) := by decide +kernel
theorem dX5_calls_157 : decode cX5_calls 157 = .ok (.invokestatic 46, 3) := by decide +kernel
theorem dX5_calls_160 : decode cX5_calls 160 = .ok (.ifCond .eq 9, 3) := by decide +kernel
theorem dX5_calls_163 : decode cX5_calls 163 = .ok (.aload_n 0, 1) := by decide +kernel
theorem dX5_calls_164 : decode cX5_calls 164 = .ok (.iload 5, 2) := by decide +kernel
theorem dX5_calls_166 : decode cX5_calls 166 = .ok (.invokevirtual 115, 3) := by decide +kernel
theorem dX5_calls_169 : decode cX5_calls 169 = .ok (.iinc 5 1, 3) := by decide +kernel
theorem dX5_calls_172 : decode cX5_calls 172 = .ok (.goto (-124), 3) := by decide +kernel
theorem dX5_calls_175 : decode cX5_calls 175 = .ok (.aload_n 0, 1) := by decide +kernel
theorem dX5_calls_176 : decode cX5_calls 176 = .ok (.getfield 7, 3) := by decide +kernel
theorem dX5_calls_179 : decode cX5_calls 179 = .ok (.iconst 5, 1) := by decide +kernel
theorem dX5_calls_180 : decode cX5_calls 180 = .ok (.iconst 2, 1) := by decide +kernel
theorem dX5_calls_181 : decode cX5_calls 181 = .ok (.iload_n 1, 1) := by decide +kernel
theorem dX5_calls_182 : decode cX5_calls 182 = .ok (.imul, 1) := by decide +kernel
theorem dX5_calls_183 : decode cX5_calls 183 = .ok (.iadd, 1) := by decide +kernel
theorem dX5_calls_184 : decode cX5_calls 184 = .ok (.iconst 1, 1) := by decide +kernel
theorem dX5_calls_185 : decode cX5_calls 185 = .ok (.iadd, 1) := by decide +kernel
theorem dX5_calls_186 : decode cX5_calls 186 = .ok (.iconst 1, 1) := by decide +kernel
theorem dX5_calls_187 : decode cX5_calls 187 = .ok (.iastore, 1) := by decide +kernel
theorem dX5_calls_188 : decode cX5_calls 188 = .ok (.aload_n 0, 1) := by decide +kernel
theorem dX5_calls_189 : decode cX5_calls 189 = .ok (.getfield 7, 3) := by decide +kernel
theorem dX5_calls_192 : decode cX5_calls 192 = .ok (.iconst 4, 1) := by decide +kernel
theorem dX5_calls_193 : decode cX5_calls 193 = .ok (.dup2, 1) := by decide +kernel
theorem dX5_calls_194 : decode cX5_calls 194 = .ok (.iaload, 1) := by decide +kernel
theorem dX5_calls_195 : decode cX5_calls 195 = .ok (.iload 4, 2) := by decide +kernel
theorem dX5_calls_197 : decode cX5_calls 197 = .ok (.iadd, 1) := by decide +kernel
theorem dX5_calls_198 : decode cX5_calls 198 = .ok (.iastore, 1) := by decide +kernel
theorem dX5_calls_199 : decode cX5_calls 199 = .ok (.iload 4, 2) := by decide +kernel
theorem dX5_calls_201 : decode cX5_calls 201 = .ok (.ireturn, 1) := by decide +kernel
theorem dX5_project_0 : decode cX5_project 0 = .ok (.aload_n 0, 1) := by decide +kernel
theorem dX5_project_1 : decode cX5_project 1 = .ok (.invokevirtual 125, 3) := by decide +kernel
theorem dX5_project_4 : decode cX5_project 4 = .ok (.aload_n 0, 1) := by decide +kernel
theorem dX5_project_5 : decode cX5_project 5 = .ok (.aload_n 0, 1) := by decide +kernel
theorem dX5_project_6 : decode cX5_project 6 = .ok (.iload_n 1, 1) := by decide +kernel
theorem dX5_project_7 : decode cX5_project 7 = .ok (.invokevirtual 128, 3) := by decide +kernel
theorem dX5_project_10 : decode cX5_project 10 = .ok (.invokevirtual 131, 3) := by decide +kernel
theorem dX5_project_13 : decode cX5_project 13 = .ok (.ireturn, 1) := by decide +kernel
theorem dX5_person_0 : decode cX5_person 0 = .ok (.aload_n 0, 1) := by decide +kernel
theorem dX5_person_1 : decode cX5_person 1 = .ok (.invokevirtual 125, 3) := by decide +kernel
theorem dX5_person_4 : decode cX5_person 4 = .ok (.aload_n 0, 1) := by decide +kernel
theorem dX5_person_5 : decode cX5_person 5 = .ok (.aload_n 0, 1) := by decide +kernel
theorem dX5_person_6 : decode cX5_person 6 = .ok (.iload_n 1, 1) := by decide +kernel
theorem dX5_person_7 : decode cX5_person 7 = .ok (.invokevirtual 134, 3) := by decide +kernel
theorem dX5_person_10 : decode cX5_person 10 = .ok (.invokevirtual 131, 3) := by decide +kernel
theorem dX5_person_13 : decode cX5_person 13 = .ok (.ireturn, 1) := by decide +kernel
theorem dX5_pledge_0 : decode cX5_pledge 0 = .ok (.aload_n 0, 1) := by decide +kernel
theorem dX5_pledge_1 : decode cX5_pledge 1 = .ok (.invokevirtual 125, 3) := by decide +kernel
theorem dX5_pledge_4 : decode cX5_pledge 4 = .ok (.aload_n 0, 1) := by decide +kernel
theorem dX5_pledge_5 : decode cX5_pledge 5 = .ok (.aload_n 0, 1) := by decide +kernel
theorem dX5_pledge_6 : decode cX5_pledge 6 = .ok (.iload_n 1, 1) := by decide +kernel
theorem dX5_pledge_7 : decode cX5_pledge 7 = .ok (.iload_n 2, 1) := by decide +kernel
theorem dX5_pledge_8 : decode cX5_pledge 8 = .ok (.iload_n 3, 1) := by decide +kernel
theorem dX5_pledge_9 : decode cX5_pledge 9 = .ok (.iload 4, 2) := by decide +kernel
theorem dX5_pledge_11 : decode cX5_pledge 11 = .ok (.iload 5, 2) := by decide +kernel
theorem dX5_pledge_13 : decode cX5_pledge 13 = .ok (.invokevirtual 137, 3) := by decide +kernel
theorem dX5_pledge_16 : decode cX5_pledge 16 = .ok (.invokevirtual 131, 3) := by decide +kernel
theorem dX5_pledge_19 : decode cX5_pledge 19 = .ok (.ireturn, 1) := by decide +kernel
theorem dX5_withdraw_0 : decode cX5_withdraw 0 = .ok (.aload_n 0, 1) := by decide +kernel
theorem dX5_withdraw_1 : decode cX5_withdraw 1 = .ok (.invokevirtual 125, 3) := by decide +kernel
theorem dX5_withdraw_4 : decode cX5_withdraw 4 = .ok (.aload_n 0, 1) := by decide +kernel
theorem dX5_withdraw_5 : decode cX5_withdraw 5 = .ok (.aload_n 0, 1) := by decide +kernel
theorem dX5_withdraw_6 : decode cX5_withdraw 6 = .ok (.iload_n 1, 1) := by decide +kernel
theorem dX5_withdraw_7 : decode cX5_withdraw 7 = .ok (.invokevirtual 141, 3) := by decide +kernel
theorem dX5_withdraw_10 : decode cX5_withdraw 10 = .ok (.invokevirtual 131, 3) := by decide +kernel
theorem dX5_withdraw_13 : decode cX5_withdraw 13 = .ok (.ireturn, 1) := by decide +kernel
theorem dX5_callIn_0 : decode cX5_callIn 0 = .ok (.aload_n 0, 1) := by decide +kernel
theorem dX5_callIn_1 : decode cX5_callIn 1 = .ok (.invokevirtual 125, 3) := by decide +kernel
theorem dX5_callIn_4 : decode cX5_callIn 4 = .ok (.aload_n 0, 1) := by decide +kernel
theorem dX5_callIn_5 : decode cX5_callIn 5 = .ok (.aload_n 0, 1) := by decide +kernel
theorem dX5_callIn_6 : decode cX5_callIn 6 = .ok (.iload_n 1, 1) := by decide +kernel
theorem dX5_callIn_7 : decode cX5_callIn 7 = .ok (.invokevirtual 144, 3) := by decide +kernel
theorem dX5_callIn_10 : decode cX5_callIn 10 = .ok (.invokevirtual 131, 3) := by decide +kernel
theorem dX5_callIn_13 : decode cX5_callIn 13 = .ok (.ireturn, 1) := by decide +kernel
theorem dX5_pledgeOf_0 : decode cX5_pledgeOf 0 = .ok (.aload_n 0, 1) := by decide +kernel
theorem dX5_pledgeOf_1 : decode cX5_pledgeOf 1 = .ok (.iload_n 1, 1) := by decide +kernel
theorem dX5_pledgeOf_2 : decode cX5_pledgeOf 2 = .ok (.invokevirtual 109, 3) := by decide +kernel
theorem dX5_pledgeOf_5 : decode cX5_pledgeOf 5 = .ok (.ifCond .eq 13, 3) := by decide +kernel
theorem dX5_pledgeOf_8 : decode cX5_pledgeOf 8 = .ok (.iload_n 2, 1) := by decide +kernel
theorem dX5_pledgeOf_9 : decode cX5_pledgeOf 9 = .ok (.iconst 0, 1) := by decide +kernel
theorem dX5_pledgeOf_10 : decode cX5_pledgeOf 10 = .ok (.bipush 9, 2) := by decide +kernel
theorem dX5_pledgeOf_12 : decode cX5_pledgeOf 12 = .ok (.invokestatic 32, 3) := by decide +kernel
theorem dX5_pledgeOf_15 : decode cX5_pledgeOf 15 = .ok (.ifCond .ne 5, 3) := by decide +kernel
theorem dX5_pledgeOf_18 : decode cX5_pledgeOf 18 = .ok (.iconst (-1), 1) := by decide +kernel
theorem dX5_pledgeOf_19 : decode cX5_pledgeOf 19 = .ok (.ireturn, 1) := by decide +kernel
theorem dX5_pledgeOf_20 : decode cX5_pledgeOf 20 = .ok (.aload_n 0, 1) := by decide +kernel
theorem dX5_pledgeOf_21 : decode cX5_pledgeOf 21 = .ok (.iconst 0, 1) := by decide +kernel
theorem dX5_pledgeOf_22 : decode cX5_pledgeOf 22 = .ok (.invokevirtual 112, 3) := by decide +kernel
theorem dX5_pledgeOf_25 : decode cX5_pledgeOf 25 = .ok (.istore_n 3, 1) := by decide +kernel
theorem dX5_pledgeOf_26 : decode cX5_pledgeOf 26 = .ok (.iload_n 3, 1) := by decide +kernel
theorem dX5_pledgeOf_27 : decode cX5_pledgeOf 27 = .ok (.iload_n 1, 1) := by decide +kernel
theorem dX5_pledgeOf_28 : decode cX5_pledgeOf 28 = .ok (.invokestatic 46, 3) := by decide +kernel
theorem dX5_pledgeOf_31 : decode cX5_pledgeOf 31 = .ok (.istore 4, 2) := by decide +kernel
theorem dX5_pledgeOf_33 : decode cX5_pledgeOf 33 = .ok (.iload_n 2, 1) := by decide +kernel
theorem dX5_pledgeOf_34 : decode cX5_pledgeOf 34 = .ok (.tableswitch 95 0 8 #[50, 50, 50, 50, 50, 50, 59, 70, 87], 50) := by decide +kernel
theorem dX5_pledgeOf_84 : decode cX5_pledgeOf 84 = .ok (.aload_n 0, 1) := by decide +kernel
theorem dX5_pledgeOf_85 : decode cX5_pledgeOf 85 = .ok (.iload_n 1, 1) := by decide +kernel
theorem dX5_pledgeOf_86 : decode cX5_pledgeOf 86 = .ok (.iload_n 2, 1) := by decide +kernel
theorem dX5_pledgeOf_87 : decode cX5_pledgeOf 87 = .ok (.iconst 1, 1) := by decide +kernel
theorem dX5_pledgeOf_88 : decode cX5_pledgeOf 88 = .ok (.iadd, 1) := by decide +kernel
theorem dX5_pledgeOf_89 : decode cX5_pledgeOf 89 = .ok (.invokevirtual 36, 3) := by decide +kernel
theorem dX5_pledgeOf_92 : decode cX5_pledgeOf 92 = .ok (.ireturn, 1) := by decide +kernel
theorem dX5_pledgeOf_93 : decode cX5_pledgeOf 93 = .ok (.iload 4, 2) := by decide +kernel
theorem dX5_pledgeOf_95 : decode cX5_pledgeOf 95 = .ok (.ifCond .eq 7, 3) := by decide +kernel
theorem dX5_pledgeOf_98 : decode cX5_pledgeOf 98 = .ok (.iconst 1, 1) := by decide +kernel
theorem dX5_pledgeOf_99 : decode cX5_pledgeOf 99 = .ok (.goto 4, 3) := by decide +kernel
theorem dX5_pledgeOf_102 : decode cX5_pledgeOf 102 = .ok (.iconst 0, 1) := by decide +kernel
theorem dX5_pledgeOf_103 : decode cX5_pledgeOf 103 = .ok (.ireturn, 1) := by decide +kernel
theorem dX5_pledgeOf_104 : decode cX5_pledgeOf 104 = .ok (.iload 4, 2) := by decide +kernel
theorem dX5_pledgeOf_106 : decode cX5_pledgeOf 106 = .ok (.ifCond .eq 8, 3) := by decide +kernel
theorem dX5_pledgeOf_109 : decode cX5_pledgeOf 109 = .ok (.bipush (-4), 2) := by decide +kernel
theorem dX5_pledgeOf_111 : decode cX5_pledgeOf 111 = .ok (.goto 9, 3) := by decide +kernel
theorem dX5_pledgeOf_114 : decode cX5_pledgeOf 114 = .ok (.aload_n 0, 1) := by decide +kernel
theorem dX5_pledgeOf_115 : decode cX5_pledgeOf 115 = .ok (.getfield 26, 3) := by decide +kernel
theorem dX5_pledgeOf_118 : decode cX5_pledgeOf 118 = .ok (.iload_n 1, 1) := by decide +kernel
theorem dX5_pledgeOf_119 : decode cX5_pledgeOf 119 = .ok (.iaload, 1) := by decide +kernel
theorem dX5_pledgeOf_120 : decode cX5_pledgeOf 120 = .ok (.ireturn, 1) := by decide +kernel
theorem dX5_pledgeOf_121 : decode cX5_pledgeOf 121 = .ok (.aload_n 0, 1) := by decide +kernel
theorem dX5_pledgeOf_122 : decode cX5_pledgeOf 122 = .ok (.iload_n 1, 1) := by decide +kernel
theorem dX5_pledgeOf_123 : decode cX5_pledgeOf 123 = .ok (.bipush 7, 2) := by decide +kernel
theorem dX5_pledgeOf_125 : decode cX5_pledgeOf 125 = .ok (.invokevirtual 36, 3) := by decide +kernel
theorem dX5_pledgeOf_128 : decode cX5_pledgeOf 128 = .ok (.ireturn, 1) := by decide +kernel
theorem dX5_pledgeOf_129 : decode cX5_pledgeOf 129 = .ok (.aload_n 0, 1) := by decide +kernel
theorem dX5_pledgeOf_130 : decode cX5_pledgeOf 130 = .ok (.iload_n 1, 1) := by decide +kernel
theorem dX5_pledgeOf_131 : decode cX5_pledgeOf 131 = .ok (.bipush 6, 2) := by decide +kernel
theorem dX5_pledgeOf_133 : decode cX5_pledgeOf 133 = .ok (.invokevirtual 36, 3) := by decide +kernel
theorem dX5_pledgeOf_136 : decode cX5_pledgeOf 136 = .ok (.iconst 1, 1) := by decide +kernel
theorem dX5_pledgeOf_137 : decode cX5_pledgeOf 137 = .ok (.if_icmp .ne 8, 3) := by decide +kernel
theorem dX5_pledgeOf_140 : decode cX5_pledgeOf 140 = .ok (.bipush (-2), 2) := by decide +kernel
theorem dX5_pledgeOf_142 : decode cX5_pledgeOf 142 = .ok (.goto 20, 3) := by decide +kernel
theorem dX5_pledgeOf_145 : decode cX5_pledgeOf 145 = .ok (.iload_n 3, 1) := by decide +kernel
theorem dX5_pledgeOf_146 : decode cX5_pledgeOf 146 = .ok (.aload_n 0, 1) := by decide +kernel
theorem dX5_pledgeOf_147 : decode cX5_pledgeOf 147 = .ok (.iconst 1, 1) := by decide +kernel
theorem dX5_pledgeOf_148 : decode cX5_pledgeOf 148 = .ok (.iload_n 1, 1) := by decide +kernel
theorem dX5_pledgeOf_149 : decode cX5_pledgeOf 149 = .ok (.ishl, 1) := by decide +kernel
theorem dX5_pledgeOf_150 : decode cX5_pledgeOf 150 = .ok (.invokevirtual 112, 3) := by decide +kernel
theorem dX5_pledgeOf_153 : decode cX5_pledgeOf 153 = .ok (.iconst (-1), 1) := by decide +kernel
theorem dX5_pledgeOf_154 : decode cX5_pledgeOf 154 = .ok (.ixor, 1) := by decide +kernel
theorem dX5_pledgeOf_155 : decode cX5_pledgeOf 155 = .ok (.iand, 1) := by decide +kernel
theorem dX5_pledgeOf_156 : decode cX5_pledgeOf 156 = .ok (.iconst 1, 1) := by decide +kernel
theorem dX5_pledgeOf_157 : decode cX5_pledgeOf 157 = .ok (.iload_n 1, 1) := by decide +kernel
theorem dX5_pledgeOf_158 : decode cX5_pledgeOf 158 = .ok (.ishl, 1) := by decide +kernel
theorem dX5_pledgeOf_159 : decode cX5_pledgeOf 159 = .ok (.iconst (-1), 1) := by decide +kernel
theorem dX5_pledgeOf_160 : decode cX5_pledgeOf 160 = .ok (.ixor, 1) := by decide +kernel
theorem dX5_pledgeOf_161 : decode cX5_pledgeOf 161 = .ok (.iand, 1) := by decide +kernel
theorem dX5_pledgeOf_162 : decode cX5_pledgeOf 162 = .ok (.ireturn, 1) := by decide +kernel
theorem dX5_tipOf_0 : decode cX5_tipOf 0 = .ok (.aload_n 0, 1) := by decide +kernel
theorem dX5_tipOf_1 : decode cX5_tipOf 1 = .ok (.iconst 1, 1) := by decide +kernel
theorem dX5_tipOf_2 : decode cX5_tipOf 2 = .ok (.iconst 1, 1) := by decide +kernel
theorem dX5_tipOf_3 : decode cX5_tipOf 3 = .ok (.invokevirtual 72, 3) := by decide +kernel
theorem dX5_tipOf_6 : decode cX5_tipOf 6 = .ok (.istore_n 2, 1) := by decide +kernel
theorem dX5_tipOf_7 : decode cX5_tipOf 7 = .ok (.iconst 0, 1) := by decide +kernel
theorem dX5_tipOf_8 : decode cX5_tipOf 8 = .ok (.istore_n 3, 1) := by decide +kernel
theorem dX5_tipOf_9 : decode cX5_tipOf 9 = .ok (.iload_n 3, 1) := by decide +kernel
theorem dX5_tipOf_10 : decode cX5_tipOf 10 = .ok (.iload_n 2, 1) := by decide +kernel
theorem dX5_tipOf_11 : decode cX5_tipOf 11 = .ok (.if_icmp .eq 112, 3) := by decide +kernel
theorem dX5_tipOf_14 : decode cX5_tipOf 14 = .ok (.iconst (-1), 1) := by decide +kernel
theorem dX5_tipOf_15 : decode cX5_tipOf 15 = .ok (.istore 4, 2) := by decide +kernel
theorem dX5_tipOf_17 : decode cX5_tipOf 17 = .ok (.iconst 0, 1) := by decide +kernel
theorem dX5_tipOf_18 : decode cX5_tipOf 18 = .ok (.istore 5, 2) := by decide +kernel
theorem dX5_tipOf_20 : decode cX5_tipOf 20 = .ok (.iload 5, 2) := by decide +kernel
theorem dX5_tipOf_22 : decode cX5_tipOf 22 = .ok (.bipush 12, 2) := by decide +kernel
theorem dX5_tipOf_24 : decode cX5_tipOf 24 = .ok (.if_icmp .ge 55, 3) := by decide +kernel
theorem dX5_tipOf_27 : decode cX5_tipOf 27 = .ok (.iload_n 2, 1) := by decide +kernel
theorem dX5_tipOf_28 : decode cX5_tipOf 28 = .ok (.iload_n 3, 1) := by decide +kernel
theorem dX5_tipOf_29 : decode cX5_tipOf 29 = .ok (.iconst (-1), 1) := by decide +kernel
theorem dX5_tipOf_30 : decode cX5_tipOf 30 = .ok (.ixor, 1) := by decide +kernel
theorem dX5_tipOf_31 : decode cX5_tipOf 31 = .ok (.iand, 1) := by decide +kernel
theorem dX5_tipOf_32 : decode cX5_tipOf 32 = .ok (.iload 5, 2) := by decide +kernel
theorem dX5_tipOf_34 : decode cX5_tipOf 34 = .ok (.invokestatic 46, 3) := by decide +kernel
theorem dX5_tipOf_37 : decode cX5_tipOf 37 = .ok (.ifCond .eq 32, 3) := by decide +kernel
theorem dX5_tipOf_40 : decode cX5_tipOf 40 = .ok (.iload 4, 2) := by decide +kernel
theorem dX5_tipOf_42 : decode cX5_tipOf 42 = .ok (.ifCond .lt 22, 3) := by decide +kernel
theorem dX5_tipOf_45 : decode cX5_tipOf 45 = .ok (.aload_n 0, 1) := by decide +kernel
theorem dX5_tipOf_46 : decode cX5_tipOf 46 = .ok (.iload 5, 2) := by decide +kernel
theorem dX5_tipOf_48 : decode cX5_tipOf 48 = .ok (.bipush 7, 2) := by decide +kernel
theorem dX5_tipOf_50 : decode cX5_tipOf 50 = .ok (.invokevirtual 36, 3) := by decide +kernel
theorem dX5_tipOf_53 : decode cX5_tipOf 53 = .ok (.aload_n 0, 1) := by decide +kernel
theorem dX5_tipOf_54 : decode cX5_tipOf 54 = .ok (.iload 4, 2) := by decide +kernel
theorem dX5_tipOf_56 : decode cX5_tipOf 56 = .ok (.bipush 7, 2) := by decide +kernel
theorem dX5_tipOf_58 : decode cX5_tipOf 58 = .ok (.invokevirtual 36, 3) := by decide +kernel
theorem dX5_tipOf_61 : decode cX5_tipOf 61 = .ok (.if_icmp .ge 8, 3) := by decide +kernel
theorem dX5_tipOf_64 : decode cX5_tipOf 64 = .ok (.iload 5, 2) := by decide +kernel
theorem dX5_tipOf_66 : decode cX5_tipOf 66 = .ok (.goto 5, 3) := by decide +kernel
theorem dX5_tipOf_69 : decode cX5_tipOf 69 = .ok (.iload 4, 2) := by decide +kernel
theorem dX5_tipOf_71 : decode cX5_tipOf 71 = .ok (.istore 4, 2) := by decide +kernel
theorem dX5_tipOf_73 : decode cX5_tipOf 73 = .ok (.iinc 5 1, 3) := by decide +kernel
theorem dX5_tipOf_76 : decode cX5_tipOf 76 = .ok (.goto (-56), 3) := by decide +kernel
theorem dX5_tipOf_79 : decode cX5_tipOf 79 = .ok (.iload_n 3, 1) := by decide +kernel
theorem dX5_tipOf_80 : decode cX5_tipOf 80 = .ok (.iconst 1, 1) := by decide +kernel
theorem dX5_tipOf_81 : decode cX5_tipOf 81 = .ok (.iload 4, 2) := by decide +kernel
theorem dX5_tipOf_83 : decode cX5_tipOf 83 = .ok (.ishl, 1) := by decide +kernel
theorem dX5_tipOf_84 : decode cX5_tipOf 84 = .ok (.ior, 1) := by decide +kernel
theorem dX5_tipOf_85 : decode cX5_tipOf 85 = .ok (.istore_n 3, 1) := by decide +kernel
theorem dX5_tipOf_86 : decode cX5_tipOf 86 = .ok (.aload_n 0, 1) := by decide +kernel
theorem dX5_tipOf_87 : decode cX5_tipOf 87 = .ok (.invokevirtual 76, 3) := by decide +kernel
theorem dX5_tipOf_90 : decode cX5_tipOf 90 = .ok (.iload_n 3, 1) := by decide +kernel
theorem dX5_tipOf_91 : decode cX5_tipOf 91 = .ok (.iand, 1) := by decide +kernel
theorem dX5_tipOf_92 : decode cX5_tipOf 92 = .ok (.istore 5, 2) := by decide +kernel
theorem dX5_tipOf_94 : decode cX5_tipOf 94 = .ok (.aload_n 0, 1) := by decide +kernel
theorem dX5_tipOf_95 : decode cX5_tipOf 95 = .ok (.aload_n 0, 1) := by decide +kernel
theorem dX5_tipOf_96 : decode cX5_tipOf 96 = .ok (.aload_n 0, 1) := by decide +kernel
theorem dX5_tipOf_97 : decode cX5_tipOf 97 = .ok (.invokevirtual 80, 3) := by decide +kernel
theorem dX5_tipOf_100 : decode cX5_tipOf 100 = .ok (.iload_n 3, 1) := by decide +kernel
theorem dX5_tipOf_101 : decode cX5_tipOf 101 = .ok (.iand, 1) := by decide +kernel
theorem dX5_tipOf_102 : decode cX5_tipOf 102 = .ok (.iload 5, 2) := by decide +kernel
theorem dX5_tipOf_104 : decode cX5_tipOf 104 = .ok (.invokevirtual 83, 3) := by decide +kernel
theorem dX5_tipOf_107 : decode cX5_tipOf 107 = .ok (.iload 5, 2) := by decide +kernel
theorem dX5_tipOf_109 : decode cX5_tipOf 109 = .ok (.ior, 1) := by decide +kernel
theorem dX5_tipOf_110 : decode cX5_tipOf 110 = .ok (.iload_n 1, 1) := by decide +kernel
theorem dX5_tipOf_111 : decode cX5_tipOf 111 = .ok (.invokevirtual 119, 3) := by decide +kernel
theorem dX5_tipOf_114 : decode cX5_tipOf 114 = .ok (.ifCond .eq 6, 3) := by decide +kernel
theorem dX5_tipOf_117 : decode cX5_tipOf 117 = .ok (.iload 4, 2) := by decide +kernel
theorem dX5_tipOf_119 : decode cX5_tipOf 119 = .ok (.ireturn, 1) := by decide +kernel
theorem dX5_tipOf_120 : decode cX5_tipOf 120 = .ok (.goto (-111), 3) := by decide +kernel
theorem dX5_tipOf_123 : decode cX5_tipOf 123 = .ok (.bipush (-4), 2) := by decide +kernel
theorem dX5_tipOf_125 : decode cX5_tipOf 125 = .ok (.ireturn, 1) := by decide +kernel
theorem dX5_neededFor_0 : decode cX5_neededFor 0 = .ok (.iconst 0, 1) := by decide +kernel
theorem dX5_neededFor_1 : decode cX5_neededFor 1 = .ok (.istore_n 2, 1) := by decide +kernel
theorem dX5_neededFor_2 : decode cX5_neededFor 2 = .ok (.aload_n 0, 1) := by decide +kernel
theorem dX5_neededFor_3 : decode cX5_neededFor 3 = .ok (.invokevirtual 80, 3) := by decide +kernel
theorem dX5_neededFor_6 : decode cX5_neededFor 6 = .ok (.istore_n 3, 1) := by decide +kernel
theorem dX5_neededFor_7 : decode cX5_neededFor 7 = .ok (.iconst 0, 1) := by decide +kernel
theorem dX5_neededFor_8 : decode cX5_neededFor 8 = .ok (.istore 4, 2) := by decide +kernel
theorem dX5_neededFor_10 : decode cX5_neededFor 10 = .ok (.iload 4, 2) := by decide +kernel
theorem dX5_neededFor_12 : decode cX5_neededFor 12 = .ok (.bipush 12, 2) := by decide +kernel
theorem dX5_neededFor_14 : decode cX5_neededFor 14 = .ok (.if_icmp .ge 45, 3) := by decide +kernel
theorem dX5_neededFor_17 : decode cX5_neededFor 17 = .ok (.iload_n 2, 1) := by decide +kernel
theorem dX5_neededFor_18 : decode cX5_neededFor 18 = .ok (.iload_n 3, 1) := by decide +kernel
theorem dX5_neededFor_19 : decode cX5_neededFor 19 = .ok (.iload 4, 2) := by decide +kernel
theorem dX5_neededFor_21 : decode cX5_neededFor 21 = .ok (.invokestatic 46, 3) := by decide +kernel
theorem dX5_neededFor_24 : decode cX5_neededFor 24 = .ok (.ifCond .eq 26, 3) := by decide +kernel
theorem dX5_neededFor_27 : decode cX5_neededFor 27 = .ok (.aload_n 0, 1) := by decide +kernel
theorem dX5_neededFor_28 : decode cX5_neededFor 28 = .ok (.aload_n 0, 1) := by decide +kernel
theorem dX5_neededFor_29 : decode cX5_neededFor 29 = .ok (.iconst 1, 1) := by decide +kernel
theorem dX5_neededFor_30 : decode cX5_neededFor 30 = .ok (.iload 4, 2) := by decide +kernel
theorem dX5_neededFor_32 : decode cX5_neededFor 32 = .ok (.ishl, 1) := by decide +kernel
theorem dX5_neededFor_33 : decode cX5_neededFor 33 = .ok (.invokevirtual 112, 3) := by decide +kernel
theorem dX5_neededFor_36 : decode cX5_neededFor 36 = .ok (.iload_n 1, 1) := by decide +kernel
theorem dX5_neededFor_37 : decode cX5_neededFor 37 = .ok (.invokevirtual 119, 3) := by decide +kernel
theorem dX5_neededFor_40 : decode cX5_neededFor 40 = .ok (.ifCond .ne 10, 3) := by decide +kernel
theorem dX5_neededFor_43 : decode cX5_neededFor 43 = .ok (.iconst 1, 1) := by decide +kernel
theorem dX5_neededFor_44 : decode cX5_neededFor 44 = .ok (.iload 4, 2) := by decide +kernel
theorem dX5_neededFor_46 : decode cX5_neededFor 46 = .ok (.ishl, 1) := by decide +kernel
theorem dX5_neededFor_47 : decode cX5_neededFor 47 = .ok (.goto 4, 3) := by decide +kernel
theorem dX5_neededFor_50 : decode cX5_neededFor 50 = .ok (.iconst 0, 1) := by decide +kernel
theorem dX5_neededFor_51 : decode cX5_neededFor 51 = .ok (.ior, 1) := by decide +kernel
theorem dX5_neededFor_52 : decode cX5_neededFor 52 = .ok (.istore_n 2, 1) := by decide +kernel
theorem dX5_neededFor_53 : decode cX5_neededFor 53 = .ok (.iinc 4 1, 3) := by decide +kernel
theorem dX5_neededFor_56 : decode cX5_neededFor 56 = .ok (.goto (-46), 3) := by decide +kernel
theorem dX5_neededFor_59 : decode cX5_neededFor 59 = .ok (.iload_n 2, 1) := by decide +kernel
theorem dX5_neededFor_60 : decode cX5_neededFor 60 = .ok (.ireturn, 1) := by decide +kernel
theorem dX5_pushOf_0 : decode cX5_pushOf 0 = .ok (.aload_n 0, 1) := by decide +kernel
theorem dX5_pushOf_1 : decode cX5_pushOf 1 = .ok (.aload_n 0, 1) := by decide +kernel
theorem dX5_pushOf_2 : decode cX5_pushOf 2 = .ok (.iconst 0, 1) := by decide +kernel
theorem dX5_pushOf_3 : decode cX5_pushOf 3 = .ok (.invokevirtual 112, 3) := by decide +kernel
theorem dX5_pushOf_6 : decode cX5_pushOf 6 = .ok (.iload_n 1, 1) := by decide +kernel
theorem dX5_pushOf_7 : decode cX5_pushOf 7 = .ok (.invokevirtual 119, 3) := by decide +kernel
theorem dX5_pushOf_10 : decode cX5_pushOf 10 = .ok (.ifCond .eq 5, 3) := by decide +kernel
theorem dX5_pushOf_13 : decode cX5_pushOf 13 = .ok (.iconst 0, 1) := by decide +kernel
theorem dX5_pushOf_14 : decode cX5_pushOf 14 = .ok (.ireturn, 1) := by decide +kernel
theorem dX5_pushOf_15 : decode cX5_pushOf 15 = .ok (.aload_n 0, 1) := by decide +kernel
theorem dX5_pushOf_16 : decode cX5_pushOf 16 = .ok (.iload_n 1, 1) := by decide +kernel
theorem dX5_pushOf_17 : decode cX5_pushOf 17 = .ok (.putfield 22, 3) := by decide +kernel
theorem dX5_pushOf_20 : decode cX5_pushOf 20 = .ok (.aload_n 0, 1) := by decide +kernel
theorem dX5_pushOf_21 : decode cX5_pushOf 21 = .ok (.iconst 1, 1) := by decide +kernel
theorem dX5_pushOf_22 : decode cX5_pushOf 22 = .ok (.putfield 43, 3) := by decide +kernel
theorem dX5_pushOf_25 : decode cX5_pushOf 25 = .ok (.aload_n 0, 1) := by decide +kernel
theorem dX5_pushOf_26 : decode cX5_pushOf 26 = .ok (.aload_n 0, 1) := by decide +kernel
theorem dX5_pushOf_27 : decode cX5_pushOf 27 = .ok (.iconst 0, 1) := by decide +kernel
theorem dX5_pushOf_28 : decode cX5_pushOf 28 = .ok (.invokevirtual 112, 3) := by decide +kernel
theorem dX5_pushOf_31 : decode cX5_pushOf 31 = .ok (.iload_n 1, 1) := by decide +kernel
theorem dX5_pushOf_32 : decode cX5_pushOf 32 = .ok (.invokevirtual 119, 3) := by decide +kernel
theorem dX5_pushOf_35 : decode cX5_pushOf 35 = .ok (.ifCond .ne 16, 3) := by decide +kernel
theorem dX5_pushOf_38 : decode cX5_pushOf 38 = .ok (.aload_n 0, 1) := by decide +kernel
theorem dX5_pushOf_39 : decode cX5_pushOf 39 = .ok (.dup, 1) := by decide +kernel
theorem dX5_pushOf_40 : decode cX5_pushOf 40 = .ok (.getfield 43, 3) := by decide +kernel
theorem dX5_pushOf_43 : decode cX5_pushOf 43 = .ok (.iconst 1, 1) := by decide +kernel
theorem dX5_pushOf_44 : decode cX5_pushOf 44 = .ok (.iadd, 1) := by decide +kernel
theorem dX5_pushOf_45 : decode cX5_pushOf 45 = .ok (.putfield 43, 3) := by decide +kernel
theorem dX5_pushOf_48 : decode cX5_pushOf 48 = .ok (.goto (-23), 3) := by decide +kernel
theorem dX5_pushOf_51 : decode cX5_pushOf 51 = .ok (.aload_n 0, 1) := by decide +kernel
theorem dX5_pushOf_52 : decode cX5_pushOf 52 = .ok (.iconst (-1), 1) := by decide +kernel
theorem dX5_pushOf_53 : decode cX5_pushOf 53 = .ok (.putfield 22, 3) := by decide +kernel
theorem dX5_pushOf_56 : decode cX5_pushOf 56 = .ok (.aload_n 0, 1) := by decide +kernel
theorem dX5_pushOf_57 : decode cX5_pushOf 57 = .ok (.getfield 43, 3) := by decide +kernel
theorem dX5_pushOf_60 : decode cX5_pushOf 60 = .ok (.ireturn, 1) := by decide +kernel
theorem dX5_projectOf_0 : decode cX5_projectOf 0 = .ok (.aload_n 0, 1) := by decide +kernel
theorem dX5_projectOf_1 : decode cX5_projectOf 1 = .ok (.iload_n 1, 1) := by decide +kernel
theorem dX5_projectOf_2 : decode cX5_projectOf 2 = .ok (.invokevirtual 90, 3) := by decide +kernel
theorem dX5_projectOf_5 : decode cX5_projectOf 5 = .ok (.ifCond .eq 13, 3) := by decide +kernel
theorem dX5_projectOf_8 : decode cX5_projectOf 8 = .ok (.iload_n 2, 1) := by decide +kernel
theorem dX5_projectOf_9 : decode cX5_projectOf 9 = .ok (.iconst 0, 1) := by decide +kernel
theorem dX5_projectOf_10 : decode cX5_projectOf 10 = .ok (.bipush 9, 2) := by decide +kernel
theorem dX5_projectOf_12 : decode cX5_projectOf 12 = .ok (.invokestatic 32, 3) := by decide +kernel
theorem dX5_projectOf_15 : decode cX5_projectOf 15 = .ok (.ifCond .ne 5, 3) := by decide +kernel
theorem dX5_projectOf_18 : decode cX5_projectOf 18 = .ok (.iconst (-1), 1) := by decide +kernel
theorem dX5_projectOf_19 : decode cX5_projectOf 19 = .ok (.ireturn, 1) := by decide +kernel
theorem dX5_projectOf_20 : decode cX5_projectOf 20 = .ok (.aload_n 0, 1) := by decide +kernel
theorem dX5_projectOf_21 : decode cX5_projectOf 21 = .ok (.iconst 0, 1) := by decide +kernel
theorem dX5_projectOf_22 : decode cX5_projectOf 22 = .ok (.invokevirtual 112, 3) := by decide +kernel
theorem dX5_projectOf_25 : decode cX5_projectOf 25 = .ok (.istore_n 3, 1) := by decide +kernel
theorem dX5_projectOf_26 : decode cX5_projectOf 26 = .ok (.aload_n 0, 1) := by decide +kernel
theorem dX5_projectOf_27 : decode cX5_projectOf 27 = .ok (.iload_n 1, 1) := by decide +kernel
theorem dX5_projectOf_28 : decode cX5_projectOf 28 = .ok (.invokevirtual 122, 3) := by decide +kernel
theorem dX5_projectOf_31 : decode cX5_projectOf 31 = .ok (.istore 4, 2) := by decide +kernel
theorem dX5_projectOf_33 : decode cX5_projectOf 33 = .ok (.aload_n 0, 1) := by decide +kernel
theorem dX5_projectOf_34 : decode cX5_projectOf 34 = .ok (.iload_n 3, 1) := by decide +kernel
theorem dX5_projectOf_35 : decode cX5_projectOf 35 = .ok (.iload_n 1, 1) := by decide +kernel
theorem dX5_projectOf_36 : decode cX5_projectOf 36 = .ok (.invokevirtual 119, 3) := by decide +kernel
theorem dX5_projectOf_39 : decode cX5_projectOf 39 = .ok (.istore 5, 2) := by decide +kernel
theorem dX5_projectOf_41 : decode cX5_projectOf 41 = .ok (.iload_n 2, 1) := by decide +kernel
theorem dX5_projectOf_42 : decode cX5_projectOf 42 = .ok (.tableswitch 137 0 8 #[50, 56, 63, 72, 83, 97, 100, 105, 121], 50) := by decide +kernel
theorem dX5_projectOf_92 : decode cX5_projectOf 92 = .ok (.aload_n 0, 1) := by decide +kernel
theorem dX5_projectOf_93 : decode cX5_projectOf 93 = .ok (.iload_n 1, 1) := by decide +kernel
theorem dX5_projectOf_94 : decode cX5_projectOf 94 = .ok (.invokevirtual 59, 3) := by decide +kernel
theorem dX5_projectOf_97 : decode cX5_projectOf 97 = .ok (.ireturn, 1) := by decide +kernel
theorem dX5_projectOf_98 : decode cX5_projectOf 98 = .ok (.aload_n 0, 1) := by decide +kernel
theorem dX5_projectOf_99 : decode cX5_projectOf 99 = .ok (.iload 4, 2) := by decide +kernel
theorem dX5_projectOf_101 : decode cX5_projectOf 101 = .ok (.invokevirtual 103, 3) := by decide +kernel
theorem dX5_projectOf_104 : decode cX5_projectOf 104 = .ok (.ireturn, 1) := by decide +kernel
theorem dX5_projectOf_105 : decode cX5_projectOf 105 = .ok (.aload_n 0, 1) := by decide +kernel
theorem dX5_projectOf_106 : decode cX5_projectOf 106 = .ok (.iload 4, 2) := by decide +kernel
theorem dX5_projectOf_108 : decode cX5_projectOf 108 = .ok (.iload_n 3, 1) := by decide +kernel
theorem dX5_projectOf_109 : decode cX5_projectOf 109 = .ok (.iand, 1) := by decide +kernel
theorem dX5_projectOf_110 : decode cX5_projectOf 110 = .ok (.invokevirtual 103, 3) := by decide +kernel
theorem dX5_projectOf_113 : decode cX5_projectOf 113 = .ok (.ireturn, 1) := by decide +kernel
theorem dX5_projectOf_114 : decode cX5_projectOf 114 = .ok (.iload 5, 2) := by decide +kernel
theorem dX5_projectOf_116 : decode cX5_projectOf 116 = .ok (.ifCond .eq 7, 3) := by decide +kernel
theorem dX5_projectOf_119 : decode cX5_projectOf 119 = .ok (.iconst 1, 1) := by decide +kernel
theorem dX5_projectOf_120 : decode cX5_projectOf 120 = .ok (.goto 4, 3) := by decide +kernel
theorem dX5_projectOf_123 : decode cX5_projectOf 123 = .ok (.iconst 0, 1) := by decide +kernel
theorem dX5_projectOf_124 : decode cX5_projectOf 124 = .ok (.ireturn, 1) := by decide +kernel
theorem dX5_projectOf_125 : decode cX5_projectOf 125 = .ok (.aload_n 0, 1) := by decide +kernel
theorem dX5_projectOf_126 : decode cX5_projectOf 126 = .ok (.iload_n 1, 1) := by decide +kernel
theorem dX5_projectOf_127 : decode cX5_projectOf 127 = .ok (.invokevirtual 97, 3) := by decide +kernel
theorem dX5_projectOf_130 : decode cX5_projectOf 130 = .ok (.ifCond .eq 7, 3) := by decide +kernel
theorem dX5_projectOf_133 : decode cX5_projectOf 133 = .ok (.iconst 1, 1) := by decide +kernel
theorem dX5_projectOf_134 : decode cX5_projectOf 134 = .ok (.goto 4, 3) := by decide +kernel
theorem dX5_projectOf_137 : decode cX5_projectOf 137 = .ok (.iconst 0, 1) := by decide +kernel
theorem dX5_projectOf_138 : decode cX5_projectOf 138 = .ok (.ireturn, 1) := by decide +kernel
theorem dX5_projectOf_139 : decode cX5_projectOf 139 = .ok (.iload 4, 2) := by decide +kernel
theorem dX5_projectOf_141 : decode cX5_projectOf 141 = .ok (.ireturn, 1) := by decide +kernel
theorem dX5_projectOf_142 : decode cX5_projectOf 142 = .ok (.iload 4, 2) := by decide +kernel
theorem dX5_projectOf_144 : decode cX5_projectOf 144 = .ok (.iload_n 3, 1) := by decide +kernel
theorem dX5_projectOf_145 : decode cX5_projectOf 145 = .ok (.iand, 1) := by decide +kernel
theorem dX5_projectOf_146 : decode cX5_projectOf 146 = .ok (.ireturn, 1) := by decide +kernel
theorem dX5_projectOf_147 : decode cX5_projectOf 147 = .ok (.iload 5, 2) := by decide +kernel
theorem dX5_projectOf_149 : decode cX5_projectOf 149 = .ok (.ifCond .eq 11, 3) := by decide +kernel
theorem dX5_projectOf_152 : decode cX5_projectOf 152 = .ok (.aload_n 0, 1) := by decide +kernel
theorem dX5_projectOf_153 : decode cX5_projectOf 153 = .ok (.iload_n 1, 1) := by decide +kernel
theorem dX5_projectOf_154 : decode cX5_projectOf 154 = .ok (.invokevirtual 147, 3) := by decide +kernel
theorem dX5_projectOf_157 : decode cX5_projectOf 157 = .ok (.goto 5, 3) := by decide +kernel
theorem dX5_projectOf_160 : decode cX5_projectOf 160 = .ok (.bipush (-4), 2) := by decide +kernel
theorem dX5_projectOf_162 : decode cX5_projectOf 162 = .ok (.ireturn, 1) := by decide +kernel
theorem dX5_projectOf_163 : decode cX5_projectOf 163 = .ok (.iload 5, 2) := by decide +kernel
theorem dX5_projectOf_165 : decode cX5_projectOf 165 = .ok (.ifCond .eq 11, 3) := by decide +kernel
theorem dX5_projectOf_168 : decode cX5_projectOf 168 = .ok (.aload_n 0, 1) := by decide +kernel
theorem dX5_projectOf_169 : decode cX5_projectOf 169 = .ok (.iload_n 1, 1) := by decide +kernel
theorem dX5_projectOf_170 : decode cX5_projectOf 170 = .ok (.invokevirtual 150, 3) := by decide +kernel
theorem dX5_projectOf_173 : decode cX5_projectOf 173 = .ok (.goto 5, 3) := by decide +kernel
theorem dX5_projectOf_176 : decode cX5_projectOf 176 = .ok (.bipush (-4), 2) := by decide +kernel
theorem dX5_projectOf_178 : decode cX5_projectOf 178 = .ok (.ireturn, 1) := by decide +kernel
theorem dX5_projectOf_179 : decode cX5_projectOf 179 = .ok (.aload_n 0, 1) := by decide +kernel
theorem dX5_projectOf_180 : decode cX5_projectOf 180 = .ok (.iload_n 1, 1) := by decide +kernel
theorem dX5_projectOf_181 : decode cX5_projectOf 181 = .ok (.invokevirtual 97, 3) := by decide +kernel
theorem dX5_projectOf_184 : decode cX5_projectOf 184 = .ok (.ifCond .eq 8, 3) := by decide +kernel
theorem dX5_projectOf_187 : decode cX5_projectOf 187 = .ok (.bipush (-4), 2) := by decide +kernel
theorem dX5_projectOf_189 : decode cX5_projectOf 189 = .ok (.goto 8, 3) := by decide +kernel
theorem dX5_projectOf_192 : decode cX5_projectOf 192 = .ok (.aload_n 0, 1) := by decide +kernel
theorem dX5_projectOf_193 : decode cX5_projectOf 193 = .ok (.iload_n 1, 1) := by decide +kernel
theorem dX5_projectOf_194 : decode cX5_projectOf 194 = .ok (.invokevirtual 153, 3) := by decide +kernel
theorem dX5_projectOf_197 : decode cX5_projectOf 197 = .ok (.ireturn, 1) := by decide +kernel
theorem dX5_personOf_0 : decode cX5_personOf 0 = .ok (.aload_n 0, 1) := by decide +kernel
theorem dX5_personOf_1 : decode cX5_personOf 1 = .ok (.iload_n 1, 1) := by decide +kernel
theorem dX5_personOf_2 : decode cX5_personOf 2 = .ok (.invokevirtual 86, 3) := by decide +kernel
theorem dX5_personOf_5 : decode cX5_personOf 5 = .ok (.ifCond .eq 12, 3) := by decide +kernel
theorem dX5_personOf_8 : decode cX5_personOf 8 = .ok (.iload_n 2, 1) := by decide +kernel
theorem dX5_personOf_9 : decode cX5_personOf 9 = .ok (.iconst 0, 1) := by decide +kernel
theorem dX5_personOf_10 : decode cX5_personOf 10 = .ok (.iconst 5, 1) := by decide +kernel
theorem dX5_personOf_11 : decode cX5_personOf 11 = .ok (.invokestatic 32, 3) := by decide +kernel
theorem dX5_personOf_14 : decode cX5_personOf 14 = .ok (.ifCond .ne 5, 3) := by decide +kernel
theorem dX5_personOf_17 : decode cX5_personOf 17 = .ok (.iconst (-1), 1) := by decide +kernel
theorem dX5_personOf_18 : decode cX5_personOf 18 = .ok (.ireturn, 1) := by decide +kernel
theorem dX5_personOf_19 : decode cX5_personOf 19 = .ok (.aload_n 0, 1) := by decide +kernel
theorem dX5_personOf_20 : decode cX5_personOf 20 = .ok (.iconst 0, 1) := by decide +kernel
theorem dX5_personOf_21 : decode cX5_personOf 21 = .ok (.invokevirtual 112, 3) := by decide +kernel
theorem dX5_personOf_24 : decode cX5_personOf 24 = .ok (.istore_n 3, 1) := by decide +kernel
theorem dX5_personOf_25 : decode cX5_personOf 25 = .ok (.aload_n 0, 1) := by decide +kernel
theorem dX5_personOf_26 : decode cX5_personOf 26 = .ok (.iload_n 1, 1) := by decide +kernel
theorem dX5_personOf_27 : decode cX5_personOf 27 = .ok (.invokevirtual 100, 3) := by decide +kernel
theorem dX5_personOf_30 : decode cX5_personOf 30 = .ok (.istore 4, 2) := by decide +kernel
theorem dX5_personOf_32 : decode cX5_personOf 32 = .ok (.iload 4, 2) := by decide +kernel
theorem dX5_personOf_34 : decode cX5_personOf 34 = .ok (.aload_n 0, 1) := by decide +kernel
theorem dX5_personOf_35 : decode cX5_personOf 35 = .ok (.invokevirtual 80, 3) := by decide +kernel
theorem dX5_personOf_38 : decode cX5_personOf 38 = .ok (.iand, 1) := by decide +kernel
theorem dX5_personOf_39 : decode cX5_personOf 39 = .ok (.istore 5, 2) := by decide +kernel
theorem dX5_personOf_41 : decode cX5_personOf 41 = .ok (.iload_n 2, 1) := by decide +kernel
theorem dX5_personOf_42 : decode cX5_personOf 42 = .ok (.tableswitch 79 0 4 #[34, 46, 53, 62, 76], 34) := by decide +kernel
theorem dX5_personOf_76 : decode cX5_personOf 76 = .ok (.aload_n 0, 1) := by decide +kernel
theorem dX5_personOf_77 : decode cX5_personOf 77 = .ok (.getfield 7, 3) := by decide +kernel
theorem dX5_personOf_80 : decode cX5_personOf 80 = .ok (.bipush 13, 2) := by decide +kernel
theorem dX5_personOf_82 : decode cX5_personOf 82 = .ok (.iconst 2, 1) := by decide +kernel
theorem dX5_personOf_83 : decode cX5_personOf 83 = .ok (.iload_n 1, 1) := by decide +kernel
theorem dX5_personOf_84 : decode cX5_personOf 84 = .ok (.imul, 1) := by decide +kernel
theorem dX5_personOf_85 : decode cX5_personOf 85 = .ok (.iadd, 1) := by decide +kernel
theorem dX5_personOf_86 : decode cX5_personOf 86 = .ok (.iaload, 1) := by decide +kernel
theorem dX5_personOf_87 : decode cX5_personOf 87 = .ok (.ireturn, 1) := by decide +kernel
theorem dX5_personOf_88 : decode cX5_personOf 88 = .ok (.aload_n 0, 1) := by decide +kernel
theorem dX5_personOf_89 : decode cX5_personOf 89 = .ok (.iload 5, 2) := by decide +kernel
theorem dX5_personOf_91 : decode cX5_personOf 91 = .ok (.invokevirtual 103, 3) := by decide +kernel
theorem dX5_personOf_94 : decode cX5_personOf 94 = .ok (.ireturn, 1) := by decide +kernel
theorem dX5_personOf_95 : decode cX5_personOf 95 = .ok (.aload_n 0, 1) := by decide +kernel
theorem dX5_personOf_96 : decode cX5_personOf 96 = .ok (.iload 5, 2) := by decide +kernel
theorem dX5_personOf_98 : decode cX5_personOf 98 = .ok (.iload_n 3, 1) := by decide +kernel
theorem dX5_personOf_99 : decode cX5_personOf 99 = .ok (.iand, 1) := by decide +kernel
theorem dX5_personOf_100 : decode cX5_personOf 100 = .ok (.invokevirtual 103, 3) := by decide +kernel
theorem dX5_personOf_103 : decode cX5_personOf 103 = .ok (.ireturn, 1) := by decide +kernel
theorem dX5_personOf_104 : decode cX5_personOf 104 = .ok (.aload_n 0, 1) := by decide +kernel
theorem dX5_personOf_105 : decode cX5_personOf 105 = .ok (.getfield 7, 3) := by decide +kernel
theorem dX5_personOf_108 : decode cX5_personOf 108 = .ok (.bipush 13, 2) := by decide +kernel
theorem dX5_personOf_110 : decode cX5_personOf 110 = .ok (.iconst 2, 1) := by decide +kernel
theorem dX5_personOf_111 : decode cX5_personOf 111 = .ok (.iload_n 1, 1) := by decide +kernel
theorem dX5_personOf_112 : decode cX5_personOf 112 = .ok (.imul, 1) := by decide +kernel
theorem dX5_personOf_113 : decode cX5_personOf 113 = .ok (.iadd, 1) := by decide +kernel
theorem dX5_personOf_114 : decode cX5_personOf 114 = .ok (.iconst 1, 1) := by decide +kernel
theorem dX5_personOf_115 : decode cX5_personOf 115 = .ok (.iadd, 1) := by decide +kernel
theorem dX5_personOf_116 : decode cX5_personOf 116 = .ok (.iaload, 1) := by decide +kernel
theorem dX5_personOf_117 : decode cX5_personOf 117 = .ok (.ireturn, 1) := by decide +kernel
theorem dX5_personOf_118 : decode cX5_personOf 118 = .ok (.iload 4, 2) := by decide +kernel
theorem dX5_personOf_120 : decode cX5_personOf 120 = .ok (.ireturn, 1) := by decide +kernel
theorem dX5_personOf_121 : decode cX5_personOf 121 = .ok (.iload_n 3, 1) := by decide +kernel
theorem dX5_personOf_122 : decode cX5_personOf 122 = .ok (.aload_n 0, 1) := by decide +kernel
theorem dX5_personOf_123 : decode cX5_personOf 123 = .ok (.iload 5, 2) := by decide +kernel
theorem dX5_personOf_125 : decode cX5_personOf 125 = .ok (.invokevirtual 112, 3) := by decide +kernel
theorem dX5_personOf_128 : decode cX5_personOf 128 = .ok (.iconst (-1), 1) := by decide +kernel
theorem dX5_personOf_129 : decode cX5_personOf 129 = .ok (.ixor, 1) := by decide +kernel
theorem dX5_personOf_130 : decode cX5_personOf 130 = .ok (.iand, 1) := by decide +kernel
theorem dX5_personOf_131 : decode cX5_personOf 131 = .ok (.iload 4, 2) := by decide +kernel
theorem dX5_personOf_133 : decode cX5_personOf 133 = .ok (.iconst (-1), 1) := by decide +kernel
theorem dX5_personOf_134 : decode cX5_personOf 134 = .ok (.ixor, 1) := by decide +kernel
theorem dX5_personOf_135 : decode cX5_personOf 135 = .ok (.iand, 1) := by decide +kernel
theorem dX5_personOf_136 : decode cX5_personOf 136 = .ok (.invokestatic 156, 3) := by decide +kernel
theorem dX5_personOf_139 : decode cX5_personOf 139 = .ok (.ireturn, 1) := by decide +kernel
theorem dX5_isSet_0 : decode cX5_isSet 0 = .ok (.iload_n 1, 1) := by decide +kernel
theorem dX5_isSet_1 : decode cX5_isSet 1 = .ok (.aload_n 0, 1) := by decide +kernel
theorem dX5_isSet_2 : decode cX5_isSet 2 = .ok (.iconst 1, 1) := by decide +kernel
theorem dX5_isSet_3 : decode cX5_isSet 3 = .ok (.iconst 1, 1) := by decide +kernel
theorem dX5_isSet_4 : decode cX5_isSet 4 = .ok (.invokevirtual 72, 3) := by decide +kernel
theorem dX5_isSet_7 : decode cX5_isSet 7 = .ok (.iconst (-1), 1) := by decide +kernel
theorem dX5_isSet_8 : decode cX5_isSet 8 = .ok (.ixor, 1) := by decide +kernel
theorem dX5_isSet_9 : decode cX5_isSet 9 = .ok (.iand, 1) := by decide +kernel
theorem dX5_isSet_10 : decode cX5_isSet 10 = .ok (.ifCond .ne 7, 3) := by decide +kernel
theorem dX5_isSet_13 : decode cX5_isSet 13 = .ok (.iconst 1, 1) := by decide +kernel
theorem dX5_isSet_14 : decode cX5_isSet 14 = .ok (.goto 4, 3) := by decide +kernel
theorem dX5_isSet_17 : decode cX5_isSet 17 = .ok (.iconst 0, 1) := by decide +kernel
theorem dX5_isSet_18 : decode cX5_isSet 18 = .ok (.ireturn, 1) := by decide +kernel
theorem dX5_standing_0 : decode cX5_standing 0 = .ok (.aload_n 0, 1) := by decide +kernel
theorem dX5_standing_1 : decode cX5_standing 1 = .ok (.iload_n 1, 1) := by decide +kernel
theorem dX5_standing_2 : decode cX5_standing 2 = .ok (.invokevirtual 159, 3) := by decide +kernel
theorem dX5_standing_5 : decode cX5_standing 5 = .ok (.ifCond .ne 5, 3) := by decide +kernel
theorem dX5_standing_8 : decode cX5_standing 8 = .ok (.iconst (-1), 1) := by decide +kernel
theorem dX5_standing_9 : decode cX5_standing 9 = .ok (.ireturn, 1) := by decide +kernel
theorem dX5_standing_10 : decode cX5_standing 10 = .ok (.iload_n 1, 1) := by decide +kernel
theorem dX5_standing_11 : decode cX5_standing 11 = .ok (.aload_n 0, 1) := by decide +kernel
theorem dX5_standing_12 : decode cX5_standing 12 = .ok (.invokevirtual 76, 3) := by decide +kernel
theorem dX5_standing_15 : decode cX5_standing 15 = .ok (.iand, 1) := by decide +kernel
theorem dX5_standing_16 : decode cX5_standing 16 = .ok (.ifCond .eq 8, 3) := by decide +kernel
theorem dX5_standing_19 : decode cX5_standing 19 = .ok (.bipush (-2), 2) := by decide +kernel
theorem dX5_standing_21 : decode cX5_standing 21 = .ok (.goto 8, 3) := by decide +kernel
theorem dX5_standing_24 : decode cX5_standing 24 = .ok (.aload_n 0, 1) := by decide +kernel
theorem dX5_standing_25 : decode cX5_standing 25 = .ok (.iload_n 1, 1) := by decide +kernel
theorem dX5_standing_26 : decode cX5_standing 26 = .ok (.invokevirtual 112, 3) := by decide +kernel
theorem dX5_standing_29 : decode cX5_standing 29 = .ok (.ireturn, 1) := by decide +kernel
theorem dX5_setOf_0 : decode cX5_setOf 0 = .ok (.aload_n 0, 1) := by decide +kernel
theorem dX5_setOf_1 : decode cX5_setOf 1 = .ok (.iload_n 1, 1) := by decide +kernel
theorem dX5_setOf_2 : decode cX5_setOf 2 = .ok (.invokevirtual 159, 3) := by decide +kernel
theorem dX5_setOf_5 : decode cX5_setOf 5 = .ok (.ifCond .eq 12, 3) := by decide +kernel
theorem dX5_setOf_8 : decode cX5_setOf 8 = .ok (.iload_n 2, 1) := by decide +kernel
theorem dX5_setOf_9 : decode cX5_setOf 9 = .ok (.iconst 0, 1) := by decide +kernel
theorem dX5_setOf_10 : decode cX5_setOf 10 = .ok (.iconst 2, 1) := by decide +kernel
theorem dX5_setOf_11 : decode cX5_setOf 11 = .ok (.invokestatic 32, 3) := by decide +kernel
theorem dX5_setOf_14 : decode cX5_setOf 14 = .ok (.ifCond .ne 5, 3) := by decide +kernel
theorem dX5_setOf_17 : decode cX5_setOf 17 = .ok (.iconst (-1), 1) := by decide +kernel
theorem dX5_setOf_18 : decode cX5_setOf 18 = .ok (.ireturn, 1) := by decide +kernel
theorem dX5_setOf_19 : decode cX5_setOf 19 = .ok (.aload_n 0, 1) := by decide +kernel
theorem dX5_setOf_20 : decode cX5_setOf 20 = .ok (.invokevirtual 76, 3) := by decide +kernel
theorem dX5_setOf_23 : decode cX5_setOf 23 = .ok (.istore_n 3, 1) := by decide +kernel
theorem dX5_setOf_24 : decode cX5_setOf 24 = .ok (.iload_n 1, 1) := by decide +kernel
theorem dX5_setOf_25 : decode cX5_setOf 25 = .ok (.iload_n 3, 1) := by decide +kernel
theorem dX5_setOf_26 : decode cX5_setOf 26 = .ok (.iand, 1) := by decide +kernel
theorem dX5_setOf_27 : decode cX5_setOf 27 = .ok (.ifCond .eq 6, 3) := by decide +kernel
theorem dX5_setOf_30 : decode cX5_setOf 30 = .ok (.bipush (-2), 2) := by decide +kernel
theorem dX5_setOf_32 : decode cX5_setOf 32 = .ok (.ireturn, 1) := by decide +kernel
theorem dX5_setOf_33 : decode cX5_setOf 33 = .ok (.aload_n 0, 1) := by decide +kernel
theorem dX5_setOf_34 : decode cX5_setOf 34 = .ok (.iload_n 1, 1) := by decide +kernel
theorem dX5_setOf_35 : decode cX5_setOf 35 = .ok (.iload_n 3, 1) := by decide +kernel
theorem dX5_setOf_36 : decode cX5_setOf 36 = .ok (.invokevirtual 66, 3) := by decide +kernel
theorem dX5_setOf_39 : decode cX5_setOf 39 = .ok (.istore 4, 2) := by decide +kernel
theorem dX5_setOf_41 : decode cX5_setOf 41 = .ok (.iload_n 2, 1) := by decide +kernel
theorem dX5_setOf_42 : decode cX5_setOf 42 = .ok (.ifCond .ne 16, 3) := by decide +kernel
theorem dX5_setOf_45 : decode cX5_setOf 45 = .ok (.iload 4, 2) := by decide +kernel
theorem dX5_setOf_47 : decode cX5_setOf 47 = .ok (.ifCond .ne 7, 3) := by decide +kernel
theorem dX5_setOf_50 : decode cX5_setOf 50 = .ok (.iconst 1, 1) := by decide +kernel
theorem dX5_setOf_51 : decode cX5_setOf 51 = .ok (.goto 23, 3) := by decide +kernel
theorem dX5_setOf_54 : decode cX5_setOf 54 = .ok (.iconst 0, 1) := by decide +kernel
theorem dX5_setOf_55 : decode cX5_setOf 55 = .ok (.goto 19, 3) := by decide +kernel
theorem dX5_setOf_58 : decode cX5_setOf 58 = .ok (.iload_n 2, 1) := by decide +kernel
theorem dX5_setOf_59 : decode cX5_setOf 59 = .ok (.iconst 1, 1) := by decide +kernel
theorem dX5_setOf_60 : decode cX5_setOf 60 = .ok (.if_icmp .ne 8, 3) := by decide +kernel
theorem dX5_setOf_63 : decode cX5_setOf 63 = .ok (.iload 4, 2) := by decide +kernel
theorem dX5_setOf_65 : decode cX5_setOf 65 = .ok (.goto 9, 3) := by decide +kernel
theorem dX5_setOf_68 : decode cX5_setOf 68 = .ok (.aload_n 0, 1) := by decide +kernel
theorem dX5_setOf_69 : decode cX5_setOf 69 = .ok (.iload_n 1, 1) := by decide +kernel
theorem dX5_setOf_70 : decode cX5_setOf 70 = .ok (.iload_n 3, 1) := by decide +kernel
theorem dX5_setOf_71 : decode cX5_setOf 71 = .ok (.invokevirtual 83, 3) := by decide +kernel
theorem dX5_setOf_74 : decode cX5_setOf 74 = .ok (.ireturn, 1) := by decide +kernel
theorem dX5_isAhead_0 : decode cX5_isAhead 0 = .ok (.aload_n 0, 1) := by decide +kernel
theorem dX5_isAhead_1 : decode cX5_isAhead 1 = .ok (.iload_n 1, 1) := by decide +kernel
theorem dX5_isAhead_2 : decode cX5_isAhead 2 = .ok (.bipush 7, 2) := by decide +kernel
theorem dX5_isAhead_4 : decode cX5_isAhead 4 = .ok (.invokevirtual 36, 3) := by decide +kernel
theorem dX5_isAhead_7 : decode cX5_isAhead 7 = .ok (.aload_n 0, 1) := by decide +kernel
theorem dX5_isAhead_8 : decode cX5_isAhead 8 = .ok (.iload_n 2, 1) := by decide +kernel
theorem dX5_isAhead_9 : decode cX5_isAhead 9 = .ok (.bipush 7, 2) := by decide +kernel
theorem dX5_isAhead_11 : decode cX5_isAhead 11 = .ok (.invokevirtual 36, 3) := by decide +kernel
theorem dX5_isAhead_14 : decode cX5_isAhead 14 = .ok (.isub, 1) := by decide +kernel
theorem dX5_isAhead_15 : decode cX5_isAhead 15 = .ok (.istore 5, 2) := by decide +kernel
theorem dX5_isAhead_17 : decode cX5_isAhead 17 = .ok (.iload_n 3, 1) := by decide +kernel
theorem dX5_isAhead_18 : decode cX5_isAhead 18 = .ok (.ifCond .ne 39, 3) := by decide +kernel
theorem dX5_isAhead_21 : decode cX5_isAhead 21 = .ok (.aload_n 0, 1) := by decide +kernel
theorem dX5_isAhead_22 : decode cX5_isAhead 22 = .ok (.iload_n 2, 1) := by decide +kernel
theorem dX5_isAhead_23 : decode cX5_isAhead 23 = .ok (.iconst 3, 1) := by decide +kernel
theorem dX5_isAhead_24 : decode cX5_isAhead 24 = .ok (.invokevirtual 36, 3) := by decide +kernel
theorem dX5_isAhead_27 : decode cX5_isAhead 27 = .ok (.aload_n 0, 1) := by decide +kernel
theorem dX5_isAhead_28 : decode cX5_isAhead 28 = .ok (.iload_n 1, 1) := by decide +kernel
theorem dX5_isAhead_29 : decode cX5_isAhead 29 = .ok (.iconst 3, 1) := by decide +kernel
theorem dX5_isAhead_30 : decode cX5_isAhead 30 = .ok (.invokevirtual 36, 3) := by decide +kernel
theorem dX5_isAhead_33 : decode cX5_isAhead 33 = .ok (.isub, 1) := by decide +kernel
theorem dX5_isAhead_34 : decode cX5_isAhead 34 = .ok (.istore 6, 2) := by decide +kernel
theorem dX5_isAhead_36 : decode cX5_isAhead 36 = .ok (.iload 6, 2) := by decide +kernel
theorem dX5_isAhead_38 : decode cX5_isAhead 38 = .ok (.ifCond .lt 13, 3) := by decide +kernel
theorem dX5_isAhead_41 : decode cX5_isAhead 41 = .ok (.iload 6, 2) := by decide +kernel
theorem dX5_isAhead_43 : decode cX5_isAhead 43 = .ok (.ifCond .ne 12, 3) := by decide +kernel
theorem dX5_isAhead_46 : decode cX5_isAhead 46 = .ok (.iload 5, 2) := by decide +kernel
theorem dX5_isAhead_48 : decode cX5_isAhead 48 = .ok (.ifCond .ge 7, 3) := by decide +kernel
theorem dX5_isAhead_51 : decode cX5_isAhead 51 = .ok (.iconst 1, 1) := by decide +kernel
theorem dX5_isAhead_52 : decode cX5_isAhead 52 = .ok (.goto 4, 3) := by decide +kernel
theorem dX5_isAhead_55 : decode cX5_isAhead 55 = .ok (.iconst 0, 1) := by decide +kernel
theorem dX5_isAhead_56 : decode cX5_isAhead 56 = .ok (.ireturn, 1) := by decide +kernel
theorem dX5_isAhead_57 : decode cX5_isAhead 57 = .ok (.iload_n 3, 1) := by decide +kernel
theorem dX5_isAhead_58 : decode cX5_isAhead 58 = .ok (.iconst 1, 1) := by decide +kernel
theorem dX5_isAhead_59 : decode cX5_isAhead 59 = .ok (.if_icmp .ne 72, 3) := by decide +kernel
theorem dX5_isAhead_62 : decode cX5_isAhead 62 = .ok (.iload 4, 2) := by decide +kernel
theorem dX5_isAhead_64 : decode cX5_isAhead 64 = .ok (.iload_n 1, 1) := by decide +kernel
theorem dX5_isAhead_65 : decode cX5_isAhead 65 = .ok (.invokestatic 46, 3) := by decide +kernel
theorem dX5_isAhead_68 : decode cX5_isAhead 68 = .ok (.ifCond .eq 8, 3) := by decide +kernel
theorem dX5_isAhead_71 : decode cX5_isAhead 71 = .ok (.bipush 100, 2) := by decide +kernel
theorem dX5_isAhead_73 : decode cX5_isAhead 73 = .ok (.goto 9, 3) := by decide +kernel
theorem dX5_isAhead_76 : decode cX5_isAhead 76 = .ok (.aload_n 0, 1) := by decide +kernel
theorem dX5_isAhead_77 : decode cX5_isAhead 77 = .ok (.getfield 26, 3) := by decide +kernel
theorem dX5_isAhead_80 : decode cX5_isAhead 80 = .ok (.iload_n 1, 1) := by decide +kernel
theorem dX5_isAhead_81 : decode cX5_isAhead 81 = .ok (.iaload, 1) := by decide +kernel
theorem dX5_isAhead_82 : decode cX5_isAhead 82 = .ok (.istore 6, 2) := by decide +kernel
theorem dX5_isAhead_84 : decode cX5_isAhead 84 = .ok (.iload 4, 2) := by decide +kernel
theorem dX5_isAhead_86 : decode cX5_isAhead 86 = .ok (.iload_n 2, 1) := by decide +kernel
theorem dX5_isAhead_87 : decode cX5_isAhead 87 = .ok (.invokestatic 46, 3) := by decide +kernel
theorem dX5_isAhead_90 : decode cX5_isAhead 90 = .ok (.ifCond .eq 8, 3) := by decide +kernel
theorem dX5_isAhead_93 : decode cX5_isAhead 93 = .ok (.bipush 100, 2) := by decide +kernel
theorem dX5_isAhead_95 : decode cX5_isAhead 95 = .ok (.goto 9, 3) := by decide +kernel
theorem dX5_isAhead_98 : decode cX5_isAhead 98 = .ok (.aload_n 0, 1) := by decide +kernel
theorem dX5_isAhead_99 : decode cX5_isAhead 99 = .ok (.getfield 26, 3) := by decide +kernel
theorem dX5_isAhead_102 : decode cX5_isAhead 102 = .ok (.iload_n 2, 1) := by decide +kernel
theorem dX5_isAhead_103 : decode cX5_isAhead 103 = .ok (.iaload, 1) := by decide +kernel
theorem dX5_isAhead_104 : decode cX5_isAhead 104 = .ok (.istore 7, 2) := by decide +kernel
theorem dX5_isAhead_106 : decode cX5_isAhead 106 = .ok (.iload 6, 2) := by decide +kernel
theorem dX5_isAhead_108 : decode cX5_isAhead 108 = .ok (.iload 7, 2) := by decide +kernel
theorem dX5_isAhead_110 : decode cX5_isAhead 110 = .ok (.if_icmp .gt 15, 3) := by decide +kernel
theorem dX5_isAhead_113 : decode cX5_isAhead 113 = .ok (.iload 6, 2) := by decide +kernel
theorem dX5_isAhead_115 : decode cX5_isAhead 115 = .ok (.iload 7, 2) := by decide +kernel
theorem dX5_isAhead_117 : decode cX5_isAhead 117 = .ok (.if_icmp .ne 12, 3) := by decide +kernel
theorem dX5_isAhead_120 : decode cX5_isAhead 120 = .ok (.iload_n 1, 1) := by decide +kernel
theorem dX5_isAhead_121 : decode cX5_isAhead 121 = .ok (.iload_n 2, 1) := by decide +kernel
theorem dX5_isAhead_122 : decode cX5_isAhead 122 = .ok (.if_icmp .ge 7, 3) := by decide +kernel
theorem dX5_isAhead_125 : decode cX5_isAhead 125 = .ok (.iconst 1, 1) := by decide +kernel
theorem dX5_isAhead_126 : decode cX5_isAhead 126 = .ok (.goto 4, 3) := by decide +kernel
theorem dX5_isAhead_129 : decode cX5_isAhead 129 = .ok (.iconst 0, 1) := by decide +kernel
theorem dX5_isAhead_130 : decode cX5_isAhead 130 = .ok (.ireturn, 1) := by decide +kernel
theorem dX5_isAhead_131 : decode cX5_isAhead 131 = .ok (.aload_n 0, 1) := by decide +kernel
theorem dX5_isAhead_132 : decode cX5_isAhead 132 = .ok (.iload_n 1, 1) := by decide +kernel
theorem dX5_isAhead_133 : decode cX5_isAhead 133 = .ok (.iconst 2, 1) := by decide +kernel
theorem dX5_isAhead_134 : decode cX5_isAhead 134 = .ok (.invokevirtual 36, 3) := by decide +kernel
theorem dX5_isAhead_137 : decode cX5_isAhead 137 = .ok (.aload_n 0, 1) := by decide +kernel
theorem dX5_isAhead_138 : decode cX5_isAhead 138 = .ok (.iload_n 2, 1) := by decide +kernel
theorem dX5_isAhead_139 : decode cX5_isAhead 139 = .ok (.iconst 2, 1) := by decide +kernel
theorem dX5_isAhead_140 : decode cX5_isAhead 140 = .ok (.invokevirtual 36, 3) := by decide +kernel
theorem dX5_isAhead_143 : decode cX5_isAhead 143 = .ok (.isub, 1) := by decide +kernel
theorem dX5_isAhead_144 : decode cX5_isAhead 144 = .ok (.istore 6, 2) := by decide +kernel
theorem dX5_isAhead_146 : decode cX5_isAhead 146 = .ok (.aload_n 0, 1) := by decide +kernel
theorem dX5_isAhead_147 : decode cX5_isAhead 147 = .ok (.iload_n 1, 1) := by decide +kernel
theorem dX5_isAhead_148 : decode cX5_isAhead 148 = .ok (.iconst 1, 1) := by decide +kernel
theorem dX5_isAhead_149 : decode cX5_isAhead 149 = .ok (.invokevirtual 36, 3) := by decide +kernel
theorem dX5_isAhead_152 : decode cX5_isAhead 152 = .ok (.aload_n 0, 1) := by decide +kernel
theorem dX5_isAhead_153 : decode cX5_isAhead 153 = .ok (.iload_n 2, 1) := by decide +kernel
theorem dX5_isAhead_154 : decode cX5_isAhead 154 = .ok (.iconst 1, 1) := by decide +kernel
theorem dX5_isAhead_155 : decode cX5_isAhead 155 = .ok (.invokevirtual 36, 3) := by decide +kernel
theorem dX5_isAhead_158 : decode cX5_isAhead 158 = .ok (.isub, 1) := by decide +kernel
theorem dX5_isAhead_159 : decode cX5_isAhead 159 = .ok (.istore 7, 2) := by decide +kernel
theorem dX5_isAhead_161 : decode cX5_isAhead 161 = .ok (.iload 6, 2) := by decide +kernel
theorem dX5_isAhead_163 : decode cX5_isAhead 163 = .ok (.ifCond .lt 23, 3) := by decide +kernel
theorem dX5_isAhead_166 : decode cX5_isAhead 166 = .ok (.iload 6, 2) := by decide +kernel
theorem dX5_isAhead_168 : decode cX5_isAhead 168 = .ok (.ifCond .ne 22, 3) := by decide +kernel
theorem dX5_isAhead_171 : decode cX5_isAhead 171 = .ok (.iload 7, 2) := by decide +kernel
theorem dX5_isAhead_173 : decode cX5_isAhead 173 = .ok (.ifCond .lt 13, 3) := by decide +kernel
theorem dX5_isAhead_176 : decode cX5_isAhead 176 = .ok (.iload 7, 2) := by decide +kernel
theorem dX5_isAhead_178 : decode cX5_isAhead 178 = .ok (.ifCond .ne 12, 3) := by decide +kernel
theorem dX5_isAhead_181 : decode cX5_isAhead 181 = .ok (.iload 5, 2) := by decide +kernel
theorem dX5_isAhead_183 : decode cX5_isAhead 183 = .ok (.ifCond .ge 7, 3) := by decide +kernel
theorem dX5_isAhead_186 : decode cX5_isAhead 186 = .ok (.iconst 1, 1) := by decide +kernel
theorem dX5_isAhead_187 : decode cX5_isAhead 187 = .ok (.goto 4, 3) := by decide +kernel
theorem dX5_isAhead_190 : decode cX5_isAhead 190 = .ok (.iconst 0, 1) := by decide +kernel
theorem dX5_isAhead_191 : decode cX5_isAhead 191 = .ok (.ireturn, 1) := by decide +kernel
theorem dX5_orderAt_0 : decode cX5_orderAt 0 = .ok (.iload_n 1, 1) := by decide +kernel
theorem dX5_orderAt_1 : decode cX5_orderAt 1 = .ok (.iconst 0, 1) := by decide +kernel
theorem dX5_orderAt_2 : decode cX5_orderAt 2 = .ok (.iconst 2, 1) := by decide +kernel
theorem dX5_orderAt_3 : decode cX5_orderAt 3 = .ok (.invokestatic 32, 3) := by decide +kernel
theorem dX5_orderAt_6 : decode cX5_orderAt 6 = .ok (.ifCond .eq 7, 3) := by decide +kernel
theorem dX5_orderAt_9 : decode cX5_orderAt 9 = .ok (.iload_n 2, 1) := by decide +kernel
theorem dX5_orderAt_10 : decode cX5_orderAt 10 = .ok (.ifCond .ge 5, 3) := by decide +kernel
theorem dX5_orderAt_13 : decode cX5_orderAt 13 = .ok (.iconst (-1), 1) := by decide +kernel
theorem dX5_orderAt_14 : decode cX5_orderAt 14 = .ok (.ireturn, 1) := by decide +kernel
theorem dX5_orderAt_15 : decode cX5_orderAt 15 = .ok (.aload_n 0, 1) := by decide +kernel
theorem dX5_orderAt_16 : decode cX5_orderAt 16 = .ok (.iconst 1, 1) := by decide +kernel
theorem dX5_orderAt_17 : decode cX5_orderAt 17 = .ok (.iconst 1, 1) := by decide +kernel
theorem dX5_orderAt_18 : decode cX5_orderAt 18 = .ok (.invokevirtual 72, 3) := by decide +kernel
theorem dX5_orderAt_21 : decode cX5_orderAt 21 = .ok (.istore_n 3, 1) := by decide +kernel
theorem dX5_orderAt_22 : decode cX5_orderAt 22 = .ok (.aload_n 0, 1) := by decide +kernel
theorem dX5_orderAt_23 : decode cX5_orderAt 23 = .ok (.iconst 0, 1) := by decide +kernel
theorem dX5_orderAt_24 : decode cX5_orderAt 24 = .ok (.invokevirtual 112, 3) := by decide +kernel
theorem dX5_orderAt_27 : decode cX5_orderAt 27 = .ok (.istore 4, 2) := by decide +kernel
theorem dX5_orderAt_29 : decode cX5_orderAt 29 = .ok (.iconst 0, 1) := by decide +kernel
theorem dX5_orderAt_30 : decode cX5_orderAt 30 = .ok (.istore 5, 2) := by decide +kernel
theorem dX5_orderAt_32 : decode cX5_orderAt 32 = .ok (.iload 5, 2) := by decide +kernel
theorem dX5_orderAt_34 : decode cX5_orderAt 34 = .ok (.bipush 12, 2) := by decide +kernel
theorem dX5_orderAt_36 : decode cX5_orderAt 36 = .ok (.if_icmp .ge 95, 3) := by decide +kernel
theorem dX5_orderAt_39 : decode cX5_orderAt 39 = .ok (.iconst 0, 1) := by decide +kernel
theorem dX5_orderAt_40 : decode cX5_orderAt 40 = .ok (.istore 6, 2) := by decide +kernel
theorem dX5_orderAt_42 : decode cX5_orderAt 42 = .ok (.iconst 0, 1) := by decide +kernel
theorem dX5_orderAt_43 : decode cX5_orderAt 43 = .ok (.istore 7, 2) := by decide +kernel
theorem dX5_orderAt_45 : decode cX5_orderAt 45 = .ok (.iload 7, 2) := by decide +kernel
theorem dX5_orderAt_47 : decode cX5_orderAt 47 = .ok (.bipush 12, 2) := by decide +kernel
theorem dX5_orderAt_49 : decode cX5_orderAt 49 = .ok (.if_icmp .ge 58, 3) := by decide +kernel
theorem dX5_orderAt_52 : decode cX5_orderAt 52 = .ok (.iload_n 3, 1) := by decide +kernel
theorem dX5_orderAt_53 : decode cX5_orderAt 53 = .ok (.iload 5, 2) := by decide +kernel
theorem dX5_orderAt_55 : decode cX5_orderAt 55 = .ok (.invokestatic 46, 3) := by decide +kernel
theorem dX5_orderAt_58 : decode cX5_orderAt 58 = .ok (.ifCond .eq 49, 3) := by decide +kernel
theorem dX5_orderAt_61 : decode cX5_orderAt 61 = .ok (.iload 6, 2) := by decide +kernel
theorem dX5_orderAt_63 : decode cX5_orderAt 63 = .ok (.iload 7, 2) := by decide +kernel
theorem dX5_orderAt_65 : decode cX5_orderAt 65 = .ok (.iload 5, 2) := by decide +kernel
theorem dX5_orderAt_67 : decode cX5_orderAt 67 = .ok (.if_icmp .eq 30, 3) := by decide +kernel
theorem dX5_orderAt_70 : decode cX5_orderAt 70 = .ok (.iload_n 3, 1) := by decide +kernel
theorem dX5_orderAt_71 : decode cX5_orderAt 71 = .ok (.iload 7, 2) := by decide +kernel
theorem dX5_orderAt_73 : decode cX5_orderAt 73 = .ok (.invokestatic 46, 3) := by decide +kernel
theorem dX5_orderAt_76 : decode cX5_orderAt 76 = .ok (.ifCond .eq 21, 3) := by decide +kernel
theorem dX5_orderAt_79 : decode cX5_orderAt 79 = .ok (.aload_n 0, 1) := by decide +kernel
theorem dX5_orderAt_80 : decode cX5_orderAt 80 = .ok (.iload 7, 2) := by decide +kernel
theorem dX5_orderAt_82 : decode cX5_orderAt 82 = .ok (.iload 5, 2) := by decide +kernel
theorem dX5_orderAt_84 : decode cX5_orderAt 84 = .ok (.iload_n 1, 1) := by decide +kernel
theorem dX5_orderAt_85 : decode cX5_orderAt 85 = .ok (.iload 4, 2) := by decide +kernel
theorem dX5_orderAt_87 : decode cX5_orderAt 87 = .ok (.invokevirtual 162, 3) := by decide +kernel
theorem dX5_orderAt_90 : decode cX5_orderAt 90 = .ok (.ifCond .eq 7, 3) := by decide +kernel
theorem dX5_orderAt_93 : decode cX5_orderAt 93 = .ok (.iconst 1, 1) := by decide +kernel
theorem dX5_orderAt_94 : decode cX5_orderAt 94 = .ok (.goto 4, 3) := by decide +kernel
theorem dX5_orderAt_97 : decode cX5_orderAt 97 = .ok (.iconst 0, 1) := by decide +kernel
theorem dX5_orderAt_98 : decode cX5_orderAt 98 = .ok (.iadd, 1) := by decide +kernel
theorem dX5_orderAt_99 : decode cX5_orderAt 99 = .ok (.istore 6, 2) := by decide +kernel
theorem dX5_orderAt_101 : decode cX5_orderAt 101 = .ok (.iinc 7 1, 3) := by decide +kernel
theorem dX5_orderAt_104 : decode cX5_orderAt 104 = .ok (.goto (-59), 3) := by decide +kernel
theorem dX5_orderAt_107 : decode cX5_orderAt 107 = .ok (.iload_n 3, 1) := by decide +kernel
theorem dX5_orderAt_108 : decode cX5_orderAt 108 = .ok (.iload 5, 2) := by decide +kernel
theorem dX5_orderAt_110 : decode cX5_orderAt 110 = .ok (.invokestatic 46, 3) := by decide +kernel
theorem dX5_orderAt_113 : decode cX5_orderAt 113 = .ok (.ifCond .eq 12, 3) := by decide +kernel
theorem dX5_orderAt_116 : decode cX5_orderAt 116 = .ok (.iload 6, 2) := by decide +kernel
theorem dX5_orderAt_118 : decode cX5_orderAt 118 = .ok (.iload_n 2, 1) := by decide +kernel
theorem dX5_orderAt_119 : decode cX5_orderAt 119 = .ok (.if_icmp .ne 6, 3) := by decide +kernel
theorem dX5_orderAt_122 : decode cX5_orderAt 122 = .ok (.iload 5, 2) := by decide +kernel
theorem dX5_orderAt_124 : decode cX5_orderAt 124 = .ok (.ireturn, 1) := by decide +kernel
theorem dX5_orderAt_125 : decode cX5_orderAt 125 = .ok (.iinc 5 1, 3) := by decide +kernel
theorem dX5_orderAt_128 : decode cX5_orderAt 128 = .ok (.goto (-96), 3) := by decide +kernel
theorem dX5_orderAt_131 : decode cX5_orderAt 131 = .ok (.bipush (-4), 2) := by decide +kernel
theorem dX5_orderAt_133 : decode cX5_orderAt 133 = .ok (.ireturn, 1) := by decide +kernel
theorem dX5_setsThatHold_0 : decode cX5_setsThatHold 0 = .ok (.aload_n 0, 1) := by decide +kernel
theorem dX5_setsThatHold_1 : decode cX5_setsThatHold 1 = .ok (.invokevirtual 80, 3) := by decide +kernel
theorem dX5_setsThatHold_4 : decode cX5_setsThatHold 4 = .ok (.istore_n 1, 1) := by decide +kernel
theorem dX5_setsThatHold_5 : decode cX5_setsThatHold 5 = .ok (.aload_n 0, 1) := by decide +kernel
theorem dX5_setsThatHold_6 : decode cX5_setsThatHold 6 = .ok (.invokevirtual 76, 3) := by decide +kernel
theorem dX5_setsThatHold_9 : decode cX5_setsThatHold 9 = .ok (.istore_n 2, 1) := by decide +kernel
theorem dX5_setsThatHold_10 : decode cX5_setsThatHold 10 = .ok (.iconst 0, 1) := by decide +kernel
theorem dX5_setsThatHold_11 : decode cX5_setsThatHold 11 = .ok (.istore_n 3, 1) := by decide +kernel
theorem dX5_setsThatHold_12 : decode cX5_setsThatHold 12 = .ok (.iconst 0, 1) := by decide +kernel
theorem dX5_setsThatHold_13 : decode cX5_setsThatHold 13 = .ok (.istore 4, 2) := by decide +kernel
theorem dX5_setsThatHold_15 : decode cX5_setsThatHold 15 = .ok (.iload 4, 2) := by decide +kernel
theorem dX5_setsThatHold_17 : decode cX5_setsThatHold 17 = .ok (.sipush 4096, 3) := by decide +kernel
theorem dX5_setsThatHold_20 : decode cX5_setsThatHold 20 = .ok (.if_icmp .ge 36, 3) := by decide +kernel
theorem dX5_setsThatHold_23 : decode cX5_setsThatHold 23 = .ok (.iload_n 3, 1) := by decide +kernel
theorem dX5_setsThatHold_24 : decode cX5_setsThatHold 24 = .ok (.iload 4, 2) := by decide +kernel
theorem dX5_setsThatHold_26 : decode cX5_setsThatHold 26 = .ok (.iload_n 1, 1) := by decide +kernel
theorem dX5_setsThatHold_27 : decode cX5_setsThatHold 27 = .ok (.iconst (-1), 1) := by decide +kernel
theorem dX5_setsThatHold_28 : decode cX5_setsThatHold 28 = .ok (.ixor, 1) := by decide +kernel
theorem dX5_setsThatHold_29 : decode cX5_setsThatHold 29 = .ok (.iand, 1) := by decide +kernel
theorem dX5_setsThatHold_30 : decode cX5_setsThatHold 30 = .ok (.ifCond .ne 17, 3) := by decide +kernel
theorem dX5_setsThatHold_33 : decode cX5_setsThatHold 33 = .ok (.aload_n 0, 1) := by decide +kernel
theorem dX5_setsThatHold_34 : decode cX5_setsThatHold 34 = .ok (.iload 4, 2) := by decide +kernel
theorem dX5_setsThatHold_36 : decode cX5_setsThatHold 36 = .ok (.iload_n 2, 1) := by decide +kernel
theorem dX5_setsThatHold_37 : decode cX5_setsThatHold 37 = .ok (.invokevirtual 66, 3) := by decide +kernel
theorem dX5_setsThatHold_40 : decode cX5_setsThatHold 40 = .ok (.ifCond .ne 7, 3) := by decide +kernel
theorem dX5_setsThatHold_43 : decode cX5_setsThatHold 43 = .ok (.iconst 1, 1) := by decide +kernel
theorem dX5_setsThatHold_44 : decode cX5_setsThatHold 44 = .ok (.goto 4, 3) := by decide +kernel
theorem dX5_setsThatHold_47 : decode cX5_setsThatHold 47 = .ok (.iconst 0, 1) := by decide +kernel
theorem dX5_setsThatHold_48 : decode cX5_setsThatHold 48 = .ok (.iadd, 1) := by decide +kernel
theorem dX5_setsThatHold_49 : decode cX5_setsThatHold 49 = .ok (.istore_n 3, 1) := by decide +kernel
theorem dX5_setsThatHold_50 : decode cX5_setsThatHold 50 = .ok (.iinc 4 1, 3) := by decide +kernel
theorem dX5_setsThatHold_53 : decode cX5_setsThatHold 53 = .ok (.goto (-38), 3) := by decide +kernel
theorem dX5_setsThatHold_56 : decode cX5_setsThatHold 56 = .ok (.iload_n 3, 1) := by decide +kernel
theorem dX5_setsThatHold_57 : decode cX5_setsThatHold 57 = .ok (.ireturn, 1) := by decide +kernel
theorem dX5_wavesNow_0 : decode cX5_wavesNow 0 = .ok (.aload_n 0, 1) := by decide +kernel
theorem dX5_wavesNow_1 : decode cX5_wavesNow 1 = .ok (.iconst 0, 1) := by decide +kernel
theorem dX5_wavesNow_2 : decode cX5_wavesNow 2 = .ok (.invokevirtual 112, 3) := by decide +kernel
theorem dX5_wavesNow_5 : decode cX5_wavesNow 5 = .ok (.istore_n 1, 1) := by decide +kernel
theorem dX5_wavesNow_6 : decode cX5_wavesNow 6 = .ok (.iload_n 1, 1) := by decide +kernel
theorem dX5_wavesNow_7 : decode cX5_wavesNow 7 = .ok (.ifCond .ge 7, 3) := by decide +kernel
theorem dX5_wavesNow_10 : decode cX5_wavesNow 10 = .ok (.iconst 0, 1) := by decide +kernel
theorem dX5_wavesNow_11 : decode cX5_wavesNow 11 = .ok (.goto 7, 3) := by decide +kernel
theorem dX5_wavesNow_14 : decode cX5_wavesNow 14 = .ok (.aload_n 0, 1) := by decide +kernel
theorem dX5_wavesNow_15 : decode cX5_wavesNow 15 = .ok (.getfield 69, 3) := by decide +kernel
theorem dX5_wavesNow_18 : decode cX5_wavesNow 18 = .ok (.ireturn, 1) := by decide +kernel
theorem dX5_goalsNow_0 : decode cX5_goalsNow 0 = .ok (.aload_n 0, 1) := by decide +kernel
theorem dX5_goalsNow_1 : decode cX5_goalsNow 1 = .ok (.iconst 0, 1) := by decide +kernel
theorem dX5_goalsNow_2 : decode cX5_goalsNow 2 = .ok (.invokevirtual 112, 3) := by decide +kernel
theorem dX5_goalsNow_5 : decode cX5_goalsNow 5 = .ok (.istore_n 1, 1) := by decide +kernel
theorem dX5_goalsNow_6 : decode cX5_goalsNow 6 = .ok (.iconst 0, 1) := by decide +kernel
theorem dX5_goalsNow_7 : decode cX5_goalsNow 7 = .ok (.istore_n 2, 1) := by decide +kernel
theorem dX5_goalsNow_8 : decode cX5_goalsNow 8 = .ok (.iconst 0, 1) := by decide +kernel
theorem dX5_goalsNow_9 : decode cX5_goalsNow 9 = .ok (.istore_n 3, 1) := by decide +kernel
theorem dX5_goalsNow_10 : decode cX5_goalsNow 10 = .ok (.iload_n 3, 1) := by decide +kernel
theorem dX5_goalsNow_11 : decode cX5_goalsNow 11 = .ok (.aload_n 0, 1) := by decide +kernel
theorem dX5_goalsNow_12 : decode cX5_goalsNow 12 = .ok (.getfield 7, 3) := by decide +kernel
theorem dX5_goalsNow_15 : decode cX5_goalsNow 15 = .ok (.iconst 0, 1) := by decide +kernel
theorem dX5_goalsNow_16 : decode cX5_goalsNow 16 = .ok (.iaload, 1) := by decide +kernel
theorem dX5_goalsNow_17 : decode cX5_goalsNow 17 = .ok (.if_icmp .ge 26, 3) := by decide +kernel
theorem dX5_goalsNow_20 : decode cX5_goalsNow 20 = .ok (.iload_n 2, 1) := by decide +kernel
theorem dX5_goalsNow_21 : decode cX5_goalsNow 21 = .ok (.aload_n 0, 1) := by decide +kernel
theorem dX5_goalsNow_22 : decode cX5_goalsNow 22 = .ok (.iload_n 1, 1) := by decide +kernel
theorem dX5_goalsNow_23 : decode cX5_goalsNow 23 = .ok (.iload_n 3, 1) := by decide +kernel
theorem dX5_goalsNow_24 : decode cX5_goalsNow 24 = .ok (.invokevirtual 119, 3) := by decide +kernel
theorem dX5_goalsNow_27 : decode cX5_goalsNow 27 = .ok (.ifCond .eq 7, 3) := by decide +kernel
theorem dX5_goalsNow_30 : decode cX5_goalsNow 30 = .ok (.iconst 1, 1) := by decide +kernel
theorem dX5_goalsNow_31 : decode cX5_goalsNow 31 = .ok (.goto 4, 3) := by decide +kernel
theorem dX5_goalsNow_34 : decode cX5_goalsNow 34 = .ok (.iconst 0, 1) := by decide +kernel
theorem dX5_goalsNow_35 : decode cX5_goalsNow 35 = .ok (.iadd, 1) := by decide +kernel
theorem dX5_goalsNow_36 : decode cX5_goalsNow 36 = .ok (.istore_n 2, 1) := by decide +kernel
theorem dX5_goalsNow_37 : decode cX5_goalsNow 37 = .ok (.iinc 3 1, 3) := by decide +kernel
theorem dX5_goalsNow_40 : decode cX5_goalsNow 40 = .ok (.goto (-30), 3) := by decide +kernel
theorem dX5_goalsNow_43 : decode cX5_goalsNow 43 = .ok (.iload_n 2, 1) := by decide +kernel
theorem dX5_goalsNow_44 : decode cX5_goalsNow 44 = .ok (.ireturn, 1) := by decide +kernel
theorem dX5_count_0 : decode cX5_count 0 = .ok (.iload_n 1, 1) := by decide +kernel
theorem dX5_count_1 : decode cX5_count 1 = .ok (.tableswitch 151 0 12 #[67, 74, 81, 91, 99, 105, 110, 115, 120, 127, 134, 141, 146], 67) := by decide +kernel
theorem dX5_count_68 : decode cX5_count 68 = .ok (.aload_n 0, 1) := by decide +kernel
theorem dX5_count_69 : decode cX5_count 69 = .ok (.getfield 7, 3) := by decide +kernel
theorem dX5_count_72 : decode cX5_count 72 = .ok (.iconst 0, 1) := by decide +kernel
theorem dX5_count_73 : decode cX5_count 73 = .ok (.iaload, 1) := by decide +kernel
theorem dX5_count_74 : decode cX5_count 74 = .ok (.ireturn, 1) := by decide +kernel
theorem dX5_count_75 : decode cX5_count 75 = .ok (.aload_n 0, 1) := by decide +kernel
theorem dX5_count_76 : decode cX5_count 76 = .ok (.getfield 7, 3) := by decide +kernel
theorem dX5_count_79 : decode cX5_count 79 = .ok (.iconst 1, 1) := by decide +kernel
theorem dX5_count_80 : decode cX5_count 80 = .ok (.iaload, 1) := by decide +kernel
theorem dX5_count_81 : decode cX5_count 81 = .ok (.ireturn, 1) := by decide +kernel
theorem dX5_count_82 : decode cX5_count 82 = .ok (.aload_n 0, 1) := by decide +kernel
theorem dX5_count_83 : decode cX5_count 83 = .ok (.iconst 1, 1) := by decide +kernel
theorem dX5_count_84 : decode cX5_count 84 = .ok (.iconst 1, 1) := by decide +kernel
theorem dX5_count_85 : decode cX5_count 85 = .ok (.invokevirtual 72, 3) := by decide +kernel
theorem dX5_count_88 : decode cX5_count 88 = .ok (.invokestatic 156, 3) := by decide +kernel
theorem dX5_count_91 : decode cX5_count 91 = .ok (.ireturn, 1) := by decide +kernel
theorem dX5_count_92 : decode cX5_count 92 = .ok (.aload_n 0, 1) := by decide +kernel
theorem dX5_count_93 : decode cX5_count 93 = .ok (.invokevirtual 80, 3) := by decide +kernel
theorem dX5_count_96 : decode cX5_count 96 = .ok (.invokestatic 156, 3) := by decide +kernel
theorem dX5_count_99 : decode cX5_count 99 = .ok (.ireturn, 1) := by decide +kernel
theorem dX5_count_100 : decode cX5_count 100 = .ok (.aload_n 0, 1) := by decide +kernel
theorem dX5_count_101 : decode cX5_count 101 = .ok (.iconst 0, 1) := by decide +kernel
theorem dX5_count_102 : decode cX5_count 102 = .ok (.invokevirtual 112, 3) := by decide +kernel
theorem dX5_count_105 : decode cX5_count 105 = .ok (.ireturn, 1) := by decide +kernel
theorem dX5_count_106 : decode cX5_count 106 = .ok (.aload_n 0, 1) := by decide +kernel
theorem dX5_count_107 : decode cX5_count 107 = .ok (.invokevirtual 165, 3) := by decide +kernel
theorem dX5_count_110 : decode cX5_count 110 = .ok (.ireturn, 1) := by decide +kernel
theorem dX5_count_111 : decode cX5_count 111 = .ok (.aload_n 0, 1) := by decide +kernel
theorem dX5_count_112 : decode cX5_count 112 = .ok (.invokevirtual 168, 3) := by decide +kernel
theorem dX5_count_115 : decode cX5_count 115 = .ok (.ireturn, 1) := by decide +kernel
theorem dX5_count_116 : decode cX5_count 116 = .ok (.aload_n 0, 1) := by decide +kernel
theorem dX5_count_117 : decode cX5_count 117 = .ok (.invokevirtual 171, 3) := by decide +kernel
theorem dX5_count_120 : decode cX5_count 120 = .ok (.ireturn, 1) := by decide +kernel
theorem dX5_count_121 : decode cX5_count 121 = .ok (.aload_n 0, 1) := by decide +kernel
theorem dX5_count_122 : decode cX5_count 122 = .ok (.getfield 7, 3) := by decide +kernel
theorem dX5_count_125 : decode cX5_count 125 = .ok (.iconst 2, 1) := by decide +kernel
theorem dX5_count_126 : decode cX5_count 126 = .ok (.iaload, 1) := by decide +kernel
theorem dX5_count_127 : decode cX5_count 127 = .ok (.ireturn, 1) := by decide +kernel
theorem dX5_count_128 : decode cX5_count 128 = .ok (.aload_n 0, 1) := by decide +kernel
theorem dX5_count_129 : decode cX5_count 129 = .ok (.getfield 7, 3) := by decide +kernel
theorem dX5_count_132 : decode cX5_count 132 = .ok (.iconst 3, 1) := by decide +kernel
theorem dX5_count_133 : decode cX5_count 133 = .ok (.iaload, 1) := by decide +kernel
theorem dX5_count_134 : decode cX5_count 134 = .ok (.ireturn, 1) := by decide +kernel
theorem dX5_count_135 : decode cX5_count 135 = .ok (.aload_n 0, 1) := by decide +kernel
theorem dX5_count_136 : decode cX5_count 136 = .ok (.getfield 7, 3) := by decide +kernel
theorem dX5_count_139 : decode cX5_count 139 = .ok (.iconst 4, 1) := by decide +kernel
theorem dX5_count_140 : decode cX5_count 140 = .ok (.iaload, 1) := by decide +kernel
theorem dX5_count_141 : decode cX5_count 141 = .ok (.ireturn, 1) := by decide +kernel
theorem dX5_count_142 : decode cX5_count 142 = .ok (.aload_n 0, 1) := by decide +kernel
theorem dX5_count_143 : decode cX5_count 143 = .ok (.getfield 40, 3) := by decide +kernel
theorem dX5_count_146 : decode cX5_count 146 = .ok (.ireturn, 1) := by decide +kernel
theorem dX5_count_147 : decode cX5_count 147 = .ok (.aload_n 0, 1) := by decide +kernel
theorem dX5_count_148 : decode cX5_count 148 = .ok (.getfield 174, 3) := by decide +kernel
theorem dX5_count_151 : decode cX5_count 151 = .ok (.ireturn, 1) := by decide +kernel
theorem dX5_count_152 : decode cX5_count 152 = .ok (.iconst (-1), 1) := by decide +kernel
theorem dX5_count_153 : decode cX5_count 153 = .ok (.ireturn, 1) := by decide +kernel
theorem dX5_undo_0 : decode cX5_undo 0 = .ok (.aload_n 0, 1) := by decide +kernel
theorem dX5_undo_1 : decode cX5_undo 1 = .ok (.getfield 40, 3) := by decide +kernel
theorem dX5_undo_4 : decode cX5_undo 4 = .ok (.ifCond .ne 6, 3) := by decide +kernel
theorem dX5_undo_7 : decode cX5_undo 7 = .ok (.bipush (-2), 2) := by decide +kernel
theorem dX5_undo_9 : decode cX5_undo 9 = .ok (.ireturn, 1) := by decide +kernel
theorem dX5_undo_10 : decode cX5_undo 10 = .ok (.aload_n 0, 1) := by decide +kernel
theorem dX5_undo_11 : decode cX5_undo 11 = .ok (.dup, 1) := by decide +kernel
theorem dX5_undo_12 : decode cX5_undo 12 = .ok (.getfield 40, 3) := by decide +kernel
theorem dX5_undo_15 : decode cX5_undo 15 = .ok (.iconst 1, 1) := by decide +kernel
theorem dX5_undo_16 : decode cX5_undo 16 = .ok (.isub, 1) := by decide +kernel
theorem dX5_undo_17 : decode cX5_undo 17 = .ok (.putfield 40, 3) := by decide +kernel
theorem dX5_undo_20 : decode cX5_undo 20 = .ok (.iconst 0, 1) := by decide +kernel
theorem dX5_undo_21 : decode cX5_undo 21 = .ok (.istore_n 1, 1) := by decide +kernel
theorem dX5_undo_22 : decode cX5_undo 22 = .ok (.iload_n 1, 1) := by decide +kernel
theorem dX5_undo_23 : decode cX5_undo 23 = .ok (.bipush 125, 2) := by decide +kernel
theorem dX5_undo_25 : decode cX5_undo 25 = .ok (.if_icmp .ge 29, 3) := by decide +kernel
theorem dX5_undo_28 : decode cX5_undo 28 = .ok (.aload_n 0, 1) := by decide +kernel
theorem dX5_undo_29 : decode cX5_undo 29 = .ok (.getfield 7, 3) := by decide +kernel
theorem dX5_undo_32 : decode cX5_undo 32 = .ok (.iload_n 1, 1) := by decide +kernel
theorem dX5_undo_33 : decode cX5_undo 33 = .ok (.aload_n 0, 1) := by decide +kernel
theorem dX5_undo_34 : decode cX5_undo 34 = .ok (.getfield 16, 3) := by decide +kernel
theorem dX5_undo_37 : decode cX5_undo 37 = .ok (.bipush 125, 2) := by decide +kernel
theorem dX5_undo_39 : decode cX5_undo 39 = .ok (.aload_n 0, 1) := by decide +kernel
theorem dX5_undo_40 : decode cX5_undo 40 = .ok (.getfield 40, 3) := by decide +kernel
theorem dX5_undo_43 : decode cX5_undo 43 = .ok (.imul, 1) := by decide +kernel
theorem dX5_undo_44 : decode cX5_undo 44 = .ok (.iload_n 1, 1) := by decide +kernel
theorem dX5_undo_45 : decode cX5_undo 45 = .ok (.iadd, 1) := by decide +kernel
theorem dX5_undo_46 : decode cX5_undo 46 = .ok (.iaload, 1) := by decide +kernel
theorem dX5_undo_47 : decode cX5_undo 47 = .ok (.iastore, 1) := by decide +kernel
theorem dX5_undo_48 : decode cX5_undo 48 = .ok (.iinc 1 1, 3) := by decide +kernel
theorem dX5_undo_51 : decode cX5_undo 51 = .ok (.goto (-29), 3) := by decide +kernel
theorem dX5_undo_54 : decode cX5_undo 54 = .ok (.aload_n 0, 1) := by decide +kernel
theorem dX5_undo_55 : decode cX5_undo 55 = .ok (.getfield 40, 3) := by decide +kernel
theorem dX5_undo_58 : decode cX5_undo 58 = .ok (.ireturn, 1) := by decide +kernel
theorem dX5_type_0 : decode cX5_type 0 = .ok (.iload_n 1, 1) := by decide +kernel
theorem dX5_type_1 : decode cX5_type 1 = .ok (.bipush 32, 2) := by decide +kernel
theorem dX5_type_3 : decode cX5_type 3 = .ok (.bipush 126, 2) := by decide +kernel
theorem dX5_type_5 : decode cX5_type 5 = .ok (.invokestatic 32, 3) := by decide +kernel
theorem dX5_type_8 : decode cX5_type 8 = .ok (.ifCond .ne 5, 3) := by decide +kernel
theorem dX5_type_11 : decode cX5_type 11 = .ok (.iconst (-1), 1) := by decide +kernel
theorem dX5_type_12 : decode cX5_type 12 = .ok (.ireturn, 1) := by decide +kernel
theorem dX5_type_13 : decode cX5_type 13 = .ok (.aload_n 0, 1) := by decide +kernel
theorem dX5_type_14 : decode cX5_type 14 = .ok (.getfield 174, 3) := by decide +kernel
theorem dX5_type_17 : decode cX5_type 17 = .ok (.bipush 80, 2) := by decide +kernel
theorem dX5_type_19 : decode cX5_type 19 = .ok (.if_icmp .ne 6, 3) := by decide +kernel
theorem dX5_type_22 : decode cX5_type 22 = .ok (.bipush (-3), 2) := by decide +kernel
theorem dX5_type_24 : decode cX5_type 24 = .ok (.ireturn, 1) := by decide +kernel
theorem dX5_type_25 : decode cX5_type 25 = .ok (.aload_n 0, 1) := by decide +kernel
theorem dX5_type_26 : decode cX5_type 26 = .ok (.getfield 19, 3) := by decide +kernel
theorem dX5_type_29 : decode cX5_type 29 = .ok (.aload_n 0, 1) := by decide +kernel
theorem dX5_type_30 : decode cX5_type 30 = .ok (.getfield 174, 3) := by decide +kernel
theorem dX5_type_33 : decode cX5_type 33 = .ok (.iload_n 1, 1) := by decide +kernel
theorem dX5_type_34 : decode cX5_type 34 = .ok (.iastore, 1) := by decide +kernel
theorem dX5_type_35 : decode cX5_type 35 = .ok (.aload_n 0, 1) := by decide +kernel
theorem dX5_type_36 : decode cX5_type 36 = .ok (.dup, 1) := by decide +kernel
theorem dX5_type_37 : decode cX5_type 37 = .ok (.getfield 174, 3) := by decide +kernel
theorem dX5_type_40 : decode cX5_type 40 = .ok (.iconst 1, 1) := by decide +kernel
theorem dX5_type_41 : decode cX5_type 41 = .ok (.iadd, 1) := by decide +kernel
theorem dX5_type_42 : decode cX5_type 42 = .ok (.putfield 174, 3) := by decide +kernel
theorem dX5_type_45 : decode cX5_type 45 = .ok (.aload_n 0, 1) := by decide +kernel
theorem dX5_type_46 : decode cX5_type 46 = .ok (.getfield 174, 3) := by decide +kernel
theorem dX5_type_49 : decode cX5_type 49 = .ok (.ireturn, 1) := by decide +kernel
theorem dX5_clearText_0 : decode cX5_clearText 0 = .ok (.aload_n 0, 1) := by decide +kernel
theorem dX5_clearText_1 : decode cX5_clearText 1 = .ok (.getfield 174, 3) := by decide +kernel
theorem dX5_clearText_4 : decode cX5_clearText 4 = .ok (.istore_n 1, 1) := by decide +kernel
theorem dX5_clearText_5 : decode cX5_clearText 5 = .ok (.aload_n 0, 1) := by decide +kernel
theorem dX5_clearText_6 : decode cX5_clearText 6 = .ok (.iconst 0, 1) := by decide +kernel
theorem dX5_clearText_7 : decode cX5_clearText 7 = .ok (.putfield 174, 3) := by decide +kernel
theorem dX5_clearText_10 : decode cX5_clearText 10 = .ok (.iload_n 1, 1) := by decide +kernel
theorem dX5_clearText_11 : decode cX5_clearText 11 = .ok (.ireturn, 1) := by decide +kernel
theorem dX5_here_0 : decode cX5_here 0 = .ok (.aload_n 0, 1) := by decide +kernel
theorem dX5_here_1 : decode cX5_here 1 = .ok (.getfield 177, 3) := by decide +kernel
theorem dX5_here_4 : decode cX5_here 4 = .ok (.aload_n 0, 1) := by decide +kernel
theorem dX5_here_5 : decode cX5_here 5 = .ok (.getfield 174, 3) := by decide +kernel
theorem dX5_here_8 : decode cX5_here 8 = .ok (.if_icmp .ge 15, 3) := by decide +kernel
theorem dX5_here_11 : decode cX5_here 11 = .ok (.aload_n 0, 1) := by decide +kernel
theorem dX5_here_12 : decode cX5_here 12 = .ok (.getfield 19, 3) := by decide +kernel
theorem dX5_here_15 : decode cX5_here 15 = .ok (.aload_n 0, 1) := by decide +kernel
theorem dX5_here_16 : decode cX5_here 16 = .ok (.getfield 177, 3) := by decide +kernel
theorem dX5_here_19 : decode cX5_here 19 = .ok (.iaload, 1) := by decide +kernel
theorem dX5_here_20 : decode cX5_here 20 = .ok (.goto 4, 3) := by decide +kernel
theorem dX5_here_23 : decode cX5_here 23 = .ok (.iconst (-1), 1) := by decide +kernel
theorem dX5_here_24 : decode cX5_here 24 = .ok (.ireturn, 1) := by decide +kernel
theorem dX5_must_0 : decode cX5_must 0 = .ok (.aload_n 0, 1) := by decide +kernel
theorem dX5_must_1 : decode cX5_must 1 = .ok (.aload_n 0, 1) := by decide +kernel
theorem dX5_must_2 : decode cX5_must 2 = .ok (.getfield 180, 3) := by decide +kernel
theorem dX5_must_5 : decode cX5_must 5 = .ok (.ifCond .eq 15, 3) := by decide +kernel
theorem dX5_must_8 : decode cX5_must 8 = .ok (.aload_n 0, 1) := by decide +kernel
theorem dX5_must_9 : decode cX5_must 9 = .ok (.invokevirtual 184, 3) := by decide +kernel
theorem dX5_must_12 : decode cX5_must 12 = .ok (.iload_n 1, 1) := by decide +kernel
theorem dX5_must_13 : decode cX5_must 13 = .ok (.if_icmp .ne 7, 3) := by decide +kernel
theorem dX5_must_16 : decode cX5_must 16 = .ok (.iconst 1, 1) := by decide +kernel
theorem dX5_must_17 : decode cX5_must 17 = .ok (.goto 4, 3) := by decide +kernel
theorem dX5_must_20 : decode cX5_must 20 = .ok (.iconst 0, 1) := by decide +kernel
theorem dX5_must_21 : decode cX5_must 21 = .ok (.putfield 180, 3) := by decide +kernel
theorem dX5_must_24 : decode cX5_must 24 = .ok (.aload_n 0, 1) := by decide +kernel
theorem dX5_must_25 : decode cX5_must 25 = .ok (.dup, 1) := by decide +kernel
theorem dX5_must_26 : decode cX5_must 26 = .ok (.getfield 177, 3) := by decide +kernel
theorem dX5_must_29 : decode cX5_must 29 = .ok (.iconst 1, 1) := by decide +kernel
theorem dX5_must_30 : decode cX5_must 30 = .ok (.iadd, 1) := by decide +kernel
theorem dX5_must_31 : decode cX5_must 31 = .ok (.putfield 177, 3) := by decide +kernel
theorem dX5_must_34 : decode cX5_must 34 = .ok (.return_, 1) := by decide +kernel
theorem dX5_readNumber_0 : decode cX5_readNumber 0 = .ok (.aload_n 0, 1) := by decide +kernel
theorem dX5_readNumber_1 : decode cX5_readNumber 1 = .ok (.iload_n 1, 1) := by decide +kernel
theorem dX5_readNumber_2 : decode cX5_readNumber 2 = .ok (.invokevirtual 187, 3) := by decide +kernel
theorem dX5_readNumber_5 : decode cX5_readNumber 5 = .ok (.iconst 0, 1) := by decide +kernel
theorem dX5_readNumber_6 : decode cX5_readNumber 6 = .ok (.istore_n 2, 1) := by decide +kernel
theorem dX5_readNumber_7 : decode cX5_readNumber 7 = .ok (.iconst 0, 1) := by decide +kernel
theorem dX5_readNumber_8 : decode cX5_readNumber 8 = .ok (.istore_n 3, 1) := by decide +kernel
theorem dX5_readNumber_9 : decode cX5_readNumber 9 = .ok (.iload_n 3, 1) := by decide +kernel
theorem dX5_readNumber_10 : decode cX5_readNumber 10 = .ok (.iconst 3, 1) := by decide +kernel
theorem dX5_readNumber_11 : decode cX5_readNumber 11 = .ok (.if_icmp .ge 46, 3) := by decide +kernel
theorem dX5_readNumber_14 : decode cX5_readNumber 14 = .ok (.aload_n 0, 1) := by decide +kernel
theorem dX5_readNumber_15 : decode cX5_readNumber 15 = .ok (.invokevirtual 184, 3) := by decide +kernel
theorem dX5_readNumber_18 : decode cX5_readNumber 18 = .ok (.bipush 48, 2) := by decide +kernel
theorem dX5_readNumber_20 : decode cX5_readNumber 20 = .ok (.bipush 57, 2) := by decide +kernel
theorem dX5_readNumber_22 : decode cX5_readNumber 22 = .ok (.invokestatic 32, 3) := by decide +kernel
theorem dX5_readNumber_25 : decode cX5_readNumber 25 = .ok (.ifCond .eq 32, 3) := by decide +kernel
theorem dX5_readNumber_28 : decode cX5_readNumber 28 = .ok (.bipush 10, 2) := by decide +kernel
theorem dX5_readNumber_30 : decode cX5_readNumber 30 = .ok (.iload_n 2, 1) := by decide +kernel
theorem dX5_readNumber_31 : decode cX5_readNumber 31 = .ok (.imul, 1) := by decide +kernel
theorem dX5_readNumber_32 : decode cX5_readNumber 32 = .ok (.aload_n 0, 1) := by decide +kernel
theorem dX5_readNumber_33 : decode cX5_readNumber 33 = .ok (.invokevirtual 184, 3) := by decide +kernel
theorem dX5_readNumber_36 : decode cX5_readNumber 36 = .ok (.iadd, 1) := by decide +kernel
theorem dX5_readNumber_37 : decode cX5_readNumber 37 = .ok (.bipush 48, 2) := by decide +kernel
theorem dX5_readNumber_39 : decode cX5_readNumber 39 = .ok (.isub, 1) := by decide +kernel
theorem dX5_readNumber_40 : decode cX5_readNumber 40 = .ok (.istore_n 2, 1) := by decide +kernel
theorem dX5_readNumber_41 : decode cX5_readNumber 41 = .ok (.iinc 3 1, 3) := by decide +kernel
theorem dX5_readNumber_44 : decode cX5_readNumber 44 = .ok (.aload_n 0, 1) := by decide +kernel
theorem dX5_readNumber_45 : decode cX5_readNumber 45 = .ok (.dup, 1) := by decide +kernel
theorem dX5_readNumber_46 : decode cX5_readNumber 46 = .ok (.getfield 177, 3) := by decide +kernel
theorem dX5_readNumber_49 : decode cX5_readNumber 49 = .ok (.iconst 1, 1) := by decide +kernel
theorem dX5_readNumber_50 : decode cX5_readNumber 50 = .ok (.iadd, 1) := by decide +kernel
theorem dX5_readNumber_51 : decode cX5_readNumber 51 = .ok (.putfield 177, 3) := by decide +kernel
theorem dX5_readNumber_54 : decode cX5_readNumber 54 = .ok (.goto (-45), 3) := by decide +kernel
theorem dX5_readNumber_57 : decode cX5_readNumber 57 = .ok (.aload_n 0, 1) := by decide +kernel
theorem dX5_readNumber_58 : decode cX5_readNumber 58 = .ok (.aload_n 0, 1) := by decide +kernel
theorem dX5_readNumber_59 : decode cX5_readNumber 59 = .ok (.getfield 180, 3) := by decide +kernel
theorem dX5_readNumber_62 : decode cX5_readNumber 62 = .ok (.ifCond .eq 11, 3) := by decide +kernel
theorem dX5_readNumber_65 : decode cX5_readNumber 65 = .ok (.iload_n 3, 1) := by decide +kernel
theorem dX5_readNumber_66 : decode cX5_readNumber 66 = .ok (.ifCond .le 7, 3) := by decide +kernel
theorem dX5_readNumber_69 : decode cX5_readNumber 69 = .ok (.iconst 1, 1) := by decide +kernel
theorem dX5_readNumber_70 : decode cX5_readNumber 70 = .ok (.goto 4, 3) := by decide +kernel
theorem dX5_readNumber_73 : decode cX5_readNumber 73 = .ok (.iconst 0, 1) := by decide +kernel
theorem dX5_readNumber_74 : decode cX5_readNumber 74 = .ok (.putfield 180, 3) := by decide +kernel
theorem dX5_readNumber_77 : decode cX5_readNumber 77 = .ok (.iload_n 2, 1) := by decide +kernel
theorem dX5_readNumber_78 : decode cX5_readNumber 78 = .ok (.ireturn, 1) := by decide +kernel
theorem dX5_command_0 : decode cX5_command 0 = .ok (.aload_n 0, 1) := by decide +kernel
theorem dX5_command_1 : decode cX5_command 1 = .ok (.invokevirtual 184, 3) := by decide +kernel
theorem dX5_command_4 : decode cX5_command 4 = .ok (.istore_n 1, 1) := by decide +kernel
theorem dX5_command_5 : decode cX5_command 5 = .ok (.aload_n 0, 1) := by decide +kernel
theorem dX5_command_6 : decode cX5_command 6 = .ok (.iload_n 1, 1) := by decide +kernel
theorem dX5_command_7 : decode cX5_command 7 = .ok (.bipush 103, 2) := by decide +kernel
theorem dX5_command_9 : decode cX5_command 9 = .ok (.if_icmp .eq 27, 3) := by decide +kernel
theorem dX5_command_12 : decode cX5_command 12 = .ok (.iload_n 1, 1) := by decide +kernel
theorem dX5_command_13 : decode cX5_command 13 = .ok (.bipush 104, 2) := by decide +kernel
theorem dX5_command_15 : decode cX5_command 15 = .ok (.if_icmp .eq 21, 3) := by decide +kernel
theorem dX5_command_18 : decode cX5_command 18 = .ok (.iload_n 1, 1) := by decide +kernel
theorem dX5_command_19 : decode cX5_command 19 = .ok (.bipush 112, 2) := by decide +kernel
theorem dX5_command_21 : decode cX5_command 21 = .ok (.if_icmp .eq 15, 3) := by decide +kernel
theorem dX5_command_24 : decode cX5_command 24 = .ok (.iload_n 1, 1) := by decide +kernel
theorem dX5_command_25 : decode cX5_command 25 = .ok (.bipush 119, 2) := by decide +kernel
theorem dX5_command_27 : decode cX5_command 27 = .ok (.if_icmp .eq 9, 3) := by decide +kernel
theorem dX5_command_30 : decode cX5_command 30 = .ok (.iload_n 1, 1) := by decide +kernel
theorem dX5_command_31 : decode cX5_command 31 = .ok (.bipush 99, 2) := by decide +kernel
theorem dX5_command_33 : decode cX5_command 33 = .ok (.if_icmp .ne 7, 3) := by decide +kernel
theorem dX5_command_36 : decode cX5_command 36 = .ok (.iconst 1, 1) := by decide +kernel
theorem dX5_command_37 : decode cX5_command 37 = .ok (.goto 4, 3) := by decide +kernel
theorem dX5_command_40 : decode cX5_command 40 = .ok (.iconst 0, 1) := by decide +kernel
theorem dX5_command_41 : decode cX5_command 41 = .ok (.putfield 180, 3) := by decide +kernel
theorem dX5_command_44 : decode cX5_command 44 = .ok (.iload_n 1, 1) := by decide +kernel
theorem dX5_command_45 : decode cX5_command 45 = .ok (.bipush 112, 2) := by decide +kernel
theorem dX5_command_47 : decode cX5_command 47 = .ok (.if_icmp .ne 7, 3) := by decide +kernel
theorem dX5_command_50 : decode cX5_command 50 = .ok (.iconst 5, 1) := by decide +kernel
theorem dX5_command_51 : decode cX5_command 51 = .ok (.goto 4, 3) := by decide +kernel
theorem dX5_command_54 : decode cX5_command 54 = .ok (.iconst 1, 1) := by decide +kernel
theorem dX5_command_55 : decode cX5_command 55 = .ok (.istore_n 2, 1) := by decide +kernel
theorem dX5_command_56 : decode cX5_command 56 = .ok (.iconst 0, 1) := by decide +kernel
theorem dX5_command_57 : decode cX5_command 57 = .ok (.istore_n 3, 1) := by decide +kernel
theorem dX5_command_58 : decode cX5_command 58 = .ok (.iload_n 3, 1) := by decide +kernel
theorem dX5_command_59 : decode cX5_command 59 = .ok (.iload_n 2, 1) := by decide +kernel
theorem dX5_command_60 : decode cX5_command 60 = .ok (.if_icmp .ge 29, 3) := by decide +kernel
theorem dX5_command_63 : decode cX5_command 63 = .ok (.aload_n 0, 1) := by decide +kernel
theorem dX5_command_64 : decode cX5_command 64 = .ok (.getfield 29, 3) := by decide +kernel
theorem dX5_command_67 : decode cX5_command 67 = .ok (.iload_n 3, 1) := by decide +kernel
theorem dX5_command_68 : decode cX5_command 68 = .ok (.aload_n 0, 1) := by decide +kernel
theorem dX5_command_69 : decode cX5_command 69 = .ok (.iload_n 3, 1) := by decide +kernel
theorem dX5_command_70 : decode cX5_command 70 = .ok (.ifCond .ne 7, 3) := by decide +kernel
theorem dX5_command_73 : decode cX5_command 73 = .ok (.iload_n 1, 1) := by decide +kernel
theorem dX5_command_74 : decode cX5_command 74 = .ok (.goto 5, 3) := by decide +kernel
theorem dX5_command_77 : decode cX5_command 77 = .ok (.bipush 44, 2) := by decide +kernel
theorem dX5_command_79 : decode cX5_command 79 = .ok (.invokevirtual 190, 3) := by decide +kernel
theorem dX5_command_82 : decode cX5_command 82 = .ok (.iastore, 1) := by decide +kernel
theorem dX5_command_83 : decode cX5_command 83 = .ok (.iinc 3 1, 3) := by decide +kernel
theorem dX5_command_86 : decode cX5_command 86 = .ok (.goto (-28), 3) := by decide +kernel
theorem dX5_command_89 : decode cX5_command 89 = .ok (.aload_n 0, 1) := by decide +kernel
theorem dX5_command_90 : decode cX5_command 90 = .ok (.bipush 59, 2) := by decide +kernel
theorem dX5_command_92 : decode cX5_command 92 = .ok (.invokevirtual 187, 3) := by decide +kernel
theorem dX5_command_95 : decode cX5_command 95 = .ok (.aload_n 0, 1) := by decide +kernel
theorem dX5_command_96 : decode cX5_command 96 = .ok (.getfield 180, 3) := by decide +kernel
theorem dX5_command_99 : decode cX5_command 99 = .ok (.ifCond .ne 5, 3) := by decide +kernel
theorem dX5_command_102 : decode cX5_command 102 = .ok (.iconst 0, 1) := by decide +kernel
theorem dX5_command_103 : decode cX5_command 103 = .ok (.ireturn, 1) := by decide +kernel
theorem dX5_command_104 : decode cX5_command 104 = .ok (.iload_n 1, 1) := by decide +kernel
theorem dX5_command_105 : decode cX5_command 105 = .ok (.lookupswitch 111 #[(103, 43), (104, 54), (112, 65), (119, 100)], 43) := by decide +kernel
theorem dX5_command_148 : decode cX5_command 148 = .ok (.aload_n 0, 1) := by decide +kernel
theorem dX5_command_149 : decode cX5_command 149 = .ok (.aload_n 0, 1) := by decide +kernel
theorem dX5_command_150 : decode cX5_command 150 = .ok (.getfield 29, 3) := by decide +kernel
theorem dX5_command_153 : decode cX5_command 153 = .ok (.iconst 0, 1) := by decide +kernel
theorem dX5_command_154 : decode cX5_command 154 = .ok (.iaload, 1) := by decide +kernel
theorem dX5_command_155 : decode cX5_command 155 = .ok (.invokevirtual 128, 3) := by decide +kernel
theorem dX5_command_158 : decode cX5_command 158 = .ok (.ireturn, 1) := by decide +kernel
theorem dX5_command_159 : decode cX5_command 159 = .ok (.aload_n 0, 1) := by decide +kernel
theorem dX5_command_160 : decode cX5_command 160 = .ok (.aload_n 0, 1) := by decide +kernel
theorem dX5_command_161 : decode cX5_command 161 = .ok (.getfield 29, 3) := by decide +kernel
theorem dX5_command_164 : decode cX5_command 164 = .ok (.iconst 0, 1) := by decide +kernel
theorem dX5_command_165 : decode cX5_command 165 = .ok (.iaload, 1) := by decide +kernel
theorem dX5_command_166 : decode cX5_command 166 = .ok (.invokevirtual 134, 3) := by decide +kernel
theorem dX5_command_169 : decode cX5_command 169 = .ok (.ireturn, 1) := by decide +kernel
theorem dX5_command_170 : decode cX5_command 170 = .ok (.aload_n 0, 1) := by decide +kernel
theorem dX5_command_171 : decode cX5_command 171 = .ok (.aload_n 0, 1) := by decide +kernel
theorem dX5_command_172 : decode cX5_command 172 = .ok (.getfield 29, 3) := by decide +kernel
theorem dX5_command_175 : decode cX5_command 175 = .ok (.iconst 0, 1) := by decide +kernel
theorem dX5_command_176 : decode cX5_command 176 = .ok (.iaload, 1) := by decide +kernel
theorem dX5_command_177 : decode cX5_command 177 = .ok (.aload_n 0, 1) := by decide +kernel
theorem dX5_command_178 : decode cX5_command 178 = .ok (.getfield 29, 3) := by decide +kernel
theorem dX5_command_181 : decode cX5_command 181 = .ok (.iconst 1, 1) := by decide +kernel
theorem dX5_command_182 : decode cX5_command 182 = .ok (.iaload, 1) := by decide +kernel
theorem dX5_command_183 : decode cX5_command 183 = .ok (.aload_n 0, 1) := by decide +kernel
theorem dX5_command_184 : decode cX5_command 184 = .ok (.getfield 29, 3) := by decide +kernel
theorem dX5_command_187 : decode cX5_command 187 = .ok (.iconst 2, 1) := by decide +kernel
theorem dX5_command_188 : decode cX5_command 188 = .ok (.iaload, 1) := by decide +kernel
theorem dX5_command_189 : decode cX5_command 189 = .ok (.aload_n 0, 1) := by decide +kernel
theorem dX5_command_190 : decode cX5_command 190 = .ok (.getfield 29, 3) := by decide +kernel
theorem dX5_command_193 : decode cX5_command 193 = .ok (.iconst 3, 1) := by decide +kernel
theorem dX5_command_194 : decode cX5_command 194 = .ok (.iaload, 1) := by decide +kernel
theorem dX5_command_195 : decode cX5_command 195 = .ok (.aload_n 0, 1) := by decide +kernel
theorem dX5_command_196 : decode cX5_command 196 = .ok (.getfield 29, 3) := by decide +kernel
theorem dX5_command_199 : decode cX5_command 199 = .ok (.iconst 4, 1) := by decide +kernel
theorem dX5_command_200 : decode cX5_command 200 = .ok (.iaload, 1) := by decide +kernel
theorem dX5_command_201 : decode cX5_command 201 = .ok (.invokevirtual 137, 3) := by decide +kernel
theorem dX5_command_204 : decode cX5_command 204 = .ok (.ireturn, 1) := by decide +kernel
theorem dX5_command_205 : decode cX5_command 205 = .ok (.aload_n 0, 1) := by decide +kernel
theorem dX5_command_206 : decode cX5_command 206 = .ok (.aload_n 0, 1) := by decide +kernel
theorem dX5_command_207 : decode cX5_command 207 = .ok (.getfield 29, 3) := by decide +kernel
theorem dX5_command_210 : decode cX5_command 210 = .ok (.iconst 0, 1) := by decide +kernel
theorem dX5_command_211 : decode cX5_command 211 = .ok (.iaload, 1) := by decide +kernel
theorem dX5_command_212 : decode cX5_command 212 = .ok (.invokevirtual 141, 3) := by decide +kernel
theorem dX5_command_215 : decode cX5_command 215 = .ok (.ireturn, 1) := by decide +kernel
theorem dX5_command_216 : decode cX5_command 216 = .ok (.aload_n 0, 1) := by decide +kernel
theorem dX5_command_217 : decode cX5_command 217 = .ok (.aload_n 0, 1) := by decide +kernel
theorem dX5_command_218 : decode cX5_command 218 = .ok (.getfield 29, 3) := by decide +kernel
theorem dX5_command_221 : decode cX5_command 221 = .ok (.iconst 0, 1) := by decide +kernel
theorem dX5_command_222 : decode cX5_command 222 = .ok (.iaload, 1) := by decide +kernel
theorem dX5_command_223 : decode cX5_command 223 = .ok (.invokevirtual 144, 3) := by decide +kernel
theorem dX5_command_226 : decode cX5_command 226 = .ok (.ireturn, 1) := by decide +kernel
theorem dX5_does_0 : decode cX5_does 0 = .ok (.aload_n 0, 1) := by decide +kernel
theorem dX5_does_1 : decode cX5_does 1 = .ok (.iconst 0, 1) := by decide +kernel
theorem dX5_does_2 : decode cX5_does 2 = .ok (.putfield 177, 3) := by decide +kernel
theorem dX5_does_5 : decode cX5_does 5 = .ok (.iconst 0, 1) := by decide +kernel
theorem dX5_does_6 : decode cX5_does 6 = .ok (.istore_n 1, 1) := by decide +kernel
theorem dX5_does_7 : decode cX5_does 7 = .ok (.aload_n 0, 1) := by decide +kernel
theorem dX5_does_8 : decode cX5_does 8 = .ok (.getfield 177, 3) := by decide +kernel
theorem dX5_does_11 : decode cX5_does 11 = .ok (.aload_n 0, 1) := by decide +kernel
theorem dX5_does_12 : decode cX5_does 12 = .ok (.getfield 174, 3) := by decide +kernel
theorem dX5_does_15 : decode cX5_does 15 = .ok (.if_icmp .ge 58, 3) := by decide +kernel
theorem dX5_does_18 : decode cX5_does 18 = .ok (.aload_n 0, 1) := by decide +kernel
theorem dX5_does_19 : decode cX5_does 19 = .ok (.getfield 177, 3) := by decide +kernel
theorem dX5_does_22 : decode cX5_does 22 = .ok (.istore_n 2, 1) := by decide +kernel
theorem dX5_does_23 : decode cX5_does 23 = .ok (.aload_n 0, 1) := by decide +kernel
theorem dX5_does_24 : decode cX5_does 24 = .ok (.aload_n 0, 1) := by decide +kernel
theorem dX5_does_25 : decode cX5_does 25 = .ok (.invokevirtual 193, 3) := by decide +kernel
theorem dX5_does_28 : decode cX5_does 28 = .ok (.putfield 196, 3) := by decide +kernel
theorem dX5_does_31 : decode cX5_does 31 = .ok (.aload_n 0, 1) := by decide +kernel
theorem dX5_does_32 : decode cX5_does 32 = .ok (.aload_n 0, 1) := by decide +kernel
theorem dX5_does_33 : decode cX5_does 33 = .ok (.getfield 180, 3) := by decide +kernel
theorem dX5_does_36 : decode cX5_does 36 = .ok (.ifCond .ne 7, 3) := by decide +kernel
theorem dX5_does_39 : decode cX5_does 39 = .ok (.iconst 1, 1) := by decide +kernel
theorem dX5_does_40 : decode cX5_does 40 = .ok (.goto 15, 3) := by decide +kernel
theorem dX5_does_43 : decode cX5_does 43 = .ok (.aload_n 0, 1) := by decide +kernel
theorem dX5_does_44 : decode cX5_does 44 = .ok (.getfield 196, 3) := by decide +kernel
theorem dX5_does_47 : decode cX5_does 47 = .ok (.ifCond .ge 7, 3) := by decide +kernel
theorem dX5_does_50 : decode cX5_does 50 = .ok (.iconst 2, 1) := by decide +kernel
theorem dX5_does_51 : decode cX5_does 51 = .ok (.goto 4, 3) := by decide +kernel
theorem dX5_does_54 : decode cX5_does 54 = .ok (.iconst 0, 1) := by decide +kernel
theorem dX5_does_55 : decode cX5_does 55 = .ok (.putfield 199, 3) := by decide +kernel
theorem dX5_does_58 : decode cX5_does 58 = .ok (.aload_n 0, 1) := by decide +kernel
theorem dX5_does_59 : decode cX5_does 59 = .ok (.getfield 199, 3) := by decide +kernel
theorem dX5_does_62 : decode cX5_does 62 = .ok (.ifCond .le 5, 3) := by decide +kernel
theorem dX5_does_65 : decode cX5_does 65 = .ok (.iload_n 2, 1) := by decide +kernel
theorem dX5_does_66 : decode cX5_does 66 = .ok (.ireturn, 1) := by decide +kernel
theorem dX5_does_67 : decode cX5_does 67 = .ok (.iinc 1 1, 3) := by decide +kernel
theorem dX5_does_70 : decode cX5_does 70 = .ok (.goto (-63), 3) := by decide +kernel
theorem dX5_does_73 : decode cX5_does 73 = .ok (.iconst (-1), 1) := by decide +kernel
theorem dX5_does_74 : decode cX5_does 74 = .ok (.iload_n 1, 1) := by decide +kernel
theorem dX5_does_75 : decode cX5_does 75 = .ok (.isub, 1) := by decide +kernel
theorem dX5_does_76 : decode cX5_does 76 = .ok (.ireturn, 1) := by decide +kernel
theorem dX5_fault_0 : decode cX5_fault 0 = .ok (.iload_n 1, 1) := by decide +kernel
theorem dX5_fault_1 : decode cX5_fault 1 = .ok (.iconst 0, 1) := by decide +kernel
theorem dX5_fault_2 : decode cX5_fault 2 = .ok (.iconst 2, 1) := by decide +kernel
theorem dX5_fault_3 : decode cX5_fault 3 = .ok (.invokestatic 32, 3) := by decide +kernel
theorem dX5_fault_6 : decode cX5_fault 6 = .ok (.ifCond .ne 5, 3) := by decide +kernel
theorem dX5_fault_9 : decode cX5_fault 9 = .ok (.iconst (-1), 1) := by decide +kernel
theorem dX5_fault_10 : decode cX5_fault 10 = .ok (.ireturn, 1) := by decide +kernel
theorem dX5_fault_11 : decode cX5_fault 11 = .ok (.aload_n 0, 1) := by decide +kernel
theorem dX5_fault_12 : decode cX5_fault 12 = .ok (.invokevirtual 125, 3) := by decide +kernel
theorem dX5_fault_15 : decode cX5_fault 15 = .ok (.aload_n 0, 1) := by decide +kernel
theorem dX5_fault_16 : decode cX5_fault 16 = .ok (.invokevirtual 202, 3) := by decide +kernel
theorem dX5_fault_19 : decode cX5_fault 19 = .ok (.istore_n 2, 1) := by decide +kernel
theorem dX5_fault_20 : decode cX5_fault 20 = .ok (.aload_n 0, 1) := by decide +kernel
theorem dX5_fault_21 : decode cX5_fault 21 = .ok (.invokevirtual 205, 3) := by decide +kernel
theorem dX5_fault_24 : decode cX5_fault 24 = .ok (.iload_n 2, 1) := by decide +kernel
theorem dX5_fault_25 : decode cX5_fault 25 = .ok (.ifCond .lt 16, 3) := by decide +kernel
theorem dX5_fault_28 : decode cX5_fault 28 = .ok (.iload_n 1, 1) := by decide +kernel
theorem dX5_fault_29 : decode cX5_fault 29 = .ok (.iconst 2, 1) := by decide +kernel
theorem dX5_fault_30 : decode cX5_fault 30 = .ok (.if_icmp .ne 14, 3) := by decide +kernel
theorem dX5_fault_33 : decode cX5_fault 33 = .ok (.aload_n 0, 1) := by decide +kernel
theorem dX5_fault_34 : decode cX5_fault 34 = .ok (.getfield 199, 3) := by decide +kernel
theorem dX5_fault_37 : decode cX5_fault 37 = .ok (.iconst 1, 1) := by decide +kernel
theorem dX5_fault_38 : decode cX5_fault 38 = .ok (.if_icmp .ne 6, 3) := by decide +kernel
theorem dX5_fault_41 : decode cX5_fault 41 = .ok (.bipush (-4), 2) := by decide +kernel
theorem dX5_fault_43 : decode cX5_fault 43 = .ok (.ireturn, 1) := by decide +kernel
theorem dX5_fault_44 : decode cX5_fault 44 = .ok (.iload_n 1, 1) := by decide +kernel
theorem dX5_fault_45 : decode cX5_fault 45 = .ok (.ifCond .ne 7, 3) := by decide +kernel
theorem dX5_fault_48 : decode cX5_fault 48 = .ok (.iload_n 2, 1) := by decide +kernel
theorem dX5_fault_49 : decode cX5_fault 49 = .ok (.goto 19, 3) := by decide +kernel
theorem dX5_fault_52 : decode cX5_fault 52 = .ok (.iload_n 1, 1) := by decide +kernel
theorem dX5_fault_53 : decode cX5_fault 53 = .ok (.iconst 1, 1) := by decide +kernel
theorem dX5_fault_54 : decode cX5_fault 54 = .ok (.if_icmp .ne 10, 3) := by decide +kernel
theorem dX5_fault_57 : decode cX5_fault 57 = .ok (.aload_n 0, 1) := by decide +kernel
theorem dX5_fault_58 : decode cX5_fault 58 = .ok (.getfield 199, 3) := by decide +kernel
theorem dX5_fault_61 : decode cX5_fault 61 = .ok (.goto 7, 3) := by decide +kernel
theorem dX5_fault_64 : decode cX5_fault 64 = .ok (.aload_n 0, 1) := by decide +kernel
theorem dX5_fault_65 : decode cX5_fault 65 = .ok (.getfield 196, 3) := by decide +kernel
theorem dX5_fault_68 : decode cX5_fault 68 = .ok (.ireturn, 1) := by decide +kernel
theorem dX5_play_0 : decode cX5_play 0 = .ok (.aload_n 0, 1) := by decide +kernel
theorem dX5_play_1 : decode cX5_play 1 = .ok (.invokevirtual 125, 3) := by decide +kernel
theorem dX5_play_4 : decode cX5_play 4 = .ok (.aload_n 0, 1) := by decide +kernel
theorem dX5_play_5 : decode cX5_play 5 = .ok (.invokevirtual 202, 3) := by decide +kernel
theorem dX5_play_8 : decode cX5_play 8 = .ok (.istore_n 1, 1) := by decide +kernel
theorem dX5_play_9 : decode cX5_play 9 = .ok (.iload_n 1, 1) := by decide +kernel
theorem dX5_play_10 : decode cX5_play 10 = .ok (.ifCond .lt 10, 3) := by decide +kernel
theorem dX5_play_13 : decode cX5_play 13 = .ok (.aload_n 0, 1) := by decide +kernel
theorem dX5_play_14 : decode cX5_play 14 = .ok (.invokevirtual 205, 3) := by decide +kernel
theorem dX5_play_17 : decode cX5_play 17 = .ok (.bipush (-2), 2) := by decide +kernel
theorem dX5_play_19 : decode cX5_play 19 = .ok (.ireturn, 1) := by decide +kernel
theorem dX5_play_20 : decode cX5_play 20 = .ok (.aload_n 0, 1) := by decide +kernel
theorem dX5_play_21 : decode cX5_play 21 = .ok (.iconst (-1), 1) := by decide +kernel
theorem dX5_play_22 : decode cX5_play 22 = .ok (.iload_n 1, 1) := by decide +kernel
theorem dX5_play_23 : decode cX5_play 23 = .ok (.isub, 1) := by decide +kernel
theorem dX5_play_24 : decode cX5_play 24 = .ok (.invokevirtual 131, 3) := by decide +kernel
theorem dX5_play_27 : decode cX5_play 27 = .ok (.ireturn, 1) := by decide +kernel
theorem dJ6_bitCount_0f7a4_0 : decode cJ6_bitCount_0f7a4 0 = .ok (.iload_n 0, 1) := by decide +kernel
theorem dJ6_bitCount_0f7a4_1 : decode cJ6_bitCount_0f7a4 1 = .ok (.iload_n 0, 1) := by decide +kernel
theorem dJ6_bitCount_0f7a4_2 : decode cJ6_bitCount_0f7a4 2 = .ok (.iconst 1, 1) := by decide +kernel
theorem dJ6_bitCount_0f7a4_3 : decode cJ6_bitCount_0f7a4 3 = .ok (.iushr, 1) := by decide +kernel
theorem dJ6_bitCount_0f7a4_4 : decode cJ6_bitCount_0f7a4 4 = .ok (.ldc_w 265, 3) := by decide +kernel
theorem dJ6_bitCount_0f7a4_7 : decode cJ6_bitCount_0f7a4 7 = .ok (.iand, 1) := by decide +kernel
theorem dJ6_bitCount_0f7a4_8 : decode cJ6_bitCount_0f7a4 8 = .ok (.isub, 1) := by decide +kernel
theorem dJ6_bitCount_0f7a4_9 : decode cJ6_bitCount_0f7a4 9 = .ok (.istore_n 0, 1) := by decide +kernel
theorem dJ6_bitCount_0f7a4_10 : decode cJ6_bitCount_0f7a4 10 = .ok (.iload_n 0, 1) := by decide +kernel
theorem dJ6_bitCount_0f7a4_11 : decode cJ6_bitCount_0f7a4 11 = .ok (.ldc_w 266, 3) := by decide +kernel
theorem dJ6_bitCount_0f7a4_14 : decode cJ6_bitCount_0f7a4 14 = .ok (.iand, 1) := by decide +kernel
theorem dJ6_bitCount_0f7a4_15 : decode cJ6_bitCount_0f7a4 15 = .ok (.iload_n 0, 1) := by decide +kernel
theorem dJ6_bitCount_0f7a4_16 : decode cJ6_bitCount_0f7a4 16 = .ok (.iconst 2, 1) := by decide +kernel
theorem dJ6_bitCount_0f7a4_17 : decode cJ6_bitCount_0f7a4 17 = .ok (.iushr, 1) := by decide +kernel
theorem dJ6_bitCount_0f7a4_18 : decode cJ6_bitCount_0f7a4 18 = .ok (.ldc_w 266, 3) := by decide +kernel
theorem dJ6_bitCount_0f7a4_21 : decode cJ6_bitCount_0f7a4 21 = .ok (.iand, 1) := by decide +kernel
theorem dJ6_bitCount_0f7a4_22 : decode cJ6_bitCount_0f7a4 22 = .ok (.iadd, 1) := by decide +kernel
theorem dJ6_bitCount_0f7a4_23 : decode cJ6_bitCount_0f7a4 23 = .ok (.istore_n 0, 1) := by decide +kernel
theorem dJ6_bitCount_0f7a4_24 : decode cJ6_bitCount_0f7a4 24 = .ok (.iload_n 0, 1) := by decide +kernel
theorem dJ6_bitCount_0f7a4_25 : decode cJ6_bitCount_0f7a4 25 = .ok (.iload_n 0, 1) := by decide +kernel
theorem dJ6_bitCount_0f7a4_26 : decode cJ6_bitCount_0f7a4 26 = .ok (.iconst 4, 1) := by decide +kernel
theorem dJ6_bitCount_0f7a4_27 : decode cJ6_bitCount_0f7a4 27 = .ok (.iushr, 1) := by decide +kernel
theorem dJ6_bitCount_0f7a4_28 : decode cJ6_bitCount_0f7a4 28 = .ok (.iadd, 1) := by decide +kernel
theorem dJ6_bitCount_0f7a4_29 : decode cJ6_bitCount_0f7a4 29 = .ok (.ldc_w 267, 3) := by decide +kernel
theorem dJ6_bitCount_0f7a4_32 : decode cJ6_bitCount_0f7a4 32 = .ok (.iand, 1) := by decide +kernel
theorem dJ6_bitCount_0f7a4_33 : decode cJ6_bitCount_0f7a4 33 = .ok (.istore_n 0, 1) := by decide +kernel
theorem dJ6_bitCount_0f7a4_34 : decode cJ6_bitCount_0f7a4 34 = .ok (.iload_n 0, 1) := by decide +kernel
theorem dJ6_bitCount_0f7a4_35 : decode cJ6_bitCount_0f7a4 35 = .ok (.iload_n 0, 1) := by decide +kernel
theorem dJ6_bitCount_0f7a4_36 : decode cJ6_bitCount_0f7a4 36 = .ok (.bipush 8, 2) := by decide +kernel
theorem dJ6_bitCount_0f7a4_38 : decode cJ6_bitCount_0f7a4 38 = .ok (.iushr, 1) := by decide +kernel
theorem dJ6_bitCount_0f7a4_39 : decode cJ6_bitCount_0f7a4 39 = .ok (.iadd, 1) := by decide +kernel
theorem dJ6_bitCount_0f7a4_40 : decode cJ6_bitCount_0f7a4 40 = .ok (.istore_n 0, 1) := by decide +kernel
theorem dJ6_bitCount_0f7a4_41 : decode cJ6_bitCount_0f7a4 41 = .ok (.iload_n 0, 1) := by decide +kernel
theorem dJ6_bitCount_0f7a4_42 : decode cJ6_bitCount_0f7a4 42 = .ok (.iload_n 0, 1) := by decide +kernel
theorem dJ6_bitCount_0f7a4_43 : decode cJ6_bitCount_0f7a4 43 = .ok (.bipush 16, 2) := by decide +kernel
theorem dJ6_bitCount_0f7a4_45 : decode cJ6_bitCount_0f7a4 45 = .ok (.iushr, 1) := by decide +kernel
theorem dJ6_bitCount_0f7a4_46 : decode cJ6_bitCount_0f7a4 46 = .ok (.iadd, 1) := by decide +kernel
theorem dJ6_bitCount_0f7a4_47 : decode cJ6_bitCount_0f7a4 47 = .ok (.istore_n 0, 1) := by decide +kernel
theorem dJ6_bitCount_0f7a4_48 : decode cJ6_bitCount_0f7a4 48 = .ok (.iload_n 0, 1) := by decide +kernel
theorem dJ6_bitCount_0f7a4_49 : decode cJ6_bitCount_0f7a4 49 = .ok (.bipush 63, 2) := by decide +kernel
theorem dJ6_bitCount_0f7a4_51 : decode cJ6_bitCount_0f7a4 51 = .ok (.iand, 1) := by decide +kernel
theorem dJ6_bitCount_0f7a4_52 : decode cJ6_bitCount_0f7a4 52 = .ok (.ireturn, 1) := by decide +kernel
theorem dL_law_0 : decode cL_law 0 = .ok (.new 7, 3) := by decide +kernel
theorem dL_law_3 : decode cL_law 3 = .ok (.dup, 1) := by decide +kernel
theorem dL_law_4 : decode cL_law 4 = .ok (.invokespecial 9, 3) := by decide +kernel
theorem dL_law_7 : decode cL_law 7 = .ok (.astore_n 1, 1) := by decide +kernel
theorem dL_law_8 : decode cL_law 8 = .ok (.new 10, 3) := by decide +kernel
theorem dL_law_11 : decode cL_law 11 = .ok (.dup, 1) := by decide +kernel
theorem dL_law_12 : decode cL_law 12 = .ok (.invokespecial 12, 3) := by decide +kernel
theorem dL_law_15 : decode cL_law 15 = .ok (.astore_n 2, 1) := by decide +kernel
theorem dL_law_16 : decode cL_law 16 = .ok (.iconst 0, 1) := by decide +kernel
theorem dL_law_17 : decode cL_law 17 = .ok (.istore_n 3, 1) := by decide +kernel
theorem dL_law_18 : decode cL_law 18 = .ok (.iload_n 3, 1) := by decide +kernel
theorem dL_law_19 : decode cL_law 19 = .ok (.aload_n 0, 1) := by decide +kernel
theorem dL_law_20 : decode cL_law 20 = .ok (.arraylength, 1) := by decide +kernel
theorem dL_law_21 : decode cL_law 21 = .ok (.bipush 6, 2) := by decide +kernel
theorem dL_law_23 : decode cL_law 23 = .ok (.isub, 1) := by decide +kernel
theorem dL_law_24 : decode cL_law 24 = .ok (.if_icmp .gt 549, 3) := by decide +kernel
theorem dL_law_27 : decode cL_law 27 = .ok (.aload_n 0, 1) := by decide +kernel
theorem dL_law_28 : decode cL_law 28 = .ok (.iload_n 3, 1) := by decide +kernel
theorem dL_law_29 : decode cL_law 29 = .ok (.iaload, 1) := by decide +kernel
theorem dL_law_30 : decode cL_law 30 = .ok (.bipush 31, 2) := by decide +kernel
theorem dL_law_32 : decode cL_law 32 = .ok (.iand, 1) := by decide +kernel
theorem dL_law_33 : decode cL_law 33 = .ok (.tableswitch 534 0 16 #[83, 106, 129, 192, 215, 238, 271, 304, 337, 360, 393, 426, 449, 462, 485, 498, 521], 83) := by decide +kernel
theorem dL_law_116 : decode cL_law 116 = .ok (.aload_n 1, 1) := by decide +kernel
theorem dL_law_117 : decode cL_law 117 = .ok (.aload_n 0, 1) := by decide +kernel
theorem dL_law_118 : decode cL_law 118 = .ok (.iload_n 3, 1) := by decide +kernel
theorem dL_law_119 : decode cL_law 119 = .ok (.iconst 1, 1) := by decide +kernel
theorem dL_law_120 : decode cL_law 120 = .ok (.iadd, 1) := by decide +kernel
theorem dL_law_121 : decode cL_law 121 = .ok (.iaload, 1) := by decide +kernel
theorem dL_law_122 : decode cL_law 122 = .ok (.invokevirtual 13, 3) := by decide +kernel
theorem dL_law_125 : decode cL_law 125 = .ok (.aload_n 2, 1) := by decide +kernel
theorem dL_law_126 : decode cL_law 126 = .ok (.aload_n 0, 1) := by decide +kernel
theorem dL_law_127 : decode cL_law 127 = .ok (.iload_n 3, 1) := by decide +kernel
theorem dL_law_128 : decode cL_law 128 = .ok (.iconst 1, 1) := by decide +kernel
theorem dL_law_129 : decode cL_law 129 = .ok (.iadd, 1) := by decide +kernel
theorem dL_law_130 : decode cL_law 130 = .ok (.iaload, 1) := by decide +kernel
theorem dL_law_131 : decode cL_law 131 = .ok (.invokevirtual 17, 3) := by decide +kernel
theorem dL_law_134 : decode cL_law 134 = .ok (.if_icmp .eq 433, 3) := by decide +kernel
theorem dL_law_137 : decode cL_law 137 = .ok (.iconst 0, 1) := by decide +kernel
theorem dL_law_138 : decode cL_law 138 = .ok (.ireturn, 1) := by decide +kernel
theorem dL_law_139 : decode cL_law 139 = .ok (.aload_n 1, 1) := by decide +kernel
theorem dL_law_140 : decode cL_law 140 = .ok (.aload_n 0, 1) := by decide +kernel
theorem dL_law_141 : decode cL_law 141 = .ok (.iload_n 3, 1) := by decide +kernel
theorem dL_law_142 : decode cL_law 142 = .ok (.iconst 1, 1) := by decide +kernel
theorem dL_law_143 : decode cL_law 143 = .ok (.iadd, 1) := by decide +kernel
theorem dL_law_144 : decode cL_law 144 = .ok (.iaload, 1) := by decide +kernel
theorem dL_law_145 : decode cL_law 145 = .ok (.invokevirtual 18, 3) := by decide +kernel
theorem dL_law_148 : decode cL_law 148 = .ok (.aload_n 2, 1) := by decide +kernel
theorem dL_law_149 : decode cL_law 149 = .ok (.aload_n 0, 1) := by decide +kernel
theorem dL_law_150 : decode cL_law 150 = .ok (.iload_n 3, 1) := by decide +kernel
theorem dL_law_151 : decode cL_law 151 = .ok (.iconst 1, 1) := by decide +kernel
theorem dL_law_152 : decode cL_law 152 = .ok (.iadd, 1) := by decide +kernel
theorem dL_law_153 : decode cL_law 153 = .ok (.iaload, 1) := by decide +kernel
theorem dL_law_154 : decode cL_law 154 = .ok (.invokevirtual 21, 3) := by decide +kernel
theorem dL_law_157 : decode cL_law 157 = .ok (.if_icmp .eq 410, 3) := by decide +kernel
theorem dL_law_160 : decode cL_law 160 = .ok (.iconst 0, 1) := by decide +kernel
theorem dL_law_161 : decode cL_law 161 = .ok (.ireturn, 1) := by decide +kernel
theorem dL_law_162 : decode cL_law 162 = .ok (.aload_n 1, 1) := by decide +kernel
theorem dL_law_163 : decode cL_law 163 = .ok (.aload_n 0, 1) := by decide +kernel
theorem dL_law_164 : decode cL_law 164 = .ok (.iload_n 3, 1) := by decide +kernel
theorem dL_law_165 : decode cL_law 165 = .ok (.iconst 1, 1) := by decide +kernel
theorem dL_law_166 : decode cL_law 166 = .ok (.iadd, 1) := by decide +kernel
theorem dL_law_167 : decode cL_law 167 = .ok (.iaload, 1) := by decide +kernel
theorem dL_law_168 : decode cL_law 168 = .ok (.aload_n 0, 1) := by decide +kernel
theorem dL_law_169 : decode cL_law 169 = .ok (.iload_n 3, 1) := by decide +kernel
theorem dL_law_170 : decode cL_law 170 = .ok (.iconst 2, 1) := by decide +kernel
theorem dL_law_171 : decode cL_law 171 = .ok (.iadd, 1) := by decide +kernel
theorem dL_law_172 : decode cL_law 172 = .ok (.iaload, 1) := by decide +kernel
theorem dL_law_173 : decode cL_law 173 = .ok (.aload_n 0, 1) := by decide +kernel
theorem dL_law_174 : decode cL_law 174 = .ok (.iload_n 3, 1) := by decide +kernel
theorem dL_law_175 : decode cL_law 175 = .ok (.iconst 3, 1) := by decide +kernel
theorem dL_law_176 : decode cL_law 176 = .ok (.iadd, 1) := by decide +kernel
theorem dL_law_177 : decode cL_law 177 = .ok (.iaload, 1) := by decide +kernel
theorem dL_law_178 : decode cL_law 178 = .ok (.aload_n 0, 1) := by decide +kernel
theorem dL_law_179 : decode cL_law 179 = .ok (.iload_n 3, 1) := by decide +kernel
theorem dL_law_180 : decode cL_law 180 = .ok (.iconst 4, 1) := by decide +kernel
theorem dL_law_181 : decode cL_law 181 = .ok (.iadd, 1) := by decide +kernel
theorem dL_law_182 : decode cL_law 182 = .ok (.iaload, 1) := by decide +kernel
theorem dL_law_183 : decode cL_law 183 = .ok (.aload_n 0, 1) := by decide +kernel
theorem dL_law_184 : decode cL_law 184 = .ok (.iload_n 3, 1) := by decide +kernel
theorem dL_law_185 : decode cL_law 185 = .ok (.iconst 5, 1) := by decide +kernel
theorem dL_law_186 : decode cL_law 186 = .ok (.iadd, 1) := by decide +kernel
theorem dL_law_187 : decode cL_law 187 = .ok (.iaload, 1) := by decide +kernel
theorem dL_law_188 : decode cL_law 188 = .ok (.invokevirtual 22, 3) := by decide +kernel
theorem dL_law_191 : decode cL_law 191 = .ok (.aload_n 2, 1) := by decide +kernel
theorem dL_law_192 : decode cL_law 192 = .ok (.aload_n 0, 1) := by decide +kernel
theorem dL_law_193 : decode cL_law 193 = .ok (.iload_n 3, 1) := by decide +kernel
theorem dL_law_194 : decode cL_law 194 = .ok (.iconst 1, 1) := by decide +kernel
theorem dL_law_195 : decode cL_law 195 = .ok (.iadd, 1) := by decide +kernel
theorem dL_law_196 : decode cL_law 196 = .ok (.iaload, 1) := by decide +kernel
theorem dL_law_197 : decode cL_law 197 = .ok (.aload_n 0, 1) := by decide +kernel
theorem dL_law_198 : decode cL_law 198 = .ok (.iload_n 3, 1) := by decide +kernel
theorem dL_law_199 : decode cL_law 199 = .ok (.iconst 2, 1) := by decide +kernel
theorem dL_law_200 : decode cL_law 200 = .ok (.iadd, 1) := by decide +kernel
theorem dL_law_201 : decode cL_law 201 = .ok (.iaload, 1) := by decide +kernel
theorem dL_law_202 : decode cL_law 202 = .ok (.aload_n 0, 1) := by decide +kernel
theorem dL_law_203 : decode cL_law 203 = .ok (.iload_n 3, 1) := by decide +kernel
theorem dL_law_204 : decode cL_law 204 = .ok (.iconst 3, 1) := by decide +kernel
theorem dL_law_205 : decode cL_law 205 = .ok (.iadd, 1) := by decide +kernel
theorem dL_law_206 : decode cL_law 206 = .ok (.iaload, 1) := by decide +kernel
theorem dL_law_207 : decode cL_law 207 = .ok (.aload_n 0, 1) := by decide +kernel
theorem dL_law_208 : decode cL_law 208 = .ok (.iload_n 3, 1) := by decide +kernel
theorem dL_law_209 : decode cL_law 209 = .ok (.iconst 4, 1) := by decide +kernel
theorem dL_law_210 : decode cL_law 210 = .ok (.iadd, 1) := by decide +kernel
theorem dL_law_211 : decode cL_law 211 = .ok (.iaload, 1) := by decide +kernel
theorem dL_law_212 : decode cL_law 212 = .ok (.aload_n 0, 1) := by decide +kernel
theorem dL_law_213 : decode cL_law 213 = .ok (.iload_n 3, 1) := by decide +kernel
theorem dL_law_214 : decode cL_law 214 = .ok (.iconst 5, 1) := by decide +kernel
theorem dL_law_215 : decode cL_law 215 = .ok (.iadd, 1) := by decide +kernel
theorem dL_law_216 : decode cL_law 216 = .ok (.iaload, 1) := by decide +kernel
theorem dL_law_217 : decode cL_law 217 = .ok (.invokevirtual 26, 3) := by decide +kernel
theorem dL_law_220 : decode cL_law 220 = .ok (.if_icmp .eq 347, 3) := by decide +kernel
theorem dL_law_223 : decode cL_law 223 = .ok (.iconst 0, 1) := by decide +kernel
theorem dL_law_224 : decode cL_law 224 = .ok (.ireturn, 1) := by decide +kernel
theorem dL_law_225 : decode cL_law 225 = .ok (.aload_n 1, 1) := by decide +kernel
theorem dL_law_226 : decode cL_law 226 = .ok (.aload_n 0, 1) := by decide +kernel
theorem dL_law_227 : decode cL_law 227 = .ok (.iload_n 3, 1) := by decide +kernel
theorem dL_law_228 : decode cL_law 228 = .ok (.iconst 1, 1) := by decide +kernel
theorem dL_law_229 : decode cL_law 229 = .ok (.iadd, 1) := by decide +kernel
theorem dL_law_230 : decode cL_law 230 = .ok (.iaload, 1) := by decide +kernel
theorem dL_law_231 : decode cL_law 231 = .ok (.invokevirtual 27, 3) := by decide +kernel
theorem dL_law_234 : decode cL_law 234 = .ok (.aload_n 2, 1) := by decide +kernel
theorem dL_law_235 : decode cL_law 235 = .ok (.aload_n 0, 1) := by decide +kernel
theorem dL_law_236 : decode cL_law 236 = .ok (.iload_n 3, 1) := by decide +kernel
theorem dL_law_237 : decode cL_law 237 = .ok (.iconst 1, 1) := by decide +kernel
theorem dL_law_238 : decode cL_law 238 = .ok (.iadd, 1) := by decide +kernel
theorem dL_law_239 : decode cL_law 239 = .ok (.iaload, 1) := by decide +kernel
theorem dL_law_240 : decode cL_law 240 = .ok (.invokevirtual 30, 3) := by decide +kernel
theorem dL_law_243 : decode cL_law 243 = .ok (.if_icmp .eq 324, 3) := by decide +kernel
theorem dL_law_246 : decode cL_law 246 = .ok (.iconst 0, 1) := by decide +kernel
theorem dL_law_247 : decode cL_law 247 = .ok (.ireturn, 1) := by decide +kernel
theorem dL_law_248 : decode cL_law 248 = .ok (.aload_n 1, 1) := by decide +kernel
theorem dL_law_249 : decode cL_law 249 = .ok (.aload_n 0, 1) := by decide +kernel
theorem dL_law_250 : decode cL_law 250 = .ok (.iload_n 3, 1) := by decide +kernel
theorem dL_law_251 : decode cL_law 251 = .ok (.iconst 1, 1) := by decide +kernel
theorem dL_law_252 : decode cL_law 252 = .ok (.iadd, 1) := by decide +kernel
theorem dL_law_253 : decode cL_law 253 = .ok (.iaload, 1) := by decide +kernel
theorem dL_law_254 : decode cL_law 254 = .ok (.invokevirtual 31, 3) := by decide +kernel
theorem dL_law_257 : decode cL_law 257 = .ok (.aload_n 2, 1) := by decide +kernel
theorem dL_law_258 : decode cL_law 258 = .ok (.aload_n 0, 1) := by decide +kernel
theorem dL_law_259 : decode cL_law 259 = .ok (.iload_n 3, 1) := by decide +kernel
theorem dL_law_260 : decode cL_law 260 = .ok (.iconst 1, 1) := by decide +kernel
theorem dL_law_261 : decode cL_law 261 = .ok (.iadd, 1) := by decide +kernel
theorem dL_law_262 : decode cL_law 262 = .ok (.iaload, 1) := by decide +kernel
theorem dL_law_263 : decode cL_law 263 = .ok (.invokevirtual 34, 3) := by decide +kernel
theorem dL_law_266 : decode cL_law 266 = .ok (.if_icmp .eq 301, 3) := by decide +kernel
theorem dL_law_269 : decode cL_law 269 = .ok (.iconst 0, 1) := by decide +kernel
theorem dL_law_270 : decode cL_law 270 = .ok (.ireturn, 1) := by decide +kernel
theorem dL_law_271 : decode cL_law 271 = .ok (.aload_n 1, 1) := by decide +kernel
theorem dL_law_272 : decode cL_law 272 = .ok (.aload_n 0, 1) := by decide +kernel
theorem dL_law_273 : decode cL_law 273 = .ok (.iload_n 3, 1) := by decide +kernel
theorem dL_law_274 : decode cL_law 274 = .ok (.iconst 1, 1) := by decide +kernel
theorem dL_law_275 : decode cL_law 275 = .ok (.iadd, 1) := by decide +kernel
theorem dL_law_276 : decode cL_law 276 = .ok (.iaload, 1) := by decide +kernel
theorem dL_law_277 : decode cL_law 277 = .ok (.aload_n 0, 1) := by decide +kernel
theorem dL_law_278 : decode cL_law 278 = .ok (.iload_n 3, 1) := by decide +kernel
theorem dL_law_279 : decode cL_law 279 = .ok (.iconst 2, 1) := by decide +kernel
theorem dL_law_280 : decode cL_law 280 = .ok (.iadd, 1) := by decide +kernel
theorem dL_law_281 : decode cL_law 281 = .ok (.iaload, 1) := by decide +kernel
theorem dL_law_282 : decode cL_law 282 = .ok (.invokevirtual 35, 3) := by decide +kernel
theorem dL_law_285 : decode cL_law 285 = .ok (.aload_n 2, 1) := by decide +kernel
theorem dL_law_286 : decode cL_law 286 = .ok (.aload_n 0, 1) := by decide +kernel
theorem dL_law_287 : decode cL_law 287 = .ok (.iload_n 3, 1) := by decide +kernel
theorem dL_law_288 : decode cL_law 288 = .ok (.iconst 1, 1) := by decide +kernel
theorem dL_law_289 : decode cL_law 289 = .ok (.iadd, 1) := by decide +kernel
theorem dL_law_290 : decode cL_law 290 = .ok (.iaload, 1) := by decide +kernel
theorem dL_law_291 : decode cL_law 291 = .ok (.aload_n 0, 1) := by decide +kernel
theorem dL_law_292 : decode cL_law 292 = .ok (.iload_n 3, 1) := by decide +kernel
theorem dL_law_293 : decode cL_law 293 = .ok (.iconst 2, 1) := by decide +kernel
theorem dL_law_294 : decode cL_law 294 = .ok (.iadd, 1) := by decide +kernel
theorem dL_law_295 : decode cL_law 295 = .ok (.iaload, 1) := by decide +kernel
theorem dL_law_296 : decode cL_law 296 = .ok (.invokevirtual 39, 3) := by decide +kernel
theorem dL_law_299 : decode cL_law 299 = .ok (.if_icmp .eq 268, 3) := by decide +kernel
theorem dL_law_302 : decode cL_law 302 = .ok (.iconst 0, 1) := by decide +kernel
theorem dL_law_303 : decode cL_law 303 = .ok (.ireturn, 1) := by decide +kernel
theorem dL_law_304 : decode cL_law 304 = .ok (.aload_n 1, 1) := by decide +kernel
theorem dL_law_305 : decode cL_law 305 = .ok (.aload_n 0, 1) := by decide +kernel
theorem dL_law_306 : decode cL_law 306 = .ok (.iload_n 3, 1) := by decide +kernel
theorem dL_law_307 : decode cL_law 307 = .ok (.iconst 1, 1) := by decide +kernel
theorem dL_law_308 : decode cL_law 308 = .ok (.iadd, 1) := by decide +kernel
theorem dL_law_309 : decode cL_law 309 = .ok (.iaload, 1) := by decide +kernel
theorem dL_law_310 : decode cL_law 310 = .ok (.aload_n 0, 1) := by decide +kernel
theorem dL_law_311 : decode cL_law 311 = .ok (.iload_n 3, 1) := by decide +kernel
theorem dL_law_312 : decode cL_law 312 = .ok (.iconst 2, 1) := by decide +kernel
theorem dL_law_313 : decode cL_law 313 = .ok (.iadd, 1) := by decide +kernel
theorem dL_law_314 : decode cL_law 314 = .ok (.iaload, 1) := by decide +kernel
theorem dL_law_315 : decode cL_law 315 = .ok (.invokevirtual 40, 3) := by decide +kernel
theorem dL_law_318 : decode cL_law 318 = .ok (.aload_n 2, 1) := by decide +kernel
theorem dL_law_319 : decode cL_law 319 = .ok (.aload_n 0, 1) := by decide +kernel
theorem dL_law_320 : decode cL_law 320 = .ok (.iload_n 3, 1) := by decide +kernel
theorem dL_law_321 : decode cL_law 321 = .ok (.iconst 1, 1) := by decide +kernel
theorem dL_law_322 : decode cL_law 322 = .ok (.iadd, 1) := by decide +kernel
theorem dL_law_323 : decode cL_law 323 = .ok (.iaload, 1) := by decide +kernel
theorem dL_law_324 : decode cL_law 324 = .ok (.aload_n 0, 1) := by decide +kernel
theorem dL_law_325 : decode cL_law 325 = .ok (.iload_n 3, 1) := by decide +kernel
theorem dL_law_326 : decode cL_law 326 = .ok (.iconst 2, 1) := by decide +kernel
theorem dL_law_327 : decode cL_law 327 = .ok (.iadd, 1) := by decide +kernel
theorem dL_law_328 : decode cL_law 328 = .ok (.iaload, 1) := by decide +kernel
theorem dL_law_329 : decode cL_law 329 = .ok (.invokevirtual 43, 3) := by decide +kernel
theorem dL_law_332 : decode cL_law 332 = .ok (.if_icmp .eq 235, 3) := by decide +kernel
theorem dL_law_335 : decode cL_law 335 = .ok (.iconst 0, 1) := by decide +kernel
theorem dL_law_336 : decode cL_law 336 = .ok (.ireturn, 1) := by decide +kernel
theorem dL_law_337 : decode cL_law 337 = .ok (.aload_n 1, 1) := by decide +kernel
theorem dL_law_338 : decode cL_law 338 = .ok (.aload_n 0, 1) := by decide +kernel
theorem dL_law_339 : decode cL_law 339 = .ok (.iload_n 3, 1) := by decide +kernel
theorem dL_law_340 : decode cL_law 340 = .ok (.iconst 1, 1) := by decide +kernel
theorem dL_law_341 : decode cL_law 341 = .ok (.iadd, 1) := by decide +kernel
theorem dL_law_342 : decode cL_law 342 = .ok (.iaload, 1) := by decide +kernel
theorem dL_law_343 : decode cL_law 343 = .ok (.aload_n 0, 1) := by decide +kernel
theorem dL_law_344 : decode cL_law 344 = .ok (.iload_n 3, 1) := by decide +kernel
theorem dL_law_345 : decode cL_law 345 = .ok (.iconst 2, 1) := by decide +kernel
theorem dL_law_346 : decode cL_law 346 = .ok (.iadd, 1) := by decide +kernel
theorem dL_law_347 : decode cL_law 347 = .ok (.iaload, 1) := by decide +kernel
theorem dL_law_348 : decode cL_law 348 = .ok (.invokevirtual 44, 3) := by decide +kernel
theorem dL_law_351 : decode cL_law 351 = .ok (.aload_n 2, 1) := by decide +kernel
theorem dL_law_352 : decode cL_law 352 = .ok (.aload_n 0, 1) := by decide +kernel
theorem dL_law_353 : decode cL_law 353 = .ok (.iload_n 3, 1) := by decide +kernel
theorem dL_law_354 : decode cL_law 354 = .ok (.iconst 1, 1) := by decide +kernel
theorem dL_law_355 : decode cL_law 355 = .ok (.iadd, 1) := by decide +kernel
theorem dL_law_356 : decode cL_law 356 = .ok (.iaload, 1) := by decide +kernel
theorem dL_law_357 : decode cL_law 357 = .ok (.aload_n 0, 1) := by decide +kernel
theorem dL_law_358 : decode cL_law 358 = .ok (.iload_n 3, 1) := by decide +kernel
theorem dL_law_359 : decode cL_law 359 = .ok (.iconst 2, 1) := by decide +kernel
theorem dL_law_360 : decode cL_law 360 = .ok (.iadd, 1) := by decide +kernel
theorem dL_law_361 : decode cL_law 361 = .ok (.iaload, 1) := by decide +kernel
theorem dL_law_362 : decode cL_law 362 = .ok (.invokevirtual 47, 3) := by decide +kernel
theorem dL_law_365 : decode cL_law 365 = .ok (.if_icmp .eq 202, 3) := by decide +kernel
theorem dL_law_368 : decode cL_law 368 = .ok (.iconst 0, 1) := by decide +kernel
theorem dL_law_369 : decode cL_law 369 = .ok (.ireturn, 1) := by decide +kernel
theorem dL_law_370 : decode cL_law 370 = .ok (.aload_n 1, 1) := by decide +kernel
theorem dL_law_371 : decode cL_law 371 = .ok (.aload_n 0, 1) := by decide +kernel
theorem dL_law_372 : decode cL_law 372 = .ok (.iload_n 3, 1) := by decide +kernel
theorem dL_law_373 : decode cL_law 373 = .ok (.iconst 1, 1) := by decide +kernel
theorem dL_law_374 : decode cL_law 374 = .ok (.iadd, 1) := by decide +kernel
theorem dL_law_375 : decode cL_law 375 = .ok (.iaload, 1) := by decide +kernel
theorem dL_law_376 : decode cL_law 376 = .ok (.invokevirtual 48, 3) := by decide +kernel
theorem dL_law_379 : decode cL_law 379 = .ok (.aload_n 2, 1) := by decide +kernel
theorem dL_law_380 : decode cL_law 380 = .ok (.aload_n 0, 1) := by decide +kernel
theorem dL_law_381 : decode cL_law 381 = .ok (.iload_n 3, 1) := by decide +kernel
theorem dL_law_382 : decode cL_law 382 = .ok (.iconst 1, 1) := by decide +kernel
theorem dL_law_383 : decode cL_law 383 = .ok (.iadd, 1) := by decide +kernel
theorem dL_law_384 : decode cL_law 384 = .ok (.iaload, 1) := by decide +kernel
theorem dL_law_385 : decode cL_law 385 = .ok (.invokevirtual 51, 3) := by decide +kernel
theorem dL_law_388 : decode cL_law 388 = .ok (.if_icmp .eq 179, 3) := by decide +kernel
theorem dL_law_391 : decode cL_law 391 = .ok (.iconst 0, 1) := by decide +kernel
theorem dL_law_392 : decode cL_law 392 = .ok (.ireturn, 1) := by decide +kernel
theorem dL_law_393 : decode cL_law 393 = .ok (.aload_n 1, 1) := by decide +kernel
theorem dL_law_394 : decode cL_law 394 = .ok (.aload_n 0, 1) := by decide +kernel
theorem dL_law_395 : decode cL_law 395 = .ok (.iload_n 3, 1) := by decide +kernel
theorem dL_law_396 : decode cL_law 396 = .ok (.iconst 1, 1) := by decide +kernel
theorem dL_law_397 : decode cL_law 397 = .ok (.iadd, 1) := by decide +kernel
theorem dL_law_398 : decode cL_law 398 = .ok (.iaload, 1) := by decide +kernel
theorem dL_law_399 : decode cL_law 399 = .ok (.aload_n 0, 1) := by decide +kernel
theorem dL_law_400 : decode cL_law 400 = .ok (.iload_n 3, 1) := by decide +kernel
theorem dL_law_401 : decode cL_law 401 = .ok (.iconst 2, 1) := by decide +kernel
theorem dL_law_402 : decode cL_law 402 = .ok (.iadd, 1) := by decide +kernel
theorem dL_law_403 : decode cL_law 403 = .ok (.iaload, 1) := by decide +kernel
theorem dL_law_404 : decode cL_law 404 = .ok (.invokevirtual 52, 3) := by decide +kernel
theorem dL_law_407 : decode cL_law 407 = .ok (.aload_n 2, 1) := by decide +kernel
theorem dL_law_408 : decode cL_law 408 = .ok (.aload_n 0, 1) := by decide +kernel
theorem dL_law_409 : decode cL_law 409 = .ok (.iload_n 3, 1) := by decide +kernel
theorem dL_law_410 : decode cL_law 410 = .ok (.iconst 1, 1) := by decide +kernel
theorem dL_law_411 : decode cL_law 411 = .ok (.iadd, 1) := by decide +kernel
theorem dL_law_412 : decode cL_law 412 = .ok (.iaload, 1) := by decide +kernel
theorem dL_law_413 : decode cL_law 413 = .ok (.aload_n 0, 1) := by decide +kernel
theorem dL_law_414 : decode cL_law 414 = .ok (.iload_n 3, 1) := by decide +kernel
theorem dL_law_415 : decode cL_law 415 = .ok (.iconst 2, 1) := by decide +kernel
theorem dL_law_416 : decode cL_law 416 = .ok (.iadd, 1) := by decide +kernel
theorem dL_law_417 : decode cL_law 417 = .ok (.iaload, 1) := by decide +kernel
theorem dL_law_418 : decode cL_law 418 = .ok (.invokevirtual 55, 3) := by decide +kernel
theorem dL_law_421 : decode cL_law 421 = .ok (.if_icmp .eq 146, 3) := by decide +kernel
theorem dL_law_424 : decode cL_law 424 = .ok (.iconst 0, 1) := by decide +kernel
theorem dL_law_425 : decode cL_law 425 = .ok (.ireturn, 1) := by decide +kernel
theorem dL_law_426 : decode cL_law 426 = .ok (.aload_n 1, 1) := by decide +kernel
theorem dL_law_427 : decode cL_law 427 = .ok (.aload_n 0, 1) := by decide +kernel
theorem dL_law_428 : decode cL_law 428 = .ok (.iload_n 3, 1) := by decide +kernel
theorem dL_law_429 : decode cL_law 429 = .ok (.iconst 1, 1) := by decide +kernel
theorem dL_law_430 : decode cL_law 430 = .ok (.iadd, 1) := by decide +kernel
theorem dL_law_431 : decode cL_law 431 = .ok (.iaload, 1) := by decide +kernel
theorem dL_law_432 : decode cL_law 432 = .ok (.aload_n 0, 1) := by decide +kernel
theorem dL_law_433 : decode cL_law 433 = .ok (.iload_n 3, 1) := by decide +kernel
theorem dL_law_434 : decode cL_law 434 = .ok (.iconst 2, 1) := by decide +kernel
theorem dL_law_435 : decode cL_law 435 = .ok (.iadd, 1) := by decide +kernel
theorem dL_law_436 : decode cL_law 436 = .ok (.iaload, 1) := by decide +kernel
theorem dL_law_437 : decode cL_law 437 = .ok (.invokevirtual 56, 3) := by decide +kernel
theorem dL_law_440 : decode cL_law 440 = .ok (.aload_n 2, 1) := by decide +kernel
theorem dL_law_441 : decode cL_law 441 = .ok (.aload_n 0, 1) := by decide +kernel
theorem dL_law_442 : decode cL_law 442 = .ok (.iload_n 3, 1) := by decide +kernel
theorem dL_law_443 : decode cL_law 443 = .ok (.iconst 1, 1) := by decide +kernel
theorem dL_law_444 : decode cL_law 444 = .ok (.iadd, 1) := by decide +kernel
theorem dL_law_445 : decode cL_law 445 = .ok (.iaload, 1) := by decide +kernel
theorem dL_law_446 : decode cL_law 446 = .ok (.aload_n 0, 1) := by decide +kernel
theorem dL_law_447 : decode cL_law 447 = .ok (.iload_n 3, 1) := by decide +kernel
theorem dL_law_448 : decode cL_law 448 = .ok (.iconst 2, 1) := by decide +kernel
theorem dL_law_449 : decode cL_law 449 = .ok (.iadd, 1) := by decide +kernel
theorem dL_law_450 : decode cL_law 450 = .ok (.iaload, 1) := by decide +kernel
theorem dL_law_451 : decode cL_law 451 = .ok (.invokevirtual 59, 3) := by decide +kernel
theorem dL_law_454 : decode cL_law 454 = .ok (.if_icmp .eq 113, 3) := by decide +kernel
theorem dL_law_457 : decode cL_law 457 = .ok (.iconst 0, 1) := by decide +kernel
theorem dL_law_458 : decode cL_law 458 = .ok (.ireturn, 1) := by decide +kernel
theorem dL_law_459 : decode cL_law 459 = .ok (.aload_n 1, 1) := by decide +kernel
theorem dL_law_460 : decode cL_law 460 = .ok (.aload_n 0, 1) := by decide +kernel
theorem dL_law_461 : decode cL_law 461 = .ok (.iload_n 3, 1) := by decide +kernel
theorem dL_law_462 : decode cL_law 462 = .ok (.iconst 1, 1) := by decide +kernel
theorem dL_law_463 : decode cL_law 463 = .ok (.iadd, 1) := by decide +kernel
theorem dL_law_464 : decode cL_law 464 = .ok (.iaload, 1) := by decide +kernel
theorem dL_law_465 : decode cL_law 465 = .ok (.invokevirtual 60, 3) := by decide +kernel
theorem dL_law_468 : decode cL_law 468 = .ok (.aload_n 2, 1) := by decide +kernel
theorem dL_law_469 : decode cL_law 469 = .ok (.aload_n 0, 1) := by decide +kernel
theorem dL_law_470 : decode cL_law 470 = .ok (.iload_n 3, 1) := by decide +kernel
theorem dL_law_471 : decode cL_law 471 = .ok (.iconst 1, 1) := by decide +kernel
theorem dL_law_472 : decode cL_law 472 = .ok (.iadd, 1) := by decide +kernel
theorem dL_law_473 : decode cL_law 473 = .ok (.iaload, 1) := by decide +kernel
theorem dL_law_474 : decode cL_law 474 = .ok (.invokevirtual 63, 3) := by decide +kernel
theorem dL_law_477 : decode cL_law 477 = .ok (.if_icmp .eq 90, 3) := by decide +kernel
theorem dL_law_480 : decode cL_law 480 = .ok (.iconst 0, 1) := by decide +kernel
theorem dL_law_481 : decode cL_law 481 = .ok (.ireturn, 1) := by decide +kernel
theorem dL_law_482 : decode cL_law 482 = .ok (.aload_n 1, 1) := by decide +kernel
theorem dL_law_483 : decode cL_law 483 = .ok (.invokevirtual 64, 3) := by decide +kernel
theorem dL_law_486 : decode cL_law 486 = .ok (.aload_n 2, 1) := by decide +kernel
theorem dL_law_487 : decode cL_law 487 = .ok (.invokevirtual 68, 3) := by decide +kernel
theorem dL_law_490 : decode cL_law 490 = .ok (.if_icmp .eq 77, 3) := by decide +kernel
theorem dL_law_493 : decode cL_law 493 = .ok (.iconst 0, 1) := by decide +kernel
theorem dL_law_494 : decode cL_law 494 = .ok (.ireturn, 1) := by decide +kernel
theorem dL_law_495 : decode cL_law 495 = .ok (.aload_n 1, 1) := by decide +kernel
theorem dL_law_496 : decode cL_law 496 = .ok (.aload_n 0, 1) := by decide +kernel
theorem dL_law_497 : decode cL_law 497 = .ok (.iload_n 3, 1) := by decide +kernel
theorem dL_law_498 : decode cL_law 498 = .ok (.iconst 1, 1) := by decide +kernel
theorem dL_law_499 : decode cL_law 499 = .ok (.iadd, 1) := by decide +kernel
theorem dL_law_500 : decode cL_law 500 = .ok (.iaload, 1) := by decide +kernel
theorem dL_law_501 : decode cL_law 501 = .ok (.invokevirtual 69, 3) := by decide +kernel
theorem dL_law_504 : decode cL_law 504 = .ok (.aload_n 2, 1) := by decide +kernel
theorem dL_law_505 : decode cL_law 505 = .ok (.aload_n 0, 1) := by decide +kernel
theorem dL_law_506 : decode cL_law 506 = .ok (.iload_n 3, 1) := by decide +kernel
theorem dL_law_507 : decode cL_law 507 = .ok (.iconst 1, 1) := by decide +kernel
theorem dL_law_508 : decode cL_law 508 = .ok (.iadd, 1) := by decide +kernel
theorem dL_law_509 : decode cL_law 509 = .ok (.iaload, 1) := by decide +kernel
theorem dL_law_510 : decode cL_law 510 = .ok (.invokevirtual 72, 3) := by decide +kernel
theorem dL_law_513 : decode cL_law 513 = .ok (.if_icmp .eq 54, 3) := by decide +kernel
theorem dL_law_516 : decode cL_law 516 = .ok (.iconst 0, 1) := by decide +kernel
theorem dL_law_517 : decode cL_law 517 = .ok (.ireturn, 1) := by decide +kernel
theorem dL_law_518 : decode cL_law 518 = .ok (.aload_n 1, 1) := by decide +kernel
theorem dL_law_519 : decode cL_law 519 = .ok (.invokevirtual 73, 3) := by decide +kernel
theorem dL_law_522 : decode cL_law 522 = .ok (.aload_n 2, 1) := by decide +kernel
theorem dL_law_523 : decode cL_law 523 = .ok (.invokevirtual 76, 3) := by decide +kernel
theorem dL_law_526 : decode cL_law 526 = .ok (.if_icmp .eq 41, 3) := by decide +kernel
theorem dL_law_529 : decode cL_law 529 = .ok (.iconst 0, 1) := by decide +kernel
theorem dL_law_530 : decode cL_law 530 = .ok (.ireturn, 1) := by decide +kernel
theorem dL_law_531 : decode cL_law 531 = .ok (.aload_n 1, 1) := by decide +kernel
theorem dL_law_532 : decode cL_law 532 = .ok (.aload_n 0, 1) := by decide +kernel
theorem dL_law_533 : decode cL_law 533 = .ok (.iload_n 3, 1) := by decide +kernel
theorem dL_law_534 : decode cL_law 534 = .ok (.iconst 1, 1) := by decide +kernel
theorem dL_law_535 : decode cL_law 535 = .ok (.iadd, 1) := by decide +kernel
theorem dL_law_536 : decode cL_law 536 = .ok (.iaload, 1) := by decide +kernel
theorem dL_law_537 : decode cL_law 537 = .ok (.invokevirtual 77, 3) := by decide +kernel
theorem dL_law_540 : decode cL_law 540 = .ok (.aload_n 2, 1) := by decide +kernel
theorem dL_law_541 : decode cL_law 541 = .ok (.aload_n 0, 1) := by decide +kernel
theorem dL_law_542 : decode cL_law 542 = .ok (.iload_n 3, 1) := by decide +kernel
theorem dL_law_543 : decode cL_law 543 = .ok (.iconst 1, 1) := by decide +kernel
theorem dL_law_544 : decode cL_law 544 = .ok (.iadd, 1) := by decide +kernel
theorem dL_law_545 : decode cL_law 545 = .ok (.iaload, 1) := by decide +kernel
theorem dL_law_546 : decode cL_law 546 = .ok (.invokevirtual 80, 3) := by decide +kernel
theorem dL_law_549 : decode cL_law 549 = .ok (.if_icmp .eq 18, 3) := by decide +kernel
theorem dL_law_552 : decode cL_law 552 = .ok (.iconst 0, 1) := by decide +kernel
theorem dL_law_553 : decode cL_law 553 = .ok (.ireturn, 1) := by decide +kernel
theorem dL_law_554 : decode cL_law 554 = .ok (.aload_n 1, 1) := by decide +kernel
theorem dL_law_555 : decode cL_law 555 = .ok (.invokevirtual 81, 3) := by decide +kernel
theorem dL_law_558 : decode cL_law 558 = .ok (.aload_n 2, 1) := by decide +kernel
theorem dL_law_559 : decode cL_law 559 = .ok (.invokevirtual 84, 3) := by decide +kernel
theorem dL_law_562 : decode cL_law 562 = .ok (.if_icmp .eq 5, 3) := by decide +kernel
theorem dL_law_565 : decode cL_law 565 = .ok (.iconst 0, 1) := by decide +kernel
theorem dL_law_566 : decode cL_law 566 = .ok (.ireturn, 1) := by decide +kernel
theorem dL_law_567 : decode cL_law 567 = .ok (.iinc 3 6, 3) := by decide +kernel
theorem dL_law_570 : decode cL_law 570 = .ok (.goto (-552), 3) := by decide +kernel
theorem dL_law_573 : decode cL_law 573 = .ok (.iconst 1, 1) := by decide +kernel
theorem dL_law_574 : decode cL_law 574 = .ok (.ireturn, 1) := by decide +kernel
end
section
/-! worlds: cells by address, with the number of the next one; classes of arrays by a small number: 0 int, 1 long, 2 char, 3 Place -/
abbrev Ce : Type := (Nat × vp_A) ⊕ (Nat × List Value)
abbrev Wd : Type := Nat × (Nat → Option Ce)
abbrev GG : Type := va_G × (Nat → ClassId)
def tysG (g : GG) : List (ClassId × FieldType) := [(g.2 0, .int), (g.2 1, .long), (g.2 2, .char), (g.2 3, .object RX2)]
def ceE (g : GG) (c : Ce) : va_E := match c with
  | .inl x => .inl (g.2 x.1, x.2)
  | .inr x => .inr x
def wR (g : GG) (B : Nat) (w : Wd) (H : Heap) : Prop := H.size = w.1 ∧ B ≤ H.size ∧ ∃ (L : List Nat) (F : Nat → va_E), va_P g.1 vwCl (va_pl L F) H ∧ va_D (fun q => B ≤ q) (va_pl L F) ∧ ∀ a e, w.2 a = some e → a ∈ L ∧ F a = ceE g e
def wset (w : Wd) (a : Nat) (e : Ce) : Wd := (w.1, fun q => if q = a then some e else w.2 q)
def wnew (w : Wd) (e : Ce) : Wd := (w.1 + 1, fun q => if q = w.1 then some e else w.2 q)
def isNest (w : Cond) : Bool := match w with
  | .fieldLinkNest _ _ _ _ _ _ => true
  | .methodLinkNest _ _ _ _ => true
  | _ => false
def kK (g : GG) (U : State) : Prop := va_K g.1 vwCl (tysG g) U ∧ va_AO RX2 U ∧ ∀ w ∈ lw_tbl, isNest w = true → va_Nw w U
theorem kK.moved {g : GG} {s U : State} (hW : s.WarmedH U.vm) (h : kK g s) : kK g U := by
  refine ⟨va_K.moved hW.alike h.1, va_AO.moved hW.alike h.2.1, fun w hw hn => ?_⟩
  have h1 := h.2.2 w hw hn
  cases w with
  | fieldLinkNest a i b n d q => exact va_Nw.warmF hW h1
  | methodLinkNest a i x q => exact va_Nw.warmM hW h1
  | _ => cases hn
theorem kK.same {g : GG} {s U : State} (hv : s.vm = U.vm) (h : kK g s) : kK g U := by
  have ha : s.vm.Alike U.vm := by rw [hv]; exact Vm.Alike.refl U.vm
  refine ⟨va_K.moved ha h.1, va_AO.moved ha h.2.1, fun w hw hn => ?_⟩
  have h1 := h.2.2 w hw hn
  cases w with
  | fieldLinkNest a i b n d q => exact va_Nw.same rfl hv h1
  | methodLinkNest a i x q => exact va_Nw.same rfl hv h1
  | _ => cases hn
theorem wR.at {g : GG} {B : Nat} {w : Wd} {H : Heap} (h : wR g B w H) {a : Nat} {e : Ce} (ha : w.2 a = some e) : ∃ (L : List Nat) (F : Nat → va_E) (k : Nat), va_P g.1 vwCl (va_pl L F) H ∧ va_D (fun q => B ≤ q) (va_pl L F) ∧ (∀ a e, w.2 a = some e → a ∈ L ∧ F a = ceE g e) ∧ a ∈ L ∧ (va_pl L F)[k]? = some (a, ceE g e) := by
  obtain ⟨-, -, L, F, hP, hD, hw⟩ := h
  obtain ⟨hL, hF⟩ := hw a e ha
  obtain ⟨k, hk⟩ := va_pl_get (X := []) (f := F) hL
  exact ⟨L, F, k, hP, hD, hw, hL, by rw [← hF]; exact hk⟩
theorem wR.set {g : GG} {B : Nat} {w : Wd} {H H1 : Heap} (h : wR g B w H) {L : List Nat} {F : Nat → va_E} {k a : Nat} {e e1 : Ce} (hz : H1.size = H.size) (hD : va_D (fun q => B ≤ q) (va_pl L F)) (hw : ∀ a e, w.2 a = some e → a ∈ L ∧ F a = ceE g e) (hL : a ∈ L) (ha : w.2 a = some e) (hk : (va_pl L F)[k]? = some (a, ceE g e)) (hP1 : va_P g.1 vwCl ((va_pl L F).set k (a, ceE g e1)) H1) (hD1 : va_D (fun q => B ≤ q) ((va_pl L F).set k (a, ceE g e1))) : wR g B (wset w a e1) H1 := by
  have hs : (va_pl L F).set k (a, ceE g e1) = va_pl L (va_up F a (ceE g e1)) := va_pl_set (X := []) (A := fun q => B ≤ q) hD hL (by rw [(hw a e ha).2]; exact hk)
  rw [hs] at hP1 hD1
  refine ⟨hz.trans h.1, by rw [hz]; exact h.2.1, L, _, hP1, hD1, fun q c hq => ?_⟩
  unfold wset at hq
  dsimp only at hq
  by_cases hqa : q = a
  · subst hqa
    rw [if_pos rfl] at hq
    cases hq
    exact ⟨hL, va_up_self _ _ _⟩
  · rw [if_neg hqa] at hq
    exact ⟨(hw q c hq).1, by rw [va_up_ne _ _ hqa]; exact (hw q c hq).2⟩
theorem wR.push {g : GG} {B : Nat} {w : Wd} {H H1 : Heap} (h : wR g B w H) {L : List Nat} {F : Nat → va_E} {e1 : Ce} (hz : H1.size = H.size + 1) (hP : va_P g.1 vwCl (va_pl L F) H) (hw : ∀ a e, w.2 a = some e → a ∈ L ∧ F a = ceE g e) (hP1 : va_P g.1 vwCl (va_pl L F ++ [(H.size, ceE g e1)]) H1) (hD1 : va_D (fun q => B ≤ q) (va_pl L F ++ [(H.size, ceE g e1)])) : wR g B (wnew w e1) H1 := by
  have hn : H.size ∉ L := va_pl_fresh (X := []) (D := g.1) (cl := vwCl) (f := F) hP (Nat.le_refl _)
  rw [va_pl_push hn] at hP1 hD1
  refine ⟨by rw [hz, h.1]; rfl, by have := h.2.1; omega, L ++ [H.size], _, hP1, hD1, fun q c hq => ?_⟩
  unfold wnew at hq
  dsimp only at hq
  by_cases hqa : q = w.1
  · rw [if_pos hqa] at hq
    cases hq
    rw [← h.1] at hqa
    subst hqa
    exact ⟨List.mem_append_right _ List.mem_cons_self, va_up_self _ _ _⟩
  · rw [if_neg hqa] at hq
    rw [← h.1] at hqa
    exact ⟨List.mem_append_left _ (hw q c hq).1, by rw [va_up_ne _ _ hqa]; exact (hw q c hq).2⟩
/-! locals: a list, a place each -/
def lvl : Nat → List (Option Value) → List (Nat × Value)
  | _, [] => []
  | i, none :: t => lvl (i + 1) t
  | i, some v :: t => (i, v) :: lvl (i + 1) t
theorem lvl_mem (q : Nat × Value) : ∀ (l : List (Option Value)) (i : Nat), q ∈ lvl i l ↔ ∃ k, l[k]? = some (some q.2) ∧ q.1 = i + k
  | [], i => by simp [lvl]
  | none :: t, i => by
    rw [lvl, lvl_mem q t (i + 1)]
    constructor
    · rintro ⟨k, h1, h2⟩
      exact ⟨k + 1, by simpa using h1, by omega⟩
    · rintro ⟨k, h1, h2⟩
      cases k with
      | zero => simp at h1
      | succ k => exact ⟨k, by simpa using h1, by omega⟩
  | some v :: t, i => by
    rw [lvl, List.mem_cons, lvl_mem q t (i + 1)]
    constructor
    · rintro (h | ⟨k, h1, h2⟩)
      · subst h
        exact ⟨0, rfl, rfl⟩
      · exact ⟨k + 1, by simpa using h1, by omega⟩
    · rintro ⟨k, h1, h2⟩
      cases k with
      | zero =>
        left
        simp at h1
        obtain ⟨a, b⟩ := q
        dsimp only at h1 h2
        subst h1
        subst h2
        rfl
      | succ k => exact Or.inr ⟨k, by simpa using h1, by omega⟩
def LV (ls : Array Slot) (n : Nat) (l : List (Option Value)) : Prop := l.length = n ∧ lv_has ls n (lvl 0 l)
theorem LV.at {ls : Array Slot} {n : Nat} {l : List (Option Value)} (h : LV ls n l) {i : Nat} {v : Value} (hi : l[i]? = some (some v)) : ls[i]? = some (.val v) :=
  h.2.2.2 (i, v) ((lvl_mem _ _ _).mpr ⟨i, hi, (Nat.zero_add i).symm⟩)
def okst (l : List (Option Value)) (i : Nat) : Bool := match i with
  | 0 => true
  | j + 1 => match l[j]? with
    | some (some u) => u.category == 1
    | _ => true
theorem LV.put {ls : Array Slot} {n : Nat} {l : List (Option Value)} {i : Nat} {v : Value} (hlen : l.length = n) (hi : i < l.length) (hc : okst l i = true) (h1 : lv_has ls n ((i, v) :: (lvl 0 l).filter (fun q => !(q.1 == i) && !(q.1 + 1 == i && q.2.category == 2)))) : LV ls n (l.set i (some v)) := by
  refine ⟨by rw [List.length_set]; exact hlen, h1.1, h1.2.1, fun q hq => h1.2.2 q ?_⟩
  obtain ⟨k, e1, e2⟩ := (lvl_mem _ _ _).mp hq
  rw [Nat.zero_add] at e2
  by_cases hk : i = k
  · subst hk
    rw [List.getElem?_set_self hi] at e1
    cases e1
    rw [List.mem_cons]
    left
    obtain ⟨a, b⟩ := q
    dsimp only at e2
    subst e2
    rfl
  · rw [List.getElem?_set_ne hk] at e1
    refine List.mem_cons_of_mem _ (List.mem_filter.mpr ⟨(lvl_mem _ _ _).mpr ⟨k, e1, by omega⟩, ?_⟩)
    have a1 : (q.1 == i) = false := by simp; omega
    have a2 : (q.1 + 1 == i && q.2.category == 2) = false := by
      cases hh : (q.1 + 1 == i) with
      | false => rfl
      | true =>
        have : i = k + 1 := by
          have := eq_of_beq hh
          omega
        subst this
        unfold okst at hc
        dsimp only at hc
        rw [e1] at hc
        dsimp only at hc
        have := eq_of_beq hc
        simp [this]
    rw [a1, a2]
    rfl
/-! the walk of a method: everything fixed in one tuple -/
abbrev CX : Type := Program × Launch × Env × Room × State × MethodId × Array Value × List Frame × Method × Code × GG × Nat × (State → Prop)
abbrev CX.p (X : CX) : Program := X.1
abbrev CX.l (X : CX) : Launch := X.2.1
abbrev CX.e (X : CX) : Env := X.2.2.1
abbrev CX.R (X : CX) : Room := X.2.2.2.1
abbrev CX.s (X : CX) : State := X.2.2.2.2.1
abbrev CX.m (X : CX) : MethodId := X.2.2.2.2.2.1
abbrev CX.args (X : CX) : Array Value := X.2.2.2.2.2.2.1
abbrev CX.below (X : CX) : List Frame := X.2.2.2.2.2.2.2.1
abbrev CX.meth (X : CX) : Method := X.2.2.2.2.2.2.2.2.1
abbrev CX.c (X : CX) : Code := X.2.2.2.2.2.2.2.2.2.1
abbrev CX.g (X : CX) : GG := X.2.2.2.2.2.2.2.2.2.2.1
abbrev CX.B (X : CX) : Nat := X.2.2.2.2.2.2.2.2.2.2.2.1
abbrev CX.Q (X : CX) : State → Prop := X.2.2.2.2.2.2.2.2.2.2.2.2
def V (X : CX) (kc ks pc : Nat) (lv : List (Option Value)) (st : List Value) (w : Wd) : Prop :=
  ∀ (H : Heap) (locs : List Loc) (ls : Array Slot), wR X.g X.B w H → va_S (fun q => X.B ≤ q) X.s.heap H locs → LV ls X.c.maxLocals lv → W X.p X.l X.e X.R X.s X.m X.args X.below X.meth X.c H locs kc ks X.Q (F0 X.m pc ls st)
/-- cc: the bytes; own: the class; D: how many calls deep it may go; mc, ms: the cells and slots that it may make -/
def Cx (X : CX) (cc : ByteArray) (own : String) (D mc ms : Nat) : Prop := X.p.tables.exec = Jvm.exec ∧ X.c.code = cc ∧ X.s.vm.findClass own = some X.m.cls ∧ (∀ w ∈ GW, w.before X.args X.s = true) ∧ kK X.g X.s ∧ X.B ≤ X.s.heap.size ∧ D ≤ X.R.frames ∧ 39 * D ≤ X.R.locals ∧ mc ≤ X.R.cells ∧ ms ≤ X.R.slots

section VR
variable {X : CX} {cc : ByteArray} {own : String} {D mcT msT kc ks pc : Nat} {lv : List (Option Value)} {st : List Value} {w : Wd}
theorem V.iconst (h : Cx X cc own D mcT msT) {n : Int} {v : Int32} (pc1 : Nat) (d : decode cc pc = .ok (.iconst n, 1)) (hp : pc + 1 = pc1) (hv : Int32.ofInt n = v) (k : V X kc ks pc1 lv (.int v :: st) w) : V X kc ks pc lv (st) w := by
  subst hp; intro H locs ls hw hS hl; exact lv_iconst h.1 h.2.1 d hv (k H locs ls hw hS hl)
theorem V.bipush (h : Cx X cc own D mcT msT) {n : Int} {v : Int32} (pc1 : Nat) (d : decode cc pc = .ok (.bipush n, 2)) (hp : pc + 2 = pc1) (hv : (Int8.ofInt n).toInt32 = v) (k : V X kc ks pc1 lv (.int v :: st) w) : V X kc ks pc lv (st) w := by
  subst hp; intro H locs ls hw hS hl; exact lv_bipush h.1 h.2.1 d hv (k H locs ls hw hS hl)
theorem V.sipush (h : Cx X cc own D mcT msT) {n : Int} {v : Int32} (pc1 : Nat) (d : decode cc pc = .ok (.sipush n, 3)) (hp : pc + 3 = pc1) (hv : (Int16.ofInt n).toInt32 = v) (k : V X kc ks pc1 lv (.int v :: st) w) : V X kc ks pc lv (st) w := by
  subst hp; intro H locs ls hw hS hl; exact lv_sipush h.1 h.2.1 d hv (k H locs ls hw hS hl)
theorem V.iadd (h : Cx X cc own D mcT msT) {x y : Int32} (pc1 : Nat) (d : decode cc pc = .ok (.iadd, 1)) (hp : pc + 1 = pc1) (k : V X kc ks pc1 lv (.int (x + y) :: st) w) : V X kc ks pc lv (.int y :: .int x :: st) w := by
  subst hp; intro H locs ls hw hS hl; exact lv_iadd h.1 h.2.1 d (k H locs ls hw hS hl)
theorem V.isub (h : Cx X cc own D mcT msT) {x y : Int32} (pc1 : Nat) (d : decode cc pc = .ok (.isub, 1)) (hp : pc + 1 = pc1) (k : V X kc ks pc1 lv (.int (x - y) :: st) w) : V X kc ks pc lv (.int y :: .int x :: st) w := by
  subst hp; intro H locs ls hw hS hl; exact lv_isub h.1 h.2.1 d (k H locs ls hw hS hl)
theorem V.imul (h : Cx X cc own D mcT msT) {x y : Int32} (pc1 : Nat) (d : decode cc pc = .ok (.imul, 1)) (hp : pc + 1 = pc1) (k : V X kc ks pc1 lv (.int (x * y) :: st) w) : V X kc ks pc lv (.int y :: .int x :: st) w := by
  subst hp; intro H locs ls hw hS hl; exact lv_imul h.1 h.2.1 d (k H locs ls hw hS hl)
theorem V.iand (h : Cx X cc own D mcT msT) {x y : Int32} (pc1 : Nat) (d : decode cc pc = .ok (.iand, 1)) (hp : pc + 1 = pc1) (k : V X kc ks pc1 lv (.int (x &&& y) :: st) w) : V X kc ks pc lv (.int y :: .int x :: st) w := by
  subst hp; intro H locs ls hw hS hl; exact lv_iand h.1 h.2.1 d (k H locs ls hw hS hl)
theorem V.ior (h : Cx X cc own D mcT msT) {x y : Int32} (pc1 : Nat) (d : decode cc pc = .ok (.ior, 1)) (hp : pc + 1 = pc1) (k : V X kc ks pc1 lv (.int (x ||| y) :: st) w) : V X kc ks pc lv (.int y :: .int x :: st) w := by
  subst hp; intro H locs ls hw hS hl; exact lv_ior h.1 h.2.1 d (k H locs ls hw hS hl)
theorem V.ixor (h : Cx X cc own D mcT msT) {x y : Int32} (pc1 : Nat) (d : decode cc pc = .ok (.ixor, 1)) (hp : pc + 1 = pc1) (k : V X kc ks pc1 lv (.int (x ^^^ y) :: st) w) : V X kc ks pc lv (.int y :: .int x :: st) w := by
  subst hp; intro H locs ls hw hS hl; exact lv_ixor h.1 h.2.1 d (k H locs ls hw hS hl)
theorem V.ishl (h : Cx X cc own D mcT msT) {x y : Int32} (pc1 : Nat) (d : decode cc pc = .ok (.ishl, 1)) (hp : pc + 1 = pc1) (k : V X kc ks pc1 lv (.int (x <<< (y &&& 31)) :: st) w) : V X kc ks pc lv (.int y :: .int x :: st) w := by
  subst hp; intro H locs ls hw hS hl; exact lv_ishl h.1 h.2.1 d (k H locs ls hw hS hl)
theorem V.ishr (h : Cx X cc own D mcT msT) {x y : Int32} (pc1 : Nat) (d : decode cc pc = .ok (.ishr, 1)) (hp : pc + 1 = pc1) (k : V X kc ks pc1 lv (.int (x >>> (y &&& 31)) :: st) w) : V X kc ks pc lv (.int y :: .int x :: st) w := by
  subst hp; intro H locs ls hw hS hl; exact lv_ishr h.1 h.2.1 d (k H locs ls hw hS hl)
theorem V.iushr (h : Cx X cc own D mcT msT) {x y : Int32} (pc1 : Nat) (d : decode cc pc = .ok (.iushr, 1)) (hp : pc + 1 = pc1) (k : V X kc ks pc1 lv (.int ((x.toUInt32 >>> (y.toUInt32 &&& Int32.toUInt32 31)).toInt32) :: st) w) : V X kc ks pc lv (.int y :: .int x :: st) w := by
  subst hp; intro H locs ls hw hS hl; exact lv_iushr h.1 h.2.1 d rfl (k H locs ls hw hS hl)
theorem V.i2l (h : Cx X cc own D mcT msT) {x : Int32} (pc1 : Nat) (d : decode cc pc = .ok (.i2l, 1)) (hp : pc + 1 = pc1) (k : V X kc ks pc1 lv (.long x.toInt64 :: st) w) : V X kc ks pc lv (.int x :: st) w := by
  subst hp; intro H locs ls hw hS hl; exact lv_i2l h.1 h.2.1 d rfl (k H locs ls hw hS hl)
theorem V.i2c (h : Cx X cc own D mcT msT) {x : Int32} (pc1 : Nat) (d : decode cc pc = .ok (.i2c, 1)) (hp : pc + 1 = pc1) (k : V X kc ks pc1 lv (.int (x.toUInt32 % 65536).toInt32 :: st) w) : V X kc ks pc lv (.int x :: st) w := by
  subst hp; intro H locs ls hw hS hl; exact lv_i2c h.1 h.2.1 d rfl (k H locs ls hw hS hl)
theorem V.ladd (h : Cx X cc own D mcT msT) {x y : Int64} (pc1 : Nat) (d : decode cc pc = .ok (.ladd, 1)) (hp : pc + 1 = pc1) (k : V X kc ks pc1 lv (.long (x + y) :: st) w) : V X kc ks pc lv (.long y :: .long x :: st) w := by
  subst hp; intro H locs ls hw hS hl; exact lv_ladd h.1 h.2.1 d (k H locs ls hw hS hl)
theorem V.lmul (h : Cx X cc own D mcT msT) {x y : Int64} (pc1 : Nat) (d : decode cc pc = .ok (.lmul, 1)) (hp : pc + 1 = pc1) (k : V X kc ks pc1 lv (.long (x * y) :: st) w) : V X kc ks pc lv (.long y :: .long x :: st) w := by
  subst hp; intro H locs ls hw hS hl; exact lv_lmul h.1 h.2.1 d (k H locs ls hw hS hl)
theorem V.lor (h : Cx X cc own D mcT msT) {x y : Int64} (pc1 : Nat) (d : decode cc pc = .ok (.lor, 1)) (hp : pc + 1 = pc1) (k : V X kc ks pc1 lv (.long (x ||| y) :: st) w) : V X kc ks pc lv (.long y :: .long x :: st) w := by
  subst hp; intro H locs ls hw hS hl; exact lv_lor h.1 h.2.1 d (k H locs ls hw hS hl)
theorem V.lshl (h : Cx X cc own D mcT msT) {x : Int64} {y : Int32} (pc1 : Nat) (d : decode cc pc = .ok (.lshl, 1)) (hp : pc + 1 = pc1) (k : V X kc ks pc1 lv (.long (x <<< (y.toInt64 &&& 63)) :: st) w) : V X kc ks pc lv (.int y :: .long x :: st) w := by
  subst hp; intro H locs ls hw hS hl; exact lv_lshl h.1 h.2.1 d rfl (k H locs ls hw hS hl)
theorem V.lcmp (h : Cx X cc own D mcT msT) {x y : Int64} (pc1 : Nat) (d : decode cc pc = .ok (.lcmp, 1)) (hp : pc + 1 = pc1) (k : V X kc ks pc1 lv (.int (lg_cmp x y) :: st) w) : V X kc ks pc lv (.long y :: .long x :: st) w := by
  subst hp; intro H locs ls hw hS hl; exact W.lcmp h.1 h.2.1 d (k H locs ls hw hS hl)
theorem V.dup (h : Cx X cc own D mcT msT) {v : Value} (pc1 : Nat) (d : decode cc pc = .ok (.dup, 1)) (hp : pc + 1 = pc1) (hv : v.category = 1) (k : V X kc ks pc1 lv (v :: v :: st) w) : V X kc ks pc lv (v :: st) w := by
  subst hp; intro H locs ls hw hS hl; exact lv_dup h.1 h.2.1 d hv (k H locs ls hw hS hl)
theorem V.dup2 (h : Cx X cc own D mcT msT) {a b : Value} (pc1 : Nat) (d : decode cc pc = .ok (.dup2, 1)) (hp : pc + 1 = pc1) (ha : a.category = 1) (hb : b.category = 1) (k : V X kc ks pc1 lv (a :: b :: a :: b :: st) w) : V X kc ks pc lv (a :: b :: st) w := by
  subst hp; intro H locs ls hw hS hl; exact lv_dup2_11 h.1 h.2.1 d ha hb (k H locs ls hw hS hl)
theorem V.ldc2 (h : Cx X cc own D mcT msT) {index : Nat} {v : Int64} (pc1 : Nat) (d : decode cc pc = .ok (.ldc2_w index, 3)) (hp : pc + 3 = pc1) (hv : Cond.constantLong own index v ∈ GW) (k : V X kc ks pc1 lv (.long v :: st) w) : V X kc ks pc lv (st) w := by
  subst hp; intro H locs ls hw hS hl; exact lv_ldc2 h.1 h.2.1 h.2.2.1 (h.2.2.2.1 _ hv) d (k H locs ls hw hS hl)
theorem V.ldcw (h : Cx X cc own D mcT msT) {index : Nat} {v : Int32} (pc1 : Nat) (d : decode cc pc = .ok (.ldc_w index, 3)) (hp : pc + 3 = pc1) (hv : Cond.constant own index v ∈ GW) (k : V X kc ks pc1 lv (.int v :: st) w) : V X kc ks pc lv (st) w := by
  subst hp; intro H locs ls hw hS hl; exact lv_ldcw h.1 h.2.1 h.2.2.1 (h.2.2.2.1 _ hv) d (k H locs ls hw hS hl)
theorem V.goto (h : Cx X cc own D mcT msT) {off : Int} (tgt : Nat) (d : decode cc pc = .ok (.goto off, 3)) (ht : (pc : Int) + off = (tgt : Int)) (k : V X kc ks tgt lv st w) : V X kc ks pc lv st w := by
  intro H locs ls hw hS hl; exact lv_goto h.1 h.2.1 d ht (k H locs ls hw hS hl)
theorem V.if_eq (h : Cx X cc own D mcT msT) {x : Int32} {off : Int} (tgt pc1 : Nat) (d : decode cc pc = .ok (.ifCond .eq off, 3)) (ht : (pc : Int) + off = (tgt : Int)) (hp : pc + 3 = pc1) (kt : x = 0 → V X kc ks tgt lv st w) (kf : ¬ x = 0 → V X kc ks pc1 lv st w) : V X kc ks pc lv (.int x :: st) w := by
  subst hp; intro H locs ls hw hS hl; exact lv_if_eq h.1 h.2.1 d ht (fun q => kt q H locs ls hw hS hl) (fun q => kf q H locs ls hw hS hl)
theorem V.if_ne (h : Cx X cc own D mcT msT) {x : Int32} {off : Int} (tgt pc1 : Nat) (d : decode cc pc = .ok (.ifCond .ne off, 3)) (ht : (pc : Int) + off = (tgt : Int)) (hp : pc + 3 = pc1) (kt : ¬ x = 0 → V X kc ks tgt lv st w) (kf : x = 0 → V X kc ks pc1 lv st w) : V X kc ks pc lv (.int x :: st) w := by
  subst hp; intro H locs ls hw hS hl; exact lv_if_ne h.1 h.2.1 d ht (fun q => kt q H locs ls hw hS hl) (fun q => kf q H locs ls hw hS hl)
theorem V.if_lt (h : Cx X cc own D mcT msT) {x : Int32} {off : Int} (tgt pc1 : Nat) (d : decode cc pc = .ok (.ifCond .lt off, 3)) (ht : (pc : Int) + off = (tgt : Int)) (hp : pc + 3 = pc1) (kt : x < 0 → V X kc ks tgt lv st w) (kf : ¬ x < 0 → V X kc ks pc1 lv st w) : V X kc ks pc lv (.int x :: st) w := by
  subst hp; intro H locs ls hw hS hl; exact lv_if_lt h.1 h.2.1 d ht (fun q => kt q H locs ls hw hS hl) (fun q => kf q H locs ls hw hS hl)
theorem V.if_ge (h : Cx X cc own D mcT msT) {x : Int32} {off : Int} (tgt pc1 : Nat) (d : decode cc pc = .ok (.ifCond .ge off, 3)) (ht : (pc : Int) + off = (tgt : Int)) (hp : pc + 3 = pc1) (kt : 0 ≤ x → V X kc ks tgt lv st w) (kf : ¬ 0 ≤ x → V X kc ks pc1 lv st w) : V X kc ks pc lv (.int x :: st) w := by
  subst hp; intro H locs ls hw hS hl; exact lv_if_ge h.1 h.2.1 d ht (fun q => kt q H locs ls hw hS hl) (fun q => kf q H locs ls hw hS hl)
theorem V.if_gt (h : Cx X cc own D mcT msT) {x : Int32} {off : Int} (tgt pc1 : Nat) (d : decode cc pc = .ok (.ifCond .gt off, 3)) (ht : (pc : Int) + off = (tgt : Int)) (hp : pc + 3 = pc1) (kt : 0 < x → V X kc ks tgt lv st w) (kf : ¬ 0 < x → V X kc ks pc1 lv st w) : V X kc ks pc lv (.int x :: st) w := by
  subst hp; intro H locs ls hw hS hl; exact lv_if_gt h.1 h.2.1 d ht (fun q => kt q H locs ls hw hS hl) (fun q => kf q H locs ls hw hS hl)
theorem V.if_le (h : Cx X cc own D mcT msT) {x : Int32} {off : Int} (tgt pc1 : Nat) (d : decode cc pc = .ok (.ifCond .le off, 3)) (ht : (pc : Int) + off = (tgt : Int)) (hp : pc + 3 = pc1) (kt : x ≤ 0 → V X kc ks tgt lv st w) (kf : ¬ x ≤ 0 → V X kc ks pc1 lv st w) : V X kc ks pc lv (.int x :: st) w := by
  subst hp; intro H locs ls hw hS hl; exact lv_if_le h.1 h.2.1 d ht (fun q => kt q H locs ls hw hS hl) (fun q => kf q H locs ls hw hS hl)
theorem V.icmp_eq (h : Cx X cc own D mcT msT) {x y : Int32} {off : Int} (tgt pc1 : Nat) (d : decode cc pc = .ok (.if_icmp .eq off, 3)) (ht : (pc : Int) + off = (tgt : Int)) (hp : pc + 3 = pc1) (kt : x = y → V X kc ks tgt lv st w) (kf : ¬ x = y → V X kc ks pc1 lv st w) : V X kc ks pc lv (.int y :: .int x :: st) w := by
  subst hp; intro H locs ls hw hS hl; exact lv_icmp_eq h.1 h.2.1 d ht (fun q => kt q H locs ls hw hS hl) (fun q => kf q H locs ls hw hS hl)
theorem V.icmp_ne (h : Cx X cc own D mcT msT) {x y : Int32} {off : Int} (tgt pc1 : Nat) (d : decode cc pc = .ok (.if_icmp .ne off, 3)) (ht : (pc : Int) + off = (tgt : Int)) (hp : pc + 3 = pc1) (kt : ¬ x = y → V X kc ks tgt lv st w) (kf : x = y → V X kc ks pc1 lv st w) : V X kc ks pc lv (.int y :: .int x :: st) w := by
  subst hp; intro H locs ls hw hS hl; exact lv_icmp_ne h.1 h.2.1 d ht (fun q => kt q H locs ls hw hS hl) (fun q => kf q H locs ls hw hS hl)
theorem V.icmp_lt (h : Cx X cc own D mcT msT) {x y : Int32} {off : Int} (tgt pc1 : Nat) (d : decode cc pc = .ok (.if_icmp .lt off, 3)) (ht : (pc : Int) + off = (tgt : Int)) (hp : pc + 3 = pc1) (kt : x < y → V X kc ks tgt lv st w) (kf : ¬ x < y → V X kc ks pc1 lv st w) : V X kc ks pc lv (.int y :: .int x :: st) w := by
  subst hp; intro H locs ls hw hS hl; exact lv_icmp_lt h.1 h.2.1 d ht (fun q => kt q H locs ls hw hS hl) (fun q => kf q H locs ls hw hS hl)
theorem V.icmp_ge (h : Cx X cc own D mcT msT) {x y : Int32} {off : Int} (tgt pc1 : Nat) (d : decode cc pc = .ok (.if_icmp .ge off, 3)) (ht : (pc : Int) + off = (tgt : Int)) (hp : pc + 3 = pc1) (kt : y ≤ x → V X kc ks tgt lv st w) (kf : ¬ y ≤ x → V X kc ks pc1 lv st w) : V X kc ks pc lv (.int y :: .int x :: st) w := by
  subst hp; intro H locs ls hw hS hl; exact lv_icmp_ge h.1 h.2.1 d ht (fun q => kt q H locs ls hw hS hl) (fun q => kf q H locs ls hw hS hl)
theorem V.icmp_gt (h : Cx X cc own D mcT msT) {x y : Int32} {off : Int} (tgt pc1 : Nat) (d : decode cc pc = .ok (.if_icmp .gt off, 3)) (ht : (pc : Int) + off = (tgt : Int)) (hp : pc + 3 = pc1) (kt : y < x → V X kc ks tgt lv st w) (kf : ¬ y < x → V X kc ks pc1 lv st w) : V X kc ks pc lv (.int y :: .int x :: st) w := by
  subst hp; intro H locs ls hw hS hl; exact lv_icmp_gt h.1 h.2.1 d ht (fun q => kt q H locs ls hw hS hl) (fun q => kf q H locs ls hw hS hl)
theorem V.icmp_le (h : Cx X cc own D mcT msT) {x y : Int32} {off : Int} (tgt pc1 : Nat) (d : decode cc pc = .ok (.if_icmp .le off, 3)) (ht : (pc : Int) + off = (tgt : Int)) (hp : pc + 3 = pc1) (kt : x ≤ y → V X kc ks tgt lv st w) (kf : ¬ x ≤ y → V X kc ks pc1 lv st w) : V X kc ks pc lv (.int y :: .int x :: st) w := by
  subst hp; intro H locs ls hw hS hl; exact lv_icmp_le h.1 h.2.1 d ht (fun q => kt q H locs ls hw hS hl) (fun q => kf q H locs ls hw hS hl)
theorem V.tcase (h : Cx X cc own D mcT msT) {x : Int32} {dflt lo hi off : Int} {offs : Array Int} {len : Nat} (c : Int32) (tgt : Nat) (d : decode cc pc = .ok (.tableswitch dflt lo hi offs, len)) (h1 : lo ≤ c.toInt ∧ c.toInt ≤ hi) (ho : offs[(c.toInt - lo).toNat]? = some off) (ht : (pc : Int) + off = (tgt : Int)) (kt : x = c → V X kc ks tgt lv st w) (kf : ¬ x = c → V X kc ks pc lv (.int x :: st) w) : V X kc ks pc lv (.int x :: st) w := by
  by_cases hx : x = c
  · intro H locs ls hw hS hl
    subst hx
    exact lv_tableIn h.1 h.2.1 d (by omega) (by omega) ho ht (kt rfl H locs ls hw hS hl)
  · exact kf hx
theorem V.tdflt (h : Cx X cc own D mcT msT) {x : Int32} {dflt lo hi : Int} {offs : Array Int} {len : Nat} (tgt : Nat) (d : decode cc pc = .ok (.tableswitch dflt lo hi offs, len)) (ho : x.toInt < lo ∨ hi < x.toInt) (ht : (pc : Int) + dflt = (tgt : Int)) (k : V X kc ks tgt lv st w) : V X kc ks pc lv (.int x :: st) w := by
  intro H locs ls hw hS hl
  exact lv_tableOut h.1 h.2.1 d ho ht (k H locs ls hw hS hl)
theorem V.lcase (h : Cx X cc own D mcT msT) {x : Int32} {dflt off : Int} {ps : Array (Int × Int)} {len : Nat} (c : Int32) (tgt : Nat) (d : decode cc pc = .ok (.lookupswitch dflt ps, len)) (hp : (ps.toList.zip (ps.toList.drop 1)).all (fun (a, next) => a.1 < next.1) = true) (ho : Op.lookupswitch.offset ps.toList dflt c.toInt = off) (ht : (pc : Int) + off = (tgt : Int)) (kt : x = c → V X kc ks tgt lv st w) (kf : ¬ x = c → V X kc ks pc lv (.int x :: st) w) : V X kc ks pc lv (.int x :: st) w := by
  by_cases hx : x = c
  · intro H locs ls hw hS hl
    subst hx
    exact lv_lookup h.1 h.2.1 d hp ho ht (kt rfl H locs ls hw hS hl)
  · exact kf hx
theorem V.ldflt (h : Cx X cc own D mcT msT) {x : Int32} {dflt : Int} {ps : Array (Int × Int)} {len : Nat} (tgt : Nat) (d : decode cc pc = .ok (.lookupswitch dflt ps, len)) (hp : (ps.toList.zip (ps.toList.drop 1)).all (fun (a, next) => a.1 < next.1) = true) (ho : Op.lookupswitch.offset ps.toList dflt x.toInt = dflt) (ht : (pc : Int) + dflt = (tgt : Int)) (k : V X kc ks tgt lv st w) : V X kc ks pc lv (.int x :: st) w := by
  intro H locs ls hw hS hl
  exact lv_lookup h.1 h.2.1 d hp ho ht (k H locs ls hw hS hl)
theorem V.iload0 (h : Cx X cc own D mcT msT) {t : List (Option Value)} {x : Int32} (pc1 : Nat) (d : decode cc pc = .ok (.iload_n 0, 1)) (hp : pc + 1 = pc1) (k : V X kc ks pc1 (some (.int x) :: t) (.int x :: st) w) : V X kc ks pc (some (.int x) :: t) st w := by
  subst hp; intro H locs ls hw hS hl; exact lv_iload_n h.1 h.2.1 d rfl (hl.at rfl) (k H locs ls hw hS hl)
theorem V.aload0 (h : Cx X cc own D mcT msT) {t : List (Option Value)} {x : Nat} (pc1 : Nat) (d : decode cc pc = .ok (.aload_n 0, 1)) (hp : pc + 1 = pc1) (k : V X kc ks pc1 (some (.ref x) :: t) (.ref x :: st) w) : V X kc ks pc (some (.ref x) :: t) st w := by
  subst hp; intro H locs ls hw hS hl; exact lv_aload_n h.1 h.2.1 d rfl (hl.at rfl) (k H locs ls hw hS hl)
theorem V.istore0 (h : Cx X cc own D mcT msT) {t : List (Option Value)} {y : Option Value} {x : Int32} (pc1 : Nat) (d : decode cc pc = .ok (.istore_n 0, 1)) (hp : pc + 1 = pc1) (hc : okst (y :: t) 0 = true) (k : V X kc ks pc1 (some (.int x) :: t) st w) : V X kc ks pc (y :: t) (.int x :: st) w := by
  subst hp; intro H locs ls hw hS hl
  have hn : 0 < (y :: t).length := by simp only [List.length_cons]; omega
  exact lv_istore_n h.1 h.2.1 d rfl hl.2 (by rw [← hl.1]; exact hn) rfl (fun ls1 h1 => k H locs ls1 hw hS (LV.put hl.1 hn hc h1))
theorem V.astore0 (h : Cx X cc own D mcT msT) {t : List (Option Value)} {y : Option Value} {x : Nat} (pc1 : Nat) (d : decode cc pc = .ok (.astore_n 0, 1)) (hp : pc + 1 = pc1) (hc : okst (y :: t) 0 = true) (k : V X kc ks pc1 (some (.ref x) :: t) st w) : V X kc ks pc (y :: t) (.ref x :: st) w := by
  subst hp; intro H locs ls hw hS hl
  have hn : 0 < (y :: t).length := by simp only [List.length_cons]; omega
  exact lv_astore_n h.1 h.2.1 d rfl hl.2 (by rw [← hl.1]; exact hn) rfl (fun ls1 h1 => k H locs ls1 hw hS (LV.put hl.1 hn hc h1))
theorem V.iload1 (h : Cx X cc own D mcT msT) {u0 : Option Value} {t : List (Option Value)} {x : Int32} (pc1 : Nat) (d : decode cc pc = .ok (.iload_n 1, 1)) (hp : pc + 1 = pc1) (k : V X kc ks pc1 (u0 :: some (.int x) :: t) (.int x :: st) w) : V X kc ks pc (u0 :: some (.int x) :: t) st w := by
  subst hp; intro H locs ls hw hS hl; exact lv_iload_n h.1 h.2.1 d rfl (hl.at rfl) (k H locs ls hw hS hl)
theorem V.aload1 (h : Cx X cc own D mcT msT) {u0 : Option Value} {t : List (Option Value)} {x : Nat} (pc1 : Nat) (d : decode cc pc = .ok (.aload_n 1, 1)) (hp : pc + 1 = pc1) (k : V X kc ks pc1 (u0 :: some (.ref x) :: t) (.ref x :: st) w) : V X kc ks pc (u0 :: some (.ref x) :: t) st w := by
  subst hp; intro H locs ls hw hS hl; exact lv_aload_n h.1 h.2.1 d rfl (hl.at rfl) (k H locs ls hw hS hl)
theorem V.istore1 (h : Cx X cc own D mcT msT) {u0 : Option Value} {t : List (Option Value)} {y : Option Value} {x : Int32} (pc1 : Nat) (d : decode cc pc = .ok (.istore_n 1, 1)) (hp : pc + 1 = pc1) (hc : okst (u0 :: y :: t) 1 = true) (k : V X kc ks pc1 (u0 :: some (.int x) :: t) st w) : V X kc ks pc (u0 :: y :: t) (.int x :: st) w := by
  subst hp; intro H locs ls hw hS hl
  have hn : 1 < (u0 :: y :: t).length := by simp only [List.length_cons]; omega
  exact lv_istore_n h.1 h.2.1 d rfl hl.2 (by rw [← hl.1]; exact hn) rfl (fun ls1 h1 => k H locs ls1 hw hS (LV.put hl.1 hn hc h1))
theorem V.astore1 (h : Cx X cc own D mcT msT) {u0 : Option Value} {t : List (Option Value)} {y : Option Value} {x : Nat} (pc1 : Nat) (d : decode cc pc = .ok (.astore_n 1, 1)) (hp : pc + 1 = pc1) (hc : okst (u0 :: y :: t) 1 = true) (k : V X kc ks pc1 (u0 :: some (.ref x) :: t) st w) : V X kc ks pc (u0 :: y :: t) (.ref x :: st) w := by
  subst hp; intro H locs ls hw hS hl
  have hn : 1 < (u0 :: y :: t).length := by simp only [List.length_cons]; omega
  exact lv_astore_n h.1 h.2.1 d rfl hl.2 (by rw [← hl.1]; exact hn) rfl (fun ls1 h1 => k H locs ls1 hw hS (LV.put hl.1 hn hc h1))
theorem V.iload2 (h : Cx X cc own D mcT msT) {u0 u1 : Option Value} {t : List (Option Value)} {x : Int32} (pc1 : Nat) (d : decode cc pc = .ok (.iload_n 2, 1)) (hp : pc + 1 = pc1) (k : V X kc ks pc1 (u0 :: u1 :: some (.int x) :: t) (.int x :: st) w) : V X kc ks pc (u0 :: u1 :: some (.int x) :: t) st w := by
  subst hp; intro H locs ls hw hS hl; exact lv_iload_n h.1 h.2.1 d rfl (hl.at rfl) (k H locs ls hw hS hl)
theorem V.aload2 (h : Cx X cc own D mcT msT) {u0 u1 : Option Value} {t : List (Option Value)} {x : Nat} (pc1 : Nat) (d : decode cc pc = .ok (.aload_n 2, 1)) (hp : pc + 1 = pc1) (k : V X kc ks pc1 (u0 :: u1 :: some (.ref x) :: t) (.ref x :: st) w) : V X kc ks pc (u0 :: u1 :: some (.ref x) :: t) st w := by
  subst hp; intro H locs ls hw hS hl; exact lv_aload_n h.1 h.2.1 d rfl (hl.at rfl) (k H locs ls hw hS hl)
theorem V.istore2 (h : Cx X cc own D mcT msT) {u0 u1 : Option Value} {t : List (Option Value)} {y : Option Value} {x : Int32} (pc1 : Nat) (d : decode cc pc = .ok (.istore_n 2, 1)) (hp : pc + 1 = pc1) (hc : okst (u0 :: u1 :: y :: t) 2 = true) (k : V X kc ks pc1 (u0 :: u1 :: some (.int x) :: t) st w) : V X kc ks pc (u0 :: u1 :: y :: t) (.int x :: st) w := by
  subst hp; intro H locs ls hw hS hl
  have hn : 2 < (u0 :: u1 :: y :: t).length := by simp only [List.length_cons]; omega
  exact lv_istore_n h.1 h.2.1 d rfl hl.2 (by rw [← hl.1]; exact hn) rfl (fun ls1 h1 => k H locs ls1 hw hS (LV.put hl.1 hn hc h1))
theorem V.astore2 (h : Cx X cc own D mcT msT) {u0 u1 : Option Value} {t : List (Option Value)} {y : Option Value} {x : Nat} (pc1 : Nat) (d : decode cc pc = .ok (.astore_n 2, 1)) (hp : pc + 1 = pc1) (hc : okst (u0 :: u1 :: y :: t) 2 = true) (k : V X kc ks pc1 (u0 :: u1 :: some (.ref x) :: t) st w) : V X kc ks pc (u0 :: u1 :: y :: t) (.ref x :: st) w := by
  subst hp; intro H locs ls hw hS hl
  have hn : 2 < (u0 :: u1 :: y :: t).length := by simp only [List.length_cons]; omega
  exact lv_astore_n h.1 h.2.1 d rfl hl.2 (by rw [← hl.1]; exact hn) rfl (fun ls1 h1 => k H locs ls1 hw hS (LV.put hl.1 hn hc h1))
theorem V.iload3 (h : Cx X cc own D mcT msT) {u0 u1 u2 : Option Value} {t : List (Option Value)} {x : Int32} (pc1 : Nat) (d : decode cc pc = .ok (.iload_n 3, 1)) (hp : pc + 1 = pc1) (k : V X kc ks pc1 (u0 :: u1 :: u2 :: some (.int x) :: t) (.int x :: st) w) : V X kc ks pc (u0 :: u1 :: u2 :: some (.int x) :: t) st w := by
  subst hp; intro H locs ls hw hS hl; exact lv_iload_n h.1 h.2.1 d rfl (hl.at rfl) (k H locs ls hw hS hl)
theorem V.aload3 (h : Cx X cc own D mcT msT) {u0 u1 u2 : Option Value} {t : List (Option Value)} {x : Nat} (pc1 : Nat) (d : decode cc pc = .ok (.aload_n 3, 1)) (hp : pc + 1 = pc1) (k : V X kc ks pc1 (u0 :: u1 :: u2 :: some (.ref x) :: t) (.ref x :: st) w) : V X kc ks pc (u0 :: u1 :: u2 :: some (.ref x) :: t) st w := by
  subst hp; intro H locs ls hw hS hl; exact lv_aload_n h.1 h.2.1 d rfl (hl.at rfl) (k H locs ls hw hS hl)
theorem V.istore3 (h : Cx X cc own D mcT msT) {u0 u1 u2 : Option Value} {t : List (Option Value)} {y : Option Value} {x : Int32} (pc1 : Nat) (d : decode cc pc = .ok (.istore_n 3, 1)) (hp : pc + 1 = pc1) (hc : okst (u0 :: u1 :: u2 :: y :: t) 3 = true) (k : V X kc ks pc1 (u0 :: u1 :: u2 :: some (.int x) :: t) st w) : V X kc ks pc (u0 :: u1 :: u2 :: y :: t) (.int x :: st) w := by
  subst hp; intro H locs ls hw hS hl
  have hn : 3 < (u0 :: u1 :: u2 :: y :: t).length := by simp only [List.length_cons]; omega
  exact lv_istore_n h.1 h.2.1 d rfl hl.2 (by rw [← hl.1]; exact hn) rfl (fun ls1 h1 => k H locs ls1 hw hS (LV.put hl.1 hn hc h1))
theorem V.astore3 (h : Cx X cc own D mcT msT) {u0 u1 u2 : Option Value} {t : List (Option Value)} {y : Option Value} {x : Nat} (pc1 : Nat) (d : decode cc pc = .ok (.astore_n 3, 1)) (hp : pc + 1 = pc1) (hc : okst (u0 :: u1 :: u2 :: y :: t) 3 = true) (k : V X kc ks pc1 (u0 :: u1 :: u2 :: some (.ref x) :: t) st w) : V X kc ks pc (u0 :: u1 :: u2 :: y :: t) (.ref x :: st) w := by
  subst hp; intro H locs ls hw hS hl
  have hn : 3 < (u0 :: u1 :: u2 :: y :: t).length := by simp only [List.length_cons]; omega
  exact lv_astore_n h.1 h.2.1 d rfl hl.2 (by rw [← hl.1]; exact hn) rfl (fun ls1 h1 => k H locs ls1 hw hS (LV.put hl.1 hn hc h1))
theorem V.iload4 (h : Cx X cc own D mcT msT) {u0 u1 u2 u3 : Option Value} {t : List (Option Value)} {x : Int32} (pc1 : Nat) (d : decode cc pc = .ok (.iload 4, 2)) (hp : pc + 2 = pc1) (k : V X kc ks pc1 (u0 :: u1 :: u2 :: u3 :: some (.int x) :: t) (.int x :: st) w) : V X kc ks pc (u0 :: u1 :: u2 :: u3 :: some (.int x) :: t) st w := by
  subst hp; intro H locs ls hw hS hl; exact lv_iload h.1 h.2.1 d (hl.at rfl) (k H locs ls hw hS hl)
theorem V.aload4 (h : Cx X cc own D mcT msT) {u0 u1 u2 u3 : Option Value} {t : List (Option Value)} {x : Nat} (pc1 : Nat) (d : decode cc pc = .ok (.aload 4, 2)) (hp : pc + 2 = pc1) (k : V X kc ks pc1 (u0 :: u1 :: u2 :: u3 :: some (.ref x) :: t) (.ref x :: st) w) : V X kc ks pc (u0 :: u1 :: u2 :: u3 :: some (.ref x) :: t) st w := by
  subst hp; intro H locs ls hw hS hl; exact lv_aload h.1 h.2.1 d (hl.at rfl) (k H locs ls hw hS hl)
theorem V.istore4 (h : Cx X cc own D mcT msT) {u0 u1 u2 u3 : Option Value} {t : List (Option Value)} {y : Option Value} {x : Int32} (pc1 : Nat) (d : decode cc pc = .ok (.istore 4, 2)) (hp : pc + 2 = pc1) (hc : okst (u0 :: u1 :: u2 :: u3 :: y :: t) 4 = true) (k : V X kc ks pc1 (u0 :: u1 :: u2 :: u3 :: some (.int x) :: t) st w) : V X kc ks pc (u0 :: u1 :: u2 :: u3 :: y :: t) (.int x :: st) w := by
  subst hp; intro H locs ls hw hS hl
  have hn : 4 < (u0 :: u1 :: u2 :: u3 :: y :: t).length := by simp only [List.length_cons]; omega
  exact lv_istore h.1 h.2.1 d hl.2 (by rw [← hl.1]; exact hn) rfl (fun ls1 h1 => k H locs ls1 hw hS (LV.put hl.1 hn hc h1))
theorem V.astore4 (h : Cx X cc own D mcT msT) {u0 u1 u2 u3 : Option Value} {t : List (Option Value)} {y : Option Value} {x : Nat} (pc1 : Nat) (d : decode cc pc = .ok (.astore 4, 2)) (hp : pc + 2 = pc1) (hc : okst (u0 :: u1 :: u2 :: u3 :: y :: t) 4 = true) (k : V X kc ks pc1 (u0 :: u1 :: u2 :: u3 :: some (.ref x) :: t) st w) : V X kc ks pc (u0 :: u1 :: u2 :: u3 :: y :: t) (.ref x :: st) w := by
  subst hp; intro H locs ls hw hS hl
  have hn : 4 < (u0 :: u1 :: u2 :: u3 :: y :: t).length := by simp only [List.length_cons]; omega
  exact lv_astore h.1 h.2.1 d hl.2 (by rw [← hl.1]; exact hn) rfl (fun ls1 h1 => k H locs ls1 hw hS (LV.put hl.1 hn hc h1))
theorem V.iload5 (h : Cx X cc own D mcT msT) {u0 u1 u2 u3 u4 : Option Value} {t : List (Option Value)} {x : Int32} (pc1 : Nat) (d : decode cc pc = .ok (.iload 5, 2)) (hp : pc + 2 = pc1) (k : V X kc ks pc1 (u0 :: u1 :: u2 :: u3 :: u4 :: some (.int x) :: t) (.int x :: st) w) : V X kc ks pc (u0 :: u1 :: u2 :: u3 :: u4 :: some (.int x) :: t) st w := by
  subst hp; intro H locs ls hw hS hl; exact lv_iload h.1 h.2.1 d (hl.at rfl) (k H locs ls hw hS hl)
theorem V.aload5 (h : Cx X cc own D mcT msT) {u0 u1 u2 u3 u4 : Option Value} {t : List (Option Value)} {x : Nat} (pc1 : Nat) (d : decode cc pc = .ok (.aload 5, 2)) (hp : pc + 2 = pc1) (k : V X kc ks pc1 (u0 :: u1 :: u2 :: u3 :: u4 :: some (.ref x) :: t) (.ref x :: st) w) : V X kc ks pc (u0 :: u1 :: u2 :: u3 :: u4 :: some (.ref x) :: t) st w := by
  subst hp; intro H locs ls hw hS hl; exact lv_aload h.1 h.2.1 d (hl.at rfl) (k H locs ls hw hS hl)
theorem V.istore5 (h : Cx X cc own D mcT msT) {u0 u1 u2 u3 u4 : Option Value} {t : List (Option Value)} {y : Option Value} {x : Int32} (pc1 : Nat) (d : decode cc pc = .ok (.istore 5, 2)) (hp : pc + 2 = pc1) (hc : okst (u0 :: u1 :: u2 :: u3 :: u4 :: y :: t) 5 = true) (k : V X kc ks pc1 (u0 :: u1 :: u2 :: u3 :: u4 :: some (.int x) :: t) st w) : V X kc ks pc (u0 :: u1 :: u2 :: u3 :: u4 :: y :: t) (.int x :: st) w := by
  subst hp; intro H locs ls hw hS hl
  have hn : 5 < (u0 :: u1 :: u2 :: u3 :: u4 :: y :: t).length := by simp only [List.length_cons]; omega
  exact lv_istore h.1 h.2.1 d hl.2 (by rw [← hl.1]; exact hn) rfl (fun ls1 h1 => k H locs ls1 hw hS (LV.put hl.1 hn hc h1))
theorem V.astore5 (h : Cx X cc own D mcT msT) {u0 u1 u2 u3 u4 : Option Value} {t : List (Option Value)} {y : Option Value} {x : Nat} (pc1 : Nat) (d : decode cc pc = .ok (.astore 5, 2)) (hp : pc + 2 = pc1) (hc : okst (u0 :: u1 :: u2 :: u3 :: u4 :: y :: t) 5 = true) (k : V X kc ks pc1 (u0 :: u1 :: u2 :: u3 :: u4 :: some (.ref x) :: t) st w) : V X kc ks pc (u0 :: u1 :: u2 :: u3 :: u4 :: y :: t) (.ref x :: st) w := by
  subst hp; intro H locs ls hw hS hl
  have hn : 5 < (u0 :: u1 :: u2 :: u3 :: u4 :: y :: t).length := by simp only [List.length_cons]; omega
  exact lv_astore h.1 h.2.1 d hl.2 (by rw [← hl.1]; exact hn) rfl (fun ls1 h1 => k H locs ls1 hw hS (LV.put hl.1 hn hc h1))
theorem V.iload6 (h : Cx X cc own D mcT msT) {u0 u1 u2 u3 u4 u5 : Option Value} {t : List (Option Value)} {x : Int32} (pc1 : Nat) (d : decode cc pc = .ok (.iload 6, 2)) (hp : pc + 2 = pc1) (k : V X kc ks pc1 (u0 :: u1 :: u2 :: u3 :: u4 :: u5 :: some (.int x) :: t) (.int x :: st) w) : V X kc ks pc (u0 :: u1 :: u2 :: u3 :: u4 :: u5 :: some (.int x) :: t) st w := by
  subst hp; intro H locs ls hw hS hl; exact lv_iload h.1 h.2.1 d (hl.at rfl) (k H locs ls hw hS hl)
theorem V.aload6 (h : Cx X cc own D mcT msT) {u0 u1 u2 u3 u4 u5 : Option Value} {t : List (Option Value)} {x : Nat} (pc1 : Nat) (d : decode cc pc = .ok (.aload 6, 2)) (hp : pc + 2 = pc1) (k : V X kc ks pc1 (u0 :: u1 :: u2 :: u3 :: u4 :: u5 :: some (.ref x) :: t) (.ref x :: st) w) : V X kc ks pc (u0 :: u1 :: u2 :: u3 :: u4 :: u5 :: some (.ref x) :: t) st w := by
  subst hp; intro H locs ls hw hS hl; exact lv_aload h.1 h.2.1 d (hl.at rfl) (k H locs ls hw hS hl)
theorem V.istore6 (h : Cx X cc own D mcT msT) {u0 u1 u2 u3 u4 u5 : Option Value} {t : List (Option Value)} {y : Option Value} {x : Int32} (pc1 : Nat) (d : decode cc pc = .ok (.istore 6, 2)) (hp : pc + 2 = pc1) (hc : okst (u0 :: u1 :: u2 :: u3 :: u4 :: u5 :: y :: t) 6 = true) (k : V X kc ks pc1 (u0 :: u1 :: u2 :: u3 :: u4 :: u5 :: some (.int x) :: t) st w) : V X kc ks pc (u0 :: u1 :: u2 :: u3 :: u4 :: u5 :: y :: t) (.int x :: st) w := by
  subst hp; intro H locs ls hw hS hl
  have hn : 6 < (u0 :: u1 :: u2 :: u3 :: u4 :: u5 :: y :: t).length := by simp only [List.length_cons]; omega
  exact lv_istore h.1 h.2.1 d hl.2 (by rw [← hl.1]; exact hn) rfl (fun ls1 h1 => k H locs ls1 hw hS (LV.put hl.1 hn hc h1))
theorem V.astore6 (h : Cx X cc own D mcT msT) {u0 u1 u2 u3 u4 u5 : Option Value} {t : List (Option Value)} {y : Option Value} {x : Nat} (pc1 : Nat) (d : decode cc pc = .ok (.astore 6, 2)) (hp : pc + 2 = pc1) (hc : okst (u0 :: u1 :: u2 :: u3 :: u4 :: u5 :: y :: t) 6 = true) (k : V X kc ks pc1 (u0 :: u1 :: u2 :: u3 :: u4 :: u5 :: some (.ref x) :: t) st w) : V X kc ks pc (u0 :: u1 :: u2 :: u3 :: u4 :: u5 :: y :: t) (.ref x :: st) w := by
  subst hp; intro H locs ls hw hS hl
  have hn : 6 < (u0 :: u1 :: u2 :: u3 :: u4 :: u5 :: y :: t).length := by simp only [List.length_cons]; omega
  exact lv_astore h.1 h.2.1 d hl.2 (by rw [← hl.1]; exact hn) rfl (fun ls1 h1 => k H locs ls1 hw hS (LV.put hl.1 hn hc h1))
theorem V.iload7 (h : Cx X cc own D mcT msT) {u0 u1 u2 u3 u4 u5 u6 : Option Value} {t : List (Option Value)} {x : Int32} (pc1 : Nat) (d : decode cc pc = .ok (.iload 7, 2)) (hp : pc + 2 = pc1) (k : V X kc ks pc1 (u0 :: u1 :: u2 :: u3 :: u4 :: u5 :: u6 :: some (.int x) :: t) (.int x :: st) w) : V X kc ks pc (u0 :: u1 :: u2 :: u3 :: u4 :: u5 :: u6 :: some (.int x) :: t) st w := by
  subst hp; intro H locs ls hw hS hl; exact lv_iload h.1 h.2.1 d (hl.at rfl) (k H locs ls hw hS hl)
theorem V.aload7 (h : Cx X cc own D mcT msT) {u0 u1 u2 u3 u4 u5 u6 : Option Value} {t : List (Option Value)} {x : Nat} (pc1 : Nat) (d : decode cc pc = .ok (.aload 7, 2)) (hp : pc + 2 = pc1) (k : V X kc ks pc1 (u0 :: u1 :: u2 :: u3 :: u4 :: u5 :: u6 :: some (.ref x) :: t) (.ref x :: st) w) : V X kc ks pc (u0 :: u1 :: u2 :: u3 :: u4 :: u5 :: u6 :: some (.ref x) :: t) st w := by
  subst hp; intro H locs ls hw hS hl; exact lv_aload h.1 h.2.1 d (hl.at rfl) (k H locs ls hw hS hl)
theorem V.istore7 (h : Cx X cc own D mcT msT) {u0 u1 u2 u3 u4 u5 u6 : Option Value} {t : List (Option Value)} {y : Option Value} {x : Int32} (pc1 : Nat) (d : decode cc pc = .ok (.istore 7, 2)) (hp : pc + 2 = pc1) (hc : okst (u0 :: u1 :: u2 :: u3 :: u4 :: u5 :: u6 :: y :: t) 7 = true) (k : V X kc ks pc1 (u0 :: u1 :: u2 :: u3 :: u4 :: u5 :: u6 :: some (.int x) :: t) st w) : V X kc ks pc (u0 :: u1 :: u2 :: u3 :: u4 :: u5 :: u6 :: y :: t) (.int x :: st) w := by
  subst hp; intro H locs ls hw hS hl
  have hn : 7 < (u0 :: u1 :: u2 :: u3 :: u4 :: u5 :: u6 :: y :: t).length := by simp only [List.length_cons]; omega
  exact lv_istore h.1 h.2.1 d hl.2 (by rw [← hl.1]; exact hn) rfl (fun ls1 h1 => k H locs ls1 hw hS (LV.put hl.1 hn hc h1))
theorem V.astore7 (h : Cx X cc own D mcT msT) {u0 u1 u2 u3 u4 u5 u6 : Option Value} {t : List (Option Value)} {y : Option Value} {x : Nat} (pc1 : Nat) (d : decode cc pc = .ok (.astore 7, 2)) (hp : pc + 2 = pc1) (hc : okst (u0 :: u1 :: u2 :: u3 :: u4 :: u5 :: u6 :: y :: t) 7 = true) (k : V X kc ks pc1 (u0 :: u1 :: u2 :: u3 :: u4 :: u5 :: u6 :: some (.ref x) :: t) st w) : V X kc ks pc (u0 :: u1 :: u2 :: u3 :: u4 :: u5 :: u6 :: y :: t) (.ref x :: st) w := by
  subst hp; intro H locs ls hw hS hl
  have hn : 7 < (u0 :: u1 :: u2 :: u3 :: u4 :: u5 :: u6 :: y :: t).length := by simp only [List.length_cons]; omega
  exact lv_astore h.1 h.2.1 d hl.2 (by rw [← hl.1]; exact hn) rfl (fun ls1 h1 => k H locs ls1 hw hS (LV.put hl.1 hn hc h1))
theorem V.iload8 (h : Cx X cc own D mcT msT) {u0 u1 u2 u3 u4 u5 u6 u7 : Option Value} {t : List (Option Value)} {x : Int32} (pc1 : Nat) (d : decode cc pc = .ok (.iload 8, 2)) (hp : pc + 2 = pc1) (k : V X kc ks pc1 (u0 :: u1 :: u2 :: u3 :: u4 :: u5 :: u6 :: u7 :: some (.int x) :: t) (.int x :: st) w) : V X kc ks pc (u0 :: u1 :: u2 :: u3 :: u4 :: u5 :: u6 :: u7 :: some (.int x) :: t) st w := by
  subst hp; intro H locs ls hw hS hl; exact lv_iload h.1 h.2.1 d (hl.at rfl) (k H locs ls hw hS hl)
theorem V.aload8 (h : Cx X cc own D mcT msT) {u0 u1 u2 u3 u4 u5 u6 u7 : Option Value} {t : List (Option Value)} {x : Nat} (pc1 : Nat) (d : decode cc pc = .ok (.aload 8, 2)) (hp : pc + 2 = pc1) (k : V X kc ks pc1 (u0 :: u1 :: u2 :: u3 :: u4 :: u5 :: u6 :: u7 :: some (.ref x) :: t) (.ref x :: st) w) : V X kc ks pc (u0 :: u1 :: u2 :: u3 :: u4 :: u5 :: u6 :: u7 :: some (.ref x) :: t) st w := by
  subst hp; intro H locs ls hw hS hl; exact lv_aload h.1 h.2.1 d (hl.at rfl) (k H locs ls hw hS hl)
theorem V.istore8 (h : Cx X cc own D mcT msT) {u0 u1 u2 u3 u4 u5 u6 u7 : Option Value} {t : List (Option Value)} {y : Option Value} {x : Int32} (pc1 : Nat) (d : decode cc pc = .ok (.istore 8, 2)) (hp : pc + 2 = pc1) (hc : okst (u0 :: u1 :: u2 :: u3 :: u4 :: u5 :: u6 :: u7 :: y :: t) 8 = true) (k : V X kc ks pc1 (u0 :: u1 :: u2 :: u3 :: u4 :: u5 :: u6 :: u7 :: some (.int x) :: t) st w) : V X kc ks pc (u0 :: u1 :: u2 :: u3 :: u4 :: u5 :: u6 :: u7 :: y :: t) (.int x :: st) w := by
  subst hp; intro H locs ls hw hS hl
  have hn : 8 < (u0 :: u1 :: u2 :: u3 :: u4 :: u5 :: u6 :: u7 :: y :: t).length := by simp only [List.length_cons]; omega
  exact lv_istore h.1 h.2.1 d hl.2 (by rw [← hl.1]; exact hn) rfl (fun ls1 h1 => k H locs ls1 hw hS (LV.put hl.1 hn hc h1))
theorem V.astore8 (h : Cx X cc own D mcT msT) {u0 u1 u2 u3 u4 u5 u6 u7 : Option Value} {t : List (Option Value)} {y : Option Value} {x : Nat} (pc1 : Nat) (d : decode cc pc = .ok (.astore 8, 2)) (hp : pc + 2 = pc1) (hc : okst (u0 :: u1 :: u2 :: u3 :: u4 :: u5 :: u6 :: u7 :: y :: t) 8 = true) (k : V X kc ks pc1 (u0 :: u1 :: u2 :: u3 :: u4 :: u5 :: u6 :: u7 :: some (.ref x) :: t) st w) : V X kc ks pc (u0 :: u1 :: u2 :: u3 :: u4 :: u5 :: u6 :: u7 :: y :: t) (.ref x :: st) w := by
  subst hp; intro H locs ls hw hS hl
  have hn : 8 < (u0 :: u1 :: u2 :: u3 :: u4 :: u5 :: u6 :: u7 :: y :: t).length := by simp only [List.length_cons]; omega
  exact lv_astore h.1 h.2.1 d hl.2 (by rw [← hl.1]; exact hn) rfl (fun ls1 h1 => k H locs ls1 hw hS (LV.put hl.1 hn hc h1))
theorem V.iinc0 (h : Cx X cc own D mcT msT) {t : List (Option Value)} {n : Int} {x v : Int32} (pc1 : Nat) (d : decode cc pc = .ok (.iinc 0 n, 3)) (hp : pc + 3 = pc1) (hv : x + Int32.ofInt n = v) (hc : okst (some (.int x) :: t) 0 = true) (k : V X kc ks pc1 (some (.int v) :: t) st w) : V X kc ks pc (some (.int x) :: t) st w := by
  subst hp; intro H locs ls hw hS hl
  have hn : 0 < (some (.int x) :: t).length := by simp only [List.length_cons]; omega
  obtain ⟨k0, hk0⟩ := List.getElem?_of_mem ((lvl_mem (0, .int x) (some (.int x) :: t) 0).mpr ⟨0, rfl, rfl⟩)
  exact lv_iinc h.1 h.2.1 d hl.2 hk0 hv (by rw [← hl.1]; exact hn) rfl (fun ls1 h1 => k H locs ls1 hw hS (LV.put hl.1 hn hc h1))
theorem V.iinc1 (h : Cx X cc own D mcT msT) {u0 : Option Value} {t : List (Option Value)} {n : Int} {x v : Int32} (pc1 : Nat) (d : decode cc pc = .ok (.iinc 1 n, 3)) (hp : pc + 3 = pc1) (hv : x + Int32.ofInt n = v) (hc : okst (u0 :: some (.int x) :: t) 1 = true) (k : V X kc ks pc1 (u0 :: some (.int v) :: t) st w) : V X kc ks pc (u0 :: some (.int x) :: t) st w := by
  subst hp; intro H locs ls hw hS hl
  have hn : 1 < (u0 :: some (.int x) :: t).length := by simp only [List.length_cons]; omega
  obtain ⟨k0, hk0⟩ := List.getElem?_of_mem ((lvl_mem (1, .int x) (u0 :: some (.int x) :: t) 0).mpr ⟨1, rfl, rfl⟩)
  exact lv_iinc h.1 h.2.1 d hl.2 hk0 hv (by rw [← hl.1]; exact hn) rfl (fun ls1 h1 => k H locs ls1 hw hS (LV.put hl.1 hn hc h1))
theorem V.iinc2 (h : Cx X cc own D mcT msT) {u0 u1 : Option Value} {t : List (Option Value)} {n : Int} {x v : Int32} (pc1 : Nat) (d : decode cc pc = .ok (.iinc 2 n, 3)) (hp : pc + 3 = pc1) (hv : x + Int32.ofInt n = v) (hc : okst (u0 :: u1 :: some (.int x) :: t) 2 = true) (k : V X kc ks pc1 (u0 :: u1 :: some (.int v) :: t) st w) : V X kc ks pc (u0 :: u1 :: some (.int x) :: t) st w := by
  subst hp; intro H locs ls hw hS hl
  have hn : 2 < (u0 :: u1 :: some (.int x) :: t).length := by simp only [List.length_cons]; omega
  obtain ⟨k0, hk0⟩ := List.getElem?_of_mem ((lvl_mem (2, .int x) (u0 :: u1 :: some (.int x) :: t) 0).mpr ⟨2, rfl, rfl⟩)
  exact lv_iinc h.1 h.2.1 d hl.2 hk0 hv (by rw [← hl.1]; exact hn) rfl (fun ls1 h1 => k H locs ls1 hw hS (LV.put hl.1 hn hc h1))
theorem V.iinc3 (h : Cx X cc own D mcT msT) {u0 u1 u2 : Option Value} {t : List (Option Value)} {n : Int} {x v : Int32} (pc1 : Nat) (d : decode cc pc = .ok (.iinc 3 n, 3)) (hp : pc + 3 = pc1) (hv : x + Int32.ofInt n = v) (hc : okst (u0 :: u1 :: u2 :: some (.int x) :: t) 3 = true) (k : V X kc ks pc1 (u0 :: u1 :: u2 :: some (.int v) :: t) st w) : V X kc ks pc (u0 :: u1 :: u2 :: some (.int x) :: t) st w := by
  subst hp; intro H locs ls hw hS hl
  have hn : 3 < (u0 :: u1 :: u2 :: some (.int x) :: t).length := by simp only [List.length_cons]; omega
  obtain ⟨k0, hk0⟩ := List.getElem?_of_mem ((lvl_mem (3, .int x) (u0 :: u1 :: u2 :: some (.int x) :: t) 0).mpr ⟨3, rfl, rfl⟩)
  exact lv_iinc h.1 h.2.1 d hl.2 hk0 hv (by rw [← hl.1]; exact hn) rfl (fun ls1 h1 => k H locs ls1 hw hS (LV.put hl.1 hn hc h1))
theorem V.iinc4 (h : Cx X cc own D mcT msT) {u0 u1 u2 u3 : Option Value} {t : List (Option Value)} {n : Int} {x v : Int32} (pc1 : Nat) (d : decode cc pc = .ok (.iinc 4 n, 3)) (hp : pc + 3 = pc1) (hv : x + Int32.ofInt n = v) (hc : okst (u0 :: u1 :: u2 :: u3 :: some (.int x) :: t) 4 = true) (k : V X kc ks pc1 (u0 :: u1 :: u2 :: u3 :: some (.int v) :: t) st w) : V X kc ks pc (u0 :: u1 :: u2 :: u3 :: some (.int x) :: t) st w := by
  subst hp; intro H locs ls hw hS hl
  have hn : 4 < (u0 :: u1 :: u2 :: u3 :: some (.int x) :: t).length := by simp only [List.length_cons]; omega
  obtain ⟨k0, hk0⟩ := List.getElem?_of_mem ((lvl_mem (4, .int x) (u0 :: u1 :: u2 :: u3 :: some (.int x) :: t) 0).mpr ⟨4, rfl, rfl⟩)
  exact lv_iinc h.1 h.2.1 d hl.2 hk0 hv (by rw [← hl.1]; exact hn) rfl (fun ls1 h1 => k H locs ls1 hw hS (LV.put hl.1 hn hc h1))
theorem V.iinc5 (h : Cx X cc own D mcT msT) {u0 u1 u2 u3 u4 : Option Value} {t : List (Option Value)} {n : Int} {x v : Int32} (pc1 : Nat) (d : decode cc pc = .ok (.iinc 5 n, 3)) (hp : pc + 3 = pc1) (hv : x + Int32.ofInt n = v) (hc : okst (u0 :: u1 :: u2 :: u3 :: u4 :: some (.int x) :: t) 5 = true) (k : V X kc ks pc1 (u0 :: u1 :: u2 :: u3 :: u4 :: some (.int v) :: t) st w) : V X kc ks pc (u0 :: u1 :: u2 :: u3 :: u4 :: some (.int x) :: t) st w := by
  subst hp; intro H locs ls hw hS hl
  have hn : 5 < (u0 :: u1 :: u2 :: u3 :: u4 :: some (.int x) :: t).length := by simp only [List.length_cons]; omega
  obtain ⟨k0, hk0⟩ := List.getElem?_of_mem ((lvl_mem (5, .int x) (u0 :: u1 :: u2 :: u3 :: u4 :: some (.int x) :: t) 0).mpr ⟨5, rfl, rfl⟩)
  exact lv_iinc h.1 h.2.1 d hl.2 hk0 hv (by rw [← hl.1]; exact hn) rfl (fun ls1 h1 => k H locs ls1 hw hS (LV.put hl.1 hn hc h1))
theorem V.iinc6 (h : Cx X cc own D mcT msT) {u0 u1 u2 u3 u4 u5 : Option Value} {t : List (Option Value)} {n : Int} {x v : Int32} (pc1 : Nat) (d : decode cc pc = .ok (.iinc 6 n, 3)) (hp : pc + 3 = pc1) (hv : x + Int32.ofInt n = v) (hc : okst (u0 :: u1 :: u2 :: u3 :: u4 :: u5 :: some (.int x) :: t) 6 = true) (k : V X kc ks pc1 (u0 :: u1 :: u2 :: u3 :: u4 :: u5 :: some (.int v) :: t) st w) : V X kc ks pc (u0 :: u1 :: u2 :: u3 :: u4 :: u5 :: some (.int x) :: t) st w := by
  subst hp; intro H locs ls hw hS hl
  have hn : 6 < (u0 :: u1 :: u2 :: u3 :: u4 :: u5 :: some (.int x) :: t).length := by simp only [List.length_cons]; omega
  obtain ⟨k0, hk0⟩ := List.getElem?_of_mem ((lvl_mem (6, .int x) (u0 :: u1 :: u2 :: u3 :: u4 :: u5 :: some (.int x) :: t) 0).mpr ⟨6, rfl, rfl⟩)
  exact lv_iinc h.1 h.2.1 d hl.2 hk0 hv (by rw [← hl.1]; exact hn) rfl (fun ls1 h1 => k H locs ls1 hw hS (LV.put hl.1 hn hc h1))
theorem V.iinc7 (h : Cx X cc own D mcT msT) {u0 u1 u2 u3 u4 u5 u6 : Option Value} {t : List (Option Value)} {n : Int} {x v : Int32} (pc1 : Nat) (d : decode cc pc = .ok (.iinc 7 n, 3)) (hp : pc + 3 = pc1) (hv : x + Int32.ofInt n = v) (hc : okst (u0 :: u1 :: u2 :: u3 :: u4 :: u5 :: u6 :: some (.int x) :: t) 7 = true) (k : V X kc ks pc1 (u0 :: u1 :: u2 :: u3 :: u4 :: u5 :: u6 :: some (.int v) :: t) st w) : V X kc ks pc (u0 :: u1 :: u2 :: u3 :: u4 :: u5 :: u6 :: some (.int x) :: t) st w := by
  subst hp; intro H locs ls hw hS hl
  have hn : 7 < (u0 :: u1 :: u2 :: u3 :: u4 :: u5 :: u6 :: some (.int x) :: t).length := by simp only [List.length_cons]; omega
  obtain ⟨k0, hk0⟩ := List.getElem?_of_mem ((lvl_mem (7, .int x) (u0 :: u1 :: u2 :: u3 :: u4 :: u5 :: u6 :: some (.int x) :: t) 0).mpr ⟨7, rfl, rfl⟩)
  exact lv_iinc h.1 h.2.1 d hl.2 hk0 hv (by rw [← hl.1]; exact hn) rfl (fun ls1 h1 => k H locs ls1 hw hS (LV.put hl.1 hn hc h1))
theorem V.iinc8 (h : Cx X cc own D mcT msT) {u0 u1 u2 u3 u4 u5 u6 u7 : Option Value} {t : List (Option Value)} {n : Int} {x v : Int32} (pc1 : Nat) (d : decode cc pc = .ok (.iinc 8 n, 3)) (hp : pc + 3 = pc1) (hv : x + Int32.ofInt n = v) (hc : okst (u0 :: u1 :: u2 :: u3 :: u4 :: u5 :: u6 :: u7 :: some (.int x) :: t) 8 = true) (k : V X kc ks pc1 (u0 :: u1 :: u2 :: u3 :: u4 :: u5 :: u6 :: u7 :: some (.int v) :: t) st w) : V X kc ks pc (u0 :: u1 :: u2 :: u3 :: u4 :: u5 :: u6 :: u7 :: some (.int x) :: t) st w := by
  subst hp; intro H locs ls hw hS hl
  have hn : 8 < (u0 :: u1 :: u2 :: u3 :: u4 :: u5 :: u6 :: u7 :: some (.int x) :: t).length := by simp only [List.length_cons]; omega
  obtain ⟨k0, hk0⟩ := List.getElem?_of_mem ((lvl_mem (8, .int x) (u0 :: u1 :: u2 :: u3 :: u4 :: u5 :: u6 :: u7 :: some (.int x) :: t) 0).mpr ⟨8, rfl, rfl⟩)
  exact lv_iinc h.1 h.2.1 d hl.2 hk0 hv (by rw [← hl.1]; exact hn) rfl (fun ls1 h1 => k H locs ls1 hw hS (LV.put hl.1 hn hc h1))
theorem V.lload1 (h : Cx X cc own D mcT msT) {a : Option Value} {t : List (Option Value)} {x : Int64} (pc1 : Nat) (d : decode cc pc = .ok (.lload_n 1, 1)) (hp : pc + 1 = pc1) (k : V X kc ks pc1 (a :: some (.long x) :: t) (.long x :: st) w) : V X kc ks pc (a :: some (.long x) :: t) st w := by
  subst hp; intro H locs ls hw hS hl; exact lv_lload_n h.1 h.2.1 d rfl (hl.at rfl) (k H locs ls hw hS hl)
theorem V.getf (h : Cx X cc own D mcT msT) {C ref : String} {T : u_T} {N ci index a : Nat} {fs : List Value} {v : Value} (k : Nat) (pc1 : Nat) (d : decode cc pc = .ok (.getfield index, 3)) (hp : pc + 3 = pc1) (hin : ∀ q ∈ u_ws C T N, q ∈ GW) (hc : vwCl[ci]? = some (C, T, N)) (hk : k < N) (hl : Cond.fieldLink own index (T k).1 (T k).2.1 (T k).2.2.1 ∈ GW) (he : w.2 a = some (.inr (ci, fs))) (hv : fs[k]? = some v) (kk : V X kc ks pc1 lv (v :: st) w) : V X kc ks pc lv (.ref a :: st) w := by
  subst hp; intro H locs ls hw hS hlv
  obtain ⟨L, F, q0, hP, hD, hW, hL, hq⟩ := hw.at he
  exact va_get (T := T) h.1 h.2.1 h.2.2.2.1 hin h.2.2.1 h.2.2.2.2.1.1 hP q0 hq hc k hk (h.2.2.2.1 _ hl) (fun _ h => h) hv d (kk H locs ls hw hS hlv)
theorem V.getN (h : Cx X cc own D mcT msT) {C ref host : String} {T : u_T} {N ci index a : Nat} {fs : List Value} {v : Value} (k : Nat) (pc1 : Nat) (d : decode cc pc = .ok (.getfield index, 3)) (hp : pc + 3 = pc1) (hin : ∀ q ∈ u_ws C T N, q ∈ GW) (hc : vwCl[ci]? = some (C, T, N)) (hk : k < N) (hl : Cond.fieldLinkNest own index (T k).1 (T k).2.1 (T k).2.2.1 host ∈ lw_tbl) (he : w.2 a = some (.inr (ci, fs))) (hv : fs[k]? = some v) (kk : V X kc ks pc1 lv (v :: st) w) : V X kc ks pc lv (.ref a :: st) w := by
  subst hp; intro H locs ls hw hS hlv
  obtain ⟨L, F, q0, hP, hD, hW, hL, hq⟩ := hw.at he
  exact va_getN (T := T) h.1 h.2.1 h.2.2.2.1 hin h.2.2.1 h.2.2.2.2.1.1 hP q0 hq hc k hk (va_Nw.use rfl (h.2.2.2.2.1.2.2 _ hl rfl)) (fun _ h => h) hv d (kk H locs ls hw hS hlv)
theorem wR.upd {g : GG} {B : Nat} {w : Wd} {H H1 : Heap} (h : wR g B w H) {a : Nat} {e e1 : Ce} (ha : w.2 a = some e) (hz : H1.size = H.size) (oq : ∀ q : Nat, q ≠ a → H1[q]? = H[q]?) (hat : va_at g.1 vwCl (a, ceE g e1) H1) : wR g B (wset w a e1) H1 := by
  obtain ⟨L, F, q0, hP, hD, hW, hL, hq⟩ := h.at ha
  exact h.set hz hD hW hL ha hq (hP.set hD hq hat oq) (hD.set hq)
theorem wR.lo {g : GG} {B : Nat} {w : Wd} {H : Heap} (h : wR g B w H) {a : Nat} {e : Ce} (ha : w.2 a = some e) : B ≤ a ∧ va_at g.1 vwCl (a, ceE g e) H := by
  obtain ⟨L, F, q0, hP, hD, hW, hL, hq⟩ := h.at ha
  exact ⟨hD.2 q0 _ hq, hP q0 _ hq⟩
theorem V.putf (h : Cx X cc own D mcT msT) {C : String} {T : u_T} {N ci index a : Nat} {fs : List Value} {v : Value} {ty0 : Nat → FieldType} (k : Nat) (pc1 : Nat) (d : decode cc pc = .ok (.putfield index, 3)) (hp : pc + 3 = pc1) (hin : ∀ q ∈ u_ws C T N, q ∈ GW) (hc : vwCl[ci]? = some (C, T, N)) (hty : ∀ k, k < N → parseFieldDescriptor (T k).2.2.1 = some (ty0 k)) (hnm : ∀ a, a < N → ∀ b, b < N → a ≠ b → (T a).2.1 ≠ (T b).2.1) (hk : k < N) (hl : Cond.fieldLink own index (T k).1 (T k).2.1 (T k).2.2.1 ∈ GW) (hfin : (T k).2.2.2 = false) (hn : narrow (ty0 k) v = v) (hfit : fits (ty0 k) v = true) (he : w.2 a = some (.inr (ci, fs))) (hlen : k < fs.length) (kk : V X kc ks pc1 lv st (wset w a (.inr (ci, fs.set k v)))) : V X kc ks pc lv (v :: .ref a :: st) w := by
  subst hp; intro H locs ls hw hS hlv
  have hts := h.2.2.2.1
  have hK := h.2.2.2.2.1.1
  have hap := va_apart (own := own) hts hin ty0 hty hnm hK hc
  obtain ⟨hBa, r, h1, cell, q1, q2, q3, q4⟩ := hw.lo he
  have hr : r = (C, T, N) := Option.some.inj (h1.symm.trans hc)
  subst hr
  obtain ⟨hsl0, hfc, kC, hkC, hkind⟩ := hK.1 ci _ hc
  obtain ⟨cf, kf, fi, f, hi, hsl⟩ := hsl0 k hk
  have hlay := hts _ (hin _ (u_in_lay hk))
  unfold u_lay at hlay
  rw [if_neg (by rw [hfin]; decide)] at hlay
  have hst := (u_facts hfc hkC (u_lays hts hin hk) hi).1
  have h6 := u_store hfc hkC hkind hlay hi (hty k hk) hn hfit
  refine W.putK h.1 h.2.1 (f := f) ⟨h.2.2.1, hts _ hl, ⟨_, _, _, hi⟩, hst⟩ (by rw [q2]; exact h6) q1 q3 (by rw [hsl]; exact k2_hasslot (q4 k hk)) rfl rfl d fun H1 e1 e2 e3 => ?_
  rw [hsl] at e1 ⊢
  exact kk H1 _ ls (hw.upd he e2 e3 ⟨_, hc, t_OB.to (V := updV (vp_V fs) k v) ⟨_, e1, q2, q3, t_set q4 hap hk v⟩ (fun j _ => vp_updV_set hlen v j)⟩) (hS.put e2 e3 hBa) hlv
theorem V.putN (h : Cx X cc own D mcT msT) {C host : String} {T : u_T} {N ci index a : Nat} {fs : List Value} {v : Value} {ty0 : Nat → FieldType} (k : Nat) (pc1 : Nat) (d : decode cc pc = .ok (.putfield index, 3)) (hp : pc + 3 = pc1) (hin : ∀ q ∈ u_ws C T N, q ∈ GW) (hc : vwCl[ci]? = some (C, T, N)) (hty : ∀ k, k < N → parseFieldDescriptor (T k).2.2.1 = some (ty0 k)) (hnm : ∀ a, a < N → ∀ b, b < N → a ≠ b → (T a).2.1 ≠ (T b).2.1) (hk : k < N) (hl : Cond.fieldLinkNest own index (T k).1 (T k).2.1 (T k).2.2.1 host ∈ lw_tbl) (hfin : (T k).2.2.2 = false) (hn : narrow (ty0 k) v = v) (hfit : fits (ty0 k) v = true) (he : w.2 a = some (.inr (ci, fs))) (hlen : k < fs.length) (kk : V X kc ks pc1 lv st (wset w a (.inr (ci, fs.set k v)))) : V X kc ks pc lv (v :: .ref a :: st) w := by
  subst hp; intro H locs ls hw hS hlv
  have hts := h.2.2.2.1
  have hK := h.2.2.2.2.1.1
  have hap := va_apart (own := own) hts hin ty0 hty hnm hK hc
  obtain ⟨hBa, r, h1, cell, q1, q2, q3, q4⟩ := hw.lo he
  have hr : r = (C, T, N) := Option.some.inj (h1.symm.trans hc)
  subst hr
  obtain ⟨hsl0, hfc, kC, hkC, hkind⟩ := hK.1 ci _ hc
  obtain ⟨cf, kf, fi, f, hi, hsl⟩ := hsl0 k hk
  have hlay := hts _ (hin _ (u_in_lay hk))
  unfold u_lay at hlay
  rw [if_neg (by rw [hfin]; decide)] at hlay
  have hst := (u_facts hfc hkC (u_lays hts hin hk) hi).1
  have h6 := u_store hfc hkC hkind hlay hi (hty k hk) hn hfit
  refine va_WputK h.1 h.2.1 (f := f) h.2.2.1 (va_Nw.use rfl (h.2.2.2.2.1.2.2 _ hl rfl)) hi hst (by rw [q2]; exact h6) q1 q3 (by rw [hsl]; exact k2_hasslot (q4 k hk)) rfl rfl d fun H1 e1 e2 e3 => ?_
  rw [hsl] at e1 ⊢
  exact kk H1 _ ls (hw.upd he e2 e3 ⟨_, hc, t_OB.to (V := updV (vp_V fs) k v) ⟨_, e1, q2, q3, t_set q4 hap hk v⟩ (fun j _ => vp_updV_set hlen v j)⟩) (hS.put e2 e3 hBa) hlv
theorem V.putF (h : Cx X cc own D mcT msT) {C : String} {T : u_T} {N ci index a : Nat} {fs : List Value} {v : Value} {ty0 : Nat → FieldType} (k : Nat) (pc1 : Nat) (d : decode cc pc = .ok (.putfield index, 3)) (hp : pc + 3 = pc1) (hinit : X.meth.name = "<init>") (hin : ∀ q ∈ u_ws C T N, q ∈ GW) (hc : vwCl[ci]? = some (C, T, N)) (hty : ∀ k, k < N → parseFieldDescriptor (T k).2.2.1 = some (ty0 k)) (hnm : ∀ a, a < N → ∀ b, b < N → a ≠ b → (T a).2.1 ≠ (T b).2.1) (hk : k < N) (hl : Cond.fieldLink own index (T k).1 (T k).2.1 (T k).2.2.1 ∈ GW) (hfin : (T k).2.2.2 = true) (hdecl : (T k).1 = own) (hn : narrow (ty0 k) v = v) (hfit : fits (ty0 k) v = true) (he : w.2 a = some (.inr (ci, fs))) (hlen : k < fs.length) (kk : V X kc ks pc1 lv st (wset w a (.inr (ci, fs.set k v)))) : V X kc ks pc lv (v :: .ref a :: st) w := by
  subst hp; intro H locs ls hw hS hlv
  have hts := h.2.2.2.1
  have hK := h.2.2.2.2.1.1
  have hap := va_apart (own := own) hts hin ty0 hty hnm hK hc
  obtain ⟨hBa, r, h1, cell, q1, q2, q3, q4⟩ := hw.lo he
  have hr : r = (C, T, N) := Option.some.inj (h1.symm.trans hc)
  subst hr
  obtain ⟨hsl0, hfc, kC, hkC, hkind⟩ := hK.1 ci _ hc
  obtain ⟨cf, kf, fi, f, hi, hsl⟩ := hsl0 k hk
  have hlay := hts _ (hin _ (u_in_lay hk))
  unfold u_lay at hlay
  rw [if_pos hfin] at hlay
  have hst := (u_facts hfc hkC (u_lays hts hin hk) hi).1
  have hcf : X.m.cls = cf := by
    obtain ⟨_, _, c', _, _, _, -, -, hf', -, -, -, hown2, -⟩ := Cond.laysFinal_spec hlay
    have e1 : c' = cf := by have := hi.symm.trans hf'; simp at this; exact this.1.symm
    rw [hdecl] at hown2
    rw [← e1]; exact Option.some.inj (h.2.2.1.symm.trans hown2)
  have h6 := u_fits hfc hkC hkind (Or.inr hlay) hi (hty k hk) hn hfit
  refine W.putFinK h.1 h.2.1 h.2.2.1 (hts _ hl) hi hst hcf hinit (by rw [q2]; exact h6) q1 q3 (by rw [hsl]; exact k2_hasslot (q4 k hk)) rfl rfl d fun H1 e1 e2 e3 => ?_
  rw [hsl] at e1 ⊢
  exact kk H1 _ ls (hw.upd he e2 e3 ⟨_, hc, t_OB.to (V := updV (vp_V fs) k v) ⟨_, e1, q2, q3, t_set q4 hap hk v⟩ (fun j _ => vp_updV_set hlen v j)⟩) (hS.put e2 e3 hBa) hlv
/-! arrays -/
theorem V.iald (h : Cx X cc own D mcT msT) {a n : Nat} {f : Nat → Int32} {i : Int32} (pc1 : Nat) (d : decode cc pc = .ok (.iaload, 1)) (hp : pc + 1 = pc1) (he : w.2 a = some (.inl (0, n, .inl f))) (hin : vp_in i n) (kk : V X kc ks pc1 lv (.int (f i.toNatClampNeg) :: st) w) : V X kc ks pc lv (.int i :: .ref a :: st) w := by
  subst hp; intro H locs ls hw hS hlv
  obtain ⟨L, F, q0, hP, hD, hW, hL, hq⟩ := hw.at he
  exact va_iald h.1 h.2.1 h.2.2.2.2.1.1 hP q0 0 hq rfl hin d (kk H locs ls hw hS hlv)
theorem V.cald (h : Cx X cc own D mcT msT) {a n : Nat} {f : Nat → Int32} {i : Int32} (pc1 : Nat) (d : decode cc pc = .ok (.caload, 1)) (hp : pc + 1 = pc1) (he : w.2 a = some (.inl (2, n, .inl f))) (hin : vp_in i n) (kk : V X kc ks pc1 lv (.int (f i.toNatClampNeg) :: st) w) : V X kc ks pc lv (.int i :: .ref a :: st) w := by
  subst hp; intro H locs ls hw hS hlv
  obtain ⟨L, F, q0, hP, hD, hW, hL, hq⟩ := hw.at he
  exact va_cald h.1 h.2.1 h.2.2.2.2.1.1 hP q0 2 hq rfl hin d (kk H locs ls hw hS hlv)
theorem V.lald (h : Cx X cc own D mcT msT) {a n : Nat} {f : Nat → Int64} {i : Int32} (pc1 : Nat) (d : decode cc pc = .ok (.laload, 1)) (hp : pc + 1 = pc1) (he : w.2 a = some (.inl (1, n, .inr (.inl f)))) (hin : vp_in i n) (kk : V X kc ks pc1 lv (.long (f i.toNatClampNeg) :: st) w) : V X kc ks pc lv (.int i :: .ref a :: st) w := by
  subst hp; intro H locs ls hw hS hlv
  obtain ⟨L, F, q0, hP, hD, hW, hL, hq⟩ := hw.at he
  exact va_lald h.1 h.2.1 h.2.2.2.2.1.1 hP q0 1 hq rfl hin d (kk H locs ls hw hS hlv)
theorem V.aald (h : Cx X cc own D mcT msT) {a n : Nat} {f : Nat → Option Nat} {i : Int32} (pc1 : Nat) (d : decode cc pc = .ok (.aaload, 1)) (hp : pc + 1 = pc1) (he : w.2 a = some (.inl (3, n, .inr (.inr (.inr (.inr f)))))) (hin : vp_in i n) (kk : V X kc ks pc1 lv (va_rf (f i.toNatClampNeg) :: st) w) : V X kc ks pc lv (.int i :: .ref a :: st) w := by
  subst hp; intro H locs ls hw hS hlv
  obtain ⟨L, F, q0, hP, hD, hW, hL, hq⟩ := hw.at he
  exact va_aldq h.1 h.2.1 h.2.2.2.2.1.1 hP q0 3 hq rfl hin d (kk H locs ls hw hS hlv)
theorem V.iast (h : Cx X cc own D mcT msT) {a n : Nat} {f : Nat → Int32} {i x : Int32} (pc1 : Nat) (d : decode cc pc = .ok (.iastore, 1)) (hp : pc + 1 = pc1) (he : w.2 a = some (.inl (0, n, .inl f))) (hin : vp_in i n) (kk : V X kc ks pc1 lv st (wset w a (.inl (0, n, .inl (upd f i.toNatClampNeg x))))) : V X kc ks pc lv (.int x :: .int i :: .ref a :: st) w := by
  subst hp; intro H locs ls hw hS hlv
  obtain ⟨hBa, hat⟩ := hw.lo he
  refine W.iast h.1 h.2.1 hat ((h.2.2.2.2.1.1.2 0 _ rfl).1 n (fun j => .int (f j))) (fun q => by cases q) (by show ¬ (i < 0 ∨ (arrV _ _ _).slots.size ≤ _); rw [arrV_size]; exact hin) rfl rfl d fun H1 e z oq => ?_
  refine kk H1 _ ls (hw.upd he z oq ?_) (hS.put z oq hBa) hlv
  show H1[a]? = some (vp_cell _ _)
  rw [e]
  show some ((vp_cell _ _).setSlot _ _) = _
  rw [vp_cell_i, vp_cell_i, arrV_store]
  congr 2
  funext q
  by_cases hq : q = i.toNatClampNeg
  · subst hq
    simp [updV, upd]
  · simp [updV, upd, hq]
theorem V.cast (h : Cx X cc own D mcT msT) {a n : Nat} {f : Nat → Int32} {i x : Int32} (pc1 : Nat) (d : decode cc pc = .ok (.castore, 1)) (hp : pc + 1 = pc1) (he : w.2 a = some (.inl (2, n, .inl f))) (hin : vp_in i n) (kk : V X kc ks pc1 lv st (wset w a (.inl (2, n, .inl (upd f i.toNatClampNeg (vp_nar .char x)))))) : V X kc ks pc lv (.int x :: .int i :: .ref a :: st) w := by
  subst hp; intro H locs ls hw hS hlv
  obtain ⟨hBa, hat⟩ := hw.lo he
  refine W.cast h.1 h.2.1 hat ((h.2.2.2.2.1.1.2 2 _ rfl).1 n (fun j => .int (f j))) (fun q => by cases q) (by show ¬ (i < 0 ∨ (arrV _ _ _).slots.size ≤ _); rw [arrV_size]; exact hin) rfl rfl d fun H1 e z oq => ?_
  refine kk H1 _ ls (hw.upd he z oq ?_) (hS.put z oq hBa) hlv
  show H1[a]? = some (vp_cell _ _)
  rw [e]
  show some ((vp_cell _ _).setSlot _ _) = _
  rw [vp_cell_i, vp_cell_i, arrV_store]
  congr 2
  funext q
  by_cases hq : q = i.toNatClampNeg
  · subst hq
    simp [updV, upd, vp_nar]
    try rfl
  · simp [updV, upd, hq]
theorem V.last (h : Cx X cc own D mcT msT) {a n : Nat} {f : Nat → Int64} {i : Int32} {x : Int64} (pc1 : Nat) (d : decode cc pc = .ok (.lastore, 1)) (hp : pc + 1 = pc1) (he : w.2 a = some (.inl (1, n, .inr (.inl f)))) (hin : vp_in i n) (kk : V X kc ks pc1 lv st (wset w a (.inl (1, n, .inr (.inl (va_up f i.toNatClampNeg x)))))) : V X kc ks pc lv (.long x :: .int i :: .ref a :: st) w := by
  subst hp; intro H locs ls hw hS hlv
  obtain ⟨hBa, hat⟩ := hw.lo he
  refine W.last h.1 h.2.1 hat ((h.2.2.2.2.1.1.2 1 _ rfl).1 n (fun j => .long (f j))) (fun q => by cases q) (by show ¬ (i < 0 ∨ (arrV _ _ _).slots.size ≤ _); rw [arrV_size]; exact hin) rfl rfl d fun H1 e z oq => ?_
  refine kk H1 _ ls (hw.upd he z oq ?_) (hS.put z oq hBa) hlv
  show H1[a]? = some (vp_cell _ _)
  rw [e]
  show some ((vp_cell _ _).setSlot _ _) = _
  rw [vp_cell_l, vp_cell_l, arrV_store]
  congr 2
  funext q
  by_cases hq : q = i.toNatClampNeg
  · subst hq
    simp [updV, va_up]
  · simp [updV, va_up, hq]
theorem V.aast (h : Cx X cc own D mcT msT) {a n v ci : Nat} {r : vw_C} {vs : List Value} {f : Nat → Option Nat} {i : Int32} (pc1 : Nat) (d : decode cc pc = .ok (.aastore, 1)) (hp : pc + 1 = pc1) (he : w.2 a = some (.inl (3, n, .inr (.inr (.inr (.inr f)))))) (hv : w.2 v = some (.inr (ci, vs))) (hc : vwCl[ci]? = some r) (hr : r.1 = RX2) (hin : vp_in i n) (kk : V X kc ks pc1 lv st (wset w a (.inl (3, n, .inr (.inr (.inr (.inr (va_up f i.toNatClampNeg (some v)))))))) ) : V X kc ks pc lv (.ref v :: .int i :: .ref a :: st) w := by
  subst hp; intro H locs ls hw hS hlv
  obtain ⟨hBa, hat⟩ := hw.lo he
  obtain ⟨-, r', hr', cellV, g1, g2, g3, -⟩ := hw.lo hv
  have hlt : i.toNatClampNeg < n := Nat.not_le.mp fun q => hin (Or.inr q)
  have h0 : ¬ i < 0 := fun q => hin (Or.inl q)
  have hK := h.2.2.2.2.1.1
  have hcls := (hK.1 ci r hc).2
  obtain ⟨kA, comp, k1, k2, k3, -⟩ := (hK.2 3 _ rfl).2
  rw [hr] at hcls
  have hcomp : comp = X.g.1.1 ci := Option.some.inj (k3.symm.trans hcls.1)
  subst hcomp
  obtain ⟨kC, hkC, -⟩ := hcls.2
  refine W.aast h.1 h.2.1 hat (fun q h => by cases h) (fun h => by cases h) k1 k2 rfl hkC ⟨h0, by show _ < (arrV _ _ _).slots.size; rw [arrV_size]; exact hlt⟩ g1 (fun q h => by rw [g3] at h; cases h) (by rw [g2]; exact hkC) (by rw [g2]; exact va_assign hcls) rfl rfl d fun H1 e z oq => ?_
  refine kk H1 _ ls (hw.upd he z oq ?_) (hS.put z oq hBa) hlv
  show H1[a]? = some (vp_cell _ _)
  rw [e]
  show some ((vp_cell _ _).setSlot _ _) = _
  rw [vp_cell_q, vp_cell_q, arrV_store]
  congr 2
  funext q
  by_cases hq : q = i.toNatClampNeg
  · subst hq
    simp [updV, va_up, va_rf]
  · simp [updV, va_up, hq]
theorem V.copyi (h : Cx X cc own D mcT msT) {a0 a1 n0 n1 index : Nat} {f g : Nat → Int32} {n : Int32} (N : Nat) (pc1 : Nat) (d : decode cc pc = .ok (.invokestatic index, 3)) (hp : pc + 3 = pc1) (hl : Cond.methodLink own index arraycopyName ∈ GW) (he0 : w.2 a0 = some (.inl (0, n0, .inl f))) (he1 : w.2 a1 = some (.inl (0, n1, .inl g))) (h3 : ¬ n < 0) (hN : n.toNatClampNeg = N) (h4 : N ≤ n0) (h5 : N ≤ n1) (hD : 1 ≤ D) (hst : (st.map fun v => v.category).sum ≤ 2) (kk : V X kc ks pc1 lv st (wset w a1 (.inl (0, n1, .inl (va_cpy f g 0 0 N))))) : V X kc ks pc lv (.int n :: .int 0 :: .ref a1 :: .int 0 :: .ref a0 :: st) w := by
  subst hp; subst hN; intro H locs ls hw hS hlv
  have hts := h.2.2.2.1
  have hK := h.2.2.2.2.1.1
  intro T hT Y
  obtain ⟨-, hc0⟩ := hw.lo he0
  obtain ⟨hBa, hc1⟩ := hw.lo he1
  have hc0 : H[a0]? = some (vp_cell (X.g.2 0) (n0, .inl f)) := hc0
  have hc1 : H[a1]? = some (vp_cell (X.g.2 0) (n1, .inl g)) := hc1
  obtain ⟨-, k0, hk0, cm0, hkk0⟩ := (hK.2 0 _ rfl).1 n0 (fun j => .int (f j))
  obtain ⟨-, k1, hk1, cm1, hkk1⟩ := (hK.2 0 _ rfl).1 n1 (fun j => .int (g j))
  have nn : n.toInt = (n.toNatClampNeg : Int) := by
    have hz0 : (0 : Int) ≤ n.toInt := by
      have := Int32.not_lt.mp h3
      simpa using Int32.le_iff_toInt_le.mp this
    show n.toInt = ((n.toInt.toNat : Nat) : Int)
    omega
  have z0 : (0 : Int32).toNatClampNeg = 0 := rfl
  obtain ⟨vm', X', step⟩ := Y.arraycopy h.1 h.2.2.1 (hts _ hl) (hts _ k237) (hts _ k236) (hts _ k7) (src := a0) (dst := a1) (cs := vp_cell (X.g.2 0) (n0, .inl f)) (cd := vp_cell (X.g.2 0) (n1, .inl g)) (srcPos := 0) (destPos := 0) (n := n) (by rw [hT]; exact hc0) (by rw [hT]; exact hc1)
    (fun _ h => by cases h) (fun _ h => by cases h) (fun h => by cases h) (fun h => by cases h) hk0 hk1 hkk0 hkk1 (by simp [refKind]) (by decide) (by decide) h3
    (by rw [nn]; show ¬ _ > ((arrV _ n0 (fun j => .int (f j))).slots.size : Int); rw [arrV_size]; simp; omega)
    (by rw [nn]; show ¬ _ > ((arrV _ n1 (fun j => .int (g j))).slots.size : Int); rw [arrV_size]; simp; omega)
    (fun vm₁ _ i hi => by
      have e : (vp_cell (X.g.2 0) (n0, .inl f)).slots.getD ((0 : Int32).toNatClampNeg + i) .null = .int (f ((0 : Int32).toNatClampNeg + i)) := by
        show (arrV _ n0 (fun j => .int (f j))).slots.getD _ _ = _
        rw [Array.getD_eq_getD_getElem?, arrV_read _ _ (by rw [z0]; omega)]
        rfl
      refine ⟨?_, ?_⟩
      · rw [e]
        rfl
      · rw [e]
        exact trivial)
    (g := F0 X.m pc ls (.int n :: .int 0 :: .ref a1 :: .int 0 :: .ref a0 :: st)) rfl (by rw [hlv.2.1]) (rest := st) rfl (by rw [h.2.1]; exact d) (by have := h.2.2.2.2.2.2.1; omega) (by
      have h8 := h.2.2.2.2.2.2.2.1
      have h9 : nativeFrameWords "java/lang/System" "arraycopy" 5 + 11 ≤ 37 := by decide
      show 2 * 0 + _ + _ ≤ _
      omega)
  have e1 : copied (vp_cell (X.g.2 0) (n0, .inl f)) (vp_cell (X.g.2 0) (n1, .inl g)) 0 0 n = vp_cell (X.g.2 0) (n1, .inl (va_cpy f g 0 0 n.toNatClampNeg)) := va_copied (sp := 0) (dp := 0) (fun z => .int z) (X.g.2 0) (X.g.2 0) f g (show 0 + n.toNatClampNeg ≤ n0 by omega)
  rw [e1] at X' step
  have hl1 : a1 < H.size := (Array.getElem?_eq_some_iff.mp hc1).1
  have hheap : ((T.setVm vm').setCell a1 (vp_cell (X.g.2 0) (n1, .inl (va_cpy f g 0 0 n.toNatClampNeg)))).heap = H.setIfInBounds a1 (vp_cell (X.g.2 0) (n1, .inl (va_cpy f g 0 0 n.toNatClampNeg))) := by rw [← hT]; rfl
  have oq : ∀ q : Nat, q ≠ a1 → (H.setIfInBounds a1 (vp_cell (X.g.2 0) (n1, .inl (va_cpy f g 0 0 n.toNatClampNeg))))[q]? = H[q]? := fun q hq => by simp [Array.getElem?_setIfInBounds, Ne.symm hq]
  obtain ⟨t, a2, b2⟩ := kk _ _ ls (hw.upd (e1 := .inl (0, n1, .inl (va_cpy f g 0 0 n.toNatClampNeg))) he1 (by simp) oq (show (H.setIfInBounds a1 _)[a1]? = some _ by simp [Array.getElem?_setIfInBounds, hl1])) ⟨by simp; exact hS.1, fun q g1 g2 => by
      rw [oq q (fun e => g2 (by rw [e]; exact hBa))]
      exact hS.2.1 q g1 g2, fun q hq => by
      rcases List.mem_append.mp hq with h | h
      · exact hS.2.2 q h
      · obtain ⟨z, -, hz⟩ := List.mem_map.mp h
        rw [← hz]
        exact hBa⟩ hlv _ hheap X'
  exact ⟨t, step t a2, b2⟩
/-! making -/
theorem V.newa (h : Cx X cc own D mcT msT) {atype : ArrayType} {n : Int32} (t N : Nat) (a0 : vp_A) (pc1 : Nat) (d : decode cc pc = .ok (.newarray atype, 2)) (hp : pc + 2 = pc1) (harr : Cond.arrayClass (newarray.typeOf atype) ∈ GW) (ht : ∀ g : GG, (tysG g)[t]? = some (g.2 t, newarray.typeOf atype)) (hRA : ∀ U cA, va_RA U cA (newarray.typeOf atype) = (U.vm.findClass ("[" ++ (newarray.typeOf atype).toString) = some cA)) (ha : ∀ cA : ClassId, vp_cell cA a0 = arrV cA N (fun _ => defaultValue (newarray.typeOf atype))) (hn : ¬ n < 0) (hN : n.toNatClampNeg = N) (hby : N * componentBytes (newarray.typeOf atype) ≤ 536870912) (hkc : kc + 1 ≤ mcT) (hks : ks + N ≤ msT) (kk : V X (kc + 1) (ks + N) pc1 lv (.ref w.1 :: st) (wnew w (.inl (t, a0)))) : V X kc ks pc lv (.int n :: st) w := by
  subst hp; intro H locs ls hw hS hlv
  refine va_newaK h.1 h.2.1 (h.2.2.2.1 _ harr) rfl d rfl hn hN hby (Nat.le_trans hkc h.2.2.2.2.2.2.2.2.1) (Nat.le_trans hks h.2.2.2.2.2.2.2.2.2) (h := w.1) hw.1 fun H1 cA e1 z1 o1 hAr hNm => ?_
  have hcA : X.g.2 t = cA := by
    have h5 := (h.2.2.2.2.1.1.2 t _ (ht X.g)).2
    rw [hRA] at h5
    exact Option.some.inj (h5.symm.trans hNm)
  obtain ⟨hz, hB, L, F, hP, hD, hW⟩ := id hw
  rw [← hz] at e1 z1 o1
  have hk : ∀ (k : Nat) (x : Nat × va_E), (va_pl L F)[k]? = some x → H1[x.1]? = H[x.1]? := fun k x hx => o1 x.1 ((hP k x hx).lt)
  refine kk H1 _ ls (hw.push z1 hP hW (e1 := .inl (t, a0)) ((hP.kept hk).app (fun k x hx => ?_)) (hD.push hP rfl (hB))) ⟨Nat.le_trans hS.1 (by omega), fun x h1 h2 => (o1 x (Nat.lt_of_lt_of_le h1 hS.1)).trans (hS.2.1 x h1 h2), hS.2.2⟩ hlv
  have hz2 : k < 1 := (List.getElem?_eq_some_iff.mp hx).1
  rw [show k = 0 by omega] at hx
  cases hx
  show H1[H.size]? = some (vp_cell _ _)
  rw [ha, e1]
  show _ = some (arrV (X.g.2 t) _ _)
  rw [hcA]
theorem V.new (h : Cx X cc own D mcT msT) {C : String} {T : u_T} {N ci index : Nat} {ty : Nat → FieldType} (fs : List Value) (pc1 : Nat) (d : decode cc pc = .ok (.new index, 3)) (hp : pc + 3 = pc1) (hin : ∀ q ∈ u_ws C T N, q ∈ GW) (hc : vwCl[ci]? = some (C, T, N)) (hty : ∀ k, k < N → parseFieldDescriptor (T k).2.2.1 = some (ty k)) (hcl : Cond.classLink own index C ∈ GW) (hinst : Cond.instantiable C N ∈ GW) (hini : Cond.initialized C ∈ GW) (hfs : ∀ j, j < N → defaultValue (ty j) = vp_V fs j) (hkc : kc + 1 ≤ mcT) (hks : ks + N ≤ msT) (kk : V X (kc + 1) (ks + N) pc1 lv (.ref w.1 :: st) (wnew w (.inr (ci, fs)))) : V X kc ks pc lv st w := by
  subst hp; intro H locs ls hw hS hlv
  have hts := h.2.2.2.1
  have hKn := h.2.2.2.2.1.1.1 ci _ hc
  refine W.newcK h.1 h.2.1 h.2.2.1 (hts _ hcl) (hts _ hinst) (hts _ hini) rfl d (Nat.le_trans hkc h.2.2.2.2.2.2.2.2.1) (Nat.le_trans hks h.2.2.2.2.2.2.2.2.2) hKn.2.1 (h := w.1) hw.1 fun H1 kC hkC e1 z1 o1 => ?_
  obtain ⟨hz, hB, L, F, hP, hD, hW⟩ := id hw
  rw [← hz] at e1 z1 o1
  have hk : ∀ (k : Nat) (x : Nat × va_E), (va_pl L F)[k]? = some x → H1[x.1]? = H[x.1]? := fun k x hx => o1 x.1 ((hP k x hx).lt)
  refine kk H1 _ ls (hw.push z1 hP hW (e1 := .inr (ci, fs)) ((hP.kept hk).app (fun k x hx => ?_)) (hD.push hP rfl (hB))) ⟨Nat.le_trans hS.1 (by omega), fun x h1 h2 => (o1 x (Nat.lt_of_lt_of_le h1 hS.1)).trans (hS.2.1 x h1 h2), hS.2.2⟩ hlv
  have hz2 : k < 1 := (List.getElem?_eq_some_iff.mp hx).1
  rw [show k = 0 by omega] at hx
  cases hx
  exact ⟨_, hc, (u_born ty hts hin hKn hkC e1 hty).to hfs⟩
theorem V.anew (h : Cx X cc own D mcT msT) {index : Nat} {n : Int32} (N : Nat) (pc1 : Nat) (d : decode cc pc = .ok (.anewarray index, 3)) (hp : pc + 3 = pc1) (hcl : Cond.classLink own index RX2 ∈ GW) (hn : ¬ n < 0) (hN : n.toNatClampNeg = N) (hby : N * 4 ≤ 536870912) (hkc : kc + 1 ≤ mcT) (hks : ks + N ≤ msT) (kk : V X (kc + 1) (ks + N) pc1 lv (.ref w.1 :: st) (wnew w (.inl (3, N, .inr (.inr (.inr (.inr (fun _ => none)))))))) : V X kc ks pc lv (.int n :: st) w := by
  subst hp; subst hN; intro H locs ls hw hS hlv
  refine W.anew h.1 h.2.1 h.2.2.1 (h.2.2.2.1 _ hcl) (va_AO.use h.2.2.2.2.1.2.1) rfl d rfl hn hby (Nat.le_trans hkc h.2.2.2.2.2.2.2.2.1) (Nat.le_trans hks h.2.2.2.2.2.2.2.2.2) fun cA kA comp f1 f2 f3 f4 => ?_
  have hcA : X.g.2 3 = cA := by
    obtain ⟨kA', comp', k1, k2, k3, k4⟩ := (h.2.2.2.2.1.1.2 3 _ rfl).2
    exact Option.some.inj (k4.symm.trans f1)
  generalize hH1 : H.push ({ cls := cA, slots := Array.replicate n.toNatClampNeg .null, vm := .none } : Cell) = H1
  have z1 : H1.size = H.size + 1 := by rw [← hH1, Array.size_push]
  have e1 : H1[H.size]? = some (arrV cA n.toNatClampNeg (fun _ => .null)) := by rw [← hH1, Array.getElem?_push_size, ← arrV_new]
  have o1 : ∀ q : Nat, q < H.size → H1[q]? = H[q]? := fun q hq => by rw [← hH1, Array.getElem?_push, if_neg (Nat.ne_of_lt hq)]
  obtain ⟨hz, hB, L, F, hP, hD, hW⟩ := id hw
  have hk : ∀ (k : Nat) (x : Nat × va_E), (va_pl L F)[k]? = some x → H1[x.1]? = H[x.1]? := fun k x hx => o1 x.1 ((hP k x hx).lt)
  rw [hz]
  refine kk H1 _ ls (hw.push z1 hP hW (e1 := .inl (3, n.toNatClampNeg, .inr (.inr (.inr (.inr (fun _ => none)))))) ((hP.kept hk).app (fun k x hx => ?_)) (hD.push hP rfl (hB))) ⟨Nat.le_trans hS.1 (by omega), fun x h1 h2 => (o1 x (Nat.lt_of_lt_of_le h1 hS.1)).trans (hS.2.1 x h1 h2), hS.2.2⟩ hlv
  have hz2 : k < 1 := (List.getElem?_eq_some_iff.mp hx).1
  rw [show k = 0 by omega] at hx
  cases hx
  show H1[H.size]? = some (vp_cell _ _)
  rw [e1]
  show _ = some (vp_cell (X.g.2 3) _)
  rw [hcA, vp_cell_q]
  rfl
end VR
end
section
/-! contracts: from the world w with these arguments method y comes back; what comes and the world then are told by Q -/
def rmd (D mc ms : Nat) : Room := { frames := D, cells := mc, slots := ms, locals := 39 * D }
def QV (Q : Option Value → Wd → Prop) (g : GG) (B : Nat) : Array Value → State → Outcome → State → Prop := fun _ st oc t => (∃ (v : Option Value) (w : Wd), oc = .returned v ∧ Q v w ∧ wR g B w t.heap) ∧ va_F (fun q => B ≤ q) st t
def PV (args : List Value) (w : Wd) (g : GG) (B : Nat) : Array Value → State → Prop := va_Pc args (fun U => kK g U ∧ wR g B w U.heap)
def Con (y : MethodName) (cc : ByteArray) (mL : Nat) (rt : Option FieldType) (D mc ms : Nat) (args : List Value) (w : Wd) (Q : Option Value → Wd → Prop) : Prop :=
  ∀ (l : Launch) (g : GG) (B : Nat), Met l y (.code y cc mL rt :: GW) (rmd D mc ms) (PV args w g B) (QV Q g B) mc ms (fun q => B ≤ q)
def Rx (X : CX) (rt : Option FieldType) (Q : Option Value → Wd → Prop) (mc ms : Nat) : Prop := X.Q = MQ X.below (QV Q X.g X.B) X.args X.s mc ms (fun q => X.B ≤ q) ∧ X.meth.sig.returnType = rt ∧ X.meth.locks = false
theorem Con.mk {y : MethodName} {cc : ByteArray} {mL : Nat} {rt : Option FieldType} {D mc ms : Nat} {args : List Value} {w : Wd} {Q : Option Value → Wd → Prop} (lv : List (Option Value)) (hy : plainName y.cls = true) (hlv : lvl 0 lv = lv_args 0 args) (hlen : lv.length = mL) (hsl : (lg_sl args).length ≤ mL)
    (body : ∀ X : CX, Cx X cc y.cls D mc ms → Rx X rt Q mc ms → X.meth.name = y.name → V X 0 0 0 lv [] w) : Con y cc mL rt D mc ms args w Q := by
  intro l g B
  refine Met.ofW (cc := cc) (maxL := mL) (ret := rt) hy rfl ?_
  intro p e s m args' below meth c s₁ Bd hml hv
  obtain ⟨rfl, hK, hw⟩ := hv
  have hts := atoms_spec (ws := _) Bd.pre
  have hl := lv_entry args (n := mL) hsl
  rw [lg_entry_eq]
  exact body (p, l, e, rmd D mc ms, s, m, args.toArray, below, meth, c, g, B, MQ below (QV Q g B) args.toArray s mc ms (fun q => B ≤ q))
    ⟨Bd.exec, Bd.bytes, findClass_of_methodNamed Bd.named, fun q hq => hts q (List.mem_cons_of_mem _ hq), hK, hw.2.1, Nat.le_refl _, Nat.le_refl _, Nat.le_refl _, Nat.le_refl _⟩
    ⟨rfl, Bd.returns, Bd.notSynchronized⟩ (name_of_methodNamed Bd.named Bd.method).1 s.heap [] _ hw va_S.rf ⟨by rw [hlen]; exact hml.symm, by rw [hlv]; show lv_has _ c.maxLocals _; rw [hml]; exact hl⟩
theorem Con.weaken {y : MethodName} {cc : ByteArray} {mL : Nat} {rt : Option FieldType} {D mc ms : Nat} {args : List Value} {w : Wd} {Q Q' : Option Value → Wd → Prop} (h : Con y cc mL rt D mc ms args w Q) (hq : ∀ v w', Q v w' → Q' v w') : Con y cc mL rt D mc ms args w Q' := by
  intro l g B p e ha hc hk s m args' below hf
  intro hap hP hT
  obtain ⟨k, o, h1, h2, h3, ⟨⟨⟨v, w1, e1, e2, e3⟩, e4⟩, h5⟩⟩ := h l g B p e ha hc hk s m args' below hf hap hP hT
  exact ⟨k, o, h1, h2, h3, ⟨⟨⟨v, w1, e1, hq _ _ e2, e3⟩, e4⟩, h5⟩⟩
theorem gw_good {ws : List Cond} (hw : ∀ w ∈ ws, w ∈ GW) : GoodIn GW ws := fun w h => ⟨hw w h, good_of_word (List.mem_filter.mp (hw w h)).2⟩
theorem PV.blind {args : List Value} {w : Wd} {g : GG} {B : Nat} : FrameBlind (PV args w g B) := fun a U g mk q => ⟨q.1, kK.same (s := U) (U := U.calling g mk a) rfl q.2.1, q.2.2⟩
section VC
variable {X : CX} {cc : ByteArray} {own : String} {D mcT msT kc ks pc : Nat} {lv : List (Option Value)} {st : List Value} {w : Wd}
theorem V.iret {Q : Option Value → Wd → Prop} (h : Cx X cc own D mcT msT) (hR : Rx X (some .int) Q kc ks) {x : Int32} (d : decode cc pc = .ok (.ireturn, 1)) (hq : Q (some (.int x)) w) : V X kc ks pc lv [.int x] w := by
  intro H locs ls hw hS hl
  rw [hR.1]
  exact W.iret (hlocks := hR.2.2) h.1 h.2.1 hR.2.1 (fun t ht hW => ⟨⟨_, w, rfl, hq, by rw [ht]; exact hw⟩, hS.F ht⟩) hS.2.2 d
theorem V.zret {Q : Option Value → Wd → Prop} {ty : FieldType} (h : Cx X cc own D mcT msT) (hR : Rx X (some ty) Q kc ks) {x : Int32} (hn : narrow ty (.int x) = .int x) (d : decode cc pc = .ok (.ireturn, 1)) (hq : Q (some (.int x)) w) : V X kc ks pc lv [.int x] w := by
  intro H locs ls hw hS hl
  rw [hR.1]
  exact W.zret (hlocks := hR.2.2) h.1 h.2.1 hR.2.1 hn (fun t ht hW => ⟨⟨_, w, rfl, hq, by rw [ht]; exact hw⟩, hS.F ht⟩) hS.2.2 d
theorem V.lret {Q : Option Value → Wd → Prop} (h : Cx X cc own D mcT msT) (hR : Rx X (some .long) Q kc ks) {x : Int64} (d : decode cc pc = .ok (.lreturn, 1)) (hq : Q (some (.long x)) w) : V X kc ks pc lv [.long x] w := by
  intro H locs ls hw hS hl
  rw [hR.1]
  exact W.lret (hlocks := hR.2.2) h.1 h.2.1 hR.2.1 (fun t ht hW => ⟨⟨_, w, rfl, hq, by rw [ht]; exact hw⟩, hS.F ht⟩) hS.2.2 d
theorem V.vret {Q : Option Value → Wd → Prop} (h : Cx X cc own D mcT msT) (hR : Rx X none Q kc ks) (d : decode cc pc = .ok (.return_, 1)) (hq : Q none w) : V X kc ks pc lv [] w := by
  intro H locs ls hw hS hl
  rw [hR.1]
  exact W.vret (hlocks := hR.2.2) h.1 h.2.1 hR.2.1 (fun t ht hW => ⟨⟨_, w, rfl, hq, by rw [ht]; exact hw⟩, hS.F ht⟩) hS.2.2 d
/-- behind a call -/
theorem V.back {Q : Option Value → Wd → Prop} {mc ms : Nat} {a : Array Value} {H : Heap} {locs : List Loc} {ls : Array Slot} {st0 : List Value} {pc1 : Nat} (hp : pc + 3 = pc1)
    (hr : va_Run X.p X.l X.e X.R X.s X.m X.args X.below X.meth X.c H locs kc ks mc ms (F0 X.m pc ls st0) st (QV Q X.g X.B a) (fun q => X.B ≤ q)) (hS : va_S (fun q => X.B ≤ q) X.s.heap H locs) (hl : LV ls X.c.maxLocals lv)
    (k : ∀ v w1, Q v w1 → V X (kc + mc) (ks + ms) pc1 lv (v.toList ++ st) w1) : W X.p X.l X.e X.R X.s X.m X.args X.below X.meth X.c H locs kc ks X.Q (F0 X.m pc ls st0) := by
  subst hp
  intro T hT Y
  obtain ⟨v, st₀, t, T', L, h0, X', hL, e1, e2, ⟨⟨v', w1, hv, hQ, hw1⟩, hz, hk⟩, stp⟩ := hr T hT Y
  cases hv
  rw [h0] at hz hk
  obtain ⟨t2, a1, b1⟩ := k v w1 hQ T'.heap (locs ++ L) ls (by rw [e1]; exact hw1)
    ⟨Nat.le_trans hS.1 (by rw [e1]; exact hz), fun q h1 h2 => by rw [e1, hk q (Nat.lt_of_lt_of_le h1 hS.1) h2]; exact hS.2.1 q h1 h2, fun q hq => by
      rcases List.mem_append.mp hq with h | h
      · exact hS.2.2 q h
      · exact hL q h⟩ hl T' rfl X'
  exact ⟨t2, stp t2 a1, b1⟩
theorem V.callV {y : MethodName} {cy : ByteArray} {mL dd mc ms index b ci : Nat} {rt : Option FieldType} {As : List Value} {Q : Option Value → Wd → Prop} {st0 : List Value} {fs : List Value} {q : vw_C} (h : Cx X cc own D mcT msT) (pc1 : Nat) (d : decode cc pc = .ok (.invokevirtual index, 3)) (hp : pc + 3 = pc1)
    (hcode : Cond.code y cy mL rt ∈ GW) (hlink : Cond.methodLink own index y ∈ GW) (hinst : Cond.instanceMethod y ∈ GW) (hsel : Cond.selects y.cls y y ∈ GW) (hini : Cond.initialized y.cls ∈ GW)
    (hd : y.cls ≠ "java/lang/invoke/MethodHandle" ∧ y.cls ≠ "java/lang/invoke/VarHandle" ∧ (parseMethodDescriptor y.desc).map (fun d => d.parameters.length) = some As.length)
    (hroom : dd + 1 ≤ D ∧ mL ≤ 20 ∧ kc + mc ≤ mcT ∧ ks + ms ≤ msT) (hq : vwCl[ci]? = some q) (hqc : q.1 = y.cls) (hb : w.2 b = some (.inr (ci, fs))) (hcat : (st.map fun v => v.category).sum ≤ 8) (hC : Con y cy mL rt dd mc ms (.ref b :: As) w Q)
    (hst : st0 = As.reverse ++ .ref b :: st)
    (k : ∀ v w1, Q v w1 → V X (kc + mc) (ks + ms) pc1 lv (v.toList ++ st) w1) : V X kc ks pc lv st0 w := by
  subst hst; intro H locs ls hw hS hl
  have hts := h.2.2.2.1
  have hG : GoodIn GW (wsV own index y.cls y (.code y cy mL rt :: GW)) := gw_good (fun x hx => by
    simp only [wsV, List.mem_append, List.mem_cons, List.not_mem_nil, or_false] at hx
    rcases hx with (rfl | rfl | rfl | rfl) | rfl | hx
    · exact hlink
    · exact hinst
    · exact hsel
    · exact hini
    · exact hcode
    · exact hx)
  have hR1 := h.2.2.2.2.2.2.1
  have hR2 := h.2.2.2.2.2.2.2.1
  have cw : CallW X.R X.s X.args own y.cls index y cy mL rt (.code y cy mL rt :: GW) (rmd dd mc ms) mc ms As.length := cwV As.length hts hG rfl rfl rfl ⟨rfl, hd⟩ ⟨by show dd + 1 ≤ _; omega, by show 8 + (mL + 11) + 39 * dd ≤ _; omega⟩
  obtain ⟨L, F, q0, hP, hD, hW, hL, hq0⟩ := hw.at hb
  have hrc := va_recv h.2.2.2.2.1.1 hP hq hq0
  rw [hqc] at hrc
  exact V.back hp (va_runV (As := As) (rest := st) ⟨h.1, h.2.1, rfl, h.2.2.1, hts⟩ (hC X.l X.g X.B) cw ⟨PV.blind, hrc, fun U hU hW => ⟨rfl, kK.moved hW h.2.2.2.2.1, by rw [hU]; exact hw⟩⟩ rfl rfl hl.2.1 rfl (lv_room hcat) d ⟨Nat.le_trans hroom.2.2.1 h.2.2.2.2.2.2.2.2.1, Nat.le_trans hroom.2.2.2 h.2.2.2.2.2.2.2.2.2⟩) hS hl k
theorem V.callN {y : MethodName} {cy : ByteArray} {mL dd mc ms index b ci : Nat} {host : String} {rt : Option FieldType} {As : List Value} {Q : Option Value → Wd → Prop} {st0 : List Value} {fs : List Value} {q : vw_C} (h : Cx X cc own D mcT msT) (pc1 : Nat) (d : decode cc pc = .ok (.invokevirtual index, 3)) (hp : pc + 3 = pc1)
    (hcode : Cond.code y cy mL rt ∈ GW) (hlink : Cond.methodLinkNest own index y host ∈ lw_tbl) (hinst : Cond.instanceMethod y ∈ GW) (hsel : Cond.selects y.cls y y ∈ GW) (hini : Cond.initialized y.cls ∈ GW)
    (hd : y.cls ≠ "java/lang/invoke/MethodHandle" ∧ y.cls ≠ "java/lang/invoke/VarHandle" ∧ (parseMethodDescriptor y.desc).map (fun d => d.parameters.length) = some As.length)
    (hroom : dd + 1 ≤ D ∧ mL ≤ 20 ∧ kc + mc ≤ mcT ∧ ks + ms ≤ msT) (hq : vwCl[ci]? = some q) (hqc : q.1 = y.cls) (hb : w.2 b = some (.inr (ci, fs))) (hcat : (st.map fun v => v.category).sum ≤ 8) (hC : Con y cy mL rt dd mc ms (.ref b :: As) w Q)
    (hst : st0 = As.reverse ++ .ref b :: st)
    (k : ∀ v w1, Q v w1 → V X (kc + mc) (ks + ms) pc1 lv (v.toList ++ st) w1) : V X kc ks pc lv st0 w := by
  subst hst; intro H locs ls hw hS hl
  have hts := h.2.2.2.1
  have hR1 := h.2.2.2.2.2.2.1
  have hR2 := h.2.2.2.2.2.2.2.1
  have hG : GoodIn GW (.code y cy mL rt :: GW) := gw_good (fun x hx => by
    rcases List.mem_cons.mp hx with rfl | hx
    · exact hcode
    · exact hx)
  have cw := va_cnB (R := X.R) (args := X.args) (own := own) (index := index) (mc := mc) (ms := ms) (rm := rmd dd mc ms) As.length hts hG rfl rfl rfl (h.2.2.2.2.1.2.2 _ hlink rfl) (hts _ hini) hd ⟨by show dd + 1 ≤ _; omega, by show 8 + (mL + 11) + 39 * dd ≤ _; omega⟩
  obtain ⟨L, F, q0, hP, hD, hW, hL, hq0⟩ := hw.at hb
  have hrc := va_recv h.2.2.2.2.1.1 hP hq hq0
  rw [hqc] at hrc
  exact V.back hp (va_runVN (As := As) (rest := st) ⟨h.1, h.2.1, rfl, h.2.2.1, hts⟩ (hC X.l X.g X.B) ⟨cw, hts _ hinst, hts _ hsel⟩ ⟨PV.blind, hrc, fun U hU hW => ⟨rfl, kK.moved hW h.2.2.2.2.1, by rw [hU]; exact hw⟩⟩ rfl rfl hl.2.1 rfl (lv_room hcat) d ⟨Nat.le_trans hroom.2.2.1 h.2.2.2.2.2.2.2.2.1, Nat.le_trans hroom.2.2.2 h.2.2.2.2.2.2.2.2.2⟩) hS hl k
theorem V.callS {y : MethodName} {cy : ByteArray} {mL dd mc ms index : Nat} {rt : Option FieldType} {As : List Value} {Q : Option Value → Wd → Prop} {st0 : List Value} (h : Cx X cc own D mcT msT) (pc1 : Nat) (d : decode cc pc = .ok (.invokestatic index, 3)) (hp : pc + 3 = pc1)
    (hcode : Cond.code y cy mL rt ∈ GW) (hlink : Cond.methodLink own index y ∈ GW) (hstat : Cond.static y ∈ GW) (hini : Cond.initialized y.cls ∈ GW)
    (hd : y.cls ≠ "java/lang/invoke/MethodHandle" ∧ y.cls ≠ "java/lang/invoke/VarHandle" ∧ (parseMethodDescriptor y.desc).map (fun d => d.parameters.length) = some As.length)
    (hroom : dd + 1 ≤ D ∧ mL ≤ 20 ∧ kc + mc ≤ mcT ∧ ks + ms ≤ msT) (hcat : (st.map fun v => v.category).sum ≤ 8) (hC : Con y cy mL rt dd mc ms As w Q)
    (hst : st0 = As.reverse ++ st)
    (k : ∀ v w1, Q v w1 → V X (kc + mc) (ks + ms) pc1 lv (v.toList ++ st) w1) : V X kc ks pc lv st0 w := by
  subst hst; intro H locs ls hw hS hl
  have hts := h.2.2.2.1
  have hR1 := h.2.2.2.2.2.2.1
  have hR2 := h.2.2.2.2.2.2.2.1
  have hG : GoodIn GW (va_wsS own index y (.code y cy mL rt :: GW)) := gw_good (fun x hx => by
    simp only [va_wsS, List.mem_append, List.mem_cons, List.not_mem_nil, or_false] at hx
    rcases hx with (rfl | rfl | rfl) | rfl | hx
    · exact hlink
    · exact hstat
    · exact hini
    · exact hcode
    · exact hx)
  have cw := va_cwS (R := X.R) (mc := mc) (ms := ms) (rm := rmd dd mc ms) As.length hts hG rfl rfl rfl hd ⟨by show dd + 1 ≤ _; omega, by show 8 + (mL + 11) + 39 * dd ≤ _; omega⟩
  exact V.back hp (va_runS (As := As) (rest := st) ⟨h.1, h.2.1, rfl, h.2.2.1, hts⟩ (hC X.l X.g X.B) cw ⟨PV.blind, fun U hU hW => ⟨rfl, kK.moved hW h.2.2.2.2.1, by rw [hU]; exact hw⟩⟩ rfl rfl hl.2.1 rfl (lv_room hcat) d ⟨Nat.le_trans hroom.2.2.1 h.2.2.2.2.2.2.2.2.1, Nat.le_trans hroom.2.2.2 h.2.2.2.2.2.2.2.2.2⟩) hS hl k
theorem V.callI {y : MethodName} {cy : ByteArray} {mL dd mc ms index b : Nat} {As : List Value} {Q : Option Value → Wd → Prop} {st0 : List Value} (h : Cx X cc own D mcT msT) (pc1 : Nat) (d : decode cc pc = .ok (.invokespecial index, 3)) (hp : pc + 3 = pc1)
    (hcode : Cond.code y cy mL none ∈ GW) (hlink : Cond.methodLink own index y ∈ GW) (hinst : Cond.instanceMethod y ∈ GW) (hini : Cond.initialized y.cls ∈ GW) (hy1 : y.name = "<init>")
    (hd : y.cls ≠ "java/lang/invoke/MethodHandle" ∧ y.cls ≠ "java/lang/invoke/VarHandle" ∧ (parseMethodDescriptor y.desc).map (fun d => d.parameters.length) = some As.length)
    (hroom : dd + 1 ≤ D ∧ mL ≤ 20 ∧ kc + mc ≤ mcT ∧ ks + ms ≤ msT) (hcat : (st.map fun v => v.category).sum ≤ 8) (hC : Con y cy mL none dd mc ms (.ref b :: As) w Q)
    (hst : st0 = As.reverse ++ .ref b :: st)
    (k : ∀ v w1, Q v w1 → V X (kc + mc) (ks + ms) pc1 lv (v.toList ++ st) w1) : V X kc ks pc lv st0 w := by
  subst hst; intro H locs ls hw hS hl
  have hts := h.2.2.2.1
  have hR1 := h.2.2.2.2.2.2.1
  have hR2 := h.2.2.2.2.2.2.2.1
  have hG : GoodIn GW (.code y cy mL none :: GW) := gw_good (fun x hx => by
    rcases List.mem_cons.mp hx with rfl | hx
    · exact hcode
    · exact hx)
  have cw := cwI (R := X.R) (own := own) (index := index) (mc := mc) (ms := ms) (rm := rmd dd mc ms) As.length hts hG rfl rfl rfl (hts _ hini) (hts _ hlink) (hts _ hinst) hy1 hd ⟨by show dd + 1 ≤ _; omega, by show 8 + (mL + 11) + 39 * dd ≤ _; omega⟩
  exact V.back hp (va_runI (As := As) (rest := st) ⟨h.1, h.2.1, rfl, h.2.2.1, hts⟩ (hC X.l X.g X.B) cw ⟨PV.blind, fun U hU hW => ⟨rfl, kK.moved hW h.2.2.2.2.1, by rw [hU]; exact hw⟩⟩ rfl rfl hl.2.1 rfl (lv_room hcat) d ⟨Nat.le_trans hroom.2.2.1 h.2.2.2.2.2.2.2.2.1, Nat.le_trans hroom.2.2.2 h.2.2.2.2.2.2.2.2.2⟩) hS hl k
theorem V.callIN {y : MethodName} {cy : ByteArray} {mL dd mc ms index b : Nat} {host : String} {As : List Value} {Q : Option Value → Wd → Prop} {st0 : List Value} (h : Cx X cc own D mcT msT) (pc1 : Nat) (d : decode cc pc = .ok (.invokespecial index, 3)) (hp : pc + 3 = pc1)
    (hcode : Cond.code y cy mL none ∈ GW) (hlink : Cond.methodLinkNest own index y host ∈ lw_tbl) (hinst : Cond.instanceMethod y ∈ GW) (hini : Cond.initialized y.cls ∈ GW) (hy1 : y.name = "<init>")
    (hd : y.cls ≠ "java/lang/invoke/MethodHandle" ∧ y.cls ≠ "java/lang/invoke/VarHandle" ∧ (parseMethodDescriptor y.desc).map (fun d => d.parameters.length) = some As.length)
    (hroom : dd + 1 ≤ D ∧ mL ≤ 20 ∧ kc + mc ≤ mcT ∧ ks + ms ≤ msT) (hcat : (st.map fun v => v.category).sum ≤ 8) (hC : Con y cy mL none dd mc ms (.ref b :: As) w Q)
    (hst : st0 = As.reverse ++ .ref b :: st)
    (k : ∀ v w1, Q v w1 → V X (kc + mc) (ks + ms) pc1 lv (v.toList ++ st) w1) : V X kc ks pc lv st0 w := by
  subst hst; intro H locs ls hw hS hl
  have hts := h.2.2.2.1
  have hR1 := h.2.2.2.2.2.2.1
  have hR2 := h.2.2.2.2.2.2.2.1
  have hG : GoodIn GW (.code y cy mL none :: GW) := gw_good (fun x hx => by
    rcases List.mem_cons.mp hx with rfl | hx
    · exact hcode
    · exact hx)
  have cw := va_cnB (R := X.R) (args := X.args) (own := own) (index := index) (mc := mc) (ms := ms) (rm := rmd dd mc ms) As.length hts hG rfl rfl rfl (h.2.2.2.2.1.2.2 _ hlink rfl) (hts _ hini) hd ⟨by show dd + 1 ≤ _; omega, by show 8 + (mL + 11) + 39 * dd ≤ _; omega⟩
  exact V.back hp (va_runIN (As := As) (rest := st) ⟨h.1, h.2.1, rfl, h.2.2.1, hts⟩ (hC X.l X.g X.B) ⟨cw, hy1, hts _ hinst⟩ ⟨PV.blind, fun U hU hW => ⟨rfl, kK.moved hW h.2.2.2.2.1, by rw [hU]; exact hw⟩⟩ rfl rfl hl.2.1 rfl (lv_room hcat) d ⟨Nat.le_trans hroom.2.2.1 h.2.2.2.2.2.2.2.2.1, Nat.le_trans hroom.2.2.2 h.2.2.2.2.2.2.2.2.2⟩) hS hl k
theorem V.objInit (h : Cx X cc own D mcT msT) {index a : Nat} (pc1 : Nat) (d : decode cc pc = .ok (.invokespecial index, 3)) (hp : pc + 3 = pc1) (hlink : Cond.methodLink own index objectInit ∈ GW) (hD : 1 ≤ D) (hcat : (st.map fun v => v.category).sum ≤ 8) (k : V X kc ks pc1 lv st w) : V X kc ks pc lv (.ref a :: st) w := by
  subst hp; intro H locs ls hw hS hl
  have hts := h.2.2.2.1
  have hR1 := h.2.2.2.2.2.2.1
  have hR2 := h.2.2.2.2.2.2.2.1
  exact W.objInit h.1 h.2.1 h.2.2.1 (hts _ hlink) (hts _ k15) (hts _ k16) rfl hl.2.1 rfl d (by omega) (by have := lv_room (m := X.m) (pc := pc) (ls := ls) (rest := (.ref a :: st)) hcat; omega) (k H locs ls hw hS hl)
/-! the law's script -/
theorem V.sld (h : Cx X cc own D mcT msT) {b L : Nat} {xs : Nat → Int32} {i : Int32} (pc1 : Nat) (d : decode cc pc = .ok (.iaload, 1)) (hp : pc + 1 = pc1) (hX : va_X b L xs X.s X.s.heap) (hbl : b < X.s.heap.size) (hb : b < X.B) (hin : vp_in i L) (k : V X kc ks pc1 lv (.int (xs i.toNatClampNeg) :: st) w) : V X kc ks pc lv (.int i :: .ref b :: st) w := by
  subst hp; intro H locs ls hw hS hl
  exact va_sld h.1 h.2.1 hX hbl (show ¬ X.B ≤ b by omega) hS hin d (k H locs ls hw hS hl)
theorem V.slen (h : Cx X cc own D mcT msT) {b L : Nat} {xs : Nat → Int32} (pc1 : Nat) (d : decode cc pc = .ok (.arraylength, 1)) (hp : pc + 1 = pc1) (hX : va_X b L xs X.s X.s.heap) (hbl : b < X.s.heap.size) (hb : b < X.B) (k : V X kc ks pc1 lv (.int (Int32.ofNat L) :: st) w) : V X kc ks pc lv (.ref b :: st) w := by
  subst hp; intro H locs ls hw hS hl
  exact va_slen h.1 h.2.1 hX hbl (show ¬ X.B ≤ b by omega) hS d (k H locs ls hw hS hl)
/-- other words for the world: what V asks of it is told by its cells alone -/
theorem V.at (w1 : Wd) (hw : w = w1) (k : V X kc ks pc lv st w1) : V X kc ks pc lv st w := hw ▸ k
/-- the value on top gets another name -/
theorem V.top {x : Int32} (y : Int32) (e : x = y) (k : V X kc ks pc lv (.int y :: st) w) : V X kc ks pc lv (.int x :: st) w := e ▸ k
theorem V.topL {x : Int64} (y : Int64) (e : x = y) (k : V X kc ks pc lv (.long y :: st) w) : V X kc ks pc lv (.long x :: st) w := e ▸ k
end VC
end
section
/-! bits of a set, sums and sets over places -/
theorem V5.dummy : True := trivial
def Bt (s : Int32) (k : Nat) : Bool := s.toBitVec.getLsbD k
def bI (b : Bool) : Int32 := if b then 1 else 0
def pw (x : Int32) : Int32 := (1 : Int32) <<< (x &&& 31)
theorem bI_t : bI true = 1 := rfl
theorem bI_f : bI false = 0 := rfl
theorem bI_0 (b : Bool) : bI b = 0 ↔ b = false := by cases b <;> simp [bI] <;> decide
theorem bI_1 (b : Bool) : bI b = 1 ↔ b = true := by cases b <;> simp [bI] <;> decide
theorem bI_n0 (b : Bool) : ¬ bI b = 0 ↔ b = true := by cases b <;> simp [bI] <;> decide
theorem bI_z (b : Bool) : narrow .boolean (.int (bI b)) = .int (bI b) := by cases b <;> rfl
theorem bI_inj {a b : Bool} (h : bI a = bI b) : a = b := by
  cases a <;> cases b <;> first | rfl | (exact absurd h (by decide))
theorem bt_ext {a b : Int32} (h : ∀ k, k < 32 → Bt a k = Bt b k) : a = b := by
  apply Int32.toBitVec_inj.mp
  apply BitVec.eq_of_getLsbD_eq
  intro i hi
  exact h i hi
theorem bt_big (a : Int32) {k : Nat} (h : 32 ≤ k) : Bt a k = false := by
  unfold Bt; exact BitVec.getLsbD_of_ge _ _ h
theorem bt_and (a b : Int32) (k : Nat) : Bt (a &&& b) k = (Bt a k && Bt b k) := by
  unfold Bt; rw [Int32.toBitVec_and, BitVec.getLsbD_and]
theorem bt_or (a b : Int32) (k : Nat) : Bt (a ||| b) k = (Bt a k || Bt b k) := by
  unfold Bt; rw [Int32.toBitVec_or, BitVec.getLsbD_or]
theorem bt_not (a : Int32) {k : Nat} (h : k < 32) : Bt (a ^^^ (-1)) k = !Bt a k := by
  unfold Bt
  rw [Int32.toBitVec_xor, BitVec.getLsbD_xor]
  have : (-1 : Int32).toBitVec = BitVec.allOnes 32 := by decide
  rw [this, BitVec.getLsbD_allOnes]
  simp [h]
theorem bt_0 (k : Nat) : Bt 0 k = false := by
  unfold Bt
  show (0#32).getLsbD k = false
  simp
theorem sh_amt : ∀ k, k < 32 → (((nI k &&& 31 : Int32)).toBitVec.smod 32).toNat = k := by decide +kernel
theorem pw_bt : ∀ k, k < 32 → ∀ j, j < 32 → Bt (pw (nI k)) j = decide (j = k) := by decide +kernel
theorem bt_pw {k : Nat} (h : k < 32) (j : Nat) : Bt (pw (nI k)) j = decide (j = k) := by
  by_cases hj : j < 32
  · exact pw_bt k h j hj
  · rw [bt_big _ (by omega)]
    have : ¬ j = k := by omega
    simp [this]
theorem bt_shr (s : Int32) {k : Nat} (h : k < 32) : Bt (s >>> (nI k &&& 31)) 0 = Bt s k := by
  unfold Bt
  rw [Int32.toBitVec_shiftRight, BitVec.sshiftRight_eq', sh_amt k h, BitVec.getLsbD_sshiftRight]
  simp [h]
theorem bt_1 : ∀ k, k < 32 → Bt 1 k = decide (k = 0) := by decide +kernel
theorem bt_bI (b : Bool) {k : Nat} (h : k < 32) : Bt (bI b) k = (b && decide (k = 0)) := by
  cases b
  · rw [bI_f, bt_0]; rfl
  · rw [bI_t, bt_1 k h]; rfl
/-- what the machine makes of 'set >> k & 1' -/
theorem tst (s : Int32) {k : Nat} (h : k < 32) : (s >>> (nI k &&& 31)) &&& 1 = bI (Bt s k) := by
  apply bt_ext
  intro i hi
  rw [bt_and, bt_bI _ hi, bt_1 i hi]
  by_cases h0 : i = 0
  · subst h0
    rw [bt_shr s h]
  · simp [h0]
def sm (f : Nat → Int32) : Nat → Int32
  | 0 => 0
  | n + 1 => sm f n + f n
theorem sm_0 (f : Nat → Int32) : sm f 0 = 0 := rfl
theorem sm_s (f : Nat → Int32) (n : Nat) : sm f (n + 1) = sm f n + f n := rfl
theorem sm_congr {f g : Nat → Int32} : ∀ {n : Nat}, (∀ k, k < n → f k = g k) → sm f n = sm g n
  | 0, _ => rfl
  | n + 1, h => by rw [sm_s, sm_s, sm_congr (fun k hk => h k (by omega)), h n (by omega)]
theorem i32_add_comm (a b : Int32) : a + b = b + a := Int32.add_comm a b
theorem i32_add_assoc (a b c : Int32) : a + b + c = a + (b + c) := Int32.add_assoc a b c
theorem sm_add (f g : Nat → Int32) : ∀ n, sm (fun k => f k + g k) n = sm f n + sm g n
  | 0 => by rw [sm_0, sm_0, sm_0]; rfl
  | n + 1 => by
    rw [sm_s, sm_s, sm_s, sm_add f g n, i32_add_assoc, i32_add_assoc, ← i32_add_assoc (sm g n), i32_add_comm (sm g n) (f n), i32_add_assoc]
theorem sm_zero : ∀ n, sm (fun _ => 0) n = 0
  | 0 => rfl
  | n + 1 => by rw [sm_s, sm_zero n]; rfl
/-- one place taken out -/
theorem sm_out (f : Nat → Int32) {k : Nat} : ∀ {n : Nat}, k < n → sm f n = sm (fun i => if i = k then 0 else f i) n + f k
  | 0, h => absurd h (by omega)
  | n + 1, h => by
    rw [sm_s, sm_s]
    by_cases hk : k = n
    · subst hk
      rw [sm_congr (f := f) (g := fun i => if i = k then 0 else f i) (fun i hi => by rw [if_neg (by omega)]), if_pos rfl]
      rw [Int32.add_zero]
    · rw [sm_out f (k := k) (n := n) (by omega), if_neg (by omega), i32_add_assoc, i32_add_assoc, i32_add_comm (f k)]
def mk (f : Nat → Bool) : Nat → Int32
  | 0 => 0
  | n + 1 => if f n then mk f n ||| pw (nI n) else mk f n
theorem mk_0 (f : Nat → Bool) : mk f 0 = 0 := rfl
theorem mk_t {f : Nat → Bool} {n : Nat} (h : f n = true) : mk f (n + 1) = mk f n ||| pw (nI n) := by rw [mk, h, if_pos rfl]
theorem mk_f {f : Nat → Bool} {n : Nat} (h : f n = false) : mk f (n + 1) = mk f n := by rw [mk, h, if_neg (by decide)]
theorem mk_i {f : Nat → Bool} {n : Nat} : mk f (n + 1) = mk f n ||| (if f n = true then pw (nI n) else 0) := by
  cases h : f n
  · rw [mk_f h, if_neg (by decide)]
    apply bt_ext; intro i hi; rw [bt_or, bt_0, Bool.or_false]
  · rw [mk_t h, if_pos rfl]
theorem bt_mk (f : Nat → Bool) (j : Nat) : ∀ n, n ≤ 32 → Bt (mk f n) j = (decide (j < n) && f j)
  | 0, _ => by rw [mk_0, bt_0]; simp
  | n + 1, h => by
    have ih := bt_mk f j n (by omega)
    cases hf : f n
    · rw [mk_f hf, ih]
      by_cases hj : j = n
      · subst hj; simp [hf]
      · have : (decide (j < n + 1)) = decide (j < n) := by
          apply decide_eq_decide.mpr; omega
        rw [this]
    · rw [mk_t hf, bt_or, ih, bt_pw (by omega)]
      by_cases hj : j = n
      · subst hj; simp [hf]
      · have : (decide (j < n + 1)) = decide (j < n) := by
          apply decide_eq_decide.mpr; omega
        rw [this]; simp [hj]
theorem mk_congr {f g : Nat → Bool} : ∀ {n : Nat}, (∀ k, k < n → f k = g k) → mk f n = mk g n
  | 0, _ => rfl
  | n + 1, h => by
    have h1 := mk_congr (f := f) (g := g) (n := n) (fun k hk => h k (by omega))
    rw [mk, mk, h1, h n (by omega)]
/-- a set of places below 12 -/
def lo12 (s : Int32) : Prop := ∀ k, 12 ≤ k → Bt s k = false
theorem lo12_mk (f : Nat → Bool) : lo12 (mk f 12) := fun k hk => by
  rw [bt_mk _ _ _ (by omega)]
  have : ¬ k < 12 := by omega
  simp [this]
theorem lo12_ext {a b : Int32} (ha : lo12 a) (hb : lo12 b) (h : ∀ k, k < 12 → Bt a k = Bt b k) : a = b := bt_ext fun k _ => by
  by_cases hk : k < 12
  · exact h k hk
  · rw [ha k (by omega), hb k (by omega)]
theorem lo12_and {a : Int32} (b : Int32) (ha : lo12 a) : lo12 (a &&& b) := fun k hk => by rw [bt_and, ha k hk]; rfl
theorem lo12_and2 (a : Int32) {b : Int32} (hb : lo12 b) : lo12 (a &&& b) := fun k hk => by rw [bt_and, hb k hk]; simp
theorem lo12_or {a b : Int32} (ha : lo12 a) (hb : lo12 b) : lo12 (a ||| b) := fun k hk => by rw [bt_or, ha k hk, hb k hk]; rfl
theorem lo12_0 : lo12 0 := fun k _ => bt_0 k
theorem lo12_pw : ∀ {k : Nat}, k < 12 → lo12 (pw (nI k)) := fun {k} h j hj => by
  rw [bt_pw (by omega)]
  have : ¬ j = k := by omega
  simp [this]
theorem mk_bt {s : Int32} (h : lo12 s) : mk (Bt s) 12 = s := lo12_ext (lo12_mk _) h fun k hk => by
  rw [bt_mk _ _ _ (by omega)]; simp [hk]
def anyb (f : Nat → Bool) : Nat → Bool
  | 0 => false
  | n + 1 => anyb f n || f n
theorem anyb_iff (f : Nat → Bool) : ∀ n, anyb f n = true ↔ ∃ k, k < n ∧ f k = true
  | 0 => by simp [anyb]
  | n + 1 => by
    rw [anyb, Bool.or_eq_true, anyb_iff f n]
    constructor
    · rintro (⟨k, h1, h2⟩ | h)
      · exact ⟨k, by omega, h2⟩
      · exact ⟨n, by omega, h⟩
    · rintro ⟨k, h1, h2⟩
      by_cases hk : k = n
      · subst hk; exact Or.inr h2
      · exact Or.inl ⟨k, by omega, h2⟩
theorem anyb_congr {f g : Nat → Bool} : ∀ {n : Nat}, (∀ k, k < n → f k = g k) → anyb f n = anyb g n
  | 0, _ => rfl
  | n + 1, h => by rw [anyb, anyb, anyb_congr (f := f) (g := g) (fun k hk => h k (by omega)), h n (by omega)]
/-! numbers -/
theorem nI_tn {n : Nat} (h : n < 2 ^ 31) : (nI n).toNatClampNeg = n := nI_clamp h
theorem nI_inj {a b : Nat} (ha : a < 2 ^ 31) (hb : b < 2 ^ 31) (h : nI a = nI b) : a = b := (nI_eq ha hb).mp h
theorem lit (n : Nat) : (OfNat.ofNat n : Int32) = nI n := rfl
/-- a number from 0 to below n -/
theorem nI_of_lt {x : Int32} {n : Nat} (hn : n < 2 ^ 31) (h0 : ¬ x < 0) (h1 : x < nI n) : ∃ j : Nat, j < n ∧ x = nI j := by
  obtain ⟨j, hj, rfl⟩ := nI_of h0
  exact ⟨j, (nI_ltI hj hn).mp h1, rfl⟩
end
section
theorem ic1_m1 : Int32.ofInt (-1) = (-1 : Int32) := by decide
theorem ic1_0 : Int32.ofInt (0) = (0 : Int32) := by decide
theorem ic1_1 : Int32.ofInt (1) = (1 : Int32) := by decide
theorem ic1_2 : Int32.ofInt (2) = (2 : Int32) := by decide
theorem ic1_3 : Int32.ofInt (3) = (3 : Int32) := by decide
theorem ic1_4 : Int32.ofInt (4) = (4 : Int32) := by decide
theorem ic1_5 : Int32.ofInt (5) = (5 : Int32) := by decide
theorem ic2_m4 : (Int8.ofInt (-4)).toInt32 = (-4 : Int32) := by decide
theorem ic2_m3 : (Int8.ofInt (-3)).toInt32 = (-3 : Int32) := by decide
theorem ic2_m2 : (Int8.ofInt (-2)).toInt32 = (-2 : Int32) := by decide
theorem ic2_6 : (Int8.ofInt (6)).toInt32 = (6 : Int32) := by decide
theorem ic2_7 : (Int8.ofInt (7)).toInt32 = (7 : Int32) := by decide
theorem ic2_8 : (Int8.ofInt (8)).toInt32 = (8 : Int32) := by decide
theorem ic2_9 : (Int8.ofInt (9)).toInt32 = (9 : Int32) := by decide
theorem ic2_10 : (Int8.ofInt (10)).toInt32 = (10 : Int32) := by decide
theorem ic2_11 : (Int8.ofInt (11)).toInt32 = (11 : Int32) := by decide
theorem ic2_12 : (Int8.ofInt (12)).toInt32 = (12 : Int32) := by decide
theorem ic2_13 : (Int8.ofInt (13)).toInt32 = (13 : Int32) := by decide
theorem ic2_16 : (Int8.ofInt (16)).toInt32 = (16 : Int32) := by decide
theorem ic2_20 : (Int8.ofInt (20)).toInt32 = (20 : Int32) := by decide
theorem ic2_29 : (Int8.ofInt (29)).toInt32 = (29 : Int32) := by decide
theorem ic2_31 : (Int8.ofInt (31)).toInt32 = (31 : Int32) := by decide
theorem ic2_32 : (Int8.ofInt (32)).toInt32 = (32 : Int32) := by decide
theorem ic2_44 : (Int8.ofInt (44)).toInt32 = (44 : Int32) := by decide
theorem ic2_48 : (Int8.ofInt (48)).toInt32 = (48 : Int32) := by decide
theorem ic2_57 : (Int8.ofInt (57)).toInt32 = (57 : Int32) := by decide
theorem ic2_59 : (Int8.ofInt (59)).toInt32 = (59 : Int32) := by decide
theorem ic2_63 : (Int8.ofInt (63)).toInt32 = (63 : Int32) := by decide
theorem ic2_80 : (Int8.ofInt (80)).toInt32 = (80 : Int32) := by decide
theorem ic2_99 : (Int8.ofInt (99)).toInt32 = (99 : Int32) := by decide
theorem ic2_100 : (Int8.ofInt (100)).toInt32 = (100 : Int32) := by decide
theorem ic2_103 : (Int8.ofInt (103)).toInt32 = (103 : Int32) := by decide
theorem ic2_104 : (Int8.ofInt (104)).toInt32 = (104 : Int32) := by decide
theorem ic2_112 : (Int8.ofInt (112)).toInt32 = (112 : Int32) := by decide
theorem ic2_119 : (Int8.ofInt (119)).toInt32 = (119 : Int32) := by decide
theorem ic2_125 : (Int8.ofInt (125)).toInt32 = (125 : Int32) := by decide
theorem ic2_126 : (Int8.ofInt (126)).toInt32 = (126 : Int32) := by decide
theorem ic3_375 : (Int16.ofInt (375)).toInt32 = (375 : Int32) := by decide
theorem ic3_500 : (Int16.ofInt (500)).toInt32 = (500 : Int32) := by decide
theorem ic3_999 : (Int16.ofInt (999)).toInt32 = (999 : Int32) := by decide
theorem ic3_4096 : (Int16.ofInt (4096)).toInt32 = (4096 : Int32) := by decide
/-! what a contract says when the answer and the world are told exactly -/
def RI (r : Int32) (w' : Wd) : Option Value → Wd → Prop := fun v u => v = some (.int r) ∧ u = w'
def RLg (r : Int64) (w' : Wd) : Option Value → Wd → Prop := fun v u => v = some (.long r) ∧ u = w'
def RV (w' : Wd) : Option Value → Wd → Prop := fun v u => v = none ∧ u = w'
/-- the answer exactly, of the world a fact -/
def RE (r : Int32) (S : Wd → Prop) : Option Value → Wd → Prop := fun v u => v = some (.int r) ∧ S u
def RVE (S : Wd → Prop) : Option Value → Wd → Prop := fun v u => v = none ∧ S u
def RLE (r : Int64) (S : Wd → Prop) : Option Value → Wd → Prop := fun v u => v = some (.long r) ∧ S u
theorem nI_inc (i : Nat) : nI i + Int32.ofInt 1 = nI (i + 1) := (nI_succ i).symm
section V6
variable {X : CX} {cc : ByteArray} {own : String} {D mcT msT kc ks pc : Nat} {lv : List (Option Value)} {st : List Value} {w : Wd}
theorem V.bif_eq (h : Cx X cc own D mcT msT) {b : Bool} {off : Int} (tgt pc1 : Nat) (d : decode cc pc = .ok (.ifCond .eq off, 3)) (ht : (pc : Int) + off = (tgt : Int)) (hp : pc + 3 = pc1) (kt : b = false → V X kc ks tgt lv st w) (kf : b = true → V X kc ks pc1 lv st w) : V X kc ks pc lv (.int (bI b) :: st) w :=
  V.if_eq h tgt pc1 d ht hp (fun q => kt ((bI_0 b).mp q)) (fun q => kf ((bI_n0 b).mp q))
theorem V.bif_ne (h : Cx X cc own D mcT msT) {b : Bool} {off : Int} (tgt pc1 : Nat) (d : decode cc pc = .ok (.ifCond .ne off, 3)) (ht : (pc : Int) + off = (tgt : Int)) (hp : pc + 3 = pc1) (kt : b = true → V X kc ks tgt lv st w) (kf : b = false → V X kc ks pc1 lv st w) : V X kc ks pc lv (.int (bI b) :: st) w :=
  V.if_ne h tgt pc1 d ht hp (fun q => kt ((bI_n0 b).mp q)) (fun q => kf ((bI_0 b).mp q))
theorem V.incN0 (h : Cx X cc own D mcT msT) {t : List (Option Value)} {x : Nat} (pc1 : Nat) (d : decode cc pc = .ok (.iinc 0 1, 3)) (hp : pc + 3 = pc1) (hc : okst (some (.int (nI x)) :: t) 0 = true) (k : V X kc ks pc1 (some (.int (nI (x + 1))) :: t) st w) : V X kc ks pc (some (.int (nI x)) :: t) st w :=
  V.iinc0 h pc1 d hp (nI_inc x) hc k
theorem V.incN1 (h : Cx X cc own D mcT msT) {u0 : Option Value} {t : List (Option Value)} {x : Nat} (pc1 : Nat) (d : decode cc pc = .ok (.iinc 1 1, 3)) (hp : pc + 3 = pc1) (hc : okst (u0 :: some (.int (nI x)) :: t) 1 = true) (k : V X kc ks pc1 (u0 :: some (.int (nI (x + 1))) :: t) st w) : V X kc ks pc (u0 :: some (.int (nI x)) :: t) st w :=
  V.iinc1 h pc1 d hp (nI_inc x) hc k
theorem V.incN2 (h : Cx X cc own D mcT msT) {u0 u1 : Option Value} {t : List (Option Value)} {x : Nat} (pc1 : Nat) (d : decode cc pc = .ok (.iinc 2 1, 3)) (hp : pc + 3 = pc1) (hc : okst (u0 :: u1 :: some (.int (nI x)) :: t) 2 = true) (k : V X kc ks pc1 (u0 :: u1 :: some (.int (nI (x + 1))) :: t) st w) : V X kc ks pc (u0 :: u1 :: some (.int (nI x)) :: t) st w :=
  V.iinc2 h pc1 d hp (nI_inc x) hc k
theorem V.incN3 (h : Cx X cc own D mcT msT) {u0 u1 u2 : Option Value} {t : List (Option Value)} {x : Nat} (pc1 : Nat) (d : decode cc pc = .ok (.iinc 3 1, 3)) (hp : pc + 3 = pc1) (hc : okst (u0 :: u1 :: u2 :: some (.int (nI x)) :: t) 3 = true) (k : V X kc ks pc1 (u0 :: u1 :: u2 :: some (.int (nI (x + 1))) :: t) st w) : V X kc ks pc (u0 :: u1 :: u2 :: some (.int (nI x)) :: t) st w :=
  V.iinc3 h pc1 d hp (nI_inc x) hc k
theorem V.incN4 (h : Cx X cc own D mcT msT) {u0 u1 u2 u3 : Option Value} {t : List (Option Value)} {x : Nat} (pc1 : Nat) (d : decode cc pc = .ok (.iinc 4 1, 3)) (hp : pc + 3 = pc1) (hc : okst (u0 :: u1 :: u2 :: u3 :: some (.int (nI x)) :: t) 4 = true) (k : V X kc ks pc1 (u0 :: u1 :: u2 :: u3 :: some (.int (nI (x + 1))) :: t) st w) : V X kc ks pc (u0 :: u1 :: u2 :: u3 :: some (.int (nI x)) :: t) st w :=
  V.iinc4 h pc1 d hp (nI_inc x) hc k
theorem V.incN5 (h : Cx X cc own D mcT msT) {u0 u1 u2 u3 u4 : Option Value} {t : List (Option Value)} {x : Nat} (pc1 : Nat) (d : decode cc pc = .ok (.iinc 5 1, 3)) (hp : pc + 3 = pc1) (hc : okst (u0 :: u1 :: u2 :: u3 :: u4 :: some (.int (nI x)) :: t) 5 = true) (k : V X kc ks pc1 (u0 :: u1 :: u2 :: u3 :: u4 :: some (.int (nI (x + 1))) :: t) st w) : V X kc ks pc (u0 :: u1 :: u2 :: u3 :: u4 :: some (.int (nI x)) :: t) st w :=
  V.iinc5 h pc1 d hp (nI_inc x) hc k
theorem V.incN6 (h : Cx X cc own D mcT msT) {u0 u1 u2 u3 u4 u5 : Option Value} {t : List (Option Value)} {x : Nat} (pc1 : Nat) (d : decode cc pc = .ok (.iinc 6 1, 3)) (hp : pc + 3 = pc1) (hc : okst (u0 :: u1 :: u2 :: u3 :: u4 :: u5 :: some (.int (nI x)) :: t) 6 = true) (k : V X kc ks pc1 (u0 :: u1 :: u2 :: u3 :: u4 :: u5 :: some (.int (nI (x + 1))) :: t) st w) : V X kc ks pc (u0 :: u1 :: u2 :: u3 :: u4 :: u5 :: some (.int (nI x)) :: t) st w :=
  V.iinc6 h pc1 d hp (nI_inc x) hc k
theorem V.incN7 (h : Cx X cc own D mcT msT) {u0 u1 u2 u3 u4 u5 u6 : Option Value} {t : List (Option Value)} {x : Nat} (pc1 : Nat) (d : decode cc pc = .ok (.iinc 7 1, 3)) (hp : pc + 3 = pc1) (hc : okst (u0 :: u1 :: u2 :: u3 :: u4 :: u5 :: u6 :: some (.int (nI x)) :: t) 7 = true) (k : V X kc ks pc1 (u0 :: u1 :: u2 :: u3 :: u4 :: u5 :: u6 :: some (.int (nI (x + 1))) :: t) st w) : V X kc ks pc (u0 :: u1 :: u2 :: u3 :: u4 :: u5 :: u6 :: some (.int (nI x)) :: t) st w :=
  V.iinc7 h pc1 d hp (nI_inc x) hc k
theorem V.incN8 (h : Cx X cc own D mcT msT) {u0 u1 u2 u3 u4 u5 u6 u7 : Option Value} {t : List (Option Value)} {x : Nat} (pc1 : Nat) (d : decode cc pc = .ok (.iinc 8 1, 3)) (hp : pc + 3 = pc1) (hc : okst (u0 :: u1 :: u2 :: u3 :: u4 :: u5 :: u6 :: u7 :: some (.int (nI x)) :: t) 8 = true) (k : V X kc ks pc1 (u0 :: u1 :: u2 :: u3 :: u4 :: u5 :: u6 :: u7 :: some (.int (nI (x + 1))) :: t) st w) : V X kc ks pc (u0 :: u1 :: u2 :: u3 :: u4 :: u5 :: u6 :: u7 :: some (.int (nI x)) :: t) st w :=
  V.iinc8 h pc1 d hp (nI_inc x) hc k
theorem V.ialdN (h : Cx X cc own D mcT msT) {a n i : Nat} {f : Nat → Int32} (pc1 : Nat) (d : decode cc pc = .ok (.iaload, 1)) (hp : pc + 1 = pc1) (he : w.2 a = some (.inl (0, n, .inl f))) (hin : i < n) (hn : n < 2 ^ 31 := by decide) (kk : V X kc ks pc1 lv (.int (f i) :: st) w) : V X kc ks pc lv (.int (nI i) :: .ref a :: st) w := by
  refine V.iald h pc1 d hp he (vp_in_nI hin hn) ?_
  rw [nI_clamp (by omega)]
  exact kk
theorem V.caldN (h : Cx X cc own D mcT msT) {a n i : Nat} {f : Nat → Int32} (pc1 : Nat) (d : decode cc pc = .ok (.caload, 1)) (hp : pc + 1 = pc1) (he : w.2 a = some (.inl (2, n, .inl f))) (hin : i < n) (hn : n < 2 ^ 31 := by decide) (kk : V X kc ks pc1 lv (.int (f i) :: st) w) : V X kc ks pc lv (.int (nI i) :: .ref a :: st) w := by
  refine V.cald h pc1 d hp he (vp_in_nI hin hn) ?_
  rw [nI_clamp (by omega)]
  exact kk
theorem V.laldN (h : Cx X cc own D mcT msT) {a n i : Nat} {f : Nat → Int64} (pc1 : Nat) (d : decode cc pc = .ok (.laload, 1)) (hp : pc + 1 = pc1) (he : w.2 a = some (.inl (1, n, .inr (.inl f)))) (hin : i < n) (hn : n < 2 ^ 31 := by decide) (kk : V X kc ks pc1 lv (.long (f i) :: st) w) : V X kc ks pc lv (.int (nI i) :: .ref a :: st) w := by
  refine V.lald h pc1 d hp he (vp_in_nI hin hn) ?_
  rw [nI_clamp (by omega)]
  exact kk
theorem V.aaldN (h : Cx X cc own D mcT msT) {a n i : Nat} {f : Nat → Option Nat} (pc1 : Nat) (d : decode cc pc = .ok (.aaload, 1)) (hp : pc + 1 = pc1) (he : w.2 a = some (.inl (3, n, .inr (.inr (.inr (.inr f)))))) (hin : i < n) (hn : n < 2 ^ 31 := by decide) (kk : V X kc ks pc1 lv (va_rf (f i) :: st) w) : V X kc ks pc lv (.int (nI i) :: .ref a :: st) w := by
  refine V.aald h pc1 d hp he (vp_in_nI hin hn) ?_
  rw [nI_clamp (by omega)]
  exact kk
theorem V.iastN (h : Cx X cc own D mcT msT) {a n i : Nat} {f : Nat → Int32} {x : Int32} (pc1 : Nat) (d : decode cc pc = .ok (.iastore, 1)) (hp : pc + 1 = pc1) (he : w.2 a = some (.inl (0, n, .inl f))) (hin : i < n) (hn : n < 2 ^ 31 := by decide) (kk : V X kc ks pc1 lv st (wset w a (.inl (0, n, .inl (upd f i x))))) : V X kc ks pc lv (.int x :: .int (nI i) :: .ref a :: st) w := by
  refine V.iast h pc1 d hp he (vp_in_nI hin hn) ?_
  rw [nI_clamp (by omega)]
  exact kk
theorem V.castN (h : Cx X cc own D mcT msT) {a n i : Nat} {f : Nat → Int32} {x : Int32} (pc1 : Nat) (d : decode cc pc = .ok (.castore, 1)) (hp : pc + 1 = pc1) (he : w.2 a = some (.inl (2, n, .inl f))) (hin : i < n) (hn : n < 2 ^ 31 := by decide) (kk : V X kc ks pc1 lv st (wset w a (.inl (2, n, .inl (upd f i (vp_nar .char x)))))) : V X kc ks pc lv (.int x :: .int (nI i) :: .ref a :: st) w := by
  refine V.cast h pc1 d hp he (vp_in_nI hin hn) ?_
  rw [nI_clamp (by omega)]
  exact kk
theorem V.lastN (h : Cx X cc own D mcT msT) {a n i : Nat} {f : Nat → Int64} {x : Int64} (pc1 : Nat) (d : decode cc pc = .ok (.lastore, 1)) (hp : pc + 1 = pc1) (he : w.2 a = some (.inl (1, n, .inr (.inl f)))) (hin : i < n) (hn : n < 2 ^ 31 := by decide) (kk : V X kc ks pc1 lv st (wset w a (.inl (1, n, .inr (.inl (va_up f i x)))))) : V X kc ks pc lv (.long x :: .int (nI i) :: .ref a :: st) w := by
  refine V.last h pc1 d hp he (vp_in_nI hin hn) ?_
  rw [nI_clamp (by omega)]
  exact kk
theorem V.aastN (h : Cx X cc own D mcT msT) {a n v ci i : Nat} {r : vw_C} {vs : List Value} {f : Nat → Option Nat} (pc1 : Nat) (d : decode cc pc = .ok (.aastore, 1)) (hp : pc + 1 = pc1) (he : w.2 a = some (.inl (3, n, .inr (.inr (.inr (.inr f)))))) (hv : w.2 v = some (.inr (ci, vs))) (hc : vwCl[ci]? = some r) (hr : r.1 = RX2) (hin : i < n) (hn : n < 2 ^ 31 := by decide) (kk : V X kc ks pc1 lv st (wset w a (.inl (3, n, .inr (.inr (.inr (.inr (va_up f i (some v))))))))) : V X kc ks pc lv (.ref v :: .int (nI i) :: .ref a :: st) w := by
  refine V.aast h pc1 d hp he hv hc hr (vp_in_nI hin hn) ?_
  rw [nI_clamp (by omega)]
  exact kk
theorem V.callVf {y : MethodName} {cy : ByteArray} {mL dd index b ci : Nat} {rt : Option FieldType} {As : List Value} {r : Int32} {w1 : Wd} {st0 : List Value} {fs : List Value} {q : vw_C} (h : Cx X cc own D mcT msT) (pc1 : Nat) (d : decode cc pc = .ok (.invokevirtual index, 3)) (hp : pc + 3 = pc1) (hcode : Cond.code y cy mL rt ∈ GW) (hlink : Cond.methodLink own index y ∈ GW) (hinst : Cond.instanceMethod y ∈ GW) (hsel : Cond.selects y.cls y y ∈ GW) (hini : Cond.initialized y.cls ∈ GW) (hd : y.cls ≠ "java/lang/invoke/MethodHandle" ∧ y.cls ≠ "java/lang/invoke/VarHandle" ∧ (parseMethodDescriptor y.desc).map (fun d => d.parameters.length) = some As.length) (hroom : dd + 1 ≤ D ∧ mL ≤ 20) (hcat : (st.map fun v => v.category).sum ≤ 8) (hb : w.2 b = some (.inr (ci, fs))) (hq : vwCl[ci]? = some q) (hqc : q.1 = y.cls) (hkm : kc ≤ mcT ∧ ks ≤ msT) (hC : Con y cy mL rt dd 0 0 (.ref b :: As) w (RI r w1)) (hst : st0 = As.reverse ++ .ref b :: st) (k : V X kc ks pc1 lv (.int r :: st) w1) : V X kc ks pc lv st0 w :=
  V.callV h pc1 d hp hcode hlink hinst hsel hini hd ⟨hroom.1, hroom.2, hkm.1, hkm.2⟩ hq hqc hb hcat hC hst (fun v u hv => by rcases hv with ⟨rfl, rfl⟩; exact k)
theorem V.callVfv {y : MethodName} {cy : ByteArray} {mL dd index b ci : Nat} {rt : Option FieldType} {As : List Value} {w1 : Wd} {st0 : List Value} {fs : List Value} {q : vw_C} (h : Cx X cc own D mcT msT) (pc1 : Nat) (d : decode cc pc = .ok (.invokevirtual index, 3)) (hp : pc + 3 = pc1) (hcode : Cond.code y cy mL rt ∈ GW) (hlink : Cond.methodLink own index y ∈ GW) (hinst : Cond.instanceMethod y ∈ GW) (hsel : Cond.selects y.cls y y ∈ GW) (hini : Cond.initialized y.cls ∈ GW) (hd : y.cls ≠ "java/lang/invoke/MethodHandle" ∧ y.cls ≠ "java/lang/invoke/VarHandle" ∧ (parseMethodDescriptor y.desc).map (fun d => d.parameters.length) = some As.length) (hroom : dd + 1 ≤ D ∧ mL ≤ 20) (hcat : (st.map fun v => v.category).sum ≤ 8) (hb : w.2 b = some (.inr (ci, fs))) (hq : vwCl[ci]? = some q) (hqc : q.1 = y.cls) (hkm : kc ≤ mcT ∧ ks ≤ msT) (hC : Con y cy mL rt dd 0 0 (.ref b :: As) w (RV w1)) (hst : st0 = As.reverse ++ .ref b :: st) (k : V X kc ks pc1 lv st w1) : V X kc ks pc lv st0 w :=
  V.callV h pc1 d hp hcode hlink hinst hsel hini hd ⟨hroom.1, hroom.2, hkm.1, hkm.2⟩ hq hqc hb hcat hC hst (fun v u hv => by rcases hv with ⟨rfl, rfl⟩; exact k)
theorem V.callVfl {y : MethodName} {cy : ByteArray} {mL dd index b ci : Nat} {rt : Option FieldType} {As : List Value} {rl : Int64} {w1 : Wd} {st0 : List Value} {fs : List Value} {q : vw_C} (h : Cx X cc own D mcT msT) (pc1 : Nat) (d : decode cc pc = .ok (.invokevirtual index, 3)) (hp : pc + 3 = pc1) (hcode : Cond.code y cy mL rt ∈ GW) (hlink : Cond.methodLink own index y ∈ GW) (hinst : Cond.instanceMethod y ∈ GW) (hsel : Cond.selects y.cls y y ∈ GW) (hini : Cond.initialized y.cls ∈ GW) (hd : y.cls ≠ "java/lang/invoke/MethodHandle" ∧ y.cls ≠ "java/lang/invoke/VarHandle" ∧ (parseMethodDescriptor y.desc).map (fun d => d.parameters.length) = some As.length) (hroom : dd + 1 ≤ D ∧ mL ≤ 20) (hcat : (st.map fun v => v.category).sum ≤ 8) (hb : w.2 b = some (.inr (ci, fs))) (hq : vwCl[ci]? = some q) (hqc : q.1 = y.cls) (hkm : kc ≤ mcT ∧ ks ≤ msT) (hC : Con y cy mL rt dd 0 0 (.ref b :: As) w (RLg rl w1)) (hst : st0 = As.reverse ++ .ref b :: st) (k : V X kc ks pc1 lv (.long rl :: st) w1) : V X kc ks pc lv st0 w :=
  V.callV h pc1 d hp hcode hlink hinst hsel hini hd ⟨hroom.1, hroom.2, hkm.1, hkm.2⟩ hq hqc hb hcat hC hst (fun v u hv => by rcases hv with ⟨rfl, rfl⟩; exact k)
theorem V.callVe {y : MethodName} {cy : ByteArray} {mL dd index b ci : Nat} {rt : Option FieldType} {As : List Value} {r : Int32} {S : Wd → Prop} {st0 : List Value} {fs : List Value} {q : vw_C} (h : Cx X cc own D mcT msT) (pc1 : Nat) (d : decode cc pc = .ok (.invokevirtual index, 3)) (hp : pc + 3 = pc1) (hcode : Cond.code y cy mL rt ∈ GW) (hlink : Cond.methodLink own index y ∈ GW) (hinst : Cond.instanceMethod y ∈ GW) (hsel : Cond.selects y.cls y y ∈ GW) (hini : Cond.initialized y.cls ∈ GW) (hd : y.cls ≠ "java/lang/invoke/MethodHandle" ∧ y.cls ≠ "java/lang/invoke/VarHandle" ∧ (parseMethodDescriptor y.desc).map (fun d => d.parameters.length) = some As.length) (hroom : dd + 1 ≤ D ∧ mL ≤ 20) (hcat : (st.map fun v => v.category).sum ≤ 8) (hb : w.2 b = some (.inr (ci, fs))) (hq : vwCl[ci]? = some q) (hqc : q.1 = y.cls) (hkm : kc ≤ mcT ∧ ks ≤ msT) (hC : Con y cy mL rt dd 0 0 (.ref b :: As) w (RE r S)) (hst : st0 = As.reverse ++ .ref b :: st) (k : ∀ u, S u → V X kc ks pc1 lv (.int r :: st) u) : V X kc ks pc lv st0 w :=
  V.callV h pc1 d hp hcode hlink hinst hsel hini hd ⟨hroom.1, hroom.2, hkm.1, hkm.2⟩ hq hqc hb hcat hC hst (fun v u hv => by rcases hv with ⟨rfl, hv⟩; exact k _ hv)
theorem V.callVev {y : MethodName} {cy : ByteArray} {mL dd index b ci : Nat} {rt : Option FieldType} {As : List Value} {S : Wd → Prop} {st0 : List Value} {fs : List Value} {q : vw_C} (h : Cx X cc own D mcT msT) (pc1 : Nat) (d : decode cc pc = .ok (.invokevirtual index, 3)) (hp : pc + 3 = pc1) (hcode : Cond.code y cy mL rt ∈ GW) (hlink : Cond.methodLink own index y ∈ GW) (hinst : Cond.instanceMethod y ∈ GW) (hsel : Cond.selects y.cls y y ∈ GW) (hini : Cond.initialized y.cls ∈ GW) (hd : y.cls ≠ "java/lang/invoke/MethodHandle" ∧ y.cls ≠ "java/lang/invoke/VarHandle" ∧ (parseMethodDescriptor y.desc).map (fun d => d.parameters.length) = some As.length) (hroom : dd + 1 ≤ D ∧ mL ≤ 20) (hcat : (st.map fun v => v.category).sum ≤ 8) (hb : w.2 b = some (.inr (ci, fs))) (hq : vwCl[ci]? = some q) (hqc : q.1 = y.cls) (hkm : kc ≤ mcT ∧ ks ≤ msT) (hC : Con y cy mL rt dd 0 0 (.ref b :: As) w (RVE S)) (hst : st0 = As.reverse ++ .ref b :: st) (k : ∀ u, S u → V X kc ks pc1 lv st u) : V X kc ks pc lv st0 w :=
  V.callV h pc1 d hp hcode hlink hinst hsel hini hd ⟨hroom.1, hroom.2, hkm.1, hkm.2⟩ hq hqc hb hcat hC hst (fun v u hv => by rcases hv with ⟨rfl, hv⟩; exact k _ hv)
theorem V.callVel {y : MethodName} {cy : ByteArray} {mL dd index b ci : Nat} {rt : Option FieldType} {As : List Value} {rl : Int64} {S : Wd → Prop} {st0 : List Value} {fs : List Value} {q : vw_C} (h : Cx X cc own D mcT msT) (pc1 : Nat) (d : decode cc pc = .ok (.invokevirtual index, 3)) (hp : pc + 3 = pc1) (hcode : Cond.code y cy mL rt ∈ GW) (hlink : Cond.methodLink own index y ∈ GW) (hinst : Cond.instanceMethod y ∈ GW) (hsel : Cond.selects y.cls y y ∈ GW) (hini : Cond.initialized y.cls ∈ GW) (hd : y.cls ≠ "java/lang/invoke/MethodHandle" ∧ y.cls ≠ "java/lang/invoke/VarHandle" ∧ (parseMethodDescriptor y.desc).map (fun d => d.parameters.length) = some As.length) (hroom : dd + 1 ≤ D ∧ mL ≤ 20) (hcat : (st.map fun v => v.category).sum ≤ 8) (hb : w.2 b = some (.inr (ci, fs))) (hq : vwCl[ci]? = some q) (hqc : q.1 = y.cls) (hkm : kc ≤ mcT ∧ ks ≤ msT) (hC : Con y cy mL rt dd 0 0 (.ref b :: As) w (RLE rl S)) (hst : st0 = As.reverse ++ .ref b :: st) (k : ∀ u, S u → V X kc ks pc1 lv (.long rl :: st) u) : V X kc ks pc lv st0 w :=
  V.callV h pc1 d hp hcode hlink hinst hsel hini hd ⟨hroom.1, hroom.2, hkm.1, hkm.2⟩ hq hqc hb hcat hC hst (fun v u hv => by rcases hv with ⟨rfl, hv⟩; exact k _ hv)
theorem V.callNf {y : MethodName} {cy : ByteArray} {mL dd index b ci : Nat} {host : String} {rt : Option FieldType} {As : List Value} {r : Int32} {w1 : Wd} {st0 : List Value} {fs : List Value} {q : vw_C} (h : Cx X cc own D mcT msT) (pc1 : Nat) (d : decode cc pc = .ok (.invokevirtual index, 3)) (hp : pc + 3 = pc1) (hcode : Cond.code y cy mL rt ∈ GW) (hlink : Cond.methodLinkNest own index y host ∈ lw_tbl) (hinst : Cond.instanceMethod y ∈ GW) (hsel : Cond.selects y.cls y y ∈ GW) (hini : Cond.initialized y.cls ∈ GW) (hd : y.cls ≠ "java/lang/invoke/MethodHandle" ∧ y.cls ≠ "java/lang/invoke/VarHandle" ∧ (parseMethodDescriptor y.desc).map (fun d => d.parameters.length) = some As.length) (hroom : dd + 1 ≤ D ∧ mL ≤ 20) (hcat : (st.map fun v => v.category).sum ≤ 8) (hb : w.2 b = some (.inr (ci, fs))) (hq : vwCl[ci]? = some q) (hqc : q.1 = y.cls) (hkm : kc ≤ mcT ∧ ks ≤ msT) (hC : Con y cy mL rt dd 0 0 (.ref b :: As) w (RI r w1)) (hst : st0 = As.reverse ++ .ref b :: st) (k : V X kc ks pc1 lv (.int r :: st) w1) : V X kc ks pc lv st0 w :=
  V.callN h pc1 d hp hcode hlink hinst hsel hini hd ⟨hroom.1, hroom.2, hkm.1, hkm.2⟩ hq hqc hb hcat hC hst (fun v u hv => by rcases hv with ⟨rfl, rfl⟩; exact k)
theorem V.callNfv {y : MethodName} {cy : ByteArray} {mL dd index b ci : Nat} {host : String} {rt : Option FieldType} {As : List Value} {w1 : Wd} {st0 : List Value} {fs : List Value} {q : vw_C} (h : Cx X cc own D mcT msT) (pc1 : Nat) (d : decode cc pc = .ok (.invokevirtual index, 3)) (hp : pc + 3 = pc1) (hcode : Cond.code y cy mL rt ∈ GW) (hlink : Cond.methodLinkNest own index y host ∈ lw_tbl) (hinst : Cond.instanceMethod y ∈ GW) (hsel : Cond.selects y.cls y y ∈ GW) (hini : Cond.initialized y.cls ∈ GW) (hd : y.cls ≠ "java/lang/invoke/MethodHandle" ∧ y.cls ≠ "java/lang/invoke/VarHandle" ∧ (parseMethodDescriptor y.desc).map (fun d => d.parameters.length) = some As.length) (hroom : dd + 1 ≤ D ∧ mL ≤ 20) (hcat : (st.map fun v => v.category).sum ≤ 8) (hb : w.2 b = some (.inr (ci, fs))) (hq : vwCl[ci]? = some q) (hqc : q.1 = y.cls) (hkm : kc ≤ mcT ∧ ks ≤ msT) (hC : Con y cy mL rt dd 0 0 (.ref b :: As) w (RV w1)) (hst : st0 = As.reverse ++ .ref b :: st) (k : V X kc ks pc1 lv st w1) : V X kc ks pc lv st0 w :=
  V.callN h pc1 d hp hcode hlink hinst hsel hini hd ⟨hroom.1, hroom.2, hkm.1, hkm.2⟩ hq hqc hb hcat hC hst (fun v u hv => by rcases hv with ⟨rfl, rfl⟩; exact k)
theorem V.callNfl {y : MethodName} {cy : ByteArray} {mL dd index b ci : Nat} {host : String} {rt : Option FieldType} {As : List Value} {rl : Int64} {w1 : Wd} {st0 : List Value} {fs : List Value} {q : vw_C} (h : Cx X cc own D mcT msT) (pc1 : Nat) (d : decode cc pc = .ok (.invokevirtual index, 3)) (hp : pc + 3 = pc1) (hcode : Cond.code y cy mL rt ∈ GW) (hlink : Cond.methodLinkNest own index y host ∈ lw_tbl) (hinst : Cond.instanceMethod y ∈ GW) (hsel : Cond.selects y.cls y y ∈ GW) (hini : Cond.initialized y.cls ∈ GW) (hd : y.cls ≠ "java/lang/invoke/MethodHandle" ∧ y.cls ≠ "java/lang/invoke/VarHandle" ∧ (parseMethodDescriptor y.desc).map (fun d => d.parameters.length) = some As.length) (hroom : dd + 1 ≤ D ∧ mL ≤ 20) (hcat : (st.map fun v => v.category).sum ≤ 8) (hb : w.2 b = some (.inr (ci, fs))) (hq : vwCl[ci]? = some q) (hqc : q.1 = y.cls) (hkm : kc ≤ mcT ∧ ks ≤ msT) (hC : Con y cy mL rt dd 0 0 (.ref b :: As) w (RLg rl w1)) (hst : st0 = As.reverse ++ .ref b :: st) (k : V X kc ks pc1 lv (.long rl :: st) w1) : V X kc ks pc lv st0 w :=
  V.callN h pc1 d hp hcode hlink hinst hsel hini hd ⟨hroom.1, hroom.2, hkm.1, hkm.2⟩ hq hqc hb hcat hC hst (fun v u hv => by rcases hv with ⟨rfl, rfl⟩; exact k)
theorem V.callNe {y : MethodName} {cy : ByteArray} {mL dd index b ci : Nat} {host : String} {rt : Option FieldType} {As : List Value} {r : Int32} {S : Wd → Prop} {st0 : List Value} {fs : List Value} {q : vw_C} (h : Cx X cc own D mcT msT) (pc1 : Nat) (d : decode cc pc = .ok (.invokevirtual index, 3)) (hp : pc + 3 = pc1) (hcode : Cond.code y cy mL rt ∈ GW) (hlink : Cond.methodLinkNest own index y host ∈ lw_tbl) (hinst : Cond.instanceMethod y ∈ GW) (hsel : Cond.selects y.cls y y ∈ GW) (hini : Cond.initialized y.cls ∈ GW) (hd : y.cls ≠ "java/lang/invoke/MethodHandle" ∧ y.cls ≠ "java/lang/invoke/VarHandle" ∧ (parseMethodDescriptor y.desc).map (fun d => d.parameters.length) = some As.length) (hroom : dd + 1 ≤ D ∧ mL ≤ 20) (hcat : (st.map fun v => v.category).sum ≤ 8) (hb : w.2 b = some (.inr (ci, fs))) (hq : vwCl[ci]? = some q) (hqc : q.1 = y.cls) (hkm : kc ≤ mcT ∧ ks ≤ msT) (hC : Con y cy mL rt dd 0 0 (.ref b :: As) w (RE r S)) (hst : st0 = As.reverse ++ .ref b :: st) (k : ∀ u, S u → V X kc ks pc1 lv (.int r :: st) u) : V X kc ks pc lv st0 w :=
  V.callN h pc1 d hp hcode hlink hinst hsel hini hd ⟨hroom.1, hroom.2, hkm.1, hkm.2⟩ hq hqc hb hcat hC hst (fun v u hv => by rcases hv with ⟨rfl, hv⟩; exact k _ hv)
theorem V.callNev {y : MethodName} {cy : ByteArray} {mL dd index b ci : Nat} {host : String} {rt : Option FieldType} {As : List Value} {S : Wd → Prop} {st0 : List Value} {fs : List Value} {q : vw_C} (h : Cx X cc own D mcT msT) (pc1 : Nat) (d : decode cc pc = .ok (.invokevirtual index, 3)) (hp : pc + 3 = pc1) (hcode : Cond.code y cy mL rt ∈ GW) (hlink : Cond.methodLinkNest own index y host ∈ lw_tbl) (hinst : Cond.instanceMethod y ∈ GW) (hsel : Cond.selects y.cls y y ∈ GW) (hini : Cond.initialized y.cls ∈ GW) (hd : y.cls ≠ "java/lang/invoke/MethodHandle" ∧ y.cls ≠ "java/lang/invoke/VarHandle" ∧ (parseMethodDescriptor y.desc).map (fun d => d.parameters.length) = some As.length) (hroom : dd + 1 ≤ D ∧ mL ≤ 20) (hcat : (st.map fun v => v.category).sum ≤ 8) (hb : w.2 b = some (.inr (ci, fs))) (hq : vwCl[ci]? = some q) (hqc : q.1 = y.cls) (hkm : kc ≤ mcT ∧ ks ≤ msT) (hC : Con y cy mL rt dd 0 0 (.ref b :: As) w (RVE S)) (hst : st0 = As.reverse ++ .ref b :: st) (k : ∀ u, S u → V X kc ks pc1 lv st u) : V X kc ks pc lv st0 w :=
  V.callN h pc1 d hp hcode hlink hinst hsel hini hd ⟨hroom.1, hroom.2, hkm.1, hkm.2⟩ hq hqc hb hcat hC hst (fun v u hv => by rcases hv with ⟨rfl, hv⟩; exact k _ hv)
theorem V.callNel {y : MethodName} {cy : ByteArray} {mL dd index b ci : Nat} {host : String} {rt : Option FieldType} {As : List Value} {rl : Int64} {S : Wd → Prop} {st0 : List Value} {fs : List Value} {q : vw_C} (h : Cx X cc own D mcT msT) (pc1 : Nat) (d : decode cc pc = .ok (.invokevirtual index, 3)) (hp : pc + 3 = pc1) (hcode : Cond.code y cy mL rt ∈ GW) (hlink : Cond.methodLinkNest own index y host ∈ lw_tbl) (hinst : Cond.instanceMethod y ∈ GW) (hsel : Cond.selects y.cls y y ∈ GW) (hini : Cond.initialized y.cls ∈ GW) (hd : y.cls ≠ "java/lang/invoke/MethodHandle" ∧ y.cls ≠ "java/lang/invoke/VarHandle" ∧ (parseMethodDescriptor y.desc).map (fun d => d.parameters.length) = some As.length) (hroom : dd + 1 ≤ D ∧ mL ≤ 20) (hcat : (st.map fun v => v.category).sum ≤ 8) (hb : w.2 b = some (.inr (ci, fs))) (hq : vwCl[ci]? = some q) (hqc : q.1 = y.cls) (hkm : kc ≤ mcT ∧ ks ≤ msT) (hC : Con y cy mL rt dd 0 0 (.ref b :: As) w (RLE rl S)) (hst : st0 = As.reverse ++ .ref b :: st) (k : ∀ u, S u → V X kc ks pc1 lv (.long rl :: st) u) : V X kc ks pc lv st0 w :=
  V.callN h pc1 d hp hcode hlink hinst hsel hini hd ⟨hroom.1, hroom.2, hkm.1, hkm.2⟩ hq hqc hb hcat hC hst (fun v u hv => by rcases hv with ⟨rfl, hv⟩; exact k _ hv)
theorem V.callSf {y : MethodName} {cy : ByteArray} {mL dd index : Nat} {rt : Option FieldType} {As : List Value} {r : Int32} {w1 : Wd} {st0 : List Value} (h : Cx X cc own D mcT msT) (pc1 : Nat) (d : decode cc pc = .ok (.invokestatic index, 3)) (hp : pc + 3 = pc1) (hcode : Cond.code y cy mL rt ∈ GW) (hlink : Cond.methodLink own index y ∈ GW) (hstat : Cond.static y ∈ GW) (hini : Cond.initialized y.cls ∈ GW) (hd : y.cls ≠ "java/lang/invoke/MethodHandle" ∧ y.cls ≠ "java/lang/invoke/VarHandle" ∧ (parseMethodDescriptor y.desc).map (fun d => d.parameters.length) = some As.length) (hroom : dd + 1 ≤ D ∧ mL ≤ 20) (hcat : (st.map fun v => v.category).sum ≤ 8) (hkm : kc ≤ mcT ∧ ks ≤ msT) (hC : Con y cy mL rt dd 0 0 As w (RI r w1)) (hst : st0 = As.reverse ++ st) (k : V X kc ks pc1 lv (.int r :: st) w1) : V X kc ks pc lv st0 w :=
  V.callS h pc1 d hp hcode hlink hstat hini hd ⟨hroom.1, hroom.2, hkm.1, hkm.2⟩ hcat hC hst (fun v u hv => by rcases hv with ⟨rfl, rfl⟩; exact k)
theorem V.gX0 (h : Cx X cc own D mcT msT) {index a : Nat} {fs : List Value} {v : Value} (k pc1 : Nat) (d : decode cc pc = .ok (.getfield index, 3)) (hp : pc + 3 = pc1) (hk : Nat.blt k 2 = true) (hl : Cond.fieldLink own index (TX0 k).1 (TX0 k).2.1 (TX0 k).2.2.1 ∈ GW) (he : w.2 a = some (.inr (0, fs))) (hv : fs[k]? = some v) (kk : V X kc ks pc1 lv (v :: st) w) : V X kc ks pc lv (.ref a :: st) w :=
  V.getf (ref := "") h k pc1 d hp inX0 (ci := 0) rfl (Nat.blt_eq.mp hk) hl he hv kk
theorem V.sX0 (h : Cx X cc own D mcT msT) {index a : Nat} {fs : List Value} {v : Value} (k pc1 : Nat) (d : decode cc pc = .ok (.putfield index, 3)) (hp : pc + 3 = pc1) (hk : Nat.blt k 2 = true) (hl : Cond.fieldLink own index (TX0 k).1 (TX0 k).2.1 (TX0 k).2.2.1 ∈ GW) (hfin : (TX0 k).2.2.2 = false) (hn : narrow (tyX0 k) v = v) (hfit : fits (tyX0 k) v = true) (he : w.2 a = some (.inr (0, fs))) (hlen : Nat.blt k fs.length = true) (kk : V X kc ks pc1 lv st (wset w a (.inr (0, fs.set k v)))) : V X kc ks pc lv (v :: .ref a :: st) w :=
  V.putf h k pc1 d hp inX0 (ci := 0) rfl tyX0_ok nmX0 (Nat.blt_eq.mp hk) hl hfin hn hfit he (Nat.blt_eq.mp hlen) kk
theorem V.gX0N (h : Cx X cc own D mcT msT) {host : String} {index a : Nat} {fs : List Value} {v : Value} (k pc1 : Nat) (d : decode cc pc = .ok (.getfield index, 3)) (hp : pc + 3 = pc1) (hk : Nat.blt k 2 = true) (hl : Cond.fieldLinkNest own index (TX0 k).1 (TX0 k).2.1 (TX0 k).2.2.1 host ∈ lw_tbl) (he : w.2 a = some (.inr (0, fs))) (hv : fs[k]? = some v) (kk : V X kc ks pc1 lv (v :: st) w) : V X kc ks pc lv (.ref a :: st) w :=
  V.getN (ref := "") h k pc1 d hp inX0 (ci := 0) rfl (Nat.blt_eq.mp hk) hl he hv kk
theorem V.sX0N (h : Cx X cc own D mcT msT) {host : String} {index a : Nat} {fs : List Value} {v : Value} (k pc1 : Nat) (d : decode cc pc = .ok (.putfield index, 3)) (hp : pc + 3 = pc1) (hk : Nat.blt k 2 = true) (hl : Cond.fieldLinkNest own index (TX0 k).1 (TX0 k).2.1 (TX0 k).2.2.1 host ∈ lw_tbl) (hfin : (TX0 k).2.2.2 = false) (hn : narrow (tyX0 k) v = v) (hfit : fits (tyX0 k) v = true) (he : w.2 a = some (.inr (0, fs))) (hlen : Nat.blt k fs.length = true) (kk : V X kc ks pc1 lv st (wset w a (.inr (0, fs.set k v)))) : V X kc ks pc lv (v :: .ref a :: st) w :=
  V.putN h k pc1 d hp inX0 (ci := 0) rfl tyX0_ok nmX0 (Nat.blt_eq.mp hk) hl hfin hn hfit he (Nat.blt_eq.mp hlen) kk
theorem V.fX0 (h : Cx X cc RX0 D mcT msT) {index a : Nat} {fs : List Value} {v : Value} (k pc1 : Nat) (d : decode cc pc = .ok (.putfield index, 3)) (hp : pc + 3 = pc1) (hinit : X.meth.name = "<init>") (hk : Nat.blt k 2 = true) (hl : Cond.fieldLink RX0 index (TX0 k).1 (TX0 k).2.1 (TX0 k).2.2.1 ∈ GW) (hfin : (TX0 k).2.2.2 = true) (hdecl : (TX0 k).1 = RX0) (hn : narrow (tyX0 k) v = v) (hfit : fits (tyX0 k) v = true) (he : w.2 a = some (.inr (0, fs))) (hlen : Nat.blt k fs.length = true) (kk : V X kc ks pc1 lv st (wset w a (.inr (0, fs.set k v)))) : V X kc ks pc lv (v :: .ref a :: st) w :=
  V.putF h k pc1 d hp hinit inX0 (ci := 0) rfl tyX0_ok nmX0 (Nat.blt_eq.mp hk) hl hfin hdecl hn hfit he (Nat.blt_eq.mp hlen) kk
theorem V.gX1 (h : Cx X cc own D mcT msT) {index a : Nat} {fs : List Value} {v : Value} (k pc1 : Nat) (d : decode cc pc = .ok (.getfield index, 3)) (hp : pc + 3 = pc1) (hk : Nat.blt k 4 = true) (hl : Cond.fieldLink own index (TX1 k).1 (TX1 k).2.1 (TX1 k).2.2.1 ∈ GW) (he : w.2 a = some (.inr (1, fs))) (hv : fs[k]? = some v) (kk : V X kc ks pc1 lv (v :: st) w) : V X kc ks pc lv (.ref a :: st) w :=
  V.getf (ref := "") h k pc1 d hp inX1 (ci := 1) rfl (Nat.blt_eq.mp hk) hl he hv kk
theorem V.sX1 (h : Cx X cc own D mcT msT) {index a : Nat} {fs : List Value} {v : Value} (k pc1 : Nat) (d : decode cc pc = .ok (.putfield index, 3)) (hp : pc + 3 = pc1) (hk : Nat.blt k 4 = true) (hl : Cond.fieldLink own index (TX1 k).1 (TX1 k).2.1 (TX1 k).2.2.1 ∈ GW) (hfin : (TX1 k).2.2.2 = false) (hn : narrow (tyX1 k) v = v) (hfit : fits (tyX1 k) v = true) (he : w.2 a = some (.inr (1, fs))) (hlen : Nat.blt k fs.length = true) (kk : V X kc ks pc1 lv st (wset w a (.inr (1, fs.set k v)))) : V X kc ks pc lv (v :: .ref a :: st) w :=
  V.putf h k pc1 d hp inX1 (ci := 1) rfl tyX1_ok nmX1 (Nat.blt_eq.mp hk) hl hfin hn hfit he (Nat.blt_eq.mp hlen) kk
theorem V.gX1N (h : Cx X cc own D mcT msT) {host : String} {index a : Nat} {fs : List Value} {v : Value} (k pc1 : Nat) (d : decode cc pc = .ok (.getfield index, 3)) (hp : pc + 3 = pc1) (hk : Nat.blt k 4 = true) (hl : Cond.fieldLinkNest own index (TX1 k).1 (TX1 k).2.1 (TX1 k).2.2.1 host ∈ lw_tbl) (he : w.2 a = some (.inr (1, fs))) (hv : fs[k]? = some v) (kk : V X kc ks pc1 lv (v :: st) w) : V X kc ks pc lv (.ref a :: st) w :=
  V.getN (ref := "") h k pc1 d hp inX1 (ci := 1) rfl (Nat.blt_eq.mp hk) hl he hv kk
theorem V.sX1N (h : Cx X cc own D mcT msT) {host : String} {index a : Nat} {fs : List Value} {v : Value} (k pc1 : Nat) (d : decode cc pc = .ok (.putfield index, 3)) (hp : pc + 3 = pc1) (hk : Nat.blt k 4 = true) (hl : Cond.fieldLinkNest own index (TX1 k).1 (TX1 k).2.1 (TX1 k).2.2.1 host ∈ lw_tbl) (hfin : (TX1 k).2.2.2 = false) (hn : narrow (tyX1 k) v = v) (hfit : fits (tyX1 k) v = true) (he : w.2 a = some (.inr (1, fs))) (hlen : Nat.blt k fs.length = true) (kk : V X kc ks pc1 lv st (wset w a (.inr (1, fs.set k v)))) : V X kc ks pc lv (v :: .ref a :: st) w :=
  V.putN h k pc1 d hp inX1 (ci := 1) rfl tyX1_ok nmX1 (Nat.blt_eq.mp hk) hl hfin hn hfit he (Nat.blt_eq.mp hlen) kk
theorem V.fX1 (h : Cx X cc RX1 D mcT msT) {index a : Nat} {fs : List Value} {v : Value} (k pc1 : Nat) (d : decode cc pc = .ok (.putfield index, 3)) (hp : pc + 3 = pc1) (hinit : X.meth.name = "<init>") (hk : Nat.blt k 4 = true) (hl : Cond.fieldLink RX1 index (TX1 k).1 (TX1 k).2.1 (TX1 k).2.2.1 ∈ GW) (hfin : (TX1 k).2.2.2 = true) (hdecl : (TX1 k).1 = RX1) (hn : narrow (tyX1 k) v = v) (hfit : fits (tyX1 k) v = true) (he : w.2 a = some (.inr (1, fs))) (hlen : Nat.blt k fs.length = true) (kk : V X kc ks pc1 lv st (wset w a (.inr (1, fs.set k v)))) : V X kc ks pc lv (v :: .ref a :: st) w :=
  V.putF h k pc1 d hp hinit inX1 (ci := 1) rfl tyX1_ok nmX1 (Nat.blt_eq.mp hk) hl hfin hdecl hn hfit he (Nat.blt_eq.mp hlen) kk
theorem V.gX2 (h : Cx X cc own D mcT msT) {index a : Nat} {fs : List Value} {v : Value} (k pc1 : Nat) (d : decode cc pc = .ok (.getfield index, 3)) (hp : pc + 3 = pc1) (hk : Nat.blt k 17 = true) (hl : Cond.fieldLink own index (TX2 k).1 (TX2 k).2.1 (TX2 k).2.2.1 ∈ GW) (he : w.2 a = some (.inr (2, fs))) (hv : fs[k]? = some v) (kk : V X kc ks pc1 lv (v :: st) w) : V X kc ks pc lv (.ref a :: st) w :=
  V.getf (ref := "") h k pc1 d hp inX2 (ci := 2) rfl (Nat.blt_eq.mp hk) hl he hv kk
theorem V.sX2 (h : Cx X cc own D mcT msT) {index a : Nat} {fs : List Value} {v : Value} (k pc1 : Nat) (d : decode cc pc = .ok (.putfield index, 3)) (hp : pc + 3 = pc1) (hk : Nat.blt k 17 = true) (hl : Cond.fieldLink own index (TX2 k).1 (TX2 k).2.1 (TX2 k).2.2.1 ∈ GW) (hfin : (TX2 k).2.2.2 = false) (hn : narrow (tyX2 k) v = v) (hfit : fits (tyX2 k) v = true) (he : w.2 a = some (.inr (2, fs))) (hlen : Nat.blt k fs.length = true) (kk : V X kc ks pc1 lv st (wset w a (.inr (2, fs.set k v)))) : V X kc ks pc lv (v :: .ref a :: st) w :=
  V.putf h k pc1 d hp inX2 (ci := 2) rfl tyX2_ok nmX2 (Nat.blt_eq.mp hk) hl hfin hn hfit he (Nat.blt_eq.mp hlen) kk
theorem V.gX2N (h : Cx X cc own D mcT msT) {host : String} {index a : Nat} {fs : List Value} {v : Value} (k pc1 : Nat) (d : decode cc pc = .ok (.getfield index, 3)) (hp : pc + 3 = pc1) (hk : Nat.blt k 17 = true) (hl : Cond.fieldLinkNest own index (TX2 k).1 (TX2 k).2.1 (TX2 k).2.2.1 host ∈ lw_tbl) (he : w.2 a = some (.inr (2, fs))) (hv : fs[k]? = some v) (kk : V X kc ks pc1 lv (v :: st) w) : V X kc ks pc lv (.ref a :: st) w :=
  V.getN (ref := "") h k pc1 d hp inX2 (ci := 2) rfl (Nat.blt_eq.mp hk) hl he hv kk
theorem V.sX2N (h : Cx X cc own D mcT msT) {host : String} {index a : Nat} {fs : List Value} {v : Value} (k pc1 : Nat) (d : decode cc pc = .ok (.putfield index, 3)) (hp : pc + 3 = pc1) (hk : Nat.blt k 17 = true) (hl : Cond.fieldLinkNest own index (TX2 k).1 (TX2 k).2.1 (TX2 k).2.2.1 host ∈ lw_tbl) (hfin : (TX2 k).2.2.2 = false) (hn : narrow (tyX2 k) v = v) (hfit : fits (tyX2 k) v = true) (he : w.2 a = some (.inr (2, fs))) (hlen : Nat.blt k fs.length = true) (kk : V X kc ks pc1 lv st (wset w a (.inr (2, fs.set k v)))) : V X kc ks pc lv (v :: .ref a :: st) w :=
  V.putN h k pc1 d hp inX2 (ci := 2) rfl tyX2_ok nmX2 (Nat.blt_eq.mp hk) hl hfin hn hfit he (Nat.blt_eq.mp hlen) kk
theorem V.fX2 (h : Cx X cc RX2 D mcT msT) {index a : Nat} {fs : List Value} {v : Value} (k pc1 : Nat) (d : decode cc pc = .ok (.putfield index, 3)) (hp : pc + 3 = pc1) (hinit : X.meth.name = "<init>") (hk : Nat.blt k 17 = true) (hl : Cond.fieldLink RX2 index (TX2 k).1 (TX2 k).2.1 (TX2 k).2.2.1 ∈ GW) (hfin : (TX2 k).2.2.2 = true) (hdecl : (TX2 k).1 = RX2) (hn : narrow (tyX2 k) v = v) (hfit : fits (tyX2 k) v = true) (he : w.2 a = some (.inr (2, fs))) (hlen : Nat.blt k fs.length = true) (kk : V X kc ks pc1 lv st (wset w a (.inr (2, fs.set k v)))) : V X kc ks pc lv (v :: .ref a :: st) w :=
  V.putF h k pc1 d hp hinit inX2 (ci := 2) rfl tyX2_ok nmX2 (Nat.blt_eq.mp hk) hl hfin hdecl hn hfit he (Nat.blt_eq.mp hlen) kk
theorem V.gX3 (h : Cx X cc own D mcT msT) {index a : Nat} {fs : List Value} {v : Value} (k pc1 : Nat) (d : decode cc pc = .ok (.getfield index, 3)) (hp : pc + 3 = pc1) (hk : Nat.blt k 9 = true) (hl : Cond.fieldLink own index (TX3 k).1 (TX3 k).2.1 (TX3 k).2.2.1 ∈ GW) (he : w.2 a = some (.inr (3, fs))) (hv : fs[k]? = some v) (kk : V X kc ks pc1 lv (v :: st) w) : V X kc ks pc lv (.ref a :: st) w :=
  V.getf (ref := "") h k pc1 d hp inX3 (ci := 3) rfl (Nat.blt_eq.mp hk) hl he hv kk
theorem V.sX3 (h : Cx X cc own D mcT msT) {index a : Nat} {fs : List Value} {v : Value} (k pc1 : Nat) (d : decode cc pc = .ok (.putfield index, 3)) (hp : pc + 3 = pc1) (hk : Nat.blt k 9 = true) (hl : Cond.fieldLink own index (TX3 k).1 (TX3 k).2.1 (TX3 k).2.2.1 ∈ GW) (hfin : (TX3 k).2.2.2 = false) (hn : narrow (tyX3 k) v = v) (hfit : fits (tyX3 k) v = true) (he : w.2 a = some (.inr (3, fs))) (hlen : Nat.blt k fs.length = true) (kk : V X kc ks pc1 lv st (wset w a (.inr (3, fs.set k v)))) : V X kc ks pc lv (v :: .ref a :: st) w :=
  V.putf h k pc1 d hp inX3 (ci := 3) rfl tyX3_ok nmX3 (Nat.blt_eq.mp hk) hl hfin hn hfit he (Nat.blt_eq.mp hlen) kk
theorem V.gX3N (h : Cx X cc own D mcT msT) {host : String} {index a : Nat} {fs : List Value} {v : Value} (k pc1 : Nat) (d : decode cc pc = .ok (.getfield index, 3)) (hp : pc + 3 = pc1) (hk : Nat.blt k 9 = true) (hl : Cond.fieldLinkNest own index (TX3 k).1 (TX3 k).2.1 (TX3 k).2.2.1 host ∈ lw_tbl) (he : w.2 a = some (.inr (3, fs))) (hv : fs[k]? = some v) (kk : V X kc ks pc1 lv (v :: st) w) : V X kc ks pc lv (.ref a :: st) w :=
  V.getN (ref := "") h k pc1 d hp inX3 (ci := 3) rfl (Nat.blt_eq.mp hk) hl he hv kk
theorem V.sX3N (h : Cx X cc own D mcT msT) {host : String} {index a : Nat} {fs : List Value} {v : Value} (k pc1 : Nat) (d : decode cc pc = .ok (.putfield index, 3)) (hp : pc + 3 = pc1) (hk : Nat.blt k 9 = true) (hl : Cond.fieldLinkNest own index (TX3 k).1 (TX3 k).2.1 (TX3 k).2.2.1 host ∈ lw_tbl) (hfin : (TX3 k).2.2.2 = false) (hn : narrow (tyX3 k) v = v) (hfit : fits (tyX3 k) v = true) (he : w.2 a = some (.inr (3, fs))) (hlen : Nat.blt k fs.length = true) (kk : V X kc ks pc1 lv st (wset w a (.inr (3, fs.set k v)))) : V X kc ks pc lv (v :: .ref a :: st) w :=
  V.putN h k pc1 d hp inX3 (ci := 3) rfl tyX3_ok nmX3 (Nat.blt_eq.mp hk) hl hfin hn hfit he (Nat.blt_eq.mp hlen) kk
theorem V.fX3 (h : Cx X cc RX3 D mcT msT) {index a : Nat} {fs : List Value} {v : Value} (k pc1 : Nat) (d : decode cc pc = .ok (.putfield index, 3)) (hp : pc + 3 = pc1) (hinit : X.meth.name = "<init>") (hk : Nat.blt k 9 = true) (hl : Cond.fieldLink RX3 index (TX3 k).1 (TX3 k).2.1 (TX3 k).2.2.1 ∈ GW) (hfin : (TX3 k).2.2.2 = true) (hdecl : (TX3 k).1 = RX3) (hn : narrow (tyX3 k) v = v) (hfit : fits (tyX3 k) v = true) (he : w.2 a = some (.inr (3, fs))) (hlen : Nat.blt k fs.length = true) (kk : V X kc ks pc1 lv st (wset w a (.inr (3, fs.set k v)))) : V X kc ks pc lv (v :: .ref a :: st) w :=
  V.putF h k pc1 d hp hinit inX3 (ci := 3) rfl tyX3_ok nmX3 (Nat.blt_eq.mp hk) hl hfin hdecl hn hfit he (Nat.blt_eq.mp hlen) kk
theorem V.gX4 (h : Cx X cc own D mcT msT) {index a : Nat} {fs : List Value} {v : Value} (k pc1 : Nat) (d : decode cc pc = .ok (.getfield index, 3)) (hp : pc + 3 = pc1) (hk : Nat.blt k 7 = true) (hl : Cond.fieldLink own index (TX4 k).1 (TX4 k).2.1 (TX4 k).2.2.1 ∈ GW) (he : w.2 a = some (.inr (4, fs))) (hv : fs[k]? = some v) (kk : V X kc ks pc1 lv (v :: st) w) : V X kc ks pc lv (.ref a :: st) w :=
  V.getf (ref := "") h k pc1 d hp inX4 (ci := 4) rfl (Nat.blt_eq.mp hk) hl he hv kk
theorem V.sX4 (h : Cx X cc own D mcT msT) {index a : Nat} {fs : List Value} {v : Value} (k pc1 : Nat) (d : decode cc pc = .ok (.putfield index, 3)) (hp : pc + 3 = pc1) (hk : Nat.blt k 7 = true) (hl : Cond.fieldLink own index (TX4 k).1 (TX4 k).2.1 (TX4 k).2.2.1 ∈ GW) (hfin : (TX4 k).2.2.2 = false) (hn : narrow (tyX4 k) v = v) (hfit : fits (tyX4 k) v = true) (he : w.2 a = some (.inr (4, fs))) (hlen : Nat.blt k fs.length = true) (kk : V X kc ks pc1 lv st (wset w a (.inr (4, fs.set k v)))) : V X kc ks pc lv (v :: .ref a :: st) w :=
  V.putf h k pc1 d hp inX4 (ci := 4) rfl tyX4_ok nmX4 (Nat.blt_eq.mp hk) hl hfin hn hfit he (Nat.blt_eq.mp hlen) kk
theorem V.gX4N (h : Cx X cc own D mcT msT) {host : String} {index a : Nat} {fs : List Value} {v : Value} (k pc1 : Nat) (d : decode cc pc = .ok (.getfield index, 3)) (hp : pc + 3 = pc1) (hk : Nat.blt k 7 = true) (hl : Cond.fieldLinkNest own index (TX4 k).1 (TX4 k).2.1 (TX4 k).2.2.1 host ∈ lw_tbl) (he : w.2 a = some (.inr (4, fs))) (hv : fs[k]? = some v) (kk : V X kc ks pc1 lv (v :: st) w) : V X kc ks pc lv (.ref a :: st) w :=
  V.getN (ref := "") h k pc1 d hp inX4 (ci := 4) rfl (Nat.blt_eq.mp hk) hl he hv kk
theorem V.sX4N (h : Cx X cc own D mcT msT) {host : String} {index a : Nat} {fs : List Value} {v : Value} (k pc1 : Nat) (d : decode cc pc = .ok (.putfield index, 3)) (hp : pc + 3 = pc1) (hk : Nat.blt k 7 = true) (hl : Cond.fieldLinkNest own index (TX4 k).1 (TX4 k).2.1 (TX4 k).2.2.1 host ∈ lw_tbl) (hfin : (TX4 k).2.2.2 = false) (hn : narrow (tyX4 k) v = v) (hfit : fits (tyX4 k) v = true) (he : w.2 a = some (.inr (4, fs))) (hlen : Nat.blt k fs.length = true) (kk : V X kc ks pc1 lv st (wset w a (.inr (4, fs.set k v)))) : V X kc ks pc lv (v :: .ref a :: st) w :=
  V.putN h k pc1 d hp inX4 (ci := 4) rfl tyX4_ok nmX4 (Nat.blt_eq.mp hk) hl hfin hn hfit he (Nat.blt_eq.mp hlen) kk
theorem V.fX4 (h : Cx X cc RX4 D mcT msT) {index a : Nat} {fs : List Value} {v : Value} (k pc1 : Nat) (d : decode cc pc = .ok (.putfield index, 3)) (hp : pc + 3 = pc1) (hinit : X.meth.name = "<init>") (hk : Nat.blt k 7 = true) (hl : Cond.fieldLink RX4 index (TX4 k).1 (TX4 k).2.1 (TX4 k).2.2.1 ∈ GW) (hfin : (TX4 k).2.2.2 = true) (hdecl : (TX4 k).1 = RX4) (hn : narrow (tyX4 k) v = v) (hfit : fits (tyX4 k) v = true) (he : w.2 a = some (.inr (4, fs))) (hlen : Nat.blt k fs.length = true) (kk : V X kc ks pc1 lv st (wset w a (.inr (4, fs.set k v)))) : V X kc ks pc lv (v :: .ref a :: st) w :=
  V.putF h k pc1 d hp hinit inX4 (ci := 4) rfl tyX4_ok nmX4 (Nat.blt_eq.mp hk) hl hfin hdecl hn hfit he (Nat.blt_eq.mp hlen) kk
theorem V.gX5 (h : Cx X cc own D mcT msT) {index a : Nat} {fs : List Value} {v : Value} (k pc1 : Nat) (d : decode cc pc = .ok (.getfield index, 3)) (hp : pc + 3 = pc1) (hk : Nat.blt k 15 = true) (hl : Cond.fieldLink own index (TX5 k).1 (TX5 k).2.1 (TX5 k).2.2.1 ∈ GW) (he : w.2 a = some (.inr (5, fs))) (hv : fs[k]? = some v) (kk : V X kc ks pc1 lv (v :: st) w) : V X kc ks pc lv (.ref a :: st) w :=
  V.getf (ref := "") h k pc1 d hp inX5 (ci := 5) rfl (Nat.blt_eq.mp hk) hl he hv kk
theorem V.sX5 (h : Cx X cc own D mcT msT) {index a : Nat} {fs : List Value} {v : Value} (k pc1 : Nat) (d : decode cc pc = .ok (.putfield index, 3)) (hp : pc + 3 = pc1) (hk : Nat.blt k 15 = true) (hl : Cond.fieldLink own index (TX5 k).1 (TX5 k).2.1 (TX5 k).2.2.1 ∈ GW) (hfin : (TX5 k).2.2.2 = false) (hn : narrow (tyX5 k) v = v) (hfit : fits (tyX5 k) v = true) (he : w.2 a = some (.inr (5, fs))) (hlen : Nat.blt k fs.length = true) (kk : V X kc ks pc1 lv st (wset w a (.inr (5, fs.set k v)))) : V X kc ks pc lv (v :: .ref a :: st) w :=
  V.putf h k pc1 d hp inX5 (ci := 5) rfl tyX5_ok nmX5 (Nat.blt_eq.mp hk) hl hfin hn hfit he (Nat.blt_eq.mp hlen) kk
theorem V.gX5N (h : Cx X cc own D mcT msT) {host : String} {index a : Nat} {fs : List Value} {v : Value} (k pc1 : Nat) (d : decode cc pc = .ok (.getfield index, 3)) (hp : pc + 3 = pc1) (hk : Nat.blt k 15 = true) (hl : Cond.fieldLinkNest own index (TX5 k).1 (TX5 k).2.1 (TX5 k).2.2.1 host ∈ lw_tbl) (he : w.2 a = some (.inr (5, fs))) (hv : fs[k]? = some v) (kk : V X kc ks pc1 lv (v :: st) w) : V X kc ks pc lv (.ref a :: st) w :=
  V.getN (ref := "") h k pc1 d hp inX5 (ci := 5) rfl (Nat.blt_eq.mp hk) hl he hv kk
theorem V.sX5N (h : Cx X cc own D mcT msT) {host : String} {index a : Nat} {fs : List Value} {v : Value} (k pc1 : Nat) (d : decode cc pc = .ok (.putfield index, 3)) (hp : pc + 3 = pc1) (hk : Nat.blt k 15 = true) (hl : Cond.fieldLinkNest own index (TX5 k).1 (TX5 k).2.1 (TX5 k).2.2.1 host ∈ lw_tbl) (hfin : (TX5 k).2.2.2 = false) (hn : narrow (tyX5 k) v = v) (hfit : fits (tyX5 k) v = true) (he : w.2 a = some (.inr (5, fs))) (hlen : Nat.blt k fs.length = true) (kk : V X kc ks pc1 lv st (wset w a (.inr (5, fs.set k v)))) : V X kc ks pc lv (v :: .ref a :: st) w :=
  V.putN h k pc1 d hp inX5 (ci := 5) rfl tyX5_ok nmX5 (Nat.blt_eq.mp hk) hl hfin hn hfit he (Nat.blt_eq.mp hlen) kk
theorem V.fX5 (h : Cx X cc RX5 D mcT msT) {index a : Nat} {fs : List Value} {v : Value} (k pc1 : Nat) (d : decode cc pc = .ok (.putfield index, 3)) (hp : pc + 3 = pc1) (hinit : X.meth.name = "<init>") (hk : Nat.blt k 15 = true) (hl : Cond.fieldLink RX5 index (TX5 k).1 (TX5 k).2.1 (TX5 k).2.2.1 ∈ GW) (hfin : (TX5 k).2.2.2 = true) (hdecl : (TX5 k).1 = RX5) (hn : narrow (tyX5 k) v = v) (hfit : fits (tyX5 k) v = true) (he : w.2 a = some (.inr (5, fs))) (hlen : Nat.blt k fs.length = true) (kk : V X kc ks pc1 lv st (wset w a (.inr (5, fs.set k v)))) : V X kc ks pc lv (v :: .ref a :: st) w :=
  V.putF h k pc1 d hp hinit inX5 (ci := 5) rfl tyX5_ok nmX5 (Nat.blt_eq.mp hk) hl hfin hdecl hn hfit he (Nat.blt_eq.mp hlen) kk
end V6
/-! a block of cells, at addresses one behind another -/
def rs (w : Wd) (b n : Nat) (c : Nat → Ce) : Wd := (w.1, fun q => if b ≤ q ∧ q < b + n then some (c (q - b)) else w.2 q)
def cu (c : Nat → Ce) (k : Nat) (e : Ce) : Nat → Ce := fun i => if i = k then e else c i
def RA (w : Wd) (b n : Nat) (c : Nat → Ce) : Prop := ∀ k, k < n → w.2 (b + k) = some (c k)
theorem rs_in {w : Wd} {b n : Nat} {c : Nat → Ce} {k : Nat} (h : k < n) : (rs w b n c).2 (b + k) = some (c k) := by
  unfold rs
  dsimp only
  rw [if_pos ⟨by omega, by omega⟩]
  congr 2
  omega
theorem rs_out {w : Wd} {b n : Nat} {c : Nat → Ce} {q : Nat} (h : q < b ∨ b + n ≤ q) : (rs w b n c).2 q = w.2 q := by
  unfold rs
  dsimp only
  rw [if_neg (by omega)]
theorem wset_self (w : Wd) (a : Nat) (e : Ce) : (wset w a e).2 a = some e := by unfold wset; dsimp only; rw [if_pos rfl]
theorem wset_ne {w : Wd} {a q : Nat} {e : Ce} (h : q ≠ a) : (wset w a e).2 q = w.2 q := by unfold wset; dsimp only; rw [if_neg h]
theorem wd_ext {w w' : Wd} (h1 : w.1 = w'.1) (h2 : ∀ q, w.2 q = w'.2 q) : w = w' := Prod.ext h1 (funext h2)
theorem wset_rs {w : Wd} {b n : Nat} {c : Nat → Ce} {k : Nat} (h : k < n) (e : Ce) : wset (rs w b n c) (b + k) e = rs w b n (cu c k e) := by
  refine wd_ext rfl fun q => ?_
  by_cases hq : q = b + k
  · subst hq
    rw [wset_self, rs_in h]
    unfold cu
    rw [if_pos rfl]
  · rw [wset_ne hq]
    by_cases h1 : b ≤ q ∧ q < b + n
    · obtain ⟨j, rfl⟩ : ∃ j, q = b + j := ⟨q - b, by omega⟩
      rw [rs_in (by omega), rs_in (by omega)]
      unfold cu
      rw [if_neg (by omega)]
    · rw [rs_out (by omega), rs_out (by omega)]
theorem wset_rs_out {w : Wd} {b n : Nat} {c : Nat → Ce} {a : Nat} (h : a < b ∨ b + n ≤ a) (e : Ce) : wset (rs w b n c) a e = rs (wset w a e) b n c := by
  refine wd_ext rfl fun q => ?_
  by_cases hq : q = a
  · subst hq
    rw [wset_self, rs_out h, wset_self]
  · rw [wset_ne hq]
    by_cases h1 : b ≤ q ∧ q < b + n
    · obtain ⟨j, rfl⟩ : ∃ j, q = b + j := ⟨q - b, by omega⟩
      rw [rs_in (by omega), rs_in (by omega)]
    · rw [rs_out (by omega), rs_out (by omega), wset_ne hq]
theorem rs_rs {w : Wd} {b n : Nat} {c c' : Nat → Ce} : rs (rs w b n c) b n c' = rs w b n c' := by
  refine wd_ext rfl fun q => ?_
  by_cases h1 : b ≤ q ∧ q < b + n
  · obtain ⟨j, rfl⟩ : ∃ j, q = b + j := ⟨q - b, by omega⟩
    rw [rs_in (by omega), rs_in (by omega)]
  · rw [rs_out (by omega), rs_out (by omega), rs_out (by omega)]
theorem rs_comm {w : Wd} {b n b' n' : Nat} {c c' : Nat → Ce} (h : b + n ≤ b' ∨ b' + n' ≤ b) : rs (rs w b n c) b' n' c' = rs (rs w b' n' c') b n c := by
  refine wd_ext rfl fun q => ?_
  by_cases h1 : b ≤ q ∧ q < b + n
  · obtain ⟨j, rfl⟩ : ∃ j, q = b + j := ⟨q - b, by omega⟩
    rw [rs_out (by omega), rs_in (by omega), rs_in (by omega)]
  · by_cases h2 : b' ≤ q ∧ q < b' + n'
    · obtain ⟨j, rfl⟩ : ∃ j, q = b' + j := ⟨q - b', by omega⟩
      rw [rs_in (by omega), rs_out (by omega), rs_in (by omega)]
    · rw [rs_out (by omega), rs_out (by omega), rs_out (by omega), rs_out (by omega)]
theorem RA_rs {w : Wd} {b n : Nat} {c : Nat → Ce} : RA (rs w b n c) b n c := fun _ h => rs_in h
theorem RA.rs {w : Wd} {b n b' n' : Nat} {c c' : Nat → Ce} (h : RA w b n c) (hd : b + n ≤ b' ∨ b' + n' ≤ b) : RA (rs w b' n' c') b n c := fun k hk => by rw [rs_out (by omega)]; exact h k hk
theorem RA.wset {w : Wd} {b n a : Nat} {c : Nat → Ce} {e : Ce} (h : RA w b n c) (hd : a < b ∨ b + n ≤ a) : RA (wset w a e) b n c := fun k hk => by rw [wset_ne (by omega)]; exact h k hk
theorem RA.id {w : Wd} {b n : Nat} {c : Nat → Ce} (h : RA w b n c) : _root_.Jvm.Pilot.CPledgeTipsLaw_law_r3089_549eb5.rs w b n c = w := by
  refine wd_ext rfl fun q => ?_
  by_cases h1 : b ≤ q ∧ q < b + n
  · obtain ⟨j, rfl⟩ : ∃ j, q = b + j := ⟨q - b, by omega⟩
    rw [rs_in (by omega), h j (by omega)]
  · rw [rs_out (by omega)]
abbrev Pl : Type := Nat → Nat → Int32
def us (P : Pl) (f : Nat) (v : Int32) : Pl := fun i => if i = f then (fun _ => v) else P i
def ua (P : Pl) (f : Nat) (g : Nat → Int32) : Pl := fun i => if i = f then g else P i
abbrev ints (n : Nat) (f : Nat → Int32) : Ce := .inl (0, n, .inl f)

def mfl (b : Nat) (M : Pl) : List Value := [.ref (b + 1), .ref (b + 2), .ref (b + 3), .int (M 3 0), .ref (b + 4), .int (M 5 0), .int (M 6 0), .int (M 7 0), .ref (b + 5), .int (M 9 0), .int (M 10 0), .int (M 11 0), .int (M 12 0), .int (M 13 0), .ref (b + 6)]
def mcl (b : Nat) (M : Pl) : Nat → Ce := fun i => match i with
  | 0 => .inr (5, mfl b M)
  | 1 => ints 125 (M 0)
  | 2 => ints 125 (M 1)
  | 3 => ints 500 (M 2)
  | 4 => ints 80 (M 4)
  | 5 => ints 12 (M 8)
  | 6 => ints 5 (M 14)
  | _ => .inr (0, [])
def ms (w : Wd) (b : Nat) (M : Pl) : Wd := rs w b 7 (mcl b M)
section MS
variable {w : Wd} {b : Nat} {M : Pl}
theorem mo : (ms w b M).2 b = some (.inr (5, mfl b M)) := rs_in (k := 0) (by decide)
theorem ma1 : (ms w b M).2 (b + 1) = some (ints 125 (M 0)) := rs_in (k := 1) (by decide)
theorem ma2 : (ms w b M).2 (b + 2) = some (ints 125 (M 1)) := rs_in (k := 2) (by decide)
theorem ma3 : (ms w b M).2 (b + 3) = some (ints 500 (M 2)) := rs_in (k := 3) (by decide)
theorem ma4 : (ms w b M).2 (b + 4) = some (ints 80 (M 4)) := rs_in (k := 4) (by decide)
theorem ma5 : (ms w b M).2 (b + 5) = some (ints 12 (M 8)) := rs_in (k := 5) (by decide)
theorem ma6 : (ms w b M).2 (b + 6) = some (ints 5 (M 14)) := rs_in (k := 6) (by decide)
theorem mp3 {v : Int32} : wset (ms w b M) b (.inr (5, (mfl b M).set 3 (.int v))) = ms w b (us M 3 v) := by
  unfold ms; refine (wset_rs (k := 0) (by decide) _).trans ?_; congr 1; funext i; match i with
  | 0 => rfl
  | 1 => rfl
  | 2 => rfl
  | 3 => rfl
  | 4 => rfl
  | 5 => rfl
  | 6 => rfl
  | n + 7 => rfl
theorem mp5 {v : Int32} : wset (ms w b M) b (.inr (5, (mfl b M).set 5 (.int v))) = ms w b (us M 5 v) := by
  unfold ms; refine (wset_rs (k := 0) (by decide) _).trans ?_; congr 1; funext i; match i with
  | 0 => rfl
  | 1 => rfl
  | 2 => rfl
  | 3 => rfl
  | 4 => rfl
  | 5 => rfl
  | 6 => rfl
  | n + 7 => rfl
theorem mp6 {v : Int32} : wset (ms w b M) b (.inr (5, (mfl b M).set 6 (.int v))) = ms w b (us M 6 v) := by
  unfold ms; refine (wset_rs (k := 0) (by decide) _).trans ?_; congr 1; funext i; match i with
  | 0 => rfl
  | 1 => rfl
  | 2 => rfl
  | 3 => rfl
  | 4 => rfl
  | 5 => rfl
  | 6 => rfl
  | n + 7 => rfl
theorem mp7 {v : Int32} : wset (ms w b M) b (.inr (5, (mfl b M).set 7 (.int v))) = ms w b (us M 7 v) := by
  unfold ms; refine (wset_rs (k := 0) (by decide) _).trans ?_; congr 1; funext i; match i with
  | 0 => rfl
  | 1 => rfl
  | 2 => rfl
  | 3 => rfl
  | 4 => rfl
  | 5 => rfl
  | 6 => rfl
  | n + 7 => rfl
theorem mp9 {v : Int32} : wset (ms w b M) b (.inr (5, (mfl b M).set 9 (.int v))) = ms w b (us M 9 v) := by
  unfold ms; refine (wset_rs (k := 0) (by decide) _).trans ?_; congr 1; funext i; match i with
  | 0 => rfl
  | 1 => rfl
  | 2 => rfl
  | 3 => rfl
  | 4 => rfl
  | 5 => rfl
  | 6 => rfl
  | n + 7 => rfl
theorem mp10 {v : Int32} : wset (ms w b M) b (.inr (5, (mfl b M).set 10 (.int v))) = ms w b (us M 10 v) := by
  unfold ms; refine (wset_rs (k := 0) (by decide) _).trans ?_; congr 1; funext i; match i with
  | 0 => rfl
  | 1 => rfl
  | 2 => rfl
  | 3 => rfl
  | 4 => rfl
  | 5 => rfl
  | 6 => rfl
  | n + 7 => rfl
theorem mp11 {v : Int32} : wset (ms w b M) b (.inr (5, (mfl b M).set 11 (.int v))) = ms w b (us M 11 v) := by
  unfold ms; refine (wset_rs (k := 0) (by decide) _).trans ?_; congr 1; funext i; match i with
  | 0 => rfl
  | 1 => rfl
  | 2 => rfl
  | 3 => rfl
  | 4 => rfl
  | 5 => rfl
  | 6 => rfl
  | n + 7 => rfl
theorem mp12 {v : Int32} : wset (ms w b M) b (.inr (5, (mfl b M).set 12 (.int v))) = ms w b (us M 12 v) := by
  unfold ms; refine (wset_rs (k := 0) (by decide) _).trans ?_; congr 1; funext i; match i with
  | 0 => rfl
  | 1 => rfl
  | 2 => rfl
  | 3 => rfl
  | 4 => rfl
  | 5 => rfl
  | 6 => rfl
  | n + 7 => rfl
theorem mp13 {v : Int32} : wset (ms w b M) b (.inr (5, (mfl b M).set 13 (.int v))) = ms w b (us M 13 v) := by
  unfold ms; refine (wset_rs (k := 0) (by decide) _).trans ?_; congr 1; funext i; match i with
  | 0 => rfl
  | 1 => rfl
  | 2 => rfl
  | 3 => rfl
  | 4 => rfl
  | 5 => rfl
  | 6 => rfl
  | n + 7 => rfl
theorem mw1 {f : Nat → Int32} : wset (ms w b M) (b + 1) (ints 125 f) = ms w b (ua M 0 f) := by
  unfold ms; refine (wset_rs (k := 1) (by decide) _).trans ?_; congr 1; funext i; match i with
  | 0 => rfl
  | 1 => rfl
  | 2 => rfl
  | 3 => rfl
  | 4 => rfl
  | 5 => rfl
  | 6 => rfl
  | n + 7 => rfl
theorem mw2 {f : Nat → Int32} : wset (ms w b M) (b + 2) (ints 125 f) = ms w b (ua M 1 f) := by
  unfold ms; refine (wset_rs (k := 2) (by decide) _).trans ?_; congr 1; funext i; match i with
  | 0 => rfl
  | 1 => rfl
  | 2 => rfl
  | 3 => rfl
  | 4 => rfl
  | 5 => rfl
  | 6 => rfl
  | n + 7 => rfl
theorem mw3 {f : Nat → Int32} : wset (ms w b M) (b + 3) (ints 500 f) = ms w b (ua M 2 f) := by
  unfold ms; refine (wset_rs (k := 3) (by decide) _).trans ?_; congr 1; funext i; match i with
  | 0 => rfl
  | 1 => rfl
  | 2 => rfl
  | 3 => rfl
  | 4 => rfl
  | 5 => rfl
  | 6 => rfl
  | n + 7 => rfl
theorem mw4 {f : Nat → Int32} : wset (ms w b M) (b + 4) (ints 80 f) = ms w b (ua M 4 f) := by
  unfold ms; refine (wset_rs (k := 4) (by decide) _).trans ?_; congr 1; funext i; match i with
  | 0 => rfl
  | 1 => rfl
  | 2 => rfl
  | 3 => rfl
  | 4 => rfl
  | 5 => rfl
  | 6 => rfl
  | n + 7 => rfl
theorem mw5 {f : Nat → Int32} : wset (ms w b M) (b + 5) (ints 12 f) = ms w b (ua M 8 f) := by
  unfold ms; refine (wset_rs (k := 5) (by decide) _).trans ?_; congr 1; funext i; match i with
  | 0 => rfl
  | 1 => rfl
  | 2 => rfl
  | 3 => rfl
  | 4 => rfl
  | 5 => rfl
  | 6 => rfl
  | n + 7 => rfl
theorem mw6 {f : Nat → Int32} : wset (ms w b M) (b + 6) (ints 5 f) = ms w b (ua M 14 f) := by
  unfold ms; refine (wset_rs (k := 6) (by decide) _).trans ?_; congr 1; funext i; match i with
  | 0 => rfl
  | 1 => rfl
  | 2 => rfl
  | 3 => rfl
  | 4 => rfl
  | 5 => rfl
  | 6 => rfl
  | n + 7 => rfl
end MS
def pfl (p : Nat) (P : Pl) : List Value := [.int (P 0 0), .ref (p + 1), .int (P 2 0), .int (P 3 0), .ref (p + 2), .ref (p + 3), .int (P 6 0), .int (P 7 0), .ref (p + 4), .ref (p + 5), .ref (p + 6), .ref (p + 7), .ref (p + 8), .ref (p + 9), .int (P 14 0), .int (P 15 0), .int (P 16 0)]
def pcl (p : Nat) (P : Pl) : Nat → Ce := fun i => match i with
  | 0 => .inr (2, pfl p P)
  | 1 => ints 4 (P 1)
  | 2 => ints 8 (P 4)
  | 3 => ints 8 (P 5)
  | 4 => ints 13 (P 8)
  | 5 => ints 13 (P 9)
  | 6 => ints 13 (P 10)
  | 7 => ints 13 (P 11)
  | 8 => ints 13 (P 12)
  | 9 => ints 13 (P 13)
  | _ => .inr (0, [])
abbrev PlaceAt (w : Wd) (p : Nat) (P : Pl) : Prop := RA w p 10 (pcl p P)
def ps (w : Wd) (p : Nat) (P : Pl) : Wd := rs w p 10 (pcl p P)
section PS
variable {w : Wd} {p : Nat} {P : Pl}
theorem RA.po (h : PlaceAt w p P) : w.2 p = some (.inr (2, pfl p P)) := h 0 (by decide)
theorem RA.pa1 (h : PlaceAt w p P) : w.2 (p + 1) = some (ints 4 (P 1)) := h 1 (by decide)
theorem RA.pa2 (h : PlaceAt w p P) : w.2 (p + 2) = some (ints 8 (P 4)) := h 2 (by decide)
theorem RA.pa3 (h : PlaceAt w p P) : w.2 (p + 3) = some (ints 8 (P 5)) := h 3 (by decide)
theorem RA.pa4 (h : PlaceAt w p P) : w.2 (p + 4) = some (ints 13 (P 8)) := h 4 (by decide)
theorem RA.pa5 (h : PlaceAt w p P) : w.2 (p + 5) = some (ints 13 (P 9)) := h 5 (by decide)
theorem RA.pa6 (h : PlaceAt w p P) : w.2 (p + 6) = some (ints 13 (P 10)) := h 6 (by decide)
theorem RA.pa7 (h : PlaceAt w p P) : w.2 (p + 7) = some (ints 13 (P 11)) := h 7 (by decide)
theorem RA.pa8 (h : PlaceAt w p P) : w.2 (p + 8) = some (ints 13 (P 12)) := h 8 (by decide)
theorem RA.pa9 (h : PlaceAt w p P) : w.2 (p + 9) = some (ints 13 (P 13)) := h 9 (by decide)
theorem pp0 {v : Int32} : wset (ps w p P) p (.inr (2, (pfl p P).set 0 (.int v))) = ps w p (us P 0 v) := by
  unfold ps; refine (wset_rs (k := 0) (by decide) _).trans ?_; congr 1; funext i; match i with
  | 0 => rfl
  | 1 => rfl
  | 2 => rfl
  | 3 => rfl
  | 4 => rfl
  | 5 => rfl
  | 6 => rfl
  | 7 => rfl
  | 8 => rfl
  | 9 => rfl
  | n + 10 => rfl
theorem pp2 {v : Int32} : wset (ps w p P) p (.inr (2, (pfl p P).set 2 (.int v))) = ps w p (us P 2 v) := by
  unfold ps; refine (wset_rs (k := 0) (by decide) _).trans ?_; congr 1; funext i; match i with
  | 0 => rfl
  | 1 => rfl
  | 2 => rfl
  | 3 => rfl
  | 4 => rfl
  | 5 => rfl
  | 6 => rfl
  | 7 => rfl
  | 8 => rfl
  | 9 => rfl
  | n + 10 => rfl
theorem pp3 {v : Int32} : wset (ps w p P) p (.inr (2, (pfl p P).set 3 (.int v))) = ps w p (us P 3 v) := by
  unfold ps; refine (wset_rs (k := 0) (by decide) _).trans ?_; congr 1; funext i; match i with
  | 0 => rfl
  | 1 => rfl
  | 2 => rfl
  | 3 => rfl
  | 4 => rfl
  | 5 => rfl
  | 6 => rfl
  | 7 => rfl
  | 8 => rfl
  | 9 => rfl
  | n + 10 => rfl
theorem pp6 {v : Int32} : wset (ps w p P) p (.inr (2, (pfl p P).set 6 (.int v))) = ps w p (us P 6 v) := by
  unfold ps; refine (wset_rs (k := 0) (by decide) _).trans ?_; congr 1; funext i; match i with
  | 0 => rfl
  | 1 => rfl
  | 2 => rfl
  | 3 => rfl
  | 4 => rfl
  | 5 => rfl
  | 6 => rfl
  | 7 => rfl
  | 8 => rfl
  | 9 => rfl
  | n + 10 => rfl
theorem pp7 {v : Int32} : wset (ps w p P) p (.inr (2, (pfl p P).set 7 (.int v))) = ps w p (us P 7 v) := by
  unfold ps; refine (wset_rs (k := 0) (by decide) _).trans ?_; congr 1; funext i; match i with
  | 0 => rfl
  | 1 => rfl
  | 2 => rfl
  | 3 => rfl
  | 4 => rfl
  | 5 => rfl
  | 6 => rfl
  | 7 => rfl
  | 8 => rfl
  | 9 => rfl
  | n + 10 => rfl
theorem pp14 {v : Int32} : wset (ps w p P) p (.inr (2, (pfl p P).set 14 (.int v))) = ps w p (us P 14 v) := by
  unfold ps; refine (wset_rs (k := 0) (by decide) _).trans ?_; congr 1; funext i; match i with
  | 0 => rfl
  | 1 => rfl
  | 2 => rfl
  | 3 => rfl
  | 4 => rfl
  | 5 => rfl
  | 6 => rfl
  | 7 => rfl
  | 8 => rfl
  | 9 => rfl
  | n + 10 => rfl
theorem pp15 {v : Int32} : wset (ps w p P) p (.inr (2, (pfl p P).set 15 (.int v))) = ps w p (us P 15 v) := by
  unfold ps; refine (wset_rs (k := 0) (by decide) _).trans ?_; congr 1; funext i; match i with
  | 0 => rfl
  | 1 => rfl
  | 2 => rfl
  | 3 => rfl
  | 4 => rfl
  | 5 => rfl
  | 6 => rfl
  | 7 => rfl
  | 8 => rfl
  | 9 => rfl
  | n + 10 => rfl
theorem pp16 {v : Int32} : wset (ps w p P) p (.inr (2, (pfl p P).set 16 (.int v))) = ps w p (us P 16 v) := by
  unfold ps; refine (wset_rs (k := 0) (by decide) _).trans ?_; congr 1; funext i; match i with
  | 0 => rfl
  | 1 => rfl
  | 2 => rfl
  | 3 => rfl
  | 4 => rfl
  | 5 => rfl
  | 6 => rfl
  | 7 => rfl
  | 8 => rfl
  | 9 => rfl
  | n + 10 => rfl
theorem pw1 {f : Nat → Int32} : wset (ps w p P) (p + 1) (ints 4 f) = ps w p (ua P 1 f) := by
  unfold ps; refine (wset_rs (k := 1) (by decide) _).trans ?_; congr 1; funext i; match i with
  | 0 => rfl
  | 1 => rfl
  | 2 => rfl
  | 3 => rfl
  | 4 => rfl
  | 5 => rfl
  | 6 => rfl
  | 7 => rfl
  | 8 => rfl
  | 9 => rfl
  | n + 10 => rfl
theorem pw2 {f : Nat → Int32} : wset (ps w p P) (p + 2) (ints 8 f) = ps w p (ua P 4 f) := by
  unfold ps; refine (wset_rs (k := 2) (by decide) _).trans ?_; congr 1; funext i; match i with
  | 0 => rfl
  | 1 => rfl
  | 2 => rfl
  | 3 => rfl
  | 4 => rfl
  | 5 => rfl
  | 6 => rfl
  | 7 => rfl
  | 8 => rfl
  | 9 => rfl
  | n + 10 => rfl
theorem pw3 {f : Nat → Int32} : wset (ps w p P) (p + 3) (ints 8 f) = ps w p (ua P 5 f) := by
  unfold ps; refine (wset_rs (k := 3) (by decide) _).trans ?_; congr 1; funext i; match i with
  | 0 => rfl
  | 1 => rfl
  | 2 => rfl
  | 3 => rfl
  | 4 => rfl
  | 5 => rfl
  | 6 => rfl
  | 7 => rfl
  | 8 => rfl
  | 9 => rfl
  | n + 10 => rfl
theorem pw4 {f : Nat → Int32} : wset (ps w p P) (p + 4) (ints 13 f) = ps w p (ua P 8 f) := by
  unfold ps; refine (wset_rs (k := 4) (by decide) _).trans ?_; congr 1; funext i; match i with
  | 0 => rfl
  | 1 => rfl
  | 2 => rfl
  | 3 => rfl
  | 4 => rfl
  | 5 => rfl
  | 6 => rfl
  | 7 => rfl
  | 8 => rfl
  | 9 => rfl
  | n + 10 => rfl
theorem pw5 {f : Nat → Int32} : wset (ps w p P) (p + 5) (ints 13 f) = ps w p (ua P 9 f) := by
  unfold ps; refine (wset_rs (k := 5) (by decide) _).trans ?_; congr 1; funext i; match i with
  | 0 => rfl
  | 1 => rfl
  | 2 => rfl
  | 3 => rfl
  | 4 => rfl
  | 5 => rfl
  | 6 => rfl
  | 7 => rfl
  | 8 => rfl
  | 9 => rfl
  | n + 10 => rfl
theorem pw6 {f : Nat → Int32} : wset (ps w p P) (p + 6) (ints 13 f) = ps w p (ua P 10 f) := by
  unfold ps; refine (wset_rs (k := 6) (by decide) _).trans ?_; congr 1; funext i; match i with
  | 0 => rfl
  | 1 => rfl
  | 2 => rfl
  | 3 => rfl
  | 4 => rfl
  | 5 => rfl
  | 6 => rfl
  | 7 => rfl
  | 8 => rfl
  | 9 => rfl
  | n + 10 => rfl
theorem pw7 {f : Nat → Int32} : wset (ps w p P) (p + 7) (ints 13 f) = ps w p (ua P 11 f) := by
  unfold ps; refine (wset_rs (k := 7) (by decide) _).trans ?_; congr 1; funext i; match i with
  | 0 => rfl
  | 1 => rfl
  | 2 => rfl
  | 3 => rfl
  | 4 => rfl
  | 5 => rfl
  | 6 => rfl
  | 7 => rfl
  | 8 => rfl
  | 9 => rfl
  | n + 10 => rfl
theorem pw8 {f : Nat → Int32} : wset (ps w p P) (p + 8) (ints 13 f) = ps w p (ua P 12 f) := by
  unfold ps; refine (wset_rs (k := 8) (by decide) _).trans ?_; congr 1; funext i; match i with
  | 0 => rfl
  | 1 => rfl
  | 2 => rfl
  | 3 => rfl
  | 4 => rfl
  | 5 => rfl
  | 6 => rfl
  | 7 => rfl
  | 8 => rfl
  | 9 => rfl
  | n + 10 => rfl
theorem pw9 {f : Nat → Int32} : wset (ps w p P) (p + 9) (ints 13 f) = ps w p (ua P 13 f) := by
  unfold ps; refine (wset_rs (k := 9) (by decide) _).trans ?_; congr 1; funext i; match i with
  | 0 => rfl
  | 1 => rfl
  | 2 => rfl
  | 3 => rfl
  | 4 => rfl
  | 5 => rfl
  | 6 => rfl
  | 7 => rfl
  | 8 => rfl
  | 9 => rfl
  | n + 10 => rfl
theorem PlaceAt_ps : PlaceAt (ps w p P) p P := RA_rs
theorem ps_ps {P1 : Pl} : ps (ps w p P) p P1 = ps w p P1 := rs_rs
end PS
def jfl (p j : Nat) (J : Pl) : List Value := [.ref p, .ref (j + 1), .ref (j + 2), .int (J 3 0)]
def jcl (p j : Nat) (J : Pl) : Nat → Ce := fun i => match i with
  | 0 => .inr (1, jfl p j J)
  | 1 => ints 4 (J 1)
  | 2 => ints 4 (J 2)
  | _ => .inr (0, [])
abbrev JudgeAt (w : Wd) (p j : Nat) (J : Pl) : Prop := RA w j 3 (jcl p j J)
def js (w : Wd) (p j : Nat) (J : Pl) : Wd := rs w j 3 (jcl p j J)
section JS
variable {w : Wd} {p j : Nat} {J : Pl}
theorem jo : (js w p j J).2 j = some (.inr (1, jfl p j J)) := rs_in (k := 0) (by decide)
theorem ja1 : (js w p j J).2 (j + 1) = some (ints 4 (J 1)) := rs_in (k := 1) (by decide)
theorem ja2 : (js w p j J).2 (j + 2) = some (ints 4 (J 2)) := rs_in (k := 2) (by decide)
theorem jp3 {v : Int32} : wset (js w p j J) j (.inr (1, (jfl p j J).set 3 (.int v))) = js w p j (us J 3 v) := by
  unfold js; refine (wset_rs (k := 0) (by decide) _).trans ?_; congr 1; funext i; match i with
  | 0 => rfl
  | 1 => rfl
  | 2 => rfl
  | n + 3 => rfl
theorem jw1 {f : Nat → Int32} : wset (js w p j J) (j + 1) (ints 4 f) = js w p j (ua J 1 f) := by
  unfold js; refine (wset_rs (k := 1) (by decide) _).trans ?_; congr 1; funext i; match i with
  | 0 => rfl
  | 1 => rfl
  | 2 => rfl
  | n + 3 => rfl
theorem jw2 {f : Nat → Int32} : wset (js w p j J) (j + 2) (ints 4 f) = js w p j (ua J 2 f) := by
  unfold js; refine (wset_rs (k := 2) (by decide) _).trans ?_; congr 1; funext i; match i with
  | 0 => rfl
  | 1 => rfl
  | 2 => rfl
  | n + 3 => rfl
theorem js_js {J1 : Pl} : js (js w p j J) p j J1 = js w p j J1 := rs_rs
theorem JudgeAt_js : JudgeAt (js w p j J) p j J := RA_rs
theorem PlaceAt_js {P : Pl} (h : PlaceAt w p P) (hd : p + 10 ≤ j ∨ j + 3 ≤ p) : PlaceAt (js w p j J) p P := RA.rs h hd
end JS
end
section
theorem hd_J6_bitCount_0f7a4 : yJ6_bitCount_0f7a4.cls ≠ "java/lang/invoke/MethodHandle" ∧ yJ6_bitCount_0f7a4.cls ≠ "java/lang/invoke/VarHandle" ∧ (parseMethodDescriptor yJ6_bitCount_0f7a4.desc).map (fun d => d.parameters.length) = some 1 := by decide +kernel
abbrev K_J6_bitCount_0f7a4 (args : List Value) (w : Wd) (Q : Option Value → Wd → Prop) : Prop := Con yJ6_bitCount_0f7a4 cJ6_bitCount_0f7a4 1 (some FieldType.int) 1 0 0 args w Q
theorem hd_X0_addPerson : yX0_addPerson.cls ≠ "java/lang/invoke/MethodHandle" ∧ yX0_addPerson.cls ≠ "java/lang/invoke/VarHandle" ∧ (parseMethodDescriptor yX0_addPerson.desc).map (fun d => d.parameters.length) = some 1 := by decide +kernel
abbrev K_X0_addPerson (args : List Value) (w : Wd) (Q : Option Value → Wd → Prop) : Prop := Con yX0_addPerson cX0_addPerson 3 (some FieldType.int) 1 0 0 args w Q
theorem hd_X0_addProject : yX0_addProject.cls ≠ "java/lang/invoke/MethodHandle" ∧ yX0_addProject.cls ≠ "java/lang/invoke/VarHandle" ∧ (parseMethodDescriptor yX0_addProject.desc).map (fun d => d.parameters.length) = some 1 := by decide +kernel
abbrev K_X0_addProject (args : List Value) (w : Wd) (Q : Option Value → Wd → Prop) : Prop := Con yX0_addProject cX0_addProject 3 (some FieldType.int) 1 0 0 args w Q
theorem hd_X0_collect : yX0_collect.cls ≠ "java/lang/invoke/MethodHandle" ∧ yX0_collect.cls ≠ "java/lang/invoke/VarHandle" ∧ (parseMethodDescriptor yX0_collect.desc).map (fun d => d.parameters.length) = some 1 := by decide +kernel
abbrev K_X0_collect (args : List Value) (w : Wd) (Q : Option Value → Wd → Prop) : Prop := Con yX0_collect cX0_collect 7 (some FieldType.int) 4 0 0 args w Q
theorem hd_X0_init : yX0_init.cls ≠ "java/lang/invoke/MethodHandle" ∧ yX0_init.cls ≠ "java/lang/invoke/VarHandle" ∧ (parseMethodDescriptor yX0_init.desc).map (fun d => d.parameters.length) = some 2 := by decide +kernel
abbrev K_X0_init (mc ms : Nat) (args : List Value) (w : Wd) (Q : Option Value → Wd → Prop) : Prop := Con yX0_init cX0_init 3 (none) 1 mc ms args w Q
theorem hd_X0_isCondition : yX0_isCondition.cls ≠ "java/lang/invoke/MethodHandle" ∧ yX0_isCondition.cls ≠ "java/lang/invoke/VarHandle" ∧ (parseMethodDescriptor yX0_isCondition.desc).map (fun d => d.parameters.length) = some 4 := by decide +kernel
abbrev K_X0_isCondition (args : List Value) (w : Wd) (Q : Option Value → Wd → Prop) : Prop := Con yX0_isCondition cX0_isCondition 5 (some FieldType.boolean) 2 0 0 args w Q
theorem hd_X0_makePledge : yX0_makePledge.cls ≠ "java/lang/invoke/MethodHandle" ∧ yX0_makePledge.cls ≠ "java/lang/invoke/VarHandle" ∧ (parseMethodDescriptor yX0_makePledge.desc).map (fun d => d.parameters.length) = some 5 := by decide +kernel
abbrev K_X0_makePledge (args : List Value) (w : Wd) (Q : Option Value → Wd → Prop) : Prop := Con yX0_makePledge cX0_makePledge 8 (some FieldType.int) 4 0 0 args w Q
theorem hd_X0_takeBack : yX0_takeBack.cls ≠ "java/lang/invoke/MethodHandle" ∧ yX0_takeBack.cls ≠ "java/lang/invoke/VarHandle" ∧ (parseMethodDescriptor yX0_takeBack.desc).map (fun d => d.parameters.length) = some 1 := by decide +kernel
abbrev K_X0_takeBack (args : List Value) (w : Wd) (Q : Option Value → Wd → Prop) : Prop := Con yX0_takeBack cX0_takeBack 4 (some FieldType.int) 4 0 0 args w Q
theorem hd_X1_failing : yX1_failing.cls ≠ "java/lang/invoke/MethodHandle" ∧ yX1_failing.cls ≠ "java/lang/invoke/VarHandle" ∧ (parseMethodDescriptor yX1_failing.desc).map (fun d => d.parameters.length) = some 2 := by decide +kernel
abbrev K_X1_failing (args : List Value) (w : Wd) (Q : Option Value → Wd → Prop) : Prop := Con yX1_failing cX1_failing 5 (some FieldType.int) 2 0 0 args w Q
theorem hd_X1_fallenWithout : yX1_fallenWithout.cls ≠ "java/lang/invoke/MethodHandle" ∧ yX1_fallenWithout.cls ≠ "java/lang/invoke/VarHandle" ∧ (parseMethodDescriptor yX1_fallenWithout.desc).map (fun d => d.parameters.length) = some 1 := by decide +kernel
abbrev K_X1_fallenWithout (args : List Value) (w : Wd) (Q : Option Value → Wd → Prop) : Prop := Con yX1_fallenWithout cX1_fallenWithout 2 (some FieldType.int) 6 0 0 args w Q
theorem hd_X1_gather : yX1_gather.cls ≠ "java/lang/invoke/MethodHandle" ∧ yX1_gather.cls ≠ "java/lang/invoke/VarHandle" ∧ (parseMethodDescriptor yX1_gather.desc).map (fun d => d.parameters.length) = some 1 := by decide +kernel
abbrev K_X1_gather (args : List Value) (w : Wd) (Q : Option Value → Wd → Prop) : Prop := Con yX1_gather cX1_gather 4 (none) 1 0 0 args w Q
theorem hd_X1_greatest : yX1_greatest.cls ≠ "java/lang/invoke/MethodHandle" ∧ yX1_greatest.cls ≠ "java/lang/invoke/VarHandle" ∧ (parseMethodDescriptor yX1_greatest.desc).map (fun d => d.parameters.length) = some 2 := by decide +kernel
abbrev K_X1_greatest (args : List Value) (w : Wd) (Q : Option Value → Wd → Prop) : Prop := Con yX1_greatest cX1_greatest 6 (some FieldType.int) 3 0 0 args w Q
theorem hd_X1_hasGoal : yX1_hasGoal.cls ≠ "java/lang/invoke/MethodHandle" ∧ yX1_hasGoal.cls ≠ "java/lang/invoke/VarHandle" ∧ (parseMethodDescriptor yX1_hasGoal.desc).map (fun d => d.parameters.length) = some 1 := by decide +kernel
abbrev K_X1_hasGoal (args : List Value) (w : Wd) (Q : Option Value → Wd → Prop) : Prop := Con yX1_hasGoal cX1_hasGoal 2 (some FieldType.boolean) 5 0 0 args w Q
theorem hd_X1_holds : yX1_holds.cls ≠ "java/lang/invoke/MethodHandle" ∧ yX1_holds.cls ≠ "java/lang/invoke/VarHandle" ∧ (parseMethodDescriptor yX1_holds.desc).map (fun d => d.parameters.length) = some 1 := by decide +kernel
abbrev K_X1_holds (args : List Value) (w : Wd) (Q : Option Value → Wd → Prop) : Prop := Con yX1_holds cX1_holds 5 (some FieldType.boolean) 1 0 0 args w Q
theorem hd_X1_init : yX1_init.cls ≠ "java/lang/invoke/MethodHandle" ∧ yX1_init.cls ≠ "java/lang/invoke/VarHandle" ∧ (parseMethodDescriptor yX1_init.desc).map (fun d => d.parameters.length) = some 1 := by decide +kernel
abbrev K_X1_init (mc ms : Nat) (args : List Value) (w : Wd) (Q : Option Value → Wd → Prop) : Prop := Con yX1_init cX1_init 2 (none) 1 mc ms args w Q
theorem hd_X1_needed : yX1_needed.cls ≠ "java/lang/invoke/MethodHandle" ∧ yX1_needed.cls ≠ "java/lang/invoke/VarHandle" ∧ (parseMethodDescriptor yX1_needed.desc).map (fun d => d.parameters.length) = some 1 := by decide +kernel
abbrev K_X1_needed (args : List Value) (w : Wd) (Q : Option Value → Wd → Prop) : Prop := Con yX1_needed cX1_needed 5 (some FieldType.int) 5 0 0 args w Q
theorem hd_X1_projectsWithGoal : yX1_projectsWithGoal.cls ≠ "java/lang/invoke/MethodHandle" ∧ yX1_projectsWithGoal.cls ≠ "java/lang/invoke/VarHandle" ∧ (parseMethodDescriptor yX1_projectsWithGoal.desc).map (fun d => d.parameters.length) = some 0 := by decide +kernel
abbrev K_X1_projectsWithGoal (args : List Value) (w : Wd) (Q : Option Value → Wd → Prop) : Prop := Con yX1_projectsWithGoal cX1_projectsWithGoal 3 (some FieldType.int) 6 0 0 args w Q
theorem hd_X1_push : yX1_push.cls ≠ "java/lang/invoke/MethodHandle" ∧ yX1_push.cls ≠ "java/lang/invoke/VarHandle" ∧ (parseMethodDescriptor yX1_push.desc).map (fun d => d.parameters.length) = some 1 := by decide +kernel
abbrev K_X1_push (args : List Value) (w : Wd) (Q : Option Value → Wd → Prop) : Prop := Con yX1_push cX1_push 6 (some FieldType.int) 6 0 0 args w Q
theorem hd_X1_reaches : yX1_reaches.cls ≠ "java/lang/invoke/MethodHandle" ∧ yX1_reaches.cls ≠ "java/lang/invoke/VarHandle" ∧ (parseMethodDescriptor yX1_reaches.desc).map (fun d => d.parameters.length) = some 3 := by decide +kernel
abbrev K_X1_reaches (args : List Value) (w : Wd) (Q : Option Value → Wd → Prop) : Prop := Con yX1_reaches cX1_reaches 5 (some FieldType.boolean) 4 0 0 args w Q
theorem hd_X1_reachesWith : yX1_reachesWith.cls ≠ "java/lang/invoke/MethodHandle" ∧ yX1_reachesWith.cls ≠ "java/lang/invoke/VarHandle" ∧ (parseMethodDescriptor yX1_reachesWith.desc).map (fun d => d.parameters.length) = some 2 := by decide +kernel
abbrev K_X1_reachesWith (args : List Value) (w : Wd) (Q : Option Value → Wd → Prop) : Prop := Con yX1_reachesWith cX1_reachesWith 4 (some FieldType.boolean) 4 0 0 args w Q
theorem hd_X1_setsThatHold : yX1_setsThatHold.cls ≠ "java/lang/invoke/MethodHandle" ∧ yX1_setsThatHold.cls ≠ "java/lang/invoke/VarHandle" ∧ (parseMethodDescriptor yX1_setsThatHold.desc).map (fun d => d.parameters.length) = some 0 := by decide +kernel
abbrev K_X1_setsThatHold (args : List Value) (w : Wd) (Q : Option Value → Wd → Prop) : Prop := Con yX1_setsThatHold cX1_setsThatHold 4 (some FieldType.int) 4 0 0 args w Q
theorem hd_X1_stand : yX1_stand.cls ≠ "java/lang/invoke/MethodHandle" ∧ yX1_stand.cls ≠ "java/lang/invoke/VarHandle" ∧ (parseMethodDescriptor yX1_stand.desc).map (fun d => d.parameters.length) = some 0 := by decide +kernel
abbrev K_X1_stand (args : List Value) (w : Wd) (Q : Option Value → Wd → Prop) : Prop := Con yX1_stand cX1_stand 1 (some FieldType.int) 5 0 0 args w Q
theorem hd_X1_standWithout : yX1_standWithout.cls ≠ "java/lang/invoke/MethodHandle" ∧ yX1_standWithout.cls ≠ "java/lang/invoke/VarHandle" ∧ (parseMethodDescriptor yX1_standWithout.desc).map (fun d => d.parameters.length) = some 1 := by decide +kernel
abbrev K_X1_standWithout (args : List Value) (w : Wd) (Q : Option Value → Wd → Prop) : Prop := Con yX1_standWithout cX1_standWithout 2 (some FieldType.int) 4 0 0 args w Q
theorem hd_X1_tip : yX1_tip.cls ≠ "java/lang/invoke/MethodHandle" ∧ yX1_tip.cls ≠ "java/lang/invoke/VarHandle" ∧ (parseMethodDescriptor yX1_tip.desc).map (fun d => d.parameters.length) = some 1 := by decide +kernel
abbrev K_X1_tip (args : List Value) (w : Wd) (Q : Option Value → Wd → Prop) : Prop := Con yX1_tip cX1_tip 6 (some FieldType.int) 5 0 0 args w Q
theorem hd_X1_waveOf : yX1_waveOf.cls ≠ "java/lang/invoke/MethodHandle" ∧ yX1_waveOf.cls ≠ "java/lang/invoke/VarHandle" ∧ (parseMethodDescriptor yX1_waveOf.desc).map (fun d => d.parameters.length) = some 1 := by decide +kernel
abbrev K_X1_waveOf (args : List Value) (w : Wd) (Q : Option Value → Wd → Prop) : Prop := Con yX1_waveOf cX1_waveOf 5 (some FieldType.int) 3 0 0 args w Q
theorem hd_X1_waves : yX1_waves.cls ≠ "java/lang/invoke/MethodHandle" ∧ yX1_waves.cls ≠ "java/lang/invoke/VarHandle" ∧ (parseMethodDescriptor yX1_waves.desc).map (fun d => d.parameters.length) = some 0 := by decide +kernel
abbrev K_X1_waves (args : List Value) (w : Wd) (Q : Option Value → Wd → Prop) : Prop := Con yX1_waves cX1_waves 5 (some FieldType.int) 3 0 0 args w Q
theorem hd_X2_copyFrom : yX2_copyFrom.cls ≠ "java/lang/invoke/MethodHandle" ∧ yX2_copyFrom.cls ≠ "java/lang/invoke/VarHandle" ∧ (parseMethodDescriptor yX2_copyFrom.desc).map (fun d => d.parameters.length) = some 1 := by decide +kernel
abbrev K_X2_copyFrom (args : List Value) (w : Wd) (Q : Option Value → Wd → Prop) : Prop := Con yX2_copyFrom cX2_copyFrom 2 (none) 1 0 0 args w Q
theorem hd_X2_hasPerson : yX2_hasPerson.cls ≠ "java/lang/invoke/MethodHandle" ∧ yX2_hasPerson.cls ≠ "java/lang/invoke/VarHandle" ∧ (parseMethodDescriptor yX2_hasPerson.desc).map (fun d => d.parameters.length) = some 1 := by decide +kernel
abbrev K_X2_hasPerson (args : List Value) (w : Wd) (Q : Option Value → Wd → Prop) : Prop := Con yX2_hasPerson cX2_hasPerson 2 (some FieldType.boolean) 1 0 0 args w Q
theorem hd_X2_hasPledge : yX2_hasPledge.cls ≠ "java/lang/invoke/MethodHandle" ∧ yX2_hasPledge.cls ≠ "java/lang/invoke/VarHandle" ∧ (parseMethodDescriptor yX2_hasPledge.desc).map (fun d => d.parameters.length) = some 1 := by decide +kernel
abbrev K_X2_hasPledge (args : List Value) (w : Wd) (Q : Option Value → Wd → Prop) : Prop := Con yX2_hasPledge cX2_hasPledge 2 (some FieldType.boolean) 2 0 0 args w Q
theorem hd_X2_hasProject : yX2_hasProject.cls ≠ "java/lang/invoke/MethodHandle" ∧ yX2_hasProject.cls ≠ "java/lang/invoke/VarHandle" ∧ (parseMethodDescriptor yX2_hasProject.desc).map (fun d => d.parameters.length) = some 1 := by decide +kernel
abbrev K_X2_hasProject (args : List Value) (w : Wd) (Q : Option Value → Wd → Prop) : Prop := Con yX2_hasProject cX2_hasProject 2 (some FieldType.boolean) 1 0 0 args w Q
theorem hd_X2_init : yX2_init.cls ≠ "java/lang/invoke/MethodHandle" ∧ yX2_init.cls ≠ "java/lang/invoke/VarHandle" ∧ (parseMethodDescriptor yX2_init.desc).map (fun d => d.parameters.length) = some 0 := by decide +kernel
abbrev K_X2_init (mc ms : Nat) (args : List Value) (w : Wd) (Q : Option Value → Wd → Prop) : Prop := Con yX2_init cX2_init 1 (none) 1 mc ms args w Q
theorem hd_X2_isClosed : yX2_isClosed.cls ≠ "java/lang/invoke/MethodHandle" ∧ yX2_isClosed.cls ≠ "java/lang/invoke/VarHandle" ∧ (parseMethodDescriptor yX2_isClosed.desc).map (fun d => d.parameters.length) = some 1 := by decide +kernel
abbrev K_X2_isClosed (args : List Value) (w : Wd) (Q : Option Value → Wd → Prop) : Prop := Con yX2_isClosed cX2_isClosed 2 (some FieldType.boolean) 1 0 0 args w Q
theorem hd_X2_lowestFreeNumber : yX2_lowestFreeNumber.cls ≠ "java/lang/invoke/MethodHandle" ∧ yX2_lowestFreeNumber.cls ≠ "java/lang/invoke/VarHandle" ∧ (parseMethodDescriptor yX2_lowestFreeNumber.desc).map (fun d => d.parameters.length) = some 0 := by decide +kernel
abbrev K_X2_lowestFreeNumber (args : List Value) (w : Wd) (Q : Option Value → Wd → Prop) : Prop := Con yX2_lowestFreeNumber cX2_lowestFreeNumber 2 (some FieldType.int) 3 0 0 args w Q
theorem hd_X2_pledges : yX2_pledges.cls ≠ "java/lang/invoke/MethodHandle" ∧ yX2_pledges.cls ≠ "java/lang/invoke/VarHandle" ∧ (parseMethodDescriptor yX2_pledges.desc).map (fun d => d.parameters.length) = some 0 := by decide +kernel
abbrev K_X2_pledges (args : List Value) (w : Wd) (Q : Option Value → Wd → Prop) : Prop := Con yX2_pledges cX2_pledges 1 (some FieldType.int) 1 0 0 args w Q
theorem hd_X2_pledgesFor : yX2_pledgesFor.cls ≠ "java/lang/invoke/MethodHandle" ∧ yX2_pledgesFor.cls ≠ "java/lang/invoke/VarHandle" ∧ (parseMethodDescriptor yX2_pledgesFor.desc).map (fun d => d.parameters.length) = some 1 := by decide +kernel
abbrev K_X2_pledgesFor (args : List Value) (w : Wd) (Q : Option Value → Wd → Prop) : Prop := Con yX2_pledgesFor cX2_pledgesFor 4 (some FieldType.int) 2 0 0 args w Q
theorem hd_X2_pledgesOf : yX2_pledgesOf.cls ≠ "java/lang/invoke/MethodHandle" ∧ yX2_pledgesOf.cls ≠ "java/lang/invoke/VarHandle" ∧ (parseMethodDescriptor yX2_pledgesOf.desc).map (fun d => d.parameters.length) = some 1 := by decide +kernel
abbrev K_X2_pledgesOf (args : List Value) (w : Wd) (Q : Option Value → Wd → Prop) : Prop := Con yX2_pledgesOf cX2_pledgesOf 4 (some FieldType.int) 2 0 0 args w Q
theorem hd_X2_pledgesUpTo : yX2_pledgesUpTo.cls ≠ "java/lang/invoke/MethodHandle" ∧ yX2_pledgesUpTo.cls ≠ "java/lang/invoke/VarHandle" ∧ (parseMethodDescriptor yX2_pledgesUpTo.desc).map (fun d => d.parameters.length) = some 1 := by decide +kernel
abbrev K_X2_pledgesUpTo (args : List Value) (w : Wd) (Q : Option Value → Wd → Prop) : Prop := Con yX2_pledgesUpTo cX2_pledgesUpTo 4 (some FieldType.int) 2 0 0 args w Q
theorem hd_X2_sum : yX2_sum.cls ≠ "java/lang/invoke/MethodHandle" ∧ yX2_sum.cls ≠ "java/lang/invoke/VarHandle" ∧ (parseMethodDescriptor yX2_sum.desc).map (fun d => d.parameters.length) = some 1 := by decide +kernel
abbrev K_X2_sum (args : List Value) (w : Wd) (Q : Option Value → Wd → Prop) : Prop := Con yX2_sum cX2_sum 4 (some FieldType.int) 1 0 0 args w Q
theorem hd_X2_thinkOfExtra : yX2_thinkOfExtra.cls ≠ "java/lang/invoke/MethodHandle" ∧ yX2_thinkOfExtra.cls ≠ "java/lang/invoke/VarHandle" ∧ (parseMethodDescriptor yX2_thinkOfExtra.desc).map (fun d => d.parameters.length) = some 2 := by decide +kernel
abbrev K_X2_thinkOfExtra (args : List Value) (w : Wd) (Q : Option Value → Wd → Prop) : Prop := Con yX2_thinkOfExtra cX2_thinkOfExtra 3 (none) 1 0 0 args w Q
theorem hd_X3_append : yX3_append.cls ≠ "java/lang/invoke/MethodHandle" ∧ yX3_append.cls ≠ "java/lang/invoke/VarHandle" ∧ (parseMethodDescriptor yX3_append.desc).map (fun d => d.parameters.length) = some 1 := by decide +kernel
abbrev K_X3_append (args : List Value) (w : Wd) (Q : Option Value → Wd → Prop) : Prop := Con yX3_append cX3_append 2 (some FieldType.int) 1 0 0 args w Q
theorem hd_X3_doCommand : yX3_doCommand.cls ≠ "java/lang/invoke/MethodHandle" ∧ yX3_doCommand.cls ≠ "java/lang/invoke/VarHandle" ∧ (parseMethodDescriptor yX3_doCommand.desc).map (fun d => d.parameters.length) = some 1 := by decide +kernel
abbrev K_X3_doCommand (args : List Value) (w : Wd) (Q : Option Value → Wd → Prop) : Prop := Con yX3_doCommand cX3_doCommand 2 (some FieldType.int) 5 0 0 args w Q
theorem hd_X3_empty : yX3_empty.cls ≠ "java/lang/invoke/MethodHandle" ∧ yX3_empty.cls ≠ "java/lang/invoke/VarHandle" ∧ (parseMethodDescriptor yX3_empty.desc).map (fun d => d.parameters.length) = some 0 := by decide +kernel
abbrev K_X3_empty (args : List Value) (w : Wd) (Q : Option Value → Wd → Prop) : Prop := Con yX3_empty cX3_empty 2 (some FieldType.int) 1 0 0 args w Q
theorem hd_X3_hasFault : yX3_hasFault.cls ≠ "java/lang/invoke/MethodHandle" ∧ yX3_hasFault.cls ≠ "java/lang/invoke/VarHandle" ∧ (parseMethodDescriptor yX3_hasFault.desc).map (fun d => d.parameters.length) = some 0 := by decide +kernel
abbrev K_X3_hasFault (args : List Value) (w : Wd) (Q : Option Value → Wd → Prop) : Prop := Con yX3_hasFault cX3_hasFault 1 (some FieldType.boolean) 1 0 0 args w Q
theorem hd_X3_init : yX3_init.cls ≠ "java/lang/invoke/MethodHandle" ∧ yX3_init.cls ≠ "java/lang/invoke/VarHandle" ∧ (parseMethodDescriptor yX3_init.desc).map (fun d => d.parameters.length) = some 0 := by decide +kernel
abbrev K_X3_init (mc ms : Nat) (args : List Value) (w : Wd) (Q : Option Value → Wd → Prop) : Prop := Con yX3_init cX3_init 1 (none) 2 mc ms args w Q
theorem hd_X3_numbersBehind : yX3_numbersBehind.cls ≠ "java/lang/invoke/MethodHandle" ∧ yX3_numbersBehind.cls ≠ "java/lang/invoke/VarHandle" ∧ (parseMethodDescriptor yX3_numbersBehind.desc).map (fun d => d.parameters.length) = some 1 := by decide +kernel
abbrev K_X3_numbersBehind (args : List Value) (w : Wd) (Q : Option Value → Wd → Prop) : Prop := Con yX3_numbersBehind cX3_numbersBehind 2 (some FieldType.int) 1 0 0 args w Q
theorem hd_X3_readCommand : yX3_readCommand.cls ≠ "java/lang/invoke/MethodHandle" ∧ yX3_readCommand.cls ≠ "java/lang/invoke/VarHandle" ∧ (parseMethodDescriptor yX3_readCommand.desc).map (fun d => d.parameters.length) = some 1 := by decide +kernel
abbrev K_X3_readCommand (args : List Value) (w : Wd) (Q : Option Value → Wd → Prop) : Prop := Con yX3_readCommand cX3_readCommand 7 (some FieldType.int) 3 0 0 args w Q
theorem hd_X3_readNumber : yX3_readNumber.cls ≠ "java/lang/invoke/MethodHandle" ∧ yX3_readNumber.cls ≠ "java/lang/invoke/VarHandle" ∧ (parseMethodDescriptor yX3_readNumber.desc).map (fun d => d.parameters.length) = some 2 := by decide +kernel
abbrev K_X3_readNumber (args : List Value) (w : Wd) (Q : Option Value → Wd → Prop) : Prop := Con yX3_readNumber cX3_readNumber 5 (some FieldType.int) 2 0 0 args w Q
theorem hd_X3_signAt : yX3_signAt.cls ≠ "java/lang/invoke/MethodHandle" ∧ yX3_signAt.cls ≠ "java/lang/invoke/VarHandle" ∧ (parseMethodDescriptor yX3_signAt.desc).map (fun d => d.parameters.length) = some 1 := by decide +kernel
abbrev K_X3_signAt (args : List Value) (w : Wd) (Q : Option Value → Wd → Prop) : Prop := Con yX3_signAt cX3_signAt 2 (some FieldType.char) 1 0 0 args w Q
theorem hd_X3_tellFault : yX3_tellFault.cls ≠ "java/lang/invoke/MethodHandle" ∧ yX3_tellFault.cls ≠ "java/lang/invoke/VarHandle" ∧ (parseMethodDescriptor yX3_tellFault.desc).map (fun d => d.parameters.length) = some 3 := by decide +kernel
abbrev K_X3_tellFault (args : List Value) (w : Wd) (Q : Option Value → Wd → Prop) : Prop := Con yX3_tellFault cX3_tellFault 4 (none) 1 0 0 args w Q
theorem hd_X3_tryOn : yX3_tryOn.cls ≠ "java/lang/invoke/MethodHandle" ∧ yX3_tryOn.cls ≠ "java/lang/invoke/VarHandle" ∧ (parseMethodDescriptor yX3_tryOn.desc).map (fun d => d.parameters.length) = some 1 := by decide +kernel
abbrev K_X3_tryOn (args : List Value) (w : Wd) (Q : Option Value → Wd → Prop) : Prop := Con yX3_tryOn cX3_tryOn 5 (none) 6 0 0 args w Q
theorem hd_X4_callIn : yX4_callIn.cls ≠ "java/lang/invoke/MethodHandle" ∧ yX4_callIn.cls ≠ "java/lang/invoke/VarHandle" ∧ (parseMethodDescriptor yX4_callIn.desc).map (fun d => d.parameters.length) = some 1 := by decide +kernel
abbrev K_X4_callIn (args : List Value) (w : Wd) (Q : Option Value → Wd → Prop) : Prop := Con yX4_callIn cX4_callIn 2 (some FieldType.int) 5 0 0 args w Q
theorem hd_X4_clearText : yX4_clearText.cls ≠ "java/lang/invoke/MethodHandle" ∧ yX4_clearText.cls ≠ "java/lang/invoke/VarHandle" ∧ (parseMethodDescriptor yX4_clearText.desc).map (fun d => d.parameters.length) = some 0 := by decide +kernel
abbrev K_X4_clearText (args : List Value) (w : Wd) (Q : Option Value → Wd → Prop) : Prop := Con yX4_clearText cX4_clearText 1 (some FieldType.int) 2 0 0 args w Q
theorem hd_X4_count : yX4_count.cls ≠ "java/lang/invoke/MethodHandle" ∧ yX4_count.cls ≠ "java/lang/invoke/VarHandle" ∧ (parseMethodDescriptor yX4_count.desc).map (fun d => d.parameters.length) = some 1 := by decide +kernel
abbrev K_X4_count (args : List Value) (w : Wd) (Q : Option Value → Wd → Prop) : Prop := Con yX4_count cX4_count 2 (some FieldType.int) 7 0 0 args w Q
theorem hd_X4_dropOldest : yX4_dropOldest.cls ≠ "java/lang/invoke/MethodHandle" ∧ yX4_dropOldest.cls ≠ "java/lang/invoke/VarHandle" ∧ (parseMethodDescriptor yX4_dropOldest.desc).map (fun d => d.parameters.length) = some 0 := by decide +kernel
abbrev K_X4_dropOldest (args : List Value) (w : Wd) (Q : Option Value → Wd → Prop) : Prop := Con yX4_dropOldest cX4_dropOldest 3 (none) 1 0 0 args w Q
theorem hd_X4_errorOfSet : yX4_errorOfSet.cls ≠ "java/lang/invoke/MethodHandle" ∧ yX4_errorOfSet.cls ≠ "java/lang/invoke/VarHandle" ∧ (parseMethodDescriptor yX4_errorOfSet.desc).map (fun d => d.parameters.length) = some 1 := by decide +kernel
abbrev K_X4_errorOfSet (args : List Value) (w : Wd) (Q : Option Value → Wd → Prop) : Prop := Con yX4_errorOfSet cX4_errorOfSet 2 (some FieldType.int) 2 0 0 args w Q
theorem hd_X4_fallOf : yX4_fallOf.cls ≠ "java/lang/invoke/MethodHandle" ∧ yX4_fallOf.cls ≠ "java/lang/invoke/VarHandle" ∧ (parseMethodDescriptor yX4_fallOf.desc).map (fun d => d.parameters.length) = some 1 := by decide +kernel
abbrev K_X4_fallOf (args : List Value) (w : Wd) (Q : Option Value → Wd → Prop) : Prop := Con yX4_fallOf cX4_fallOf 3 (some FieldType.int) 4 0 0 args w Q
theorem hd_X4_fault : yX4_fault.cls ≠ "java/lang/invoke/MethodHandle" ∧ yX4_fault.cls ≠ "java/lang/invoke/VarHandle" ∧ (parseMethodDescriptor yX4_fault.desc).map (fun d => d.parameters.length) = some 1 := by decide +kernel
abbrev K_X4_fault (args : List Value) (w : Wd) (Q : Option Value → Wd → Prop) : Prop := Con yX4_fault cX4_fault 2 (some FieldType.int) 7 0 0 args w Q
theorem hd_X4_init : yX4_init.cls ≠ "java/lang/invoke/MethodHandle" ∧ yX4_init.cls ≠ "java/lang/invoke/VarHandle" ∧ (parseMethodDescriptor yX4_init.desc).map (fun d => d.parameters.length) = some 0 := by decide +kernel
abbrev K_X4_init (mc ms : Nat) (args : List Value) (w : Wd) (Q : Option Value → Wd → Prop) : Prop := Con yX4_init cX4_init 2 (none) 3 mc ms args w Q
theorem hd_X4_keepState : yX4_keepState.cls ≠ "java/lang/invoke/MethodHandle" ∧ yX4_keepState.cls ≠ "java/lang/invoke/VarHandle" ∧ (parseMethodDescriptor yX4_keepState.desc).map (fun d => d.parameters.length) = some 0 := by decide +kernel
abbrev K_X4_keepState (args : List Value) (w : Wd) (Q : Option Value → Wd → Prop) : Prop := Con yX4_keepState cX4_keepState 1 (none) 2 0 0 args w Q
theorem hd_X4_keyOf : yX4_keyOf.cls ≠ "java/lang/invoke/MethodHandle" ∧ yX4_keyOf.cls ≠ "java/lang/invoke/VarHandle" ∧ (parseMethodDescriptor yX4_keyOf.desc).map (fun d => d.parameters.length) = some 2 := by decide +kernel
abbrev K_X4_keyOf (args : List Value) (w : Wd) (Q : Option Value → Wd → Prop) : Prop := Con yX4_keyOf cX4_keyOf 5 (some FieldType.long) 4 0 0 args w Q
theorem hd_X4_keysBelow : yX4_keysBelow.cls ≠ "java/lang/invoke/MethodHandle" ∧ yX4_keysBelow.cls ≠ "java/lang/invoke/VarHandle" ∧ (parseMethodDescriptor yX4_keysBelow.desc).map (fun d => d.parameters.length) = some 1 := by decide +kernel
abbrev K_X4_keysBelow (args : List Value) (w : Wd) (Q : Option Value → Wd → Prop) : Prop := Con yX4_keysBelow cX4_keysBelow 5 (some FieldType.int) 3 0 0 args w Q
theorem hd_X4_orderAt : yX4_orderAt.cls ≠ "java/lang/invoke/MethodHandle" ∧ yX4_orderAt.cls ≠ "java/lang/invoke/VarHandle" ∧ (parseMethodDescriptor yX4_orderAt.desc).map (fun d => d.parameters.length) = some 2 := by decide +kernel
abbrev K_X4_orderAt (args : List Value) (w : Wd) (Q : Option Value → Wd → Prop) : Prop := Con yX4_orderAt cX4_orderAt 4 (some FieldType.int) 5 0 0 args w Q
theorem hd_X4_person : yX4_person.cls ≠ "java/lang/invoke/MethodHandle" ∧ yX4_person.cls ≠ "java/lang/invoke/VarHandle" ∧ (parseMethodDescriptor yX4_person.desc).map (fun d => d.parameters.length) = some 1 := by decide +kernel
abbrev K_X4_person (args : List Value) (w : Wd) (Q : Option Value → Wd → Prop) : Prop := Con yX4_person cX4_person 2 (some FieldType.int) 3 0 0 args w Q
theorem hd_X4_personOf : yX4_personOf.cls ≠ "java/lang/invoke/MethodHandle" ∧ yX4_personOf.cls ≠ "java/lang/invoke/VarHandle" ∧ (parseMethodDescriptor yX4_personOf.desc).map (fun d => d.parameters.length) = some 2 := by decide +kernel
abbrev K_X4_personOf (args : List Value) (w : Wd) (Q : Option Value → Wd → Prop) : Prop := Con yX4_personOf cX4_personOf 4 (some FieldType.int) 7 0 0 args w Q
theorem hd_X4_play : yX4_play.cls ≠ "java/lang/invoke/MethodHandle" ∧ yX4_play.cls ≠ "java/lang/invoke/VarHandle" ∧ (parseMethodDescriptor yX4_play.desc).map (fun d => d.parameters.length) = some 0 := by decide +kernel
abbrev K_X4_play (args : List Value) (w : Wd) (Q : Option Value → Wd → Prop) : Prop := Con yX4_play cX4_play 1 (some FieldType.int) 7 0 0 args w Q
theorem hd_X4_pledge : yX4_pledge.cls ≠ "java/lang/invoke/MethodHandle" ∧ yX4_pledge.cls ≠ "java/lang/invoke/VarHandle" ∧ (parseMethodDescriptor yX4_pledge.desc).map (fun d => d.parameters.length) = some 5 := by decide +kernel
abbrev K_X4_pledge (args : List Value) (w : Wd) (Q : Option Value → Wd → Prop) : Prop := Con yX4_pledge cX4_pledge 6 (some FieldType.int) 5 0 0 args w Q
theorem hd_X4_pledgeOf : yX4_pledgeOf.cls ≠ "java/lang/invoke/MethodHandle" ∧ yX4_pledgeOf.cls ≠ "java/lang/invoke/VarHandle" ∧ (parseMethodDescriptor yX4_pledgeOf.desc).map (fun d => d.parameters.length) = some 2 := by decide +kernel
abbrev K_X4_pledgeOf (args : List Value) (w : Wd) (Q : Option Value → Wd → Prop) : Prop := Con yX4_pledgeOf cX4_pledgeOf 3 (some FieldType.int) 8 0 0 args w Q
theorem hd_X4_project : yX4_project.cls ≠ "java/lang/invoke/MethodHandle" ∧ yX4_project.cls ≠ "java/lang/invoke/VarHandle" ∧ (parseMethodDescriptor yX4_project.desc).map (fun d => d.parameters.length) = some 1 := by decide +kernel
abbrev K_X4_project (args : List Value) (w : Wd) (Q : Option Value → Wd → Prop) : Prop := Con yX4_project cX4_project 2 (some FieldType.int) 3 0 0 args w Q
theorem hd_X4_projectOf : yX4_projectOf.cls ≠ "java/lang/invoke/MethodHandle" ∧ yX4_projectOf.cls ≠ "java/lang/invoke/VarHandle" ∧ (parseMethodDescriptor yX4_projectOf.desc).map (fun d => d.parameters.length) = some 2 := by decide +kernel
abbrev K_X4_projectOf (args : List Value) (w : Wd) (Q : Option Value → Wd → Prop) : Prop := Con yX4_projectOf cX4_projectOf 4 (some FieldType.int) 7 0 0 args w Q
theorem hd_X4_setOf : yX4_setOf.cls ≠ "java/lang/invoke/MethodHandle" ∧ yX4_setOf.cls ≠ "java/lang/invoke/VarHandle" ∧ (parseMethodDescriptor yX4_setOf.desc).map (fun d => d.parameters.length) = some 2 := by decide +kernel
abbrev K_X4_setOf (args : List Value) (w : Wd) (Q : Option Value → Wd → Prop) : Prop := Con yX4_setOf cX4_setOf 4 (some FieldType.int) 4 0 0 args w Q
theorem hd_X4_settle : yX4_settle.cls ≠ "java/lang/invoke/MethodHandle" ∧ yX4_settle.cls ≠ "java/lang/invoke/VarHandle" ∧ (parseMethodDescriptor yX4_settle.desc).map (fun d => d.parameters.length) = some 1 := by decide +kernel
abbrev K_X4_settle (args : List Value) (w : Wd) (Q : Option Value → Wd → Prop) : Prop := Con yX4_settle cX4_settle 2 (some FieldType.int) 2 0 0 args w Q
theorem hd_X4_standing : yX4_standing.cls ≠ "java/lang/invoke/MethodHandle" ∧ yX4_standing.cls ≠ "java/lang/invoke/VarHandle" ∧ (parseMethodDescriptor yX4_standing.desc).map (fun d => d.parameters.length) = some 1 := by decide +kernel
abbrev K_X4_standing (args : List Value) (w : Wd) (Q : Option Value → Wd → Prop) : Prop := Con yX4_standing cX4_standing 3 (some FieldType.int) 5 0 0 args w Q
theorem hd_X4_toppledBy : yX4_toppledBy.cls ≠ "java/lang/invoke/MethodHandle" ∧ yX4_toppledBy.cls ≠ "java/lang/invoke/VarHandle" ∧ (parseMethodDescriptor yX4_toppledBy.desc).map (fun d => d.parameters.length) = some 1 := by decide +kernel
abbrev K_X4_toppledBy (args : List Value) (w : Wd) (Q : Option Value → Wd → Prop) : Prop := Con yX4_toppledBy cX4_toppledBy 3 (some FieldType.int) 7 0 0 args w Q
theorem hd_X4_type : yX4_type.cls ≠ "java/lang/invoke/MethodHandle" ∧ yX4_type.cls ≠ "java/lang/invoke/VarHandle" ∧ (parseMethodDescriptor yX4_type.desc).map (fun d => d.parameters.length) = some 1 := by decide +kernel
abbrev K_X4_type (args : List Value) (w : Wd) (Q : Option Value → Wd → Prop) : Prop := Con yX4_type cX4_type 2 (some FieldType.int) 2 0 0 args w Q
theorem hd_X4_undo : yX4_undo.cls ≠ "java/lang/invoke/MethodHandle" ∧ yX4_undo.cls ≠ "java/lang/invoke/VarHandle" ∧ (parseMethodDescriptor yX4_undo.desc).map (fun d => d.parameters.length) = some 0 := by decide +kernel
abbrev K_X4_undo (args : List Value) (w : Wd) (Q : Option Value → Wd → Prop) : Prop := Con yX4_undo cX4_undo 1 (some FieldType.int) 2 0 0 args w Q
theorem hd_X4_withdraw : yX4_withdraw.cls ≠ "java/lang/invoke/MethodHandle" ∧ yX4_withdraw.cls ≠ "java/lang/invoke/VarHandle" ∧ (parseMethodDescriptor yX4_withdraw.desc).map (fun d => d.parameters.length) = some 1 := by decide +kernel
abbrev K_X4_withdraw (args : List Value) (w : Wd) (Q : Option Value → Wd → Prop) : Prop := Con yX4_withdraw cX4_withdraw 2 (some FieldType.int) 5 0 0 args w Q
theorem hd_X5_acted : yX5_acted.cls ≠ "java/lang/invoke/MethodHandle" ∧ yX5_acted.cls ≠ "java/lang/invoke/VarHandle" ∧ (parseMethodDescriptor yX5_acted.desc).map (fun d => d.parameters.length) = some 1 := by decide +kernel
abbrev K_X5_acted (args : List Value) (w : Wd) (Q : Option Value → Wd → Prop) : Prop := Con yX5_acted cX5_acted 3 (some FieldType.int) 1 0 0 args w Q
theorem hd_X5_adds : yX5_adds.cls ≠ "java/lang/invoke/MethodHandle" ∧ yX5_adds.cls ≠ "java/lang/invoke/VarHandle" ∧ (parseMethodDescriptor yX5_adds.desc).map (fun d => d.parameters.length) = some 1 := by decide +kernel
abbrev K_X5_adds (args : List Value) (w : Wd) (Q : Option Value → Wd → Prop) : Prop := Con yX5_adds cX5_adds 2 (some FieldType.int) 2 0 0 args w Q
theorem hd_X5_amountOf : yX5_amountOf.cls ≠ "java/lang/invoke/MethodHandle" ∧ yX5_amountOf.cls ≠ "java/lang/invoke/VarHandle" ∧ (parseMethodDescriptor yX5_amountOf.desc).map (fun d => d.parameters.length) = some 1 := by decide +kernel
abbrev K_X5_amountOf (args : List Value) (w : Wd) (Q : Option Value → Wd → Prop) : Prop := Con yX5_amountOf cX5_amountOf 4 (some FieldType.int) 2 0 0 args w Q
theorem hd_X5_begins : yX5_begins.cls ≠ "java/lang/invoke/MethodHandle" ∧ yX5_begins.cls ≠ "java/lang/invoke/VarHandle" ∧ (parseMethodDescriptor yX5_begins.desc).map (fun d => d.parameters.length) = some 0 := by decide +kernel
abbrev K_X5_begins (args : List Value) (w : Wd) (Q : Option Value → Wd → Prop) : Prop := Con yX5_begins cX5_begins 2 (none) 1 0 0 args w Q
theorem hd_X5_callIn : yX5_callIn.cls ≠ "java/lang/invoke/MethodHandle" ∧ yX5_callIn.cls ≠ "java/lang/invoke/VarHandle" ∧ (parseMethodDescriptor yX5_callIn.desc).map (fun d => d.parameters.length) = some 1 := by decide +kernel
abbrev K_X5_callIn (args : List Value) (w : Wd) (Q : Option Value → Wd → Prop) : Prop := Con yX5_callIn cX5_callIn 2 (some FieldType.int) 8 0 0 args w Q
theorem hd_X5_called : yX5_called.cls ≠ "java/lang/invoke/MethodHandle" ∧ yX5_called.cls ≠ "java/lang/invoke/VarHandle" ∧ (parseMethodDescriptor yX5_called.desc).map (fun d => d.parameters.length) = some 0 := by decide +kernel
abbrev K_X5_called (args : List Value) (w : Wd) (Q : Option Value → Wd → Prop) : Prop := Con yX5_called cX5_called 1 (some FieldType.int) 3 0 0 args w Q
theorem hd_X5_calls : yX5_calls.cls ≠ "java/lang/invoke/MethodHandle" ∧ yX5_calls.cls ≠ "java/lang/invoke/VarHandle" ∧ (parseMethodDescriptor yX5_calls.desc).map (fun d => d.parameters.length) = some 1 := by decide +kernel
abbrev K_X5_calls (args : List Value) (w : Wd) (Q : Option Value → Wd → Prop) : Prop := Con yX5_calls cX5_calls 6 (some FieldType.int) 7 0 0 args w Q
theorem hd_X5_clearText : yX5_clearText.cls ≠ "java/lang/invoke/MethodHandle" ∧ yX5_clearText.cls ≠ "java/lang/invoke/VarHandle" ∧ (parseMethodDescriptor yX5_clearText.desc).map (fun d => d.parameters.length) = some 0 := by decide +kernel
abbrev K_X5_clearText (args : List Value) (w : Wd) (Q : Option Value → Wd → Prop) : Prop := Con yX5_clearText cX5_clearText 2 (some FieldType.int) 1 0 0 args w Q
theorem hd_X5_comes : yX5_comes.cls ≠ "java/lang/invoke/MethodHandle" ∧ yX5_comes.cls ≠ "java/lang/invoke/VarHandle" ∧ (parseMethodDescriptor yX5_comes.desc).map (fun d => d.parameters.length) = some 1 := by decide +kernel
abbrev K_X5_comes (args : List Value) (w : Wd) (Q : Option Value → Wd → Prop) : Prop := Con yX5_comes cX5_comes 2 (some FieldType.int) 2 0 0 args w Q
theorem hd_X5_command : yX5_command.cls ≠ "java/lang/invoke/MethodHandle" ∧ yX5_command.cls ≠ "java/lang/invoke/VarHandle" ∧ (parseMethodDescriptor yX5_command.desc).map (fun d => d.parameters.length) = some 0 := by decide +kernel
abbrev K_X5_command (args : List Value) (w : Wd) (Q : Option Value → Wd → Prop) : Prop := Con yX5_command cX5_command 4 (some FieldType.int) 8 0 0 args w Q
theorem hd_X5_count : yX5_count.cls ≠ "java/lang/invoke/MethodHandle" ∧ yX5_count.cls ≠ "java/lang/invoke/VarHandle" ∧ (parseMethodDescriptor yX5_count.desc).map (fun d => d.parameters.length) = some 1 := by decide +kernel
abbrev K_X5_count (args : List Value) (w : Wd) (Q : Option Value → Wd → Prop) : Prop := Con yX5_count cX5_count 2 (some FieldType.int) 8 0 0 args w Q
theorem hd_X5_does : yX5_does.cls ≠ "java/lang/invoke/MethodHandle" ∧ yX5_does.cls ≠ "java/lang/invoke/VarHandle" ∧ (parseMethodDescriptor yX5_does.desc).map (fun d => d.parameters.length) = some 0 := by decide +kernel
abbrev K_X5_does (args : List Value) (w : Wd) (Q : Option Value → Wd → Prop) : Prop := Con yX5_does cX5_does 3 (some FieldType.int) 9 0 0 args w Q
theorem hd_X5_fallingOf : yX5_fallingOf.cls ≠ "java/lang/invoke/MethodHandle" ∧ yX5_fallingOf.cls ≠ "java/lang/invoke/VarHandle" ∧ (parseMethodDescriptor yX5_fallingOf.desc).map (fun d => d.parameters.length) = some 2 := by decide +kernel
abbrev K_X5_fallingOf (args : List Value) (w : Wd) (Q : Option Value → Wd → Prop) : Prop := Con yX5_fallingOf cX5_fallingOf 5 (some FieldType.int) 4 0 0 args w Q
theorem hd_X5_fault : yX5_fault.cls ≠ "java/lang/invoke/MethodHandle" ∧ yX5_fault.cls ≠ "java/lang/invoke/VarHandle" ∧ (parseMethodDescriptor yX5_fault.desc).map (fun d => d.parameters.length) = some 1 := by decide +kernel
abbrev K_X5_fault (args : List Value) (w : Wd) (Q : Option Value → Wd → Prop) : Prop := Con yX5_fault cX5_fault 3 (some FieldType.int) 10 0 0 args w Q
theorem hd_X5_forgets : yX5_forgets.cls ≠ "java/lang/invoke/MethodHandle" ∧ yX5_forgets.cls ≠ "java/lang/invoke/VarHandle" ∧ (parseMethodDescriptor yX5_forgets.desc).map (fun d => d.parameters.length) = some 1 := by decide +kernel
abbrev K_X5_forgets (args : List Value) (w : Wd) (Q : Option Value → Wd → Prop) : Prop := Con yX5_forgets cX5_forgets 3 (none) 1 0 0 args w Q
theorem hd_X5_goal : yX5_goal.cls ≠ "java/lang/invoke/MethodHandle" ∧ yX5_goal.cls ≠ "java/lang/invoke/VarHandle" ∧ (parseMethodDescriptor yX5_goal.desc).map (fun d => d.parameters.length) = some 1 := by decide +kernel
abbrev K_X5_goal (args : List Value) (w : Wd) (Q : Option Value → Wd → Prop) : Prop := Con yX5_goal cX5_goal 2 (some FieldType.int) 1 0 0 args w Q
theorem hd_X5_goalsNow : yX5_goalsNow.cls ≠ "java/lang/invoke/MethodHandle" ∧ yX5_goalsNow.cls ≠ "java/lang/invoke/VarHandle" ∧ (parseMethodDescriptor yX5_goalsNow.desc).map (fun d => d.parameters.length) = some 0 := by decide +kernel
abbrev K_X5_goalsNow (args : List Value) (w : Wd) (Q : Option Value → Wd → Prop) : Prop := Con yX5_goalsNow cX5_goalsNow 4 (some FieldType.int) 7 0 0 args w Q
theorem hd_X5_greatest : yX5_greatest.cls ≠ "java/lang/invoke/MethodHandle" ∧ yX5_greatest.cls ≠ "java/lang/invoke/VarHandle" ∧ (parseMethodDescriptor yX5_greatest.desc).map (fun d => d.parameters.length) = some 2 := by decide +kernel
abbrev K_X5_greatest (args : List Value) (w : Wd) (Q : Option Value → Wd → Prop) : Prop := Con yX5_greatest cX5_greatest 6 (some FieldType.int) 5 0 0 args w Q
theorem hd_X5_has : yX5_has.cls ≠ "java/lang/invoke/MethodHandle" ∧ yX5_has.cls ≠ "java/lang/invoke/VarHandle" ∧ (parseMethodDescriptor yX5_has.desc).map (fun d => d.parameters.length) = some 2 := by decide +kernel
abbrev K_X5_has (args : List Value) (w : Wd) (Q : Option Value → Wd → Prop) : Prop := Con yX5_has cX5_has 2 (some FieldType.boolean) 1 0 0 args w Q
theorem hd_X5_hasGoal : yX5_hasGoal.cls ≠ "java/lang/invoke/MethodHandle" ∧ yX5_hasGoal.cls ≠ "java/lang/invoke/VarHandle" ∧ (parseMethodDescriptor yX5_hasGoal.desc).map (fun d => d.parameters.length) = some 2 := by decide +kernel
abbrev K_X5_hasGoal (args : List Value) (w : Wd) (Q : Option Value → Wd → Prop) : Prop := Con yX5_hasGoal cX5_hasGoal 3 (some FieldType.boolean) 3 0 0 args w Q
theorem hd_X5_here : yX5_here.cls ≠ "java/lang/invoke/MethodHandle" ∧ yX5_here.cls ≠ "java/lang/invoke/VarHandle" ∧ (parseMethodDescriptor yX5_here.desc).map (fun d => d.parameters.length) = some 0 := by decide +kernel
abbrev K_X5_here (args : List Value) (w : Wd) (Q : Option Value → Wd → Prop) : Prop := Con yX5_here cX5_here 1 (some FieldType.int) 1 0 0 args w Q
theorem hd_X5_holds : yX5_holds.cls ≠ "java/lang/invoke/MethodHandle" ∧ yX5_holds.cls ≠ "java/lang/invoke/VarHandle" ∧ (parseMethodDescriptor yX5_holds.desc).map (fun d => d.parameters.length) = some 2 := by decide +kernel
abbrev K_X5_holds (args : List Value) (w : Wd) (Q : Option Value → Wd → Prop) : Prop := Con yX5_holds cX5_holds 5 (some FieldType.boolean) 3 0 0 args w Q
theorem hd_X5_in : yX5_in.cls ≠ "java/lang/invoke/MethodHandle" ∧ yX5_in.cls ≠ "java/lang/invoke/VarHandle" ∧ (parseMethodDescriptor yX5_in.desc).map (fun d => d.parameters.length) = some 3 := by decide +kernel
abbrev K_X5_in (args : List Value) (w : Wd) (Q : Option Value → Wd → Prop) : Prop := Con yX5_in cX5_in 3 (some FieldType.boolean) 1 0 0 args w Q
theorem hd_X5_init : yX5_init.cls ≠ "java/lang/invoke/MethodHandle" ∧ yX5_init.cls ≠ "java/lang/invoke/VarHandle" ∧ (parseMethodDescriptor yX5_init.desc).map (fun d => d.parameters.length) = some 0 := by decide +kernel
abbrev K_X5_init (mc ms : Nat) (args : List Value) (w : Wd) (Q : Option Value → Wd → Prop) : Prop := Con yX5_init cX5_init 1 (none) 1 mc ms args w Q
theorem hd_X5_isAhead : yX5_isAhead.cls ≠ "java/lang/invoke/MethodHandle" ∧ yX5_isAhead.cls ≠ "java/lang/invoke/VarHandle" ∧ (parseMethodDescriptor yX5_isAhead.desc).map (fun d => d.parameters.length) = some 4 := by decide +kernel
abbrev K_X5_isAhead (args : List Value) (w : Wd) (Q : Option Value → Wd → Prop) : Prop := Con yX5_isAhead cX5_isAhead 8 (some FieldType.boolean) 2 0 0 args w Q
theorem hd_X5_isClosed : yX5_isClosed.cls ≠ "java/lang/invoke/MethodHandle" ∧ yX5_isClosed.cls ≠ "java/lang/invoke/VarHandle" ∧ (parseMethodDescriptor yX5_isClosed.desc).map (fun d => d.parameters.length) = some 1 := by decide +kernel
abbrev K_X5_isClosed (args : List Value) (w : Wd) (Q : Option Value → Wd → Prop) : Prop := Con yX5_isClosed cX5_isClosed 2 (some FieldType.boolean) 1 0 0 args w Q
theorem hd_X5_isCondition : yX5_isCondition.cls ≠ "java/lang/invoke/MethodHandle" ∧ yX5_isCondition.cls ≠ "java/lang/invoke/VarHandle" ∧ (parseMethodDescriptor yX5_isCondition.desc).map (fun d => d.parameters.length) = some 4 := by decide +kernel
abbrev K_X5_isCondition (args : List Value) (w : Wd) (Q : Option Value → Wd → Prop) : Prop := Con yX5_isCondition cX5_isCondition 5 (some FieldType.boolean) 3 0 0 args w Q
theorem hd_X5_isOf : yX5_isOf.cls ≠ "java/lang/invoke/MethodHandle" ∧ yX5_isOf.cls ≠ "java/lang/invoke/VarHandle" ∧ (parseMethodDescriptor yX5_isOf.desc).map (fun d => d.parameters.length) = some 2 := by decide +kernel
abbrev K_X5_isOf (args : List Value) (w : Wd) (Q : Option Value → Wd → Prop) : Prop := Con yX5_isOf cX5_isOf 5 (some FieldType.boolean) 2 0 0 args w Q
theorem hd_X5_isPerson : yX5_isPerson.cls ≠ "java/lang/invoke/MethodHandle" ∧ yX5_isPerson.cls ≠ "java/lang/invoke/VarHandle" ∧ (parseMethodDescriptor yX5_isPerson.desc).map (fun d => d.parameters.length) = some 1 := by decide +kernel
abbrev K_X5_isPerson (args : List Value) (w : Wd) (Q : Option Value → Wd → Prop) : Prop := Con yX5_isPerson cX5_isPerson 2 (some FieldType.boolean) 2 0 0 args w Q
theorem hd_X5_isPledge : yX5_isPledge.cls ≠ "java/lang/invoke/MethodHandle" ∧ yX5_isPledge.cls ≠ "java/lang/invoke/VarHandle" ∧ (parseMethodDescriptor yX5_isPledge.desc).map (fun d => d.parameters.length) = some 1 := by decide +kernel
abbrev K_X5_isPledge (args : List Value) (w : Wd) (Q : Option Value → Wd → Prop) : Prop := Con yX5_isPledge cX5_isPledge 2 (some FieldType.boolean) 2 0 0 args w Q
theorem hd_X5_isProject : yX5_isProject.cls ≠ "java/lang/invoke/MethodHandle" ∧ yX5_isProject.cls ≠ "java/lang/invoke/VarHandle" ∧ (parseMethodDescriptor yX5_isProject.desc).map (fun d => d.parameters.length) = some 1 := by decide +kernel
abbrev K_X5_isProject (args : List Value) (w : Wd) (Q : Option Value → Wd → Prop) : Prop := Con yX5_isProject cX5_isProject 2 (some FieldType.boolean) 2 0 0 args w Q
theorem hd_X5_isSet : yX5_isSet.cls ≠ "java/lang/invoke/MethodHandle" ∧ yX5_isSet.cls ≠ "java/lang/invoke/VarHandle" ∧ (parseMethodDescriptor yX5_isSet.desc).map (fun d => d.parameters.length) = some 1 := by decide +kernel
abbrev K_X5_isSet (args : List Value) (w : Wd) (Q : Option Value → Wd → Prop) : Prop := Con yX5_isSet cX5_isSet 2 (some FieldType.boolean) 3 0 0 args w Q
theorem hd_X5_lowestFree : yX5_lowestFree.cls ≠ "java/lang/invoke/MethodHandle" ∧ yX5_lowestFree.cls ≠ "java/lang/invoke/VarHandle" ∧ (parseMethodDescriptor yX5_lowestFree.desc).map (fun d => d.parameters.length) = some 0 := by decide +kernel
abbrev K_X5_lowestFree (args : List Value) (w : Wd) (Q : Option Value → Wd → Prop) : Prop := Con yX5_lowestFree cX5_lowestFree 3 (some FieldType.int) 2 0 0 args w Q
theorem hd_X5_makes : yX5_makes.cls ≠ "java/lang/invoke/MethodHandle" ∧ yX5_makes.cls ≠ "java/lang/invoke/VarHandle" ∧ (parseMethodDescriptor yX5_makes.desc).map (fun d => d.parameters.length) = some 5 := by decide +kernel
abbrev K_X5_makes (args : List Value) (w : Wd) (Q : Option Value → Wd → Prop) : Prop := Con yX5_makes cX5_makes 8 (some FieldType.int) 4 0 0 args w Q
theorem hd_X5_many : yX5_many.cls ≠ "java/lang/invoke/MethodHandle" ∧ yX5_many.cls ≠ "java/lang/invoke/VarHandle" ∧ (parseMethodDescriptor yX5_many.desc).map (fun d => d.parameters.length) = some 1 := by decide +kernel
abbrev K_X5_many (args : List Value) (w : Wd) (Q : Option Value → Wd → Prop) : Prop := Con yX5_many cX5_many 3 (some FieldType.int) 2 0 0 args w Q
theorem hd_X5_manyFor : yX5_manyFor.cls ≠ "java/lang/invoke/MethodHandle" ∧ yX5_manyFor.cls ≠ "java/lang/invoke/VarHandle" ∧ (parseMethodDescriptor yX5_manyFor.desc).map (fun d => d.parameters.length) = some 2 := by decide +kernel
abbrev K_X5_manyFor (args : List Value) (w : Wd) (Q : Option Value → Wd → Prop) : Prop := Con yX5_manyFor cX5_manyFor 5 (some FieldType.int) 2 0 0 args w Q
theorem hd_X5_moneyFor : yX5_moneyFor.cls ≠ "java/lang/invoke/MethodHandle" ∧ yX5_moneyFor.cls ≠ "java/lang/invoke/VarHandle" ∧ (parseMethodDescriptor yX5_moneyFor.desc).map (fun d => d.parameters.length) = some 2 := by decide +kernel
abbrev K_X5_moneyFor (args : List Value) (w : Wd) (Q : Option Value → Wd → Prop) : Prop := Con yX5_moneyFor cX5_moneyFor 5 (some FieldType.int) 2 0 0 args w Q
theorem hd_X5_must : yX5_must.cls ≠ "java/lang/invoke/MethodHandle" ∧ yX5_must.cls ≠ "java/lang/invoke/VarHandle" ∧ (parseMethodDescriptor yX5_must.desc).map (fun d => d.parameters.length) = some 1 := by decide +kernel
abbrev K_X5_must (args : List Value) (w : Wd) (Q : Option Value → Wd → Prop) : Prop := Con yX5_must cX5_must 2 (none) 2 0 0 args w Q
theorem hd_X5_neededFor : yX5_neededFor.cls ≠ "java/lang/invoke/MethodHandle" ∧ yX5_neededFor.cls ≠ "java/lang/invoke/VarHandle" ∧ (parseMethodDescriptor yX5_neededFor.desc).map (fun d => d.parameters.length) = some 1 := by decide +kernel
abbrev K_X5_neededFor (args : List Value) (w : Wd) (Q : Option Value → Wd → Prop) : Prop := Con yX5_neededFor cX5_neededFor 5 (some FieldType.int) 7 0 0 args w Q
theorem hd_X5_of : yX5_of.cls ≠ "java/lang/invoke/MethodHandle" ∧ yX5_of.cls ≠ "java/lang/invoke/VarHandle" ∧ (parseMethodDescriptor yX5_of.desc).map (fun d => d.parameters.length) = some 2 := by decide +kernel
abbrev K_X5_of (args : List Value) (w : Wd) (Q : Option Value → Wd → Prop) : Prop := Con yX5_of cX5_of 3 (some FieldType.int) 1 0 0 args w Q
theorem hd_X5_ofPerson : yX5_ofPerson.cls ≠ "java/lang/invoke/MethodHandle" ∧ yX5_ofPerson.cls ≠ "java/lang/invoke/VarHandle" ∧ (parseMethodDescriptor yX5_ofPerson.desc).map (fun d => d.parameters.length) = some 1 := by decide +kernel
abbrev K_X5_ofPerson (args : List Value) (w : Wd) (Q : Option Value → Wd → Prop) : Prop := Con yX5_ofPerson cX5_ofPerson 4 (some FieldType.int) 2 0 0 args w Q
theorem hd_X5_ofProject : yX5_ofProject.cls ≠ "java/lang/invoke/MethodHandle" ∧ yX5_ofProject.cls ≠ "java/lang/invoke/VarHandle" ∧ (parseMethodDescriptor yX5_ofProject.desc).map (fun d => d.parameters.length) = some 1 := by decide +kernel
abbrev K_X5_ofProject (args : List Value) (w : Wd) (Q : Option Value → Wd → Prop) : Prop := Con yX5_ofProject cX5_ofProject 4 (some FieldType.int) 2 0 0 args w Q
theorem hd_X5_open : yX5_open.cls ≠ "java/lang/invoke/MethodHandle" ∧ yX5_open.cls ≠ "java/lang/invoke/VarHandle" ∧ (parseMethodDescriptor yX5_open.desc).map (fun d => d.parameters.length) = some 0 := by decide +kernel
abbrev K_X5_open (args : List Value) (w : Wd) (Q : Option Value → Wd → Prop) : Prop := Con yX5_open cX5_open 1 (some FieldType.int) 3 0 0 args w Q
theorem hd_X5_orderAt : yX5_orderAt.cls ≠ "java/lang/invoke/MethodHandle" ∧ yX5_orderAt.cls ≠ "java/lang/invoke/VarHandle" ∧ (parseMethodDescriptor yX5_orderAt.desc).map (fun d => d.parameters.length) = some 2 := by decide +kernel
abbrev K_X5_orderAt (args : List Value) (w : Wd) (Q : Option Value → Wd → Prop) : Prop := Con yX5_orderAt cX5_orderAt 8 (some FieldType.int) 7 0 0 args w Q
theorem hd_X5_person : yX5_person.cls ≠ "java/lang/invoke/MethodHandle" ∧ yX5_person.cls ≠ "java/lang/invoke/VarHandle" ∧ (parseMethodDescriptor yX5_person.desc).map (fun d => d.parameters.length) = some 1 := by decide +kernel
abbrev K_X5_person (args : List Value) (w : Wd) (Q : Option Value → Wd → Prop) : Prop := Con yX5_person cX5_person 2 (some FieldType.int) 3 0 0 args w Q
theorem hd_X5_personOf : yX5_personOf.cls ≠ "java/lang/invoke/MethodHandle" ∧ yX5_personOf.cls ≠ "java/lang/invoke/VarHandle" ∧ (parseMethodDescriptor yX5_personOf.desc).map (fun d => d.parameters.length) = some 2 := by decide +kernel
abbrev K_X5_personOf (args : List Value) (w : Wd) (Q : Option Value → Wd → Prop) : Prop := Con yX5_personOf cX5_personOf 6 (some FieldType.int) 7 0 0 args w Q
theorem hd_X5_play : yX5_play.cls ≠ "java/lang/invoke/MethodHandle" ∧ yX5_play.cls ≠ "java/lang/invoke/VarHandle" ∧ (parseMethodDescriptor yX5_play.desc).map (fun d => d.parameters.length) = some 0 := by decide +kernel
abbrev K_X5_play (args : List Value) (w : Wd) (Q : Option Value → Wd → Prop) : Prop := Con yX5_play cX5_play 2 (some FieldType.int) 10 0 0 args w Q
theorem hd_X5_pledge : yX5_pledge.cls ≠ "java/lang/invoke/MethodHandle" ∧ yX5_pledge.cls ≠ "java/lang/invoke/VarHandle" ∧ (parseMethodDescriptor yX5_pledge.desc).map (fun d => d.parameters.length) = some 5 := by decide +kernel
abbrev K_X5_pledge (args : List Value) (w : Wd) (Q : Option Value → Wd → Prop) : Prop := Con yX5_pledge cX5_pledge 6 (some FieldType.int) 5 0 0 args w Q
theorem hd_X5_pledgeOf : yX5_pledgeOf.cls ≠ "java/lang/invoke/MethodHandle" ∧ yX5_pledgeOf.cls ≠ "java/lang/invoke/VarHandle" ∧ (parseMethodDescriptor yX5_pledgeOf.desc).map (fun d => d.parameters.length) = some 2 := by decide +kernel
abbrev K_X5_pledgeOf (args : List Value) (w : Wd) (Q : Option Value → Wd → Prop) : Prop := Con yX5_pledgeOf cX5_pledgeOf 5 (some FieldType.int) 7 0 0 args w Q
theorem hd_X5_pledges : yX5_pledges.cls ≠ "java/lang/invoke/MethodHandle" ∧ yX5_pledges.cls ≠ "java/lang/invoke/VarHandle" ∧ (parseMethodDescriptor yX5_pledges.desc).map (fun d => d.parameters.length) = some 2 := by decide +kernel
abbrev K_X5_pledges (args : List Value) (w : Wd) (Q : Option Value → Wd → Prop) : Prop := Con yX5_pledges cX5_pledges 6 (some FieldType.int) 2 0 0 args w Q
theorem hd_X5_project : yX5_project.cls ≠ "java/lang/invoke/MethodHandle" ∧ yX5_project.cls ≠ "java/lang/invoke/VarHandle" ∧ (parseMethodDescriptor yX5_project.desc).map (fun d => d.parameters.length) = some 1 := by decide +kernel
abbrev K_X5_project (args : List Value) (w : Wd) (Q : Option Value → Wd → Prop) : Prop := Con yX5_project cX5_project 2 (some FieldType.int) 3 0 0 args w Q
theorem hd_X5_projectOf : yX5_projectOf.cls ≠ "java/lang/invoke/MethodHandle" ∧ yX5_projectOf.cls ≠ "java/lang/invoke/VarHandle" ∧ (parseMethodDescriptor yX5_projectOf.desc).map (fun d => d.parameters.length) = some 2 := by decide +kernel
abbrev K_X5_projectOf (args : List Value) (w : Wd) (Q : Option Value → Wd → Prop) : Prop := Con yX5_projectOf cX5_projectOf 6 (some FieldType.int) 8 0 0 args w Q
theorem hd_X5_pushOf : yX5_pushOf.cls ≠ "java/lang/invoke/MethodHandle" ∧ yX5_pushOf.cls ≠ "java/lang/invoke/VarHandle" ∧ (parseMethodDescriptor yX5_pushOf.desc).map (fun d => d.parameters.length) = some 1 := by decide +kernel
abbrev K_X5_pushOf (args : List Value) (w : Wd) (Q : Option Value → Wd → Prop) : Prop := Con yX5_pushOf cX5_pushOf 2 (some FieldType.int) 7 0 0 args w Q
theorem hd_X5_readNumber : yX5_readNumber.cls ≠ "java/lang/invoke/MethodHandle" ∧ yX5_readNumber.cls ≠ "java/lang/invoke/VarHandle" ∧ (parseMethodDescriptor yX5_readNumber.desc).map (fun d => d.parameters.length) = some 1 := by decide +kernel
abbrev K_X5_readNumber (args : List Value) (w : Wd) (Q : Option Value → Wd → Prop) : Prop := Con yX5_readNumber cX5_readNumber 4 (some FieldType.int) 3 0 0 args w Q
theorem hd_X5_returns : yX5_returns.cls ≠ "java/lang/invoke/MethodHandle" ∧ yX5_returns.cls ≠ "java/lang/invoke/VarHandle" ∧ (parseMethodDescriptor yX5_returns.desc).map (fun d => d.parameters.length) = some 0 := by decide +kernel
abbrev K_X5_returns (args : List Value) (w : Wd) (Q : Option Value → Wd → Prop) : Prop := Con yX5_returns cX5_returns 2 (none) 1 0 0 args w Q
theorem hd_X5_setOf : yX5_setOf.cls ≠ "java/lang/invoke/MethodHandle" ∧ yX5_setOf.cls ≠ "java/lang/invoke/VarHandle" ∧ (parseMethodDescriptor yX5_setOf.desc).map (fun d => d.parameters.length) = some 2 := by decide +kernel
abbrev K_X5_setOf (args : List Value) (w : Wd) (Q : Option Value → Wd → Prop) : Prop := Con yX5_setOf cX5_setOf 5 (some FieldType.int) 6 0 0 args w Q
theorem hd_X5_setsThatHold : yX5_setsThatHold.cls ≠ "java/lang/invoke/MethodHandle" ∧ yX5_setsThatHold.cls ≠ "java/lang/invoke/VarHandle" ∧ (parseMethodDescriptor yX5_setsThatHold.desc).map (fun d => d.parameters.length) = some 0 := by decide +kernel
abbrev K_X5_setsThatHold (args : List Value) (w : Wd) (Q : Option Value → Wd → Prop) : Prop := Con yX5_setsThatHold cX5_setsThatHold 5 (some FieldType.int) 5 0 0 args w Q
theorem hd_X5_standing : yX5_standing.cls ≠ "java/lang/invoke/MethodHandle" ∧ yX5_standing.cls ≠ "java/lang/invoke/VarHandle" ∧ (parseMethodDescriptor yX5_standing.desc).map (fun d => d.parameters.length) = some 1 := by decide +kernel
abbrev K_X5_standing (args : List Value) (w : Wd) (Q : Option Value → Wd → Prop) : Prop := Con yX5_standing cX5_standing 2 (some FieldType.int) 7 0 0 args w Q
theorem hd_X5_stands : yX5_stands.cls ≠ "java/lang/invoke/MethodHandle" ∧ yX5_stands.cls ≠ "java/lang/invoke/VarHandle" ∧ (parseMethodDescriptor yX5_stands.desc).map (fun d => d.parameters.length) = some 1 := by decide +kernel
abbrev K_X5_stands (args : List Value) (w : Wd) (Q : Option Value → Wd → Prop) : Prop := Con yX5_stands cX5_stands 3 (some FieldType.int) 6 0 0 args w Q
theorem hd_X5_tipOf : yX5_tipOf.cls ≠ "java/lang/invoke/MethodHandle" ∧ yX5_tipOf.cls ≠ "java/lang/invoke/VarHandle" ∧ (parseMethodDescriptor yX5_tipOf.desc).map (fun d => d.parameters.length) = some 1 := by decide +kernel
abbrev K_X5_tipOf (args : List Value) (w : Wd) (Q : Option Value → Wd → Prop) : Prop := Con yX5_tipOf cX5_tipOf 6 (some FieldType.int) 6 0 0 args w Q
theorem hd_X5_type : yX5_type.cls ≠ "java/lang/invoke/MethodHandle" ∧ yX5_type.cls ≠ "java/lang/invoke/VarHandle" ∧ (parseMethodDescriptor yX5_type.desc).map (fun d => d.parameters.length) = some 1 := by decide +kernel
abbrev K_X5_type (args : List Value) (w : Wd) (Q : Option Value → Wd → Prop) : Prop := Con yX5_type cX5_type 2 (some FieldType.int) 2 0 0 args w Q
theorem hd_X5_undo : yX5_undo.cls ≠ "java/lang/invoke/MethodHandle" ∧ yX5_undo.cls ≠ "java/lang/invoke/VarHandle" ∧ (parseMethodDescriptor yX5_undo.desc).map (fun d => d.parameters.length) = some 0 := by decide +kernel
abbrev K_X5_undo (args : List Value) (w : Wd) (Q : Option Value → Wd → Prop) : Prop := Con yX5_undo cX5_undo 2 (some FieldType.int) 1 0 0 args w Q
theorem hd_X5_wavesNow : yX5_wavesNow.cls ≠ "java/lang/invoke/MethodHandle" ∧ yX5_wavesNow.cls ≠ "java/lang/invoke/VarHandle" ∧ (parseMethodDescriptor yX5_wavesNow.desc).map (fun d => d.parameters.length) = some 0 := by decide +kernel
abbrev K_X5_wavesNow (args : List Value) (w : Wd) (Q : Option Value → Wd → Prop) : Prop := Con yX5_wavesNow cX5_wavesNow 2 (some FieldType.int) 7 0 0 args w Q
theorem hd_X5_withdraw : yX5_withdraw.cls ≠ "java/lang/invoke/MethodHandle" ∧ yX5_withdraw.cls ≠ "java/lang/invoke/VarHandle" ∧ (parseMethodDescriptor yX5_withdraw.desc).map (fun d => d.parameters.length) = some 1 := by decide +kernel
abbrev K_X5_withdraw (args : List Value) (w : Wd) (Q : Option Value → Wd → Prop) : Prop := Con yX5_withdraw cX5_withdraw 2 (some FieldType.int) 8 0 0 args w Q
theorem hd_X5_withdraws : yX5_withdraws.cls ≠ "java/lang/invoke/MethodHandle" ∧ yX5_withdraws.cls ≠ "java/lang/invoke/VarHandle" ∧ (parseMethodDescriptor yX5_withdraws.desc).map (fun d => d.parameters.length) = some 1 := by decide +kernel
abbrev K_X5_withdraws (args : List Value) (w : Wd) (Q : Option Value → Wd → Prop) : Prop := Con yX5_withdraws cX5_withdraws 3 (some FieldType.int) 7 0 0 args w Q
end
section
/-! what is meant: functions of a place's record alone (fields as the class has them: 0 projects, 1 goal, 2 closed, 3 persons, 4 purse, 5 paid, 6 open, 7 called, 8 giver, 9 target, 10 amount, 11 kind, 12 value, 13 turn, 14 made, 15 withdrawn, 16 money) -/
theorem RI_t {b : Bool} {w : Wd} (h : b = true) : RI (bI b) w (some (.int 1)) w := ⟨by rw [h]; rfl, rfl⟩
theorem RI_f {b : Bool} {w : Wd} (h : b = false) : RI (bI b) w (some (.int 0)) w := ⟨by rw [h]; rfl, rfl⟩
theorem RI_r {r s : Int32} {w : Wd} (h : s = r) : RI r w (some (.int s)) w := ⟨by rw [h], rfl⟩
theorem nlt {a b : Int32} (h : ¬ a < b) : b ≤ a := Int32.not_lt.mp h
theorem nle {a b : Int32} (h : ¬ a ≤ b) : b < a := Int32.not_le.mp h
theorem lt_n {a b : Int32} (h : a < b) : ¬ b ≤ a := Int32.not_le.mpr h
theorem le_n {a b : Int32} (h : a ≤ b) : ¬ b < a := Int32.not_lt.mpr h
/-- loops: the counter against its end -/
theorem lp_in {i n : Nat} (h : i < n) (hn : n < 2 ^ 31 := by decide) : ¬ nI n ≤ nI i := nI_ge h hn
theorem lp_out {n : Nat} : nI n ≤ nI n := Int32.le_refl _
theorem stp {a x s : Int32} {f : Nat → Int32} {i : Nat} (hs : s = a + sm f i) (hf : f i = x) : s + x = a + sm f (i + 1) := by rw [hs, sm_s, hf, i32_add_assoc]
theorem stp0 {x s : Int32} {f : Nat → Int32} {i : Nat} (hs : s = sm f i) (hf : f i = x) : s + x = sm f (i + 1) := by rw [hs, sm_s, hf]
theorem mkp {s x : Int32} {f : Nat → Bool} {i : Nat} (hs : s = mk f i) (hf : (if f i = true then pw (nI i) else 0) = x) : s ||| x = mk f (i + 1) := by rw [hs, mk_i, hf]
theorem mkt {s : Int32} {f : Nat → Bool} {i : Nat} (hs : s = mk f i) (hf : f i = true) : s ||| pw (nI i) = mk f (i + 1) := by rw [hs, mk_t hf]
theorem mkf {s : Int32} {f : Nat → Bool} {i : Nat} (hs : s = mk f i) (hf : f i = false) : s = mk f (i + 1) := by rw [hs, mk_f hf]
theorem mkf0 {s : Int32} {f : Nat → Bool} {i : Nat} (hs : s = mk f i) (hf : f i = false) : s ||| 0 = mk f (i + 1) := by
  rw [hs, mk_f hf]
  apply bt_ext; intro i hi; rw [bt_or, bt_0, Bool.or_false]
abbrev Ex : Type := Int32 × Int32
def noX : Ex := (-1, 0)
/-- the money of the set for project j, with one more pledge -/
def mny (P : Pl) (x : Ex) (S j : Int32) : Int32 := (if x.1 = j then x.2 else 0) + sm (fun k => if (Bt S k && decide (P 9 k = j)) = true then P 10 k else 0) 12
def mnn (P : Pl) (x : Ex) (S j : Int32) : Int32 := (if x.1 = j then 1 else 0) + sm (fun k => if (Bt S k && decide (P 9 k = j)) = true then 1 else 0) 12
def isO (P : Pl) (S i : Int32) : Bool := anyb (fun k => Bt S k && decide (P 8 k = i)) 12
def wo (S : Int32) (k : Nat) : Int32 := S &&& (pw (nI k) ^^^ (-1))
def hld (P : Pl) (x : Ex) (k : Nat) (S : Int32) : Bool :=
  if P 11 k = 0 then true
  else if P 11 k = 1 then decide (P 12 k ≤ mny P x (wo S k) (P 9 k))
  else if P 11 k = 2 then decide (P 12 k ≤ mnn P x (wo S k) (P 9 k))
  else if P 11 k = 3 then isO P S (P 12 k)
  else decide (P 1 (P 12 k).toNatClampNeg ≤ mny P x S (P 12 k))
def fal (P : Pl) (x : Ex) (S C : Int32) : Int32 := mk (fun k => Bt S k && !hld P x k (S ||| C)) 12
/-- what is left of S behind n waves -/
def gs (P : Pl) (x : Ex) (C : Int32) : Nat → Int32 → Int32
  | 0, S => S
  | n + 1, S => gs P x C n S &&& (fal P x (gs P x C n S) C ^^^ (-1))
def grt (P : Pl) (x : Ex) (S C : Int32) : Int32 := gs P x C 12 S
/-- how many of the first n waves are waves in which some fall -/
def nw (P : Pl) (x : Ex) (S C : Int32) : Nat → Nat
  | 0 => 0
  | n + 1 => if fal P x (gs P x C n S) C = 0 then nw P x S C n else n + 1
/-- the waves in which places fall, over what was noted before -/
def wvm (P : Pl) (x : Ex) (S C : Int32) (old : Nat → Int32) : Nat → Nat → Int32
  | 0 => old
  | n + 1 => fun k => if (decide (k < 12) && Bt (fal P x (gs P x C n S) C) k) = true then nI (n + 1) else wvm P x S C old n k
def amt (P : Pl) (S : Int32) : Int32 := sm (fun k => if Bt S k = true then P 10 k else 0) 12
def cnt (S : Int32) : Int32 := sm (fun k => if Bt S k = true then 1 else 0) 12
def live (P : Pl) : Int32 := P 6 0 ||| P 7 0
def forP (P : Pl) (j : Int32) : Int32 := mk (fun k => Bt (live P) k && decide (P 9 k = j)) 12
def ofP (P : Pl) (i : Int32) : Int32 := mk (fun k => Bt (live P) k && decide (P 8 k = i)) 12
def std (P : Pl) (x : Ex) (g : Int32) : Int32 := grt P x (P 6 0 &&& (g ^^^ (-1))) (P 7 0) ||| P 7 0
def hasG (P : Pl) (x : Ex) (S j : Int32) : Bool := decide (P 1 j.toNatClampNeg ≤ mny P x S j)
/-- the record that the reference's row of numbers stands for -/
def sF (s : Nat → Int32) (k f : Nat) : Int32 := s (29 + 8 * k + f)
def sThere (s : Nat → Int32) (k : Nat) : Bool := decide (sF s k 0 = 1)
def sCalled (s : Nat → Int32) (k : Nat) : Bool := decide (sF s k 6 = 1)
def vP (s : Nat → Int32) : Pl := fun f k => match f with
  | 0 => s 0
  | 1 => s (5 + 2 * k)
  | 2 => mk (fun j => decide (s (5 + 2 * j + 1) = 1)) 4
  | 3 => s 1
  | 4 => s (13 + 2 * k)
  | 5 => s (13 + 2 * k + 1)
  | 6 => mk (fun j => sThere s j && !sCalled s j) 12
  | 7 => mk (fun j => sThere s j && sCalled s j) 12
  | 8 => sF s k 1
  | 9 => sF s k 2
  | 10 => sF s k 3
  | 11 => sF s k 4
  | 12 => sF s k 5
  | 13 => sF s k 7
  | 14 => s 2
  | 15 => s 3
  | 16 => s 4
  | _ => 0
end
section
/-! waves: they come to an end -/
theorem ua_ua (P : Pl) (f : Nat) (g g' : Nat → Int32) : ua (ua P f g) f g' = ua P f g' := by
  funext i; unfold ua; by_cases h : i = f <;> simp [h]
theorem us_us (P : Pl) (f : Nat) (v v' : Int32) : us (us P f v) f v' = us P f v' := by
  funext i; unfold us; by_cases h : i = f <;> simp [h]
theorem ua_id (P : Pl) (f : Nat) : ua P f (P f) = P := by
  funext i; unfold ua; by_cases h : i = f
  · subst h; simp
  · simp [h]
theorem us_ua (P : Pl) {f f' : Nat} (g : Nat → Int32) (v : Int32) (h : f ≠ f') : us (ua P f' g) f v = ua (us P f v) f' g := by
  funext i; unfold ua us
  by_cases h1 : i = f
  · subst h1; simp [h]
  · by_cases h2 : i = f'
    · subst h2; simp [h1]
    · simp [h1, h2]
theorem us_comm (P : Pl) {f f' : Nat} (v v' : Int32) (h : f ≠ f') : us (us P f v) f' v' = us (us P f' v') f v := by
  funext i; unfold us
  by_cases h1 : i = f
  · subst h1; simp [h]
  · by_cases h2 : i = f'
    · subst h2; simp [h1]
    · simp [h1, h2]
theorem ua_comm (P : Pl) {f f' : Nat} (v v' : Nat → Int32) (h : f ≠ f') : ua (ua P f v) f' v' = ua (ua P f' v') f v := by
  funext i; unfold ua
  by_cases h1 : i = f
  · subst h1; simp [h]
  · by_cases h2 : i = f'
    · subst h2; simp [h1]
    · simp [h1, h2]
theorem and_not0 (a : Int32) : a &&& (0 ^^^ (-1)) = a := by
  apply bt_ext; intro i hi; rw [bt_and, bt_not _ hi, bt_0]; simp
def nbc (f : Nat → Bool) : Nat → Nat
  | 0 => 0
  | n + 1 => nbc f n + (if f n = true then 1 else 0)
theorem nbc_le (f : Nat → Bool) : ∀ n, nbc f n ≤ n
  | 0 => Nat.le_refl 0
  | n + 1 => by
    have := nbc_le f n
    rw [nbc]; split <;> omega
theorem nbc_mono {f g : Nat → Bool} : ∀ {n : Nat}, (∀ k, k < n → f k = true → g k = true) → nbc f n ≤ nbc g n
  | 0, _ => Nat.le_refl 0
  | n + 1, h => by
    have h1 := nbc_mono (f := f) (g := g) (n := n) (fun k hk => h k (by omega))
    have h2 := h n (by omega)
    rw [nbc, nbc]
    cases hf : f n <;> cases hg : g n <;> simp_all <;> omega
theorem nbc_lt {f g : Nat → Bool} {j : Nat} : ∀ {n : Nat}, (∀ k, k < n → f k = true → g k = true) → j < n → f j = false → g j = true → nbc f n < nbc g n
  | 0, _, h, _, _ => absurd h (by omega)
  | n + 1, h, hj, hf, hg => by
    have h1 := nbc_mono (f := f) (g := g) (n := n) (fun k hk => h k (by omega))
    have h2 := h n (by omega)
    rw [nbc, nbc]
    by_cases hjn : j = n
    · subst hjn
      simp only [hf, hg]
      simp
      omega
    · have h3 := nbc_lt (f := f) (g := g) (n := n) (fun k hk => h k (by omega)) (by omega) hf hg
      cases hf : f n <;> cases hg : g n <;> simp_all <;> omega
theorem nbc_pos {f : Nat → Bool} {j n : Nat} (hj : j < n) (hf : f j = true) : 0 < nbc f n := by
  have h0 : nbc (fun _ => false) n = 0 := by
    induction n with
    | zero => rfl
    | succ n ih =>
      by_cases h : j < n
      · rw [nbc, ih h]; rfl
      · clear ih
        have : ∀ n, nbc (fun _ => false) n = 0 := fun n => by
          induction n with
          | zero => rfl
          | succ n ih => rw [nbc, ih]; rfl
        exact this _
  have := nbc_lt (f := fun _ => false) (g := f) (n := n) (fun k _ h => by cases h) hj rfl hf
  omega
section WV
variable {P : Pl} {x : Ex} {S C : Int32}
theorem fal_bt (k : Nat) : Bt (fal P x S C) k = (decide (k < 12) && (Bt S k && !hld P x k (S ||| C))) := bt_mk _ _ _ (by decide)
theorem fal_sub {k : Nat} (h : Bt (fal P x S C) k = true) : k < 12 ∧ Bt S k = true := by
  rw [fal_bt, Bool.and_eq_true, Bool.and_eq_true] at h
  exact ⟨of_decide_eq_true h.1, h.2.1⟩
theorem fal_ex (h : fal P x S C ≠ 0) : ∃ k, k < 12 ∧ Bt (fal P x S C) k = true := by
  apply Classical.byContradiction
  intro hn
  apply h
  apply bt_ext
  intro k _
  rw [bt_0]
  cases hb : Bt (fal P x S C) k
  · rfl
  · exact absurd ⟨k, (fal_sub hb).1, hb⟩ hn
theorem gs_s (n : Nat) : gs P x C (n + 1) S = gs P x C n S &&& (fal P x (gs P x C n S) C ^^^ (-1)) := rfl
theorem gs_sub : ∀ (n : Nat) {k : Nat}, Bt (gs P x C n S) k = true → Bt S k = true
  | 0, _, h => h
  | n + 1, k, h => by
    rw [gs_s, bt_and, Bool.and_eq_true] at h
    exact gs_sub n h.1
theorem gs_lo (h : lo12 S) (n : Nat) : lo12 (gs P x C n S) := fun k hk => by
  cases hb : Bt (gs P x C n S) k
  · rfl
  · have := gs_sub n hb
    rw [h k hk] at this
    cases this
theorem gs_stop {n : Nat} (h : fal P x (gs P x C n S) C = 0) : ∀ m, gs P x C (n + m) S = gs P x C n S
  | 0 => rfl
  | m + 1 => by
    rw [← Nat.add_assoc, gs_s, gs_stop h m, h, and_not0]
theorem gs_stop' {n m : Nat} (h : fal P x (gs P x C n S) C = 0) (hm : n ≤ m) : gs P x C m S = gs P x C n S := by
  obtain ⟨d, rfl⟩ : ∃ d, m = n + d := ⟨m - n, by omega⟩
  exact gs_stop h d
theorem fal_stop {n m : Nat} (h : fal P x (gs P x C n S) C = 0) (hm : n ≤ m) : fal P x (gs P x C m S) C = 0 := by rw [gs_stop' h hm, h]
theorem gs_nb {N n : Nat} (hN : 12 ≤ N) (h : ∀ i, i < n → fal P x (gs P x C i S) C ≠ 0) : nbc (Bt (gs P x C n S)) N + n ≤ N := by
  induction n with
  | zero => rw [Nat.add_zero]; exact nbc_le _ N
  | succ n ih =>
    have h1 := ih (fun i hi => h i (by omega))
    obtain ⟨k, hk, hb⟩ := fal_ex (h n (by omega))
    have h2 : nbc (Bt (gs P x C (n + 1) S)) N < nbc (Bt (gs P x C n S)) N := by
      refine nbc_lt (j := k) (fun i hi h => ?_) (by omega) ?_ (fal_sub hb).2
      · rw [gs_s, bt_and, Bool.and_eq_true] at h
        exact h.1
      · rw [gs_s, bt_and, bt_not _ (by omega), hb]; simp
    omega
/-- behind twelve waves none falls -/
theorem fal_end : fal P x (gs P x C 12 S) C = 0 := by
  apply Classical.byContradiction
  intro h
  have h1 : ∀ i, i < 12 → fal P x (gs P x C i S) C ≠ 0 := fun i hi h0 => h (fal_stop h0 (by omega))
  obtain ⟨N, hN⟩ : ∃ N, N = 12 := ⟨_, rfl⟩
  have h2 := gs_nb (N := N) (by omega) h1
  obtain ⟨k, hk, hb⟩ := fal_ex h
  have h3 := nbc_pos (n := N) (by omega) (fal_sub hb).2
  omega
theorem fal_le12 {n : Nat} (h : ∀ i, i < n → fal P x (gs P x C i S) C ≠ 0) : n ≤ 12 := by
  obtain ⟨N, hN⟩ : ∃ N, N = 12 := ⟨_, rfl⟩
  have := gs_nb (N := N) (by omega) h
  omega
theorem gs_grt {n : Nat} (h : fal P x (gs P x C n S) C = 0) (hn : n ≤ 12) : gs P x C n S = grt P x S C := (gs_stop' h hn).symm
theorem nw_all {n : Nat} (h : ∀ i, i < n → fal P x (gs P x C i S) C ≠ 0) : nw P x S C n = n := by
  induction n with
  | zero => rfl
  | succ n ih => rw [nw, if_neg (h n (by omega))]
theorem nw_end {n : Nat} (h : ∀ i, i < n → fal P x (gs P x C i S) C ≠ 0) (h0 : fal P x (gs P x C n S) C = 0) : ∀ m, nw P x S C (n + m) = n
  | 0 => nw_all h
  | m + 1 => by rw [← Nat.add_assoc, nw, if_pos (fal_stop h0 (by omega)), nw_end h h0 m]
theorem wvm_end {old : Nat → Int32} {n : Nat} (h0 : fal P x (gs P x C n S) C = 0) : ∀ m, wvm P x S C old (n + m) = wvm P x S C old n
  | 0 => rfl
  | m + 1 => by
    rw [← Nat.add_assoc, wvm, fal_stop h0 (by omega)]
    funext k
    rw [bt_0, Bool.and_false, if_neg (by decide), wvm_end h0 m]
end WV
end
section
/-! the reference: reads -/
theorem c_X5_in {v l m : Int32} {w : Wd} : K_X5_in [.int v, .int l, .int m] w (RI (bI (decide (l ≤ v) && decide (v ≤ m))) w) := by
  refine Con.mk [some (.int v), some (.int l), some (.int m)] (by decide) rfl rfl (Nat.le_of_ble_eq_true rfl) (fun X h hR hnm => ?_)
  refine V.iload0 h 1 dX5_in_0 rfl (V.iload1 h 2 dX5_in_1 rfl ?_)
  refine V.icmp_lt h 14 5 dX5_in_2 rfl rfl (fun c2 => ?_) (fun c2 => ?_)
  · refine V.iconst h 15 dX5_in_14 rfl ic1_0 ?_
    refine V.zret h hR (by first | exact bI_z _ | rfl) dX5_in_15 ?_
    first | exact RI_t (by simp [nlt c2, nlt c7]) | exact RI_f (by rw [decide_eq_false (lt_n c2), Bool.false_and]) | exact RI_f (by rw [decide_eq_false (lt_n c7), Bool.and_false])
  · refine V.iload0 h 6 dX5_in_5 rfl (V.iload2 h 7 dX5_in_6 rfl ?_)
    refine V.icmp_gt h 14 10 dX5_in_7 rfl rfl (fun c7 => ?_) (fun c7 => ?_)
    · refine V.iconst h 15 dX5_in_14 rfl ic1_0 ?_
      refine V.zret h hR (by first | exact bI_z _ | rfl) dX5_in_15 ?_
      first | exact RI_t (by simp [nlt c2, nlt c7]) | exact RI_f (by rw [decide_eq_false (lt_n c2), Bool.false_and]) | exact RI_f (by rw [decide_eq_false (lt_n c7), Bool.and_false])
    · refine V.iconst h 11 dX5_in_10 rfl ic1_1 (V.goto h 15 dX5_in_11 rfl ?_)
      refine V.zret h hR (by first | exact bI_z _ | rfl) dX5_in_15 ?_
      first | exact RI_t (by simp [nlt c2, nlt c7]) | exact RI_f (by rw [decide_eq_false (lt_n c2), Bool.false_and]) | exact RI_f (by rw [decide_eq_false (lt_n c7), Bool.and_false])
theorem c_X5_has {S : Int32} {k : Nat} {w : Wd} (hk : k < 32) : K_X5_has [.int S, .int (nI k)] w (RI (bI (Bt S k)) w) := by
  refine Con.mk [some (.int S), some (.int (nI k))] (by decide) rfl rfl (Nat.le_of_ble_eq_true rfl) (fun X h hR hnm => ?_)
  refine V.iload0 h 1 dX5_has_0 rfl (V.iload1 h 2 dX5_has_1 rfl (V.ishr h 3 dX5_has_2 rfl (V.iconst h 4 dX5_has_3 rfl ic1_1 (V.iand h 5 dX5_has_4 rfl ?_))))
  rw [tst S hk]
  refine V.iconst h 6 dX5_has_5 rfl ic1_1 ?_
  refine V.icmp_ne h 13 9 dX5_has_6 rfl rfl (fun c6 => ?_) (fun c6 => ?_)
  · refine V.iconst h 14 dX5_has_13 rfl ic1_0 ?_
    refine V.zret h hR (by first | exact bI_z _ | rfl) dX5_has_14 ?_
    first | exact RI_t ((bI_1 _).mp c6) | exact RI_f (by cases hb : Bt S k; rfl; exact absurd (by rw [hb]; rfl) c6)
  · refine V.iconst h 10 dX5_has_9 rfl ic1_1 (V.goto h 14 dX5_has_10 rfl ?_)
    refine V.zret h hR (by first | exact bI_z _ | rfl) dX5_has_14 ?_
    first | exact RI_t ((bI_1 _).mp c6) | exact RI_f (by cases hb : Bt S k; rfl; exact absurd (by rw [hb]; rfl) c6)
theorem c_X5_of {M : Pl} {b k : Nat} {v : Int32} {w : Wd} (f : Nat) (hv : v = nI f) (hk : k < 12) (hf : f < 8) : K_X5_of [.ref b, .int (nI k), .int v] (ms w b M) (RI (sF (M 0) k f) (ms w b M)) := by
  subst hv
  refine Con.mk [some (.ref b), some (.int (nI k)), some (.int (nI f))] (by decide) rfl rfl (Nat.le_of_ble_eq_true rfl) (fun X h hR hnm => ?_)
  have e : (29 : Int32) + 8 * nI k + nI f = nI (29 + 8 * k + f) := by rw [lit, lit, pk_mul, nI_add, nI_add]
  refine V.aload0 h 1 dX5_of_0 rfl (V.gX5 h 0 4 dX5_of_1 rfl rfl k544 mo rfl (V.bipush h 6 dX5_of_4 rfl ic2_29 (V.bipush h 8 dX5_of_6 rfl ic2_8 (V.iload1 h 9 dX5_of_8 rfl (V.imul h 10 dX5_of_9 rfl (V.iadd h 11 dX5_of_10 rfl (V.iload2 h 12 dX5_of_11 rfl ?_)))))))
  refine V.iadd h 13 dX5_of_12 rfl ?_
  rw [e]
  refine V.iald h 14 dX5_of_13 rfl ma1 (vp_in_nI (by omega) (by decide)) ?_
  refine V.iret h hR dX5_of_14 ?_
  exact RI_r (by rw [nI_tn (by omega)]; rfl)
theorem c_X5_goal {M : Pl} {b j : Nat} {w : Wd} (hj : j < 4) : K_X5_goal [.ref b, .int (nI j)] (ms w b M) (RI (vP (M 0) 1 j) (ms w b M)) := by
  refine Con.mk [some (.ref b), some (.int (nI j))] (by decide) rfl rfl (Nat.le_of_ble_eq_true rfl) (fun X h hR hnm => ?_)
  have e : (5 : Int32) + 2 * nI j = nI (5 + 2 * j) := by rw [lit, lit, pk_mul, nI_add]
  refine V.aload0 h 1 dX5_goal_0 rfl (V.gX5 h 0 4 dX5_goal_1 rfl rfl k544 mo rfl (V.iconst h 5 dX5_goal_4 rfl ic1_5 (V.iconst h 6 dX5_goal_5 rfl ic1_2 (V.iload1 h 7 dX5_goal_6 rfl (V.imul h 8 dX5_goal_7 rfl (V.iadd h 9 dX5_goal_8 rfl ?_))))))
  rw [e]
  refine V.iald h 10 dX5_goal_9 rfl ma1 (vp_in_nI (by omega) (by decide)) ?_
  refine V.iret h hR dX5_goal_10 ?_
  exact RI_r (by rw [nI_tn (by omega)]; rfl)
theorem c_X5_isClosed {M : Pl} {b j : Nat} {w : Wd} (hj : j < 4) : K_X5_isClosed [.ref b, .int (nI j)] (ms w b M) (RI (bI (decide (M 0 (5 + 2 * j + 1) = 1))) (ms w b M)) := by
  refine Con.mk [some (.ref b), some (.int (nI j))] (by decide) rfl rfl (Nat.le_of_ble_eq_true rfl) (fun X h hR hnm => ?_)
  have e : (5 : Int32) + 2 * nI j + 1 = nI (5 + 2 * j + 1) := by rw [lit, lit, lit, pk_mul, nI_add, nI_add]
  refine V.aload0 h 1 dX5_isClosed_0 rfl (V.gX5 h 0 4 dX5_isClosed_1 rfl rfl k544 mo rfl (V.iconst h 5 dX5_isClosed_4 rfl ic1_5 (V.iconst h 6 dX5_isClosed_5 rfl ic1_2 (V.iload1 h 7 dX5_isClosed_6 rfl (V.imul h 8 dX5_isClosed_7 rfl (V.iadd h 9 dX5_isClosed_8 rfl (V.iconst h 10 dX5_isClosed_9 rfl ic1_1 ?_)))))))
  refine V.iadd h 11 dX5_isClosed_10 rfl ?_
  rw [e]
  refine V.iald h 12 dX5_isClosed_11 rfl ma1 (vp_in_nI (by omega) (by decide)) ?_
  rw [nI_tn (by omega)]
  refine V.iconst h 13 dX5_isClosed_12 rfl ic1_1 ?_
  refine V.icmp_ne h 20 16 dX5_isClosed_13 rfl rfl (fun c13 => ?_) (fun c13 => ?_)
  · refine V.iconst h 21 dX5_isClosed_20 rfl ic1_0 ?_
    refine V.zret h hR (by first | exact bI_z _ | rfl) dX5_isClosed_21 ?_
    first | exact RI_t (by simp [c13]) | exact RI_f (by simp [c13])
  · refine V.iconst h 17 dX5_isClosed_16 rfl ic1_1 (V.goto h 21 dX5_isClosed_17 rfl ?_)
    refine V.zret h hR (by first | exact bI_z _ | rfl) dX5_isClosed_21 ?_
    first | exact RI_t (by simp [c13]) | exact RI_f (by simp [c13])
theorem c_X5_isProject {M : Pl} {b : Nat} {v : Int32} {w : Wd} : K_X5_isProject [.ref b, .int v] (ms w b M) (RI (bI (decide (0 ≤ v) && decide (v ≤ M 0 0 - 1))) (ms w b M)) := by
  refine Con.mk [some (.ref b), some (.int v)] (by decide) rfl rfl (Nat.le_of_ble_eq_true rfl) (fun X h hR hnm => ?_)
  refine V.iload1 h 1 dX5_isProject_0 rfl (V.iconst h 2 dX5_isProject_1 rfl ic1_0 (V.aload0 h 3 dX5_isProject_2 rfl (V.gX5 h 0 6 dX5_isProject_3 rfl rfl k544 mo rfl (V.iconst h 7 dX5_isProject_6 rfl ic1_0 (V.iald h 8 dX5_isProject_7 rfl ma1 (vp_in_nI (n := 0) (by decide) (by decide)) (V.iconst h 9 dX5_isProject_8 rfl ic1_1 (V.isub h 10 dX5_isProject_9 rfl ?_)))))))
  refine V.callSf (As := [.int _, .int _, .int _]) (st := []) h 13 dX5_isProject_10 rfl k604 k602 k603 k6 hd_X5_in ⟨(Nat.le_of_ble_eq_true rfl), (Nat.le_of_ble_eq_true rfl)⟩ (Nat.le_of_ble_eq_true rfl) ⟨Nat.zero_le _, Nat.zero_le _⟩ c_X5_in rfl ?_
  refine V.zret h hR (by first | exact bI_z _ | rfl) dX5_isProject_13 ?_
  exact RI_r rfl
theorem c_X5_isPerson {M : Pl} {b : Nat} {v : Int32} {w : Wd} : K_X5_isPerson [.ref b, .int v] (ms w b M) (RI (bI (decide (0 ≤ v) && decide (v ≤ M 0 1 - 1))) (ms w b M)) := by
  refine Con.mk [some (.ref b), some (.int v)] (by decide) rfl rfl (Nat.le_of_ble_eq_true rfl) (fun X h hR hnm => ?_)
  refine V.iload1 h 1 dX5_isPerson_0 rfl (V.iconst h 2 dX5_isPerson_1 rfl ic1_0 (V.aload0 h 3 dX5_isPerson_2 rfl (V.gX5 h 0 6 dX5_isPerson_3 rfl rfl k544 mo rfl (V.iconst h 7 dX5_isPerson_6 rfl ic1_1 (V.iald h 8 dX5_isPerson_7 rfl ma1 (vp_in_nI (n := 1) (by decide) (by decide)) (V.iconst h 9 dX5_isPerson_8 rfl ic1_1 (V.isub h 10 dX5_isPerson_9 rfl ?_)))))))
  refine V.callSf (As := [.int _, .int _, .int _]) (st := []) h 13 dX5_isPerson_10 rfl k604 k602 k603 k6 hd_X5_in ⟨(Nat.le_of_ble_eq_true rfl), (Nat.le_of_ble_eq_true rfl)⟩ (Nat.le_of_ble_eq_true rfl) ⟨Nat.zero_le _, Nat.zero_le _⟩ c_X5_in rfl ?_
  refine V.zret h hR (by first | exact bI_z _ | rfl) dX5_isPerson_13 ?_
  exact RI_r rfl
theorem c_X5_isPledge_in {M : Pl} {b k : Nat} {w : Wd} (hk : k < 12) : K_X5_isPledge [.ref b, .int (nI k)] (ms w b M) (RI (bI (sThere (M 0) k)) (ms w b M)) := by
  refine Con.mk [some (.ref b), some (.int (nI k))] (by decide) rfl rfl (Nat.le_of_ble_eq_true rfl) (fun X h hR hnm => ?_)
  have hin : (decide ((0 : Int32) ≤ nI k) && decide (nI k ≤ 11)) = true := by
    have h2 : nI k ≤ (11 : Int32) := show nI k ≤ nI 11 from nI_le (by omega) (by decide)
    rw [decide_eq_true (nI_pos' (by omega)), decide_eq_true h2]; rfl
  refine V.iload1 h 1 dX5_isPledge_0 rfl (V.iconst h 2 dX5_isPledge_1 rfl ic1_0 (V.bipush h 4 dX5_isPledge_2 rfl ic2_11 (V.callSf (As := [.int _, .int _, .int _]) (st := []) h 7 dX5_isPledge_4 rfl k604 k602 k603 k6 hd_X5_in ⟨(Nat.le_of_ble_eq_true rfl), (Nat.le_of_ble_eq_true rfl)⟩ (Nat.le_of_ble_eq_true rfl) ⟨Nat.zero_le _, Nat.zero_le _⟩ c_X5_in rfl ?_)))
  rw [hin]
  refine V.bif_eq h 24 10 dX5_isPledge_7 rfl rfl (fun q => absurd q (by decide)) (fun _ => ?_)
  refine V.aload0 h 11 dX5_isPledge_10 rfl (V.iload1 h 12 dX5_isPledge_11 rfl (V.iconst h 13 dX5_isPledge_12 rfl ic1_0 (V.callVf (As := [.int _, .int _]) (st := []) h 16 dX5_isPledge_13 rfl k648 k645 k647 ks63 k6 hd_X5_of ⟨(Nat.le_of_ble_eq_true rfl), (Nat.le_of_ble_eq_true rfl)⟩ (Nat.le_of_ble_eq_true rfl) mo rfl rfl ⟨Nat.zero_le _, Nat.zero_le _⟩ (c_X5_of 0 rfl hk (by decide)) rfl (V.iconst h 17 dX5_isPledge_16 rfl ic1_1 ?_))))
  refine V.icmp_ne h 24 20 dX5_isPledge_17 rfl rfl (fun c17 => ?_) (fun c17 => ?_)
  · refine V.iconst h 25 dX5_isPledge_24 rfl ic1_0 ?_
    refine V.zret h hR (by first | exact bI_z _ | rfl) dX5_isPledge_25 ?_
    first | exact RI_t (by simp [sThere, c17]) | exact RI_f (by simp [sThere, c17])
  · refine V.iconst h 21 dX5_isPledge_20 rfl ic1_1 (V.goto h 25 dX5_isPledge_21 rfl ?_)
    refine V.zret h hR (by first | exact bI_z _ | rfl) dX5_isPledge_25 ?_
    first | exact RI_t (by simp [sThere, c17]) | exact RI_f (by simp [sThere, c17])
end
section
/-! the reference: loops over the pledges -/
theorem c_X5_pledges {M : Pl} {b : Nat} {o c : Bool} {w : Wd} : K_X5_pledges [.ref b, .int (bI o), .int (bI c)] (ms w b M) (RI (mk (fun k => sThere (M 0) k && (if sCalled (M 0) k = true then c else o)) 12) (ms w b M)) := by
  refine Con.mk [some (.ref b), some (.int (bI o)), some (.int (bI c)), none, none, none] (by decide) rfl rfl (Nat.le_of_ble_eq_true rfl) (fun X h hR hnm => ?_)
  have L : ∀ (n i : Nat) (s : Int32) (u : Option Value), i + n = 12 → s = mk (fun k => sThere (M 0) k && (if sCalled (M 0) k = true then c else o)) i → V X 0 0 5 [some (.ref b), some (.int (bI o)), some (.int (bI c)), some (.int s), some (.int (nI i)), u] [] (ms w b M) := by
    intro n
    induction n with
    | zero =>
      intro i s u hi hs
      obtain rfl : i = 12 := by omega
      refine V.iload4 h 7 dX5_pledges_5 rfl (V.bipush h 9 dX5_pledges_7 rfl ic2_12 ?_)
      refine V.icmp_ge h 75 12 dX5_pledges_9 rfl rfl (fun _ => ?_) (fun q => absurd (lp_out (n := 12)) q)
      refine V.iload3 h 76 dX5_pledges_75 rfl ?_
      refine V.iret h hR dX5_pledges_76 ?_
      exact RI_r hs
    | succ n ih =>
      intro i s u hi hs
      refine V.iload4 h 7 dX5_pledges_5 rfl (V.bipush h 9 dX5_pledges_7 rfl ic2_12 ?_)
      refine V.icmp_ge h 75 12 dX5_pledges_9 rfl rfl (fun q => absurd q (lp_in (n := 12) (by omega))) (fun _ => ?_)
      refine V.aload0 h 13 dX5_pledges_12 rfl (V.iload4 h 15 dX5_pledges_13 rfl (V.iconst h 16 dX5_pledges_15 rfl ic1_0 (V.callVf (As := [.int _, .int _]) (st := []) h 19 dX5_pledges_16 rfl k648 k645 k647 ks63 k6 hd_X5_of ⟨(Nat.le_of_ble_eq_true rfl), (Nat.le_of_ble_eq_true rfl)⟩ (Nat.le_of_ble_eq_true rfl) mo rfl rfl ⟨Nat.zero_le _, Nat.zero_le _⟩ (c_X5_of 0 rfl (by omega) (by decide)) rfl (V.iconst h 20 dX5_pledges_19 rfl ic1_1 ?_))))
      refine V.icmp_ne h 50 23 dX5_pledges_20 rfl rfl (fun c20 => ?_) (fun c20 => ?_)
      · refine V.iconst h 51 dX5_pledges_50 rfl ic1_0 (V.istore5 h 53 dX5_pledges_51 rfl rfl (V.iload3 h 54 dX5_pledges_53 rfl (V.iload5 h 56 dX5_pledges_54 rfl ?_)))
        refine V.if_eq h 66 59 dX5_pledges_56 rfl rfl (fun c56 => ?_) (fun c56 => ?_)
        · refine V.iconst h 67 dX5_pledges_66 rfl ic1_0 (V.ior h 68 dX5_pledges_67 rfl (V.istore3 h 69 dX5_pledges_68 rfl rfl (V.incN4 h 72 dX5_pledges_69 rfl rfl (V.goto h 5 dX5_pledges_72 rfl ?_))))
          first | exact absurd rfl c56 | exact absurd c56 (by decide) | exact ih (i + 1) _ _ (by omega) (mkt hs (by simp [sThere, sCalled, *]; done)) | exact ih (i + 1) _ _ (by omega) (mkf0 hs (by simp [sThere, sCalled, *]; done))
        · refine V.iconst h 60 dX5_pledges_59 rfl ic1_1 (V.iload4 h 62 dX5_pledges_60 rfl (V.ishl h 63 dX5_pledges_62 rfl (V.goto h 67 dX5_pledges_63 rfl (V.ior h 68 dX5_pledges_67 rfl (V.istore3 h 69 dX5_pledges_68 rfl rfl (V.incN4 h 72 dX5_pledges_69 rfl rfl (V.goto h 5 dX5_pledges_72 rfl ?_)))))))
          first | exact absurd rfl c56 | exact absurd c56 (by decide) | exact ih (i + 1) _ _ (by omega) (mkt hs (by simp [sThere, sCalled, *]; done)) | exact ih (i + 1) _ _ (by omega) (mkf0 hs (by simp [sThere, sCalled, *]; done))
      · refine V.aload0 h 24 dX5_pledges_23 rfl (V.iload4 h 26 dX5_pledges_24 rfl (V.bipush h 28 dX5_pledges_26 rfl ic2_6 (V.callVf (As := [.int _, .int _]) (st := []) h 31 dX5_pledges_28 rfl k648 k645 k647 ks63 k6 hd_X5_of ⟨(Nat.le_of_ble_eq_true rfl), (Nat.le_of_ble_eq_true rfl)⟩ (Nat.le_of_ble_eq_true rfl) mo rfl rfl ⟨Nat.zero_le _, Nat.zero_le _⟩ (c_X5_of 6 rfl (by omega) (by decide)) rfl (V.iconst h 32 dX5_pledges_31 rfl ic1_1 ?_))))
        refine V.icmp_ne h 42 35 dX5_pledges_32 rfl rfl (fun c32 => ?_) (fun c32 => ?_)
        · refine V.iload1 h 43 dX5_pledges_42 rfl ?_
          refine V.bif_eq h 50 46 dX5_pledges_43 rfl rfl (fun c43 => ?_) (fun c43 => ?_)
          · refine V.iconst h 51 dX5_pledges_50 rfl ic1_0 (V.istore5 h 53 dX5_pledges_51 rfl rfl (V.iload3 h 54 dX5_pledges_53 rfl (V.iload5 h 56 dX5_pledges_54 rfl ?_)))
            refine V.if_eq h 66 59 dX5_pledges_56 rfl rfl (fun c56 => ?_) (fun c56 => ?_)
            · refine V.iconst h 67 dX5_pledges_66 rfl ic1_0 (V.ior h 68 dX5_pledges_67 rfl (V.istore3 h 69 dX5_pledges_68 rfl rfl (V.incN4 h 72 dX5_pledges_69 rfl rfl (V.goto h 5 dX5_pledges_72 rfl ?_))))
              first | exact absurd rfl c56 | exact absurd c56 (by decide) | exact ih (i + 1) _ _ (by omega) (mkt hs (by simp [sThere, sCalled, *]; done)) | exact ih (i + 1) _ _ (by omega) (mkf0 hs (by simp [sThere, sCalled, *]; done))
            · refine V.iconst h 60 dX5_pledges_59 rfl ic1_1 (V.iload4 h 62 dX5_pledges_60 rfl (V.ishl h 63 dX5_pledges_62 rfl (V.goto h 67 dX5_pledges_63 rfl (V.ior h 68 dX5_pledges_67 rfl (V.istore3 h 69 dX5_pledges_68 rfl rfl (V.incN4 h 72 dX5_pledges_69 rfl rfl (V.goto h 5 dX5_pledges_72 rfl ?_)))))))
              first | exact absurd rfl c56 | exact absurd c56 (by decide) | exact ih (i + 1) _ _ (by omega) (mkt hs (by simp [sThere, sCalled, *]; done)) | exact ih (i + 1) _ _ (by omega) (mkf0 hs (by simp [sThere, sCalled, *]; done))
          · refine V.iconst h 47 dX5_pledges_46 rfl ic1_1 (V.goto h 51 dX5_pledges_47 rfl (V.istore5 h 53 dX5_pledges_51 rfl rfl (V.iload3 h 54 dX5_pledges_53 rfl (V.iload5 h 56 dX5_pledges_54 rfl ?_))))
            refine V.if_eq h 66 59 dX5_pledges_56 rfl rfl (fun c56 => ?_) (fun c56 => ?_)
            · refine V.iconst h 67 dX5_pledges_66 rfl ic1_0 (V.ior h 68 dX5_pledges_67 rfl (V.istore3 h 69 dX5_pledges_68 rfl rfl (V.incN4 h 72 dX5_pledges_69 rfl rfl (V.goto h 5 dX5_pledges_72 rfl ?_))))
              first | exact absurd rfl c56 | exact absurd c56 (by decide) | exact ih (i + 1) _ _ (by omega) (mkt hs (by simp [sThere, sCalled, *]; done)) | exact ih (i + 1) _ _ (by omega) (mkf0 hs (by simp [sThere, sCalled, *]; done))
            · refine V.iconst h 60 dX5_pledges_59 rfl ic1_1 (V.iload4 h 62 dX5_pledges_60 rfl (V.ishl h 63 dX5_pledges_62 rfl (V.goto h 67 dX5_pledges_63 rfl (V.ior h 68 dX5_pledges_67 rfl (V.istore3 h 69 dX5_pledges_68 rfl rfl (V.incN4 h 72 dX5_pledges_69 rfl rfl (V.goto h 5 dX5_pledges_72 rfl ?_)))))))
              first | exact absurd rfl c56 | exact absurd c56 (by decide) | exact ih (i + 1) _ _ (by omega) (mkt hs (by simp [sThere, sCalled, *]; done)) | exact ih (i + 1) _ _ (by omega) (mkf0 hs (by simp [sThere, sCalled, *]; done))
        · refine V.iload2 h 36 dX5_pledges_35 rfl ?_
          refine V.bif_eq h 50 39 dX5_pledges_36 rfl rfl (fun c36 => ?_) (fun c36 => ?_)
          · refine V.iconst h 51 dX5_pledges_50 rfl ic1_0 (V.istore5 h 53 dX5_pledges_51 rfl rfl (V.iload3 h 54 dX5_pledges_53 rfl (V.iload5 h 56 dX5_pledges_54 rfl ?_)))
            refine V.if_eq h 66 59 dX5_pledges_56 rfl rfl (fun c56 => ?_) (fun c56 => ?_)
            · refine V.iconst h 67 dX5_pledges_66 rfl ic1_0 (V.ior h 68 dX5_pledges_67 rfl (V.istore3 h 69 dX5_pledges_68 rfl rfl (V.incN4 h 72 dX5_pledges_69 rfl rfl (V.goto h 5 dX5_pledges_72 rfl ?_))))
              first | exact absurd rfl c56 | exact absurd c56 (by decide) | exact ih (i + 1) _ _ (by omega) (mkt hs (by simp [sThere, sCalled, *]; done)) | exact ih (i + 1) _ _ (by omega) (mkf0 hs (by simp [sThere, sCalled, *]; done))
            · refine V.iconst h 60 dX5_pledges_59 rfl ic1_1 (V.iload4 h 62 dX5_pledges_60 rfl (V.ishl h 63 dX5_pledges_62 rfl (V.goto h 67 dX5_pledges_63 rfl (V.ior h 68 dX5_pledges_67 rfl (V.istore3 h 69 dX5_pledges_68 rfl rfl (V.incN4 h 72 dX5_pledges_69 rfl rfl (V.goto h 5 dX5_pledges_72 rfl ?_)))))))
              first | exact absurd rfl c56 | exact absurd c56 (by decide) | exact ih (i + 1) _ _ (by omega) (mkt hs (by simp [sThere, sCalled, *]; done)) | exact ih (i + 1) _ _ (by omega) (mkf0 hs (by simp [sThere, sCalled, *]; done))
          · refine V.goto h 46 dX5_pledges_39 rfl (V.iconst h 47 dX5_pledges_46 rfl ic1_1 (V.goto h 51 dX5_pledges_47 rfl (V.istore5 h 53 dX5_pledges_51 rfl rfl (V.iload3 h 54 dX5_pledges_53 rfl (V.iload5 h 56 dX5_pledges_54 rfl ?_)))))
            refine V.if_eq h 66 59 dX5_pledges_56 rfl rfl (fun c56 => ?_) (fun c56 => ?_)
            · refine V.iconst h 67 dX5_pledges_66 rfl ic1_0 (V.ior h 68 dX5_pledges_67 rfl (V.istore3 h 69 dX5_pledges_68 rfl rfl (V.incN4 h 72 dX5_pledges_69 rfl rfl (V.goto h 5 dX5_pledges_72 rfl ?_))))
              first | exact absurd rfl c56 | exact absurd c56 (by decide) | exact ih (i + 1) _ _ (by omega) (mkt hs (by simp [sThere, sCalled, *]; done)) | exact ih (i + 1) _ _ (by omega) (mkf0 hs (by simp [sThere, sCalled, *]; done))
            · refine V.iconst h 60 dX5_pledges_59 rfl ic1_1 (V.iload4 h 62 dX5_pledges_60 rfl (V.ishl h 63 dX5_pledges_62 rfl (V.goto h 67 dX5_pledges_63 rfl (V.ior h 68 dX5_pledges_67 rfl (V.istore3 h 69 dX5_pledges_68 rfl rfl (V.incN4 h 72 dX5_pledges_69 rfl rfl (V.goto h 5 dX5_pledges_72 rfl ?_)))))))
              first | exact absurd rfl c56 | exact absurd c56 (by decide) | exact ih (i + 1) _ _ (by omega) (mkt hs (by simp [sThere, sCalled, *]; done)) | exact ih (i + 1) _ _ (by omega) (mkf0 hs (by simp [sThere, sCalled, *]; done))
  refine V.iconst h 1 dX5_pledges_0 rfl ic1_0 (V.istore3 h 2 dX5_pledges_1 rfl rfl (V.iconst h 3 dX5_pledges_2 rfl ic1_0 (V.istore4 h 5 dX5_pledges_3 rfl rfl ?_)))
  exact L 12 0 0 _ rfl rfl
theorem c_X5_moneyFor {M : Pl} {b : Nat} {S j : Int32} {w : Wd} : K_X5_moneyFor [.ref b, .int S, .int j] (ms w b M) (RI (mny (vP (M 0)) (M 6 0, M 7 0) S j) (ms w b M)) := by
  refine Con.mk [some (.ref b), some (.int S), some (.int j), none, none] (by decide) rfl rfl (Nat.le_of_ble_eq_true rfl) (fun X h hR hnm => ?_)
  have L : ∀ (n i : Nat) (s : Int32), i + n = 12 → s = (if M 6 0 = j then M 7 0 else 0) + sm (fun k => if (Bt S k && decide (vP (M 0) 9 k = j)) = true then vP (M 0) 10 k else 0) i → V X 0 0 20 [some (.ref b), some (.int S), some (.int j), some (.int s), some (.int (nI i))] [] (ms w b M) := by
    intro n
    induction n with
    | zero =>
      intro i s hi hs
      obtain rfl : i = 12 := by omega
      refine V.iload4 h 22 dX5_moneyFor_20 rfl (V.bipush h 24 dX5_moneyFor_22 rfl ic2_12 ?_)
      refine V.icmp_ge h 67 27 dX5_moneyFor_24 rfl rfl (fun _ => ?_) (fun q => absurd (lp_out (n := 12)) q)
      refine V.iload3 h 68 dX5_moneyFor_67 rfl ?_
      refine V.iret h hR dX5_moneyFor_68 ?_
      exact RI_r hs
    | succ n ih =>
      intro i s hi hs
      refine V.iload4 h 22 dX5_moneyFor_20 rfl (V.bipush h 24 dX5_moneyFor_22 rfl ic2_12 ?_)
      refine V.icmp_ge h 67 27 dX5_moneyFor_24 rfl rfl (fun q => absurd q (lp_in (n := 12) (by omega))) (fun _ => ?_)
      refine V.iload3 h 28 dX5_moneyFor_27 rfl (V.iload1 h 29 dX5_moneyFor_28 rfl (V.iload4 h 31 dX5_moneyFor_29 rfl (V.callSf (As := [.int _, .int _]) (st := [.int _]) h 34 dX5_moneyFor_31 rfl k663 k661 k662 k6 hd_X5_has ⟨(Nat.le_of_ble_eq_true rfl), (Nat.le_of_ble_eq_true rfl)⟩ (Nat.le_of_ble_eq_true rfl) ⟨Nat.zero_le _, Nat.zero_le _⟩ (c_X5_has (by omega)) rfl ?_)))
      refine V.bif_eq h 58 37 dX5_moneyFor_34 rfl rfl (fun c34 => ?_) (fun c34 => ?_)
      · refine V.iconst h 59 dX5_moneyFor_58 rfl ic1_0 (V.iadd h 60 dX5_moneyFor_59 rfl (V.istore3 h 61 dX5_moneyFor_60 rfl rfl (V.incN4 h 64 dX5_moneyFor_61 rfl rfl (V.goto h 20 dX5_moneyFor_64 rfl ?_))))
        exact ih (i + 1) _ (by omega) (stp hs (by simp [vP, *]; done))
      · refine V.aload0 h 38 dX5_moneyFor_37 rfl (V.iload4 h 40 dX5_moneyFor_38 rfl (V.iconst h 41 dX5_moneyFor_40 rfl ic1_2 (V.callVf (As := [.int _, .int _]) (st := [.int _]) h 44 dX5_moneyFor_41 rfl k648 k645 k647 ks63 k6 hd_X5_of ⟨(Nat.le_of_ble_eq_true rfl), (Nat.le_of_ble_eq_true rfl)⟩ (Nat.le_of_ble_eq_true rfl) mo rfl rfl ⟨Nat.zero_le _, Nat.zero_le _⟩ (c_X5_of 2 rfl (by omega) (by decide)) rfl (V.iload2 h 45 dX5_moneyFor_44 rfl ?_))))
        refine V.icmp_ne h 58 48 dX5_moneyFor_45 rfl rfl (fun c45 => ?_) (fun c45 => ?_)
        · refine V.iconst h 59 dX5_moneyFor_58 rfl ic1_0 (V.iadd h 60 dX5_moneyFor_59 rfl (V.istore3 h 61 dX5_moneyFor_60 rfl rfl (V.incN4 h 64 dX5_moneyFor_61 rfl rfl (V.goto h 20 dX5_moneyFor_64 rfl ?_))))
          exact ih (i + 1) _ (by omega) (stp hs (by simp [vP, *]; done))
        · refine V.aload0 h 49 dX5_moneyFor_48 rfl (V.iload4 h 51 dX5_moneyFor_49 rfl (V.iconst h 52 dX5_moneyFor_51 rfl ic1_3 (V.callVf (As := [.int _, .int _]) (st := [.int _]) h 55 dX5_moneyFor_52 rfl k648 k645 k647 ks63 k6 hd_X5_of ⟨(Nat.le_of_ble_eq_true rfl), (Nat.le_of_ble_eq_true rfl)⟩ (Nat.le_of_ble_eq_true rfl) mo rfl rfl ⟨Nat.zero_le _, Nat.zero_le _⟩ (c_X5_of 3 rfl (by omega) (by decide)) rfl (V.goto h 59 dX5_moneyFor_55 rfl (V.iadd h 60 dX5_moneyFor_59 rfl (V.istore3 h 61 dX5_moneyFor_60 rfl rfl (V.incN4 h 64 dX5_moneyFor_61 rfl rfl ?_)))))))
          refine V.goto h 20 dX5_moneyFor_64 rfl ?_
          exact ih (i + 1) _ (by omega) (stp hs (by simp [vP, *]; done))
  refine V.aload0 h 1 dX5_moneyFor_0 rfl (V.gX5 h 6 4 dX5_moneyFor_1 rfl rfl k550 mo rfl (V.iload2 h 5 dX5_moneyFor_4 rfl ?_))
  refine V.icmp_ne h 15 8 dX5_moneyFor_5 rfl rfl (fun c5 => ?_) (fun c5 => ?_)
  · refine V.iconst h 16 dX5_moneyFor_15 rfl ic1_0 (V.istore3 h 17 dX5_moneyFor_16 rfl rfl (V.iconst h 18 dX5_moneyFor_17 rfl ic1_0 (V.istore4 h 20 dX5_moneyFor_18 rfl rfl ?_)))
    exact L 12 0 _ rfl (by simp [sm_0, c5])
  · refine V.aload0 h 9 dX5_moneyFor_8 rfl (V.gX5 h 7 12 dX5_moneyFor_9 rfl rfl k551 mo rfl (V.goto h 16 dX5_moneyFor_12 rfl (V.istore3 h 17 dX5_moneyFor_16 rfl rfl (V.iconst h 18 dX5_moneyFor_17 rfl ic1_0 (V.istore4 h 20 dX5_moneyFor_18 rfl rfl ?_)))))
    exact L 12 0 _ rfl (by simp [sm_0, c5])
theorem c_X5_manyFor {M : Pl} {b : Nat} {S j : Int32} {w : Wd} : K_X5_manyFor [.ref b, .int S, .int j] (ms w b M) (RI (mnn (vP (M 0)) (M 6 0, M 7 0) S j) (ms w b M)) := by
  refine Con.mk [some (.ref b), some (.int S), some (.int j), none, none] (by decide) rfl rfl (Nat.le_of_ble_eq_true rfl) (fun X h hR hnm => ?_)
  have L : ∀ (n i : Nat) (s : Int32), i + n = 12 → s = (if M 6 0 = j then 1 else 0) + sm (fun k => if (Bt S k && decide (vP (M 0) 9 k = j)) = true then 1 else 0) i → V X 0 0 17 [some (.ref b), some (.int S), some (.int j), some (.int s), some (.int (nI i))] [] (ms w b M) := by
    intro n
    induction n with
    | zero =>
      intro i s hi hs
      obtain rfl : i = 12 := by omega
      refine V.iload4 h 19 dX5_manyFor_17 rfl (V.bipush h 21 dX5_manyFor_19 rfl ic2_12 ?_)
      refine V.icmp_ge h 58 24 dX5_manyFor_21 rfl rfl (fun _ => ?_) (fun q => absurd (lp_out (n := 12)) q)
      refine V.iload3 h 59 dX5_manyFor_58 rfl ?_
      refine V.iret h hR dX5_manyFor_59 ?_
      exact RI_r hs
    | succ n ih =>
      intro i s hi hs
      refine V.iload4 h 19 dX5_manyFor_17 rfl (V.bipush h 21 dX5_manyFor_19 rfl ic2_12 ?_)
      refine V.icmp_ge h 58 24 dX5_manyFor_21 rfl rfl (fun q => absurd q (lp_in (n := 12) (by omega))) (fun _ => ?_)
      refine V.iload3 h 25 dX5_manyFor_24 rfl (V.iload1 h 26 dX5_manyFor_25 rfl (V.iload4 h 28 dX5_manyFor_26 rfl (V.callSf (As := [.int _, .int _]) (st := [.int _]) h 31 dX5_manyFor_28 rfl k663 k661 k662 k6 hd_X5_has ⟨(Nat.le_of_ble_eq_true rfl), (Nat.le_of_ble_eq_true rfl)⟩ (Nat.le_of_ble_eq_true rfl) ⟨Nat.zero_le _, Nat.zero_le _⟩ (c_X5_has (by omega)) rfl ?_)))
      refine V.bif_eq h 49 34 dX5_manyFor_31 rfl rfl (fun c31 => ?_) (fun c31 => ?_)
      · refine V.iconst h 50 dX5_manyFor_49 rfl ic1_0 (V.iadd h 51 dX5_manyFor_50 rfl (V.istore3 h 52 dX5_manyFor_51 rfl rfl (V.incN4 h 55 dX5_manyFor_52 rfl rfl (V.goto h 17 dX5_manyFor_55 rfl ?_))))
        exact ih (i + 1) _ (by omega) (stp hs (by simp [vP, *]; done))
      · refine V.aload0 h 35 dX5_manyFor_34 rfl (V.iload4 h 37 dX5_manyFor_35 rfl (V.iconst h 38 dX5_manyFor_37 rfl ic1_2 (V.callVf (As := [.int _, .int _]) (st := [.int _]) h 41 dX5_manyFor_38 rfl k648 k645 k647 ks63 k6 hd_X5_of ⟨(Nat.le_of_ble_eq_true rfl), (Nat.le_of_ble_eq_true rfl)⟩ (Nat.le_of_ble_eq_true rfl) mo rfl rfl ⟨Nat.zero_le _, Nat.zero_le _⟩ (c_X5_of 2 rfl (by omega) (by decide)) rfl (V.iload2 h 42 dX5_manyFor_41 rfl ?_))))
        refine V.icmp_ne h 49 45 dX5_manyFor_42 rfl rfl (fun c42 => ?_) (fun c42 => ?_)
        · refine V.iconst h 50 dX5_manyFor_49 rfl ic1_0 (V.iadd h 51 dX5_manyFor_50 rfl (V.istore3 h 52 dX5_manyFor_51 rfl rfl (V.incN4 h 55 dX5_manyFor_52 rfl rfl (V.goto h 17 dX5_manyFor_55 rfl ?_))))
          exact ih (i + 1) _ (by omega) (stp hs (by simp [vP, *]; done))
        · refine V.iconst h 46 dX5_manyFor_45 rfl ic1_1 (V.goto h 50 dX5_manyFor_46 rfl (V.iadd h 51 dX5_manyFor_50 rfl (V.istore3 h 52 dX5_manyFor_51 rfl rfl (V.incN4 h 55 dX5_manyFor_52 rfl rfl (V.goto h 17 dX5_manyFor_55 rfl ?_)))))
          exact ih (i + 1) _ (by omega) (stp hs (by simp [vP, *]; done))
  refine V.aload0 h 1 dX5_manyFor_0 rfl (V.gX5 h 6 4 dX5_manyFor_1 rfl rfl k550 mo rfl (V.iload2 h 5 dX5_manyFor_4 rfl ?_))
  refine V.icmp_ne h 12 8 dX5_manyFor_5 rfl rfl (fun c5 => ?_) (fun c5 => ?_)
  · refine V.iconst h 13 dX5_manyFor_12 rfl ic1_0 (V.istore3 h 14 dX5_manyFor_13 rfl rfl (V.iconst h 15 dX5_manyFor_14 rfl ic1_0 (V.istore4 h 17 dX5_manyFor_15 rfl rfl ?_)))
    exact L 12 0 _ rfl (by simp [sm_0, c5])
  · refine V.iconst h 9 dX5_manyFor_8 rfl ic1_1 (V.goto h 13 dX5_manyFor_9 rfl (V.istore3 h 14 dX5_manyFor_13 rfl rfl (V.iconst h 15 dX5_manyFor_14 rfl ic1_0 (V.istore4 h 17 dX5_manyFor_15 rfl rfl ?_))))
    exact L 12 0 _ rfl (by simp [sm_0, c5])
theorem c_X5_isOf {M : Pl} {b : Nat} {S j : Int32} {w : Wd} : K_X5_isOf [.ref b, .int S, .int j] (ms w b M) (RI (bI (isO (vP (M 0)) S j)) (ms w b M)) := by
  refine Con.mk [some (.ref b), some (.int S), some (.int j), none, none] (by decide) rfl rfl (Nat.le_of_ble_eq_true rfl) (fun X h hR hnm => ?_)
  have L : ∀ (n i : Nat) (s : Bool) (z : Int32), i + n = 12 → z = bI s → s = anyb (fun k => Bt S k && decide (vP (M 0) 8 k = j)) i → V X 0 0 5 [some (.ref b), some (.int S), some (.int j), some (.int z), some (.int (nI i))] [] (ms w b M) := by
    intro n
    induction n with
    | zero =>
      intro i s z hi hz hs
      subst hz
      obtain rfl : i = 12 := by omega
      refine V.iload4 h 7 dX5_isOf_5 rfl (V.bipush h 9 dX5_isOf_7 rfl ic2_12 ?_)
      refine V.icmp_ge h 48 12 dX5_isOf_9 rfl rfl (fun _ => ?_) (fun q => absurd (lp_out (n := 12)) q)
      refine V.iload3 h 49 dX5_isOf_48 rfl ?_
      refine V.zret h hR (by first | exact bI_z _ | rfl) dX5_isOf_49 ?_
      exact RI_r (by rw [hs]; rfl)
    | succ n ih =>
      intro i s z hi hz hs
      subst hz
      refine V.iload4 h 7 dX5_isOf_5 rfl (V.bipush h 9 dX5_isOf_7 rfl ic2_12 ?_)
      refine V.icmp_ge h 48 12 dX5_isOf_9 rfl rfl (fun q => absurd q (lp_in (n := 12) (by omega))) (fun _ => ?_)
      refine V.iload3 h 13 dX5_isOf_12 rfl ?_
      refine V.bif_ne h 36 16 dX5_isOf_13 rfl rfl (fun c13 => ?_) (fun c13 => ?_)
      · refine V.iconst h 37 dX5_isOf_36 rfl ic1_1 (V.goto h 41 dX5_isOf_37 rfl (V.istore3 h 42 dX5_isOf_41 rfl rfl (V.incN4 h 45 dX5_isOf_42 rfl rfl (V.goto h 5 dX5_isOf_45 rfl ?_))))
        first | exact ih (i + 1) true _ (by omega) rfl (by rw [anyb, ← hs]; clear hs ih; simp [vP, *]; done) | exact ih (i + 1) false _ (by omega) rfl (by rw [anyb, ← hs]; clear hs ih; simp [vP, *]; done)
      · refine V.iload1 h 17 dX5_isOf_16 rfl (V.iload4 h 19 dX5_isOf_17 rfl (V.callSf (As := [.int _, .int _]) (st := []) h 22 dX5_isOf_19 rfl k663 k661 k662 k6 hd_X5_has ⟨(Nat.le_of_ble_eq_true rfl), (Nat.le_of_ble_eq_true rfl)⟩ (Nat.le_of_ble_eq_true rfl) ⟨Nat.zero_le _, Nat.zero_le _⟩ (c_X5_has (by omega)) rfl ?_))
        refine V.bif_eq h 40 25 dX5_isOf_22 rfl rfl (fun c22 => ?_) (fun c22 => ?_)
        · refine V.iconst h 41 dX5_isOf_40 rfl ic1_0 (V.istore3 h 42 dX5_isOf_41 rfl rfl (V.incN4 h 45 dX5_isOf_42 rfl rfl (V.goto h 5 dX5_isOf_45 rfl ?_)))
          first | exact ih (i + 1) true _ (by omega) rfl (by rw [anyb, ← hs]; clear hs ih; simp [vP, *]; done) | exact ih (i + 1) false _ (by omega) rfl (by rw [anyb, ← hs]; clear hs ih; simp [vP, *]; done)
        · refine V.aload0 h 26 dX5_isOf_25 rfl (V.iload4 h 28 dX5_isOf_26 rfl (V.iconst h 29 dX5_isOf_28 rfl ic1_1 (V.callVf (As := [.int _, .int _]) (st := []) h 32 dX5_isOf_29 rfl k648 k645 k647 ks63 k6 hd_X5_of ⟨(Nat.le_of_ble_eq_true rfl), (Nat.le_of_ble_eq_true rfl)⟩ (Nat.le_of_ble_eq_true rfl) mo rfl rfl ⟨Nat.zero_le _, Nat.zero_le _⟩ (c_X5_of 1 rfl (by omega) (by decide)) rfl (V.iload2 h 33 dX5_isOf_32 rfl ?_))))
          refine V.icmp_ne h 40 36 dX5_isOf_33 rfl rfl (fun c33 => ?_) (fun c33 => ?_)
          · refine V.iconst h 41 dX5_isOf_40 rfl ic1_0 (V.istore3 h 42 dX5_isOf_41 rfl rfl (V.incN4 h 45 dX5_isOf_42 rfl rfl (V.goto h 5 dX5_isOf_45 rfl ?_)))
            first | exact ih (i + 1) true _ (by omega) rfl (by rw [anyb, ← hs]; clear hs ih; simp [vP, *]; done) | exact ih (i + 1) false _ (by omega) rfl (by rw [anyb, ← hs]; clear hs ih; simp [vP, *]; done)
          · refine V.iconst h 37 dX5_isOf_36 rfl ic1_1 (V.goto h 41 dX5_isOf_37 rfl (V.istore3 h 42 dX5_isOf_41 rfl rfl (V.incN4 h 45 dX5_isOf_42 rfl rfl (V.goto h 5 dX5_isOf_45 rfl ?_))))
            first | exact ih (i + 1) true _ (by omega) rfl (by rw [anyb, ← hs]; clear hs ih; simp [vP, *]; done) | exact ih (i + 1) false _ (by omega) rfl (by rw [anyb, ← hs]; clear hs ih; simp [vP, *]; done)
  refine V.iconst h 1 dX5_isOf_0 rfl ic1_0 (V.istore3 h 2 dX5_isOf_1 rfl rfl (V.iconst h 3 dX5_isOf_2 rfl ic1_0 (V.istore4 h 5 dX5_isOf_3 rfl rfl ?_)))
  exact L 12 0 false _ rfl rfl rfl
/-- a condition that can be looked at -/
def kOK (P : Pl) (k : Nat) : Prop := P 11 k = 0 ∨ P 11 k = 1 ∨ P 11 k = 2 ∨ P 11 k = 3 ∨ ∃ j, j < 4 ∧ P 12 k = nI j
theorem c_X5_holds {M : Pl} {b k : Nat} {S : Int32} {w : Wd} (hk : k < 12) (hok : kOK (vP (M 0)) k) : K_X5_holds [.ref b, .int (nI k), .int S] (ms w b M) (RI (bI (hld (vP (M 0)) (M 6 0, M 7 0) k S)) (ms w b M)) := by
  refine Con.mk [some (.ref b), some (.int (nI k)), some (.int S), none, none] (by decide) rfl rfl (Nat.le_of_ble_eq_true rfl) (fun X h hR hnm => ?_)
  have e0 : (S &&& ((1 : Int32) <<< (nI k &&& 31) ^^^ -1)) = wo S k := rfl
  have hv : ∀ q, hld (vP (M 0)) (M 6 0, M 7 0) k S = q ↔ (if sF (M 0) k 4 = 0 then true else if sF (M 0) k 4 = 1 then decide (sF (M 0) k 5 ≤ mny (vP (M 0)) (M 6 0, M 7 0) (wo S k) (sF (M 0) k 2)) else if sF (M 0) k 4 = 2 then decide (sF (M 0) k 5 ≤ mnn (vP (M 0)) (M 6 0, M 7 0) (wo S k) (sF (M 0) k 2)) else if sF (M 0) k 4 = 3 then isO (vP (M 0)) S (sF (M 0) k 5) else decide (vP (M 0) 1 (sF (M 0) k 5).toNatClampNeg ≤ mny (vP (M 0)) (M 6 0, M 7 0) S (sF (M 0) k 5))) = q := fun q => Iff.rfl
  refine V.iload2 h 1 dX5_holds_0 rfl (V.iconst h 2 dX5_holds_1 rfl ic1_1 (V.iload1 h 3 dX5_holds_2 rfl (V.ishl h 4 dX5_holds_3 rfl (V.iconst h 5 dX5_holds_4 rfl ic1_m1 (V.ixor h 6 dX5_holds_5 rfl (V.iand h 7 dX5_holds_6 rfl ?_))))))
  rw [e0]
  refine V.istore3 h 8 dX5_holds_7 rfl rfl (V.aload0 h 9 dX5_holds_8 rfl (V.iload1 h 10 dX5_holds_9 rfl (V.iconst h 11 dX5_holds_10 rfl ic1_5 (V.callVf (As := [.int _, .int _]) (st := []) h 14 dX5_holds_11 rfl k648 k645 k647 ks63 k6 hd_X5_of ⟨(Nat.le_of_ble_eq_true rfl), (Nat.le_of_ble_eq_true rfl)⟩ (Nat.le_of_ble_eq_true rfl) mo rfl rfl ⟨Nat.zero_le _, Nat.zero_le _⟩ (c_X5_of 5 rfl (by omega) (by decide)) rfl (V.istore4 h 16 dX5_holds_14 rfl rfl (V.aload0 h 17 dX5_holds_16 rfl (V.iload1 h 18 dX5_holds_17 rfl ?_)))))))
  refine V.iconst h 19 dX5_holds_18 rfl ic1_4 (V.callVf (As := [.int _, .int _]) (st := []) h 22 dX5_holds_19 rfl k648 k645 k647 ks63 k6 hd_X5_of ⟨(Nat.le_of_ble_eq_true rfl), (Nat.le_of_ble_eq_true rfl)⟩ (Nat.le_of_ble_eq_true rfl) mo rfl rfl ⟨Nat.zero_le _, Nat.zero_le _⟩ (c_X5_of 4 rfl (by omega) (by decide)) rfl ?_)
  refine V.tcase (off := 30) h (0 : Int32) 52 dX5_holds_22 (by decide) (by decide +kernel) rfl (fun c22_0 => ?_) (fun c22_0 => ?_)
  · refine V.iconst h 53 dX5_holds_52 rfl ic1_1 ?_
    refine V.zret h hR (by first | exact bI_z _ | rfl) dX5_holds_53 ?_
    exact RI_t ((hv _).mpr (by simp [c22_0]))
  refine V.tcase (off := 32) h (1 : Int32) 54 dX5_holds_22 (by decide) (by decide +kernel) rfl (fun c22_1 => ?_) (fun c22_1 => ?_)
  · refine V.aload0 h 55 dX5_holds_54 rfl (V.iload3 h 56 dX5_holds_55 rfl (V.aload0 h 57 dX5_holds_56 rfl (V.iload1 h 58 dX5_holds_57 rfl (V.iconst h 59 dX5_holds_58 rfl ic1_2 (V.callVf (As := [.int _, .int _]) (st := [.int _, .ref _]) h 62 dX5_holds_59 rfl k648 k645 k647 ks63 k6 hd_X5_of ⟨(Nat.le_of_ble_eq_true rfl), (Nat.le_of_ble_eq_true rfl)⟩ (Nat.le_of_ble_eq_true rfl) mo rfl rfl ⟨Nat.zero_le _, Nat.zero_le _⟩ (c_X5_of 2 rfl (by omega) (by decide)) rfl (V.callVf (As := [.int _, .int _]) (st := []) h 65 dX5_holds_62 rfl k703 k700 k702 ks75 k6 hd_X5_moneyFor ⟨(Nat.le_of_ble_eq_true rfl), (Nat.le_of_ble_eq_true rfl)⟩ (Nat.le_of_ble_eq_true rfl) mo rfl rfl ⟨Nat.zero_le _, Nat.zero_le _⟩ c_X5_moneyFor rfl (V.iload4 h 67 dX5_holds_65 rfl ?_)))))))
    refine V.icmp_lt h 74 70 dX5_holds_67 rfl rfl (fun c67 => ?_) (fun c67 => ?_)
    · refine V.iconst h 75 dX5_holds_74 rfl ic1_0 ?_
      refine V.zret h hR (by first | exact bI_z _ | rfl) dX5_holds_75 ?_
      first | exact RI_t ((hv _).mpr (by rw [if_neg c22_0, if_pos c22_1]; simp [nlt c67]; done)) | exact RI_f ((hv _).mpr (by rw [if_neg c22_0, if_pos c22_1]; simp [c67]; done))
    · refine V.iconst h 71 dX5_holds_70 rfl ic1_1 (V.goto h 75 dX5_holds_71 rfl ?_)
      refine V.zret h hR (by first | exact bI_z _ | rfl) dX5_holds_75 ?_
      first | exact RI_t ((hv _).mpr (by rw [if_neg c22_0, if_pos c22_1]; simp [nlt c67]; done)) | exact RI_f ((hv _).mpr (by rw [if_neg c22_0, if_pos c22_1]; simp [c67]; done))
  refine V.tcase (off := 54) h (2 : Int32) 76 dX5_holds_22 (by decide) (by decide +kernel) rfl (fun c22_2 => ?_) (fun c22_2 => ?_)
  · refine V.aload0 h 77 dX5_holds_76 rfl (V.iload3 h 78 dX5_holds_77 rfl (V.aload0 h 79 dX5_holds_78 rfl (V.iload1 h 80 dX5_holds_79 rfl (V.iconst h 81 dX5_holds_80 rfl ic1_2 (V.callVf (As := [.int _, .int _]) (st := [.int _, .ref _]) h 84 dX5_holds_81 rfl k648 k645 k647 ks63 k6 hd_X5_of ⟨(Nat.le_of_ble_eq_true rfl), (Nat.le_of_ble_eq_true rfl)⟩ (Nat.le_of_ble_eq_true rfl) mo rfl rfl ⟨Nat.zero_le _, Nat.zero_le _⟩ (c_X5_of 2 rfl (by omega) (by decide)) rfl (V.callVf (As := [.int _, .int _]) (st := []) h 87 dX5_holds_84 rfl k707 k704 k706 ks76 k6 hd_X5_manyFor ⟨(Nat.le_of_ble_eq_true rfl), (Nat.le_of_ble_eq_true rfl)⟩ (Nat.le_of_ble_eq_true rfl) mo rfl rfl ⟨Nat.zero_le _, Nat.zero_le _⟩ c_X5_manyFor rfl (V.iload4 h 89 dX5_holds_87 rfl ?_)))))))
    refine V.icmp_lt h 96 92 dX5_holds_89 rfl rfl (fun c89 => ?_) (fun c89 => ?_)
    · refine V.iconst h 97 dX5_holds_96 rfl ic1_0 ?_
      refine V.zret h hR (by first | exact bI_z _ | rfl) dX5_holds_97 ?_
      first | exact RI_t ((hv _).mpr (by rw [if_neg c22_0, if_neg c22_1, if_pos c22_2]; simp [nlt c89]; done)) | exact RI_f ((hv _).mpr (by rw [if_neg c22_0, if_neg c22_1, if_pos c22_2]; simp [c89]; done))
    · refine V.iconst h 93 dX5_holds_92 rfl ic1_1 (V.goto h 97 dX5_holds_93 rfl ?_)
      refine V.zret h hR (by first | exact bI_z _ | rfl) dX5_holds_97 ?_
      first | exact RI_t ((hv _).mpr (by rw [if_neg c22_0, if_neg c22_1, if_pos c22_2]; simp [nlt c89]; done)) | exact RI_f ((hv _).mpr (by rw [if_neg c22_0, if_neg c22_1, if_pos c22_2]; simp [c89]; done))
  refine V.tcase (off := 76) h (3 : Int32) 98 dX5_holds_22 (by decide) (by decide +kernel) rfl (fun c22_3 => ?_) (fun c22_3 => ?_)
  · refine V.aload0 h 99 dX5_holds_98 rfl (V.iload2 h 100 dX5_holds_99 rfl (V.iload4 h 102 dX5_holds_100 rfl (V.callVf (As := [.int _, .int _]) (st := []) h 105 dX5_holds_102 rfl k711 k708 k710 ks77 k6 hd_X5_isOf ⟨(Nat.le_of_ble_eq_true rfl), (Nat.le_of_ble_eq_true rfl)⟩ (Nat.le_of_ble_eq_true rfl) mo rfl rfl ⟨Nat.zero_le _, Nat.zero_le _⟩ c_X5_isOf rfl ?_)))
    refine V.zret h hR (by first | exact bI_z _ | rfl) dX5_holds_105 ?_
    exact RI_r (by rw [(hv _).mpr rfl, if_neg c22_0, if_neg c22_1, if_neg c22_2, if_pos c22_3])
  refine V.tdflt h 106 dX5_holds_22 (by have e0 := lv_neT (a := 0) c22_0 (by decide); have e1 := lv_neT (a := 1) c22_1 (by decide); have e2 := lv_neT (a := 2) c22_2 (by decide); have e3 := lv_neT (a := 3) c22_3 (by decide); omega) rfl ?_
  obtain ⟨j, hj, e5⟩ : ∃ j, j < 4 ∧ sF (M 0) k 5 = nI j := by
    rcases hok with q | q | q | q | q
    · exact absurd q c22_0
    · exact absurd q c22_1
    · exact absurd q c22_2
    · exact absurd q c22_3
    · exact q
  rw [e5] at hv
  rw [nI_tn (by omega)] at hv
  rw [e5]
  refine V.aload0 h 107 dX5_holds_106 rfl (V.iload2 h 108 dX5_holds_107 rfl (V.iload4 h 110 dX5_holds_108 rfl (V.callVf (As := [.int _, .int _]) (st := []) h 113 dX5_holds_110 rfl k703 k700 k702 ks75 k6 hd_X5_moneyFor ⟨(Nat.le_of_ble_eq_true rfl), (Nat.le_of_ble_eq_true rfl)⟩ (Nat.le_of_ble_eq_true rfl) mo rfl rfl ⟨Nat.zero_le _, Nat.zero_le _⟩ c_X5_moneyFor rfl (V.aload0 h 114 dX5_holds_113 rfl (V.iload4 h 116 dX5_holds_114 rfl (V.callVf (As := [.int _]) (st := [.int _]) h 119 dX5_holds_116 rfl k715 k712 k714 ks78 k6 hd_X5_goal ⟨(Nat.le_of_ble_eq_true rfl), (Nat.le_of_ble_eq_true rfl)⟩ (Nat.le_of_ble_eq_true rfl) mo rfl rfl ⟨Nat.zero_le _, Nat.zero_le _⟩ (c_X5_goal (by assumption)) rfl ?_))))))
  refine V.icmp_lt h 126 122 dX5_holds_119 rfl rfl (fun c119 => ?_) (fun c119 => ?_)
  · refine V.iconst h 127 dX5_holds_126 rfl ic1_0 ?_
    refine V.zret h hR (by first | exact bI_z _ | rfl) dX5_holds_127 ?_
    first | exact RI_t ((hv _).mpr (by rw [if_neg c22_0, if_neg c22_1, if_neg c22_2, if_neg c22_3]; simp [nlt c119]; done)) | exact RI_f ((hv _).mpr (by rw [if_neg c22_0, if_neg c22_1, if_neg c22_2, if_neg c22_3]; simp [c119]; done))
  · refine V.iconst h 123 dX5_holds_122 rfl ic1_1 (V.goto h 127 dX5_holds_123 rfl ?_)
    refine V.zret h hR (by first | exact bI_z _ | rfl) dX5_holds_127 ?_
    first | exact RI_t ((hv _).mpr (by rw [if_neg c22_0, if_neg c22_1, if_neg c22_2, if_neg c22_3]; simp [nlt c119]; done)) | exact RI_f ((hv _).mpr (by rw [if_neg c22_0, if_neg c22_1, if_neg c22_2, if_neg c22_3]; simp [c119]; done))
theorem c_X5_fallingOf {M : Pl} {b : Nat} {S C : Int32} {w : Wd} (hok : ∀ k, k < 12 → Bt S k = true → kOK (vP (M 0)) k) : K_X5_fallingOf [.ref b, .int S, .int C] (ms w b M) (RI (fal (vP (M 0)) (M 6 0, M 7 0) S C) (ms w b M)) := by
  refine Con.mk [some (.ref b), some (.int S), some (.int C), none, none] (by decide) rfl rfl (Nat.le_of_ble_eq_true rfl) (fun X h hR hnm => ?_)
  have L : ∀ (n i : Nat) (s : Int32), i + n = 12 → s = mk (fun k => Bt S k && !hld (vP (M 0)) (M 6 0, M 7 0) k (S ||| C)) i → V X 0 0 5 [some (.ref b), some (.int S), some (.int C), some (.int s), some (.int (nI i))] [] (ms w b M) := by
    intro n
    induction n with
    | zero =>
      intro i s hi hs
      obtain rfl : i = 12 := by omega
      refine V.iload4 h 7 dX5_fallingOf_5 rfl (V.bipush h 9 dX5_fallingOf_7 rfl ic2_12 ?_)
      refine V.icmp_ge h 50 12 dX5_fallingOf_9 rfl rfl (fun _ => ?_) (fun q => absurd (lp_out (n := 12)) q)
      refine V.iload3 h 51 dX5_fallingOf_50 rfl ?_
      refine V.iret h hR dX5_fallingOf_51 ?_
      exact RI_r hs
    | succ n ih =>
      intro i s hi hs
      refine V.iload4 h 7 dX5_fallingOf_5 rfl (V.bipush h 9 dX5_fallingOf_7 rfl ic2_12 ?_)
      refine V.icmp_ge h 50 12 dX5_fallingOf_9 rfl rfl (fun q => absurd q (lp_in (n := 12) (by omega))) (fun _ => ?_)
      refine V.iload3 h 13 dX5_fallingOf_12 rfl (V.iload1 h 14 dX5_fallingOf_13 rfl (V.iload4 h 16 dX5_fallingOf_14 rfl (V.callSf (As := [.int _, .int _]) (st := [.int _]) h 19 dX5_fallingOf_16 rfl k663 k661 k662 k6 hd_X5_has ⟨(Nat.le_of_ble_eq_true rfl), (Nat.le_of_ble_eq_true rfl)⟩ (Nat.le_of_ble_eq_true rfl) ⟨Nat.zero_le _, Nat.zero_le _⟩ (c_X5_has (by omega)) rfl ?_)))
      refine V.bif_eq h 41 22 dX5_fallingOf_19 rfl rfl (fun c19 => ?_) (fun c19 => ?_)
      · refine V.iconst h 42 dX5_fallingOf_41 rfl ic1_0 (V.ior h 43 dX5_fallingOf_42 rfl (V.istore3 h 44 dX5_fallingOf_43 rfl rfl (V.incN4 h 47 dX5_fallingOf_44 rfl rfl (V.goto h 5 dX5_fallingOf_47 rfl ?_))))
        first | exact ih (i + 1) _ (by omega) (mkt hs (by simp [*]; done)) | exact ih (i + 1) _ (by omega) (mkf0 hs (by simp [*]; done))
      · refine V.aload0 h 23 dX5_fallingOf_22 rfl (V.iload4 h 25 dX5_fallingOf_23 rfl (V.iload1 h 26 dX5_fallingOf_25 rfl (V.iload2 h 27 dX5_fallingOf_26 rfl (V.ior h 28 dX5_fallingOf_27 rfl (V.callVf (As := [.int _, .int _]) (st := [.int _]) h 31 dX5_fallingOf_28 rfl k699 k696 k698 ks74 k6 hd_X5_holds ⟨(Nat.le_of_ble_eq_true rfl), (Nat.le_of_ble_eq_true rfl)⟩ (Nat.le_of_ble_eq_true rfl) mo rfl rfl ⟨Nat.zero_le _, Nat.zero_le _⟩ (c_X5_holds (by omega) (hok _ (by omega) (by assumption))) rfl ?_)))))
        refine V.bif_ne h 41 34 dX5_fallingOf_31 rfl rfl (fun c31 => ?_) (fun c31 => ?_)
        · refine V.iconst h 42 dX5_fallingOf_41 rfl ic1_0 (V.ior h 43 dX5_fallingOf_42 rfl (V.istore3 h 44 dX5_fallingOf_43 rfl rfl (V.incN4 h 47 dX5_fallingOf_44 rfl rfl (V.goto h 5 dX5_fallingOf_47 rfl ?_))))
          first | exact ih (i + 1) _ (by omega) (mkt hs (by simp [*]; done)) | exact ih (i + 1) _ (by omega) (mkf0 hs (by simp [*]; done))
        · refine V.iconst h 35 dX5_fallingOf_34 rfl ic1_1 (V.iload4 h 37 dX5_fallingOf_35 rfl (V.ishl h 38 dX5_fallingOf_37 rfl (V.goto h 42 dX5_fallingOf_38 rfl (V.ior h 43 dX5_fallingOf_42 rfl (V.istore3 h 44 dX5_fallingOf_43 rfl rfl (V.incN4 h 47 dX5_fallingOf_44 rfl rfl (V.goto h 5 dX5_fallingOf_47 rfl ?_)))))))
          first | exact ih (i + 1) _ (by omega) (mkt hs (by simp [*]; done)) | exact ih (i + 1) _ (by omega) (mkf0 hs (by simp [*]; done))
  refine V.iconst h 1 dX5_fallingOf_0 rfl ic1_0 (V.istore3 h 2 dX5_fallingOf_1 rfl rfl (V.iconst h 3 dX5_fallingOf_2 rfl ic1_0 (V.istore4 h 5 dX5_fallingOf_3 rfl rfl ?_)))
  exact L 12 0 0 rfl rfl
end
section
/-! the reference: the greatest part, and what stands -/
def sc (M : Pl) (a : Int32) (f : Nat → Int32) : Pl := ua (us M 9 a) 8 f
theorem sc_sc (M : Pl) (a a' : Int32) (f f' : Nat → Int32) : sc (sc M a f) a' f' = sc M a' f' := by
  unfold sc; rw [us_ua _ _ _ (by decide), ua_ua, us_us]
theorem sc_us (M : Pl) (a a' : Int32) (f : Nat → Int32) : us (sc M a f) 9 a' = sc M a' f := by
  unfold sc; rw [us_ua _ _ _ (by decide), us_us]
theorem sc_ua (M : Pl) (a : Int32) (f f' : Nat → Int32) : ua (sc M a f) 8 f' = sc M a f' := by
  unfold sc; rw [ua_ua]
theorem sc_id (M : Pl) (a : Int32) : us M 9 a = sc M a (M 8) := by
  unfold sc
  show us M 9 a = ua (us M 9 a) 8 ((us M 9 a) 8)
  rw [ua_id]
abbrev mX (M : Pl) : Ex := (M 6 0, M 7 0)
theorem c_X5_greatest {M : Pl} {b : Nat} {S C : Int32} {w : Wd} (hok : ∀ k, k < 12 → Bt S k = true → kOK (vP (M 0)) k) : K_X5_greatest [.ref b, .int S, .int C] (ms w b M) (RI (grt (vP (M 0)) (mX M) S C) (ms w b (sc M (nI (nw (vP (M 0)) (mX M) S C 12)) (wvm (vP (M 0)) (mX M) S C (M 8) 12)))) := by
  refine Con.mk [some (.ref b), some (.int S), some (.int C), none, none, none] (by decide) rfl rfl (Nat.le_of_ble_eq_true rfl) (fun X h hR hnm => ?_)
  have hokn : ∀ n k, k < 12 → Bt (gs (vP (M 0)) (mX M) C n S) k = true → kOK (vP (M 0)) k := fun n k hk h => hok k hk (gs_sub n h)
  -- the loop over the places
  have L2 : ∀ (d i : Nat) (n : Nat) (T F : Int32) (old f : Nat → Int32), i + d = 12 → f = (fun k => if (decide (k < i) && Bt F k) = true then nI (n + 1) else old k) →
      V X 0 0 77 [some (.ref b), some (.int S), some (.int C), some (.int T), some (.int F), some (.int (nI 12))] [] (ms w b (sc M (nI (n + 1)) (fun k => if (decide (k < 12) && Bt F k) = true then nI (n + 1) else old k))) →
      V X 0 0 33 [some (.ref b), some (.int S), some (.int C), some (.int T), some (.int F), some (.int (nI i))] [] (ms w b (sc M (nI (n + 1)) f)) := by
    intro d
    induction d with
    | zero =>
      intro i n T F old f hi hf k
      subst hf
      obtain rfl : i = 12 := by omega
      refine V.iload5 h 35 dX5_greatest_33 rfl (V.bipush h 37 dX5_greatest_35 rfl ic2_12 ?_)
      refine V.icmp_ge h 77 40 dX5_greatest_37 rfl rfl (fun _ => ?_) (fun q => absurd (lp_out (n := 12)) q)
      exact k
    | succ d ih =>
      intro i n T F old f hi hf k
      have st : ∀ x : Int32, x = (if Bt F i = true then nI (n + 1) else f i) → ua (sc M (nI (n + 1)) f) 8 (upd ((sc M (nI (n + 1)) f) 8) i x) = sc M (nI (n + 1)) (fun k => if (decide (k < i + 1) && Bt F k) = true then nI (n + 1) else old k) := by
        intro x hx
        rw [sc_ua]
        congr 1
        show upd f i x = _
        funext q
        unfold upd
        by_cases hq : q = i
        · subst hq
          rw [if_pos rfl, hx, hf]
          cases hb : Bt F q <;> simp
        · rw [if_neg hq, hf]
          have : decide (q < i + 1) = decide (q < i) := decide_eq_decide.mpr (by omega)
          dsimp only
          rw [this]
      refine V.iload5 h 35 dX5_greatest_33 rfl (V.bipush h 37 dX5_greatest_35 rfl ic2_12 ?_)
      refine V.icmp_ge h 77 40 dX5_greatest_37 rfl rfl (fun q => absurd q (lp_in (n := 12) (by omega))) (fun _ => ?_)
      refine V.aload0 h 41 dX5_greatest_40 rfl (V.gX5 h 8 44 dX5_greatest_41 rfl rfl k552 mo rfl (V.iload5 h 46 dX5_greatest_44 rfl (V.iload4 h 48 dX5_greatest_46 rfl (V.iload5 h 50 dX5_greatest_48 rfl (V.callSf (As := [.int _, .int _]) (st := [.int _, .ref _]) h 53 dX5_greatest_50 rfl k663 k661 k662 k6 hd_X5_has ⟨(Nat.le_of_ble_eq_true rfl), (Nat.le_of_ble_eq_true rfl)⟩ (Nat.le_of_ble_eq_true rfl) ⟨Nat.zero_le _, Nat.zero_le _⟩ (c_X5_has (by omega)) rfl ?_)))))
      refine V.bif_eq h 63 56 dX5_greatest_53 rfl rfl (fun c53 => ?_) (fun c53 => ?_)
      · refine V.aload0 h 64 dX5_greatest_63 rfl (V.gX5 h 8 67 dX5_greatest_64 rfl rfl k552 mo rfl (V.iload5 h 69 dX5_greatest_67 rfl (V.ialdN h 70 dX5_greatest_69 rfl ma5 (by omega) (by decide) (V.iastN h 71 dX5_greatest_70 rfl ma5 (by omega) (by decide) (V.at _ mw5 (V.incN5 h 74 dX5_greatest_71 rfl rfl (V.goto h 33 dX5_greatest_74 rfl ?_)))))))
        rw [st _ (by first | (rw [if_pos c53]; rfl) | (rw [if_neg (by rw [c53]; decide)]; rfl))]; exact ih (i + 1) n T F old _ (by omega) rfl k
      · refine V.aload0 h 57 dX5_greatest_56 rfl (V.gX5 h 9 60 dX5_greatest_57 rfl rfl k553 mo rfl (V.goto h 70 dX5_greatest_60 rfl (V.iastN h 71 dX5_greatest_70 rfl ma5 (by omega) (by decide) (V.at _ mw5 (V.incN5 h 74 dX5_greatest_71 rfl rfl (V.goto h 33 dX5_greatest_74 rfl ?_))))))
        rw [st _ (by first | (rw [if_pos c53]; rfl) | (rw [if_neg (by rw [c53]; decide)]; rfl))]; exact ih (i + 1) n T F old _ (by omega) rfl k
  have L : ∀ (d n : Nat) (u : Option Value), n + d = 13 → (∀ i, i < n → fal (vP (M 0)) (mX M) (gs (vP (M 0)) (mX M) C i S) C ≠ 0) →
      V X 0 0 15 [some (.ref b), some (.int S), some (.int C), some (.int (gs (vP (M 0)) (mX M) C n S)), some (.int (fal (vP (M 0)) (mX M) (gs (vP (M 0)) (mX M) C n S) C)), u] [] (ms w b (sc M (nI n) (wvm (vP (M 0)) (mX M) S C (M 8) n))) := by
    intro d
    induction d with
    | zero =>
      intro n u hn hne
      have := fal_le12 hne
      omega
    | succ d ih =>
      intro n u hn hne
      refine V.iload4 h 17 dX5_greatest_15 rfl ?_
      refine V.if_eq h 95 20 dX5_greatest_17 rfl rfl (fun c17 => ?_) (fun c17 => ?_)
      · refine V.iload3 h 96 dX5_greatest_95 rfl ?_
        refine V.iret h hR dX5_greatest_96 ?_
        have h0 : fal (vP (M 0)) (mX M) (gs (vP (M 0)) (mX M) C n S) C = 0 := c17
        have h12 := fal_le12 hne
        obtain ⟨m, hm⟩ : ∃ m, 12 = n + m := ⟨12 - n, by omega⟩
        exact ⟨by rw [gs_grt h0 h12], by rw [hm, nw_end hne h0, wvm_end h0]⟩
      · refine V.aload0 h 21 dX5_greatest_20 rfl (V.dup h 22 dX5_greatest_21 rfl rfl (V.gX5 h 9 25 dX5_greatest_22 rfl rfl k553 mo rfl (V.iconst h 26 dX5_greatest_25 rfl ic1_1 (V.iadd h 27 dX5_greatest_26 rfl ?_))))
        rw [show (sc M (nI n) (wvm (vP (M 0)) (mX M) S C (M 8) n)) 9 0 + 1 = nI (n + 1) from (nI_succ n).symm]
        refine V.sX5 h 9 30 dX5_greatest_27 rfl rfl k553 rfl rfl rfl mo rfl (V.at _ mp9 (V.iconst h 31 dX5_greatest_30 rfl ic1_0 (V.istore5 h 33 dX5_greatest_31 rfl rfl ?_)))
        rw [sc_us]
        refine L2 12 0 n _ _ (wvm (vP (M 0)) (mX M) S C (M 8) n) _ rfl (by funext k; simp; done) ?_
        have e1 : (fun k => if (decide (k < 12) && Bt (fal (vP (M 0)) (mX M) (gs (vP (M 0)) (mX M) C n S) C) k) = true then nI (n + 1) else wvm (vP (M 0)) (mX M) S C (M 8) n k) = wvm (vP (M 0)) (mX M) S C (M 8) (n + 1) := rfl
        rw [e1]
        refine V.iload3 h 78 dX5_greatest_77 rfl (V.iload4 h 80 dX5_greatest_78 rfl (V.iconst h 81 dX5_greatest_80 rfl ic1_m1 (V.ixor h 82 dX5_greatest_81 rfl (V.iand h 83 dX5_greatest_82 rfl (V.istore3 h 84 dX5_greatest_83 rfl rfl (V.aload0 h 85 dX5_greatest_84 rfl (V.iload3 h 86 dX5_greatest_85 rfl ?_)))))))
        refine V.iload2 h 87 dX5_greatest_86 rfl (V.callVf (As := [.int _, .int _]) (st := []) h 90 dX5_greatest_87 rfl k695 k692 k694 ks73 k6 hd_X5_fallingOf ⟨(Nat.le_of_ble_eq_true rfl), (Nat.le_of_ble_eq_true rfl)⟩ (Nat.le_of_ble_eq_true rfl) mo rfl rfl ⟨Nat.zero_le _, Nat.zero_le _⟩ (c_X5_fallingOf (hokn (n + 1))) rfl (V.istore4 h 92 dX5_greatest_90 rfl rfl (V.goto h 15 dX5_greatest_92 rfl ?_)))
        refine ih (n + 1) _ (by omega) (fun i hi => ?_)
        by_cases hin : i = n
        · subst hin; exact c17
        · exact hne i (by omega)
  refine V.iload1 h 1 dX5_greatest_0 rfl (V.istore3 h 2 dX5_greatest_1 rfl rfl (V.aload0 h 3 dX5_greatest_2 rfl (V.iload3 h 4 dX5_greatest_3 rfl (V.iload2 h 5 dX5_greatest_4 rfl (V.callVf (As := [.int _, .int _]) (st := []) h 8 dX5_greatest_5 rfl k695 k692 k694 ks73 k6 hd_X5_fallingOf ⟨(Nat.le_of_ble_eq_true rfl), (Nat.le_of_ble_eq_true rfl)⟩ (Nat.le_of_ble_eq_true rfl) mo rfl rfl ⟨Nat.zero_le _, Nat.zero_le _⟩ (c_X5_fallingOf hok) rfl (V.istore4 h 10 dX5_greatest_8 rfl rfl ?_))))))
  rw [show (fal (vP (M 0)) (M 6 0, M 7 0) S C) = fal (vP (M 0)) (mX M) (gs (vP (M 0)) (mX M) C 0 S) C from rfl]
  refine V.aload0 h 11 dX5_greatest_10 rfl (V.iconst h 12 dX5_greatest_11 rfl ic1_0 (V.sX5 h 9 15 dX5_greatest_12 rfl rfl k553 rfl rfl rfl mo rfl (V.at _ mp9 ?_)))
  rw [sc_id]; exact L 13 0 none rfl (fun i hi => absurd hi (by omega))
theorem c_X5_called {M : Pl} {b : Nat} {w : Wd} : K_X5_called [.ref b] (ms w b M) (RI (vP (M 0) 7 0) (ms w b M)) := by
  refine Con.mk [some (.ref b)] (by decide) rfl rfl (Nat.le_of_ble_eq_true rfl) (fun X h hR hnm => ?_)
  refine V.aload0 h 1 dX5_called_0 rfl (V.iconst h 2 dX5_called_1 rfl ic1_0 (V.iconst h 3 dX5_called_2 rfl ic1_1 (V.callVf (As := [.int _, .int _]) (st := []) h 6 dX5_called_3 rfl k656 k653 k655 ks65 k6 hd_X5_pledges ⟨(Nat.le_of_ble_eq_true rfl), (Nat.le_of_ble_eq_true rfl)⟩ (Nat.le_of_ble_eq_true rfl) mo rfl rfl ⟨Nat.zero_le _, Nat.zero_le _⟩ (c_X5_pledges (o := false) (c := true)) rfl ?_)))
  refine V.iret h hR dX5_called_6 ?_
  exact RI_r (show _ = mk (fun j => sThere (M 0) j && sCalled (M 0) j) 12 from mk_congr fun k _ => by cases sCalled (M 0) k <;> rfl)
theorem c_X5_open {M : Pl} {b : Nat} {w : Wd} : K_X5_open [.ref b] (ms w b M) (RI (vP (M 0) 6 0) (ms w b M)) := by
  refine Con.mk [some (.ref b)] (by decide) rfl rfl (Nat.le_of_ble_eq_true rfl) (fun X h hR hnm => ?_)
  refine V.aload0 h 1 dX5_open_0 rfl (V.iconst h 2 dX5_open_1 rfl ic1_1 (V.iconst h 3 dX5_open_2 rfl ic1_0 (V.callVf (As := [.int _, .int _]) (st := []) h 6 dX5_open_3 rfl k656 k653 k655 ks65 k6 hd_X5_pledges ⟨(Nat.le_of_ble_eq_true rfl), (Nat.le_of_ble_eq_true rfl)⟩ (Nat.le_of_ble_eq_true rfl) mo rfl rfl ⟨Nat.zero_le _, Nat.zero_le _⟩ (c_X5_pledges (o := true) (c := false)) rfl ?_)))
  refine V.iret h hR dX5_open_6 ?_
  exact RI_r (show _ = mk (fun j => sThere (M 0) j && !sCalled (M 0) j) 12 from mk_congr fun k _ => by cases sCalled (M 0) k <;> rfl)
theorem c_X5_all {M : Pl} {b : Nat} {w : Wd} : K_X5_pledges [.ref b, .int 1, .int 1] (ms w b M) (RI (live (vP (M 0))) (ms w b M)) := by
  have h := c_X5_pledges (M := M) (b := b) (o := true) (c := true) (w := w)
  have e : mk (fun k => sThere (M 0) k && (if sCalled (M 0) k = true then true else true)) 12 = live (vP (M 0)) := by
    refine lo12_ext (lo12_mk _) (lo12_or (lo12_mk _) (lo12_mk _)) fun k hk => ?_
    unfold live
    rw [bt_or, bt_mk _ _ _ (by decide)]
    show _ = (Bt (mk _ 12) k || Bt (mk _ 12) k)
    rw [bt_mk _ _ _ (by decide), bt_mk _ _ _ (by decide)]
    cases sCalled (M 0) k <;> simp
  rw [← e]
  exact h
def nwP (P : Pl) (x : Ex) (g : Int32) : Nat := nw P x (P 6 0 &&& (g ^^^ (-1))) (P 7 0) 12
def wvP (P : Pl) (x : Ex) (g : Int32) (old : Nat → Int32) : Nat → Int32 := wvm P x (P 6 0 &&& (g ^^^ (-1))) (P 7 0) old 12
/-- all open pledges can be looked at -/
def sOK (s : Nat → Int32) : Prop := ∀ k, k < 12 → Bt (vP s 6 0) k = true → kOK (vP s) k
theorem c_X5_stands {M : Pl} {b : Nat} {g : Int32} {w : Wd} (hok : sOK (M 0)) : K_X5_stands [.ref b, .int g] (ms w b M) (RI (std (vP (M 0)) (mX M) g) (ms w b (sc M (nI (nwP (vP (M 0)) (mX M) g)) (wvP (vP (M 0)) (mX M) g (M 8))))) := by
  refine Con.mk [some (.ref b), some (.int g), none] (by decide) rfl rfl (Nat.le_of_ble_eq_true rfl) (fun X h hR hnm => ?_)
  refine V.aload0 h 1 dX5_stands_0 rfl (V.callVf (As := []) (st := []) h 4 dX5_stands_1 rfl k687 k684 k686 ks71 k6 hd_X5_called ⟨(Nat.le_of_ble_eq_true rfl), (Nat.le_of_ble_eq_true rfl)⟩ (Nat.le_of_ble_eq_true rfl) mo rfl rfl ⟨Nat.zero_le _, Nat.zero_le _⟩ c_X5_called rfl (V.istore2 h 5 dX5_stands_4 rfl rfl (V.aload0 h 6 dX5_stands_5 rfl (V.aload0 h 7 dX5_stands_6 rfl (V.callVf (As := []) (st := [.ref _]) h 10 dX5_stands_7 rfl k652 k649 k651 ks64 k6 hd_X5_open ⟨(Nat.le_of_ble_eq_true rfl), (Nat.le_of_ble_eq_true rfl)⟩ (Nat.le_of_ble_eq_true rfl) mo rfl rfl ⟨Nat.zero_le _, Nat.zero_le _⟩ c_X5_open rfl (V.iload1 h 11 dX5_stands_10 rfl (V.iconst h 12 dX5_stands_11 rfl ic1_m1 ?_)))))))
  refine V.ixor h 13 dX5_stands_12 rfl (V.iand h 14 dX5_stands_13 rfl (V.iload2 h 15 dX5_stands_14 rfl (V.callVf (As := [.int _, .int _]) (st := []) h 18 dX5_stands_15 rfl k691 k688 k690 ks72 k6 hd_X5_greatest ⟨(Nat.le_of_ble_eq_true rfl), (Nat.le_of_ble_eq_true rfl)⟩ (Nat.le_of_ble_eq_true rfl) mo rfl rfl ⟨Nat.zero_le _, Nat.zero_le _⟩ (c_X5_greatest (fun k hk h => hok k hk (by rw [bt_and, Bool.and_eq_true] at h; exact h.1))) rfl (V.iload2 h 19 dX5_stands_18 rfl (V.ior h 20 dX5_stands_19 rfl ?_)))))
  refine V.iret h hR dX5_stands_20 ?_
  exact ⟨rfl, rfl⟩
theorem c_X5_hasGoal {M : Pl} {b j : Nat} {S : Int32} {w : Wd} (hj : j < 4) : K_X5_hasGoal [.ref b, .int S, .int (nI j)] (ms w b M) (RI (bI (hasG (vP (M 0)) (mX M) S (nI j))) (ms w b M)) := by
  refine Con.mk [some (.ref b), some (.int S), some (.int (nI j))] (by decide) rfl rfl (Nat.le_of_ble_eq_true rfl) (fun X h hR hnm => ?_)
  have e : hasG (vP (M 0)) (mX M) S (nI j) = decide (vP (M 0) 1 j ≤ mny (vP (M 0)) (mX M) S (nI j)) := by unfold hasG; rw [nI_tn (by omega)]
  rw [e] at hR
  refine V.aload0 h 1 dX5_hasGoal_0 rfl (V.iload1 h 2 dX5_hasGoal_1 rfl (V.iload2 h 3 dX5_hasGoal_2 rfl (V.callVf (As := [.int _, .int _]) (st := []) h 6 dX5_hasGoal_3 rfl k703 k700 k702 ks75 k6 hd_X5_moneyFor ⟨(Nat.le_of_ble_eq_true rfl), (Nat.le_of_ble_eq_true rfl)⟩ (Nat.le_of_ble_eq_true rfl) mo rfl rfl ⟨Nat.zero_le _, Nat.zero_le _⟩ c_X5_moneyFor rfl (V.aload0 h 7 dX5_hasGoal_6 rfl (V.iload2 h 8 dX5_hasGoal_7 rfl (V.callVf (As := [.int _]) (st := [.int _]) h 11 dX5_hasGoal_8 rfl k715 k712 k714 ks78 k6 hd_X5_goal ⟨(Nat.le_of_ble_eq_true rfl), (Nat.le_of_ble_eq_true rfl)⟩ (Nat.le_of_ble_eq_true rfl) mo rfl rfl ⟨Nat.zero_le _, Nat.zero_le _⟩ (c_X5_goal (by assumption)) rfl ?_))))))
  refine V.icmp_lt h 18 14 dX5_hasGoal_11 rfl rfl (fun c11 => ?_) (fun c11 => ?_)
  · refine V.iconst h 19 dX5_hasGoal_18 rfl ic1_0 ?_
    refine V.zret h hR (by first | exact bI_z _ | rfl) dX5_hasGoal_19 ?_
    first | exact RI_t (by simp [nlt c11]; done) | exact RI_f (by simp [c11]; done)
  · refine V.iconst h 15 dX5_hasGoal_14 rfl ic1_1 (V.goto h 19 dX5_hasGoal_15 rfl ?_)
    refine V.zret h hR (by first | exact bI_z _ | rfl) dX5_hasGoal_19 ?_
    first | exact RI_t (by simp [nlt c11]; done) | exact RI_f (by simp [c11]; done)
theorem c_X5_amountOf {M : Pl} {b : Nat} {S : Int32} {w : Wd} : K_X5_amountOf [.ref b, .int S] (ms w b M) (RI (amt (vP (M 0)) S) (ms w b M)) := by
  refine Con.mk [some (.ref b), some (.int S), none, none] (by decide) rfl rfl (Nat.le_of_ble_eq_true rfl) (fun X h hR hnm => ?_)
  have L : ∀ (n i : Nat) (s : Int32), i + n = 12 → s = sm (fun k => if Bt S k = true then vP (M 0) 10 k else 0) i → V X 0 0 4 [some (.ref b), some (.int S), some (.int s), some (.int (nI i))] [] (ms w b M) := by
    intro n
    induction n with
    | zero =>
      intro i s hi hs
      obtain rfl : i = 12 := by omega
      refine V.iload3 h 5 dX5_amountOf_4 rfl (V.bipush h 7 dX5_amountOf_5 rfl ic2_12 ?_)
      refine V.icmp_ge h 37 10 dX5_amountOf_7 rfl rfl (fun _ => ?_) (fun q => absurd (lp_out (n := 12)) q)
      refine V.iload2 h 38 dX5_amountOf_37 rfl ?_
      refine V.iret h hR dX5_amountOf_38 ?_
      exact RI_r hs
    | succ n ih =>
      intro i s hi hs
      refine V.iload3 h 5 dX5_amountOf_4 rfl (V.bipush h 7 dX5_amountOf_5 rfl ic2_12 ?_)
      refine V.icmp_ge h 37 10 dX5_amountOf_7 rfl rfl (fun q => absurd q (lp_in (n := 12) (by omega))) (fun _ => ?_)
      refine V.iload2 h 11 dX5_amountOf_10 rfl (V.iload1 h 12 dX5_amountOf_11 rfl (V.iload3 h 13 dX5_amountOf_12 rfl (V.callSf (As := [.int _, .int _]) (st := [.int _]) h 16 dX5_amountOf_13 rfl k663 k661 k662 k6 hd_X5_has ⟨(Nat.le_of_ble_eq_true rfl), (Nat.le_of_ble_eq_true rfl)⟩ (Nat.le_of_ble_eq_true rfl) ⟨Nat.zero_le _, Nat.zero_le _⟩ (c_X5_has (by omega)) rfl ?_)))
      refine V.bif_eq h 28 19 dX5_amountOf_16 rfl rfl (fun c16 => ?_) (fun c16 => ?_)
      · refine V.iconst h 29 dX5_amountOf_28 rfl ic1_0 (V.iadd h 30 dX5_amountOf_29 rfl (V.istore2 h 31 dX5_amountOf_30 rfl rfl (V.incN3 h 34 dX5_amountOf_31 rfl rfl (V.goto h 4 dX5_amountOf_34 rfl ?_))))
        exact ih (i + 1) _ (by omega) (stp0 hs (by simp [vP, *]; done))
      · refine V.aload0 h 20 dX5_amountOf_19 rfl (V.iload3 h 21 dX5_amountOf_20 rfl (V.iconst h 22 dX5_amountOf_21 rfl ic1_3 (V.callVf (As := [.int _, .int _]) (st := [.int _]) h 25 dX5_amountOf_22 rfl k648 k645 k647 ks63 k6 hd_X5_of ⟨(Nat.le_of_ble_eq_true rfl), (Nat.le_of_ble_eq_true rfl)⟩ (Nat.le_of_ble_eq_true rfl) mo rfl rfl ⟨Nat.zero_le _, Nat.zero_le _⟩ (c_X5_of 3 rfl (by omega) (by decide)) rfl (V.goto h 29 dX5_amountOf_25 rfl (V.iadd h 30 dX5_amountOf_29 rfl (V.istore2 h 31 dX5_amountOf_30 rfl rfl (V.incN3 h 34 dX5_amountOf_31 rfl rfl ?_)))))))
        refine V.goto h 4 dX5_amountOf_34 rfl ?_
        exact ih (i + 1) _ (by omega) (stp0 hs (by simp [vP, *]; done))
  refine V.iconst h 1 dX5_amountOf_0 rfl ic1_0 (V.istore2 h 2 dX5_amountOf_1 rfl rfl (V.iconst h 3 dX5_amountOf_2 rfl ic1_0 (V.istore3 h 4 dX5_amountOf_3 rfl rfl ?_)))
  exact L 12 0 0 rfl rfl
theorem c_X5_many {S : Int32} {w : Wd} : K_X5_many [.int S] w (RI (cnt S) w) := by
  refine Con.mk [some (.int S), none, none] (by decide) rfl rfl (Nat.le_of_ble_eq_true rfl) (fun X h hR hnm => ?_)
  have L : ∀ (n i : Nat) (s : Int32), i + n = 12 → s = sm (fun k => if Bt S k = true then 1 else 0) i → V X 0 0 4 [some (.int S), some (.int s), some (.int (nI i))] [] w := by
    intro n
    induction n with
    | zero =>
      intro i s hi hs
      obtain rfl : i = 12 := by omega
      refine V.iload2 h 5 dX5_many_4 rfl (V.bipush h 7 dX5_many_5 rfl ic2_12 ?_)
      refine V.icmp_ge h 32 10 dX5_many_7 rfl rfl (fun _ => ?_) (fun q => absurd (lp_out (n := 12)) q)
      refine V.iload1 h 33 dX5_many_32 rfl ?_
      refine V.iret h hR dX5_many_33 ?_
      exact RI_r hs
    | succ n ih =>
      intro i s hi hs
      refine V.iload2 h 5 dX5_many_4 rfl (V.bipush h 7 dX5_many_5 rfl ic2_12 ?_)
      refine V.icmp_ge h 32 10 dX5_many_7 rfl rfl (fun q => absurd q (lp_in (n := 12) (by omega))) (fun _ => ?_)
      refine V.iload1 h 11 dX5_many_10 rfl (V.iload0 h 12 dX5_many_11 rfl (V.iload2 h 13 dX5_many_12 rfl (V.callSf (As := [.int _, .int _]) (st := [.int _]) h 16 dX5_many_13 rfl k663 k661 k662 k6 hd_X5_has ⟨(Nat.le_of_ble_eq_true rfl), (Nat.le_of_ble_eq_true rfl)⟩ (Nat.le_of_ble_eq_true rfl) ⟨Nat.zero_le _, Nat.zero_le _⟩ (c_X5_has (by omega)) rfl ?_)))
      refine V.bif_eq h 23 19 dX5_many_16 rfl rfl (fun c16 => ?_) (fun c16 => ?_)
      · refine V.iconst h 24 dX5_many_23 rfl ic1_0 (V.iadd h 25 dX5_many_24 rfl (V.istore1 h 26 dX5_many_25 rfl rfl (V.incN2 h 29 dX5_many_26 rfl rfl (V.goto h 4 dX5_many_29 rfl ?_))))
        exact ih (i + 1) _ (by omega) (stp0 hs (by simp [*]; done))
      · refine V.iconst h 20 dX5_many_19 rfl ic1_1 (V.goto h 24 dX5_many_20 rfl (V.iadd h 25 dX5_many_24 rfl (V.istore1 h 26 dX5_many_25 rfl rfl (V.incN2 h 29 dX5_many_26 rfl rfl (V.goto h 4 dX5_many_29 rfl ?_)))))
        exact ih (i + 1) _ (by omega) (stp0 hs (by simp [*]; done))
  refine V.iconst h 1 dX5_many_0 rfl ic1_0 (V.istore1 h 2 dX5_many_1 rfl rfl (V.iconst h 3 dX5_many_2 rfl ic1_0 (V.istore2 h 4 dX5_many_3 rfl rfl ?_)))
  exact L 12 0 0 rfl rfl
theorem live_bt (s : Nat → Int32) {k : Nat} (hk : k < 12) : Bt (live (vP s)) k = sThere s k := by
  unfold live
  rw [bt_or]
  show (Bt (mk _ 12) k || Bt (mk _ 12) k) = _
  rw [bt_mk _ _ _ (by decide), bt_mk _ _ _ (by decide)]
  cases sCalled s k <;> simp [hk]
theorem c_X5_ofPerson {M : Pl} {b : Nat} {v : Int32} {w : Wd} : K_X5_ofPerson [.ref b, .int v] (ms w b M) (RI (ofP (vP (M 0)) v) (ms w b M)) := by
  refine Con.mk [some (.ref b), some (.int v), none, none] (by decide) rfl rfl (Nat.le_of_ble_eq_true rfl) (fun X h hR hnm => ?_)
  have L : ∀ (n i : Nat) (s : Int32), i + n = 12 → s = mk (fun k => sThere (M 0) k && decide (vP (M 0) 8 k = v)) i → V X 0 0 4 [some (.ref b), some (.int v), some (.int s), some (.int (nI i))] [] (ms w b M) := by
    intro n
    induction n with
    | zero =>
      intro i s hi hs
      obtain rfl : i = 12 := by omega
      refine V.iload3 h 5 dX5_ofPerson_4 rfl (V.bipush h 7 dX5_ofPerson_5 rfl ic2_12 ?_)
      refine V.icmp_ge h 46 10 dX5_ofPerson_7 rfl rfl (fun _ => ?_) (fun q => absurd (lp_out (n := 12)) q)
      refine V.iload2 h 47 dX5_ofPerson_46 rfl ?_
      refine V.iret h hR dX5_ofPerson_47 ?_
      exact RI_r (hs.trans (mk_congr fun k hk => by rw [live_bt _ hk]))
    | succ n ih =>
      intro i s hi hs
      refine V.iload3 h 5 dX5_ofPerson_4 rfl (V.bipush h 7 dX5_ofPerson_5 rfl ic2_12 ?_)
      refine V.icmp_ge h 46 10 dX5_ofPerson_7 rfl rfl (fun q => absurd q (lp_in (n := 12) (by omega))) (fun _ => ?_)
      refine V.iload2 h 11 dX5_ofPerson_10 rfl (V.aload0 h 12 dX5_ofPerson_11 rfl (V.iload3 h 13 dX5_ofPerson_12 rfl (V.iconst h 14 dX5_ofPerson_13 rfl ic1_0 (V.callVf (As := [.int _, .int _]) (st := [.int _]) h 17 dX5_ofPerson_14 rfl k648 k645 k647 ks63 k6 hd_X5_of ⟨(Nat.le_of_ble_eq_true rfl), (Nat.le_of_ble_eq_true rfl)⟩ (Nat.le_of_ble_eq_true rfl) mo rfl rfl ⟨Nat.zero_le _, Nat.zero_le _⟩ (c_X5_of 0 rfl (by omega) (by decide)) rfl (V.iconst h 18 dX5_ofPerson_17 rfl ic1_1 ?_)))))
      refine V.icmp_ne h 37 21 dX5_ofPerson_18 rfl rfl (fun c18 => ?_) (fun c18 => ?_)
      · refine V.iconst h 38 dX5_ofPerson_37 rfl ic1_0 (V.ior h 39 dX5_ofPerson_38 rfl (V.istore2 h 40 dX5_ofPerson_39 rfl rfl (V.incN3 h 43 dX5_ofPerson_40 rfl rfl (V.goto h 4 dX5_ofPerson_43 rfl ?_))))
        first | exact ih (i + 1) _ (by omega) (mkt hs (by simp [vP, sThere, *]; done)) | exact ih (i + 1) _ (by omega) (mkf0 hs (by simp [vP, sThere, *]; done))
      · refine V.aload0 h 22 dX5_ofPerson_21 rfl (V.iload3 h 23 dX5_ofPerson_22 rfl (V.iconst h 24 dX5_ofPerson_23 rfl ic1_1 (V.callVf (As := [.int _, .int _]) (st := [.int _]) h 27 dX5_ofPerson_24 rfl k648 k645 k647 ks63 k6 hd_X5_of ⟨(Nat.le_of_ble_eq_true rfl), (Nat.le_of_ble_eq_true rfl)⟩ (Nat.le_of_ble_eq_true rfl) mo rfl rfl ⟨Nat.zero_le _, Nat.zero_le _⟩ (c_X5_of 1 rfl (by omega) (by decide)) rfl (V.iload1 h 28 dX5_ofPerson_27 rfl ?_))))
        refine V.icmp_ne h 37 31 dX5_ofPerson_28 rfl rfl (fun c28 => ?_) (fun c28 => ?_)
        · refine V.iconst h 38 dX5_ofPerson_37 rfl ic1_0 (V.ior h 39 dX5_ofPerson_38 rfl (V.istore2 h 40 dX5_ofPerson_39 rfl rfl (V.incN3 h 43 dX5_ofPerson_40 rfl rfl (V.goto h 4 dX5_ofPerson_43 rfl ?_))))
          first | exact ih (i + 1) _ (by omega) (mkt hs (by simp [vP, sThere, *]; done)) | exact ih (i + 1) _ (by omega) (mkf0 hs (by simp [vP, sThere, *]; done))
        · refine V.iconst h 32 dX5_ofPerson_31 rfl ic1_1 (V.iload3 h 33 dX5_ofPerson_32 rfl (V.ishl h 34 dX5_ofPerson_33 rfl (V.goto h 38 dX5_ofPerson_34 rfl (V.ior h 39 dX5_ofPerson_38 rfl (V.istore2 h 40 dX5_ofPerson_39 rfl rfl (V.incN3 h 43 dX5_ofPerson_40 rfl rfl (V.goto h 4 dX5_ofPerson_43 rfl ?_)))))))
          first | exact ih (i + 1) _ (by omega) (mkt hs (by simp [vP, sThere, *]; done)) | exact ih (i + 1) _ (by omega) (mkf0 hs (by simp [vP, sThere, *]; done))
  refine V.iconst h 1 dX5_ofPerson_0 rfl ic1_0 (V.istore2 h 2 dX5_ofPerson_1 rfl rfl (V.iconst h 3 dX5_ofPerson_2 rfl ic1_0 (V.istore3 h 4 dX5_ofPerson_3 rfl rfl ?_)))
  exact L 12 0 0 rfl rfl
theorem c_X5_ofProject {M : Pl} {b : Nat} {v : Int32} {w : Wd} : K_X5_ofProject [.ref b, .int v] (ms w b M) (RI (forP (vP (M 0)) v) (ms w b M)) := by
  refine Con.mk [some (.ref b), some (.int v), none, none] (by decide) rfl rfl (Nat.le_of_ble_eq_true rfl) (fun X h hR hnm => ?_)
  have L : ∀ (n i : Nat) (s : Int32), i + n = 12 → s = mk (fun k => sThere (M 0) k && decide (vP (M 0) 9 k = v)) i → V X 0 0 4 [some (.ref b), some (.int v), some (.int s), some (.int (nI i))] [] (ms w b M) := by
    intro n
    induction n with
    | zero =>
      intro i s hi hs
      obtain rfl : i = 12 := by omega
      refine V.iload3 h 5 dX5_ofProject_4 rfl (V.bipush h 7 dX5_ofProject_5 rfl ic2_12 ?_)
      refine V.icmp_ge h 46 10 dX5_ofProject_7 rfl rfl (fun _ => ?_) (fun q => absurd (lp_out (n := 12)) q)
      refine V.iload2 h 47 dX5_ofProject_46 rfl ?_
      refine V.iret h hR dX5_ofProject_47 ?_
      exact RI_r (hs.trans (mk_congr fun k hk => by rw [live_bt _ hk]))
    | succ n ih =>
      intro i s hi hs
      refine V.iload3 h 5 dX5_ofProject_4 rfl (V.bipush h 7 dX5_ofProject_5 rfl ic2_12 ?_)
      refine V.icmp_ge h 46 10 dX5_ofProject_7 rfl rfl (fun q => absurd q (lp_in (n := 12) (by omega))) (fun _ => ?_)
      refine V.iload2 h 11 dX5_ofProject_10 rfl (V.aload0 h 12 dX5_ofProject_11 rfl (V.iload3 h 13 dX5_ofProject_12 rfl (V.iconst h 14 dX5_ofProject_13 rfl ic1_0 (V.callVf (As := [.int _, .int _]) (st := [.int _]) h 17 dX5_ofProject_14 rfl k648 k645 k647 ks63 k6 hd_X5_of ⟨(Nat.le_of_ble_eq_true rfl), (Nat.le_of_ble_eq_true rfl)⟩ (Nat.le_of_ble_eq_true rfl) mo rfl rfl ⟨Nat.zero_le _, Nat.zero_le _⟩ (c_X5_of 0 rfl (by omega) (by decide)) rfl (V.iconst h 18 dX5_ofProject_17 rfl ic1_1 ?_)))))
      refine V.icmp_ne h 37 21 dX5_ofProject_18 rfl rfl (fun c18 => ?_) (fun c18 => ?_)
      · refine V.iconst h 38 dX5_ofProject_37 rfl ic1_0 (V.ior h 39 dX5_ofProject_38 rfl (V.istore2 h 40 dX5_ofProject_39 rfl rfl (V.incN3 h 43 dX5_ofProject_40 rfl rfl (V.goto h 4 dX5_ofProject_43 rfl ?_))))
        first | exact ih (i + 1) _ (by omega) (mkt hs (by simp [vP, sThere, *]; done)) | exact ih (i + 1) _ (by omega) (mkf0 hs (by simp [vP, sThere, *]; done))
      · refine V.aload0 h 22 dX5_ofProject_21 rfl (V.iload3 h 23 dX5_ofProject_22 rfl (V.iconst h 24 dX5_ofProject_23 rfl ic1_2 (V.callVf (As := [.int _, .int _]) (st := [.int _]) h 27 dX5_ofProject_24 rfl k648 k645 k647 ks63 k6 hd_X5_of ⟨(Nat.le_of_ble_eq_true rfl), (Nat.le_of_ble_eq_true rfl)⟩ (Nat.le_of_ble_eq_true rfl) mo rfl rfl ⟨Nat.zero_le _, Nat.zero_le _⟩ (c_X5_of 2 rfl (by omega) (by decide)) rfl (V.iload1 h 28 dX5_ofProject_27 rfl ?_))))
        refine V.icmp_ne h 37 31 dX5_ofProject_28 rfl rfl (fun c28 => ?_) (fun c28 => ?_)
        · refine V.iconst h 38 dX5_ofProject_37 rfl ic1_0 (V.ior h 39 dX5_ofProject_38 rfl (V.istore2 h 40 dX5_ofProject_39 rfl rfl (V.incN3 h 43 dX5_ofProject_40 rfl rfl (V.goto h 4 dX5_ofProject_43 rfl ?_))))
          first | exact ih (i + 1) _ (by omega) (mkt hs (by simp [vP, sThere, *]; done)) | exact ih (i + 1) _ (by omega) (mkf0 hs (by simp [vP, sThere, *]; done))
        · refine V.iconst h 32 dX5_ofProject_31 rfl ic1_1 (V.iload3 h 33 dX5_ofProject_32 rfl (V.ishl h 34 dX5_ofProject_33 rfl (V.goto h 38 dX5_ofProject_34 rfl (V.ior h 39 dX5_ofProject_38 rfl (V.istore2 h 40 dX5_ofProject_39 rfl rfl (V.incN3 h 43 dX5_ofProject_40 rfl rfl (V.goto h 4 dX5_ofProject_43 rfl ?_)))))))
          first | exact ih (i + 1) _ (by omega) (mkt hs (by simp [vP, sThere, *]; done)) | exact ih (i + 1) _ (by omega) (mkf0 hs (by simp [vP, sThere, *]; done))
  refine V.iconst h 1 dX5_ofProject_0 rfl ic1_0 (V.istore2 h 2 dX5_ofProject_1 rfl rfl (V.iconst h 3 dX5_ofProject_2 rfl ic1_0 (V.istore3 h 4 dX5_ofProject_3 rfl rfl ?_)))
  exact L 12 0 0 rfl rfl
end
section
/-! the reference: changes -/
abbrev mz (w : Wd) (b : Nat) (M : Pl) (s : Nat → Int32) : Wd := ms w b (ua M 0 s)
section MZ
variable {w : Wd} {b : Nat} {M : Pl} {s : Nat → Int32}
theorem za1 : (mz w b M s).2 (b + 1) = some (ints 125 s) := ma1
theorem zw1 {f : Nat → Int32} : wset (mz w b M s) (b + 1) (ints 125 f) = mz w b M f := by rw [mw1, ua_ua]
theorem z_sc {a : Int32} {f : Nat → Int32} : sc (ua M 0 s) a f = ua (sc M a f) 0 s := by
  unfold sc
  rw [us_ua _ _ _ (by decide), ua_comm _ _ _ (by decide)]
theorem c_of {k : Nat} {v : Int32} (f : Nat) (hv : v = nI f) (hk : k < 12) (hf : f < 8) : K_X5_of [.ref b, .int (nI k), .int v] (mz w b M s) (RI (sF s k f) (mz w b M s)) := c_X5_of f hv hk hf
theorem c_isClosed {j : Nat} (hj : j < 4) : K_X5_isClosed [.ref b, .int (nI j)] (mz w b M s) (RI (bI (decide (s (5 + 2 * j + 1) = 1))) (mz w b M s)) := c_X5_isClosed hj
theorem c_isProject {v : Int32} : K_X5_isProject [.ref b, .int v] (mz w b M s) (RI (bI (decide (0 ≤ v) && decide (v ≤ s 0 - 1))) (mz w b M s)) := c_X5_isProject
theorem c_isPerson {v : Int32} : K_X5_isPerson [.ref b, .int v] (mz w b M s) (RI (bI (decide (0 ≤ v) && decide (v ≤ s 1 - 1))) (mz w b M s)) := c_X5_isPerson
theorem c_open : K_X5_open [.ref b] (mz w b M s) (RI (vP s 6 0) (mz w b M s)) := c_X5_open
theorem c_amountOf {S : Int32} : K_X5_amountOf [.ref b, .int S] (mz w b M s) (RI (amt (vP s) S) (mz w b M s)) := c_X5_amountOf
theorem c_ofPerson {v : Int32} : K_X5_ofPerson [.ref b, .int v] (mz w b M s) (RI (ofP (vP s) v) (mz w b M s)) := c_X5_ofPerson
theorem c_ofProject {v : Int32} : K_X5_ofProject [.ref b, .int v] (mz w b M s) (RI (forP (vP s) v) (mz w b M s)) := c_X5_ofProject
theorem c_hasGoal {j : Nat} {S : Int32} (hj : j < 4) : K_X5_hasGoal [.ref b, .int S, .int (nI j)] (mz w b M s) (RI (bI (hasG (vP s) (mX M) S (nI j))) (mz w b M s)) := c_X5_hasGoal hj
theorem c_stands {g : Int32} (hok : sOK s) : K_X5_stands [.ref b, .int g] (mz w b M s) (RI (std (vP s) (mX M) g) (mz w b (sc M (nI (nwP (vP s) (mX M) g)) (wvP (vP s) (mX M) g (M 8))) s)) := by
  have h := c_X5_stands (M := ua M 0 s) (b := b) (g := g) (w := w) hok
  rw [z_sc] at h
  exact h
end MZ
def rng (l v m : Int32) : Bool := decide (l ≤ v) && decide (v ≤ m)
def mAdd (s : Nat → Int32) (g : Int32) : Int32 × (Nat → Int32) :=
  if rng 1 g 999 = true then (if s 0 = 4 then (-3, s) else (s 0, upd (upd s (5 + 2 * (s 0).toNatClampNeg) g) 0 (s 0 + 1))) else (-1, s)
def mCome (s : Nat → Int32) (g : Int32) : Int32 × (Nat → Int32) :=
  if rng 0 g 999 = true then (if s 1 = 8 then (-3, s) else (s 1, upd (upd s (13 + 2 * (s 1).toNatClampNeg) g) 1 (s 1 + 1))) else (-1, s)
theorem RI_p {q : Int32 × (Nat → Int32)} {r : Int32} {s1 : Nat → Int32} {w : Wd} {b : Nat} {M : Pl} (h : q = (r, s1)) : RI q.1 (mz w b M q.2) (some (.int r)) (mz w b M s1) := by rw [h]; exact ⟨rfl, rfl⟩
theorem c_X5_adds {M : Pl} {b np : Nat} {s : Nat → Int32} {g : Int32} {w : Wd} (hn : s 0 = nI np) (h4 : np ≤ 4) : K_X5_adds [.ref b, .int g] (mz w b M s) (RI (mAdd s g).1 (mz w b M (mAdd s g).2)) := by
  refine Con.mk [some (.ref b), some (.int g)] (by decide) rfl rfl (Nat.le_of_ble_eq_true rfl) (fun X h hR hnm => ?_)
  refine V.iload1 h 1 dX5_adds_0 rfl (V.iconst h 2 dX5_adds_1 rfl ic1_1 (V.sipush h 5 dX5_adds_2 rfl ic3_999 (V.callSf (As := [.int _, .int _, .int _]) (st := []) h 8 dX5_adds_5 rfl k604 k602 k603 k6 hd_X5_in ⟨(Nat.le_of_ble_eq_true rfl), (Nat.le_of_ble_eq_true rfl)⟩ (Nat.le_of_ble_eq_true rfl) ⟨Nat.zero_le _, Nat.zero_le _⟩ c_X5_in rfl ?_)))
  refine V.bif_ne h 13 11 dX5_adds_8 rfl rfl (fun c8 => ?_) (fun c8 => ?_)
  · refine V.aload0 h 14 dX5_adds_13 rfl (V.gX5 h 0 17 dX5_adds_14 rfl rfl k544 mo rfl (V.iconst h 18 dX5_adds_17 rfl ic1_0 (V.ialdN (i := 0) h 19 dX5_adds_18 rfl za1 (by omega) (by decide) (V.iconst h 20 dX5_adds_19 rfl ic1_4 ?_))))
    refine V.icmp_ne h 26 23 dX5_adds_20 rfl rfl (fun c20 => ?_) (fun c20 => ?_)
    · refine V.aload0 h 27 dX5_adds_26 rfl (V.gX5 h 0 30 dX5_adds_27 rfl rfl k544 mo rfl (V.iconst h 31 dX5_adds_30 rfl ic1_5 (V.iconst h 32 dX5_adds_31 rfl ic1_2 (V.aload0 h 33 dX5_adds_32 rfl (V.gX5 h 0 36 dX5_adds_33 rfl rfl k544 mo rfl (V.iconst h 37 dX5_adds_36 rfl ic1_0 (V.ialdN (i := 0) h 38 dX5_adds_37 rfl za1 (by omega) (by decide) ?_)))))))
      refine V.imul h 39 dX5_adds_38 rfl (V.iadd h 40 dX5_adds_39 rfl ?_)
      rw [hn, show (5 : Int32) + 2 * nI np = nI (5 + 2 * np) by rw [lit, lit, pk_mul, nI_add]]
      have hnp : np < 4 := by
        rcases Nat.lt_or_ge np 4 with q | q
        · exact q
        · exact absurd (by rw [hn, show np = 4 by omega]; rfl) c20
      refine V.iload1 h 41 dX5_adds_40 rfl (V.iastN h 42 dX5_adds_41 rfl za1 (by omega) (by decide) (V.at _ zw1 (V.aload0 h 43 dX5_adds_42 rfl (V.gX5 h 0 46 dX5_adds_43 rfl rfl k544 mo rfl (V.iconst h 47 dX5_adds_46 rfl ic1_0 (V.dup2 h 48 dX5_adds_47 rfl rfl rfl (V.ialdN (i := 0) h 49 dX5_adds_48 rfl za1 (by omega) (by decide) ?_)))))))
      refine V.iconst h 50 dX5_adds_49 rfl ic1_1 (V.iadd h 51 dX5_adds_50 rfl (V.iastN (i := 0) h 52 dX5_adds_51 rfl za1 (by omega) (by decide) (V.at _ zw1 (V.aload0 h 53 dX5_adds_52 rfl (V.gX5 h 0 56 dX5_adds_53 rfl rfl k544 mo rfl (V.iconst h 57 dX5_adds_56 rfl ic1_0 (V.ialdN (i := 0) h 58 dX5_adds_57 rfl za1 (by omega) (by decide) ?_)))))))
      refine V.iconst h 59 dX5_adds_58 rfl ic1_1 (V.isub h 60 dX5_adds_59 rfl ?_)
      refine V.iret h hR dX5_adds_60 ?_
      have e0 : upd s (5 + 2 * np) g 0 = s 0 := by unfold upd; rw [if_neg (by omega)]
      have e1 : (mAdd s g) = (s 0, upd (upd s (5 + 2 * np) g) 0 (s 0 + 1)) := by unfold mAdd rng; rw [c8, if_pos rfl, if_neg c20, hn, nI_tn (by omega)]
      rw [e0, e1]
      refine ⟨?_, rfl⟩
      have e2 : upd (upd s (5 + 2 * np) g) 0 (s 0 + 1) 0 = s 0 + 1 := by unfold upd; rw [if_pos rfl]
      rw [e2, Int32.add_sub_cancel]
    · refine V.bipush h 25 dX5_adds_23 rfl ic2_m3 ?_
      refine V.iret h hR dX5_adds_25 ?_
      exact RI_p (by unfold mAdd rng; rw [c8, if_pos rfl, if_pos c20])
  · refine V.iconst h 12 dX5_adds_11 rfl ic1_m1 ?_
    refine V.iret h hR dX5_adds_12 ?_
    exact RI_p (by unfold mAdd rng; rw [c8]; rfl)
theorem c_X5_comes {M : Pl} {b nq : Nat} {s : Nat → Int32} {g : Int32} {w : Wd} (hn : s 1 = nI nq) (h8 : nq ≤ 8) : K_X5_comes [.ref b, .int g] (mz w b M s) (RI (mCome s g).1 (mz w b M (mCome s g).2)) := by
  refine Con.mk [some (.ref b), some (.int g)] (by decide) rfl rfl (Nat.le_of_ble_eq_true rfl) (fun X h hR hnm => ?_)
  refine V.iload1 h 1 dX5_comes_0 rfl (V.iconst h 2 dX5_comes_1 rfl ic1_0 (V.sipush h 5 dX5_comes_2 rfl ic3_999 (V.callSf (As := [.int _, .int _, .int _]) (st := []) h 8 dX5_comes_5 rfl k604 k602 k603 k6 hd_X5_in ⟨(Nat.le_of_ble_eq_true rfl), (Nat.le_of_ble_eq_true rfl)⟩ (Nat.le_of_ble_eq_true rfl) ⟨Nat.zero_le _, Nat.zero_le _⟩ c_X5_in rfl ?_)))
  refine V.bif_ne h 13 11 dX5_comes_8 rfl rfl (fun c8 => ?_) (fun c8 => ?_)
  · refine V.aload0 h 14 dX5_comes_13 rfl (V.gX5 h 0 17 dX5_comes_14 rfl rfl k544 mo rfl (V.iconst h 18 dX5_comes_17 rfl ic1_1 (V.ialdN (i := 1) h 19 dX5_comes_18 rfl za1 (by omega) (by decide) (V.bipush h 21 dX5_comes_19 rfl ic2_8 ?_))))
    refine V.icmp_ne h 27 24 dX5_comes_21 rfl rfl (fun c21 => ?_) (fun c21 => ?_)
    · refine V.aload0 h 28 dX5_comes_27 rfl (V.gX5 h 0 31 dX5_comes_28 rfl rfl k544 mo rfl (V.bipush h 33 dX5_comes_31 rfl ic2_13 (V.iconst h 34 dX5_comes_33 rfl ic1_2 (V.aload0 h 35 dX5_comes_34 rfl (V.gX5 h 0 38 dX5_comes_35 rfl rfl k544 mo rfl (V.iconst h 39 dX5_comes_38 rfl ic1_1 (V.ialdN (i := 1) h 40 dX5_comes_39 rfl za1 (by omega) (by decide) ?_)))))))
      refine V.imul h 41 dX5_comes_40 rfl (V.iadd h 42 dX5_comes_41 rfl ?_)
      rw [hn, show (13 : Int32) + 2 * nI nq = nI (13 + 2 * nq) by rw [lit, lit, pk_mul, nI_add]]
      have hnp : nq < 8 := by
        rcases Nat.lt_or_ge nq 8 with q | q
        · exact q
        · exact absurd (by rw [hn, show nq = 8 by omega]; rfl) c21
      refine V.iload1 h 43 dX5_comes_42 rfl (V.iastN h 44 dX5_comes_43 rfl za1 (by omega) (by decide) (V.at _ zw1 (V.aload0 h 45 dX5_comes_44 rfl (V.gX5 h 0 48 dX5_comes_45 rfl rfl k544 mo rfl (V.iconst h 49 dX5_comes_48 rfl ic1_1 (V.dup2 h 50 dX5_comes_49 rfl rfl rfl (V.ialdN (i := 1) h 51 dX5_comes_50 rfl za1 (by omega) (by decide) ?_)))))))
      refine V.iconst h 52 dX5_comes_51 rfl ic1_1 (V.iadd h 53 dX5_comes_52 rfl (V.iastN (i := 1) h 54 dX5_comes_53 rfl za1 (by omega) (by decide) (V.at _ zw1 (V.aload0 h 55 dX5_comes_54 rfl (V.gX5 h 0 58 dX5_comes_55 rfl rfl k544 mo rfl (V.iconst h 59 dX5_comes_58 rfl ic1_1 (V.ialdN (i := 1) h 60 dX5_comes_59 rfl za1 (by omega) (by decide) ?_)))))))
      refine V.iconst h 61 dX5_comes_60 rfl ic1_1 (V.isub h 62 dX5_comes_61 rfl ?_)
      refine V.iret h hR dX5_comes_62 ?_
      have e0 : upd s (13 + 2 * nq) g 1 = s 1 := by unfold upd; rw [if_neg (by omega)]
      have e1 : (mCome s g) = (s 1, upd (upd s (13 + 2 * nq) g) 1 (s 1 + 1)) := by unfold mCome rng; rw [c8, if_pos rfl, if_neg c21, hn, nI_tn (by omega)]
      rw [e0, e1]
      refine ⟨?_, rfl⟩
      have e2 : upd (upd s (13 + 2 * nq) g) 1 (s 1 + 1) 1 = s 1 + 1 := by unfold upd; rw [if_pos rfl]
      rw [e2, Int32.add_sub_cancel]
    · refine V.bipush h 26 dX5_comes_24 rfl ic2_m3 ?_
      refine V.iret h hR dX5_comes_26 ?_
      exact RI_p (by unfold mCome rng; rw [c8, if_pos rfl, if_pos c21])
  · refine V.iconst h 12 dX5_comes_11 rfl ic1_m1 ?_
    refine V.iret h hR dX5_comes_12 ?_
    exact RI_p (by unfold mCome rng; rw [c8]; rfl)
/-- a condition that can be made -/
def cOK (np nq i j k v : Int32) : Bool :=
  if k = 0 then decide (v = 0) else if k = 1 then rng 1 v 999 else if k = 2 then rng 1 v 11 else if k = 3 then (rng 0 v (nq - 1) && !decide (v = i)) else if k = 4 then (rng 0 v (np - 1) && !decide (v = j)) else false
theorem c_X5_isCondition {M : Pl} {b : Nat} {s : Nat → Int32} {i j k v : Int32} {w : Wd} : K_X5_isCondition [.ref b, .int i, .int j, .int k, .int v] (mz w b M s) (RI (bI (cOK (s 0) (s 1) i j k v)) (mz w b M s)) := by
  refine Con.mk [some (.ref b), some (.int i), some (.int j), some (.int k), some (.int v)] (by decide) rfl rfl (Nat.le_of_ble_eq_true rfl) (fun X h hR hnm => ?_)
  refine V.iload3 h 1 dX5_isCondition_0 rfl ?_
  refine V.tcase (off := 35) h (0 : Int32) 36 dX5_isCondition_1 (by decide) (by decide +kernel) rfl (fun c1_0 => ?_) (fun c1_0 => ?_)
  · refine V.iload4 h 38 dX5_isCondition_36 rfl ?_
    refine V.if_ne h 45 41 dX5_isCondition_38 rfl rfl (fun c38 => ?_) (fun c38 => ?_)
    · refine V.iconst h 46 dX5_isCondition_45 rfl ic1_0 ?_
      refine V.zret h hR (by first | exact bI_z _ | rfl) dX5_isCondition_46 ?_
      first | exact RI_t (by subst c1_0; unfold cOK; rw [if_pos rfl]; exact decide_eq_true c38) | exact RI_f (by subst c1_0; unfold cOK; rw [if_pos rfl]; exact decide_eq_false c38)
    · refine V.iconst h 42 dX5_isCondition_41 rfl ic1_1 (V.goto h 46 dX5_isCondition_42 rfl ?_)
      refine V.zret h hR (by first | exact bI_z _ | rfl) dX5_isCondition_46 ?_
      first | exact RI_t (by subst c1_0; unfold cOK; rw [if_pos rfl]; exact decide_eq_true c38) | exact RI_f (by subst c1_0; unfold cOK; rw [if_pos rfl]; exact decide_eq_false c38)
  refine V.tcase (off := 46) h (1 : Int32) 47 dX5_isCondition_1 (by decide) (by decide +kernel) rfl (fun c1_1 => ?_) (fun c1_1 => ?_)
  · refine V.iload4 h 49 dX5_isCondition_47 rfl (V.iconst h 50 dX5_isCondition_49 rfl ic1_1 (V.sipush h 53 dX5_isCondition_50 rfl ic3_999 (V.callSf (As := [.int _, .int _, .int _]) (st := []) h 56 dX5_isCondition_53 rfl k604 k602 k603 k6 hd_X5_in ⟨(Nat.le_of_ble_eq_true rfl), (Nat.le_of_ble_eq_true rfl)⟩ (Nat.le_of_ble_eq_true rfl) ⟨Nat.zero_le _, Nat.zero_le _⟩ c_X5_in rfl ?_)))
    refine V.zret h hR (by first | exact bI_z _ | rfl) dX5_isCondition_56 ?_
    exact RI_r (by subst c1_1; rfl)
  refine V.tcase (off := 56) h (2 : Int32) 57 dX5_isCondition_1 (by decide) (by decide +kernel) rfl (fun c1_2 => ?_) (fun c1_2 => ?_)
  · refine V.iload4 h 59 dX5_isCondition_57 rfl (V.iconst h 60 dX5_isCondition_59 rfl ic1_1 (V.bipush h 62 dX5_isCondition_60 rfl ic2_11 (V.callSf (As := [.int _, .int _, .int _]) (st := []) h 65 dX5_isCondition_62 rfl k604 k602 k603 k6 hd_X5_in ⟨(Nat.le_of_ble_eq_true rfl), (Nat.le_of_ble_eq_true rfl)⟩ (Nat.le_of_ble_eq_true rfl) ⟨Nat.zero_le _, Nat.zero_le _⟩ c_X5_in rfl ?_)))
    refine V.zret h hR (by first | exact bI_z _ | rfl) dX5_isCondition_65 ?_
    exact RI_r (by subst c1_2; rfl)
  refine V.tcase (off := 65) h (3 : Int32) 66 dX5_isCondition_1 (by decide) (by decide +kernel) rfl (fun c1_3 => ?_) (fun c1_3 => ?_)
  · refine V.aload0 h 67 dX5_isCondition_66 rfl (V.iload4 h 69 dX5_isCondition_67 rfl (V.callVf (As := [.int _]) (st := []) h 72 dX5_isCondition_69 rfl k628 k625 k627 ks58 k6 hd_X5_isPerson ⟨(Nat.le_of_ble_eq_true rfl), (Nat.le_of_ble_eq_true rfl)⟩ (Nat.le_of_ble_eq_true rfl) mo rfl rfl ⟨Nat.zero_le _, Nat.zero_le _⟩ c_isPerson rfl ?_))
    refine V.bif_eq h 85 75 dX5_isCondition_72 rfl rfl (fun c72 => ?_) (fun c72 => ?_)
    · refine V.iconst h 86 dX5_isCondition_85 rfl ic1_0 ?_
      refine V.zret h hR (by first | exact bI_z _ | rfl) dX5_isCondition_86 ?_
      first | exact RI_t (by subst c1_3; show (rng 0 v (s 1 - 1) && !decide (v = i)) = true; unfold rng; rw [c72, decide_eq_false c78]; rfl) | exact RI_f (by subst c1_3; show (rng 0 v (s 1 - 1) && !decide (v = i)) = false; unfold rng; rw [c72]; rfl) | exact RI_f (by subst c1_3; show (rng 0 v (s 1 - 1) && !decide (v = i)) = false; rw [decide_eq_true c78, Bool.and_comm]; rfl)
    · refine V.iload4 h 77 dX5_isCondition_75 rfl (V.iload1 h 78 dX5_isCondition_77 rfl ?_)
      refine V.icmp_eq h 85 81 dX5_isCondition_78 rfl rfl (fun c78 => ?_) (fun c78 => ?_)
      · refine V.iconst h 86 dX5_isCondition_85 rfl ic1_0 ?_
        refine V.zret h hR (by first | exact bI_z _ | rfl) dX5_isCondition_86 ?_
        first | exact RI_t (by subst c1_3; show (rng 0 v (s 1 - 1) && !decide (v = i)) = true; unfold rng; rw [c72, decide_eq_false c78]; rfl) | exact RI_f (by subst c1_3; show (rng 0 v (s 1 - 1) && !decide (v = i)) = false; unfold rng; rw [c72]; rfl) | exact RI_f (by subst c1_3; show (rng 0 v (s 1 - 1) && !decide (v = i)) = false; rw [decide_eq_true c78, Bool.and_comm]; rfl)
      · refine V.iconst h 82 dX5_isCondition_81 rfl ic1_1 (V.goto h 86 dX5_isCondition_82 rfl ?_)
        refine V.zret h hR (by first | exact bI_z _ | rfl) dX5_isCondition_86 ?_
        first | exact RI_t (by subst c1_3; show (rng 0 v (s 1 - 1) && !decide (v = i)) = true; unfold rng; rw [c72, decide_eq_false c78]; rfl) | exact RI_f (by subst c1_3; show (rng 0 v (s 1 - 1) && !decide (v = i)) = false; unfold rng; rw [c72]; rfl) | exact RI_f (by subst c1_3; show (rng 0 v (s 1 - 1) && !decide (v = i)) = false; rw [decide_eq_true c78, Bool.and_comm]; rfl)
  refine V.tcase (off := 86) h (4 : Int32) 87 dX5_isCondition_1 (by decide) (by decide +kernel) rfl (fun c1_4 => ?_) (fun c1_4 => ?_)
  · refine V.aload0 h 88 dX5_isCondition_87 rfl (V.iload4 h 90 dX5_isCondition_88 rfl (V.callVf (As := [.int _]) (st := []) h 93 dX5_isCondition_90 rfl k632 k629 k631 ks59 k6 hd_X5_isProject ⟨(Nat.le_of_ble_eq_true rfl), (Nat.le_of_ble_eq_true rfl)⟩ (Nat.le_of_ble_eq_true rfl) mo rfl rfl ⟨Nat.zero_le _, Nat.zero_le _⟩ c_isProject rfl ?_))
    refine V.bif_eq h 106 96 dX5_isCondition_93 rfl rfl (fun c93 => ?_) (fun c93 => ?_)
    · refine V.iconst h 107 dX5_isCondition_106 rfl ic1_0 ?_
      refine V.zret h hR (by first | exact bI_z _ | rfl) dX5_isCondition_107 ?_
      first | exact RI_t (by subst c1_4; show (rng 0 v (s 0 - 1) && !decide (v = j)) = true; unfold rng; rw [c93, decide_eq_false c99]; rfl) | exact RI_f (by subst c1_4; show (rng 0 v (s 0 - 1) && !decide (v = j)) = false; unfold rng; rw [c93]; rfl) | exact RI_f (by subst c1_4; show (rng 0 v (s 0 - 1) && !decide (v = j)) = false; rw [decide_eq_true c99, Bool.and_comm]; rfl)
    · refine V.iload4 h 98 dX5_isCondition_96 rfl (V.iload2 h 99 dX5_isCondition_98 rfl ?_)
      refine V.icmp_eq h 106 102 dX5_isCondition_99 rfl rfl (fun c99 => ?_) (fun c99 => ?_)
      · refine V.iconst h 107 dX5_isCondition_106 rfl ic1_0 ?_
        refine V.zret h hR (by first | exact bI_z _ | rfl) dX5_isCondition_107 ?_
        first | exact RI_t (by subst c1_4; show (rng 0 v (s 0 - 1) && !decide (v = j)) = true; unfold rng; rw [c93, decide_eq_false c99]; rfl) | exact RI_f (by subst c1_4; show (rng 0 v (s 0 - 1) && !decide (v = j)) = false; unfold rng; rw [c93]; rfl) | exact RI_f (by subst c1_4; show (rng 0 v (s 0 - 1) && !decide (v = j)) = false; rw [decide_eq_true c99, Bool.and_comm]; rfl)
      · refine V.iconst h 103 dX5_isCondition_102 rfl ic1_1 (V.goto h 107 dX5_isCondition_103 rfl ?_)
        refine V.zret h hR (by first | exact bI_z _ | rfl) dX5_isCondition_107 ?_
        first | exact RI_t (by subst c1_4; show (rng 0 v (s 0 - 1) && !decide (v = j)) = true; unfold rng; rw [c93, decide_eq_false c99]; rfl) | exact RI_f (by subst c1_4; show (rng 0 v (s 0 - 1) && !decide (v = j)) = false; unfold rng; rw [c93]; rfl) | exact RI_f (by subst c1_4; show (rng 0 v (s 0 - 1) && !decide (v = j)) = false; rw [decide_eq_true c99, Bool.and_comm]; rfl)
  refine V.tdflt h 108 dX5_isCondition_1 (by have e0 := lv_neT (a := 0) c1_0 (by decide); have e1 := lv_neT (a := 1) c1_1 (by decide); have e2 := lv_neT (a := 2) c1_2 (by decide); have e3 := lv_neT (a := 3) c1_3 (by decide); have e4 := lv_neT (a := 4) c1_4 (by decide); omega) rfl ?_
  refine V.iconst h 109 dX5_isCondition_108 rfl ic1_0 ?_
  refine V.zret h hR (by first | exact bI_z _ | rfl) dX5_isCondition_109 ?_
  exact RI_f (by unfold cOK; rw [if_neg c1_0, if_neg c1_1, if_neg c1_2, if_neg c1_3, if_neg c1_4])
/-- the lowest place from i on where f holds, or -1 -/
def lf (f : Nat → Bool) : Nat → Nat → Int32
  | _, 0 => -1
  | i, n + 1 => if f i = true then nI i else lf f (i + 1) n
theorem dec1 (x : Int32) : x + Int32.ofInt (-1) = x - 1 := by
  rw [Int32.sub_eq_add_neg]
  have : Int32.ofInt (-1) = -(1 : Int32) := by decide
  rw [this]
theorem c_X5_lowestFree {M : Pl} {b : Nat} {s : Nat → Int32} {w : Wd} : K_X5_lowestFree [.ref b] (mz w b M s) (RI (lf (fun k => decide (sF s k 0 = 0)) 0 12) (mz w b M s)) := by
  refine Con.mk [some (.ref b), none, none] (by decide) rfl rfl (Nat.le_of_ble_eq_true rfl) (fun X h hR hnm => ?_)
  have L : ∀ (i n : Nat) (x r : Int32), i + n = 12 → x = nI i - 1 → r = lf (fun k => decide (sF s k 0 = 0)) i n → V X 0 0 5 [some (.ref b), some (.int r), some (.int x)] [] (mz w b M s) := by
    intro i
    induction i with
    | zero =>
      intro n x r hn hx hr
      obtain rfl : n = 12 := by omega
      subst hx
      refine V.iload2 h 6 dX5_lowestFree_5 rfl ?_
      refine V.if_lt h 30 9 dX5_lowestFree_6 rfl rfl (fun _ => ?_) (fun q => absurd (show nI 0 - 1 < 0 by decide) q)
      refine V.iload1 h 31 dX5_lowestFree_30 rfl ?_
      refine V.iret h hR dX5_lowestFree_31 ?_
      exact RI_r hr
    | succ i ih =>
      intro n x r hn hx hr
      rw [nI_pred] at hx
      subst hx
      refine V.iload2 h 6 dX5_lowestFree_5 rfl ?_
      refine V.if_lt h 30 9 dX5_lowestFree_6 rfl rfl (fun q => absurd q (nI_pos (by omega))) (fun _ => ?_)
      refine V.aload0 h 10 dX5_lowestFree_9 rfl (V.iload2 h 11 dX5_lowestFree_10 rfl (V.iconst h 12 dX5_lowestFree_11 rfl ic1_0 (V.callVf (As := [.int _, .int _]) (st := []) h 15 dX5_lowestFree_12 rfl k648 k645 k647 ks63 k6 hd_X5_of ⟨(Nat.le_of_ble_eq_true rfl), (Nat.le_of_ble_eq_true rfl)⟩ (Nat.le_of_ble_eq_true rfl) mo rfl rfl ⟨Nat.zero_le _, Nat.zero_le _⟩ (c_of 0 rfl (by omega) (by decide)) rfl ?_)))
      refine V.if_ne h 22 18 dX5_lowestFree_15 rfl rfl (fun c15 => ?_) (fun c15 => ?_)
      · refine V.iload1 h 23 dX5_lowestFree_22 rfl (V.istore1 h 24 dX5_lowestFree_23 rfl rfl (V.iinc2 h 27 dX5_lowestFree_24 rfl rfl rfl (V.goto h 5 dX5_lowestFree_27 rfl ?_)))
        refine ih (n + 1) _ _ (by omega) (dec1 _) ?_
        rw [lf]; first | (rw [if_pos (by simpa using c15)]) | (rw [if_neg (by simpa using c15)]; exact hr)
      · refine V.iload2 h 19 dX5_lowestFree_18 rfl (V.goto h 23 dX5_lowestFree_19 rfl (V.istore1 h 24 dX5_lowestFree_23 rfl rfl (V.iinc2 h 27 dX5_lowestFree_24 rfl rfl rfl (V.goto h 5 dX5_lowestFree_27 rfl ?_))))
        refine ih (n + 1) _ _ (by omega) (dec1 _) ?_
        rw [lf]; first | (rw [if_pos (by simpa using c15)]) | (rw [if_neg (by simpa using c15)]; exact hr)
  refine V.iconst h 1 dX5_lowestFree_0 rfl ic1_m1 (V.istore1 h 2 dX5_lowestFree_1 rfl rfl (V.bipush h 4 dX5_lowestFree_2 rfl ic2_11 (V.istore2 h 5 dX5_lowestFree_4 rfl rfl ?_)))
  exact L 12 0 _ _ rfl (by decide) rfl
def fgt (s : Nat → Int32) (k : Nat) : Nat → Int32 := fun q => if 29 + 8 * k ≤ q ∧ q < 29 + 8 * k + 8 then 0 else s q
theorem c_X5_forgets {M : Pl} {b k : Nat} {s : Nat → Int32} {w : Wd} (hk : k < 12) : K_X5_forgets [.ref b, .int (nI k)] (mz w b M s) (RV (mz w b M (fgt s k))) := by
  refine Con.mk [some (.ref b), some (.int (nI k)), none] (by decide) rfl rfl (Nat.le_of_ble_eq_true rfl) (fun X h hR hnm => ?_)
  have L : ∀ (n i : Nat) (s1 : Nat → Int32), i + n = 8 → s1 = (fun q => if 29 + 8 * k ≤ q ∧ q < 29 + 8 * k + i then 0 else s q) → V X 0 0 2 [some (.ref b), some (.int (nI k)), some (.int (nI i))] [] (mz w b M s1) := by
    intro n
    induction n with
    | zero =>
      intro i s1 hi hs
      obtain rfl : i = 8 := by omega
      refine V.iload2 h 3 dX5_forgets_2 rfl (V.bipush h 5 dX5_forgets_3 rfl ic2_8 ?_)
      refine V.icmp_ge h 29 8 dX5_forgets_5 rfl rfl (fun _ => ?_) (fun q => absurd (lp_out (n := 8)) q)
      refine V.vret h hR dX5_forgets_29 ?_
      exact ⟨rfl, by rw [hs]; rfl⟩
    | succ n ih =>
      intro i s1 hi hs
      refine V.iload2 h 3 dX5_forgets_2 rfl (V.bipush h 5 dX5_forgets_3 rfl ic2_8 ?_)
      refine V.icmp_ge h 29 8 dX5_forgets_5 rfl rfl (fun q => absurd q (lp_in (n := 8) (by omega))) (fun _ => ?_)
      refine V.aload0 h 9 dX5_forgets_8 rfl (V.gX5 h 0 12 dX5_forgets_9 rfl rfl k544 mo rfl (V.bipush h 14 dX5_forgets_12 rfl ic2_29 (V.bipush h 16 dX5_forgets_14 rfl ic2_8 (V.iload1 h 17 dX5_forgets_16 rfl (V.imul h 18 dX5_forgets_17 rfl (V.iadd h 19 dX5_forgets_18 rfl (V.iload2 h 20 dX5_forgets_19 rfl ?_)))))))
      refine V.iadd h 21 dX5_forgets_20 rfl ?_
      rw [show (29 : Int32) + 8 * nI k + nI i = nI (29 + 8 * k + i) by rw [lit, lit, pk_mul, nI_add, nI_add]]
      refine V.iconst h 22 dX5_forgets_21 rfl ic1_0 (V.iastN h 23 dX5_forgets_22 rfl za1 (by omega) (by decide) (V.at _ zw1 (V.incN2 h 26 dX5_forgets_23 rfl rfl (V.goto h 2 dX5_forgets_26 rfl ?_))))
      refine ih (i + 1) _ (by omega) ?_
      rw [hs]
      funext q
      unfold upd
      by_cases hq : q = 29 + 8 * k + i
      · rw [if_pos hq, if_pos (by omega)]
      · rw [if_neg hq]
        dsimp only
        by_cases h2 : 29 + 8 * k ≤ q ∧ q < 29 + 8 * k + i
        · rw [if_pos h2, if_pos (by omega)]
        · rw [if_neg h2, if_neg (by omega)]
  refine V.iconst h 1 dX5_forgets_0 rfl ic1_0 (V.istore2 h 2 dX5_forgets_1 rfl rfl ?_)
  refine L 8 0 _ rfl ?_
  funext q; rw [if_neg (by omega)]
/-- a pledge that there is -/
def isPl (s : Nat → Int32) (v : Int32) : Bool := rng 0 v 11 && sThere s v.toNatClampNeg
theorem rng_nat {n : Nat} {v : Int32} (hn : n < 2 ^ 31) (h : rng 0 v (nI n) = true) : ∃ k, k ≤ n ∧ v = nI k := by
  unfold rng at h
  rw [Bool.and_eq_true] at h
  have h0 := of_decide_eq_true h.1
  have h1 := of_decide_eq_true h.2
  obtain ⟨k, hk, rfl⟩ := nI_of (le_n h0)
  exact ⟨k, (nI_leI hk hn).mp h1, rfl⟩
theorem rng_of {n k : Nat} (hn : n < 2 ^ 31) (h : k ≤ n) : rng 0 (nI k) (nI n) = true := by
  unfold rng
  rw [decide_eq_true (nI_pos' (by omega)), decide_eq_true (nI_le h hn)]; rfl
theorem c_X5_isPledge {M : Pl} {b : Nat} {s : Nat → Int32} {v : Int32} {w : Wd} : K_X5_isPledge [.ref b, .int v] (mz w b M s) (RI (bI (isPl s v)) (mz w b M s)) := by
  by_cases hr : rng 0 v 11 = true
  · obtain ⟨k, hk, rfl⟩ := rng_nat (n := 11) (by decide) hr
    have e : isPl s (nI k) = sThere s k := by unfold isPl; rw [hr, nI_tn (by omega)]; rfl
    rw [e]
    exact c_X5_isPledge_in (M := ua M 0 s) (by omega)
  · have hf : rng 0 v 11 = false := by cases h : rng 0 v 11 <;> simp_all
    have e : isPl s v = false := by unfold isPl; rw [hf]; rfl
    rw [e]
    refine Con.mk [some (.ref b), some (.int v)] (by decide) rfl rfl (Nat.le_of_ble_eq_true rfl) (fun X h hR hnm => ?_)
    refine V.iload1 h 1 dX5_isPledge_0 rfl (V.iconst h 2 dX5_isPledge_1 rfl ic1_0 (V.bipush h 4 dX5_isPledge_2 rfl ic2_11 (V.callSf (As := [.int _, .int _, .int _]) (st := []) h 7 dX5_isPledge_4 rfl k604 k602 k603 k6 hd_X5_in ⟨(Nat.le_of_ble_eq_true rfl), (Nat.le_of_ble_eq_true rfl)⟩ (Nat.le_of_ble_eq_true rfl) ⟨Nat.zero_le _, Nat.zero_le _⟩ c_X5_in rfl ?_)))
    refine V.bif_eq h 24 10 dX5_isPledge_7 rfl rfl (fun _ => ?_) (fun q => absurd ((Eq.symm hf).trans q) (by decide))
    refine V.iconst h 25 dX5_isPledge_24 rfl ic1_0 ?_
    refine V.zret h hR (by first | exact bI_z _ | rfl) dX5_isPledge_25 ?_
    exact RI_f rfl
theorem isPl_k {s : Nat → Int32} {v : Int32} (h : isPl s v = true) : ∃ k, k < 12 ∧ v = nI k ∧ sThere s k = true := by
  unfold isPl at h
  rw [Bool.and_eq_true] at h
  obtain ⟨k, hk, rfl⟩ := rng_nat (n := 11) (by decide) h.1
  rw [nI_tn (by omega)] at h
  exact ⟨k, by omega, rfl, h.2⟩
def mWdr (s : Nat → Int32) (x : Ex) (v : Int32) : Int32 × (Nat → Int32) :=
  if isPl s v = true then (if sCalled s v.toNatClampNeg = true then (-2, s) else (std (vP s) x 0 &&& (std (vP (fgt s v.toNatClampNeg)) x 0 ^^^ (-1)), upd (fgt s v.toNatClampNeg) 3 (s 3 + 1))) else (-1, s)
theorem vP_congr {s s' : Nat → Int32} (h : ∀ q, q ≠ 3 → s q = s' q) : ∀ f, f ≠ 15 → vP s f = vP s' f := by
  have hF : ∀ k f, sF s k f = sF s' k f := fun k f => h _ (by omega)
  have ht : ∀ k, sThere s k = sThere s' k := fun k => by unfold sThere; rw [hF]
  have hc : ∀ k, sCalled s k = sCalled s' k := fun k => by unfold sCalled; rw [hF]
  intro f hf
  funext k
  match f, hf with
  | 0, _ => exact h _ (by omega)
  | 1, _ => exact h _ (by omega)
  | 2, _ => exact mk_congr (f := fun j => decide (s (5 + 2 * j + 1) = 1)) (g := fun j => decide (s' (5 + 2 * j + 1) = 1)) fun j _ => by rw [h _ (by omega)]
  | 3, _ => exact h _ (by omega)
  | 4, _ => exact h _ (by omega)
  | 5, _ => exact h _ (by omega)
  | 6, _ => exact mk_congr (f := fun j => sThere s j && !sCalled s j) (g := fun j => sThere s' j && !sCalled s' j) fun j _ => by rw [ht, hc]
  | 7, _ => exact mk_congr (f := fun j => sThere s j && sCalled s j) (g := fun j => sThere s' j && sCalled s' j) fun j _ => by rw [ht, hc]
  | 8, _ => exact hF _ _
  | 9, _ => exact hF _ _
  | 10, _ => exact hF _ _
  | 11, _ => exact hF _ _
  | 12, _ => exact hF _ _
  | 13, _ => exact hF _ _
  | 14, _ => exact h _ (by omega)
  | 16, _ => exact h _ (by omega)
  | n + 17, _ => rfl
end
section
/-! the reference: pledges made, withdrawn, called in -/
theorem nI_lit (a c : Nat) : nI a + (OfNat.ofNat c : Int32) = nI (a + c) := nI_add a c
theorem sF_fgt {s : Nat → Int32} {v : Int32} {k j f : Nat} (hf : f < 8) (h : j ≠ k) : sF (upd (fgt s k) 3 v) j f = sF s j f := by
  unfold sF upd fgt
  rw [if_neg (by omega), if_neg (by omega)]
theorem sF_fgt0 {s : Nat → Int32} {v : Int32} {k f : Nat} (hf : f < 8) : sF (upd (fgt s k) 3 v) k f = 0 := by
  unfold sF upd fgt
  rw [if_neg (by omega), if_pos (by omega)]
theorem open_bt (s : Nat → Int32) {k : Nat} (hk : k < 12) : Bt (vP s 6 0) k = (sThere s k && !sCalled s k) := by
  show Bt (mk _ 12) k = _
  rw [bt_mk _ _ _ (by decide)]; simp [hk]
theorem called_bt (s : Nat → Int32) {k : Nat} (hk : k < 12) : Bt (vP s 7 0) k = (sThere s k && sCalled s k) := by
  show Bt (mk _ 12) k = _
  rw [bt_mk _ _ _ (by decide)]; simp [hk]
theorem open_lo (s : Nat → Int32) : lo12 (vP s 6 0) := lo12_mk _
theorem called_lo (s : Nat → Int32) : lo12 (vP s 7 0) := lo12_mk _
theorem sOK_fgt {s : Nat → Int32} {k : Nat} {v : Int32} (h : sOK s) : sOK (upd (fgt s k) 3 v) := by
  intro j hj hb
  rw [open_bt _ hj] at hb
  by_cases hjk : j = k
  · subst hjk
    unfold sThere at hb
    rw [sF_fgt0 (by decide)] at hb
    simp at hb
  · have h1 := h j hj (by
      rw [open_bt _ hj]
      unfold sThere sCalled at hb ⊢
      rw [sF_fgt (by decide) hjk, sF_fgt (by decide) hjk] at hb
      exact hb)
    unfold kOK at h1 ⊢
    show sF (upd (fgt s k) 3 v) j 4 = 0 ∨ sF (upd (fgt s k) 3 v) j 4 = 1 ∨ sF (upd (fgt s k) 3 v) j 4 = 2 ∨ sF (upd (fgt s k) 3 v) j 4 = 3 ∨ ∃ q, q < 4 ∧ sF (upd (fgt s k) 3 v) j 5 = nI q
    rw [sF_fgt (by decide) hjk, sF_fgt (by decide) hjk]
    exact h1
def sWdr (s : Nat → Int32) (k : Nat) : Nat → Int32 := upd (fgt s k) 3 (s 3 + 1)
def mWd (s : Nat → Int32) (x : Ex) (v : Int32) : Int32 × (Nat → Int32) :=
  if isPl s v = true then (if sCalled s v.toNatClampNeg = true then (-2, s) else (std (vP s) x 0 &&& (std (vP (sWdr s v.toNatClampNeg)) x 0 ^^^ (-1)), sWdr s v.toNatClampNeg)) else (-1, s)
/-- the same but for the reference's notes of waves -/
def Sc (M M' : Pl) : Prop := ∀ f, f ≠ 8 → f ≠ 9 → M' f = M f
theorem Sc.rf {M : Pl} : Sc M M := fun _ _ _ => rfl
theorem Sc.of_sc {M : Pl} {a : Int32} {f : Nat → Int32} : Sc M (sc M a f) := fun i h8 h9 => by unfold sc us ua; dsimp only; rw [if_neg h8, if_neg h9]
theorem Sc.tr {M M' M'' : Pl} (h : Sc M M') (h' : Sc M' M'') : Sc M M'' := fun f h8 h9 => (h' f h8 h9).trans (h f h8 h9)
theorem Sc.ex {M M' : Pl} (h : Sc M M') : mX M' = mX M := by
  unfold mX
  rw [h 6 (by decide) (by decide), h 7 (by decide) (by decide)]
/-- the answer exactly, the row of numbers exactly, the notes of waves anyhow -/
def RM (q : Int32 × (Nat → Int32)) (w : Wd) (b : Nat) (M : Pl) : Option Value → Wd → Prop := RE q.1 (fun u => ∃ M', Sc M M' ∧ u = mz w b M' q.2)
theorem RM_of {q : Int32 × (Nat → Int32)} {r : Int32} {s1 : Nat → Int32} {w : Wd} {b : Nat} {M M' : Pl} (h : q = (r, s1)) (hs : Sc M M') : RM q w b M (some (.int r)) (mz w b M' s1) := by rw [h]; exact ⟨rfl, M', hs, rfl⟩
theorem c_X5_withdraws {M : Pl} {b : Nat} {s : Nat → Int32} {v : Int32} {w : Wd} (hok : sOK s) : K_X5_withdraws [.ref b, .int v] (mz w b M s) (RM (mWd s (mX M) v) w b M) := by
  refine Con.mk [some (.ref b), some (.int v), none] (by decide) rfl rfl (Nat.le_of_ble_eq_true rfl) (fun X h hR hnm => ?_)
  refine V.aload0 h 1 dX5_withdraws_0 rfl (V.iload1 h 2 dX5_withdraws_1 rfl (V.callVf (As := [.int _]) (st := []) h 5 dX5_withdraws_2 rfl k679 k676 k678 ks69 k6 hd_X5_isPledge ⟨(Nat.le_of_ble_eq_true rfl), (Nat.le_of_ble_eq_true rfl)⟩ (Nat.le_of_ble_eq_true rfl) mo rfl rfl ⟨Nat.zero_le _, Nat.zero_le _⟩ c_X5_isPledge rfl ?_))
  refine V.bif_ne h 10 8 dX5_withdraws_5 rfl rfl (fun c5 => ?_) (fun c5 => ?_)
  · obtain ⟨k, hk, rfl, ht⟩ := isPl_k c5
    have hmw : mWd s (mX M) (nI k) = (if sCalled s k = true then (-2, s) else (std (vP s) (mX M) 0 &&& (std (vP (sWdr s k)) (mX M) 0 ^^^ (-1)), sWdr s k)) := by unfold mWd; rw [c5, if_pos rfl, nI_tn (by omega)]
    refine V.aload0 h 11 dX5_withdraws_10 rfl (V.iload1 h 12 dX5_withdraws_11 rfl (V.bipush h 14 dX5_withdraws_12 rfl ic2_6 (V.callVf (As := [.int _, .int _]) (st := []) h 17 dX5_withdraws_14 rfl k648 k645 k647 ks63 k6 hd_X5_of ⟨(Nat.le_of_ble_eq_true rfl), (Nat.le_of_ble_eq_true rfl)⟩ (Nat.le_of_ble_eq_true rfl) mo rfl rfl ⟨Nat.zero_le _, Nat.zero_le _⟩ (c_of 6 rfl (by omega) (by decide)) rfl (V.iconst h 18 dX5_withdraws_17 rfl ic1_1 ?_))))
    refine V.icmp_ne h 24 21 dX5_withdraws_18 rfl rfl (fun c18 => ?_) (fun c18 => ?_)
    · refine V.aload0 h 25 dX5_withdraws_24 rfl (V.iconst h 26 dX5_withdraws_25 rfl ic1_0 (V.callVf (As := [.int _]) (st := []) h 29 dX5_withdraws_26 rfl k683 k680 k682 ks70 k6 hd_X5_stands ⟨(Nat.le_of_ble_eq_true rfl), (Nat.le_of_ble_eq_true rfl)⟩ (Nat.le_of_ble_eq_true rfl) mo rfl rfl ⟨Nat.zero_le _, Nat.zero_le _⟩ (c_stands hok) rfl (V.istore2 h 30 dX5_withdraws_29 rfl rfl (V.aload0 h 31 dX5_withdraws_30 rfl (V.iload1 h 32 dX5_withdraws_31 rfl (V.callVfv (As := [.int _]) (st := []) h 35 dX5_withdraws_32 rfl k719 k716 k718 ks79 k6 hd_X5_forgets ⟨(Nat.le_of_ble_eq_true rfl), (Nat.le_of_ble_eq_true rfl)⟩ (Nat.le_of_ble_eq_true rfl) mo rfl rfl ⟨Nat.zero_le _, Nat.zero_le _⟩ (c_X5_forgets (by omega)) rfl (V.aload0 h 36 dX5_withdraws_35 rfl ?_)))))))
      refine V.gX5 h 0 39 dX5_withdraws_36 rfl rfl k544 mo rfl (V.iconst h 40 dX5_withdraws_39 rfl ic1_3 (V.dup2 h 41 dX5_withdraws_40 rfl rfl rfl (V.ialdN (i := 3) h 42 dX5_withdraws_41 rfl za1 (by omega) (by decide) (V.iconst h 43 dX5_withdraws_42 rfl ic1_1 (V.iadd h 44 dX5_withdraws_43 rfl (V.iastN (i := 3) h 45 dX5_withdraws_44 rfl za1 (by omega) (by decide) ?_))))))
      have e3 : upd (fgt s k) 3 (fgt s k 3 + 1) = sWdr s k := by unfold sWdr; rw [show fgt s k 3 = s 3 from by unfold fgt; rw [if_neg (by omega)]]
      refine V.at _ zw1 ?_
      rw [e3]
      refine V.iload2 h 46 dX5_withdraws_45 rfl (V.aload0 h 47 dX5_withdraws_46 rfl (V.iconst h 48 dX5_withdraws_47 rfl ic1_0 (V.callVf (As := [.int _]) (st := [.int _]) h 51 dX5_withdraws_48 rfl k683 k680 k682 ks70 k6 hd_X5_stands ⟨(Nat.le_of_ble_eq_true rfl), (Nat.le_of_ble_eq_true rfl)⟩ (Nat.le_of_ble_eq_true rfl) mo rfl rfl ⟨Nat.zero_le _, Nat.zero_le _⟩ (c_stands (sOK_fgt hok)) rfl (V.iconst h 52 dX5_withdraws_51 rfl ic1_m1 (V.ixor h 53 dX5_withdraws_52 rfl (V.iand h 54 dX5_withdraws_53 rfl ?_))))))
      refine V.iret h hR dX5_withdraws_54 ?_
      refine RM_of ?_ (Sc.tr Sc.of_sc Sc.of_sc)
      rw [hmw, if_neg (by unfold sCalled; simpa using c18)]
      rfl
    · refine V.bipush h 23 dX5_withdraws_21 rfl ic2_m2 ?_
      refine V.iret h hR dX5_withdraws_23 ?_
      exact RM_of (by rw [hmw, if_pos (show sCalled s k = true from decide_eq_true c18)]) Sc.rf
  · refine V.iconst h 9 dX5_withdraws_8 rfl ic1_m1 ?_
    refine V.iret h hR dX5_withdraws_9 ?_
    exact RM_of (by unfold mWd; rw [c5]; rfl) Sc.rf
theorem lf_cases (f : Nat → Bool) : ∀ (n i : Nat), lf f i n = -1 ∨ ∃ k, i ≤ k ∧ k < i + n ∧ lf f i n = nI k ∧ f k = true ∧ ∀ j, i ≤ j → j < k → f j = false
  | 0, _ => Or.inl rfl
  | n + 1, i => by
    rw [lf]
    by_cases h : f i = true
    · rw [if_pos h]
      exact Or.inr ⟨i, Nat.le_refl _, by omega, rfl, h, fun j h1 h2 => absurd h2 (by omega)⟩
    · rw [if_neg h]
      rcases lf_cases f n (i + 1) with q | ⟨k, h1, h2, h3, h4, h5⟩
      · exact Or.inl q
      · refine Or.inr ⟨k, by omega, by omega, h3, h4, fun j g1 g2 => ?_⟩
        by_cases hj : j = i
        · subst hj; simpa using h
        · exact h5 j (by omega) g2
def mSt (s : Nat → Int32) (k : Nat) (i j a kd v : Int32) : Nat → Int32 :=
  upd (upd (upd (upd (upd (upd (upd (upd (upd s (29 + 8 * k + 0) 1) (29 + 8 * k + 1) i) (29 + 8 * k + 2) j) (29 + 8 * k + 3) a) (29 + 8 * k + 4) kd) (29 + 8 * k + 5) v) (29 + 8 * k + 6) 0) (29 + 8 * k + 7) (s 2)) 2 (s 2 + 1)
def frees (s : Nat → Int32) : Int32 := lf (fun k => decide (sF s k 0 = 0)) 0 12
def mMk (s : Nat → Int32) (i j a kd v : Int32) : Int32 × (Nat → Int32) :=
  if (rng 0 i (s 1 - 1) && (rng 0 j (s 0 - 1) && (rng 1 a 999 && cOK (s 0) (s 1) i j kd v))) = true then
    (if (decide (s (5 + 2 * j.toNatClampNeg + 1) = 1) || decide (s (13 + 2 * i.toNatClampNeg) < amt (vP s) (ofP (vP s) i &&& vP s 6 0) + a)) = true then (-2, s)
     else if frees s < 0 then (-3, s) else (frees s, mSt s (frees s).toNatClampNeg i j a kd v))
  else (-1, s)
theorem rng_pred {n : Nat} {v : Int32} (hn : n < 2 ^ 31) (h : rng 0 v (nI n - 1) = true) : ∃ k, k < n ∧ v = nI k := by
  cases n with
  | zero =>
    unfold rng at h
    rw [Bool.and_eq_true] at h
    have h0 := of_decide_eq_true h.1
    have h1 := of_decide_eq_true h.2
    exact absurd (Int32.le_trans h0 h1) (by decide)
  | succ n =>
    rw [nI_pred] at h
    obtain ⟨k, hk, rfl⟩ := rng_nat (by omega) h
    exact ⟨k, by omega, rfl⟩
theorem rng_predof {n k : Nat} (hn : n < 2 ^ 31) (h : k < n) : rng 0 (nI k) (nI n - 1) = true := by
  cases n with
  | zero => omega
  | succ n => rw [nI_pred]; exact rng_of (by omega) (by omega)
theorem c_X5_makes {M : Pl} {b np nq : Nat} {s : Nat → Int32} {i j a kd v : Int32} {w : Wd} (hn : s 0 = nI np) (h4 : np ≤ 4) (hq : s 1 = nI nq) (h8 : nq ≤ 8) : K_X5_makes [.ref b, .int i, .int j, .int a, .int kd, .int v] (mz w b M s) (RI (mMk s i j a kd v).1 (mz w b M (mMk s i j a kd v).2)) := by
  refine Con.mk [some (.ref b), some (.int i), some (.int j), some (.int a), some (.int kd), some (.int v), none, none] (by decide) rfl rfl (Nat.le_of_ble_eq_true rfl) (fun X h hR hnm => ?_)
  refine V.aload0 h 1 dX5_makes_0 rfl (V.iload1 h 2 dX5_makes_1 rfl (V.callVf (As := [.int _]) (st := []) h 5 dX5_makes_2 rfl k628 k625 k627 ks58 k6 hd_X5_isPerson ⟨(Nat.le_of_ble_eq_true rfl), (Nat.le_of_ble_eq_true rfl)⟩ (Nat.le_of_ble_eq_true rfl) mo rfl rfl ⟨Nat.zero_le _, Nat.zero_le _⟩ c_isPerson rfl ?_))
  refine V.bif_eq h 40 8 dX5_makes_5 rfl rfl (fun c5 => ?_) (fun c5 => ?_)
  · refine V.iconst h 41 dX5_makes_40 rfl ic1_m1 ?_
    refine V.iret h hR dX5_makes_41 ?_
    first | exact RI_p (by unfold mMk rng; rw [c5]; rfl) | exact RI_p (by unfold mMk rng; rw [c5, c13]; rfl) | exact RI_p (by unfold mMk rng; rw [c5, c13, c24]; rfl) | exact RI_p (by unfold mMk; rw [show rng 0 i (s 1 - 1) = true from c5, show rng 0 j (s 0 - 1) = true from c13, show rng 1 a 999 = true from c24, c37]; rfl)
  · refine V.aload0 h 9 dX5_makes_8 rfl (V.iload2 h 10 dX5_makes_9 rfl (V.callVf (As := [.int _]) (st := []) h 13 dX5_makes_10 rfl k632 k629 k631 ks59 k6 hd_X5_isProject ⟨(Nat.le_of_ble_eq_true rfl), (Nat.le_of_ble_eq_true rfl)⟩ (Nat.le_of_ble_eq_true rfl) mo rfl rfl ⟨Nat.zero_le _, Nat.zero_le _⟩ c_isProject rfl ?_))
    refine V.bif_eq h 40 16 dX5_makes_13 rfl rfl (fun c13 => ?_) (fun c13 => ?_)
    · refine V.iconst h 41 dX5_makes_40 rfl ic1_m1 ?_
      refine V.iret h hR dX5_makes_41 ?_
      first | exact RI_p (by unfold mMk rng; rw [c5]; rfl) | exact RI_p (by unfold mMk rng; rw [c5, c13]; rfl) | exact RI_p (by unfold mMk rng; rw [c5, c13, c24]; rfl) | exact RI_p (by unfold mMk; rw [show rng 0 i (s 1 - 1) = true from c5, show rng 0 j (s 0 - 1) = true from c13, show rng 1 a 999 = true from c24, c37]; rfl)
    · refine V.iload3 h 17 dX5_makes_16 rfl (V.iconst h 18 dX5_makes_17 rfl ic1_1 (V.sipush h 21 dX5_makes_18 rfl ic3_999 (V.callSf (As := [.int _, .int _, .int _]) (st := []) h 24 dX5_makes_21 rfl k604 k602 k603 k6 hd_X5_in ⟨(Nat.le_of_ble_eq_true rfl), (Nat.le_of_ble_eq_true rfl)⟩ (Nat.le_of_ble_eq_true rfl) ⟨Nat.zero_le _, Nat.zero_le _⟩ c_X5_in rfl ?_)))
      refine V.bif_eq h 40 27 dX5_makes_24 rfl rfl (fun c24 => ?_) (fun c24 => ?_)
      · refine V.iconst h 41 dX5_makes_40 rfl ic1_m1 ?_
        refine V.iret h hR dX5_makes_41 ?_
        first | exact RI_p (by unfold mMk rng; rw [c5]; rfl) | exact RI_p (by unfold mMk rng; rw [c5, c13]; rfl) | exact RI_p (by unfold mMk rng; rw [c5, c13, c24]; rfl) | exact RI_p (by unfold mMk; rw [show rng 0 i (s 1 - 1) = true from c5, show rng 0 j (s 0 - 1) = true from c13, show rng 1 a 999 = true from c24, c37]; rfl)
      · refine V.aload0 h 28 dX5_makes_27 rfl (V.iload1 h 29 dX5_makes_28 rfl (V.iload2 h 30 dX5_makes_29 rfl (V.iload4 h 32 dX5_makes_30 rfl (V.iload5 h 34 dX5_makes_32 rfl (V.callVf (As := [.int _, .int _, .int _, .int _]) (st := []) h 37 dX5_makes_34 rfl k636 k633 k635 ks60 k6 hd_X5_isCondition ⟨(Nat.le_of_ble_eq_true rfl), (Nat.le_of_ble_eq_true rfl)⟩ (Nat.le_of_ble_eq_true rfl) mo rfl rfl ⟨Nat.zero_le _, Nat.zero_le _⟩ c_X5_isCondition rfl ?_)))))
        refine V.bif_ne h 42 40 dX5_makes_37 rfl rfl (fun c37 => ?_) (fun c37 => ?_)
        · obtain ⟨ii, hii, rfl⟩ := rng_pred (by omega) (show rng 0 i (nI nq - 1) = true by rw [← hq]; exact c5)
          obtain ⟨jj, hjj, rfl⟩ := rng_pred (by omega) (show rng 0 j (nI np - 1) = true by rw [← hn]; exact c13)
          have hj4 : jj < 4 := by omega
          have hmk : mMk s (nI ii) (nI jj) a kd v = (if (decide (s (5 + 2 * jj + 1) = 1) || decide (s (13 + 2 * ii) < amt (vP s) (ofP (vP s) (nI ii) &&& vP s 6 0) + a)) = true then (-2, s) else if frees s < 0 then (-3, s) else (frees s, mSt s (frees s).toNatClampNeg (nI ii) (nI jj) a kd v)) := by
            unfold mMk
            rw [show rng 0 (nI ii) (s 1 - 1) = true from c5, show rng 0 (nI jj) (s 0 - 1) = true from c13, show rng 1 a 999 = true from c24, c37, nI_tn (by omega), nI_tn (by omega)]
            rfl
          refine V.aload0 h 43 dX5_makes_42 rfl (V.iload2 h 44 dX5_makes_43 rfl (V.callVf (As := [.int _]) (st := []) h 47 dX5_makes_44 rfl k640 k637 k639 ks61 k6 hd_X5_isClosed ⟨(Nat.le_of_ble_eq_true rfl), (Nat.le_of_ble_eq_true rfl)⟩ (Nat.le_of_ble_eq_true rfl) mo rfl rfl ⟨Nat.zero_le _, Nat.zero_le _⟩ (c_isClosed (by assumption)) rfl ?_))
          refine V.bif_ne h 80 50 dX5_makes_47 rfl rfl (fun c47 => ?_) (fun c47 => ?_)
          · refine V.bipush h 82 dX5_makes_80 rfl ic2_m2 ?_
            refine V.iret h hR dX5_makes_82 ?_
            first | exact RI_p (by rw [hmk, if_pos (by rw [c47]; rfl)]) | exact RI_p (by rw [hmk, if_pos (by rw [c47, decide_eq_true (nle c77)]; rfl)])
          · refine V.aload0 h 51 dX5_makes_50 rfl (V.gX5 h 0 54 dX5_makes_51 rfl rfl k544 mo rfl (V.bipush h 56 dX5_makes_54 rfl ic2_13 (V.iconst h 57 dX5_makes_56 rfl ic1_2 (V.iload1 h 58 dX5_makes_57 rfl (V.imul h 59 dX5_makes_58 rfl (V.iadd h 60 dX5_makes_59 rfl ?_))))))
            rw [show (13 : Int32) + 2 * nI ii = nI (13 + 2 * ii) by rw [lit, lit, pk_mul, nI_add]]
            refine V.ialdN h 61 dX5_makes_60 rfl za1 (by omega) (by decide) (V.aload0 h 62 dX5_makes_61 rfl (V.aload0 h 63 dX5_makes_62 rfl (V.iload1 h 64 dX5_makes_63 rfl (V.callVf (As := [.int _]) (st := [.ref _, .int _]) h 67 dX5_makes_64 rfl k644 k641 k643 ks62 k6 hd_X5_ofPerson ⟨(Nat.le_of_ble_eq_true rfl), (Nat.le_of_ble_eq_true rfl)⟩ (Nat.le_of_ble_eq_true rfl) mo rfl rfl ⟨Nat.zero_le _, Nat.zero_le _⟩ c_ofPerson rfl (V.aload0 h 68 dX5_makes_67 rfl (V.callVf (As := []) (st := [.int _, .ref _, .int _]) h 71 dX5_makes_68 rfl k652 k649 k651 ks64 k6 hd_X5_open ⟨(Nat.le_of_ble_eq_true rfl), (Nat.le_of_ble_eq_true rfl)⟩ (Nat.le_of_ble_eq_true rfl) mo rfl rfl ⟨Nat.zero_le _, Nat.zero_le _⟩ c_open rfl (V.iand h 72 dX5_makes_71 rfl ?_)))))))
            refine V.callVf (As := [.int _]) (st := [.int _]) h 75 dX5_makes_72 rfl k660 k657 k659 ks66 k6 hd_X5_amountOf ⟨(Nat.le_of_ble_eq_true rfl), (Nat.le_of_ble_eq_true rfl)⟩ (Nat.le_of_ble_eq_true rfl) mo rfl rfl ⟨Nat.zero_le _, Nat.zero_le _⟩ c_amountOf rfl (V.iload3 h 76 dX5_makes_75 rfl (V.iadd h 77 dX5_makes_76 rfl ?_))
            refine V.icmp_ge h 83 80 dX5_makes_77 rfl rfl (fun c77 => ?_) (fun c77 => ?_)
            · refine V.aload0 h 84 dX5_makes_83 rfl (V.callVf (As := []) (st := []) h 87 dX5_makes_84 rfl k667 k664 k666 ks67 k6 hd_X5_lowestFree ⟨(Nat.le_of_ble_eq_true rfl), (Nat.le_of_ble_eq_true rfl)⟩ (Nat.le_of_ble_eq_true rfl) mo rfl rfl ⟨Nat.zero_le _, Nat.zero_le _⟩ c_X5_lowestFree rfl ?_)
              rw [show lf (fun k => decide (sF s k 0 = 0)) 0 12 = frees s from rfl]
              refine V.istore6 h 89 dX5_makes_87 rfl rfl (V.iload6 h 91 dX5_makes_89 rfl ?_)
              refine V.if_ge h 97 94 dX5_makes_91 rfl rfl (fun c91 => ?_) (fun c91 => ?_)
              · obtain ⟨k, -, hk, hkf, hk1, hk2⟩ : ∃ k, 0 ≤ k ∧ k < 0 + 12 ∧ frees s = nI k ∧ decide (sF s k 0 = 0) = true ∧ ∀ j, 0 ≤ j → j < k → decide (sF s j 0 = 0) = false := by
                  rcases lf_cases (fun k => decide (sF s k 0 = 0)) 12 0 with q | q
                  · exact absurd (show (0 : Int32) ≤ -1 by rw [← q]; exact c91) (by decide)
                  · exact q
                have hmk2 : mMk s (nI ii) (nI jj) a kd v = (nI k, mSt s k (nI ii) (nI jj) a kd v) := by
                  rw [hmk, if_neg (by rw [c47, decide_eq_false (le_n c77)]; decide), if_neg (le_n c91), hkf, nI_tn (by omega)]
                rw [hkf]
                refine V.bipush h 99 dX5_makes_97 rfl ic2_29 (V.bipush h 101 dX5_makes_99 rfl ic2_8 (V.iload6 h 103 dX5_makes_101 rfl (V.imul h 104 dX5_makes_103 rfl (V.iadd h 105 dX5_makes_104 rfl ?_))))
                rw [show (29 : Int32) + 8 * nI k = nI (29 + 8 * k) by rw [lit, lit, pk_mul, nI_add]]
                refine V.istore7 h 107 dX5_makes_105 rfl rfl (V.aload0 h 108 dX5_makes_107 rfl (V.gX5 h 0 111 dX5_makes_108 rfl rfl k544 mo rfl (V.iload7 h 113 dX5_makes_111 rfl (V.iconst h 114 dX5_makes_113 rfl ic1_0 (V.iadd h 115 dX5_makes_114 rfl ?_)))))
                rw [show nI (29 + 8 * k) + (0 : Int32) = nI (29 + 8 * k + 0) from nI_lit _ 0]
                refine V.iconst h 116 dX5_makes_115 rfl ic1_1 (V.iastN h 117 dX5_makes_116 rfl za1 (by omega) (by decide) (V.at _ zw1 (V.aload0 h 118 dX5_makes_117 rfl (V.gX5 h 0 121 dX5_makes_118 rfl rfl k544 mo rfl (V.iload7 h 123 dX5_makes_121 rfl (V.iconst h 124 dX5_makes_123 rfl ic1_1 (V.iadd h 125 dX5_makes_124 rfl ?_)))))))
                rw [show nI (29 + 8 * k) + (1 : Int32) = nI (29 + 8 * k + 1) from nI_lit _ 1]
                refine V.iload1 h 126 dX5_makes_125 rfl (V.iastN h 127 dX5_makes_126 rfl za1 (by omega) (by decide) (V.at _ zw1 (V.aload0 h 128 dX5_makes_127 rfl (V.gX5 h 0 131 dX5_makes_128 rfl rfl k544 mo rfl (V.iload7 h 133 dX5_makes_131 rfl (V.iconst h 134 dX5_makes_133 rfl ic1_2 (V.iadd h 135 dX5_makes_134 rfl ?_)))))))
                rw [show nI (29 + 8 * k) + (2 : Int32) = nI (29 + 8 * k + 2) from nI_lit _ 2]
                refine V.iload2 h 136 dX5_makes_135 rfl (V.iastN h 137 dX5_makes_136 rfl za1 (by omega) (by decide) (V.at _ zw1 (V.aload0 h 138 dX5_makes_137 rfl (V.gX5 h 0 141 dX5_makes_138 rfl rfl k544 mo rfl (V.iload7 h 143 dX5_makes_141 rfl (V.iconst h 144 dX5_makes_143 rfl ic1_3 (V.iadd h 145 dX5_makes_144 rfl ?_)))))))
                rw [show nI (29 + 8 * k) + (3 : Int32) = nI (29 + 8 * k + 3) from nI_lit _ 3]
                refine V.iload3 h 146 dX5_makes_145 rfl (V.iastN h 147 dX5_makes_146 rfl za1 (by omega) (by decide) (V.at _ zw1 (V.aload0 h 148 dX5_makes_147 rfl (V.gX5 h 0 151 dX5_makes_148 rfl rfl k544 mo rfl (V.iload7 h 153 dX5_makes_151 rfl (V.iconst h 154 dX5_makes_153 rfl ic1_4 (V.iadd h 155 dX5_makes_154 rfl ?_)))))))
                refine V.iload4 h 157 dX5_makes_155 rfl ?_
                rw [show nI (29 + 8 * k) + (4 : Int32) = nI (29 + 8 * k + 4) from nI_lit _ 4]
                refine V.iastN h 158 dX5_makes_157 rfl za1 (by omega) (by decide) (V.at _ zw1 (V.aload0 h 159 dX5_makes_158 rfl (V.gX5 h 0 162 dX5_makes_159 rfl rfl k544 mo rfl (V.iload7 h 164 dX5_makes_162 rfl (V.iconst h 165 dX5_makes_164 rfl ic1_5 (V.iadd h 166 dX5_makes_165 rfl ?_))))))
                rw [show nI (29 + 8 * k) + (5 : Int32) = nI (29 + 8 * k + 5) from nI_lit _ 5]
                refine V.iload5 h 168 dX5_makes_166 rfl (V.iastN h 169 dX5_makes_168 rfl za1 (by omega) (by decide) (V.at _ zw1 (V.aload0 h 170 dX5_makes_169 rfl (V.gX5 h 0 173 dX5_makes_170 rfl rfl k544 mo rfl (V.iload7 h 175 dX5_makes_173 rfl (V.bipush h 177 dX5_makes_175 rfl ic2_6 (V.iadd h 178 dX5_makes_177 rfl ?_)))))))
                rw [show nI (29 + 8 * k) + (6 : Int32) = nI (29 + 8 * k + 6) from nI_lit _ 6]
                refine V.iconst h 179 dX5_makes_178 rfl ic1_0 (V.iastN h 180 dX5_makes_179 rfl za1 (by omega) (by decide) (V.at _ zw1 (V.aload0 h 181 dX5_makes_180 rfl (V.gX5 h 0 184 dX5_makes_181 rfl rfl k544 mo rfl (V.iload7 h 186 dX5_makes_184 rfl (V.bipush h 188 dX5_makes_186 rfl ic2_7 (V.iadd h 189 dX5_makes_188 rfl ?_)))))))
                rw [show nI (29 + 8 * k) + (7 : Int32) = nI (29 + 8 * k + 7) from nI_lit _ 7]
                refine V.aload0 h 190 dX5_makes_189 rfl (V.gX5 h 0 193 dX5_makes_190 rfl rfl k544 mo rfl (V.iconst h 194 dX5_makes_193 rfl ic1_2 (V.ialdN (i := 2) h 195 dX5_makes_194 rfl za1 (by omega) (by decide) ?_)))
                have e2 : ∀ (s1 : Nat → Int32) (c : Nat) (x : Int32), upd s1 (29 + 8 * k + c) x 2 = s1 2 := fun s1 c x => by unfold upd; rw [if_neg (by omega)]
                rw [e2, e2, e2, e2, e2, e2, e2]
                refine V.iastN h 196 dX5_makes_195 rfl za1 (by omega) (by decide) (V.at _ zw1 (V.aload0 h 197 dX5_makes_196 rfl (V.gX5 h 0 200 dX5_makes_197 rfl rfl k544 mo rfl (V.iconst h 201 dX5_makes_200 rfl ic1_2 (V.dup2 h 202 dX5_makes_201 rfl rfl rfl (V.ialdN (i := 2) h 203 dX5_makes_202 rfl za1 (by omega) (by decide) ?_))))))
                rw [e2, e2, e2, e2, e2, e2, e2, e2]
                refine V.iconst h 204 dX5_makes_203 rfl ic1_1 (V.iadd h 205 dX5_makes_204 rfl (V.iastN (i := 2) h 206 dX5_makes_205 rfl za1 (by omega) (by decide) (V.at _ zw1 (V.iload6 h 208 dX5_makes_206 rfl ?_))))
                refine V.iret h hR dX5_makes_208 ?_
                exact RI_p (by rw [hmk2]; rfl)
              · refine V.bipush h 96 dX5_makes_94 rfl ic2_m3 ?_
                refine V.iret h hR dX5_makes_96 ?_
                exact RI_p (by rw [hmk, if_neg (by rw [c47, decide_eq_false (le_n c77)]; decide), if_pos (nle c91)])
            · refine V.bipush h 82 dX5_makes_80 rfl ic2_m2 ?_
              refine V.iret h hR dX5_makes_82 ?_
              first | exact RI_p (by rw [hmk, if_pos (by rw [c47]; rfl)]) | exact RI_p (by rw [hmk, if_pos (by rw [c47, decide_eq_true (nle c77)]; rfl)])
        · refine V.iconst h 41 dX5_makes_40 rfl ic1_m1 ?_
          refine V.iret h hR dX5_makes_41 ?_
          first | exact RI_p (by unfold mMk rng; rw [c5]; rfl) | exact RI_p (by unfold mMk rng; rw [c5, c13]; rfl) | exact RI_p (by unfold mMk rng; rw [c5, c13, c24]; rfl) | exact RI_p (by unfold mMk; rw [show rng 0 i (s 1 - 1) = true from c5, show rng 0 j (s 0 - 1) = true from c13, show rng 1 a 999 = true from c24, c37]; rfl)
end
section
/-! the reference: a project called in -/
def mPay (s : Nat → Int32) (k i : Nat) : Nat → Int32 :=
  upd (upd (upd s (29 + 8 * k + 6) 1) (13 + 2 * i) (s (13 + 2 * i) - sF s k 3)) (13 + 2 * i + 1) (s (13 + 2 * i + 1) + sF s k 3)
def mStep (s : Nat → Int32) (A S : Int32) (k : Nat) : Nat → Int32 :=
  if Bt (A &&& S) k = true then mPay s k (sF s k 1).toNatClampNeg
  else if Bt A k = true then fgt s k else s
def mCl (s : Nat → Int32) (A S : Int32) : Nat → (Nat → Int32)
  | 0 => s
  | n + 1 => mStep (mCl s A S n) A S n
/-- the givers of a set are persons -/
def gOK (s : Nat → Int32) (T : Int32) : Prop := ∀ k, k < 12 → Bt T k = true → ∃ i, i < 8 ∧ sF s k 1 = nI i
theorem sF_pay {s : Nat → Int32} {k i j f : Nat} (hi : i < 8) (hf : f < 8) (h : j ≠ k ∨ f ≠ 6) : sF (mPay s k i) j f = sF s j f := by
  unfold sF mPay upd
  rw [if_neg (by omega), if_neg (by omega), if_neg (by omega)]
theorem mCl_slot {s : Nat → Int32} {A S : Int32} (hg : gOK s (A &&& S)) : ∀ {n : Nat}, n ≤ 12 → ∀ j, n ≤ j → ∀ f, f < 8 → sF (mCl s A S n) j f = sF s j f
  | 0, _, _, _, _, _ => rfl
  | n + 1, hn, j, hj, f, hf => by
    have ih := mCl_slot hg (n := n) (by omega)
    show sF (mStep (mCl s A S n) A S n) j f = _
    unfold mStep
    by_cases h1 : Bt (A &&& S) n = true
    · rw [if_pos h1, ih n (Nat.le_refl _) 1 (by decide)]
      obtain ⟨i, hi, e⟩ := hg n (by omega) h1
      rw [e, nI_tn (by omega), sF_pay hi hf (Or.inl (by omega))]
      exact ih j (by omega) f hf
    · rw [if_neg h1]
      by_cases h2 : Bt A n = true
      · rw [if_pos h2]
        unfold sF fgt
        rw [if_neg (by omega)]
        exact ih j (by omega) f hf
      · rw [if_neg h2]
        exact ih j (by omega) f hf
def mCa (s : Nat → Int32) (x : Ex) (v : Int32) : Int32 × (Nat → Int32) :=
  if rng 0 v (s 0 - 1) = true then
    (if (decide (s (5 + 2 * v.toNatClampNeg + 1) = 1) || !hasG (vP s) x (std (vP s) x 0) v) = true then (-2, s)
     else (sm (fun k => if Bt (forP (vP s) v &&& std (vP s) x 0) k = true then sF s k 3 else 0) 12,
       upd (upd (mCl s (forP (vP s) v) (std (vP s) x 0) 12) (5 + 2 * v.toNatClampNeg + 1) 1) 4 (mCl s (forP (vP s) v) (std (vP s) x 0) 12 4 + sm (fun k => if Bt (forP (vP s) v &&& std (vP s) x 0) k = true then sF s k 3 else 0) 12)))
  else (-1, s)
theorem c_X5_calls {M : Pl} {b np : Nat} {s : Nat → Int32} {v : Int32} {w : Wd} (hok : sOK s) (hn : s 0 = nI np) (h4 : np ≤ 4) (hg : ∀ j, gOK s (forP (vP s) (nI j) &&& std (vP s) (mX M) 0)) : K_X5_calls [.ref b, .int v] (mz w b M s) (RM (mCa s (mX M) v) w b M) := by
  refine Con.mk [some (.ref b), some (.int v), none, none, none, none] (by decide) rfl rfl (Nat.le_of_ble_eq_true rfl) (fun X h hR hnm => ?_)
  have L : ∀ (M' : Pl) (jj : Nat) (A S : Int32), gOK s (A &&& S) → ∀ (d n : Nat) (t : Int32), n + d = 12 → t = sm (fun k => if Bt (A &&& S) k = true then sF s k 3 else 0) n →
      (∀ t : Int32, t = sm (fun k => if Bt (A &&& S) k = true then sF s k 3 else 0) 12 → V X 0 0 175 [some (.ref b), some (.int (nI jj)), some (.int S), some (.int A), some (.int t), some (.int (nI 12))] [] (mz w b M' (mCl s A S 12))) →
      V X 0 0 48 [some (.ref b), some (.int (nI jj)), some (.int S), some (.int A), some (.int t), some (.int (nI n))] [] (mz w b M' (mCl s A S n)) := by
    intro M' jj A S hgS d
    induction d with
    | zero =>
      intro n t hnd ht k
      obtain rfl : n = 12 := by omega
      refine V.iload5 h 50 dX5_calls_48 rfl (V.bipush h 52 dX5_calls_50 rfl ic2_12 ?_)
      refine V.icmp_ge h 175 55 dX5_calls_52 rfl rfl (fun _ => ?_) (fun q => absurd (lp_out (n := 12)) q)
      exact k t ht
    | succ d ih =>
      intro n t hnd ht k
      have hsl := mCl_slot hgS (n := n) (by omega) n (Nat.le_refl _)
      refine V.iload5 h 50 dX5_calls_48 rfl (V.bipush h 52 dX5_calls_50 rfl ic2_12 ?_)
      refine V.icmp_ge h 175 55 dX5_calls_52 rfl rfl (fun q => absurd q (lp_in (n := 12) (by omega))) (fun _ => ?_)
      refine V.iload3 h 56 dX5_calls_55 rfl (V.iload2 h 57 dX5_calls_56 rfl (V.iand h 58 dX5_calls_57 rfl (V.iload5 h 60 dX5_calls_58 rfl (V.callSf (As := [.int _, .int _]) (st := []) h 63 dX5_calls_60 rfl k663 k661 k662 k6 hd_X5_has ⟨(Nat.le_of_ble_eq_true rfl), (Nat.le_of_ble_eq_true rfl)⟩ (Nat.le_of_ble_eq_true rfl) ⟨Nat.zero_le _, Nat.zero_le _⟩ (c_X5_has (by omega)) rfl ?_))))
      refine V.bif_eq h 154 66 dX5_calls_63 rfl rfl (fun c63 => ?_) (fun c63 => ?_)
      · refine V.iload3 h 155 dX5_calls_154 rfl (V.iload5 h 157 dX5_calls_155 rfl (V.callSf (As := [.int _, .int _]) (st := []) h 160 dX5_calls_157 rfl k663 k661 k662 k6 hd_X5_has ⟨(Nat.le_of_ble_eq_true rfl), (Nat.le_of_ble_eq_true rfl)⟩ (Nat.le_of_ble_eq_true rfl) ⟨Nat.zero_le _, Nat.zero_le _⟩ (c_X5_has (by omega)) rfl ?_))
        refine V.bif_eq h 169 163 dX5_calls_160 rfl rfl (fun c160 => ?_) (fun c160 => ?_)
        · refine V.incN5 h 172 dX5_calls_169 rfl rfl (V.goto h 48 dX5_calls_172 rfl ?_)
          first
          | (refine V.at _ (congrArg (fun z => mz w b M' z) (show _ = mCl s A S (n + 1) by rw [est]; unfold mPay; rw [hsl 3 (by decide)])) ?_; exact ih (n + 1) _ (by omega) (stp0 ht (by rw [if_pos c63])) k)
          | (refine V.at _ (congrArg (fun z => mz w b M' z) (show fgt (mCl s A S n) n = mCl s A S (n + 1) by show _ = mStep _ A S n; unfold mStep; rw [if_neg (by rw [c63]; decide), if_pos c160])) ?_; exact ih (n + 1) t (by omega) (by rw [ht, sm_s, if_neg (by rw [c63]; decide), Int32.add_zero]) k)
          | (refine V.at _ (congrArg (fun z => mz w b M' z) (show mCl s A S n = mCl s A S (n + 1) by show _ = mStep _ A S n; unfold mStep; rw [if_neg (by rw [c63]; decide), if_neg (by rw [c160]; decide)])) ?_; exact ih (n + 1) t (by omega) (by rw [ht, sm_s, if_neg (by rw [c63]; decide), Int32.add_zero]) k)
        · refine V.aload0 h 164 dX5_calls_163 rfl (V.iload5 h 166 dX5_calls_164 rfl (V.callVfv (As := [.int _]) (st := []) h 169 dX5_calls_166 rfl k719 k716 k718 ks79 k6 hd_X5_forgets ⟨(Nat.le_of_ble_eq_true rfl), (Nat.le_of_ble_eq_true rfl)⟩ (Nat.le_of_ble_eq_true rfl) mo rfl rfl ⟨Nat.zero_le _, Nat.zero_le _⟩ (c_X5_forgets (by omega)) rfl (V.incN5 h 172 dX5_calls_169 rfl rfl (V.goto h 48 dX5_calls_172 rfl ?_))))
          first
          | (refine V.at _ (congrArg (fun z => mz w b M' z) (show _ = mCl s A S (n + 1) by rw [est]; unfold mPay; rw [hsl 3 (by decide)])) ?_; exact ih (n + 1) _ (by omega) (stp0 ht (by rw [if_pos c63])) k)
          | (refine V.at _ (congrArg (fun z => mz w b M' z) (show fgt (mCl s A S n) n = mCl s A S (n + 1) by show _ = mStep _ A S n; unfold mStep; rw [if_neg (by rw [c63]; decide), if_pos c160])) ?_; exact ih (n + 1) t (by omega) (by rw [ht, sm_s, if_neg (by rw [c63]; decide), Int32.add_zero]) k)
          | (refine V.at _ (congrArg (fun z => mz w b M' z) (show mCl s A S n = mCl s A S (n + 1) by show _ = mStep _ A S n; unfold mStep; rw [if_neg (by rw [c63]; decide), if_neg (by rw [c160]; decide)])) ?_; exact ih (n + 1) t (by omega) (by rw [ht, sm_s, if_neg (by rw [c63]; decide), Int32.add_zero]) k)
      · obtain ⟨i, hi, e1⟩ := hgS n (by omega) c63
        have est : mCl s A S (n + 1) = mPay (mCl s A S n) n i := by
          show mStep (mCl s A S n) A S n = _
          unfold mStep
          rw [if_pos c63, hsl 1 (by decide), e1, nI_tn (by omega)]
        have u1 : ∀ f, f < 6 → sF (upd (mCl s A S n) (29 + 8 * n + 6) 1) n f = sF s n f := by
          intro f hf
          refine Eq.trans ?_ (hsl f (by omega))
          unfold sF upd
          rw [if_neg (by omega)]
        have u2 : ∀ f x, f < 6 → sF (upd (upd (mCl s A S n) (29 + 8 * n + 6) 1) (13 + 2 * i) x) n f = sF s n f := by
          intro f x hf
          refine Eq.trans ?_ (u1 f hf)
          unfold sF upd
          rw [if_neg (by omega), if_neg (by omega)]
        have u3 : ∀ f x y, f < 6 → sF (upd (upd (upd (mCl s A S n) (29 + 8 * n + 6) 1) (13 + 2 * i) x) (13 + 2 * i + 1) y) n f = sF s n f := by
          intro f x y hf
          refine Eq.trans ?_ (u2 f x hf)
          unfold sF upd
          rw [if_neg (by omega), if_neg (by omega), if_neg (by omega)]
        have v1 : upd (mCl s A S n) (29 + 8 * n + 6) 1 (13 + 2 * i) = mCl s A S n (13 + 2 * i) := by unfold upd; rw [if_neg (by omega)]
        have v2 : ∀ x, upd (upd (mCl s A S n) (29 + 8 * n + 6) 1) (13 + 2 * i) x (13 + 2 * i + 1) = mCl s A S n (13 + 2 * i + 1) := by intro x; unfold upd; rw [if_neg (by omega), if_neg (by omega)]
        refine V.aload0 h 67 dX5_calls_66 rfl (V.gX5 h 0 70 dX5_calls_67 rfl rfl k544 mo rfl (V.bipush h 72 dX5_calls_70 rfl ic2_29 (V.bipush h 74 dX5_calls_72 rfl ic2_8 (V.iload5 h 76 dX5_calls_74 rfl (V.imul h 77 dX5_calls_76 rfl (V.iadd h 78 dX5_calls_77 rfl (V.bipush h 80 dX5_calls_78 rfl ic2_6 ?_)))))))
        refine V.iadd h 81 dX5_calls_80 rfl ?_
        rw [show (29 : Int32) + 8 * nI n + 6 = nI (29 + 8 * n + 6) by rw [lit, lit, lit, pk_mul, nI_add, nI_add]]
        refine V.iconst h 82 dX5_calls_81 rfl ic1_1 (V.iastN h 83 dX5_calls_82 rfl za1 (by omega) (by decide) (V.at _ zw1 (V.aload0 h 84 dX5_calls_83 rfl (V.gX5 h 0 87 dX5_calls_84 rfl rfl k544 mo rfl (V.bipush h 89 dX5_calls_87 rfl ic2_13 (V.iconst h 90 dX5_calls_89 rfl ic1_2 (V.aload0 h 91 dX5_calls_90 rfl ?_)))))))
        refine V.iload5 h 93 dX5_calls_91 rfl (V.iconst h 94 dX5_calls_93 rfl ic1_1 (V.callVf (As := [.int _, .int _]) (st := [.int _, .int _, .ref _]) h 97 dX5_calls_94 rfl k648 k645 k647 ks63 k6 hd_X5_of ⟨(Nat.le_of_ble_eq_true rfl), (Nat.le_of_ble_eq_true rfl)⟩ (Nat.le_of_ble_eq_true rfl) mo rfl rfl ⟨Nat.zero_le _, Nat.zero_le _⟩ (c_of 1 rfl (by omega) (by decide)) rfl ?_))
        rw [u1 1 (by decide), e1]
        refine V.imul h 98 dX5_calls_97 rfl (V.iadd h 99 dX5_calls_98 rfl ?_)
        rw [show (13 : Int32) + 2 * nI i = nI (13 + 2 * i) by rw [lit, lit, pk_mul, nI_add]]
        refine V.dup2 h 100 dX5_calls_99 rfl rfl rfl (V.ialdN h 101 dX5_calls_100 rfl za1 (by omega) (by decide) ?_)
        rw [v1]
        refine V.aload0 h 102 dX5_calls_101 rfl (V.iload5 h 104 dX5_calls_102 rfl (V.iconst h 105 dX5_calls_104 rfl ic1_3 (V.callVf (As := [.int _, .int _]) (st := [.int _, .int _, .ref _]) h 108 dX5_calls_105 rfl k648 k645 k647 ks63 k6 hd_X5_of ⟨(Nat.le_of_ble_eq_true rfl), (Nat.le_of_ble_eq_true rfl)⟩ (Nat.le_of_ble_eq_true rfl) mo rfl rfl ⟨Nat.zero_le _, Nat.zero_le _⟩ (c_of 3 rfl (by omega) (by decide)) rfl ?_)))
        rw [u1 3 (by decide)]
        refine V.isub h 109 dX5_calls_108 rfl (V.iastN h 110 dX5_calls_109 rfl za1 (by omega) (by decide) (V.at _ zw1 (V.aload0 h 111 dX5_calls_110 rfl (V.gX5 h 0 114 dX5_calls_111 rfl rfl k544 mo rfl (V.bipush h 116 dX5_calls_114 rfl ic2_13 (V.iconst h 117 dX5_calls_116 rfl ic1_2 (V.aload0 h 118 dX5_calls_117 rfl ?_)))))))
        refine V.iload5 h 120 dX5_calls_118 rfl (V.iconst h 121 dX5_calls_120 rfl ic1_1 (V.callVf (As := [.int _, .int _]) (st := [.int _, .int _, .ref _]) h 124 dX5_calls_121 rfl k648 k645 k647 ks63 k6 hd_X5_of ⟨(Nat.le_of_ble_eq_true rfl), (Nat.le_of_ble_eq_true rfl)⟩ (Nat.le_of_ble_eq_true rfl) mo rfl rfl ⟨Nat.zero_le _, Nat.zero_le _⟩ (c_of 1 rfl (by omega) (by decide)) rfl ?_))
        rw [u2 1 _ (by decide), e1]
        refine V.imul h 125 dX5_calls_124 rfl (V.iadd h 126 dX5_calls_125 rfl (V.iconst h 127 dX5_calls_126 rfl ic1_1 (V.iadd h 128 dX5_calls_127 rfl ?_)))
        rw [show (13 : Int32) + 2 * nI i + 1 = nI (13 + 2 * i + 1) by rw [lit, lit, lit, pk_mul, nI_add, nI_add]]
        refine V.dup2 h 129 dX5_calls_128 rfl rfl rfl (V.ialdN h 130 dX5_calls_129 rfl za1 (by omega) (by decide) ?_)
        rw [v2]
        refine V.aload0 h 131 dX5_calls_130 rfl (V.iload5 h 133 dX5_calls_131 rfl (V.iconst h 134 dX5_calls_133 rfl ic1_3 (V.callVf (As := [.int _, .int _]) (st := [.int _, .int _, .ref _]) h 137 dX5_calls_134 rfl k648 k645 k647 ks63 k6 hd_X5_of ⟨(Nat.le_of_ble_eq_true rfl), (Nat.le_of_ble_eq_true rfl)⟩ (Nat.le_of_ble_eq_true rfl) mo rfl rfl ⟨Nat.zero_le _, Nat.zero_le _⟩ (c_of 3 rfl (by omega) (by decide)) rfl ?_)))
        rw [u2 3 _ (by decide)]
        refine V.iadd h 138 dX5_calls_137 rfl (V.iastN h 139 dX5_calls_138 rfl za1 (by omega) (by decide) (V.at _ zw1 (V.iload4 h 141 dX5_calls_139 rfl (V.aload0 h 142 dX5_calls_141 rfl (V.iload5 h 144 dX5_calls_142 rfl (V.iconst h 145 dX5_calls_144 rfl ic1_3 (V.callVf (As := [.int _, .int _]) (st := [.int _]) h 148 dX5_calls_145 rfl k648 k645 k647 ks63 k6 hd_X5_of ⟨(Nat.le_of_ble_eq_true rfl), (Nat.le_of_ble_eq_true rfl)⟩ (Nat.le_of_ble_eq_true rfl) mo rfl rfl ⟨Nat.zero_le _, Nat.zero_le _⟩ (c_of 3 rfl (by omega) (by decide)) rfl ?_)))))))
        rw [u3 3 _ _ (by decide)]
        refine V.iadd h 149 dX5_calls_148 rfl (V.istore4 h 151 dX5_calls_149 rfl rfl (V.goto h 169 dX5_calls_151 rfl (V.incN5 h 172 dX5_calls_169 rfl rfl (V.goto h 48 dX5_calls_172 rfl ?_))))
        first
        | (refine V.at _ (congrArg (fun z => mz w b M' z) (show _ = mCl s A S (n + 1) by rw [est]; unfold mPay; rw [hsl 3 (by decide)])) ?_; exact ih (n + 1) _ (by omega) (stp0 ht (by rw [if_pos c63])) k)
        | (refine V.at _ (congrArg (fun z => mz w b M' z) (show fgt (mCl s A S n) n = mCl s A S (n + 1) by show _ = mStep _ A S n; unfold mStep; rw [if_neg (by rw [c63]; decide), if_pos c160])) ?_; exact ih (n + 1) t (by omega) (by rw [ht, sm_s, if_neg (by rw [c63]; decide), Int32.add_zero]) k)
        | (refine V.at _ (congrArg (fun z => mz w b M' z) (show mCl s A S n = mCl s A S (n + 1) by show _ = mStep _ A S n; unfold mStep; rw [if_neg (by rw [c63]; decide), if_neg (by rw [c160]; decide)])) ?_; exact ih (n + 1) t (by omega) (by rw [ht, sm_s, if_neg (by rw [c63]; decide), Int32.add_zero]) k)
  refine V.aload0 h 1 dX5_calls_0 rfl (V.iload1 h 2 dX5_calls_1 rfl (V.callVf (As := [.int _]) (st := []) h 5 dX5_calls_2 rfl k632 k629 k631 ks59 k6 hd_X5_isProject ⟨(Nat.le_of_ble_eq_true rfl), (Nat.le_of_ble_eq_true rfl)⟩ (Nat.le_of_ble_eq_true rfl) mo rfl rfl ⟨Nat.zero_le _, Nat.zero_le _⟩ c_isProject rfl ?_))
  refine V.bif_ne h 10 8 dX5_calls_5 rfl rfl (fun c5 => ?_) (fun c5 => ?_)
  · obtain ⟨jj, hjj, rfl⟩ := rng_pred (by omega) (show rng 0 v (nI np - 1) = true by rw [← hn]; exact c5)
    have hj4 : jj < 4 := by omega
    have hmk : mCa s (mX M) (nI jj) = (if (decide (s (5 + 2 * jj + 1) = 1) || !hasG (vP s) (mX M) (std (vP s) (mX M) 0) (nI jj)) = true then (-2, s) else (sm (fun k => if Bt (forP (vP s) (nI jj) &&& std (vP s) (mX M) 0) k = true then sF s k 3 else 0) 12, upd (upd (mCl s (forP (vP s) (nI jj)) (std (vP s) (mX M) 0) 12) (5 + 2 * jj + 1) 1) 4 (mCl s (forP (vP s) (nI jj)) (std (vP s) (mX M) 0) 12 4 + sm (fun k => if Bt (forP (vP s) (nI jj) &&& std (vP s) (mX M) 0) k = true then sF s k 3 else 0) 12))) := by
      unfold mCa
      rw [show rng 0 (nI jj) (s 0 - 1) = true from c5, nI_tn (by omega)]
      rfl
    refine V.aload0 h 11 dX5_calls_10 rfl (V.iconst h 12 dX5_calls_11 rfl ic1_0 (V.callVf (As := [.int _]) (st := []) h 15 dX5_calls_12 rfl k683 k680 k682 ks70 k6 hd_X5_stands ⟨(Nat.le_of_ble_eq_true rfl), (Nat.le_of_ble_eq_true rfl)⟩ (Nat.le_of_ble_eq_true rfl) mo rfl rfl ⟨Nat.zero_le _, Nat.zero_le _⟩ (c_stands hok) rfl (V.istore2 h 16 dX5_calls_15 rfl rfl (V.aload0 h 17 dX5_calls_16 rfl (V.iload1 h 18 dX5_calls_17 rfl (V.callVf (As := [.int _]) (st := []) h 21 dX5_calls_18 rfl k640 k637 k639 ks61 k6 hd_X5_isClosed ⟨(Nat.le_of_ble_eq_true rfl), (Nat.le_of_ble_eq_true rfl)⟩ (Nat.le_of_ble_eq_true rfl) mo rfl rfl ⟨Nat.zero_le _, Nat.zero_le _⟩ (c_isClosed (by assumption)) rfl ?_))))))
    refine V.bif_ne h 33 24 dX5_calls_21 rfl rfl (fun c21 => ?_) (fun c21 => ?_)
    · refine V.bipush h 35 dX5_calls_33 rfl ic2_m2 ?_
      refine V.iret h hR dX5_calls_35 ?_
      first | exact RM_of (by rw [hmk, c21]; rfl) Sc.of_sc | exact RM_of (by rw [hmk, show hasG (vP s) (mX M) (std (vP s) (mX M) 0) (nI jj) = false from c30, Bool.not_false, Bool.or_true]; rfl) Sc.of_sc
    · refine V.aload0 h 25 dX5_calls_24 rfl (V.iload2 h 26 dX5_calls_25 rfl (V.iload1 h 27 dX5_calls_26 rfl (V.callVf (As := [.int _, .int _]) (st := []) h 30 dX5_calls_27 rfl k731 k728 k730 ks81 k6 hd_X5_hasGoal ⟨(Nat.le_of_ble_eq_true rfl), (Nat.le_of_ble_eq_true rfl)⟩ (Nat.le_of_ble_eq_true rfl) mo rfl rfl ⟨Nat.zero_le _, Nat.zero_le _⟩ (c_hasGoal (by assumption)) rfl ?_)))
      refine V.bif_ne h 36 33 dX5_calls_30 rfl rfl (fun c30 => ?_) (fun c30 => ?_)
      · refine V.aload0 h 37 dX5_calls_36 rfl (V.iload1 h 38 dX5_calls_37 rfl (V.callVf (As := [.int _]) (st := []) h 41 dX5_calls_38 rfl k735 k732 k734 ks82 k6 hd_X5_ofProject ⟨(Nat.le_of_ble_eq_true rfl), (Nat.le_of_ble_eq_true rfl)⟩ (Nat.le_of_ble_eq_true rfl) mo rfl rfl ⟨Nat.zero_le _, Nat.zero_le _⟩ c_ofProject rfl (V.istore3 h 42 dX5_calls_41 rfl rfl (V.iconst h 43 dX5_calls_42 rfl ic1_0 (V.istore4 h 45 dX5_calls_43 rfl rfl (V.iconst h 46 dX5_calls_45 rfl ic1_0 (V.istore5 h 48 dX5_calls_46 rfl rfl ?_)))))))
        refine L _ jj _ _ (hg jj) 12 0 0 rfl rfl ?_
        intro t ht
        refine V.aload0 h 176 dX5_calls_175 rfl (V.gX5 h 0 179 dX5_calls_176 rfl rfl k544 mo rfl (V.iconst h 180 dX5_calls_179 rfl ic1_5 (V.iconst h 181 dX5_calls_180 rfl ic1_2 (V.iload1 h 182 dX5_calls_181 rfl (V.imul h 183 dX5_calls_182 rfl (V.iadd h 184 dX5_calls_183 rfl (V.iconst h 185 dX5_calls_184 rfl ic1_1 ?_)))))))
        refine V.iadd h 186 dX5_calls_185 rfl ?_
        rw [show (5 : Int32) + 2 * nI jj + 1 = nI (5 + 2 * jj + 1) by rw [lit, lit, lit, pk_mul, nI_add, nI_add]]
        refine V.iconst h 187 dX5_calls_186 rfl ic1_1 (V.iastN h 188 dX5_calls_187 rfl za1 (by omega) (by decide) (V.at _ zw1 (V.aload0 h 189 dX5_calls_188 rfl (V.gX5 h 0 192 dX5_calls_189 rfl rfl k544 mo rfl (V.iconst h 193 dX5_calls_192 rfl ic1_4 (V.dup2 h 194 dX5_calls_193 rfl rfl rfl (V.ialdN (i := 4) h 195 dX5_calls_194 rfl za1 (by omega) (by decide) ?_)))))))
        rw [show ∀ f : Nat → Int32, upd f (5 + 2 * jj + 1) 1 4 = f 4 from fun f => by unfold upd; rw [if_neg (by omega)]]
        refine V.iload4 h 197 dX5_calls_195 rfl (V.iadd h 198 dX5_calls_197 rfl (V.iastN (i := 4) h 199 dX5_calls_198 rfl za1 (by omega) (by decide) (V.at _ zw1 (V.iload4 h 201 dX5_calls_199 rfl ?_))))
        refine V.iret h hR dX5_calls_201 ?_
        refine RM_of ?_ Sc.of_sc
        rw [hmk, if_neg (by rw [c21, show hasG (vP s) (mX M) (std (vP s) (mX M) 0) (nI jj) = true from c30]; decide), ht]
      · refine V.bipush h 35 dX5_calls_33 rfl ic2_m2 ?_
        refine V.iret h hR dX5_calls_35 ?_
        first | exact RM_of (by rw [hmk, c21]; rfl) Sc.of_sc | exact RM_of (by rw [hmk, show hasG (vP s) (mX M) (std (vP s) (mX M) 0) (nI jj) = false from c30, Bool.not_false, Bool.or_true]; rfl) Sc.of_sc
  · refine V.iconst h 9 dX5_calls_8 rfl ic1_m1 ?_
    refine V.iret h hR dX5_calls_9 ?_
    exact RM_of (by unfold mCa rng; rw [c5]; rfl) Sc.rf
end
