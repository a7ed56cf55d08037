section
-- ===== PART A: goes FIRST, ahead of the names: the tables' words, and 'selects' of the private methods out of them =====
/-- a private method of a class that the tables say can be made, by its rows of tables_1 -/
def lw_okq (q : MethodName × Nat) : Prop := (q.1.cls ≠ "java/lang/invoke/MethodHandle" ∧ q.1.cls ≠ "java/lang/invoke/VarHandle") ∧ Cond.instantiable q.1.cls q.2 ∈ tables_1 ∧ Cond.privateMethod q.1 ∈ tables_1 ∧ Cond.instanceMethod q.1 ∈ tables_1
theorem lw_p0 : lw_okq (⟨"FacingDoors$Text", "append", "(I)V"⟩, 2) := ⟨⟨by decide +kernel, by decide +kernel⟩, List.mem_of_getElem? (i := 25) (by decide +kernel), List.mem_of_getElem? (i := 332) (by decide +kernel), List.mem_of_getElem? (i := 333) (by decide +kernel)⟩
theorem lw_p1 : lw_okq (⟨"FacingDoors$Reader", "read", "()I"⟩, 9) := ⟨⟨by decide +kernel, by decide +kernel⟩, List.mem_of_getElem? (i := 98) (by decide +kernel), List.mem_of_getElem? (i := 344) (by decide +kernel), List.mem_of_getElem? (i := 345) (by decide +kernel)⟩
theorem lw_p2 : lw_okq (⟨"FacingDoors$Plan", "empty", "()V"⟩, 9) := ⟨⟨by decide +kernel, by decide +kernel⟩, List.mem_of_getElem? (i := 41) (by decide +kernel), List.mem_of_getElem? (i := 348) (by decide +kernel), List.mem_of_getElem? (i := 349) (by decide +kernel)⟩
theorem lw_p3 : lw_okq (⟨"FacingDoors$Reader", "advance", "()V"⟩, 9) := ⟨⟨by decide +kernel, by decide +kernel⟩, List.mem_of_getElem? (i := 98) (by decide +kernel), List.mem_of_getElem? (i := 352) (by decide +kernel), List.mem_of_getElem? (i := 353) (by decide +kernel)⟩
theorem lw_p4 : lw_okq (⟨"FacingDoors$Text", "byteAt", "(I)I"⟩, 2) := ⟨⟨by decide +kernel, by decide +kernel⟩, List.mem_of_getElem? (i := 25) (by decide +kernel), List.mem_of_getElem? (i := 356) (by decide +kernel), List.mem_of_getElem? (i := 357) (by decide +kernel)⟩
theorem lw_p5 : lw_okq (⟨"FacingDoors$Reader", "advanceOverNumber", "()V"⟩, 9) := ⟨⟨by decide +kernel, by decide +kernel⟩, List.mem_of_getElem? (i := 98) (by decide +kernel), List.mem_of_getElem? (i := 363) (by decide +kernel), List.mem_of_getElem? (i := 364) (by decide +kernel)⟩
theorem lw_p6 : lw_okq (⟨"FacingDoors$Reader", "takeItem", "()Z"⟩, 9) := ⟨⟨by decide +kernel, by decide +kernel⟩, List.mem_of_getElem? (i := 98) (by decide +kernel), List.mem_of_getElem? (i := 370) (by decide +kernel), List.mem_of_getElem? (i := 371) (by decide +kernel)⟩
theorem lw_p7 : lw_okq (⟨"FacingDoors$Reader", "takeWide", "()Z"⟩, 9) := ⟨⟨by decide +kernel, by decide +kernel⟩, List.mem_of_getElem? (i := 98) (by decide +kernel), List.mem_of_getElem? (i := 374) (by decide +kernel), List.mem_of_getElem? (i := 375) (by decide +kernel)⟩
theorem lw_p8 : lw_okq (⟨"FacingDoors$Reader", "nextIsNumber", "(II)Z"⟩, 9) := ⟨⟨by decide +kernel, by decide +kernel⟩, List.mem_of_getElem? (i := 98) (by decide +kernel), List.mem_of_getElem? (i := 378) (by decide +kernel), List.mem_of_getElem? (i := 379) (by decide +kernel)⟩
theorem lw_p9 : lw_okq (⟨"FacingDoors$Reader", "takeEnd", "()Z"⟩, 9) := ⟨⟨by decide +kernel, by decide +kernel⟩, List.mem_of_getElem? (i := 98) (by decide +kernel), List.mem_of_getElem? (i := 382) (by decide +kernel), List.mem_of_getElem? (i := 383) (by decide +kernel)⟩
theorem lw_p10 : lw_okq (⟨"FacingDoors$Reader", "takeRow", "()Z"⟩, 9) := ⟨⟨by decide +kernel, by decide +kernel⟩, List.mem_of_getElem? (i := 98) (by decide +kernel), List.mem_of_getElem? (i := 386) (by decide +kernel), List.mem_of_getElem? (i := 387) (by decide +kernel)⟩
theorem lw_p11 : lw_okq (⟨"FacingDoors$Reader", "nextGround", "()I"⟩, 9) := ⟨⟨by decide +kernel, by decide +kernel⟩, List.mem_of_getElem? (i := 98) (by decide +kernel), List.mem_of_getElem? (i := 390) (by decide +kernel), List.mem_of_getElem? (i := 391) (by decide +kernel)⟩
theorem lw_p12 : lw_okq (⟨"FacingDoors$Reader", "takeDoor", "()Z"⟩, 9) := ⟨⟨by decide +kernel, by decide +kernel⟩, List.mem_of_getElem? (i := 98) (by decide +kernel), List.mem_of_getElem? (i := 397) (by decide +kernel), List.mem_of_getElem? (i := 398) (by decide +kernel)⟩
theorem lw_p13 : lw_okq (⟨"FacingDoors$Plan", "isFreeForDoor", "(II)Z"⟩, 9) := ⟨⟨by decide +kernel, by decide +kernel⟩, List.mem_of_getElem? (i := 41) (by decide +kernel), List.mem_of_getElem? (i := 401) (by decide +kernel), List.mem_of_getElem? (i := 402) (by decide +kernel)⟩
theorem lw_p14 : lw_okq (⟨"FacingDoors$Plan", "hasCell", "(II)Z"⟩, 9) := ⟨⟨by decide +kernel, by decide +kernel⟩, List.mem_of_getElem? (i := 41) (by decide +kernel), List.mem_of_getElem? (i := 405) (by decide +kernel), List.mem_of_getElem? (i := 406) (by decide +kernel)⟩
theorem lw_p15 : lw_okq (⟨"FacingDoors$Plan", "groundAt", "(II)I"⟩, 9) := ⟨⟨by decide +kernel, by decide +kernel⟩, List.mem_of_getElem? (i := 41) (by decide +kernel), List.mem_of_getElem? (i := 409) (by decide +kernel), List.mem_of_getElem? (i := 410) (by decide +kernel)⟩
def lw_privs_1 : List (MethodName × Nat) := [(⟨"FacingDoors$Text", "append", "(I)V"⟩, 2), (⟨"FacingDoors$Reader", "read", "()I"⟩, 9), (⟨"FacingDoors$Plan", "empty", "()V"⟩, 9), (⟨"FacingDoors$Reader", "advance", "()V"⟩, 9), (⟨"FacingDoors$Text", "byteAt", "(I)I"⟩, 2), (⟨"FacingDoors$Reader", "advanceOverNumber", "()V"⟩, 9), (⟨"FacingDoors$Reader", "takeItem", "()Z"⟩, 9), (⟨"FacingDoors$Reader", "takeWide", "()Z"⟩, 9), (⟨"FacingDoors$Reader", "nextIsNumber", "(II)Z"⟩, 9), (⟨"FacingDoors$Reader", "takeEnd", "()Z"⟩, 9), (⟨"FacingDoors$Reader", "takeRow", "()Z"⟩, 9), (⟨"FacingDoors$Reader", "nextGround", "()I"⟩, 9), (⟨"FacingDoors$Reader", "takeDoor", "()Z"⟩, 9), (⟨"FacingDoors$Plan", "isFreeForDoor", "(II)Z"⟩, 9), (⟨"FacingDoors$Plan", "hasCell", "(II)Z"⟩, 9), (⟨"FacingDoors$Plan", "groundAt", "(II)I"⟩, 9)]
theorem lw_r1 : ∀ q ∈ lw_privs_1, lw_okq q := List.forall_mem_cons.mpr ⟨lw_p0, List.forall_mem_cons.mpr ⟨lw_p1, List.forall_mem_cons.mpr ⟨lw_p2, List.forall_mem_cons.mpr ⟨lw_p3, List.forall_mem_cons.mpr ⟨lw_p4, List.forall_mem_cons.mpr ⟨lw_p5, List.forall_mem_cons.mpr ⟨lw_p6, List.forall_mem_cons.mpr ⟨lw_p7, List.forall_mem_cons.mpr ⟨lw_p8, List.forall_mem_cons.mpr ⟨lw_p9, List.forall_mem_cons.mpr ⟨lw_p10, List.forall_mem_cons.mpr ⟨lw_p11, List.forall_mem_cons.mpr ⟨lw_p12, List.forall_mem_cons.mpr ⟨lw_p13, List.forall_mem_cons.mpr ⟨lw_p14, List.forall_mem_cons.mpr ⟨lw_p15, fun _ h => absurd h List.not_mem_nil⟩⟩⟩⟩⟩⟩⟩⟩⟩⟩⟩⟩⟩⟩⟩⟩
theorem lw_p16 : lw_okq (⟨"FacingDoors$Reader", "takePrice", "()Z"⟩, 9) := ⟨⟨by decide +kernel, by decide +kernel⟩, List.mem_of_getElem? (i := 98) (by decide +kernel), List.mem_of_getElem? (i := 414) (by decide +kernel), List.mem_of_getElem? (i := 415) (by decide +kernel)⟩
theorem lw_p17 : lw_okq (⟨"FacingDoors$Reader", "takeSight", "()Z"⟩, 9) := ⟨⟨by decide +kernel, by decide +kernel⟩, List.mem_of_getElem? (i := 98) (by decide +kernel), List.mem_of_getElem? (i := 418) (by decide +kernel), List.mem_of_getElem? (i := 419) (by decide +kernel)⟩
theorem lw_p18 : lw_okq (⟨"FacingDoors$Plan", "copyFrom", "(LFacingDoors$Plan;)V"⟩, 9) := ⟨⟨by decide +kernel, by decide +kernel⟩, List.mem_of_getElem? (i := 41) (by decide +kernel), List.mem_of_getElem? (i := 422) (by decide +kernel), List.mem_of_getElem? (i := 423) (by decide +kernel)⟩
theorem lw_p19 : lw_okq (⟨"FacingDoors$Scene", "begin", "(LFacingDoors$Plan;)V"⟩, 8) := ⟨⟨by decide +kernel, by decide +kernel⟩, List.mem_of_getElem? (i := 132) (by decide +kernel), List.mem_of_getElem? (i := 429) (by decide +kernel), List.mem_of_getElem? (i := 430) (by decide +kernel)⟩
theorem lw_p20 : lw_okq (⟨"FacingDoors$Scene", "doorOn", "(III)I"⟩, 8) := ⟨⟨by decide +kernel, by decide +kernel⟩, List.mem_of_getElem? (i := 132) (by decide +kernel), List.mem_of_getElem? (i := 441) (by decide +kernel), List.mem_of_getElem? (i := 442) (by decide +kernel)⟩
theorem lw_p21 : lw_okq (⟨"FacingDoors$Scene", "isDoorOn", "(III)Z"⟩, 8) := ⟨⟨by decide +kernel, by decide +kernel⟩, List.mem_of_getElem? (i := 132) (by decide +kernel), List.mem_of_getElem? (i := 445) (by decide +kernel), List.mem_of_getElem? (i := 446) (by decide +kernel)⟩
theorem lw_p22 : lw_okq (⟨"FacingDoors$Scene", "hasCart", "(II)Z"⟩, 8) := ⟨⟨by decide +kernel, by decide +kernel⟩, List.mem_of_getElem? (i := 132) (by decide +kernel), List.mem_of_getElem? (i := 449) (by decide +kernel), List.mem_of_getElem? (i := 450) (by decide +kernel)⟩
theorem lw_p23 : lw_okq (⟨"FacingDoors$Plan", "hasDoor", "(I)Z"⟩, 9) := ⟨⟨by decide +kernel, by decide +kernel⟩, List.mem_of_getElem? (i := 41) (by decide +kernel), List.mem_of_getElem? (i := 462) (by decide +kernel), List.mem_of_getElem? (i := 463) (by decide +kernel)⟩
theorem lw_p24 : lw_okq (⟨"FacingDoors$Scene", "isOpen", "(I)Z"⟩, 8) := ⟨⟨by decide +kernel, by decide +kernel⟩, List.mem_of_getElem? (i := 132) (by decide +kernel), List.mem_of_getElem? (i := 466) (by decide +kernel), List.mem_of_getElem? (i := 467) (by decide +kernel)⟩
theorem lw_p25 : lw_okq (⟨"FacingDoors$Sights", "seesWhom", "(I)I"⟩, 2) := ⟨⟨by decide +kernel, by decide +kernel⟩, List.mem_of_getElem? (i := 197) (by decide +kernel), List.mem_of_getElem? (i := 476) (by decide +kernel), List.mem_of_getElem? (i := 477) (by decide +kernel)⟩
theorem lw_p26 : lw_okq (⟨"FacingDoors$Sights", "wouldSee", "(II)I"⟩, 2) := ⟨⟨by decide +kernel, by decide +kernel⟩, List.mem_of_getElem? (i := 197) (by decide +kernel), List.mem_of_getElem? (i := 481) (by decide +kernel), List.mem_of_getElem? (i := 482) (by decide +kernel)⟩
theorem lw_p27 : lw_okq (⟨"FacingDoors$Sights", "hidesWhatIsBehind", "(II)Z"⟩, 2) := ⟨⟨by decide +kernel, by decide +kernel⟩, List.mem_of_getElem? (i := 197) (by decide +kernel), List.mem_of_getElem? (i := 491) (by decide +kernel), List.mem_of_getElem? (i := 492) (by decide +kernel)⟩
theorem lw_p28 : lw_okq (⟨"FacingDoors$Sights", "dueOf", "(I)I"⟩, 2) := ⟨⟨by decide +kernel, by decide +kernel⟩, List.mem_of_getElem? (i := 197) (by decide +kernel), List.mem_of_getElem? (i := 498) (by decide +kernel), List.mem_of_getElem? (i := 499) (by decide +kernel)⟩
theorem lw_p29 : lw_okq (⟨"FacingDoors$Sights", "dueIfOpen", "(I)I"⟩, 2) := ⟨⟨by decide +kernel, by decide +kernel⟩, List.mem_of_getElem? (i := 197) (by decide +kernel), List.mem_of_getElem? (i := 502) (by decide +kernel), List.mem_of_getElem? (i := 503) (by decide +kernel)⟩
theorem lw_p30 : lw_okq (⟨"FacingDoors$Sights", "hasWayIn", "(II)Z"⟩, 2) := ⟨⟨by decide +kernel, by decide +kernel⟩, List.mem_of_getElem? (i := 197) (by decide +kernel), List.mem_of_getElem? (i := 509) (by decide +kernel), List.mem_of_getElem? (i := 510) (by decide +kernel)⟩
theorem lw_p31 : lw_okq (⟨"FacingDoors$Sights", "isVacant", "(II)Z"⟩, 2) := ⟨⟨by decide +kernel, by decide +kernel⟩, List.mem_of_getElem? (i := 197) (by decide +kernel), List.mem_of_getElem? (i := 513) (by decide +kernel), List.mem_of_getElem? (i := 514) (by decide +kernel)⟩
def lw_privs_2 : List (MethodName × Nat) := [(⟨"FacingDoors$Reader", "takePrice", "()Z"⟩, 9), (⟨"FacingDoors$Reader", "takeSight", "()Z"⟩, 9), (⟨"FacingDoors$Plan", "copyFrom", "(LFacingDoors$Plan;)V"⟩, 9), (⟨"FacingDoors$Scene", "begin", "(LFacingDoors$Plan;)V"⟩, 8), (⟨"FacingDoors$Scene", "doorOn", "(III)I"⟩, 8), (⟨"FacingDoors$Scene", "isDoorOn", "(III)Z"⟩, 8), (⟨"FacingDoors$Scene", "hasCart", "(II)Z"⟩, 8), (⟨"FacingDoors$Plan", "hasDoor", "(I)Z"⟩, 9), (⟨"FacingDoors$Scene", "isOpen", "(I)Z"⟩, 8), (⟨"FacingDoors$Sights", "seesWhom", "(I)I"⟩, 2), (⟨"FacingDoors$Sights", "wouldSee", "(II)I"⟩, 2), (⟨"FacingDoors$Sights", "hidesWhatIsBehind", "(II)Z"⟩, 2), (⟨"FacingDoors$Sights", "dueOf", "(I)I"⟩, 2), (⟨"FacingDoors$Sights", "dueIfOpen", "(I)I"⟩, 2), (⟨"FacingDoors$Sights", "hasWayIn", "(II)Z"⟩, 2), (⟨"FacingDoors$Sights", "isVacant", "(II)Z"⟩, 2)]
theorem lw_r2 : ∀ q ∈ lw_privs_2, lw_okq q := List.forall_mem_cons.mpr ⟨lw_p16, List.forall_mem_cons.mpr ⟨lw_p17, List.forall_mem_cons.mpr ⟨lw_p18, List.forall_mem_cons.mpr ⟨lw_p19, List.forall_mem_cons.mpr ⟨lw_p20, List.forall_mem_cons.mpr ⟨lw_p21, List.forall_mem_cons.mpr ⟨lw_p22, List.forall_mem_cons.mpr ⟨lw_p23, List.forall_mem_cons.mpr ⟨lw_p24, List.forall_mem_cons.mpr ⟨lw_p25, List.forall_mem_cons.mpr ⟨lw_p26, List.forall_mem_cons.mpr ⟨lw_p27, List.forall_mem_cons.mpr ⟨lw_p28, List.forall_mem_cons.mpr ⟨lw_p29, List.forall_mem_cons.mpr ⟨lw_p30, List.forall_mem_cons.mpr ⟨lw_p31, fun _ h => absurd h List.not_mem_nil⟩⟩⟩⟩⟩⟩⟩⟩⟩⟩⟩⟩⟩⟩⟩⟩
theorem lw_p32 : lw_okq (⟨"FacingDoors$Sights", "seenBy", "(I)I"⟩, 2) := ⟨⟨by decide +kernel, by decide +kernel⟩, List.mem_of_getElem? (i := 197) (by decide +kernel), List.mem_of_getElem? (i := 517) (by decide +kernel), List.mem_of_getElem? (i := 518) (by decide +kernel)⟩
theorem lw_p33 : lw_okq (⟨"FacingDoors$History", "push", "(LFacingDoors$Scene;)V"⟩, 2) := ⟨⟨by decide +kernel, by decide +kernel⟩, List.mem_of_getElem? (i := 178) (by decide +kernel), List.mem_of_getElem? (i := 530) (by decide +kernel), List.mem_of_getElem? (i := 531) (by decide +kernel)⟩
theorem lw_p34 : lw_okq (⟨"FacingDoors$History", "loseOldest", "()V"⟩, 2) := ⟨⟨by decide +kernel, by decide +kernel⟩, List.mem_of_getElem? (i := 178) (by decide +kernel), List.mem_of_getElem? (i := 534) (by decide +kernel), List.mem_of_getElem? (i := 535) (by decide +kernel)⟩
theorem lw_p35 : lw_okq (⟨"FacingDoors$Scene", "copyFrom", "(LFacingDoors$Scene;)V"⟩, 8) := ⟨⟨by decide +kernel, by decide +kernel⟩, List.mem_of_getElem? (i := 132) (by decide +kernel), List.mem_of_getElem? (i := 538) (by decide +kernel), List.mem_of_getElem? (i := 539) (by decide +kernel)⟩
theorem lw_p36 : lw_okq (⟨"FacingDoors$Sights", "dueOfAll", "()I"⟩, 2) := ⟨⟨by decide +kernel, by decide +kernel⟩, List.mem_of_getElem? (i := 197) (by decide +kernel), List.mem_of_getElem? (i := 572) (by decide +kernel), List.mem_of_getElem? (i := 573) (by decide +kernel)⟩
theorem lw_p37 : lw_okq (⟨"FacingDoors$History", "pop", "(LFacingDoors$Scene;)V"⟩, 2) := ⟨⟨by decide +kernel, by decide +kernel⟩, List.mem_of_getElem? (i := 178) (by decide +kernel), List.mem_of_getElem? (i := 590) (by decide +kernel), List.mem_of_getElem? (i := 591) (by decide +kernel)⟩
theorem lw_p38 : lw_okq (⟨"FacingDoors$Sights", "whoHasWayIn", "()I"⟩, 2) := ⟨⟨by decide +kernel, by decide +kernel⟩, List.mem_of_getElem? (i := 197) (by decide +kernel), List.mem_of_getElem? (i := 598) (by decide +kernel), List.mem_of_getElem? (i := 599) (by decide +kernel)⟩
theorem lw_p39 : lw_okq (⟨"FacingDoors$Sights", "pairs", "()I"⟩, 2) := ⟨⟨by decide +kernel, by decide +kernel⟩, List.mem_of_getElem? (i := 197) (by decide +kernel), List.mem_of_getElem? (i := 603) (by decide +kernel), List.mem_of_getElem? (i := 604) (by decide +kernel)⟩
theorem lw_p40 : lw_okq (⟨"FacingDoors$Scene", "owedByAll", "(I)I"⟩, 8) := ⟨⟨by decide +kernel, by decide +kernel⟩, List.mem_of_getElem? (i := 132) (by decide +kernel), List.mem_of_getElem? (i := 607) (by decide +kernel), List.mem_of_getElem? (i := 608) (by decide +kernel)⟩
theorem lw_p41 : lw_okq (⟨"FacingDoors$TurnSearch", "run", "()Z"⟩, 10) := ⟨⟨by decide +kernel, by decide +kernel⟩, List.mem_of_getElem? (i := 210) (by decide +kernel), List.mem_of_getElem? (i := 615) (by decide +kernel), List.mem_of_getElem? (i := 616) (by decide +kernel)⟩
theorem lw_p42 : lw_okq (⟨"FacingDoors$TurnSearch", "choose", "(III)V"⟩, 10) := ⟨⟨by decide +kernel, by decide +kernel⟩, List.mem_of_getElem? (i := 210) (by decide +kernel), List.mem_of_getElem? (i := 621) (by decide +kernel), List.mem_of_getElem? (i := 622) (by decide +kernel)⟩
theorem lw_p43 : lw_okq (⟨"FacingDoors$TurnSearch", "isBetter", "(II)Z"⟩, 10) := ⟨⟨by decide +kernel, by decide +kernel⟩, List.mem_of_getElem? (i := 210) (by decide +kernel), List.mem_of_getElem? (i := 625) (by decide +kernel), List.mem_of_getElem? (i := 626) (by decide +kernel)⟩
theorem lw_p44 : lw_okq (⟨"FacingDoors$TurnSearch", "chooseEachWay", "(III)V"⟩, 10) := ⟨⟨by decide +kernel, by decide +kernel⟩, List.mem_of_getElem? (i := 210) (by decide +kernel), List.mem_of_getElem? (i := 629) (by decide +kernel), List.mem_of_getElem? (i := 630) (by decide +kernel)⟩
theorem lw_p45 : lw_okq (⟨"FacingDoors$TurnSearch", "dueThatComes", "(I)I"⟩, 10) := ⟨⟨by decide +kernel, by decide +kernel⟩, List.mem_of_getElem? (i := 210) (by decide +kernel), List.mem_of_getElem? (i := 633) (by decide +kernel), List.mem_of_getElem? (i := 634) (by decide +kernel)⟩
theorem lw_p46 : lw_okq (⟨"FacingDoors$TurnSearch", "priceFor", "(I)I"⟩, 10) := ⟨⟨by decide +kernel, by decide +kernel⟩, List.mem_of_getElem? (i := 210) (by decide +kernel), List.mem_of_getElem? (i := 637) (by decide +kernel), List.mem_of_getElem? (i := 638) (by decide +kernel)⟩
theorem lw_p47 : lw_okq (⟨"FacingDoors", "addRelief", "(I)V"⟩, 13) := ⟨⟨by decide +kernel, by decide +kernel⟩, List.mem_of_getElem? (i := 17) (by decide +kernel), List.mem_of_getElem? (i := 649) (by decide +kernel), List.mem_of_getElem? (i := 650) (by decide +kernel)⟩
def lw_privs_3 : List (MethodName × Nat) := [(⟨"FacingDoors$Sights", "seenBy", "(I)I"⟩, 2), (⟨"FacingDoors$History", "push", "(LFacingDoors$Scene;)V"⟩, 2), (⟨"FacingDoors$History", "loseOldest", "()V"⟩, 2), (⟨"FacingDoors$Scene", "copyFrom", "(LFacingDoors$Scene;)V"⟩, 8), (⟨"FacingDoors$Sights", "dueOfAll", "()I"⟩, 2), (⟨"FacingDoors$History", "pop", "(LFacingDoors$Scene;)V"⟩, 2), (⟨"FacingDoors$Sights", "whoHasWayIn", "()I"⟩, 2), (⟨"FacingDoors$Sights", "pairs", "()I"⟩, 2), (⟨"FacingDoors$Scene", "owedByAll", "(I)I"⟩, 8), (⟨"FacingDoors$TurnSearch", "run", "()Z"⟩, 10), (⟨"FacingDoors$TurnSearch", "choose", "(III)V"⟩, 10), (⟨"FacingDoors$TurnSearch", "isBetter", "(II)Z"⟩, 10), (⟨"FacingDoors$TurnSearch", "chooseEachWay", "(III)V"⟩, 10), (⟨"FacingDoors$TurnSearch", "dueThatComes", "(I)I"⟩, 10), (⟨"FacingDoors$TurnSearch", "priceFor", "(I)I"⟩, 10), (⟨"FacingDoors", "addRelief", "(I)V"⟩, 13)]
theorem lw_r3 : ∀ q ∈ lw_privs_3, lw_okq q := List.forall_mem_cons.mpr ⟨lw_p32, List.forall_mem_cons.mpr ⟨lw_p33, List.forall_mem_cons.mpr ⟨lw_p34, List.forall_mem_cons.mpr ⟨lw_p35, List.forall_mem_cons.mpr ⟨lw_p36, List.forall_mem_cons.mpr ⟨lw_p37, List.forall_mem_cons.mpr ⟨lw_p38, List.forall_mem_cons.mpr ⟨lw_p39, List.forall_mem_cons.mpr ⟨lw_p40, List.forall_mem_cons.mpr ⟨lw_p41, List.forall_mem_cons.mpr ⟨lw_p42, List.forall_mem_cons.mpr ⟨lw_p43, List.forall_mem_cons.mpr ⟨lw_p44, List.forall_mem_cons.mpr ⟨lw_p45, List.forall_mem_cons.mpr ⟨lw_p46, List.forall_mem_cons.mpr ⟨lw_p47, fun _ h => absurd h List.not_mem_nil⟩⟩⟩⟩⟩⟩⟩⟩⟩⟩⟩⟩⟩⟩⟩⟩
theorem lw_p48 : lw_okq (⟨"FacingDoors$Sights", "eachCanHaveWayIn", "()Z"⟩, 2) := ⟨⟨by decide +kernel, by decide +kernel⟩, List.mem_of_getElem? (i := 197) (by decide +kernel), List.mem_of_getElem? (i := 658) (by decide +kernel), List.mem_of_getElem? (i := 659) (by decide +kernel)⟩
theorem lw_p49 : lw_okq (⟨"FacingDoors$Sights", "mustSee", "(II)Z"⟩, 2) := ⟨⟨by decide +kernel, by decide +kernel⟩, List.mem_of_getElem? (i := 197) (by decide +kernel), List.mem_of_getElem? (i := 662) (by decide +kernel), List.mem_of_getElem? (i := 663) (by decide +kernel)⟩
theorem lw_p50 : lw_okq (⟨"FacingDoors$Told", "add", "(II)V"⟩, 3) := ⟨⟨by decide +kernel, by decide +kernel⟩, List.mem_of_getElem? (i := 251) (by decide +kernel), List.mem_of_getElem? (i := 673) (by decide +kernel), List.mem_of_getElem? (i := 674) (by decide +kernel)⟩
theorem lw_p51 : lw_okq (⟨"FacingDoors", "lookUpDues", "()V"⟩, 13) := ⟨⟨by decide +kernel, by decide +kernel⟩, List.mem_of_getElem? (i := 17) (by decide +kernel), List.mem_of_getElem? (i := 685) (by decide +kernel), List.mem_of_getElem? (i := 686) (by decide +kernel)⟩
theorem lw_p52 : lw_okq (⟨"FacingDoors$Told", "agreesWith", "(I[I)Z"⟩, 3) := ⟨⟨by decide +kernel, by decide +kernel⟩, List.mem_of_getElem? (i := 251) (by decide +kernel), List.mem_of_getElem? (i := 690) (by decide +kernel), List.mem_of_getElem? (i := 691) (by decide +kernel)⟩
theorem lw_p53 : lw_okq (⟨"FacingDoors", "dueOfSet", "(I)I"⟩, 13) := ⟨⟨by decide +kernel, by decide +kernel⟩, List.mem_of_getElem? (i := 17) (by decide +kernel), List.mem_of_getElem? (i := 702) (by decide +kernel), List.mem_of_getElem? (i := 703) (by decide +kernel)⟩
theorem lw_p54 : lw_okq (⟨"FacingDoors", "weightOfSet", "(II)I"⟩, 13) := ⟨⟨by decide +kernel, by decide +kernel⟩, List.mem_of_getElem? (i := 17) (by decide +kernel), List.mem_of_getElem? (i := 707) (by decide +kernel), List.mem_of_getElem? (i := 708) (by decide +kernel)⟩
theorem lw_p55 : lw_okq (⟨"FacingDoors", "doorMark", "(I)I"⟩, 13) := ⟨⟨by decide +kernel, by decide +kernel⟩, List.mem_of_getElem? (i := 17) (by decide +kernel), List.mem_of_getElem? (i := 726) (by decide +kernel), List.mem_of_getElem? (i := 727) (by decide +kernel)⟩
theorem lw_p56 : lw_okq (⟨"FacingDoors", "porchMark", "(I)I"⟩, 13) := ⟨⟨by decide +kernel, by decide +kernel⟩, List.mem_of_getElem? (i := 17) (by decide +kernel), List.mem_of_getElem? (i := 730) (by decide +kernel), List.mem_of_getElem? (i := 731) (by decide +kernel)⟩
theorem lw_p57 : lw_okq (⟨"FacingDoors", "gateMark", "(I)I"⟩, 13) := ⟨⟨by decide +kernel, by decide +kernel⟩, List.mem_of_getElem? (i := 17) (by decide +kernel), List.mem_of_getElem? (i := 741) (by decide +kernel), List.mem_of_getElem? (i := 742) (by decide +kernel)⟩
theorem lw_p58 : lw_okq (⟨"FacingDoors", "bayMark", "(I)I"⟩, 13) := ⟨⟨by decide +kernel, by decide +kernel⟩, List.mem_of_getElem? (i := 17) (by decide +kernel), List.mem_of_getElem? (i := 746) (by decide +kernel), List.mem_of_getElem? (i := 747) (by decide +kernel)⟩
theorem lw_p59 : lw_okq (⟨"FacingDoors", "schoolMark", "(I)I"⟩, 13) := ⟨⟨by decide +kernel, by decide +kernel⟩, List.mem_of_getElem? (i := 17) (by decide +kernel), List.mem_of_getElem? (i := 751) (by decide +kernel), List.mem_of_getElem? (i := 752) (by decide +kernel)⟩
theorem lw_p60 : lw_okq (⟨"FacingDoors", "hatchMark", "(I)I"⟩, 13) := ⟨⟨by decide +kernel, by decide +kernel⟩, List.mem_of_getElem? (i := 17) (by decide +kernel), List.mem_of_getElem? (i := 756) (by decide +kernel), List.mem_of_getElem? (i := 757) (by decide +kernel)⟩
theorem lw_p61 : lw_okq (⟨"FacingDoors$Image", "take", "(LFacingDoors$Scene;LFacingDoors$History;)V"⟩, 3) := ⟨⟨by decide +kernel, by decide +kernel⟩, List.mem_of_getElem? (i := 267) (by decide +kernel), List.mem_of_getElem? (i := 768) (by decide +kernel), List.mem_of_getElem? (i := 769) (by decide +kernel)⟩
theorem lw_p62 : lw_okq (⟨"FacingDoors$History", "copyFrom", "(LFacingDoors$History;)V"⟩, 2) := ⟨⟨by decide +kernel, by decide +kernel⟩, List.mem_of_getElem? (i := 178) (by decide +kernel), List.mem_of_getElem? (i := 773) (by decide +kernel), List.mem_of_getElem? (i := 774) (by decide +kernel)⟩
theorem lw_p63 : lw_okq (⟨"FacingDoors$Image", "give", "(LFacingDoors$Scene;LFacingDoors$History;)V"⟩, 3) := ⟨⟨by decide +kernel, by decide +kernel⟩, List.mem_of_getElem? (i := 267) (by decide +kernel), List.mem_of_getElem? (i := 781) (by decide +kernel), List.mem_of_getElem? (i := 782) (by decide +kernel)⟩
def lw_privs_4 : List (MethodName × Nat) := [(⟨"FacingDoors$Sights", "eachCanHaveWayIn", "()Z"⟩, 2), (⟨"FacingDoors$Sights", "mustSee", "(II)Z"⟩, 2), (⟨"FacingDoors$Told", "add", "(II)V"⟩, 3), (⟨"FacingDoors", "lookUpDues", "()V"⟩, 13), (⟨"FacingDoors$Told", "agreesWith", "(I[I)Z"⟩, 3), (⟨"FacingDoors", "dueOfSet", "(I)I"⟩, 13), (⟨"FacingDoors", "weightOfSet", "(II)I"⟩, 13), (⟨"FacingDoors", "doorMark", "(I)I"⟩, 13), (⟨"FacingDoors", "porchMark", "(I)I"⟩, 13), (⟨"FacingDoors", "gateMark", "(I)I"⟩, 13), (⟨"FacingDoors", "bayMark", "(I)I"⟩, 13), (⟨"FacingDoors", "schoolMark", "(I)I"⟩, 13), (⟨"FacingDoors", "hatchMark", "(I)I"⟩, 13), (⟨"FacingDoors$Image", "take", "(LFacingDoors$Scene;LFacingDoors$History;)V"⟩, 3), (⟨"FacingDoors$History", "copyFrom", "(LFacingDoors$History;)V"⟩, 2), (⟨"FacingDoors$Image", "give", "(LFacingDoors$Scene;LFacingDoors$History;)V"⟩, 3)]
theorem lw_r4 : ∀ q ∈ lw_privs_4, lw_okq q := List.forall_mem_cons.mpr ⟨lw_p48, List.forall_mem_cons.mpr ⟨lw_p49, List.forall_mem_cons.mpr ⟨lw_p50, List.forall_mem_cons.mpr ⟨lw_p51, List.forall_mem_cons.mpr ⟨lw_p52, List.forall_mem_cons.mpr ⟨lw_p53, List.forall_mem_cons.mpr ⟨lw_p54, List.forall_mem_cons.mpr ⟨lw_p55, List.forall_mem_cons.mpr ⟨lw_p56, List.forall_mem_cons.mpr ⟨lw_p57, List.forall_mem_cons.mpr ⟨lw_p58, List.forall_mem_cons.mpr ⟨lw_p59, List.forall_mem_cons.mpr ⟨lw_p60, List.forall_mem_cons.mpr ⟨lw_p61, List.forall_mem_cons.mpr ⟨lw_p62, List.forall_mem_cons.mpr ⟨lw_p63, fun _ h => absurd h List.not_mem_nil⟩⟩⟩⟩⟩⟩⟩⟩⟩⟩⟩⟩⟩⟩⟩⟩
theorem lw_p64 : lw_okq (⟨"FacingDoorsModel", "plain", "()V"⟩, 24) := ⟨⟨by decide +kernel, by decide +kernel⟩, List.mem_of_getElem? (i := 793) (by decide +kernel), List.mem_of_getElem? (i := 799) (by decide +kernel), List.mem_of_getElem? (i := 800) (by decide +kernel)⟩
theorem lw_p65 : lw_okq (⟨"FacingDoorsModel", "takeDraft", "()V"⟩, 24) := ⟨⟨by decide +kernel, by decide +kernel⟩, List.mem_of_getElem? (i := 793) (by decide +kernel), List.mem_of_getElem? (i := 803) (by decide +kernel), List.mem_of_getElem? (i := 804) (by decide +kernel)⟩
theorem lw_p66 : lw_okq (⟨"FacingDoorsModel", "step", "()V"⟩, 24) := ⟨⟨by decide +kernel, by decide +kernel⟩, List.mem_of_getElem? (i := 793) (by decide +kernel), List.mem_of_getElem? (i := 896) (by decide +kernel), List.mem_of_getElem? (i := 897) (by decide +kernel)⟩
theorem lw_p67 : lw_okq (⟨"FacingDoorsModel", "here", "()I"⟩, 24) := ⟨⟨by decide +kernel, by decide +kernel⟩, List.mem_of_getElem? (i := 793) (by decide +kernel), List.mem_of_getElem? (i := 900) (by decide +kernel), List.mem_of_getElem? (i := 901) (by decide +kernel)⟩
theorem lw_p68 : lw_okq (⟨"FacingDoorsModel", "mayBe", "(II)Z"⟩, 24) := ⟨⟨by decide +kernel, by decide +kernel⟩, List.mem_of_getElem? (i := 793) (by decide +kernel), List.mem_of_getElem? (i := 904) (by decide +kernel), List.mem_of_getElem? (i := 905) (by decide +kernel)⟩
theorem lw_p69 : lw_okq (⟨"FacingDoorsModel", "due", "(Z)I"⟩, 24) := ⟨⟨by decide +kernel, by decide +kernel⟩, List.mem_of_getElem? (i := 793) (by decide +kernel), List.mem_of_getElem? (i := 908) (by decide +kernel), List.mem_of_getElem? (i := 909) (by decide +kernel)⟩
theorem lw_p70 : lw_okq (⟨"FacingDoorsModel", "readRow", "(I)V"⟩, 24) := ⟨⟨by decide +kernel, by decide +kernel⟩, List.mem_of_getElem? (i := 793) (by decide +kernel), List.mem_of_getElem? (i := 912) (by decide +kernel), List.mem_of_getElem? (i := 913) (by decide +kernel)⟩
theorem lw_p71 : lw_okq (⟨"FacingDoorsModel", "number", "(II)I"⟩, 24) := ⟨⟨by decide +kernel, by decide +kernel⟩, List.mem_of_getElem? (i := 793) (by decide +kernel), List.mem_of_getElem? (i := 916) (by decide +kernel), List.mem_of_getElem? (i := 917) (by decide +kernel)⟩
theorem lw_p72 : lw_okq (⟨"FacingDoorsModel", "isFreeDraft", "(I)Z"⟩, 24) := ⟨⟨by decide +kernel, by decide +kernel⟩, List.mem_of_getElem? (i := 793) (by decide +kernel), List.mem_of_getElem? (i := 923) (by decide +kernel), List.mem_of_getElem? (i := 924) (by decide +kernel)⟩
theorem lw_p73 : lw_okq (⟨"FacingDoorsModel", "isCell", "(II)Z"⟩, 24) := ⟨⟨by decide +kernel, by decide +kernel⟩, List.mem_of_getElem? (i := 793) (by decide +kernel), List.mem_of_getElem? (i := 931) (by decide +kernel), List.mem_of_getElem? (i := 932) (by decide +kernel)⟩
theorem lw_p74 : lw_okq (⟨"FacingDoorsModel", "doorAt", "(II)I"⟩, 24) := ⟨⟨by decide +kernel, by decide +kernel⟩, List.mem_of_getElem? (i := 793) (by decide +kernel), List.mem_of_getElem? (i := 935) (by decide +kernel), List.mem_of_getElem? (i := 936) (by decide +kernel)⟩
theorem lw_p75 : lw_okq (⟨"FacingDoorsModel", "hasCart", "(II)Z"⟩, 24) := ⟨⟨by decide +kernel, by decide +kernel⟩, List.mem_of_getElem? (i := 793) (by decide +kernel), List.mem_of_getElem? (i := 939) (by decide +kernel), List.mem_of_getElem? (i := 940) (by decide +kernel)⟩
theorem lw_p76 : lw_okq (⟨"FacingDoorsModel", "isDoor", "(I)Z"⟩, 24) := ⟨⟨by decide +kernel, by decide +kernel⟩, List.mem_of_getElem? (i := 793) (by decide +kernel), List.mem_of_getElem? (i := 947) (by decide +kernel), List.mem_of_getElem? (i := 948) (by decide +kernel)⟩
theorem lw_p77 : lw_okq (⟨"FacingDoorsModel", "take", "()V"⟩, 24) := ⟨⟨by decide +kernel, by decide +kernel⟩, List.mem_of_getElem? (i := 793) (by decide +kernel), List.mem_of_getElem? (i := 951) (by decide +kernel), List.mem_of_getElem? (i := 952) (by decide +kernel)⟩
theorem lw_p78 : lw_okq (⟨"FacingDoorsModel", "sees", "(I)I"⟩, 24) := ⟨⟨by decide +kernel, by decide +kernel⟩, List.mem_of_getElem? (i := 793) (by decide +kernel), List.mem_of_getElem? (i := 955) (by decide +kernel), List.mem_of_getElem? (i := 956) (by decide +kernel)⟩
theorem lw_p79 : lw_okq (⟨"FacingDoorsModel", "dueOf", "(I)I"⟩, 24) := ⟨⟨by decide +kernel, by decide +kernel⟩, List.mem_of_getElem? (i := 793) (by decide +kernel), List.mem_of_getElem? (i := 966) (by decide +kernel), List.mem_of_getElem? (i := 967) (by decide +kernel)⟩
def lw_privs_5 : List (MethodName × Nat) := [(⟨"FacingDoorsModel", "plain", "()V"⟩, 24), (⟨"FacingDoorsModel", "takeDraft", "()V"⟩, 24), (⟨"FacingDoorsModel", "step", "()V"⟩, 24), (⟨"FacingDoorsModel", "here", "()I"⟩, 24), (⟨"FacingDoorsModel", "mayBe", "(II)Z"⟩, 24), (⟨"FacingDoorsModel", "due", "(Z)I"⟩, 24), (⟨"FacingDoorsModel", "readRow", "(I)V"⟩, 24), (⟨"FacingDoorsModel", "number", "(II)I"⟩, 24), (⟨"FacingDoorsModel", "isFreeDraft", "(I)Z"⟩, 24), (⟨"FacingDoorsModel", "isCell", "(II)Z"⟩, 24), (⟨"FacingDoorsModel", "doorAt", "(II)I"⟩, 24), (⟨"FacingDoorsModel", "hasCart", "(II)Z"⟩, 24), (⟨"FacingDoorsModel", "isDoor", "(I)Z"⟩, 24), (⟨"FacingDoorsModel", "take", "()V"⟩, 24), (⟨"FacingDoorsModel", "sees", "(I)I"⟩, 24), (⟨"FacingDoorsModel", "dueOf", "(I)I"⟩, 24)]
theorem lw_r5 : ∀ q ∈ lw_privs_5, lw_okq q := List.forall_mem_cons.mpr ⟨lw_p64, List.forall_mem_cons.mpr ⟨lw_p65, List.forall_mem_cons.mpr ⟨lw_p66, List.forall_mem_cons.mpr ⟨lw_p67, List.forall_mem_cons.mpr ⟨lw_p68, List.forall_mem_cons.mpr ⟨lw_p69, List.forall_mem_cons.mpr ⟨lw_p70, List.forall_mem_cons.mpr ⟨lw_p71, List.forall_mem_cons.mpr ⟨lw_p72, List.forall_mem_cons.mpr ⟨lw_p73, List.forall_mem_cons.mpr ⟨lw_p74, List.forall_mem_cons.mpr ⟨lw_p75, List.forall_mem_cons.mpr ⟨lw_p76, List.forall_mem_cons.mpr ⟨lw_p77, List.forall_mem_cons.mpr ⟨lw_p78, List.forall_mem_cons.mpr ⟨lw_p79, fun _ h => absurd h List.not_mem_nil⟩⟩⟩⟩⟩⟩⟩⟩⟩⟩⟩⟩⟩⟩⟩⟩
theorem lw_p80 : lw_okq (⟨"FacingDoorsModel", "hasWay", "(I)Z"⟩, 24) := ⟨⟨by decide +kernel, by decide +kernel⟩, List.mem_of_getElem? (i := 793) (by decide +kernel), List.mem_of_getElem? (i := 970) (by decide +kernel), List.mem_of_getElem? (i := 971) (by decide +kernel)⟩
theorem lw_p81 : lw_okq (⟨"FacingDoorsModel", "seenBy", "(I)I"⟩, 24) := ⟨⟨by decide +kernel, by decide +kernel⟩, List.mem_of_getElem? (i := 793) (by decide +kernel), List.mem_of_getElem? (i := 974) (by decide +kernel), List.mem_of_getElem? (i := 975) (by decide +kernel)⟩
theorem lw_p82 : lw_okq (⟨"FacingDoorsModel", "know", "()V"⟩, 24) := ⟨⟨by decide +kernel, by decide +kernel⟩, List.mem_of_getElem? (i := 793) (by decide +kernel), List.mem_of_getElem? (i := 982) (by decide +kernel), List.mem_of_getElem? (i := 983) (by decide +kernel)⟩
theorem lw_p83 : lw_okq (⟨"FacingDoorsModel", "carts", "()I"⟩, 24) := ⟨⟨by decide +kernel, by decide +kernel⟩, List.mem_of_getElem? (i := 793) (by decide +kernel), List.mem_of_getElem? (i := 998) (by decide +kernel), List.mem_of_getElem? (i := 999) (by decide +kernel)⟩
theorem lw_p84 : lw_okq (⟨"FacingDoorsModel", "set", "(II)I"⟩, 24) := ⟨⟨by decide +kernel, by decide +kernel⟩, List.mem_of_getElem? (i := 793) (by decide +kernel), List.mem_of_getElem? (i := 1009) (by decide +kernel), List.mem_of_getElem? (i := 1010) (by decide +kernel)⟩
theorem lw_p85 : lw_okq (⟨"FacingDoorsModel", "duesNow", "()I"⟩, 24) := ⟨⟨by decide +kernel, by decide +kernel⟩, List.mem_of_getElem? (i := 793) (by decide +kernel), List.mem_of_getElem? (i := 1013) (by decide +kernel), List.mem_of_getElem? (i := 1014) (by decide +kernel)⟩
theorem lw_p86 : lw_okq (⟨"FacingDoorsModel", "dues", "()I"⟩, 24) := ⟨⟨by decide +kernel, by decide +kernel⟩, List.mem_of_getElem? (i := 793) (by decide +kernel), List.mem_of_getElem? (i := 1017) (by decide +kernel), List.mem_of_getElem? (i := 1018) (by decide +kernel)⟩
theorem lw_p87 : lw_okq (⟨"FacingDoorsModel", "codes", "()I"⟩, 24) := ⟨⟨by decide +kernel, by decide +kernel⟩, List.mem_of_getElem? (i := 793) (by decide +kernel), List.mem_of_getElem? (i := 1041) (by decide +kernel), List.mem_of_getElem? (i := 1042) (by decide +kernel)⟩
theorem lw_p88 : lw_okq (⟨"FacingDoorsModel", "takeWays", "(I)I"⟩, 24) := ⟨⟨by decide +kernel, by decide +kernel⟩, List.mem_of_getElem? (i := 793) (by decide +kernel), List.mem_of_getElem? (i := 1045) (by decide +kernel), List.mem_of_getElem? (i := 1046) (by decide +kernel)⟩
theorem lw_p89 : lw_okq (⟨"FacingDoorsModel", "allHaveWays", "()Z"⟩, 24) := ⟨⟨by decide +kernel, by decide +kernel⟩, List.mem_of_getElem? (i := 793) (by decide +kernel), List.mem_of_getElem? (i := 1049) (by decide +kernel), List.mem_of_getElem? (i := 1050) (by decide +kernel)⟩
theorem lw_p90 : lw_okq (⟨"FacingDoorsModel", "sum", "(II)I"⟩, 24) := ⟨⟨by decide +kernel, by decide +kernel⟩, List.mem_of_getElem? (i := 793) (by decide +kernel), List.mem_of_getElem? (i := 1077) (by decide +kernel), List.mem_of_getElem? (i := 1078) (by decide +kernel)⟩
theorem lw_p91 : lw_okq (⟨"FacingDoorsModel", "part", "(II)I"⟩, 24) := ⟨⟨by decide +kernel, by decide +kernel⟩, List.mem_of_getElem? (i := 793) (by decide +kernel), List.mem_of_getElem? (i := 1081) (by decide +kernel), List.mem_of_getElem? (i := 1082) (by decide +kernel)⟩
def lw_privs_6 : List (MethodName × Nat) := [(⟨"FacingDoorsModel", "hasWay", "(I)Z"⟩, 24), (⟨"FacingDoorsModel", "seenBy", "(I)I"⟩, 24), (⟨"FacingDoorsModel", "know", "()V"⟩, 24), (⟨"FacingDoorsModel", "carts", "()I"⟩, 24), (⟨"FacingDoorsModel", "set", "(II)I"⟩, 24), (⟨"FacingDoorsModel", "duesNow", "()I"⟩, 24), (⟨"FacingDoorsModel", "dues", "()I"⟩, 24), (⟨"FacingDoorsModel", "codes", "()I"⟩, 24), (⟨"FacingDoorsModel", "takeWays", "(I)I"⟩, 24), (⟨"FacingDoorsModel", "allHaveWays", "()Z"⟩, 24), (⟨"FacingDoorsModel", "sum", "(II)I"⟩, 24), (⟨"FacingDoorsModel", "part", "(II)I"⟩, 24)]
theorem lw_r6 : ∀ q ∈ lw_privs_6, lw_okq q := List.forall_mem_cons.mpr ⟨lw_p80, List.forall_mem_cons.mpr ⟨lw_p81, List.forall_mem_cons.mpr ⟨lw_p82, List.forall_mem_cons.mpr ⟨lw_p83, List.forall_mem_cons.mpr ⟨lw_p84, List.forall_mem_cons.mpr ⟨lw_p85, List.forall_mem_cons.mpr ⟨lw_p86, List.forall_mem_cons.mpr ⟨lw_p87, List.forall_mem_cons.mpr ⟨lw_p88, List.forall_mem_cons.mpr ⟨lw_p89, List.forall_mem_cons.mpr ⟨lw_p90, List.forall_mem_cons.mpr ⟨lw_p91, fun _ h => absurd h List.not_mem_nil⟩⟩⟩⟩⟩⟩⟩⟩⟩⟩⟩⟩
def lw_privs : List (MethodName × Nat) := lw_privs_1 ++ (lw_privs_2 ++ (lw_privs_3 ++ (lw_privs_4 ++ (lw_privs_5 ++ (lw_privs_6)))))
def lw_tbl : List Cond := k2_sels lw_privs ++ tables_1
theorem lw_privs_ok : ∀ q ∈ lw_privs, lw_okq q := by
  show ∀ q ∈ lw_privs_1 ++ (lw_privs_2 ++ (lw_privs_3 ++ (lw_privs_4 ++ (lw_privs_5 ++ (lw_privs_6))))), lw_okq q
  exact List.forall_mem_append.mpr ⟨lw_r1, List.forall_mem_append.mpr ⟨lw_r2, List.forall_mem_append.mpr ⟨lw_r3, List.forall_mem_append.mpr ⟨lw_r4, List.forall_mem_append.mpr ⟨lw_r5, lw_r6⟩⟩⟩⟩⟩
end
section
-- classes: names, fields in the order of their slots
def fd_T0 : u_T := fun k => match k with
  | 0 => ("FacingDoors", "text", "LFacingDoors$Text;", true)
  | 1 => ("FacingDoors", "plan", "LFacingDoors$Plan;", true)
  | 2 => ("FacingDoors", "draft", "LFacingDoors$Plan;", true)
  | 3 => ("FacingDoors", "reader", "LFacingDoors$Reader;", true)
  | 4 => ("FacingDoors", "scene", "LFacingDoors$Scene;", true)
  | 5 => ("FacingDoors", "history", "LFacingDoors$History;", true)
  | 6 => ("FacingDoors", "images", "[LFacingDoors$Image;", true)
  | 7 => ("FacingDoors", "sights", "LFacingDoors$Sights;", true)
  | 8 => ("FacingDoors", "search", "LFacingDoors$TurnSearch;", true)
  | 9 => ("FacingDoors", "told", "LFacingDoors$Told;", true)
  | 10 => ("FacingDoors", "dues", "[I", true)
  | 11 => ("FacingDoors", "relief", "[I", true)
  | _ => ("FacingDoors", "trace", "J", false)
def fd_t0 : Nat → FieldType := fun k => match k with
  | 0 => .object "FacingDoors$Text"
  | 1 => .object "FacingDoors$Plan"
  | 2 => .object "FacingDoors$Plan"
  | 3 => .object "FacingDoors$Reader"
  | 4 => .object "FacingDoors$Scene"
  | 5 => .object "FacingDoors$History"
  | 6 => .array (.object "FacingDoors$Image")
  | 7 => .object "FacingDoors$Sights"
  | 8 => .object "FacingDoors$TurnSearch"
  | 9 => .object "FacingDoors$Told"
  | 10 => .array (.int)
  | 11 => .array (.int)
  | _ => .long
def fd_T1 : u_T := fun k => match k with
  | 0 => ("FacingDoors$History", "scenes", "[LFacingDoors$Scene;", true)
  | _ => ("FacingDoors$History", "size", "I", false)
def fd_t1 : Nat → FieldType := fun k => match k with
  | 0 => .array (.object "FacingDoors$Scene")
  | _ => .int
def fd_T2 : u_T := fun k => match k with
  | 0 => ("FacingDoors$Image", "scene", "LFacingDoors$Scene;", true)
  | 1 => ("FacingDoors$Image", "history", "LFacingDoors$History;", true)
  | _ => ("FacingDoors$Image", "kept", "Z", false)
def fd_t2 : Nat → FieldType := fun k => match k with
  | 0 => .object "FacingDoors$Scene"
  | 1 => .object "FacingDoors$History"
  | _ => .boolean
def fd_T3 : u_T := fun k => match k with
  | 0 => ("FacingDoors$Plan", "wide", "I", false)
  | 1 => ("FacingDoors$Plan", "rows", "I", false)
  | 2 => ("FacingDoors$Plan", "doors", "I", false)
  | 3 => ("FacingDoors$Plan", "price", "I", false)
  | 4 => ("FacingDoors$Plan", "sight", "I", false)
  | 5 => ("FacingDoors$Plan", "ground", "[I", true)
  | 6 => ("FacingDoors$Plan", "doorX", "[I", true)
  | 7 => ("FacingDoors$Plan", "doorY", "[I", true)
  | _ => ("FacingDoors$Plan", "doorFacing", "[I", true)
def fd_t3 : Nat → FieldType := fun k => match k with
  | 0 => .int
  | 1 => .int
  | 2 => .int
  | 3 => .int
  | 4 => .int
  | 5 => .array (.int)
  | 6 => .array (.int)
  | 7 => .array (.int)
  | _ => .array (.int)
def fd_T4 : u_T := fun k => match k with
  | 0 => ("FacingDoors$Reader", "text", "LFacingDoors$Text;", true)
  | 1 => ("FacingDoors$Reader", "plan", "LFacingDoors$Plan;", true)
  | 2 => ("FacingDoors$Reader", "next", "I", false)
  | 3 => ("FacingDoors$Reader", "start", "I", false)
  | 4 => ("FacingDoors$Reader", "token", "I", false)
  | 5 => ("FacingDoors$Reader", "value", "I", false)
  | 6 => ("FacingDoors$Reader", "items", "I", false)
  | 7 => ("FacingDoors$Reader", "priceTold", "Z", false)
  | _ => ("FacingDoors$Reader", "sightTold", "Z", false)
def fd_t4 : Nat → FieldType := fun k => match k with
  | 0 => .object "FacingDoors$Text"
  | 1 => .object "FacingDoors$Plan"
  | 2 => .int
  | 3 => .int
  | 4 => .int
  | 5 => .int
  | 6 => .int
  | 7 => .boolean
  | _ => .boolean
def fd_T5 : u_T := fun k => match k with
  | 0 => ("FacingDoors$Scene", "x", "[I", true)
  | 1 => ("FacingDoors$Scene", "y", "[I", true)
  | 2 => ("FacingDoors$Scene", "facing", "[I", true)
  | 3 => ("FacingDoors$Scene", "owed", "[I", true)
  | 4 => ("FacingDoors$Scene", "openBits", "I", false)
  | 5 => ("FacingDoors$Scene", "carts", "J", false)
  | 6 => ("FacingDoors$Scene", "inLeaf", "Z", false)
  | _ => ("FacingDoors$Scene", "foggy", "Z", false)
def fd_t5 : Nat → FieldType := fun k => match k with
  | 0 => .array (.int)
  | 1 => .array (.int)
  | 2 => .array (.int)
  | 3 => .array (.int)
  | 4 => .int
  | 5 => .long
  | 6 => .boolean
  | _ => .boolean
def fd_T6 : u_T := fun k => match k with
  | 0 => ("FacingDoors$Sights", "plan", "LFacingDoors$Plan;", true)
  | _ => ("FacingDoors$Sights", "scene", "LFacingDoors$Scene;", true)
def fd_t6 : Nat → FieldType := fun k => match k with
  | 0 => .object "FacingDoors$Plan"
  | _ => .object "FacingDoors$Scene"
def fd_T7 : u_T := fun k => match k with
  | 0 => ("FacingDoors$Text", "bytes", "[I", true)
  | _ => ("FacingDoors$Text", "length", "I", false)
def fd_t7 : Nat → FieldType := fun k => match k with
  | 0 => .array (.int)
  | _ => .int
def fd_T8 : u_T := fun k => match k with
  | 0 => ("FacingDoors$Told", "ofDoor", "[I", true)
  | 1 => ("FacingDoors$Told", "wasDue", "[I", true)
  | _ => ("FacingDoors$Told", "size", "I", false)
def fd_t8 : Nat → FieldType := fun k => match k with
  | 0 => .array (.int)
  | 1 => .array (.int)
  | _ => .int
def fd_T9 : u_T := fun k => match k with
  | 0 => ("FacingDoors$TurnSearch", "plan", "LFacingDoors$Plan;", true)
  | 1 => ("FacingDoors$TurnSearch", "scene", "LFacingDoors$Scene;", true)
  | 2 => ("FacingDoors$TurnSearch", "sights", "LFacingDoors$Sights;", true)
  | 3 => ("FacingDoors$TurnSearch", "seen", "[I", true)
  | 4 => ("FacingDoors$TurnSearch", "allowed", "[Z", true)
  | 5 => ("FacingDoors$TurnSearch", "chosen", "[I", true)
  | 6 => ("FacingDoors$TurnSearch", "best", "[I", true)
  | 7 => ("FacingDoors$TurnSearch", "found", "Z", false)
  | 8 => ("FacingDoors$TurnSearch", "leastDue", "I", false)
  | _ => ("FacingDoors$TurnSearch", "fewestTurned", "I", false)
def fd_t9 : Nat → FieldType := fun k => match k with
  | 0 => .object "FacingDoors$Plan"
  | 1 => .object "FacingDoors$Scene"
  | 2 => .object "FacingDoors$Sights"
  | 3 => .array (.int)
  | 4 => .array (.boolean)
  | 5 => .array (.int)
  | 6 => .array (.int)
  | 7 => .boolean
  | 8 => .int
  | _ => .int
def fd_T10 : u_T := fun k => match k with
  | 0 => ("FacingDoorsModel", "trace", "J", false)
  | 1 => ("FacingDoorsModel", "text", "[B", true)
  | 2 => ("FacingDoorsModel", "typed", "I", false)
  | 3 => ("FacingDoorsModel", "wide", "[I", true)
  | 4 => ("FacingDoorsModel", "rows", "[I", true)
  | 5 => ("FacingDoorsModel", "ground", "[I", true)
  | 6 => ("FacingDoorsModel", "doors", "[I", true)
  | 7 => ("FacingDoorsModel", "draftPlace", "[I", true)
  | 8 => ("FacingDoorsModel", "draftWay", "[I", true)
  | 9 => ("FacingDoorsModel", "law", "[I", true)
  | 10 => ("FacingDoorsModel", "lawsTold", "I", false)
  | 11 => ("FacingDoorsModel", "at", "I", false)
  | 12 => ("FacingDoorsModel", "start", "I", false)
  | 13 => ("FacingDoorsModel", "sort", "I", false)
  | 14 => ("FacingDoorsModel", "value", "I", false)
  | 15 => ("FacingDoorsModel", "fault", "I", false)
  | 16 => ("FacingDoorsModel", "now", "[I", true)
  | 17 => ("FacingDoorsModel", "isKept", "[Z", true)
  | 18 => ("FacingDoorsModel", "way", "[I", true)
  | 19 => ("FacingDoorsModel", "open", "I", false)
  | 20 => ("FacingDoorsModel", "fog", "Z", false)
  | 21 => ("FacingDoorsModel", "toldDoor", "[I", true)
  | 22 => ("FacingDoorsModel", "toldDue", "[I", true)
  | _ => ("FacingDoorsModel", "told", "I", false)
def fd_t10 : Nat → FieldType := fun k => match k with
  | 0 => .long
  | 1 => .array (.byte)
  | 2 => .int
  | 3 => .array (.int)
  | 4 => .array (.int)
  | 5 => .array (.int)
  | 6 => .array (.int)
  | 7 => .array (.int)
  | 8 => .array (.int)
  | 9 => .array (.int)
  | 10 => .int
  | 11 => .int
  | 12 => .int
  | 13 => .int
  | 14 => .int
  | 15 => .int
  | 16 => .array (.int)
  | 17 => .array (.boolean)
  | 18 => .array (.int)
  | 19 => .int
  | 20 => .boolean
  | 21 => .array (.int)
  | 22 => .array (.int)
  | _ => .int
def fd_cl : List vw_C := [("FacingDoors", fd_T0, 13), ("FacingDoors$History", fd_T1, 2), ("FacingDoors$Image", fd_T2, 3), ("FacingDoors$Plan", fd_T3, 9), ("FacingDoors$Reader", fd_T4, 9), ("FacingDoors$Scene", fd_T5, 8), ("FacingDoors$Sights", fd_T6, 2), ("FacingDoors$Text", fd_T7, 2), ("FacingDoors$Told", fd_T8, 3), ("FacingDoors$TurnSearch", fd_T9, 10), ("FacingDoorsModel", fd_T10, 24)]
def fd_ty (ci : Nat) : Nat → FieldType := match ci with
  | 0 => fd_t0
  | 1 => fd_t1
  | 2 => fd_t2
  | 3 => fd_t3
  | 4 => fd_t4
  | 5 => fd_t5
  | 6 => fd_t6
  | 7 => fd_t7
  | 8 => fd_t8
  | 9 => fd_t9
  | _ => fd_t10
def fd_dfl (ci k : Nat) : Int := match fd_ty ci k with
  | .int => 0
  | .long => 0
  | .boolean => 0
  | _ => 1000
-- the shapes of the cells that the two constructors make, in their order
def fd_NC : Nat := 213
def fd_SH (c : Nat) : Nat × Nat := (bif Nat.ble 101 c then (bif Nat.ble 160 c then (bif Nat.ble 194 c then (bif Nat.ble 204 c then (bif Nat.ble 208 c then (bif Nat.ble 210 c then (bif Nat.ble 213 c then (99, 0) else (20, 6)) else (bif Nat.ble 209 c then (22, 2) else (20, 927))) else (bif Nat.ble 205 c then (bif Nat.ble 207 c then (20, 4) else (20, 6)) else (20, 2))) else (bif Nat.ble 200 c then (bif Nat.ble 201 c then (bif Nat.ble 203 c then (20, 98) else (20, 2)) else (21, 150)) else (bif Nat.ble 195 c then (bif Nat.ble 199 c then (10, 24) else (20, 6)) else (5, 8)))) else (bif Nat.ble 175 c then (bif Nat.ble 184 c then (bif Nat.ble 189 c then (bif Nat.ble 190 c then (20, 6) else (5, 8)) else (bif Nat.ble 185 c then (20, 6) else (5, 8))) else (bif Nat.ble 179 c then (bif Nat.ble 180 c then (20, 6) else (5, 8)) else (20, 6))) else (bif Nat.ble 169 c then (bif Nat.ble 170 c then (bif Nat.ble 174 c then (5, 8) else (20, 6)) else (5, 8)) else (bif Nat.ble 164 c then (bif Nat.ble 165 c then (20, 6) else (5, 8)) else (20, 6))))) else (bif Nat.ble 132 c then (bif Nat.ble 147 c then (bif Nat.ble 150 c then (bif Nat.ble 155 c then (bif Nat.ble 159 c then (5, 8) else (20, 6)) else (bif Nat.ble 154 c then (5, 8) else (20, 6))) else (bif Nat.ble 148 c then (bif Nat.ble 149 c then (5, 8) else (23, 10)) else (1, 2))) else (bif Nat.ble 141 c then (bif Nat.ble 142 c then (bif Nat.ble 143 c then (20, 6) else (5, 8)) else (2, 3)) else (bif Nat.ble 136 c then (bif Nat.ble 137 c then (20, 6) else (5, 8)) else (20, 6)))) else (bif Nat.ble 116 c then (bif Nat.ble 122 c then (bif Nat.ble 127 c then (bif Nat.ble 131 c then (5, 8) else (20, 6)) else (bif Nat.ble 126 c then (5, 8) else (20, 6))) else (bif Nat.ble 117 c then (bif Nat.ble 121 c then (5, 8) else (20, 6)) else (5, 8))) else (bif Nat.ble 107 c then (bif Nat.ble 111 c then (bif Nat.ble 112 c then (20, 6) else (5, 8)) else (20, 6)) else (bif Nat.ble 102 c then (bif Nat.ble 106 c then (5, 8) else (20, 6)) else (5, 8)))))) else (bif Nat.ble 51 c then (bif Nat.ble 76 c then (bif Nat.ble 85 c then (bif Nat.ble 91 c then (bif Nat.ble 96 c then (bif Nat.ble 97 c then (20, 6) else (5, 8)) else (bif Nat.ble 92 c then (20, 6) else (5, 8))) else (bif Nat.ble 89 c then (bif Nat.ble 90 c then (23, 10) else (1, 2)) else (20, 6))) else (bif Nat.ble 82 c then (bif Nat.ble 83 c then (bif Nat.ble 84 c then (5, 8) else (2, 3)) else (20, 49)) else (bif Nat.ble 78 c then (bif Nat.ble 79 c then (20, 6) else (8, 3)) else (20, 6)))) else (bif Nat.ble 66 c then (bif Nat.ble 72 c then (bif Nat.ble 74 c then (bif Nat.ble 75 c then (22, 24) else (20, 24)) else (bif Nat.ble 73 c then (9, 10) else (6, 2))) else (bif Nat.ble 67 c then (bif Nat.ble 71 c then (24, 2) else (20, 6)) else (5, 8))) else (bif Nat.ble 57 c then (bif Nat.ble 61 c then (bif Nat.ble 62 c then (20, 6) else (5, 8)) else (20, 6)) else (bif Nat.ble 52 c then (bif Nat.ble 56 c then (5, 8) else (20, 6)) else (5, 8))))) else (bif Nat.ble 20 c then (bif Nat.ble 32 c then (bif Nat.ble 41 c then (bif Nat.ble 46 c then (bif Nat.ble 47 c then (20, 6) else (5, 8)) else (bif Nat.ble 42 c then (20, 6) else (5, 8))) else (bif Nat.ble 36 c then (bif Nat.ble 37 c then (20, 6) else (5, 8)) else (20, 6))) else (bif Nat.ble 26 c then (bif Nat.ble 27 c then (bif Nat.ble 31 c then (5, 8) else (20, 6)) else (5, 8)) else (bif Nat.ble 21 c then (bif Nat.ble 22 c then (20, 6) else (5, 8)) else (23, 10)))) else (bif Nat.ble 8 c then (bif Nat.ble 13 c then (bif Nat.ble 15 c then (bif Nat.ble 19 c then (1, 2) else (20, 6)) else (bif Nat.ble 14 c then (5, 8) else (4, 9))) else (bif Nat.ble 9 c then (bif Nat.ble 10 c then (20, 6) else (20, 49)) else (3, 9))) else (bif Nat.ble 3 c then (bif Nat.ble 4 c then (bif Nat.ble 5 c then (20, 6) else (20, 49)) else (3, 9)) else (bif Nat.ble 1 c then (bif Nat.ble 2 c then (20, 150) else (7, 2)) else (0, 13)))))))
def fd_rfr (c : Nat) : List (Option Nat) := (bif Nat.ble 74 c then (bif Nat.ble 90 c then (bif Nat.ble 147 c then (bif Nat.ble 199 c then (bif Nat.ble 200 c then [] else [none, some 200, none, some 201, some 202, some 203, some 204, some 205, some 206, some 207, none, none, none, none, none, none, some 208, some 209, some 210, none, none, some 211, some 212, none]) else (bif Nat.ble 148 c then [] else [some 148, none])) else (bif Nat.ble 141 c then (bif Nat.ble 142 c then [] else [some 142, some 147, none]) else [])) else (bif Nat.ble 83 c then (bif Nat.ble 84 c then (bif Nat.ble 89 c then [some 90, none] else []) else [some 84, some 89, none]) else (bif Nat.ble 78 c then (bif Nat.ble 79 c then [] else [some 79, some 80, none]) else []))) else (bif Nat.ble 9 c then (bif Nat.ble 19 c then (bif Nat.ble 72 c then (bif Nat.ble 73 c then [some 3, some 14, some 72, some 74, some 75, some 76, some 77, none, none, none] else [some 3, some 14]) else (bif Nat.ble 20 c then [] else [some 20, none])) else (bif Nat.ble 13 c then (bif Nat.ble 14 c then [] else [some 1, some 8, none, none, none, none, none, none, none]) else [])) else (bif Nat.ble 3 c then (bif Nat.ble 4 c then (bif Nat.ble 8 c then [none, none, none, none, none, some 9, some 10, some 11, some 12] else []) else [none, none, none, none, none, some 4, some 5, some 6, some 7]) else (bif Nat.ble 1 c then (bif Nat.ble 2 c then [] else [some 2, none]) else [some 1, some 3, some 8, some 13, some 14, some 19, some 71, some 72, some 73, some 78, some 81, some 82, none]))))
def fd_RF (c k : Nat) : Option Nat := bif Nat.beq (fd_SH c).1 5 then (bif Nat.ble 4 k then none else some (c + 1 + k)) else (fd_rfr c).getD k none
-- the methods: name, code, locals, what they return
abbrev fd_Ins : Type := Nat × List Int
def fd_ms : List (MethodName × ByteArray × Nat × Option FieldType) := [
  (⟨"FacingDoors", "<init>", "()V"⟩, prog_1_method_1_code, 2, none),
  (⟨"FacingDoors", "type", "(I)I"⟩, prog_1_method_2_code, 2, some .int),
  (⟨"FacingDoors", "clear", "()I"⟩, prog_1_method_3_code, 2, some .int),
  (⟨"FacingDoors", "quarter", "()I"⟩, prog_1_method_4_code, 3, some .int),
  (⟨"FacingDoors", "cell", "(II)I"⟩, prog_1_method_5_code, 4, some .int),
  (⟨"FacingDoors", "door", "(II)I"⟩, prog_1_method_6_code, 3, some .int),
  (⟨"FacingDoors", "hinges", "(II)I"⟩, prog_1_method_7_code, 4, some .int),
  (⟨"FacingDoors", "moves", "(II)I"⟩, prog_1_method_8_code, 5, some .int),
  (⟨"FacingDoors", "opens", "(II)I"⟩, prog_1_method_9_code, 3, some .int),
  (⟨"FacingDoors", "cart", "(III)I"⟩, prog_1_method_10_code, 5, some .int),
  (⟨"FacingDoors", "leaf", "(I)I"⟩, prog_1_method_11_code, 2, some .int),
  (⟨"FacingDoors", "fog", "(I)I"⟩, prog_1_method_12_code, 2, some .int),
  (⟨"FacingDoors", "bills", "()I"⟩, prog_1_method_13_code, 4, some .int),
  (⟨"FacingDoors", "undo", "()I"⟩, prog_1_method_14_code, 1, some .int),
  (⟨"FacingDoors", "now", "(I)I"⟩, prog_1_method_15_code, 2, some .int),
  (⟨"FacingDoors", "turn", "(I)I"⟩, prog_1_method_16_code, 2, some .int),
  (⟨"FacingDoors", "cartAt", "()I"⟩, prog_1_method_17_code, 6, some .int),
  (⟨"FacingDoors", "bound", "(I)I"⟩, prog_1_method_18_code, 6, some .int),
  (⟨"FacingDoors", "tells", "(II)I"⟩, prog_1_method_19_code, 3, some .int),
  (⟨"FacingDoors", "forget", "()I"⟩, prog_1_method_20_code, 2, some .int),
  (⟨"FacingDoors", "open", "(I)I"⟩, prog_1_method_21_code, 7, some .int),
  (⟨"FacingDoors", "odds", "(III)I"⟩, prog_1_method_22_code, 8, some .int),
  (⟨"FacingDoors", "mean", "(II)I"⟩, prog_1_method_23_code, 4, some .int),
  (⟨"FacingDoors", "mark", "(II)I"⟩, prog_1_method_24_code, 3, some .int),
  (⟨"FacingDoors", "keep", "(I)I"⟩, prog_1_method_25_code, 2, some .int),
  (⟨"FacingDoors", "back", "(I)I"⟩, prog_1_method_26_code, 2, some .int),
  (⟨"FacingDoors", "count", "(I)I"⟩, prog_1_method_27_code, 2, some .int),
  (⟨"FacingDoors", "trace", "()J"⟩, prog_1_method_28_code, 1, some .long),
  (⟨"FacingDoors", "doorMark", "(I)I"⟩, prog_1_method_29_code, 2, some .int),
  (⟨"FacingDoors", "porchMark", "(I)I"⟩, prog_1_method_30_code, 2, some .int),
  (⟨"FacingDoors", "gateMark", "(I)I"⟩, prog_1_method_31_code, 2, some .int),
  (⟨"FacingDoors", "bayMark", "(I)I"⟩, prog_1_method_32_code, 2, some .int),
  (⟨"FacingDoors", "schoolMark", "(I)I"⟩, prog_1_method_33_code, 2, some .int),
  (⟨"FacingDoors", "hatchMark", "(I)I"⟩, prog_1_method_34_code, 2, some .int),
  (⟨"FacingDoors", "addRelief", "(I)V"⟩, prog_1_method_35_code, 8, none),
  (⟨"FacingDoors", "lookUpDues", "()V"⟩, prog_1_method_36_code, 2, none),
  (⟨"FacingDoors", "dueOfSet", "(I)I"⟩, prog_1_method_37_code, 4, some .int),
  (⟨"FacingDoors", "weightOfSet", "(II)I"⟩, prog_1_method_38_code, 5, some .int),
  (⟨"FacingDoors", "isWay", "(I)Z"⟩, prog_1_method_39_code, 1, some .boolean),
  (⟨"FacingDoors", "isFlag", "(I)Z"⟩, prog_1_method_40_code, 1, some .boolean),
  (⟨"FacingDoors", "isTenths", "(I)Z"⟩, prog_1_method_41_code, 1, some .boolean),
  (⟨"FacingDoors", "isDueTold", "(I)Z"⟩, prog_1_method_42_code, 1, some .boolean),
  (⟨"FacingDoors", "isImage", "(I)Z"⟩, prog_1_method_43_code, 1, some .boolean),
  (⟨"FacingDoors", "flag", "(Z)I"⟩, prog_1_method_44_code, 1, some .int),
  (⟨"FacingDoors", "hasBit", "(II)Z"⟩, prog_1_method_45_code, 2, some .boolean),
  (⟨"FacingDoors", "bitOf", "(I)I"⟩, prog_1_method_46_code, 1, some .int),
  (⟨"FacingDoors", "placeOf", "(II)I"⟩, prog_1_method_47_code, 2, some .int),
  (⟨"FacingDoors", "cartBit", "(II)J"⟩, prog_1_method_48_code, 2, some .long),
  (⟨"FacingDoors", "wayBack", "(I)I"⟩, prog_1_method_49_code, 1, some .int),
  (⟨"FacingDoors", "partInLeastTerms", "(III)I"⟩, prog_1_method_50_code, 5, some .int),
  (⟨"FacingDoors", "commonDivisor", "(II)I"⟩, prog_1_method_51_code, 6, some .int),
  (⟨"FacingDoorsModel", "<init>", "()V"⟩, prog_12_method_1_code, 1, none),
  (⟨"FacingDoorsModel", "in", "(III)Z"⟩, prog_12_method_3_code, 3, some .boolean),
  (⟨"FacingDoorsModel", "type", "(I)I"⟩, prog_12_method_4_code, 2, some .int),
  (⟨"FacingDoorsModel", "clear", "()I"⟩, prog_12_method_5_code, 2, some .int),
  (⟨"FacingDoorsModel", "here", "()I"⟩, prog_12_method_6_code, 1, some .int),
  (⟨"FacingDoorsModel", "step", "()V"⟩, prog_12_method_7_code, 2, none),
  (⟨"FacingDoorsModel", "due", "(Z)I"⟩, prog_12_method_8_code, 3, some .int),
  (⟨"FacingDoorsModel", "number", "(II)I"⟩, prog_12_method_9_code, 3, some .int),
  (⟨"FacingDoorsModel", "mayBe", "(II)Z"⟩, prog_12_method_10_code, 3, some .boolean),
  (⟨"FacingDoorsModel", "groundOf", "(I)I"⟩, prog_12_method_11_code, 1, some .int),
  (⟨"FacingDoorsModel", "isFreeDraft", "(I)Z"⟩, prog_12_method_12_code, 4, some .boolean),
  (⟨"FacingDoorsModel", "readRow", "(I)V"⟩, prog_12_method_13_code, 5, none),
  (⟨"FacingDoorsModel", "plain", "()V"⟩, prog_12_method_14_code, 2, none),
  (⟨"FacingDoorsModel", "takeDraft", "()V"⟩, prog_12_method_15_code, 2, none),
  (⟨"FacingDoorsModel", "quarter", "()I"⟩, prog_12_method_16_code, 3, some .int),
  (⟨"FacingDoorsModel", "isDoor", "(I)Z"⟩, prog_12_method_17_code, 2, some .boolean),
  (⟨"FacingDoorsModel", "isCell", "(II)Z"⟩, prog_12_method_18_code, 3, some .boolean),
  (⟨"FacingDoorsModel", "hasCart", "(II)Z"⟩, prog_12_method_19_code, 3, some .boolean),
  (⟨"FacingDoorsModel", "doorAt", "(II)I"⟩, prog_12_method_20_code, 4, some .int),
  (⟨"FacingDoorsModel", "cell", "(II)I"⟩, prog_12_method_21_code, 4, some .int),
  (⟨"FacingDoorsModel", "manyOf", "(I)I"⟩, prog_12_method_22_code, 3, some .int),
  (⟨"FacingDoorsModel", "take", "()V"⟩, prog_12_method_23_code, 2, none),
  (⟨"FacingDoorsModel", "stepX", "(I)I"⟩, prog_12_method_24_code, 1, some .int),
  (⟨"FacingDoorsModel", "stepY", "(I)I"⟩, prog_12_method_25_code, 1, some .int),
  (⟨"FacingDoorsModel", "sees", "(I)I"⟩, prog_12_method_26_code, 6, some .int),
  (⟨"FacingDoorsModel", "dueOf", "(I)I"⟩, prog_12_method_27_code, 3, some .int),
  (⟨"FacingDoorsModel", "dues", "()I"⟩, prog_12_method_28_code, 3, some .int),
  (⟨"FacingDoorsModel", "hasWay", "(I)Z"⟩, prog_12_method_29_code, 2, some .boolean),
  (⟨"FacingDoorsModel", "seenBy", "(I)I"⟩, prog_12_method_30_code, 4, some .int),
  (⟨"FacingDoorsModel", "door", "(II)I"⟩, prog_12_method_31_code, 3, some .int),
  (⟨"FacingDoorsModel", "know", "()V"⟩, prog_12_method_32_code, 2, none),
  (⟨"FacingDoorsModel", "duesNow", "()I"⟩, prog_12_method_33_code, 1, some .int),
  (⟨"FacingDoorsModel", "hinges", "(II)I"⟩, prog_12_method_34_code, 4, some .int),
  (⟨"FacingDoorsModel", "moves", "(II)I"⟩, prog_12_method_35_code, 5, some .int),
  (⟨"FacingDoorsModel", "opens", "(II)I"⟩, prog_12_method_36_code, 3, some .int),
  (⟨"FacingDoorsModel", "carts", "()I"⟩, prog_12_method_37_code, 3, some .int),
  (⟨"FacingDoorsModel", "cart", "(III)I"⟩, prog_12_method_38_code, 4, some .int),
  (⟨"FacingDoorsModel", "set", "(II)I"⟩, prog_12_method_39_code, 3, some .int),
  (⟨"FacingDoorsModel", "leaf", "(I)I"⟩, prog_12_method_40_code, 2, some .int),
  (⟨"FacingDoorsModel", "fog", "(I)I"⟩, prog_12_method_41_code, 2, some .int),
  (⟨"FacingDoorsModel", "bills", "()I"⟩, prog_12_method_42_code, 3, some .int),
  (⟨"FacingDoorsModel", "undo", "()I"⟩, prog_12_method_43_code, 2, some .int),
  (⟨"FacingDoorsModel", "allHaveWays", "()Z"⟩, prog_12_method_44_code, 3, some .boolean),
  (⟨"FacingDoorsModel", "now", "(I)I"⟩, prog_12_method_45_code, 5, some .int),
  (⟨"FacingDoorsModel", "takeWays", "(I)I"⟩, prog_12_method_46_code, 5, some .int),
  (⟨"FacingDoorsModel", "codes", "()I"⟩, prog_12_method_47_code, 3, some .int),
  (⟨"FacingDoorsModel", "turn", "(I)I"⟩, prog_12_method_48_code, 7, some .int),
  (⟨"FacingDoorsModel", "cartAt", "()I"⟩, prog_12_method_49_code, 6, some .int),
  (⟨"FacingDoorsModel", "bound", "(I)I"⟩, prog_12_method_50_code, 9, some .int),
  (⟨"FacingDoorsModel", "tells", "(II)I"⟩, prog_12_method_51_code, 3, some .int),
  (⟨"FacingDoorsModel", "forget", "()I"⟩, prog_12_method_52_code, 2, some .int),
  (⟨"FacingDoorsModel", "open", "(I)I"⟩, prog_12_method_53_code, 8, some .int),
  (⟨"FacingDoorsModel", "sum", "(II)I"⟩, prog_12_method_54_code, 7, some .int),
  (⟨"FacingDoorsModel", "part", "(II)I"⟩, prog_12_method_55_code, 7, some .int),
  (⟨"FacingDoorsModel", "odds", "(III)I"⟩, prog_12_method_56_code, 4, some .int),
  (⟨"FacingDoorsModel", "mean", "(II)I"⟩, prog_12_method_57_code, 3, some .int),
  (⟨"FacingDoorsModel", "mark", "(II)I"⟩, prog_12_method_58_code, 6, some .int),
  (⟨"FacingDoorsModel", "keep", "(I)I"⟩, prog_12_method_59_code, 3, some .int),
  (⟨"FacingDoorsModel", "back", "(I)I"⟩, prog_12_method_60_code, 3, some .int),
  (⟨"FacingDoorsModel", "count", "(I)I"⟩, prog_12_method_61_code, 2, some .int),
  (⟨"FacingDoorsModel", "trace", "()J"⟩, prog_12_method_62_code, 1, some .long),
  (⟨"FacingDoors$History", "<init>", "()V"⟩, prog_2_method_1_code, 2, none),
  (⟨"FacingDoors$History", "push", "(LFacingDoors$Scene;)V"⟩, prog_2_method_2_code, 2, none),
  (⟨"FacingDoors$History", "loseOldest", "()V"⟩, prog_2_method_3_code, 3, none),
  (⟨"FacingDoors$History", "pop", "(LFacingDoors$Scene;)V"⟩, prog_2_method_4_code, 2, none),
  (⟨"FacingDoors$History", "copyFrom", "(LFacingDoors$History;)V"⟩, prog_2_method_5_code, 3, none),
  (⟨"FacingDoors$Image", "<init>", "()V"⟩, prog_3_method_1_code, 1, none),
  (⟨"FacingDoors$Image", "take", "(LFacingDoors$Scene;LFacingDoors$History;)V"⟩, prog_3_method_2_code, 3, none),
  (⟨"FacingDoors$Image", "give", "(LFacingDoors$Scene;LFacingDoors$History;)V"⟩, prog_3_method_3_code, 3, none),
  (⟨"FacingDoors$Plan", "<init>", "()V"⟩, prog_4_method_1_code, 1, none),
  (⟨"FacingDoors$Plan", "empty", "()V"⟩, prog_4_method_2_code, 1, none),
  (⟨"FacingDoors$Plan", "copyFrom", "(LFacingDoors$Plan;)V"⟩, prog_4_method_3_code, 2, none),
  (⟨"FacingDoors$Plan", "hasCell", "(II)Z"⟩, prog_4_method_4_code, 3, some .boolean),
  (⟨"FacingDoors$Plan", "hasDoor", "(I)Z"⟩, prog_4_method_5_code, 2, some .boolean),
  (⟨"FacingDoors$Plan", "groundAt", "(II)I"⟩, prog_4_method_6_code, 3, some .int),
  (⟨"FacingDoors$Plan", "isFreeForDoor", "(II)Z"⟩, prog_4_method_7_code, 4, some .boolean),
  (⟨"FacingDoors$Reader", "<init>", "(LFacingDoors$Text;LFacingDoors$Plan;)V"⟩, prog_5_method_1_code, 3, none),
  (⟨"FacingDoors$Reader", "read", "()I"⟩, prog_5_method_2_code, 2, some .int),
  (⟨"FacingDoors$Reader", "advance", "()V"⟩, prog_5_method_3_code, 2, none),
  (⟨"FacingDoors$Reader", "advanceOverNumber", "()V"⟩, prog_5_method_4_code, 2, none),
  (⟨"FacingDoors$Reader", "isDigit", "(I)Z"⟩, prog_5_method_5_code, 1, some .boolean),
  (⟨"FacingDoors$Reader", "takeItem", "()Z"⟩, prog_5_method_6_code, 1, some .boolean),
  (⟨"FacingDoors$Reader", "takeWide", "()Z"⟩, prog_5_method_7_code, 1, some .boolean),
  (⟨"FacingDoors$Reader", "takeRow", "()Z"⟩, prog_5_method_8_code, 3, some .boolean),
  (⟨"FacingDoors$Reader", "nextGround", "()I"⟩, prog_5_method_9_code, 1, some .int),
  (⟨"FacingDoors$Reader", "takeDoor", "()Z"⟩, prog_5_method_10_code, 3, some .boolean),
  (⟨"FacingDoors$Reader", "takePrice", "()Z"⟩, prog_5_method_11_code, 1, some .boolean),
  (⟨"FacingDoors$Reader", "takeSight", "()Z"⟩, prog_5_method_12_code, 1, some .boolean),
  (⟨"FacingDoors$Reader", "nextIsNumber", "(II)Z"⟩, prog_5_method_13_code, 3, some .boolean),
  (⟨"FacingDoors$Reader", "takeEnd", "()Z"⟩, prog_5_method_14_code, 1, some .boolean),
  (⟨"FacingDoors$Scene", "<init>", "()V"⟩, prog_6_method_1_code, 1, none),
  (⟨"FacingDoors$Scene", "begin", "(LFacingDoors$Plan;)V"⟩, prog_6_method_2_code, 3, none),
  (⟨"FacingDoors$Scene", "copyFrom", "(LFacingDoors$Scene;)V"⟩, prog_6_method_3_code, 2, none),
  (⟨"FacingDoors$Scene", "isOpen", "(I)Z"⟩, prog_6_method_4_code, 2, some .boolean),
  (⟨"FacingDoors$Scene", "hasCart", "(II)Z"⟩, prog_6_method_5_code, 3, some .boolean),
  (⟨"FacingDoors$Scene", "isDoorOn", "(III)Z"⟩, prog_6_method_6_code, 4, some .boolean),
  (⟨"FacingDoors$Scene", "doorOn", "(III)I"⟩, prog_6_method_7_code, 5, some .int),
  (⟨"FacingDoors$Scene", "owedByAll", "(I)I"⟩, prog_6_method_8_code, 4, some .int),
  (⟨"FacingDoors$Sights", "<init>", "(LFacingDoors$Plan;LFacingDoors$Scene;)V"⟩, prog_7_method_1_code, 3, none),
  (⟨"FacingDoors$Sights", "isVacant", "(II)Z"⟩, prog_7_method_2_code, 3, some .boolean),
  (⟨"FacingDoors$Sights", "hidesWhatIsBehind", "(II)Z"⟩, prog_7_method_3_code, 4, some .boolean),
  (⟨"FacingDoors$Sights", "wouldSee", "(II)I"⟩, prog_7_method_4_code, 7, some .int),
  (⟨"FacingDoors$Sights", "seesWhom", "(I)I"⟩, prog_7_method_5_code, 2, some .int),
  (⟨"FacingDoors$Sights", "seenBy", "(I)I"⟩, prog_7_method_6_code, 4, some .int),
  (⟨"FacingDoors$Sights", "dueIfOpen", "(I)I"⟩, prog_7_method_7_code, 4, some .int),
  (⟨"FacingDoors$Sights", "dueOf", "(I)I"⟩, prog_7_method_8_code, 2, some .int),
  (⟨"FacingDoors$Sights", "dueOfAll", "()I"⟩, prog_7_method_9_code, 3, some .int),
  (⟨"FacingDoors$Sights", "pairs", "()I"⟩, prog_7_method_10_code, 4, some .int),
  (⟨"FacingDoors$Sights", "hasWayIn", "(II)Z"⟩, prog_7_method_11_code, 3, some .boolean),
  (⟨"FacingDoors$Sights", "whoHasWayIn", "()I"⟩, prog_7_method_12_code, 3, some .int),
  (⟨"FacingDoors$Sights", "eachCanHaveWayIn", "()Z"⟩, prog_7_method_13_code, 4, some .boolean),
  (⟨"FacingDoors$Sights", "mustSee", "(II)Z"⟩, prog_7_method_14_code, 4, some .boolean),
  (⟨"FacingDoors$Text", "<init>", "()V"⟩, prog_8_method_1_code, 1, none),
  (⟨"FacingDoors$Text", "append", "(I)V"⟩, prog_8_method_2_code, 2, none),
  (⟨"FacingDoors$Text", "byteAt", "(I)I"⟩, prog_8_method_3_code, 2, some .int),
  (⟨"FacingDoors$Told", "<init>", "()V"⟩, prog_9_method_1_code, 1, none),
  (⟨"FacingDoors$Told", "add", "(II)V"⟩, prog_9_method_2_code, 3, none),
  (⟨"FacingDoors$Told", "agreesWith", "(I[I)Z"⟩, prog_9_method_3_code, 5, some .boolean),
  (⟨"FacingDoors$TurnSearch", "<init>", "(LFacingDoors$Plan;LFacingDoors$Scene;LFacingDoors$Sights;)V"⟩, prog_10_method_1_code, 4, none),
  (⟨"FacingDoors$TurnSearch", "run", "()Z"⟩, prog_10_method_2_code, 3, some .boolean),
  (⟨"FacingDoors$TurnSearch", "choose", "(III)V"⟩, prog_10_method_3_code, 4, none),
  (⟨"FacingDoors$TurnSearch", "chooseEachWay", "(III)V"⟩, prog_10_method_4_code, 5, none),
  (⟨"FacingDoors$TurnSearch", "isBetter", "(II)Z"⟩, prog_10_method_5_code, 3, some .boolean),
  (⟨"FacingDoors$TurnSearch", "dueThatComes", "(I)I"⟩, prog_10_method_6_code, 4, some .int),
  (⟨"FacingDoors$TurnSearch", "priceFor", "(I)I"⟩, prog_10_method_7_code, 2, some .int),
  (⟨"java/lang/Integer", "bitCount", "(I)I"⟩, prog_13_method_49_code, 1, some .int)]
-- FacingDoors.<init> ()V
def fd_c0 : List fd_Ins := [(2, [0, 0]), (42, [1, 113]), (2, [0, 0]), (37, [7, 7, 116]), (24, []), (122, [163, 1, 9, 1, 118]), (28, [0, 0, 2, 10, 0, 1, 379]), (2, [0, 0]), (37, [3, 16, 132]), (24, []), (122, [120, 1, 18, 1, 134]), (28, [0, 1, 2, 19, 0, 1, 380]), (2, [0, 0]), (37, [3, 16, 132]), (24, []), (122, [120, 1, 18, 1, 134]), (28, [0, 2, 2, 23, 0, 1, 381]), (2, [0, 0]), (37, [4, 26, 189]), (24, []), (2, [0, 0]), (27, [0, 0, 2, 10, 0, 379]), (2, [0, 0]), (27, [0, 2, 2, 23, 0, 381]), (122, [127, 3, 28, 1, 191]), (28, [0, 3, 2, 31, 0, 1, 382]), (2, [0, 0]), (37, [5, 35, 223]), (24, []), (122, [141, 1, 37, 1, 225]), (28, [0, 4, 2, 38, 0, 1, 383]), (2, [0, 0]), (37, [1, 42, 269]), (24, []), (122, [112, 1, 44, 1, 271]), (28, [0, 5, 2, 45, 0, 1, 384]), (2, [0, 0]), (0, [2, 0, 0]), (39, [24, 49, 286]), (28, [0, 6, 2, 51, 0, 1, 385]), (2, [0, 0]), (37, [6, 55, 288]), (24, []), (2, [0, 0]), (27, [0, 1, 2, 19, 0, 380]), (2, [0, 0]), (27, [0, 4, 2, 38, 0, 383]), (122, [149, 3, 57, 1, 290]), (28, [0, 7, 2, 60, 0, 1, 386]), (2, [0, 0]), (37, [9, 64, 301]), (24, []), (2, [0, 0]), (27, [0, 1, 2, 19, 0, 380]), (2, [0, 0]), (27, [0, 4, 2, 38, 0, 383]), (2, [0, 0]), (27, [0, 7, 2, 60, 0, 386]), (122, [169, 4, 66, 1, 303]), (28, [0, 8, 2, 69, 0, 1, 387]), (2, [0, 0]), (37, [8, 73, 342]), (24, []), (122, [166, 1, 75, 1, 344]), (28, [0, 9, 2, 76, 0, 1, 388]), (2, [0, 0]), (0, [6, 1, 0]), (38, [20]), (28, [0, 10, 2, 80, 0, 1, 389]), (2, [0, 0]), (0, [49, 1, 0]), (38, [20]), (28, [0, 11, 2, 84, 0, 1, 390]), (2, [0, 0]), (17, [0, 0, 0]), (28, [0, 12, 1, 87, 0, 0, 391]), (0, [0, 0, 0]), (3, [1, 0]), (1, [1, 0]), (2, [0, 0]), (27, [0, 6, 2, 51, 0, 385]), (36, []), (104, [92]), (2, [0, 0]), (27, [0, 6, 2, 51, 0, 385]), (1, [1, 0]), (37, [2, 49, 286]), (24, []), (122, [117, 1, 91, 1, 360]), (35, []), (5, [1, 1]), (100, [78]), (116, [])]
def fd_p0 : List Nat := [0, 1, 4, 5, 8, 9, 12, 15, 16, 19, 20, 23, 26, 27, 30, 31, 34, 37, 38, 41, 42, 43, 46, 47, 50, 53, 56, 57, 60, 61, 64, 67, 68, 71, 72, 75, 78, 79, 80, 83, 86, 87, 90, 91, 92, 95, 96, 99, 102, 105, 106, 109, 110, 111, 114, 115, 118, 119, 122, 125, 128, 129, 132, 133, 136, 139, 140, 142, 144, 147, 148, 150, 152, 155, 156, 157, 160, 161, 162, 163, 164, 167, 168, 171, 172, 175, 176, 179, 180, 183, 184, 187, 190]
-- FacingDoors.type (I)I
def fd_c1 : List fd_Ins := [(1, [1, 0]), (109, [5]), (1, [1, 0]), (0, [255, 2, 0]), (106, [7]), (0, [-1, 0, 0]), (114, []), (2, [0, 0]), (27, [0, 0, 2, 10, 0, 379]), (27, [7, 1, 0, 92, 1, 124]), (0, [150, 2, 0]), (103, [14]), (0, [-3, 1, 0]), (114, []), (2, [0, 0]), (27, [0, 0, 2, 10, 0, 379]), (1, [1, 0]), (120, [164, 2, 96, 1, 423]), (2, [0, 0]), (27, [0, 0, 2, 10, 0, 379]), (27, [7, 1, 0, 92, 1, 124]), (114, [])]
def fd_p1 : List Nat := [0, 1, 4, 5, 8, 11, 12, 13, 14, 17, 20, 23, 26, 28, 29, 30, 33, 34, 37, 38, 41, 44]
-- FacingDoors.clear ()I
def fd_c2 : List fd_Ins := [(2, [0, 0]), (27, [0, 0, 2, 10, 0, 379]), (27, [7, 1, 0, 92, 1, 124]), (3, [1, 0]), (2, [0, 0]), (27, [0, 0, 2, 10, 0, 379]), (0, [0, 0, 0]), (28, [7, 1, 0, 92, 1, 0, 124]), (1, [1, 0]), (114, [])]
def fd_p2 : List Nat := [0, 1, 4, 7, 8, 9, 12, 13, 16, 17]
-- FacingDoors.quarter ()I
def fd_c3 : List fd_Ins := [(2, [0, 0]), (27, [0, 3, 2, 31, 0, 382]), (120, [128, 1, 100, 1, 435]), (3, [1, 0]), (1, [1, 0]), (110, [8]), (1, [1, 0]), (114, []), (2, [0, 0]), (27, [0, 0, 2, 10, 0, 379]), (0, [0, 0, 0]), (28, [7, 1, 0, 92, 1, 0, 124]), (2, [0, 0]), (27, [0, 1, 2, 19, 0, 380]), (2, [0, 0]), (27, [0, 2, 2, 23, 0, 381]), (120, [122, 2, 104, 1, 513]), (2, [0, 0]), (27, [0, 4, 2, 38, 0, 383]), (2, [0, 0]), (27, [0, 1, 2, 19, 0, 380]), (120, [142, 2, 108, 1, 520]), (2, [0, 0]), (27, [0, 5, 2, 45, 0, 384]), (0, [0, 0, 0]), (28, [1, 1, 0, 111, 1, 0, 280]), (2, [0, 0]), (27, [0, 9, 2, 76, 0, 388]), (0, [0, 0, 0]), (28, [8, 2, 0, 114, 1, 0, 351]), (0, [0, 0, 0]), (3, [2, 0]), (1, [2, 0]), (2, [0, 0]), (27, [0, 6, 2, 51, 0, 385]), (36, []), (104, [45]), (2, [0, 0]), (27, [0, 6, 2, 51, 0, 385]), (1, [2, 0]), (34, []), (0, [0, 0, 0]), (28, [2, 2, 3, 115, 1, 0, 371]), (5, [2, 1]), (100, [32]), (1, [1, 0]), (114, [])]
def fd_p3 : List Nat := [0, 1, 4, 7, 8, 9, 12, 13, 14, 15, 18, 19, 22, 23, 26, 27, 30, 33, 34, 37, 38, 41, 44, 45, 48, 49, 52, 53, 56, 57, 60, 61, 62, 63, 64, 67, 68, 71, 72, 75, 76, 77, 78, 81, 84, 87, 88]
-- FacingDoors.cell (II)I
def fd_c4 : List fd_Ins := [(2, [0, 0]), (27, [0, 1, 2, 19, 0, 380]), (1, [1, 0]), (1, [2, 0]), (120, [123, 3, 119, 1, 531]), (108, [8]), (0, [-1, 0, 0]), (114, []), (2, [0, 0]), (27, [0, 4, 2, 38, 0, 383]), (1, [1, 0]), (1, [2, 0]), (2, [0, 0]), (27, [0, 1, 2, 19, 0, 380]), (27, [3, 2, 0, 123, 1, 148]), (120, [147, 4, 126, 1, 532]), (3, [3, 0]), (1, [3, 0]), (0, [-1, 0, 0]), (101, [24]), (0, [10, 1, 0]), (1, [3, 0]), (6, []), (114, []), (2, [0, 0]), (27, [0, 4, 2, 38, 0, 383]), (1, [1, 0]), (1, [2, 0]), (120, [145, 3, 130, 1, 540]), (107, [32]), (0, [3, 0, 0]), (100, [37]), (2, [0, 0]), (27, [0, 1, 2, 19, 0, 380]), (1, [1, 0]), (1, [2, 0]), (120, [125, 3, 133, 1, 548]), (114, [])]
def fd_p4 : List Nat := [0, 1, 4, 5, 6, 9, 12, 13, 14, 15, 18, 19, 20, 21, 24, 27, 30, 31, 32, 33, 36, 38, 39, 40, 41, 42, 45, 46, 47, 50, 53, 54, 57, 58, 61, 62, 63, 66]
-- FacingDoors.door (II)I
def fd_c5 : List fd_Ins := [(2, [0, 0]), (27, [0, 1, 2, 19, 0, 380]), (1, [1, 0]), (120, [124, 2, 137, 1, 553]), (108, [7]), (0, [-1, 0, 0]), (114, []), (1, [2, 0]), (113, [66, 0, 9, 15, 21, 27, 33, 39, 44, 55, 60]), (2, [0, 0]), (27, [0, 4, 2, 38, 0, 383]), (27, [5, 0, 2, 141, 1, 231]), (1, [1, 0]), (30, []), (114, []), (2, [0, 0]), (27, [0, 4, 2, 38, 0, 383]), (27, [5, 1, 2, 144, 1, 234]), (1, [1, 0]), (30, []), (114, []), (2, [0, 0]), (27, [0, 4, 2, 38, 0, 383]), (27, [5, 2, 2, 147, 1, 238]), (1, [1, 0]), (30, []), (114, []), (2, [0, 0]), (27, [0, 4, 2, 38, 0, 383]), (1, [1, 0]), (120, [144, 2, 150, 1, 557]), (121, [43, 1, 153, 0, 564]), (114, []), (2, [0, 0]), (27, [0, 7, 2, 60, 0, 386]), (1, [1, 0]), (120, [153, 2, 157, 1, 567]), (121, [45, 1, 161, 0, 588]), (114, []), (2, [0, 0]), (27, [0, 7, 2, 60, 0, 386]), (1, [1, 0]), (120, [156, 2, 164, 1, 589]), (114, []), (2, [0, 0]), (27, [0, 7, 2, 60, 0, 386]), (1, [1, 0]), (2, [0, 0]), (27, [0, 4, 2, 38, 0, 383]), (27, [5, 2, 2, 147, 1, 238]), (1, [1, 0]), (30, []), (120, [159, 3, 167, 1, 600]), (121, [43, 1, 153, 0, 564]), (114, []), (2, [0, 0]), (27, [0, 7, 2, 60, 0, 386]), (1, [1, 0]), (120, [154, 2, 170, 1, 608]), (114, []), (2, [0, 0]), (27, [0, 4, 2, 38, 0, 383]), (27, [5, 3, 2, 173, 1, 240]), (1, [1, 0]), (30, []), (114, []), (0, [-1, 0, 0]), (114, [])]
def fd_p5 : List Nat := [0, 1, 4, 5, 8, 11, 12, 13, 14, 64, 65, 68, 71, 72, 73, 74, 75, 78, 81, 82, 83, 84, 85, 88, 91, 92, 93, 94, 95, 98, 99, 102, 105, 106, 107, 110, 111, 114, 117, 118, 119, 122, 123, 126, 127, 128, 131, 132, 133, 136, 139, 140, 141, 144, 147, 148, 149, 152, 153, 156, 157, 158, 161, 164, 165, 166, 167, 168]
-- FacingDoors.hinges (II)I
def fd_c6 : List fd_Ins := [(2, [0, 0]), (27, [0, 1, 2, 19, 0, 380]), (1, [1, 0]), (120, [124, 2, 137, 1, 553]), (107, [8]), (1, [2, 0]), (121, [38, 1, 176, 0, 618]), (108, [10]), (0, [-1, 0, 0]), (114, []), (2, [0, 0]), (27, [0, 4, 2, 38, 0, 383]), (27, [5, 2, 2, 147, 1, 238]), (1, [1, 0]), (30, []), (3, [3, 0]), (1, [3, 0]), (1, [2, 0]), (102, [21]), (0, [-2, 1, 0]), (114, []), (2, [0, 0]), (27, [0, 5, 2, 45, 0, 384]), (2, [0, 0]), (27, [0, 4, 2, 38, 0, 383]), (120, [113, 2, 179, 1, 621]), (2, [0, 0]), (27, [0, 4, 2, 38, 0, 383]), (27, [5, 2, 2, 147, 1, 238]), (1, [1, 0]), (1, [2, 0]), (31, []), (1, [3, 0]), (114, [])]
def fd_p6 : List Nat := [0, 1, 4, 5, 8, 11, 12, 15, 18, 19, 20, 21, 24, 27, 28, 29, 30, 31, 32, 35, 37, 38, 39, 42, 43, 46, 49, 50, 53, 56, 57, 58, 59, 60]
-- FacingDoors.moves (II)I
def fd_c7 : List fd_Ins := [(2, [0, 0]), (27, [0, 1, 2, 19, 0, 380]), (1, [1, 0]), (120, [124, 2, 137, 1, 553]), (107, [8]), (1, [2, 0]), (121, [38, 1, 176, 0, 618]), (108, [10]), (0, [-1, 0, 0]), (114, []), (2, [0, 0]), (27, [0, 4, 2, 38, 0, 383]), (27, [5, 0, 2, 141, 1, 231]), (1, [1, 0]), (30, []), (29, [1001, 183, 0, 638]), (1, [2, 0]), (43, []), (6, []), (3, [3, 0]), (2, [0, 0]), (27, [0, 4, 2, 38, 0, 383]), (27, [5, 1, 2, 144, 1, 234]), (1, [1, 0]), (30, []), (29, [1002, 186, 0, 639]), (1, [2, 0]), (43, []), (6, []), (3, [4, 1]), (2, [0, 0]), (27, [0, 7, 2, 60, 0, 386]), (1, [3, 0]), (1, [4, 1]), (120, [150, 3, 189, 1, 640]), (108, [38]), (0, [-2, 1, 0]), (114, []), (2, [0, 0]), (27, [0, 5, 2, 45, 0, 384]), (2, [0, 0]), (27, [0, 4, 2, 38, 0, 383]), (120, [113, 2, 179, 1, 621]), (2, [0, 0]), (27, [0, 4, 2, 38, 0, 383]), (27, [5, 0, 2, 141, 1, 231]), (1, [1, 0]), (1, [3, 0]), (31, []), (2, [0, 0]), (27, [0, 4, 2, 38, 0, 383]), (27, [5, 1, 2, 144, 1, 234]), (1, [1, 0]), (1, [4, 1]), (31, []), (2, [0, 0]), (27, [0, 5, 2, 45, 0, 384]), (27, [1, 1, 0, 111, 1, 280]), (114, [])]
def fd_p7 : List Nat := [0, 1, 4, 5, 8, 11, 12, 15, 18, 19, 20, 21, 24, 27, 28, 29, 32, 33, 34, 35, 36, 37, 40, 43, 44, 45, 48, 49, 50, 51, 53, 54, 57, 58, 60, 63, 66, 68, 69, 70, 73, 74, 77, 80, 81, 84, 87, 88, 89, 90, 91, 94, 97, 98, 100, 101, 102, 105, 108]
-- FacingDoors.opens (II)I
def fd_c8 : List fd_Ins := [(2, [0, 0]), (27, [0, 1, 2, 19, 0, 380]), (1, [1, 0]), (120, [124, 2, 137, 1, 553]), (107, [8]), (1, [2, 0]), (121, [39, 1, 192, 0, 645]), (108, [10]), (0, [-1, 0, 0]), (114, []), (2, [0, 0]), (27, [0, 4, 2, 38, 0, 383]), (1, [1, 0]), (120, [144, 2, 150, 1, 557]), (121, [43, 1, 153, 0, 564]), (1, [2, 0]), (102, [19]), (0, [-2, 1, 0]), (114, []), (2, [0, 0]), (27, [0, 5, 2, 45, 0, 384]), (2, [0, 0]), (27, [0, 4, 2, 38, 0, 383]), (120, [113, 2, 179, 1, 621]), (2, [0, 0]), (27, [0, 4, 2, 38, 0, 383]), (24, []), (27, [5, 4, 0, 195, 1, 242]), (1, [1, 0]), (121, [45, 1, 161, 0, 588]), (13, []), (28, [5, 4, 0, 195, 1, 0, 242]), (2, [0, 0]), (27, [0, 7, 2, 60, 0, 386]), (1, [1, 0]), (120, [156, 2, 164, 1, 589]), (114, [])]
def fd_p8 : List Nat := [0, 1, 4, 5, 8, 11, 12, 15, 18, 19, 20, 21, 24, 25, 28, 31, 32, 35, 37, 38, 39, 42, 43, 46, 49, 50, 53, 54, 57, 58, 61, 62, 65, 66, 69, 70, 73]
-- FacingDoors.cart (III)I
def fd_c9 : List fd_Ins := [(2, [0, 0]), (27, [0, 1, 2, 19, 0, 380]), (1, [1, 0]), (1, [2, 0]), (120, [123, 3, 119, 1, 531]), (107, [9]), (1, [3, 0]), (121, [39, 1, 192, 0, 645]), (108, [11]), (0, [-1, 0, 0]), (114, []), (1, [3, 0]), (0, [1, 0, 0]), (102, [20]), (2, [0, 0]), (27, [0, 7, 2, 60, 0, 386]), (1, [1, 0]), (1, [2, 0]), (120, [150, 3, 189, 1, 640]), (100, [25]), (2, [0, 0]), (27, [0, 4, 2, 38, 0, 383]), (1, [1, 0]), (1, [2, 0]), (120, [145, 3, 130, 1, 540]), (3, [4, 1]), (1, [4, 1]), (108, [30]), (0, [-2, 1, 0]), (114, []), (2, [0, 0]), (27, [0, 5, 2, 45, 0, 384]), (2, [0, 0]), (27, [0, 4, 2, 38, 0, 383]), (120, [113, 2, 179, 1, 621]), (2, [0, 0]), (27, [0, 4, 2, 38, 0, 383]), (24, []), (27, [5, 5, 1, 198, 1, 244]), (1, [1, 0]), (1, [2, 0]), (121, [47, 2, 201, 0, 652]), (19, []), (28, [5, 5, 1, 198, 1, 0, 244]), (2, [0, 0]), (27, [0, 4, 2, 38, 0, 383]), (27, [5, 5, 1, 198, 1, 244]), (41, [205, 653]), (114, [])]
def fd_p9 : List Nat := [0, 1, 4, 5, 6, 9, 12, 13, 16, 19, 20, 21, 22, 23, 26, 27, 30, 31, 32, 35, 38, 39, 42, 43, 44, 47, 49, 51, 54, 56, 57, 58, 61, 62, 65, 68, 69, 72, 73, 76, 77, 78, 81, 82, 85, 86, 89, 92, 95]
-- FacingDoors.leaf (I)I
def fd_c10 : List fd_Ins := [(1, [1, 0]), (121, [39, 1, 192, 0, 645]), (108, [5]), (0, [-1, 0, 0]), (114, []), (2, [0, 0]), (27, [0, 4, 2, 38, 0, 383]), (27, [5, 6, 3, 211, 1, 247]), (121, [43, 1, 153, 0, 564]), (1, [1, 0]), (102, [13]), (0, [-2, 1, 0]), (114, []), (2, [0, 0]), (27, [0, 5, 2, 45, 0, 384]), (2, [0, 0]), (27, [0, 4, 2, 38, 0, 383]), (120, [113, 2, 179, 1, 621]), (2, [0, 0]), (27, [0, 4, 2, 38, 0, 383]), (1, [1, 0]), (0, [1, 0, 0]), (102, [25]), (0, [1, 0, 0]), (100, [26]), (0, [0, 0, 0]), (28, [5, 6, 3, 211, 1, 0, 247]), (2, [0, 0]), (27, [0, 7, 2, 60, 0, 386]), (120, [157, 1, 214, 1, 663]), (114, [])]
def fd_p10 : List Nat := [0, 1, 4, 7, 8, 9, 10, 13, 16, 19, 20, 23, 25, 26, 27, 30, 31, 34, 37, 38, 41, 42, 43, 46, 47, 50, 51, 54, 55, 58, 61]
-- FacingDoors.fog (I)I
def fd_c11 : List fd_Ins := [(1, [1, 0]), (121, [39, 1, 192, 0, 645]), (108, [5]), (0, [-1, 0, 0]), (114, []), (2, [0, 0]), (27, [0, 4, 2, 38, 0, 383]), (27, [5, 7, 3, 217, 1, 251]), (121, [43, 1, 153, 0, 564]), (1, [1, 0]), (102, [13]), (0, [-2, 1, 0]), (114, []), (2, [0, 0]), (27, [0, 5, 2, 45, 0, 384]), (2, [0, 0]), (27, [0, 4, 2, 38, 0, 383]), (120, [113, 2, 179, 1, 621]), (2, [0, 0]), (27, [0, 4, 2, 38, 0, 383]), (1, [1, 0]), (0, [1, 0, 0]), (102, [25]), (0, [1, 0, 0]), (100, [26]), (0, [0, 0, 0]), (28, [5, 7, 3, 217, 1, 0, 251]), (2, [0, 0]), (27, [0, 7, 2, 60, 0, 386]), (120, [157, 1, 214, 1, 663]), (114, [])]
def fd_p11 : List Nat := [0, 1, 4, 7, 8, 9, 10, 13, 16, 19, 20, 23, 25, 26, 27, 30, 31, 34, 37, 38, 41, 42, 43, 46, 47, 50, 51, 54, 55, 58, 61]
-- FacingDoors.bills ()I
def fd_c12 : List fd_Ins := [(2, [0, 0]), (27, [0, 5, 2, 45, 0, 384]), (2, [0, 0]), (27, [0, 4, 2, 38, 0, 383]), (120, [113, 2, 179, 1, 621]), (0, [0, 0, 0]), (3, [1, 0]), (0, [0, 0, 0]), (3, [2, 0]), (1, [2, 0]), (2, [0, 0]), (27, [0, 1, 2, 19, 0, 380]), (27, [3, 2, 0, 123, 1, 148]), (104, [39]), (2, [0, 0]), (27, [0, 7, 2, 60, 0, 386]), (1, [2, 0]), (120, [156, 2, 164, 1, 589]), (3, [3, 0]), (2, [0, 0]), (27, [0, 4, 2, 38, 0, 383]), (27, [5, 3, 2, 173, 1, 240]), (1, [2, 0]), (0, [9999, 2, 0]), (2, [0, 0]), (27, [0, 4, 2, 38, 0, 383]), (27, [5, 3, 2, 173, 1, 240]), (1, [2, 0]), (30, []), (1, [3, 0]), (6, []), (44, [220, 676]), (31, []), (1, [1, 0]), (1, [3, 0]), (6, []), (3, [1, 0]), (5, [2, 1]), (100, [9]), (1, [1, 0]), (114, [])]
def fd_p12 : List Nat := [0, 1, 4, 5, 8, 11, 12, 13, 14, 15, 16, 17, 20, 23, 26, 27, 30, 31, 34, 35, 36, 39, 42, 43, 46, 47, 50, 53, 54, 55, 56, 57, 60, 61, 62, 63, 64, 65, 68, 71, 72]
-- FacingDoors.undo ()I
def fd_c13 : List fd_Ins := [(2, [0, 0]), (27, [0, 5, 2, 45, 0, 384]), (27, [1, 1, 0, 111, 1, 280]), (111, [6]), (0, [-2, 1, 0]), (114, []), (2, [0, 0]), (27, [0, 5, 2, 45, 0, 384]), (2, [0, 0]), (27, [0, 4, 2, 38, 0, 383]), (120, [115, 2, 225, 1, 681]), (2, [0, 0]), (27, [0, 5, 2, 45, 0, 384]), (27, [1, 1, 0, 111, 1, 280]), (114, [])]
def fd_p13 : List Nat := [0, 1, 4, 7, 10, 12, 13, 14, 17, 18, 21, 24, 25, 28, 31]
-- FacingDoors.now (I)I
def fd_c14 : List fd_Ins := [(1, [1, 0]), (113, [40, 0, 2, 6, 10, 14, 18, 23, 28, 33]), (2, [0, 0]), (27, [0, 7, 2, 60, 0, 386]), (120, [157, 1, 214, 1, 663]), (114, []), (2, [0, 0]), (27, [0, 4, 2, 38, 0, 383]), (27, [5, 4, 0, 195, 1, 242]), (114, []), (2, [0, 0]), (27, [0, 7, 2, 60, 0, 386]), (120, [160, 1, 228, 1, 689]), (114, []), (2, [0, 0]), (27, [0, 7, 2, 60, 0, 386]), (120, [158, 1, 231, 1, 694]), (114, []), (2, [0, 0]), (27, [0, 4, 2, 38, 0, 383]), (27, [5, 5, 1, 198, 1, 244]), (41, [205, 653]), (114, []), (2, [0, 0]), (27, [0, 4, 2, 38, 0, 383]), (27, [5, 6, 3, 211, 1, 247]), (121, [43, 1, 153, 0, 564]), (114, []), (2, [0, 0]), (27, [0, 4, 2, 38, 0, 383]), (27, [5, 7, 3, 217, 1, 251]), (121, [43, 1, 153, 0, 564]), (114, []), (2, [0, 0]), (27, [0, 4, 2, 38, 0, 383]), (2, [0, 0]), (27, [0, 1, 2, 19, 0, 380]), (27, [3, 2, 0, 123, 1, 148]), (120, [148, 2, 234, 1, 698]), (114, []), (0, [-1, 0, 0]), (114, [])]
def fd_p14 : List Nat := [0, 1, 48, 49, 52, 55, 56, 57, 60, 63, 64, 65, 68, 71, 72, 73, 76, 79, 80, 81, 84, 87, 90, 91, 92, 95, 98, 101, 102, 103, 106, 109, 112, 113, 114, 117, 118, 121, 124, 127, 128, 129]
-- FacingDoors.turn (I)I
def fd_c15 : List fd_Ins := [(1, [1, 0]), (0, [-1, 0, 0]), (101, [13]), (1, [1, 0]), (0, [-2, 1, 0]), (101, [13]), (2, [0, 0]), (27, [0, 1, 2, 19, 0, 380]), (1, [1, 0]), (120, [124, 2, 137, 1, 553]), (108, [13]), (0, [-1, 0, 0]), (114, []), (2, [0, 0]), (27, [0, 8, 2, 69, 0, 387]), (120, [170, 1, 237, 1, 706]), (108, [19]), (0, [-9, 1, 0]), (114, []), (1, [1, 0]), (0, [-1, 0, 0]), (102, [26]), (2, [0, 0]), (27, [0, 8, 2, 69, 0, 387]), (27, [9, 8, 0, 241, 1, 317]), (114, []), (1, [1, 0]), (0, [-2, 1, 0]), (102, [33]), (2, [0, 0]), (27, [0, 8, 2, 69, 0, 387]), (27, [9, 9, 0, 244, 1, 319]), (100, [38]), (2, [0, 0]), (27, [0, 8, 2, 69, 0, 387]), (27, [9, 6, 2, 247, 1, 314]), (1, [1, 0]), (30, []), (114, [])]
def fd_p15 : List Nat := [0, 1, 2, 5, 6, 8, 11, 12, 15, 16, 19, 22, 23, 24, 25, 28, 31, 34, 36, 37, 38, 39, 42, 43, 46, 49, 50, 51, 53, 56, 57, 60, 63, 66, 67, 70, 73, 74, 75]
-- FacingDoors.cartAt ()I
def fd_c16 : List fd_Ins := [(0, [0, 0, 0]), (3, [1, 0]), (1, [1, 0]), (2, [0, 0]), (27, [0, 11, 2, 84, 0, 390]), (36, []), (104, [14]), (2, [0, 0]), (27, [0, 11, 2, 84, 0, 390]), (1, [1, 0]), (0, [0, 0, 0]), (31, []), (5, [1, 1]), (100, [2]), (0, [0, 0, 0]), (3, [1, 0]), (1, [1, 0]), (2, [0, 0]), (27, [0, 1, 2, 19, 0, 380]), (27, [3, 2, 0, 123, 1, 148]), (104, [26]), (2, [0, 0]), (1, [1, 0]), (120, [34, 2, 250, 0, 740]), (5, [1, 1]), (100, [16]), (0, [-9, 1, 0]), (3, [1, 0]), (0, [0, 0, 0]), (3, [2, 0]), (0, [0, 0, 0]), (3, [3, 0]), (1, [3, 0]), (2, [0, 0]), (27, [0, 1, 2, 19, 0, 380]), (27, [3, 1, 0, 253, 1, 143]), (104, [66]), (0, [0, 0, 0]), (3, [4, 1]), (1, [4, 1]), (2, [0, 0]), (27, [0, 1, 2, 19, 0, 380]), (27, [3, 0, 0, 256, 1, 140]), (104, [64]), (2, [0, 0]), (27, [0, 11, 2, 84, 0, 390]), (1, [4, 1]), (1, [3, 0]), (121, [46, 2, 259, 0, 547]), (30, []), (3, [5, 1]), (1, [5, 1]), (1, [2, 0]), (106, [62]), (1, [5, 1]), (3, [2, 0]), (0, [10, 1, 0]), (1, [3, 0]), (8, []), (1, [4, 1]), (6, []), (3, [1, 0]), (5, [4, 1]), (100, [39]), (5, [3, 1]), (100, [32]), (1, [1, 0]), (114, [])]
def fd_p16 : List Nat := [0, 1, 2, 3, 4, 7, 8, 11, 12, 15, 16, 17, 18, 21, 24, 25, 26, 27, 28, 31, 34, 37, 38, 39, 42, 45, 48, 50, 51, 52, 53, 54, 55, 56, 57, 60, 63, 66, 67, 69, 71, 72, 75, 78, 81, 82, 85, 87, 88, 91, 92, 94, 96, 97, 100, 102, 103, 105, 106, 107, 109, 110, 111, 114, 117, 120, 123, 124]
-- FacingDoors.bound (I)I
def fd_c17 : List fd_Ins := [(1, [1, 0]), (121, [39, 1, 192, 0, 645]), (108, [5]), (0, [-1, 0, 0]), (114, []), (2, [0, 0]), (27, [0, 7, 2, 60, 0, 386]), (120, [161, 1, 262, 1, 749]), (108, [11]), (0, [-9, 1, 0]), (114, []), (0, [0, 0, 0]), (3, [2, 0]), (0, [-9, 1, 0]), (3, [3, 0]), (0, [0, 0, 0]), (3, [4, 1]), (1, [4, 1]), (2, [0, 0]), (27, [0, 1, 2, 19, 0, 380]), (27, [3, 2, 0, 123, 1, 148]), (104, [59]), (1, [4, 1]), (0, [1, 0, 0]), (6, []), (3, [5, 1]), (1, [5, 1]), (2, [0, 0]), (27, [0, 1, 2, 19, 0, 380]), (27, [3, 2, 0, 123, 1, 148]), (104, [57]), (2, [0, 0]), (27, [0, 7, 2, 60, 0, 386]), (1, [4, 1]), (1, [5, 1]), (120, [162, 3, 265, 1, 753]), (108, [43]), (2, [0, 0]), (27, [0, 7, 2, 60, 0, 386]), (1, [5, 1]), (1, [4, 1]), (120, [162, 3, 265, 1, 753]), (107, [55]), (5, [2, 1]), (1, [3, 0]), (0, [-9, 1, 0]), (102, [53]), (0, [10, 1, 0]), (1, [4, 1]), (8, []), (1, [5, 1]), (6, []), (100, [54]), (1, [3, 0]), (3, [3, 0]), (5, [5, 1]), (100, [26]), (5, [4, 1]), (100, [17]), (1, [1, 0]), (108, [63]), (1, [2, 0]), (100, [64]), (1, [3, 0]), (114, [])]
def fd_p17 : List Nat := [0, 1, 4, 7, 8, 9, 10, 13, 16, 19, 21, 22, 23, 24, 26, 27, 28, 30, 32, 33, 36, 39, 42, 44, 45, 46, 48, 50, 51, 54, 57, 60, 61, 64, 66, 68, 71, 74, 75, 78, 80, 82, 85, 88, 91, 92, 94, 97, 99, 101, 102, 104, 105, 108, 109, 110, 113, 116, 119, 122, 123, 126, 127, 130, 131]
-- FacingDoors.tells (II)I
def fd_c18 : List fd_Ins := [(2, [0, 0]), (27, [0, 1, 2, 19, 0, 380]), (1, [1, 0]), (120, [124, 2, 137, 1, 553]), (107, [8]), (1, [2, 0]), (121, [41, 1, 268, 0, 761]), (108, [10]), (0, [-1, 0, 0]), (114, []), (2, [0, 0]), (27, [0, 9, 2, 76, 0, 388]), (27, [8, 2, 0, 114, 1, 351]), (0, [6, 1, 0]), (103, [17]), (0, [-3, 1, 0]), (114, []), (2, [0, 0]), (27, [0, 9, 2, 76, 0, 388]), (1, [1, 0]), (1, [2, 0]), (120, [167, 3, 271, 1, 764]), (2, [0, 0]), (27, [0, 9, 2, 76, 0, 388]), (27, [8, 2, 0, 114, 1, 351]), (114, [])]
def fd_p18 : List Nat := [0, 1, 4, 5, 8, 11, 12, 15, 18, 19, 20, 21, 24, 27, 29, 32, 34, 35, 36, 39, 40, 41, 44, 45, 48, 51]
-- FacingDoors.forget ()I
def fd_c19 : List fd_Ins := [(2, [0, 0]), (27, [0, 9, 2, 76, 0, 388]), (27, [8, 2, 0, 114, 1, 351]), (3, [1, 0]), (2, [0, 0]), (27, [0, 9, 2, 76, 0, 388]), (0, [0, 0, 0]), (28, [8, 2, 0, 114, 1, 0, 351]), (1, [1, 0]), (114, [])]
def fd_p19 : List Nat := [0, 1, 4, 7, 8, 9, 12, 13, 16, 17]
-- FacingDoors.open (I)I
def fd_c20 : List fd_Ins := [(1, [1, 0]), (109, [5]), (1, [1, 0]), (0, [2, 0, 0]), (106, [7]), (0, [-1, 0, 0]), (114, []), (2, [0, 0]), (120, [35, 1, 275, 0, 776]), (2, [0, 0]), (27, [0, 1, 2, 19, 0, 380]), (27, [3, 2, 0, 123, 1, 148]), (121, [45, 1, 161, 0, 588]), (0, [1, 0, 0]), (7, []), (3, [2, 0]), (0, [0, 0, 0]), (3, [3, 0]), (0, [-9, 1, 0]), (3, [4, 1]), (1, [2, 0]), (3, [5, 1]), (0, [0, 0, 0]), (3, [6, 1]), (1, [6, 1]), (1, [2, 0]), (105, [48]), (2, [0, 0]), (27, [0, 9, 2, 76, 0, 388]), (1, [6, 1]), (2, [0, 0]), (27, [0, 10, 2, 80, 0, 389]), (120, [168, 3, 278, 1, 781]), (107, [46]), (5, [3, 1]), (1, [4, 1]), (0, [-9, 1, 0]), (102, [40]), (1, [6, 1]), (100, [41]), (1, [4, 1]), (3, [4, 1]), (1, [5, 1]), (1, [6, 1]), (11, []), (3, [5, 1]), (5, [6, 1]), (100, [24]), (1, [1, 0]), (108, [52]), (1, [3, 0]), (114, []), (1, [3, 0]), (108, [56]), (0, [-9, 1, 0]), (114, []), (1, [1, 0]), (0, [1, 0, 0]), (102, [61]), (1, [4, 1]), (100, [62]), (1, [5, 1]), (114, [])]
def fd_p20 : List Nat := [0, 1, 4, 5, 6, 9, 10, 11, 12, 15, 16, 19, 22, 25, 26, 27, 28, 29, 30, 32, 34, 35, 37, 38, 40, 42, 43, 46, 47, 50, 52, 53, 56, 59, 62, 65, 67, 69, 72, 74, 77, 79, 81, 83, 85, 86, 88, 91, 94, 95, 98, 99, 100, 101, 104, 106, 107, 108, 109, 112, 114, 117, 119]
-- FacingDoors.odds (III)I
def fd_c21 : List fd_Ins := [(1, [1, 0]), (121, [40, 1, 282, 0, 790]), (107, [9]), (1, [2, 0]), (121, [41, 1, 268, 0, 761]), (107, [9]), (1, [3, 0]), (121, [39, 1, 192, 0, 645]), (108, [11]), (0, [-1, 0, 0]), (114, []), (2, [0, 0]), (120, [35, 1, 275, 0, 776]), (0, [0, 0, 0]), (3, [4, 1]), (0, [1, 0, 0]), (3, [5, 1]), (0, [0, 0, 0]), (3, [6, 1]), (1, [6, 1]), (2, [0, 0]), (27, [0, 1, 2, 19, 0, 380]), (27, [3, 2, 0, 123, 1, 148]), (104, [30]), (1, [5, 1]), (0, [10, 1, 0]), (8, []), (3, [5, 1]), (5, [6, 1]), (100, [19]), (2, [0, 0]), (27, [0, 1, 2, 19, 0, 380]), (27, [3, 2, 0, 123, 1, 148]), (121, [45, 1, 161, 0, 588]), (3, [6, 1]), (0, [0, 0, 0]), (3, [7, 1]), (1, [7, 1]), (1, [6, 1]), (104, [54]), (2, [0, 0]), (1, [7, 1]), (120, [36, 2, 285, 0, 793]), (1, [2, 0]), (103, [52]), (1, [4, 1]), (2, [0, 0]), (1, [7, 1]), (1, [1, 0]), (120, [37, 3, 288, 0, 798]), (6, []), (3, [4, 1]), (5, [7, 1]), (100, [37]), (1, [4, 1]), (1, [5, 1]), (1, [3, 0]), (121, [49, 3, 291, 0, 802]), (114, [])]
def fd_p21 : List Nat := [0, 1, 4, 7, 8, 11, 14, 15, 18, 21, 22, 23, 24, 27, 28, 30, 31, 33, 34, 36, 38, 39, 42, 45, 48, 50, 52, 53, 55, 58, 61, 62, 65, 68, 71, 73, 74, 76, 78, 80, 83, 84, 86, 89, 90, 93, 95, 96, 98, 99, 102, 103, 105, 108, 111, 113, 115, 116, 119]
-- FacingDoors.mean (II)I
def fd_c22 : List fd_Ins := [(1, [1, 0]), (121, [40, 1, 282, 0, 790]), (107, [6]), (1, [2, 0]), (121, [39, 1, 192, 0, 645]), (108, [8]), (0, [-1, 0, 0]), (114, []), (2, [0, 0]), (120, [35, 1, 275, 0, 776]), (1, [1, 0]), (2, [0, 0]), (2, [0, 0]), (27, [0, 1, 2, 19, 0, 380]), (27, [3, 2, 0, 123, 1, 148]), (121, [45, 1, 161, 0, 588]), (0, [1, 0, 0]), (7, []), (120, [36, 2, 285, 0, 793]), (8, []), (3, [3, 0]), (1, [3, 0]), (0, [10, 1, 0]), (1, [2, 0]), (121, [49, 3, 291, 0, 802]), (114, [])]
def fd_p22 : List Nat := [0, 1, 4, 7, 8, 11, 14, 15, 16, 17, 20, 21, 22, 23, 26, 29, 32, 33, 34, 37, 38, 39, 40, 42, 43, 46]
-- FacingDoors.mark (II)I
def fd_c23 : List fd_Ins := [(2, [0, 0]), (27, [0, 1, 2, 19, 0, 380]), (1, [2, 0]), (120, [124, 2, 137, 1, 553]), (108, [7]), (0, [-1000000, 4, 294, 816]), (114, []), (1, [1, 0]), (113, [33, 0, 9, 13, 17, 21, 25, 29]), (2, [0, 0]), (1, [2, 0]), (120, [28, 2, 295, 0, 817]), (114, []), (2, [0, 0]), (1, [2, 0]), (120, [29, 2, 298, 0, 821]), (114, []), (2, [0, 0]), (1, [2, 0]), (120, [30, 2, 301, 0, 832]), (114, []), (2, [0, 0]), (1, [2, 0]), (120, [31, 2, 304, 0, 837]), (114, []), (2, [0, 0]), (1, [2, 0]), (120, [32, 2, 307, 0, 842]), (114, []), (2, [0, 0]), (1, [2, 0]), (120, [33, 2, 310, 0, 847]), (114, []), (0, [-1000000, 4, 294, 816]), (114, [])]
def fd_p23 : List Nat := [0, 1, 4, 5, 8, 11, 14, 15, 16, 56, 57, 58, 61, 62, 63, 64, 67, 68, 69, 70, 73, 74, 75, 76, 79, 80, 81, 82, 85, 86, 87, 88, 91, 92, 95]
-- FacingDoors.keep (I)I
def fd_c24 : List fd_Ins := [(1, [1, 0]), (121, [42, 1, 313, 0, 856]), (108, [5]), (0, [-1, 0, 0]), (114, []), (2, [0, 0]), (27, [0, 6, 2, 51, 0, 385]), (1, [1, 0]), (34, []), (2, [0, 0]), (27, [0, 4, 2, 38, 0, 383]), (2, [0, 0]), (27, [0, 5, 2, 45, 0, 384]), (120, [118, 3, 316, 1, 859]), (2, [0, 0]), (27, [0, 7, 2, 60, 0, 386]), (120, [157, 1, 214, 1, 663]), (114, [])]
def fd_p24 : List Nat := [0, 1, 4, 7, 8, 9, 10, 13, 14, 15, 16, 19, 20, 23, 26, 27, 30, 33]
-- FacingDoors.back (I)I
def fd_c25 : List fd_Ins := [(1, [1, 0]), (121, [42, 1, 313, 0, 856]), (108, [5]), (0, [-1, 0, 0]), (114, []), (2, [0, 0]), (27, [0, 6, 2, 51, 0, 385]), (1, [1, 0]), (34, []), (27, [2, 2, 3, 115, 1, 371]), (108, [13]), (0, [-2, 1, 0]), (114, []), (2, [0, 0]), (27, [0, 6, 2, 51, 0, 385]), (1, [1, 0]), (34, []), (2, [0, 0]), (27, [0, 4, 2, 38, 0, 383]), (2, [0, 0]), (27, [0, 5, 2, 45, 0, 384]), (120, [119, 3, 320, 1, 872]), (2, [0, 0]), (27, [0, 7, 2, 60, 0, 386]), (120, [157, 1, 214, 1, 663]), (114, [])]
def fd_p25 : List Nat := [0, 1, 4, 7, 8, 9, 10, 13, 14, 15, 18, 21, 23, 24, 25, 28, 29, 30, 31, 34, 35, 38, 41, 42, 45, 48]
-- FacingDoors.count (I)I
def fd_c26 : List fd_Ins := [(1, [1, 0]), (113, [34, 0, 2, 6, 10, 14, 18, 22, 26, 30]), (2, [0, 0]), (27, [0, 1, 2, 19, 0, 380]), (27, [3, 0, 0, 256, 1, 140]), (114, []), (2, [0, 0]), (27, [0, 1, 2, 19, 0, 380]), (27, [3, 1, 0, 253, 1, 143]), (114, []), (2, [0, 0]), (27, [0, 1, 2, 19, 0, 380]), (27, [3, 2, 0, 123, 1, 148]), (114, []), (2, [0, 0]), (27, [0, 1, 2, 19, 0, 380]), (27, [3, 3, 0, 323, 1, 154]), (114, []), (2, [0, 0]), (27, [0, 1, 2, 19, 0, 380]), (27, [3, 4, 0, 326, 1, 158]), (114, []), (2, [0, 0]), (27, [0, 9, 2, 76, 0, 388]), (27, [8, 2, 0, 114, 1, 351]), (114, []), (2, [0, 0]), (27, [0, 5, 2, 45, 0, 384]), (27, [1, 1, 0, 111, 1, 280]), (114, []), (2, [0, 0]), (27, [0, 0, 2, 10, 0, 379]), (27, [7, 1, 0, 92, 1, 124]), (114, []), (0, [-1, 0, 0]), (114, [])]
def fd_p26 : List Nat := [0, 1, 48, 49, 52, 55, 56, 57, 60, 63, 64, 65, 68, 71, 72, 73, 76, 79, 80, 81, 84, 87, 88, 89, 92, 95, 96, 97, 100, 103, 104, 105, 108, 111, 112, 113]
-- FacingDoors.trace ()J
def fd_c27 : List fd_Ins := [(2, [0, 0]), (27, [0, 12, 1, 87, 0, 391]), (115, [])]
def fd_p27 : List Nat := [0, 1, 4]
-- FacingDoors.doorMark (I)I
def fd_c28 : List fd_Ins := [(2, [0, 0]), (24, []), (27, [0, 12, 1, 87, 0, 391]), (17, [1, 0, 0]), (18, []), (28, [0, 12, 1, 87, 0, 0, 391]), (2, [0, 0]), (27, [0, 7, 2, 60, 0, 386]), (1, [1, 0]), (120, [156, 2, 164, 1, 589]), (114, [])]
def fd_p28 : List Nat := [0, 1, 2, 5, 6, 7, 10, 11, 14, 15, 18]
-- FacingDoors.porchMark (I)I
def fd_c29 : List fd_Ins := [(2, [0, 0]), (24, []), (27, [0, 12, 1, 87, 0, 391]), (17, [10, 1, 329, 825]), (18, []), (28, [0, 12, 1, 87, 0, 0, 391]), (2, [0, 0]), (1, [1, 0]), (120, [28, 2, 295, 0, 817]), (2, [0, 0]), (27, [0, 7, 2, 60, 0, 386]), (1, [1, 0]), (120, [154, 2, 170, 1, 608]), (121, [176, 1, 331, 0, 826]), (6, []), (114, [])]
def fd_p29 : List Nat := [0, 1, 2, 5, 8, 9, 12, 13, 14, 17, 18, 21, 22, 25, 28, 29]
-- FacingDoors.gateMark (I)I
def fd_c30 : List fd_Ins := [(2, [0, 0]), (24, []), (27, [0, 12, 1, 87, 0, 391]), (17, [100, 1, 335, 836]), (18, []), (28, [0, 12, 1, 87, 0, 0, 391]), (2, [0, 0]), (1, [1, 0]), (120, [28, 2, 295, 0, 817]), (2, [0, 0]), (27, [0, 4, 2, 38, 0, 383]), (27, [5, 2, 2, 147, 1, 238]), (1, [1, 0]), (30, []), (7, []), (114, [])]
def fd_p30 : List Nat := [0, 1, 2, 5, 8, 9, 12, 13, 14, 17, 18, 21, 24, 25, 26, 27]
-- FacingDoors.bayMark (I)I
def fd_c31 : List fd_Ins := [(2, [0, 0]), (24, []), (27, [0, 12, 1, 87, 0, 391]), (17, [1000, 1, 337, 841]), (18, []), (28, [0, 12, 1, 87, 0, 0, 391]), (2, [0, 0]), (1, [1, 0]), (120, [29, 2, 298, 0, 821]), (0, [2, 0, 0]), (8, []), (114, [])]
def fd_p31 : List Nat := [0, 1, 2, 5, 8, 9, 12, 13, 14, 17, 18, 19]
-- FacingDoors.schoolMark (I)I
def fd_c32 : List fd_Ins := [(2, [0, 0]), (24, []), (27, [0, 12, 1, 87, 0, 391]), (17, [10000, 1, 339, 846]), (18, []), (28, [0, 12, 1, 87, 0, 0, 391]), (2, [0, 0]), (1, [1, 0]), (120, [30, 2, 301, 0, 832]), (2, [0, 0]), (27, [0, 4, 2, 38, 0, 383]), (1, [1, 0]), (120, [144, 2, 150, 1, 557]), (107, [16]), (0, [7, 1, 0]), (100, [17]), (0, [0, 0, 0]), (6, []), (114, [])]
def fd_p32 : List Nat := [0, 1, 2, 5, 8, 9, 12, 13, 14, 17, 18, 21, 22, 25, 28, 30, 33, 34, 35]
-- FacingDoors.hatchMark (I)I
def fd_c33 : List fd_Ins := [(2, [0, 0]), (24, []), (27, [0, 12, 1, 87, 0, 391]), (17, [100000, 1, 341, 851]), (18, []), (28, [0, 12, 1, 87, 0, 0, 391]), (2, [0, 0]), (1, [1, 0]), (120, [28, 2, 295, 0, 817]), (2, [0, 0]), (27, [0, 4, 2, 38, 0, 383]), (27, [5, 3, 2, 173, 1, 240]), (1, [1, 0]), (30, []), (6, []), (114, [])]
def fd_p33 : List Nat := [0, 1, 2, 5, 8, 9, 12, 13, 14, 17, 18, 21, 24, 25, 26, 27]
-- FacingDoors.addRelief (I)V
def fd_c34 : List fd_Ins := [(2, [0, 0]), (27, [0, 7, 2, 60, 0, 386]), (1, [1, 0]), (120, [153, 2, 157, 1, 567]), (3, [2, 0]), (1, [2, 0]), (0, [-1, 0, 0]), (102, [9]), (116, []), (2, [0, 0]), (27, [0, 7, 2, 60, 0, 386]), (1, [1, 0]), (120, [156, 2, 164, 1, 589]), (3, [3, 0]), (2, [0, 0]), (27, [0, 4, 2, 38, 0, 383]), (27, [5, 2, 2, 147, 1, 238]), (1, [1, 0]), (30, []), (3, [4, 1]), (2, [0, 0]), (27, [0, 4, 2, 38, 0, 383]), (27, [5, 0, 2, 141, 1, 231]), (1, [1, 0]), (30, []), (3, [5, 1]), (2, [0, 0]), (27, [0, 4, 2, 38, 0, 383]), (27, [5, 1, 2, 144, 1, 234]), (1, [1, 0]), (30, []), (3, [6, 1]), (0, [1, 0, 0]), (3, [7, 1]), (1, [7, 1]), (0, [7, 1, 0]), (104, [81]), (1, [5, 1]), (29, [1001, 183, 0, 638]), (1, [4, 1]), (43, []), (6, []), (3, [5, 1]), (1, [6, 1]), (29, [1002, 186, 0, 639]), (1, [4, 1]), (43, []), (6, []), (3, [6, 1]), (2, [0, 0]), (27, [0, 1, 2, 19, 0, 380]), (1, [5, 1]), (1, [6, 1]), (120, [123, 3, 119, 1, 531]), (107, [62]), (2, [0, 0]), (27, [0, 4, 2, 38, 0, 383]), (1, [2, 0]), (1, [5, 1]), (1, [6, 1]), (120, [146, 4, 343, 1, 744]), (107, [63]), (116, []), (2, [0, 0]), (27, [0, 1, 2, 19, 0, 380]), (1, [5, 1]), (1, [6, 1]), (120, [125, 3, 133, 1, 548]), (108, [79]), (2, [0, 0]), (27, [0, 11, 2, 84, 0, 390]), (1, [5, 1]), (1, [6, 1]), (121, [46, 2, 259, 0, 547]), (25, []), (30, []), (1, [3, 0]), (6, []), (31, []), (5, [7, 1]), (100, [34]), (116, [])]
def fd_p34 : List Nat := [0, 1, 4, 5, 8, 9, 10, 11, 14, 15, 16, 19, 20, 23, 24, 25, 28, 31, 32, 33, 35, 36, 39, 42, 43, 44, 46, 47, 50, 53, 54, 55, 57, 58, 60, 62, 64, 67, 69, 72, 74, 75, 76, 78, 80, 83, 85, 86, 87, 89, 90, 93, 95, 97, 100, 103, 104, 107, 108, 110, 112, 115, 118, 119, 120, 123, 125, 127, 130, 133, 134, 137, 139, 141, 144, 145, 146, 147, 148, 149, 152, 155]
-- FacingDoors.lookUpDues ()V
def fd_c35 : List fd_Ins := [(0, [0, 0, 0]), (3, [1, 0]), (1, [1, 0]), (2, [0, 0]), (27, [0, 1, 2, 19, 0, 380]), (27, [3, 2, 0, 123, 1, 148]), (104, [17]), (2, [0, 0]), (27, [0, 10, 2, 80, 0, 389]), (1, [1, 0]), (2, [0, 0]), (27, [0, 7, 2, 60, 0, 386]), (1, [1, 0]), (120, [155, 2, 347, 1, 780]), (31, []), (5, [1, 1]), (100, [2]), (116, [])]
def fd_p35 : List Nat := [0, 1, 2, 3, 4, 7, 10, 13, 14, 17, 18, 19, 22, 23, 26, 27, 30, 33]
-- FacingDoors.dueOfSet (I)I
def fd_c36 : List fd_Ins := [(0, [0, 0, 0]), (3, [2, 0]), (0, [0, 0, 0]), (3, [3, 0]), (1, [3, 0]), (2, [0, 0]), (27, [0, 1, 2, 19, 0, 380]), (27, [3, 2, 0, 123, 1, 148]), (104, [22]), (1, [1, 0]), (1, [3, 0]), (121, [44, 2, 350, 0, 797]), (107, [20]), (1, [2, 0]), (2, [0, 0]), (27, [0, 10, 2, 80, 0, 389]), (1, [3, 0]), (30, []), (6, []), (3, [2, 0]), (5, [3, 1]), (100, [4]), (1, [2, 0]), (114, [])]
def fd_p36 : List Nat := [0, 1, 2, 3, 4, 5, 6, 9, 12, 15, 16, 17, 20, 23, 24, 25, 28, 29, 30, 31, 32, 35, 38, 39]
-- FacingDoors.weightOfSet (II)I
def fd_c37 : List fd_Ins := [(0, [1, 0, 0]), (3, [3, 0]), (0, [0, 0, 0]), (3, [4, 1]), (1, [4, 1]), (2, [0, 0]), (27, [0, 1, 2, 19, 0, 380]), (27, [3, 2, 0, 123, 1, 148]), (104, [23]), (1, [3, 0]), (1, [1, 0]), (1, [4, 1]), (121, [44, 2, 350, 0, 797]), (107, [16]), (1, [2, 0]), (100, [19]), (0, [10, 1, 0]), (1, [2, 0]), (7, []), (8, []), (3, [3, 0]), (5, [4, 1]), (100, [4]), (1, [3, 0]), (114, [])]
def fd_p37 : List Nat := [0, 1, 2, 3, 5, 7, 8, 11, 14, 17, 18, 19, 21, 24, 27, 28, 31, 33, 34, 35, 36, 37, 40, 43, 44]
-- FacingDoors.isWay (I)Z
def fd_c38 : List fd_Ins := [(1, [0, 0]), (109, [7]), (1, [0, 0]), (0, [4, 0, 0]), (104, [7]), (0, [1, 0, 0]), (100, [8]), (0, [0, 0, 0]), (114, [])]
def fd_p38 : List Nat := [0, 1, 4, 5, 6, 9, 10, 13, 14]
-- FacingDoors.isFlag (I)Z
def fd_c39 : List fd_Ins := [(1, [0, 0]), (107, [5]), (1, [0, 0]), (0, [1, 0, 0]), (102, [7]), (0, [1, 0, 0]), (100, [8]), (0, [0, 0, 0]), (114, [])]
def fd_p39 : List Nat := [0, 1, 4, 5, 6, 9, 10, 13, 14]
-- FacingDoors.isTenths (I)Z
def fd_c40 : List fd_Ins := [(1, [0, 0]), (109, [7]), (1, [0, 0]), (0, [10, 1, 0]), (105, [7]), (0, [1, 0, 0]), (100, [8]), (0, [0, 0, 0]), (114, [])]
def fd_p40 : List Nat := [0, 1, 4, 5, 7, 10, 11, 14, 15]
-- FacingDoors.isDueTold (I)Z
def fd_c41 : List fd_Ins := [(1, [0, 0]), (109, [7]), (1, [0, 0]), (0, [99, 1, 0]), (105, [7]), (0, [1, 0, 0]), (100, [8]), (0, [0, 0, 0]), (114, [])]
def fd_p41 : List Nat := [0, 1, 4, 5, 7, 10, 11, 14, 15]
-- FacingDoors.isImage (I)Z
def fd_c42 : List fd_Ins := [(1, [0, 0]), (109, [7]), (1, [0, 0]), (0, [2, 0, 0]), (104, [7]), (0, [1, 0, 0]), (100, [8]), (0, [0, 0, 0]), (114, [])]
def fd_p42 : List Nat := [0, 1, 4, 5, 6, 9, 10, 13, 14]
-- FacingDoors.flag (Z)I
def fd_c43 : List fd_Ins := [(1, [0, 0]), (107, [4]), (0, [1, 0, 0]), (100, [5]), (0, [0, 0, 0]), (114, [])]
def fd_p43 : List Nat := [0, 1, 4, 5, 8, 9]
-- FacingDoors.hasBit (II)Z
def fd_c44 : List fd_Ins := [(1, [0, 0]), (1, [1, 0]), (15, []), (0, [1, 0, 0]), (11, []), (107, [8]), (0, [1, 0, 0]), (100, [9]), (0, [0, 0, 0]), (114, [])]
def fd_p44 : List Nat := [0, 1, 2, 3, 4, 5, 8, 9, 12, 13]
-- FacingDoors.bitOf (I)I
def fd_c45 : List fd_Ins := [(1, [0, 0]), (0, [-1, 0, 0]), (102, [5]), (0, [0, 0, 0]), (100, [8]), (0, [1, 0, 0]), (1, [0, 0]), (14, []), (114, [])]
def fd_p45 : List Nat := [0, 1, 2, 5, 6, 9, 10, 11, 12]
-- FacingDoors.placeOf (II)I
def fd_c46 : List fd_Ins := [(1, [1, 0]), (0, [7, 1, 0]), (8, []), (1, [0, 0]), (6, []), (114, [])]
def fd_p46 : List Nat := [0, 1, 3, 4, 5, 6]
-- FacingDoors.cartBit (II)J
def fd_c47 : List fd_Ins := [(17, [1, 0, 0]), (1, [0, 0]), (1, [1, 0]), (121, [46, 2, 259, 0, 547]), (21, []), (115, [])]
def fd_p47 : List Nat := [0, 1, 2, 3, 6, 7]
-- FacingDoors.wayBack (I)I
def fd_c48 : List fd_Ins := [(1, [0, 0]), (0, [2, 0, 0]), (6, []), (0, [3, 0, 0]), (11, []), (114, [])]
def fd_p48 : List Nat := [0, 1, 2, 3, 4, 5]
-- FacingDoors.partInLeastTerms (III)I
def fd_c49 : List fd_Ins := [(1, [0, 0]), (1, [1, 0]), (121, [50, 2, 353, 0, 805]), (3, [3, 0]), (1, [2, 0]), (108, [8]), (1, [0, 0]), (100, [9]), (1, [1, 0]), (3, [4, 1]), (1, [3, 0]), (108, [14]), (1, [4, 1]), (100, [17]), (1, [4, 1]), (1, [3, 0]), (9, []), (114, [])]
def fd_p49 : List Nat := [0, 1, 2, 5, 6, 7, 10, 11, 14, 15, 17, 18, 21, 23, 26, 28, 29, 30]
-- FacingDoors.commonDivisor (II)I
def fd_c50 : List fd_Ins := [(1, [0, 0]), (3, [2, 0]), (1, [1, 0]), (3, [3, 0]), (0, [0, 0, 0]), (3, [4, 1]), (1, [4, 1]), (0, [64, 1, 0]), (104, [21]), (1, [3, 0]), (107, [21]), (1, [2, 0]), (1, [3, 0]), (10, []), (3, [5, 1]), (1, [3, 0]), (3, [2, 0]), (1, [5, 1]), (3, [3, 0]), (5, [4, 1]), (100, [6]), (1, [2, 0]), (114, [])]
def fd_p50 : List Nat := [0, 1, 2, 3, 4, 5, 7, 9, 11, 14, 15, 18, 19, 20, 21, 23, 24, 25, 27, 28, 31, 34, 35]
-- FacingDoorsModel.<init> ()V
def fd_c51 : List fd_Ins := [(2, [0, 0]), (42, [1, 889]), (2, [0, 0]), (0, [150, 2, 0]), (38, [21]), (28, [10, 1, 2, 7, 0, 1, 899]), (2, [0, 0]), (0, [2, 0, 0]), (38, [20]), (28, [10, 3, 2, 13, 0, 1, 901]), (2, [0, 0]), (0, [2, 0, 0]), (38, [20]), (28, [10, 4, 2, 17, 0, 1, 902]), (2, [0, 0]), (0, [98, 1, 0]), (38, [20]), (28, [10, 5, 2, 20, 0, 1, 903]), (2, [0, 0]), (0, [2, 0, 0]), (38, [20]), (28, [10, 6, 2, 23, 0, 1, 904]), (2, [0, 0]), (0, [6, 1, 0]), (38, [20]), (28, [10, 7, 2, 26, 0, 1, 905]), (2, [0, 0]), (0, [6, 1, 0]), (38, [20]), (28, [10, 8, 2, 29, 0, 1, 906]), (2, [0, 0]), (0, [4, 0, 0]), (38, [20]), (28, [10, 9, 2, 32, 0, 1, 907]), (2, [0, 0]), (0, [927, 2, 0]), (38, [20]), (28, [10, 16, 2, 35, 0, 1, 914]), (2, [0, 0]), (0, [2, 0, 0]), (38, [22]), (28, [10, 17, 2, 38, 0, 1, 915]), (2, [0, 0]), (0, [6, 1, 0]), (38, [20]), (28, [10, 18, 2, 42, 0, 1, 916]), (2, [0, 0]), (0, [6, 1, 0]), (38, [20]), (28, [10, 21, 2, 45, 0, 1, 919]), (2, [0, 0]), (0, [6, 1, 0]), (38, [20]), (28, [10, 22, 2, 48, 0, 1, 920]), (2, [0, 0]), (120, [63, 1, 51, 0, 890]), (2, [0, 0]), (120, [64, 1, 54, 0, 894]), (116, [])]
def fd_p51 : List Nat := [0, 1, 4, 5, 8, 10, 13, 14, 15, 17, 20, 21, 22, 24, 27, 28, 30, 32, 35, 36, 37, 39, 42, 43, 45, 47, 50, 51, 53, 55, 58, 59, 60, 62, 65, 66, 69, 71, 74, 75, 76, 78, 81, 82, 84, 86, 89, 90, 92, 94, 97, 98, 100, 102, 105, 106, 109, 110, 113]
-- FacingDoorsModel.in (III)Z
def fd_c52 : List fd_Ins := [(1, [0, 0]), (1, [1, 0]), (103, [8]), (1, [0, 0]), (1, [2, 0]), (105, [8]), (0, [1, 0, 0]), (100, [9]), (0, [0, 0, 0]), (114, [])]
def fd_p52 : List Nat := [0, 1, 2, 5, 6, 7, 10, 11, 14, 15]
-- FacingDoorsModel.type (I)I
def fd_c53 : List fd_Ins := [(1, [1, 0]), (0, [0, 0, 0]), (0, [255, 2, 0]), (121, [52, 3, 57, 0, 976]), (108, [7]), (0, [-1, 0, 0]), (114, []), (2, [0, 0]), (27, [10, 2, 0, 61, 0, 900]), (0, [150, 2, 0]), (102, [13]), (0, [-3, 1, 0]), (114, []), (2, [0, 0]), (27, [10, 1, 2, 7, 0, 899]), (2, [0, 0]), (27, [10, 2, 0, 61, 0, 900]), (1, [1, 0]), (23, []), (33, []), (2, [0, 0]), (24, []), (27, [10, 2, 0, 61, 0, 900]), (0, [1, 0, 0]), (6, []), (28, [10, 2, 0, 61, 0, 0, 900]), (2, [0, 0]), (27, [10, 2, 0, 61, 0, 900]), (114, [])]
def fd_p53 : List Nat := [0, 1, 2, 5, 8, 11, 12, 13, 14, 17, 20, 23, 25, 26, 27, 30, 31, 34, 35, 36, 37, 38, 39, 42, 43, 44, 47, 48, 51]
-- FacingDoorsModel.clear ()I
def fd_c54 : List fd_Ins := [(2, [0, 0]), (27, [10, 2, 0, 61, 0, 900]), (3, [1, 0]), (2, [0, 0]), (0, [0, 0, 0]), (28, [10, 2, 0, 61, 0, 0, 900]), (1, [1, 0]), (114, [])]
def fd_p54 : List Nat := [0, 1, 4, 5, 6, 7, 10, 11]
-- FacingDoorsModel.here ()I
def fd_c55 : List fd_Ins := [(2, [0, 0]), (27, [10, 11, 0, 65, 0, 909]), (2, [0, 0]), (27, [10, 2, 0, 61, 0, 900]), (104, [13]), (2, [0, 0]), (27, [10, 1, 2, 7, 0, 899]), (2, [0, 0]), (27, [10, 11, 0, 65, 0, 909]), (32, []), (0, [255, 2, 0]), (11, []), (100, [14]), (0, [-1, 0, 0]), (114, [])]
def fd_p55 : List Nat := [0, 1, 4, 5, 8, 11, 12, 15, 16, 19, 20, 23, 24, 27, 28]
-- FacingDoorsModel.step ()V
def fd_c56 : List fd_Ins := [(2, [0, 0]), (120, [55, 1, 68, 0, 991]), (0, [32, 1, 0]), (102, [11]), (2, [0, 0]), (24, []), (27, [10, 11, 0, 65, 0, 909]), (0, [1, 0, 0]), (6, []), (28, [10, 11, 0, 65, 0, 0, 909]), (100, [0]), (2, [0, 0]), (2, [0, 0]), (27, [10, 11, 0, 65, 0, 909]), (28, [10, 12, 0, 72, 0, 0, 910]), (2, [0, 0]), (0, [0, 0, 0]), (28, [10, 14, 0, 75, 0, 0, 912]), (2, [0, 0]), (120, [55, 1, 68, 0, 991]), (3, [1, 0]), (1, [1, 0]), (110, [27]), (2, [0, 0]), (0, [3, 0, 0]), (28, [10, 13, 0, 78, 0, 0, 911]), (100, [104]), (1, [1, 0]), (0, [48, 1, 0]), (0, [57, 1, 0]), (121, [52, 3, 57, 0, 976]), (107, [83]), (2, [0, 0]), (120, [55, 1, 68, 0, 991]), (0, [48, 1, 0]), (0, [57, 1, 0]), (121, [52, 3, 57, 0, 976]), (107, [63]), (2, [0, 0]), (2, [0, 0]), (27, [10, 14, 0, 75, 0, 912]), (0, [99, 1, 0]), (106, [46]), (2, [0, 0]), (27, [10, 14, 0, 75, 0, 912]), (100, [55]), (0, [10, 1, 0]), (2, [0, 0]), (27, [10, 14, 0, 75, 0, 912]), (8, []), (2, [0, 0]), (120, [55, 1, 68, 0, 991]), (6, []), (0, [48, 1, 0]), (7, []), (28, [10, 14, 0, 75, 0, 0, 912]), (2, [0, 0]), (24, []), (27, [10, 11, 0, 65, 0, 909]), (0, [1, 0, 0]), (6, []), (28, [10, 11, 0, 65, 0, 0, 909]), (100, [32]), (2, [0, 0]), (2, [0, 0]), (27, [10, 14, 0, 75, 0, 912]), (0, [99, 1, 0]), (105, [78]), (1, [1, 0]), (0, [48, 1, 0]), (102, [80]), (2, [0, 0]), (27, [10, 11, 0, 65, 0, 909]), (2, [0, 0]), (27, [10, 12, 0, 72, 0, 910]), (7, []), (0, [1, 0, 0]), (106, [80]), (0, [4, 0, 0]), (100, [81]), (0, [1, 0, 0]), (28, [10, 13, 0, 78, 0, 0, 911]), (100, [104]), (2, [0, 0]), (24, []), (27, [10, 11, 0, 65, 0, 909]), (0, [1, 0, 0]), (6, []), (28, [10, 11, 0, 65, 0, 0, 909]), (2, [0, 0]), (1, [1, 0]), (0, [59, 1, 0]), (102, [95]), (0, [2, 0, 0]), (100, [103]), (1, [1, 0]), (0, [97, 1, 0]), (0, [122, 1, 0]), (121, [52, 3, 57, 0, 976]), (107, [102]), (1, [1, 0]), (100, [103]), (0, [4, 0, 0]), (28, [10, 13, 0, 78, 0, 0, 911]), (116, [])]
def fd_p56 : List Nat := [0, 1, 4, 6, 9, 10, 11, 14, 15, 16, 19, 22, 23, 24, 27, 30, 31, 32, 35, 36, 39, 40, 41, 44, 45, 46, 49, 52, 53, 55, 57, 60, 63, 64, 67, 69, 71, 74, 77, 78, 79, 82, 84, 87, 88, 91, 94, 96, 97, 100, 101, 102, 105, 106, 108, 109, 112, 113, 114, 117, 118, 119, 122, 125, 126, 127, 130, 132, 135, 136, 138, 141, 142, 145, 146, 149, 150, 151, 154, 155, 158, 159, 162, 165, 166, 167, 170, 171, 172, 175, 176, 177, 179, 182, 183, 186, 187, 189, 191, 194, 197, 198, 201, 202, 205]
-- FacingDoorsModel.due (Z)I
def fd_c57 : List fd_Ins := [(2, [0, 0]), (27, [10, 14, 0, 75, 0, 912]), (3, [2, 0]), (2, [0, 0]), (27, [10, 15, 0, 81, 0, 913]), (0, [-9, 1, 0]), (102, [16]), (1, [1, 0]), (107, [12]), (2, [0, 0]), (120, [56, 1, 84, 0, 987]), (100, [16]), (2, [0, 0]), (2, [0, 0]), (27, [10, 12, 0, 72, 0, 910]), (28, [10, 15, 0, 81, 0, 0, 913]), (1, [2, 0]), (114, [])]
def fd_p57 : List Nat := [0, 1, 4, 5, 6, 9, 11, 14, 15, 18, 19, 22, 25, 26, 27, 30, 33, 34]
-- FacingDoorsModel.number (II)I
def fd_c58 : List fd_Ins := [(2, [0, 0]), (2, [0, 0]), (27, [10, 13, 0, 78, 0, 911]), (0, [1, 0, 0]), (102, [13]), (2, [0, 0]), (27, [10, 14, 0, 75, 0, 912]), (1, [1, 0]), (1, [2, 0]), (121, [52, 3, 57, 0, 976]), (107, [13]), (0, [1, 0, 0]), (100, [14]), (0, [0, 0, 0]), (120, [57, 2, 87, 0, 999]), (114, [])]
def fd_p58 : List Nat := [0, 1, 2, 5, 6, 9, 10, 13, 14, 15, 18, 21, 22, 25, 26, 29]
-- FacingDoorsModel.mayBe (II)Z
def fd_c59 : List fd_Ins := [(1, [1, 0]), (118, [56, 100, 28, 112, 38, 114, 8, 115, 47, 119, 2]), (1, [2, 0]), (108, [6]), (0, [1, 0, 0]), (100, [7]), (0, [0, 0, 0]), (114, []), (2, [0, 0]), (27, [10, 3, 2, 13, 0, 901]), (0, [1, 0, 0]), (30, []), (112, [26]), (2, [0, 0]), (27, [10, 4, 2, 17, 0, 902]), (0, [1, 0, 0]), (30, []), (0, [7, 1, 0]), (104, [26]), (2, [0, 0]), (27, [10, 6, 2, 23, 0, 904]), (0, [1, 0, 0]), (30, []), (108, [26]), (0, [1, 0, 0]), (100, [27]), (0, [0, 0, 0]), (114, []), (2, [0, 0]), (27, [10, 6, 2, 23, 0, 904]), (0, [1, 0, 0]), (30, []), (0, [6, 1, 0]), (104, [36]), (0, [1, 0, 0]), (100, [37]), (0, [0, 0, 0]), (114, []), (2, [0, 0]), (27, [10, 10, 0, 91, 0, 908]), (0, [1, 0, 0]), (11, []), (108, [45]), (0, [1, 0, 0]), (100, [46]), (0, [0, 0, 0]), (114, []), (2, [0, 0]), (27, [10, 10, 0, 91, 0, 908]), (0, [2, 0, 0]), (11, []), (108, [54]), (0, [1, 0, 0]), (100, [55]), (0, [0, 0, 0]), (114, []), (0, [0, 0, 0]), (114, [])]
def fd_p59 : List Nat := [0, 1, 52, 53, 56, 57, 60, 61, 62, 63, 66, 67, 68, 71, 72, 75, 76, 77, 79, 82, 83, 86, 87, 88, 91, 92, 95, 96, 97, 98, 101, 102, 103, 105, 108, 109, 112, 113, 114, 115, 118, 119, 120, 123, 124, 127, 128, 129, 130, 133, 134, 135, 138, 139, 142, 143, 144, 145]
-- FacingDoorsModel.groundOf (I)I
def fd_c60 : List fd_Ins := [(1, [0, 0]), (0, [102, 1, 0]), (102, [5]), (0, [0, 0, 0]), (100, [16]), (1, [0, 0]), (0, [120, 1, 0]), (102, [10]), (0, [1, 0, 0]), (100, [16]), (1, [0, 0]), (0, [116, 1, 0]), (102, [15]), (0, [2, 0, 0]), (100, [16]), (0, [-9, 1, 0]), (114, [])]
def fd_p60 : List Nat := [0, 1, 3, 6, 7, 10, 11, 13, 16, 17, 20, 21, 23, 26, 27, 30, 32]
-- FacingDoorsModel.isFreeDraft (I)Z
def fd_c61 : List fd_Ins := [(2, [0, 0]), (27, [10, 5, 2, 20, 0, 903]), (0, [49, 1, 0]), (1, [1, 0]), (6, []), (30, []), (108, [9]), (0, [1, 0, 0]), (100, [10]), (0, [0, 0, 0]), (3, [2, 0]), (0, [0, 0, 0]), (3, [3, 0]), (1, [3, 0]), (2, [0, 0]), (27, [10, 6, 2, 23, 0, 904]), (0, [1, 0, 0]), (30, []), (104, [33]), (1, [2, 0]), (107, [29]), (2, [0, 0]), (27, [10, 7, 2, 26, 0, 905]), (1, [3, 0]), (30, []), (1, [1, 0]), (101, [29]), (0, [1, 0, 0]), (100, [30]), (0, [0, 0, 0]), (3, [2, 0]), (5, [3, 1]), (100, [13]), (1, [2, 0]), (114, [])]
def fd_p61 : List Nat := [0, 1, 4, 6, 7, 8, 9, 12, 13, 16, 17, 18, 19, 20, 21, 22, 25, 26, 27, 30, 31, 34, 35, 38, 39, 40, 41, 44, 45, 48, 49, 50, 53, 56, 57]
-- FacingDoorsModel.readRow (I)V
def fd_c62 : List fd_Ins := [(1, [1, 0]), (118, [156, 100, 61, 112, 141, 114, 11, 119, 2]), (2, [0, 0]), (27, [10, 3, 2, 13, 0, 901]), (0, [1, 0, 0]), (2, [0, 0]), (0, [1, 0, 0]), (0, [7, 1, 0]), (120, [58, 3, 94, 0, 1007]), (31, []), (100, [170]), (0, [0, 0, 0]), (3, [2, 0]), (1, [2, 0]), (2, [0, 0]), (27, [10, 3, 2, 13, 0, 901]), (0, [1, 0, 0]), (30, []), (104, [52]), (2, [0, 0]), (27, [10, 15, 0, 81, 0, 913]), (0, [-9, 1, 0]), (102, [52]), (2, [0, 0]), (27, [10, 5, 2, 20, 0, 903]), (0, [49, 1, 0]), (0, [7, 1, 0]), (2, [0, 0]), (27, [10, 4, 2, 17, 0, 902]), (0, [1, 0, 0]), (30, []), (8, []), (6, []), (1, [2, 0]), (6, []), (2, [0, 0]), (27, [10, 13, 0, 78, 0, 911]), (121, [60, 1, 98, 0, 1011]), (31, []), (2, [0, 0]), (2, [0, 0]), (27, [10, 13, 0, 78, 0, 911]), (121, [60, 1, 98, 0, 1011]), (0, [-9, 1, 0]), (101, [47]), (0, [1, 0, 0]), (100, [48]), (0, [0, 0, 0]), (120, [57, 2, 87, 0, 999]), (26, []), (5, [2, 1]), (100, [13]), (2, [0, 0]), (27, [10, 4, 2, 17, 0, 902]), (0, [1, 0, 0]), (25, []), (30, []), (0, [1, 0, 0]), (6, []), (31, []), (100, [170]), (2, [0, 0]), (0, [0, 0, 0]), (2, [0, 0]), (27, [10, 3, 2, 13, 0, 901]), (0, [1, 0, 0]), (30, []), (0, [1, 0, 0]), (7, []), (120, [58, 3, 94, 0, 1007]), (3, [2, 0]), (2, [0, 0]), (2, [0, 0]), (27, [10, 13, 0, 78, 0, 911]), (0, [1, 0, 0]), (102, [100]), (2, [0, 0]), (27, [10, 14, 0, 75, 0, 912]), (2, [0, 0]), (27, [10, 4, 2, 17, 0, 902]), (0, [1, 0, 0]), (30, []), (104, [100]), (2, [0, 0]), (0, [7, 1, 0]), (2, [0, 0]), (27, [10, 14, 0, 75, 0, 912]), (8, []), (2, [0, 0]), (27, [10, 15, 0, 81, 0, 913]), (0, [-9, 1, 0]), (102, [94]), (1, [2, 0]), (100, [95]), (0, [0, 0, 0]), (6, []), (120, [61, 2, 102, 0, 1014]), (107, [100]), (0, [1, 0, 0]), (100, [101]), (0, [0, 0, 0]), (120, [57, 2, 87, 0, 999]), (3, [3, 0]), (2, [0, 0]), (0, [0, 0, 0]), (0, [3, 0, 0]), (120, [58, 3, 94, 0, 1007]), (3, [4, 1]), (2, [0, 0]), (27, [10, 15, 0, 81, 0, 913]), (0, [-9, 1, 0]), (102, [132]), (2, [0, 0]), (27, [10, 7, 2, 26, 0, 905]), (2, [0, 0]), (27, [10, 6, 2, 23, 0, 904]), (0, [1, 0, 0]), (30, []), (0, [7, 1, 0]), (1, [3, 0]), (8, []), (1, [2, 0]), (6, []), (31, []), (2, [0, 0]), (27, [10, 8, 2, 29, 0, 906]), (2, [0, 0]), (27, [10, 6, 2, 23, 0, 904]), (0, [1, 0, 0]), (30, []), (1, [4, 1]), (31, []), (2, [0, 0]), (27, [10, 6, 2, 23, 0, 904]), (0, [1, 0, 0]), (25, []), (30, []), (0, [1, 0, 0]), (6, []), (31, []), (100, [170]), (2, [0, 0]), (27, [10, 9, 2, 32, 0, 907]), (0, [2, 0, 0]), (2, [0, 0]), (0, [1, 0, 0]), (0, [9, 1, 0]), (120, [58, 3, 94, 0, 1007]), (31, []), (2, [0, 0]), (24, []), (27, [10, 10, 0, 91, 0, 908]), (0, [1, 0, 0]), (12, []), (28, [10, 10, 0, 91, 0, 0, 908]), (100, [170]), (2, [0, 0]), (27, [10, 9, 2, 32, 0, 907]), (0, [3, 0, 0]), (2, [0, 0]), (0, [1, 0, 0]), (0, [7, 1, 0]), (120, [58, 3, 94, 0, 1007]), (31, []), (2, [0, 0]), (24, []), (27, [10, 10, 0, 91, 0, 908]), (0, [2, 0, 0]), (12, []), (28, [10, 10, 0, 91, 0, 0, 908]), (116, [])]
def fd_p62 : List Nat := [0, 1, 44, 45, 48, 49, 50, 51, 53, 56, 57, 60, 61, 62, 63, 64, 67, 68, 69, 72, 73, 76, 78, 81, 82, 85, 87, 89, 90, 93, 94, 95, 96, 97, 98, 99, 100, 103, 106, 107, 108, 109, 112, 115, 117, 120, 121, 124, 125, 128, 129, 132, 135, 136, 139, 140, 141, 142, 143, 144, 145, 148, 149, 150, 151, 154, 155, 156, 157, 158, 161, 162, 163, 164, 167, 168, 171, 172, 175, 176, 179, 180, 181, 184, 185, 187, 188, 191, 192, 193, 196, 198, 201, 202, 205, 206, 207, 210, 213, 214, 217, 218, 221, 222, 223, 224, 225, 228, 230, 231, 234, 236, 239, 240, 243, 244, 247, 248, 249, 251, 252, 253, 254, 255, 256, 257, 260, 261, 264, 265, 266, 268, 269, 270, 273, 274, 275, 276, 277, 278, 279, 282, 283, 286, 287, 288, 289, 291, 294, 295, 296, 297, 300, 301, 302, 305, 308, 309, 312, 313, 314, 315, 317, 320, 321, 322, 323, 326, 327, 328, 331]
-- FacingDoorsModel.plain ()V
def fd_c63 : List fd_Ins := [(2, [0, 0]), (27, [10, 3, 2, 13, 0, 901]), (0, [1, 0, 0]), (0, [0, 0, 0]), (31, []), (2, [0, 0]), (27, [10, 4, 2, 17, 0, 902]), (0, [1, 0, 0]), (0, [0, 0, 0]), (31, []), (2, [0, 0]), (27, [10, 6, 2, 23, 0, 904]), (0, [1, 0, 0]), (0, [0, 0, 0]), (31, []), (2, [0, 0]), (27, [10, 9, 2, 32, 0, 907]), (0, [2, 0, 0]), (0, [1, 0, 0]), (31, []), (2, [0, 0]), (27, [10, 9, 2, 32, 0, 907]), (0, [3, 0, 0]), (0, [7, 1, 0]), (31, []), (2, [0, 0]), (0, [0, 0, 0]), (28, [10, 10, 0, 91, 0, 0, 908]), (0, [0, 0, 0]), (3, [1, 0]), (1, [1, 0]), (0, [49, 1, 0]), (104, [42]), (2, [0, 0]), (27, [10, 5, 2, 20, 0, 903]), (0, [49, 1, 0]), (1, [1, 0]), (6, []), (0, [0, 0, 0]), (31, []), (5, [1, 1]), (100, [30]), (116, [])]
def fd_p63 : List Nat := [0, 1, 4, 5, 6, 7, 8, 11, 12, 13, 14, 15, 18, 19, 20, 21, 22, 25, 26, 27, 28, 29, 32, 33, 35, 36, 37, 38, 41, 42, 43, 44, 46, 49, 50, 53, 55, 56, 57, 58, 59, 62, 65]
-- FacingDoorsModel.takeDraft ()V
def fd_c64 : List fd_Ins := [(2, [0, 0]), (27, [10, 3, 2, 13, 0, 901]), (0, [0, 0, 0]), (2, [0, 0]), (27, [10, 3, 2, 13, 0, 901]), (0, [1, 0, 0]), (30, []), (31, []), (2, [0, 0]), (27, [10, 4, 2, 17, 0, 902]), (0, [0, 0, 0]), (2, [0, 0]), (27, [10, 4, 2, 17, 0, 902]), (0, [1, 0, 0]), (30, []), (31, []), (2, [0, 0]), (27, [10, 6, 2, 23, 0, 904]), (0, [0, 0, 0]), (2, [0, 0]), (27, [10, 6, 2, 23, 0, 904]), (0, [1, 0, 0]), (30, []), (31, []), (2, [0, 0]), (27, [10, 9, 2, 32, 0, 907]), (0, [0, 0, 0]), (2, [0, 0]), (27, [10, 9, 2, 32, 0, 907]), (0, [2, 0, 0]), (30, []), (31, []), (2, [0, 0]), (27, [10, 9, 2, 32, 0, 907]), (0, [1, 0, 0]), (2, [0, 0]), (27, [10, 9, 2, 32, 0, 907]), (0, [3, 0, 0]), (30, []), (31, []), (0, [0, 0, 0]), (3, [1, 0]), (1, [1, 0]), (0, [49, 1, 0]), (104, [57]), (2, [0, 0]), (27, [10, 5, 2, 20, 0, 903]), (1, [1, 0]), (2, [0, 0]), (27, [10, 5, 2, 20, 0, 903]), (0, [49, 1, 0]), (1, [1, 0]), (6, []), (30, []), (31, []), (5, [1, 1]), (100, [42]), (0, [0, 0, 0]), (3, [1, 0]), (1, [1, 0]), (0, [28, 1, 0]), (104, [69]), (2, [0, 0]), (27, [10, 16, 2, 35, 0, 914]), (1, [1, 0]), (0, [0, 0, 0]), (31, []), (5, [1, 1]), (100, [59]), (0, [0, 0, 0]), (3, [1, 0]), (1, [1, 0]), (2, [0, 0]), (27, [10, 6, 2, 23, 0, 904]), (0, [0, 0, 0]), (30, []), (104, [99]), (2, [0, 0]), (27, [10, 16, 2, 35, 0, 914]), (0, [0, 0, 0]), (1, [1, 0]), (6, []), (2, [0, 0]), (27, [10, 7, 2, 26, 0, 905]), (1, [1, 0]), (30, []), (31, []), (2, [0, 0]), (27, [10, 16, 2, 35, 0, 914]), (0, [6, 1, 0]), (1, [1, 0]), (6, []), (2, [0, 0]), (27, [10, 8, 2, 29, 0, 906]), (1, [1, 0]), (30, []), (31, []), (5, [1, 1]), (100, [71]), (2, [0, 0]), (27, [10, 16, 2, 35, 0, 914]), (0, [12, 1, 0]), (0, [1, 0, 0]), (2, [0, 0]), (27, [10, 6, 2, 23, 0, 904]), (0, [0, 0, 0]), (30, []), (14, []), (0, [1, 0, 0]), (7, []), (31, []), (2, [0, 0]), (27, [10, 16, 2, 35, 0, 914]), (0, [13, 1, 0]), (0, [1, 0, 0]), (31, []), (2, [0, 0]), (27, [10, 16, 2, 35, 0, 914]), (0, [28, 1, 0]), (0, [0, 0, 0]), (31, []), (2, [0, 0]), (0, [0, 0, 0]), (28, [10, 23, 0, 106, 0, 0, 921]), (2, [0, 0]), (27, [10, 17, 2, 38, 0, 915]), (0, [0, 0, 0]), (0, [0, 0, 0]), (33, []), (2, [0, 0]), (27, [10, 17, 2, 38, 0, 915]), (0, [1, 0, 0]), (0, [0, 0, 0]), (33, []), (116, [])]
def fd_p64 : List Nat := [0, 1, 4, 5, 6, 9, 10, 11, 12, 13, 16, 17, 18, 21, 22, 23, 24, 25, 28, 29, 30, 33, 34, 35, 36, 37, 40, 41, 42, 45, 46, 47, 48, 49, 52, 53, 54, 57, 58, 59, 60, 61, 62, 63, 65, 68, 69, 72, 73, 74, 77, 79, 80, 81, 82, 83, 86, 89, 90, 91, 92, 94, 97, 98, 101, 102, 103, 104, 107, 110, 111, 112, 113, 114, 117, 118, 119, 122, 123, 126, 127, 128, 129, 130, 133, 134, 135, 136, 137, 140, 142, 143, 144, 145, 148, 149, 150, 151, 154, 157, 158, 161, 163, 164, 165, 168, 169, 170, 171, 172, 173, 174, 175, 178, 180, 181, 182, 183, 186, 188, 189, 190, 191, 192, 195, 196, 199, 200, 201, 202, 203, 206, 207, 208, 209]
-- FacingDoorsModel.quarter ()I
def fd_c65 : List fd_Ins := [(2, [0, 0]), (0, [0, 0, 0]), (28, [10, 11, 0, 65, 0, 0, 909]), (2, [0, 0]), (0, [-9, 1, 0]), (28, [10, 15, 0, 81, 0, 0, 913]), (2, [0, 0]), (120, [63, 1, 51, 0, 890]), (0, [0, 0, 0]), (3, [1, 0]), (2, [0, 0]), (120, [56, 1, 84, 0, 987]), (2, [0, 0]), (27, [10, 15, 0, 81, 0, 913]), (0, [-9, 1, 0]), (102, [49]), (2, [0, 0]), (27, [10, 13, 0, 78, 0, 911]), (0, [3, 0, 0]), (101, [49]), (2, [0, 0]), (27, [10, 13, 0, 78, 0, 911]), (3, [2, 0]), (2, [0, 0]), (2, [0, 0]), (1, [2, 0]), (1, [1, 0]), (120, [59, 3, 109, 0, 995]), (120, [57, 2, 87, 0, 999]), (26, []), (2, [0, 0]), (27, [10, 15, 0, 81, 0, 913]), (0, [-9, 1, 0]), (102, [48]), (2, [0, 0]), (1, [2, 0]), (120, [62, 2, 113, 0, 1003]), (2, [0, 0]), (2, [0, 0]), (27, [10, 13, 0, 78, 0, 911]), (0, [2, 0, 0]), (102, [44]), (0, [1, 0, 0]), (100, [45]), (0, [0, 0, 0]), (120, [57, 2, 87, 0, 999]), (26, []), (5, [1, 1]), (100, [12]), (2, [0, 0]), (27, [10, 15, 0, 81, 0, 913]), (0, [-9, 1, 0]), (101, [58]), (0, [-10, 1, 0]), (2, [0, 0]), (27, [10, 15, 0, 81, 0, 913]), (7, []), (114, []), (2, [0, 0]), (120, [64, 1, 54, 0, 894]), (2, [0, 0]), (0, [0, 0, 0]), (28, [10, 2, 0, 61, 0, 0, 900]), (1, [1, 0]), (114, [])]
def fd_p65 : List Nat := [0, 1, 2, 5, 6, 8, 11, 12, 15, 16, 17, 18, 21, 22, 25, 27, 30, 31, 34, 35, 38, 39, 42, 43, 44, 45, 46, 47, 50, 53, 54, 55, 58, 60, 63, 64, 65, 68, 69, 70, 73, 74, 77, 78, 81, 82, 85, 86, 89, 92, 93, 96, 98, 101, 103, 104, 107, 108, 109, 110, 113, 114, 115, 118, 119]
-- FacingDoorsModel.isDoor (I)Z
def fd_c66 : List fd_Ins := [(1, [1, 0]), (0, [0, 0, 0]), (2, [0, 0]), (27, [10, 6, 2, 23, 0, 904]), (0, [0, 0, 0]), (30, []), (0, [1, 0, 0]), (7, []), (121, [52, 3, 57, 0, 976]), (114, [])]
def fd_p66 : List Nat := [0, 1, 2, 3, 6, 7, 8, 9, 10, 13]
-- FacingDoorsModel.isCell (II)Z
def fd_c67 : List fd_Ins := [(1, [1, 0]), (0, [0, 0, 0]), (2, [0, 0]), (27, [10, 3, 2, 13, 0, 901]), (0, [0, 0, 0]), (30, []), (0, [1, 0, 0]), (7, []), (121, [52, 3, 57, 0, 976]), (107, [22]), (1, [2, 0]), (0, [0, 0, 0]), (2, [0, 0]), (27, [10, 4, 2, 17, 0, 902]), (0, [0, 0, 0]), (30, []), (0, [1, 0, 0]), (7, []), (121, [52, 3, 57, 0, 976]), (107, [22]), (0, [1, 0, 0]), (100, [23]), (0, [0, 0, 0]), (114, [])]
def fd_p67 : List Nat := [0, 1, 2, 3, 6, 7, 8, 9, 10, 13, 16, 17, 18, 19, 22, 23, 24, 25, 26, 29, 32, 33, 36, 37]
-- FacingDoorsModel.hasCart (II)Z
def fd_c68 : List fd_Ins := [(2, [0, 0]), (27, [10, 16, 2, 35, 0, 914]), (0, [21, 1, 0]), (1, [2, 0]), (6, []), (30, []), (1, [1, 0]), (15, []), (0, [1, 0, 0]), (11, []), (0, [1, 0, 0]), (102, [14]), (0, [1, 0, 0]), (100, [15]), (0, [0, 0, 0]), (114, [])]
def fd_p68 : List Nat := [0, 1, 4, 6, 7, 8, 9, 10, 11, 12, 13, 14, 17, 18, 21, 22]
-- FacingDoorsModel.doorAt (II)I
def fd_c69 : List fd_Ins := [(0, [0, 0, 0]), (3, [3, 0]), (1, [3, 0]), (2, [0, 0]), (27, [10, 6, 2, 23, 0, 904]), (0, [0, 0, 0]), (30, []), (104, [24]), (2, [0, 0]), (27, [10, 16, 2, 35, 0, 914]), (0, [0, 0, 0]), (1, [3, 0]), (6, []), (30, []), (0, [7, 1, 0]), (1, [2, 0]), (8, []), (1, [1, 0]), (6, []), (102, [22]), (1, [3, 0]), (114, []), (5, [3, 1]), (100, [2]), (0, [-9, 1, 0]), (114, [])]
def fd_p69 : List Nat := [0, 1, 2, 3, 4, 7, 8, 9, 12, 13, 16, 17, 18, 19, 20, 22, 23, 24, 25, 26, 29, 30, 31, 34, 37, 39]
-- FacingDoorsModel.cell (II)I
def fd_c70 : List fd_Ins := [(2, [0, 0]), (1, [1, 0]), (1, [2, 0]), (120, [67, 3, 117, 0, 1022]), (108, [7]), (0, [-1, 0, 0]), (114, []), (2, [0, 0]), (1, [1, 0]), (1, [2, 0]), (120, [69, 3, 120, 0, 1026]), (3, [3, 0]), (1, [3, 0]), (0, [-9, 1, 0]), (101, [19]), (0, [10, 1, 0]), (1, [3, 0]), (6, []), (100, [34]), (2, [0, 0]), (1, [1, 0]), (1, [2, 0]), (120, [68, 3, 123, 0, 1030]), (107, [26]), (0, [3, 0, 0]), (100, [34]), (2, [0, 0]), (27, [10, 5, 2, 20, 0, 903]), (0, [7, 1, 0]), (1, [2, 0]), (8, []), (1, [1, 0]), (6, []), (30, []), (114, [])]
def fd_p70 : List Nat := [0, 1, 2, 3, 6, 9, 10, 11, 12, 13, 14, 17, 18, 19, 21, 24, 26, 27, 28, 31, 32, 33, 34, 37, 40, 41, 44, 45, 48, 50, 51, 52, 53, 54, 55]
-- FacingDoorsModel.manyOf (I)I
def fd_c71 : List fd_Ins := [(0, [0, 0, 0]), (3, [1, 0]), (0, [0, 0, 0]), (3, [2, 0]), (1, [2, 0]), (0, [7, 1, 0]), (104, [17]), (1, [1, 0]), (1, [0, 0]), (1, [2, 0]), (15, []), (0, [1, 0, 0]), (11, []), (6, []), (3, [1, 0]), (5, [2, 1]), (100, [4]), (1, [1, 0]), (114, [])]
def fd_p71 : List Nat := [0, 1, 2, 3, 4, 5, 7, 10, 11, 12, 13, 14, 15, 16, 17, 18, 21, 24, 25]
-- FacingDoorsModel.take ()V
def fd_c72 : List fd_Ins := [(0, [0, 0, 0]), (3, [1, 0]), (1, [1, 0]), (0, [6, 1, 0]), (104, [17]), (2, [0, 0]), (27, [10, 18, 2, 42, 0, 916]), (1, [1, 0]), (2, [0, 0]), (27, [10, 16, 2, 35, 0, 914]), (0, [6, 1, 0]), (1, [1, 0]), (6, []), (30, []), (31, []), (5, [1, 1]), (100, [2]), (2, [0, 0]), (2, [0, 0]), (27, [10, 16, 2, 35, 0, 914]), (0, [12, 1, 0]), (30, []), (28, [10, 19, 0, 126, 0, 0, 917]), (2, [0, 0]), (2, [0, 0]), (27, [10, 16, 2, 35, 0, 914]), (0, [14, 1, 0]), (30, []), (0, [1, 0, 0]), (102, [32]), (0, [1, 0, 0]), (100, [33]), (0, [0, 0, 0]), (28, [10, 20, 3, 129, 0, 0, 918]), (116, [])]
def fd_p72 : List Nat := [0, 1, 2, 3, 5, 8, 9, 12, 13, 14, 17, 19, 20, 21, 22, 23, 26, 29, 30, 31, 34, 36, 37, 40, 41, 42, 45, 47, 48, 49, 52, 53, 56, 57, 60]
-- FacingDoorsModel.stepX (I)I
def fd_c73 : List fd_Ins := [(1, [0, 0]), (0, [1, 0, 0]), (102, [5]), (0, [1, 0, 0]), (100, [11]), (1, [0, 0]), (0, [3, 0, 0]), (102, [10]), (0, [-1, 0, 0]), (100, [11]), (0, [0, 0, 0]), (114, [])]
def fd_p73 : List Nat := [0, 1, 2, 5, 6, 9, 10, 11, 14, 15, 18, 19]
-- FacingDoorsModel.stepY (I)I
def fd_c74 : List fd_Ins := [(1, [0, 0]), (0, [2, 0, 0]), (102, [5]), (0, [1, 0, 0]), (100, [10]), (1, [0, 0]), (108, [9]), (0, [-1, 0, 0]), (100, [10]), (0, [0, 0, 0]), (114, [])]
def fd_p74 : List Nat := [0, 1, 2, 5, 6, 9, 10, 13, 14, 17, 18]
-- FacingDoorsModel.sees (I)I
def fd_c75 : List fd_Ins := [(2, [0, 0]), (27, [10, 19, 0, 126, 0, 917]), (1, [1, 0]), (15, []), (0, [1, 0, 0]), (11, []), (107, [10]), (2, [0, 0]), (27, [10, 20, 3, 129, 0, 918]), (107, [12]), (0, [-9, 1, 0]), (114, []), (2, [0, 0]), (27, [10, 16, 2, 35, 0, 914]), (0, [0, 0, 0]), (1, [1, 0]), (6, []), (30, []), (0, [7, 1, 0]), (10, []), (3, [2, 0]), (2, [0, 0]), (27, [10, 16, 2, 35, 0, 914]), (0, [0, 0, 0]), (1, [1, 0]), (6, []), (30, []), (0, [7, 1, 0]), (9, []), (3, [3, 0]), (0, [0, 0, 0]), (3, [4, 1]), (1, [4, 1]), (2, [0, 0]), (27, [10, 9, 2, 32, 0, 907]), (0, [1, 0, 0]), (30, []), (104, [88]), (1, [2, 0]), (2, [0, 0]), (27, [10, 18, 2, 42, 0, 916]), (1, [1, 0]), (30, []), (121, [73, 1, 133, 0, 1050]), (6, []), (3, [2, 0]), (1, [3, 0]), (2, [0, 0]), (27, [10, 18, 2, 42, 0, 916]), (1, [1, 0]), (30, []), (121, [74, 1, 136, 0, 1053]), (6, []), (3, [3, 0]), (2, [0, 0]), (1, [2, 0]), (1, [3, 0]), (120, [70, 3, 139, 0, 1056]), (3, [5, 1]), (1, [5, 1]), (0, [10, 1, 0]), (103, [66]), (1, [5, 1]), (0, [10, 1, 0]), (7, []), (114, []), (1, [5, 1]), (0, [-1, 0, 0]), (101, [84]), (1, [5, 1]), (0, [1, 0, 0]), (101, [84]), (1, [5, 1]), (0, [3, 0, 0]), (101, [84]), (1, [5, 1]), (0, [2, 0, 0]), (102, [86]), (2, [0, 0]), (27, [10, 16, 2, 35, 0, 914]), (0, [13, 1, 0]), (30, []), (0, [1, 0, 0]), (102, [86]), (0, [-9, 1, 0]), (114, []), (5, [4, 1]), (100, [32]), (0, [-9, 1, 0]), (114, [])]
def fd_p75 : List Nat := [0, 1, 4, 5, 6, 7, 8, 11, 12, 15, 18, 20, 21, 22, 25, 26, 27, 28, 29, 31, 32, 33, 34, 37, 38, 39, 40, 41, 43, 44, 45, 46, 48, 50, 51, 54, 55, 56, 59, 60, 61, 64, 65, 66, 69, 70, 71, 72, 73, 76, 77, 78, 81, 82, 83, 84, 85, 86, 89, 91, 93, 95, 98, 100, 102, 103, 104, 106, 107, 110, 112, 113, 116, 118, 119, 122, 124, 125, 128, 129, 132, 134, 135, 136, 139, 141, 142, 145, 148, 150]
-- FacingDoorsModel.dueOf (I)I
def fd_c76 : List fd_Ins := [(2, [0, 0]), (1, [1, 0]), (120, [75, 2, 142, 0, 1046]), (3, [2, 0]), (1, [2, 0]), (0, [-9, 1, 0]), (102, [9]), (0, [0, 0, 0]), (100, [33]), (2, [0, 0]), (27, [10, 18, 2, 42, 0, 916]), (1, [2, 0]), (30, []), (2, [0, 0]), (27, [10, 18, 2, 42, 0, 916]), (1, [1, 0]), (30, []), (0, [2, 0, 0]), (6, []), (0, [4, 0, 0]), (10, []), (102, [29]), (0, [2, 0, 0]), (2, [0, 0]), (27, [10, 9, 2, 32, 0, 907]), (0, [0, 0, 0]), (30, []), (8, []), (100, [33]), (2, [0, 0]), (27, [10, 9, 2, 32, 0, 907]), (0, [0, 0, 0]), (30, []), (114, [])]
def fd_p76 : List Nat := [0, 1, 2, 5, 6, 7, 9, 12, 13, 16, 17, 20, 21, 22, 23, 26, 27, 28, 29, 30, 31, 32, 35, 36, 37, 40, 41, 42, 43, 46, 47, 50, 51, 52]
-- FacingDoorsModel.dues ()I
def fd_c77 : List fd_Ins := [(0, [0, 0, 0]), (3, [1, 0]), (0, [0, 0, 0]), (3, [2, 0]), (1, [2, 0]), (2, [0, 0]), (27, [10, 6, 2, 23, 0, 904]), (0, [0, 0, 0]), (30, []), (104, [18]), (1, [1, 0]), (2, [0, 0]), (1, [2, 0]), (120, [76, 2, 145, 0, 1057]), (6, []), (3, [1, 0]), (5, [2, 1]), (100, [4]), (1, [1, 0]), (114, [])]
def fd_p77 : List Nat := [0, 1, 2, 3, 4, 5, 6, 9, 10, 11, 14, 15, 16, 17, 20, 21, 22, 25, 28, 29]
-- FacingDoorsModel.hasWay (I)Z
def fd_c78 : List fd_Ins := [(2, [0, 0]), (2, [0, 0]), (27, [10, 16, 2, 35, 0, 914]), (0, [0, 0, 0]), (1, [1, 0]), (6, []), (30, []), (0, [7, 1, 0]), (10, []), (2, [0, 0]), (27, [10, 18, 2, 42, 0, 916]), (1, [1, 0]), (30, []), (121, [73, 1, 133, 0, 1050]), (6, []), (2, [0, 0]), (27, [10, 16, 2, 35, 0, 914]), (0, [0, 0, 0]), (1, [1, 0]), (6, []), (30, []), (0, [7, 1, 0]), (9, []), (2, [0, 0]), (27, [10, 18, 2, 42, 0, 916]), (1, [1, 0]), (30, []), (121, [74, 1, 136, 0, 1053]), (6, []), (120, [70, 3, 139, 0, 1056]), (108, [33]), (0, [1, 0, 0]), (100, [34]), (0, [0, 0, 0]), (114, [])]
def fd_p78 : List Nat := [0, 1, 2, 5, 6, 7, 8, 9, 11, 12, 13, 16, 17, 18, 21, 22, 23, 26, 27, 28, 29, 30, 32, 33, 34, 37, 38, 39, 42, 43, 46, 49, 50, 53, 54]
-- FacingDoorsModel.seenBy (I)I
def fd_c79 : List fd_Ins := [(0, [0, 0, 0]), (3, [2, 0]), (0, [0, 0, 0]), (3, [3, 0]), (1, [3, 0]), (2, [0, 0]), (27, [10, 6, 2, 23, 0, 904]), (0, [0, 0, 0]), (30, []), (104, [25]), (1, [2, 0]), (2, [0, 0]), (1, [3, 0]), (120, [75, 2, 142, 0, 1046]), (1, [1, 0]), (102, [20]), (0, [1, 0, 0]), (1, [3, 0]), (14, []), (100, [21]), (0, [0, 0, 0]), (12, []), (3, [2, 0]), (5, [3, 1]), (100, [4]), (1, [2, 0]), (114, [])]
def fd_p79 : List Nat := [0, 1, 2, 3, 4, 5, 6, 9, 10, 11, 14, 15, 16, 17, 20, 21, 24, 25, 26, 27, 30, 31, 32, 33, 36, 39, 40]
-- FacingDoorsModel.door (II)I
def fd_c80 : List fd_Ins := [(2, [0, 0]), (1, [1, 0]), (120, [66, 2, 148, 0, 1038]), (108, [6]), (0, [-1, 0, 0]), (114, []), (2, [0, 0]), (120, [72, 1, 151, 0, 1042]), (1, [2, 0]), (113, [80, 0, 10, 19, 28, 35, 44, 57, 61, 69, 73]), (2, [0, 0]), (27, [10, 16, 2, 35, 0, 914]), (0, [0, 0, 0]), (1, [1, 0]), (6, []), (30, []), (0, [7, 1, 0]), (10, []), (114, []), (2, [0, 0]), (27, [10, 16, 2, 35, 0, 914]), (0, [0, 0, 0]), (1, [1, 0]), (6, []), (30, []), (0, [7, 1, 0]), (9, []), (114, []), (2, [0, 0]), (27, [10, 16, 2, 35, 0, 914]), (0, [6, 1, 0]), (1, [1, 0]), (6, []), (30, []), (114, []), (2, [0, 0]), (27, [10, 16, 2, 35, 0, 914]), (0, [12, 1, 0]), (30, []), (1, [1, 0]), (15, []), (0, [1, 0, 0]), (11, []), (114, []), (2, [0, 0]), (1, [1, 0]), (120, [75, 2, 142, 0, 1046]), (0, [-9, 1, 0]), (102, [51]), (0, [0, 0, 0]), (100, [56]), (0, [1, 0, 0]), (2, [0, 0]), (1, [1, 0]), (120, [75, 2, 142, 0, 1046]), (14, []), (114, []), (2, [0, 0]), (1, [1, 0]), (120, [76, 2, 145, 0, 1057]), (114, []), (2, [0, 0]), (1, [1, 0]), (120, [78, 2, 154, 0, 1061]), (107, [67]), (0, [1, 0, 0]), (100, [68]), (0, [0, 0, 0]), (114, []), (2, [0, 0]), (1, [1, 0]), (120, [79, 2, 157, 0, 1065]), (114, []), (2, [0, 0]), (27, [10, 16, 2, 35, 0, 914]), (0, [15, 1, 0]), (1, [1, 0]), (6, []), (30, []), (114, []), (0, [-1, 0, 0]), (114, [])]
def fd_p80 : List Nat := [0, 1, 2, 5, 8, 9, 10, 11, 14, 15, 64, 65, 68, 69, 70, 71, 72, 74, 75, 76, 77, 80, 81, 82, 83, 84, 86, 87, 88, 89, 92, 94, 95, 96, 97, 98, 99, 102, 104, 105, 106, 107, 108, 109, 110, 111, 112, 115, 117, 120, 121, 124, 125, 126, 127, 130, 131, 132, 133, 134, 137, 138, 139, 140, 143, 146, 147, 150, 151, 152, 153, 154, 157, 158, 159, 162, 164, 165, 166, 167, 168, 169]
-- FacingDoorsModel.know ()V
def fd_c81 : List fd_Ins := [(2, [0, 0]), (27, [10, 16, 2, 35, 0, 914]), (0, [28, 1, 0]), (30, []), (0, [10, 1, 0]), (102, [33]), (0, [0, 0, 0]), (3, [1, 0]), (1, [1, 0]), (0, [252, 2, 0]), (104, [25]), (2, [0, 0]), (27, [10, 16, 2, 35, 0, 914]), (0, [29, 1, 0]), (1, [1, 0]), (6, []), (2, [0, 0]), (27, [10, 16, 2, 35, 0, 914]), (0, [57, 1, 0]), (1, [1, 0]), (6, []), (30, []), (31, []), (5, [1, 1]), (100, [8]), (2, [0, 0]), (27, [10, 16, 2, 35, 0, 914]), (0, [28, 1, 0]), (25, []), (30, []), (0, [1, 0, 0]), (7, []), (31, []), (0, [0, 0, 0]), (3, [1, 0]), (1, [1, 0]), (0, [28, 1, 0]), (104, [57]), (2, [0, 0]), (27, [10, 16, 2, 35, 0, 914]), (0, [29, 1, 0]), (0, [28, 1, 0]), (2, [0, 0]), (27, [10, 16, 2, 35, 0, 914]), (0, [28, 1, 0]), (30, []), (8, []), (6, []), (1, [1, 0]), (6, []), (2, [0, 0]), (27, [10, 16, 2, 35, 0, 914]), (1, [1, 0]), (30, []), (31, []), (5, [1, 1]), (100, [35]), (2, [0, 0]), (27, [10, 16, 2, 35, 0, 914]), (0, [28, 1, 0]), (25, []), (30, []), (0, [1, 0, 0]), (6, []), (31, []), (116, [])]
def fd_p81 : List Nat := [0, 1, 4, 6, 7, 9, 12, 13, 14, 15, 18, 21, 22, 25, 27, 28, 29, 30, 33, 35, 36, 37, 38, 39, 42, 45, 46, 49, 51, 52, 53, 54, 55, 56, 57, 58, 59, 61, 64, 65, 68, 70, 72, 73, 76, 78, 79, 80, 81, 82, 83, 84, 87, 88, 89, 90, 93, 96, 97, 100, 102, 103, 104, 105, 106, 107]
-- FacingDoorsModel.duesNow ()I
def fd_c82 : List fd_Ins := [(2, [0, 0]), (120, [72, 1, 151, 0, 1042]), (2, [0, 0]), (120, [77, 1, 160, 0, 1108]), (114, [])]
def fd_p82 : List Nat := [0, 1, 4, 5, 8]
-- FacingDoorsModel.hinges (II)I
def fd_c83 : List fd_Ins := [(2, [0, 0]), (1, [1, 0]), (120, [66, 2, 148, 0, 1038]), (107, [9]), (1, [2, 0]), (0, [0, 0, 0]), (0, [3, 0, 0]), (121, [52, 3, 57, 0, 976]), (108, [11]), (0, [-1, 0, 0]), (114, []), (2, [0, 0]), (27, [10, 16, 2, 35, 0, 914]), (0, [6, 1, 0]), (1, [1, 0]), (6, []), (30, []), (3, [3, 0]), (1, [3, 0]), (1, [2, 0]), (102, [23]), (0, [-2, 1, 0]), (114, []), (2, [0, 0]), (120, [81, 1, 163, 0, 1073]), (2, [0, 0]), (27, [10, 16, 2, 35, 0, 914]), (0, [6, 1, 0]), (1, [1, 0]), (6, []), (1, [2, 0]), (31, []), (1, [3, 0]), (114, [])]
def fd_p83 : List Nat := [0, 1, 2, 5, 8, 9, 10, 11, 14, 17, 18, 19, 20, 23, 25, 26, 27, 28, 29, 30, 31, 34, 36, 37, 38, 41, 42, 45, 47, 48, 49, 50, 51, 52]
-- FacingDoorsModel.moves (II)I
def fd_c84 : List fd_Ins := [(2, [0, 0]), (1, [1, 0]), (120, [66, 2, 148, 0, 1038]), (107, [9]), (1, [2, 0]), (0, [0, 0, 0]), (0, [3, 0, 0]), (121, [52, 3, 57, 0, 976]), (108, [11]), (0, [-1, 0, 0]), (114, []), (2, [0, 0]), (27, [10, 16, 2, 35, 0, 914]), (0, [0, 0, 0]), (1, [1, 0]), (6, []), (30, []), (0, [7, 1, 0]), (10, []), (1, [2, 0]), (121, [73, 1, 133, 0, 1050]), (6, []), (3, [3, 0]), (2, [0, 0]), (27, [10, 16, 2, 35, 0, 914]), (0, [0, 0, 0]), (1, [1, 0]), (6, []), (30, []), (0, [7, 1, 0]), (9, []), (1, [2, 0]), (121, [74, 1, 136, 0, 1053]), (6, []), (3, [4, 1]), (2, [0, 0]), (1, [3, 0]), (1, [4, 1]), (120, [70, 3, 139, 0, 1056]), (107, [42]), (0, [-2, 1, 0]), (114, []), (2, [0, 0]), (120, [81, 1, 163, 0, 1073]), (2, [0, 0]), (27, [10, 16, 2, 35, 0, 914]), (0, [0, 0, 0]), (1, [1, 0]), (6, []), (0, [7, 1, 0]), (1, [4, 1]), (8, []), (1, [3, 0]), (6, []), (31, []), (2, [0, 0]), (27, [10, 16, 2, 35, 0, 914]), (0, [28, 1, 0]), (30, []), (114, [])]
def fd_p84 : List Nat := [0, 1, 2, 5, 8, 9, 10, 11, 14, 17, 18, 19, 20, 23, 24, 25, 26, 27, 29, 30, 31, 34, 35, 36, 37, 40, 41, 42, 43, 44, 46, 47, 48, 51, 52, 54, 55, 56, 58, 61, 64, 66, 67, 68, 71, 72, 75, 76, 77, 78, 80, 82, 83, 84, 85, 86, 87, 90, 92, 93]
-- FacingDoorsModel.opens (II)I
def fd_c85 : List fd_Ins := [(2, [0, 0]), (1, [1, 0]), (120, [66, 2, 148, 0, 1038]), (107, [9]), (1, [2, 0]), (0, [0, 0, 0]), (0, [1, 0, 0]), (121, [52, 3, 57, 0, 976]), (108, [11]), (0, [-1, 0, 0]), (114, []), (2, [0, 0]), (27, [10, 16, 2, 35, 0, 914]), (0, [12, 1, 0]), (30, []), (1, [1, 0]), (15, []), (0, [1, 0, 0]), (11, []), (1, [2, 0]), (102, [23]), (0, [-2, 1, 0]), (114, []), (2, [0, 0]), (120, [81, 1, 163, 0, 1073]), (2, [0, 0]), (27, [10, 16, 2, 35, 0, 914]), (0, [12, 1, 0]), (25, []), (30, []), (0, [1, 0, 0]), (1, [1, 0]), (14, []), (13, []), (31, []), (2, [0, 0]), (120, [72, 1, 151, 0, 1042]), (2, [0, 0]), (1, [1, 0]), (120, [76, 2, 145, 0, 1057]), (114, [])]
def fd_p85 : List Nat := [0, 1, 2, 5, 8, 9, 10, 11, 14, 17, 18, 19, 20, 23, 25, 26, 27, 28, 29, 30, 31, 34, 36, 37, 38, 41, 42, 45, 47, 48, 49, 50, 51, 52, 53, 54, 55, 58, 59, 60, 63]
-- FacingDoorsModel.carts ()I
def fd_c86 : List fd_Ins := [(0, [0, 0, 0]), (3, [1, 0]), (0, [0, 0, 0]), (3, [2, 0]), (1, [2, 0]), (0, [7, 1, 0]), (104, [19]), (1, [1, 0]), (2, [0, 0]), (27, [10, 16, 2, 35, 0, 914]), (0, [21, 1, 0]), (1, [2, 0]), (6, []), (30, []), (121, [71, 1, 166, 0, 1093]), (6, []), (3, [1, 0]), (5, [2, 1]), (100, [4]), (1, [1, 0]), (114, [])]
def fd_p86 : List Nat := [0, 1, 2, 3, 4, 5, 7, 10, 11, 12, 15, 17, 18, 19, 20, 23, 24, 25, 28, 31, 32]
-- FacingDoorsModel.cart (III)I
def fd_c87 : List fd_Ins := [(2, [0, 0]), (1, [1, 0]), (1, [2, 0]), (120, [67, 3, 117, 0, 1022]), (107, [10]), (1, [3, 0]), (0, [0, 0, 0]), (0, [1, 0, 0]), (121, [52, 3, 57, 0, 976]), (108, [12]), (0, [-1, 0, 0]), (114, []), (2, [0, 0]), (1, [1, 0]), (1, [2, 0]), (120, [70, 3, 139, 0, 1056]), (1, [3, 0]), (0, [1, 0, 0]), (102, [21]), (0, [0, 0, 0]), (100, [22]), (0, [3, 0, 0]), (101, [25]), (0, [-2, 1, 0]), (114, []), (2, [0, 0]), (120, [81, 1, 163, 0, 1073]), (2, [0, 0]), (27, [10, 16, 2, 35, 0, 914]), (0, [21, 1, 0]), (1, [2, 0]), (6, []), (25, []), (30, []), (0, [1, 0, 0]), (1, [1, 0]), (14, []), (13, []), (31, []), (2, [0, 0]), (120, [86, 1, 169, 0, 1089]), (114, [])]
def fd_p87 : List Nat := [0, 1, 2, 3, 6, 9, 10, 11, 12, 15, 18, 19, 20, 21, 22, 23, 26, 27, 28, 31, 32, 35, 36, 39, 41, 42, 43, 46, 47, 50, 52, 53, 54, 55, 56, 57, 58, 59, 60, 61, 62, 65]
-- FacingDoorsModel.set (II)I
def fd_c88 : List fd_Ins := [(1, [2, 0]), (0, [0, 0, 0]), (0, [1, 0, 0]), (121, [52, 3, 57, 0, 976]), (108, [7]), (0, [-1, 0, 0]), (114, []), (2, [0, 0]), (27, [10, 16, 2, 35, 0, 914]), (1, [1, 0]), (30, []), (1, [2, 0]), (102, [15]), (0, [-2, 1, 0]), (114, []), (2, [0, 0]), (120, [81, 1, 163, 0, 1073]), (2, [0, 0]), (27, [10, 16, 2, 35, 0, 914]), (1, [1, 0]), (1, [2, 0]), (31, []), (2, [0, 0]), (120, [82, 1, 172, 0, 1104]), (114, [])]
def fd_p88 : List Nat := [0, 1, 2, 3, 6, 9, 10, 11, 12, 15, 16, 17, 18, 21, 23, 24, 25, 28, 29, 32, 33, 34, 35, 36, 39]
-- FacingDoorsModel.leaf (I)I
def fd_c89 : List fd_Ins := [(2, [0, 0]), (0, [13, 1, 0]), (1, [1, 0]), (120, [88, 3, 175, 0, 1100]), (114, [])]
def fd_p89 : List Nat := [0, 1, 3, 4, 7]
-- FacingDoorsModel.fog (I)I
def fd_c90 : List fd_Ins := [(2, [0, 0]), (0, [14, 1, 0]), (1, [1, 0]), (120, [88, 3, 175, 0, 1100]), (114, [])]
def fd_p90 : List Nat := [0, 1, 3, 4, 7]
-- FacingDoorsModel.bills ()I
def fd_c91 : List fd_Ins := [(2, [0, 0]), (120, [81, 1, 163, 0, 1073]), (2, [0, 0]), (120, [72, 1, 151, 0, 1042]), (0, [0, 0, 0]), (3, [1, 0]), (1, [1, 0]), (2, [0, 0]), (27, [10, 6, 2, 23, 0, 904]), (0, [0, 0, 0]), (30, []), (104, [37]), (2, [0, 0]), (27, [10, 16, 2, 35, 0, 914]), (0, [15, 1, 0]), (1, [1, 0]), (6, []), (30, []), (2, [0, 0]), (1, [1, 0]), (120, [76, 2, 145, 0, 1057]), (6, []), (3, [2, 0]), (2, [0, 0]), (27, [10, 16, 2, 35, 0, 914]), (0, [15, 1, 0]), (1, [1, 0]), (6, []), (1, [2, 0]), (0, [9999, 2, 0]), (106, [33]), (0, [9999, 2, 0]), (100, [34]), (1, [2, 0]), (31, []), (5, [1, 1]), (100, [6]), (2, [0, 0]), (120, [77, 1, 160, 0, 1108]), (114, [])]
def fd_p91 : List Nat := [0, 1, 4, 5, 8, 9, 10, 11, 12, 15, 16, 17, 20, 21, 24, 26, 27, 28, 29, 30, 31, 34, 35, 36, 37, 40, 42, 43, 44, 45, 48, 51, 54, 57, 58, 59, 62, 65, 66, 69]
-- FacingDoorsModel.undo ()I
def fd_c92 : List fd_Ins := [(2, [0, 0]), (27, [10, 16, 2, 35, 0, 914]), (0, [28, 1, 0]), (30, []), (108, [7]), (0, [-2, 1, 0]), (114, []), (2, [0, 0]), (27, [10, 16, 2, 35, 0, 914]), (0, [28, 1, 0]), (25, []), (30, []), (0, [1, 0, 0]), (7, []), (31, []), (0, [0, 0, 0]), (3, [1, 0]), (1, [1, 0]), (0, [28, 1, 0]), (104, [39]), (2, [0, 0]), (27, [10, 16, 2, 35, 0, 914]), (1, [1, 0]), (2, [0, 0]), (27, [10, 16, 2, 35, 0, 914]), (0, [29, 1, 0]), (0, [28, 1, 0]), (2, [0, 0]), (27, [10, 16, 2, 35, 0, 914]), (0, [28, 1, 0]), (30, []), (8, []), (6, []), (1, [1, 0]), (6, []), (30, []), (31, []), (5, [1, 1]), (100, [17]), (2, [0, 0]), (27, [10, 16, 2, 35, 0, 914]), (0, [28, 1, 0]), (30, []), (114, [])]
def fd_p92 : List Nat := [0, 1, 4, 6, 7, 10, 12, 13, 14, 17, 19, 20, 21, 22, 23, 24, 25, 26, 27, 29, 32, 33, 36, 37, 38, 41, 43, 45, 46, 49, 51, 52, 53, 54, 55, 56, 57, 58, 61, 64, 65, 68, 70, 71]
-- FacingDoorsModel.allHaveWays ()Z
def fd_c93 : List fd_Ins := [(0, [1, 0, 0]), (3, [1, 0]), (0, [0, 0, 0]), (3, [2, 0]), (1, [2, 0]), (2, [0, 0]), (27, [10, 6, 2, 23, 0, 904]), (0, [0, 0, 0]), (30, []), (104, [22]), (1, [1, 0]), (107, [18]), (2, [0, 0]), (1, [2, 0]), (120, [78, 2, 154, 0, 1061]), (107, [18]), (0, [1, 0, 0]), (100, [19]), (0, [0, 0, 0]), (3, [1, 0]), (5, [2, 1]), (100, [4]), (1, [1, 0]), (114, [])]
def fd_p93 : List Nat := [0, 1, 2, 3, 4, 5, 6, 9, 10, 11, 14, 15, 18, 19, 20, 23, 26, 27, 30, 31, 32, 35, 38, 39]
-- FacingDoorsModel.now (I)I
def fd_c94 : List fd_Ins := [(2, [0, 0]), (120, [72, 1, 151, 0, 1042]), (0, [0, 0, 0]), (3, [2, 0]), (1, [1, 0]), (113, [102, 0, 6, 9, 14, 38, 68, 71, 76, 81]), (2, [0, 0]), (120, [77, 1, 160, 0, 1108]), (114, []), (2, [0, 0]), (27, [10, 16, 2, 35, 0, 914]), (0, [12, 1, 0]), (30, []), (114, []), (0, [0, 0, 0]), (3, [3, 0]), (1, [3, 0]), (2, [0, 0]), (27, [10, 6, 2, 23, 0, 904]), (0, [0, 0, 0]), (30, []), (104, [36]), (1, [2, 0]), (2, [0, 0]), (1, [3, 0]), (120, [78, 2, 154, 0, 1061]), (107, [31]), (0, [1, 0, 0]), (1, [3, 0]), (14, []), (100, [32]), (0, [0, 0, 0]), (12, []), (3, [2, 0]), (5, [3, 1]), (100, [16]), (1, [2, 0]), (114, []), (0, [0, 0, 0]), (3, [3, 0]), (1, [3, 0]), (2, [0, 0]), (27, [10, 6, 2, 23, 0, 904]), (0, [0, 0, 0]), (30, []), (104, [66]), (2, [0, 0]), (1, [3, 0]), (120, [75, 2, 142, 0, 1046]), (3, [4, 1]), (1, [2, 0]), (1, [4, 1]), (1, [3, 0]), (106, [61]), (2, [0, 0]), (1, [4, 1]), (120, [75, 2, 142, 0, 1046]), (1, [3, 0]), (102, [61]), (0, [1, 0, 0]), (100, [62]), (0, [0, 0, 0]), (6, []), (3, [2, 0]), (5, [3, 1]), (100, [40]), (1, [2, 0]), (114, []), (2, [0, 0]), (120, [86, 1, 169, 0, 1089]), (114, []), (2, [0, 0]), (27, [10, 16, 2, 35, 0, 914]), (0, [13, 1, 0]), (30, []), (114, []), (2, [0, 0]), (27, [10, 16, 2, 35, 0, 914]), (0, [14, 1, 0]), (30, []), (114, []), (0, [0, 0, 0]), (3, [3, 0]), (1, [3, 0]), (2, [0, 0]), (27, [10, 6, 2, 23, 0, 904]), (0, [0, 0, 0]), (30, []), (104, [100]), (1, [2, 0]), (2, [0, 0]), (27, [10, 16, 2, 35, 0, 914]), (0, [15, 1, 0]), (1, [3, 0]), (6, []), (30, []), (6, []), (3, [2, 0]), (5, [3, 1]), (100, [83]), (1, [2, 0]), (114, []), (0, [-1, 0, 0]), (114, [])]
def fd_p94 : List Nat := [0, 1, 4, 5, 6, 7, 52, 53, 56, 57, 58, 61, 63, 64, 65, 66, 67, 68, 69, 72, 73, 74, 77, 78, 79, 80, 83, 86, 87, 88, 89, 92, 93, 94, 95, 98, 101, 102, 103, 104, 105, 106, 107, 110, 111, 112, 115, 116, 117, 120, 122, 123, 125, 126, 129, 130, 132, 135, 136, 139, 140, 143, 144, 145, 146, 149, 152, 153, 154, 155, 158, 159, 160, 163, 165, 166, 167, 168, 171, 173, 174, 175, 176, 177, 178, 179, 182, 183, 184, 187, 188, 189, 192, 194, 195, 196, 197, 198, 199, 202, 205, 206, 207, 208]
-- FacingDoorsModel.takeWays (I)I
def fd_c95 : List fd_Ins := [(0, [0, 0, 0]), (3, [2, 0]), (1, [1, 0]), (3, [3, 0]), (2, [0, 0]), (27, [10, 6, 2, 23, 0, 904]), (0, [0, 0, 0]), (30, []), (0, [1, 0, 0]), (7, []), (3, [4, 1]), (1, [4, 1]), (109, [43]), (2, [0, 0]), (27, [10, 18, 2, 42, 0, 916]), (1, [4, 1]), (1, [3, 0]), (0, [4, 0, 0]), (10, []), (31, []), (1, [3, 0]), (0, [4, 0, 0]), (9, []), (3, [3, 0]), (1, [2, 0]), (2, [0, 0]), (27, [10, 18, 2, 42, 0, 916]), (1, [4, 1]), (30, []), (2, [0, 0]), (27, [10, 16, 2, 35, 0, 914]), (0, [6, 1, 0]), (1, [4, 1]), (6, []), (30, []), (102, [38]), (0, [0, 0, 0]), (100, [39]), (0, [1, 0, 0]), (6, []), (3, [2, 0]), (5, [4, -1]), (100, [11]), (1, [2, 0]), (114, [])]
def fd_p95 : List Nat := [0, 1, 2, 3, 4, 5, 8, 9, 10, 11, 12, 14, 16, 19, 20, 23, 25, 26, 27, 28, 29, 30, 31, 32, 33, 34, 35, 38, 40, 41, 42, 45, 47, 49, 50, 51, 54, 55, 58, 59, 60, 61, 64, 67, 68]
-- FacingDoorsModel.codes ()I
def fd_c96 : List fd_Ins := [(0, [1, 0, 0]), (3, [1, 0]), (0, [0, 0, 0]), (3, [2, 0]), (1, [2, 0]), (2, [0, 0]), (27, [10, 6, 2, 23, 0, 904]), (0, [0, 0, 0]), (30, []), (104, [16]), (1, [1, 0]), (0, [4, 0, 0]), (8, []), (3, [1, 0]), (5, [2, 1]), (100, [4]), (1, [1, 0]), (114, [])]
def fd_p96 : List Nat := [0, 1, 2, 3, 4, 5, 6, 9, 10, 11, 14, 15, 16, 17, 18, 21, 24, 25]
-- FacingDoorsModel.turn (I)I
def fd_c97 : List fd_Ins := [(1, [1, 0]), (0, [-2, 1, 0]), (2, [0, 0]), (27, [10, 6, 2, 23, 0, 904]), (0, [0, 0, 0]), (30, []), (0, [1, 0, 0]), (7, []), (121, [52, 3, 57, 0, 976]), (108, [12]), (0, [-1, 0, 0]), (114, []), (2, [0, 0]), (120, [72, 1, 151, 0, 1042]), (0, [-9, 1, 0]), (3, [2, 0]), (0, [0, 0, 0]), (3, [3, 0]), (0, [0, 0, 0]), (3, [4, 1]), (1, [4, 1]), (2, [0, 0]), (120, [96, 1, 178, 0, 1132]), (104, [50]), (2, [0, 0]), (1, [4, 1]), (120, [95, 2, 181, 0, 1136]), (3, [5, 1]), (2, [0, 0]), (120, [93, 1, 184, 0, 1140]), (107, [48]), (0, [10, 1, 0]), (2, [0, 0]), (120, [77, 1, 160, 0, 1108]), (8, []), (1, [5, 1]), (6, []), (3, [6, 1]), (1, [2, 0]), (0, [-9, 1, 0]), (101, [44]), (1, [6, 1]), (1, [3, 0]), (104, [48]), (1, [4, 1]), (3, [2, 0]), (1, [6, 1]), (3, [3, 0]), (5, [4, 1]), (100, [20]), (1, [2, 0]), (0, [-9, 1, 0]), (101, [55]), (1, [1, 0]), (110, [71]), (1, [2, 0]), (0, [-9, 1, 0]), (102, [60]), (0, [-9, 1, 0]), (100, [70]), (1, [1, 0]), (0, [-1, 0, 0]), (102, [67]), (1, [3, 0]), (0, [10, 1, 0]), (9, []), (100, [70]), (1, [3, 0]), (0, [10, 1, 0]), (10, []), (114, []), (2, [0, 0]), (1, [2, 0]), (120, [95, 2, 181, 0, 1136]), (26, []), (2, [0, 0]), (27, [10, 18, 2, 42, 0, 916]), (1, [1, 0]), (30, []), (114, [])]
def fd_p97 : List Nat := [0, 1, 3, 4, 7, 8, 9, 10, 11, 14, 17, 18, 19, 20, 23, 25, 26, 27, 28, 29, 31, 33, 34, 37, 40, 41, 43, 46, 48, 49, 52, 55, 57, 58, 61, 62, 64, 65, 67, 68, 70, 73, 75, 76, 79, 81, 82, 84, 85, 88, 91, 92, 94, 97, 98, 101, 102, 104, 107, 109, 112, 113, 114, 117, 118, 120, 121, 124, 125, 127, 128, 129, 130, 131, 134, 135, 136, 139, 140, 141]
-- FacingDoorsModel.cartAt ()I
def fd_c98 : List fd_Ins := [(0, [-9, 1, 0]), (3, [1, 0]), (2, [0, 0]), (120, [82, 1, 172, 0, 1104]), (3, [2, 0]), (0, [0, 0, 0]), (3, [3, 0]), (1, [3, 0]), (2, [0, 0]), (27, [10, 4, 2, 17, 0, 902]), (0, [0, 0, 0]), (30, []), (104, [68]), (0, [0, 0, 0]), (3, [4, 1]), (1, [4, 1]), (2, [0, 0]), (27, [10, 3, 2, 13, 0, 901]), (0, [0, 0, 0]), (30, []), (104, [66]), (2, [0, 0]), (1, [4, 1]), (1, [3, 0]), (120, [70, 3, 139, 0, 1056]), (108, [64]), (2, [0, 0]), (27, [10, 16, 2, 35, 0, 914]), (0, [21, 1, 0]), (1, [3, 0]), (6, []), (25, []), (30, []), (0, [1, 0, 0]), (1, [4, 1]), (14, []), (13, []), (31, []), (2, [0, 0]), (120, [77, 1, 160, 0, 1108]), (3, [5, 1]), (2, [0, 0]), (27, [10, 16, 2, 35, 0, 914]), (0, [21, 1, 0]), (1, [3, 0]), (6, []), (25, []), (30, []), (0, [1, 0, 0]), (1, [4, 1]), (14, []), (13, []), (31, []), (1, [5, 1]), (1, [2, 0]), (104, [64]), (0, [10, 1, 0]), (1, [3, 0]), (8, []), (1, [4, 1]), (6, []), (3, [1, 0]), (1, [5, 1]), (3, [2, 0]), (5, [4, 1]), (100, [15]), (5, [3, 1]), (100, [7]), (1, [1, 0]), (114, [])]
def fd_p98 : List Nat := [0, 2, 3, 4, 7, 8, 9, 10, 11, 12, 15, 16, 17, 20, 21, 23, 25, 26, 29, 30, 31, 34, 35, 37, 38, 41, 44, 45, 48, 50, 51, 52, 53, 54, 55, 57, 58, 59, 60, 61, 64, 66, 67, 70, 72, 73, 74, 75, 76, 77, 79, 80, 81, 82, 84, 85, 88, 90, 91, 92, 94, 95, 96, 98, 99, 102, 105, 108, 111, 112]
-- FacingDoorsModel.bound (I)I
def fd_c99 : List fd_Ins := [(1, [1, 0]), (0, [0, 0, 0]), (0, [1, 0, 0]), (121, [52, 3, 57, 0, 976]), (108, [7]), (0, [-1, 0, 0]), (114, []), (2, [0, 0]), (120, [72, 1, 151, 0, 1042]), (2, [0, 0]), (0, [1, 0, 0]), (2, [0, 0]), (27, [10, 6, 2, 23, 0, 904]), (0, [0, 0, 0]), (30, []), (14, []), (0, [1, 0, 0]), (7, []), (28, [10, 19, 0, 126, 0, 0, 917]), (2, [0, 0]), (0, [0, 0, 0]), (28, [10, 20, 3, 129, 0, 0, 918]), (0, [0, 0, 0]), (3, [2, 0]), (0, [-9, 1, 0]), (3, [3, 0]), (0, [0, 0, 0]), (3, [4, 1]), (0, [0, 0, 0]), (3, [5, 1]), (1, [5, 1]), (2, [0, 0]), (120, [96, 1, 178, 0, 1132]), (104, [49]), (2, [0, 0]), (1, [5, 1]), (120, [95, 2, 181, 0, 1136]), (26, []), (1, [4, 1]), (108, [43]), (2, [0, 0]), (120, [93, 1, 184, 0, 1140]), (107, [45]), (0, [1, 0, 0]), (100, [46]), (0, [0, 0, 0]), (3, [4, 1]), (5, [5, 1]), (100, [30]), (0, [0, 0, 0]), (3, [5, 1]), (1, [5, 1]), (2, [0, 0]), (27, [10, 6, 2, 23, 0, 904]), (0, [0, 0, 0]), (30, []), (104, [124]), (1, [5, 1]), (0, [1, 0, 0]), (6, []), (3, [6, 1]), (1, [6, 1]), (2, [0, 0]), (27, [10, 6, 2, 23, 0, 904]), (0, [0, 0, 0]), (30, []), (104, [122]), (1, [4, 1]), (3, [7, 1]), (0, [0, 0, 0]), (3, [8, 1]), (1, [8, 1]), (2, [0, 0]), (120, [96, 1, 178, 0, 1132]), (104, [100]), (1, [7, 1]), (107, [100]), (2, [0, 0]), (1, [8, 1]), (120, [95, 2, 181, 0, 1136]), (26, []), (2, [0, 0]), (120, [93, 1, 184, 0, 1140]), (107, [94]), (2, [0, 0]), (1, [5, 1]), (120, [75, 2, 142, 0, 1046]), (1, [6, 1]), (101, [94]), (2, [0, 0]), (1, [6, 1]), (120, [75, 2, 142, 0, 1046]), (1, [5, 1]), (102, [96]), (0, [1, 0, 0]), (100, [97]), (0, [0, 0, 0]), (3, [7, 1]), (5, [8, 1]), (100, [71]), (1, [7, 1]), (107, [110]), (1, [2, 0]), (108, [110]), (0, [10, 1, 0]), (1, [5, 1]), (8, []), (1, [6, 1]), (6, []), (100, [111]), (1, [3, 0]), (3, [3, 0]), (1, [2, 0]), (1, [7, 1]), (107, [117]), (0, [1, 0, 0]), (100, [118]), (0, [0, 0, 0]), (6, []), (3, [2, 0]), (5, [6, 1]), (100, [61]), (5, [5, 1]), (100, [51]), (1, [1, 0]), (108, [132]), (1, [4, 1]), (107, [130]), (1, [2, 0]), (100, [133]), (0, [-9, 1, 0]), (100, [133]), (1, [3, 0]), (114, [])]
def fd_p99 : List Nat := [0, 1, 2, 3, 6, 9, 10, 11, 12, 15, 16, 17, 18, 21, 22, 23, 24, 25, 26, 29, 30, 31, 34, 35, 36, 38, 39, 40, 42, 43, 45, 47, 48, 51, 54, 55, 57, 60, 61, 63, 66, 67, 70, 73, 74, 77, 78, 80, 83, 86, 87, 89, 91, 92, 95, 96, 97, 100, 102, 103, 104, 106, 108, 109, 112, 113, 114, 117, 119, 121, 122, 124, 126, 127, 130, 133, 135, 138, 139, 141, 144, 145, 146, 149, 152, 153, 155, 158, 160, 163, 164, 166, 169, 171, 174, 175, 178, 179, 181, 184, 187, 189, 192, 193, 196, 198, 200, 201, 203, 204, 207, 208, 209, 210, 212, 215, 216, 219, 220, 221, 222, 225, 228, 231, 234, 235, 238, 240, 243, 244, 247, 249, 252, 253]
-- FacingDoorsModel.tells (II)I
def fd_c100 : List fd_Ins := [(2, [0, 0]), (1, [1, 0]), (120, [66, 2, 148, 0, 1038]), (107, [9]), (1, [2, 0]), (0, [0, 0, 0]), (0, [99, 1, 0]), (121, [52, 3, 57, 0, 976]), (108, [11]), (0, [-1, 0, 0]), (114, []), (2, [0, 0]), (27, [10, 23, 0, 106, 0, 921]), (0, [6, 1, 0]), (102, [17]), (0, [-3, 1, 0]), (114, []), (2, [0, 0]), (27, [10, 21, 2, 45, 0, 919]), (2, [0, 0]), (27, [10, 23, 0, 106, 0, 921]), (1, [1, 0]), (31, []), (2, [0, 0]), (27, [10, 22, 2, 48, 0, 920]), (2, [0, 0]), (27, [10, 23, 0, 106, 0, 921]), (1, [2, 0]), (31, []), (2, [0, 0]), (24, []), (27, [10, 23, 0, 106, 0, 921]), (0, [1, 0, 0]), (6, []), (28, [10, 23, 0, 106, 0, 0, 921]), (2, [0, 0]), (27, [10, 23, 0, 106, 0, 921]), (114, [])]
def fd_p100 : List Nat := [0, 1, 2, 5, 8, 9, 10, 12, 15, 18, 19, 20, 21, 24, 26, 29, 31, 32, 33, 36, 37, 40, 41, 42, 43, 46, 47, 50, 51, 52, 53, 54, 57, 58, 59, 62, 63, 66]
-- FacingDoorsModel.forget ()I
def fd_c101 : List fd_Ins := [(2, [0, 0]), (27, [10, 23, 0, 106, 0, 921]), (3, [1, 0]), (2, [0, 0]), (0, [0, 0, 0]), (28, [10, 23, 0, 106, 0, 0, 921]), (1, [1, 0]), (114, [])]
def fd_p101 : List Nat := [0, 1, 4, 5, 6, 7, 10, 11]
-- FacingDoorsModel.open (I)I
def fd_c102 : List fd_Ins := [(1, [1, 0]), (0, [0, 0, 0]), (0, [2, 0, 0]), (121, [52, 3, 57, 0, 976]), (108, [7]), (0, [-1, 0, 0]), (114, []), (2, [0, 0]), (120, [72, 1, 151, 0, 1042]), (0, [0, 0, 0]), (3, [2, 0]), (0, [-9, 1, 0]), (3, [3, 0]), (0, [1, 0, 0]), (2, [0, 0]), (27, [10, 6, 2, 23, 0, 904]), (0, [0, 0, 0]), (30, []), (14, []), (0, [1, 0, 0]), (7, []), (3, [4, 1]), (0, [0, 0, 0]), (3, [5, 1]), (1, [5, 1]), (0, [1, 0, 0]), (2, [0, 0]), (27, [10, 6, 2, 23, 0, 904]), (0, [0, 0, 0]), (30, []), (14, []), (104, [77]), (2, [0, 0]), (1, [5, 1]), (28, [10, 19, 0, 126, 0, 0, 917]), (0, [1, 0, 0]), (3, [6, 1]), (0, [0, 0, 0]), (3, [7, 1]), (1, [7, 1]), (2, [0, 0]), (27, [10, 23, 0, 106, 0, 921]), (104, [62]), (1, [6, 1]), (107, [58]), (2, [0, 0]), (2, [0, 0]), (27, [10, 21, 2, 45, 0, 919]), (1, [7, 1]), (30, []), (120, [76, 2, 145, 0, 1057]), (2, [0, 0]), (27, [10, 22, 2, 48, 0, 920]), (1, [7, 1]), (30, []), (102, [58]), (0, [1, 0, 0]), (100, [59]), (0, [0, 0, 0]), (3, [6, 1]), (5, [7, 1]), (100, [39]), (1, [6, 1]), (107, [75]), (1, [2, 0]), (108, [68]), (1, [5, 1]), (100, [69]), (1, [3, 0]), (3, [3, 0]), (1, [4, 1]), (1, [5, 1]), (11, []), (3, [4, 1]), (5, [2, 1]), (5, [5, 1]), (100, [24]), (1, [1, 0]), (108, [81]), (1, [2, 0]), (100, [91]), (1, [1, 0]), (0, [1, 0, 0]), (102, [86]), (1, [3, 0]), (100, [91]), (1, [2, 0]), (108, [90]), (0, [-9, 1, 0]), (100, [91]), (1, [4, 1]), (114, [])]
def fd_p102 : List Nat := [0, 1, 2, 3, 6, 9, 10, 11, 12, 15, 16, 17, 19, 20, 21, 22, 25, 26, 27, 28, 29, 30, 32, 33, 35, 37, 38, 39, 42, 43, 44, 45, 48, 49, 51, 54, 55, 57, 58, 60, 62, 63, 66, 69, 71, 74, 75, 76, 79, 81, 82, 85, 86, 89, 91, 92, 95, 96, 99, 100, 102, 105, 108, 110, 113, 114, 117, 119, 122, 123, 124, 126, 128, 129, 131, 134, 137, 140, 141, 144, 145, 148, 149, 150, 153, 154, 157, 158, 161, 163, 166, 168]
-- FacingDoorsModel.sum (II)I
def fd_c103 : List fd_Ins := [(2, [0, 0]), (120, [72, 1, 151, 0, 1042]), (0, [0, 0, 0]), (3, [3, 0]), (0, [0, 0, 0]), (3, [4, 1]), (1, [4, 1]), (0, [1, 0, 0]), (2, [0, 0]), (27, [10, 6, 2, 23, 0, 904]), (0, [0, 0, 0]), (30, []), (14, []), (104, [64]), (0, [1, 0, 0]), (3, [5, 1]), (0, [0, 0, 0]), (3, [6, 1]), (1, [6, 1]), (2, [0, 0]), (27, [10, 6, 2, 23, 0, 904]), (0, [0, 0, 0]), (30, []), (104, [41]), (1, [5, 1]), (1, [4, 1]), (1, [6, 1]), (15, []), (0, [1, 0, 0]), (11, []), (0, [1, 0, 0]), (102, [34]), (1, [1, 0]), (100, [37]), (0, [10, 1, 0]), (1, [1, 0]), (7, []), (8, []), (3, [5, 1]), (5, [6, 1]), (100, [18]), (2, [0, 0]), (1, [4, 1]), (28, [10, 19, 0, 126, 0, 0, 917]), (2, [0, 0]), (120, [77, 1, 160, 0, 1108]), (3, [6, 1]), (1, [3, 0]), (1, [2, 0]), (110, [54]), (1, [5, 1]), (1, [6, 1]), (8, []), (100, [60]), (1, [6, 1]), (1, [2, 0]), (103, [59]), (1, [5, 1]), (100, [60]), (0, [0, 0, 0]), (6, []), (3, [3, 0]), (5, [4, 1]), (100, [6]), (1, [3, 0]), (114, [])]
def fd_p103 : List Nat := [0, 1, 4, 5, 6, 7, 9, 11, 12, 13, 16, 17, 18, 19, 22, 23, 25, 26, 28, 30, 31, 34, 35, 36, 39, 41, 43, 45, 46, 47, 48, 49, 52, 53, 56, 58, 59, 60, 61, 63, 66, 69, 70, 72, 75, 76, 79, 81, 82, 83, 86, 88, 90, 91, 94, 96, 97, 100, 102, 105, 106, 107, 108, 111, 114, 115]
-- FacingDoorsModel.part (II)I
def fd_c104 : List fd_Ins := [(0, [1, 0, 0]), (3, [3, 0]), (0, [0, 0, 0]), (3, [4, 1]), (1, [4, 1]), (2, [0, 0]), (27, [10, 6, 2, 23, 0, 904]), (0, [0, 0, 0]), (30, []), (104, [16]), (1, [3, 0]), (0, [10, 1, 0]), (8, []), (3, [3, 0]), (5, [4, 1]), (100, [4]), (1, [1, 0]), (3, [4, 1]), (1, [3, 0]), (3, [5, 1]), (1, [5, 1]), (107, [31]), (1, [4, 1]), (1, [5, 1]), (10, []), (3, [6, 1]), (1, [5, 1]), (3, [4, 1]), (1, [6, 1]), (3, [5, 1]), (100, [20]), (1, [2, 0]), (108, [37]), (1, [1, 0]), (1, [4, 1]), (9, []), (100, [40]), (1, [3, 0]), (1, [4, 1]), (9, []), (114, [])]
def fd_p104 : List Nat := [0, 1, 2, 3, 5, 7, 8, 11, 12, 13, 16, 17, 19, 20, 21, 24, 27, 28, 30, 31, 33, 35, 38, 40, 42, 43, 45, 47, 49, 51, 53, 56, 57, 60, 61, 63, 64, 67, 68, 70, 71]
-- FacingDoorsModel.odds (III)I
def fd_c105 : List fd_Ins := [(1, [1, 0]), (0, [0, 0, 0]), (0, [10, 1, 0]), (121, [52, 3, 57, 0, 976]), (107, [15]), (1, [2, 0]), (0, [0, 0, 0]), (0, [99, 1, 0]), (121, [52, 3, 57, 0, 976]), (107, [15]), (1, [3, 0]), (0, [0, 0, 0]), (0, [1, 0, 0]), (121, [52, 3, 57, 0, 976]), (108, [17]), (0, [-1, 0, 0]), (114, []), (2, [0, 0]), (2, [0, 0]), (1, [1, 0]), (1, [2, 0]), (120, [103, 3, 188, 0, 1168]), (1, [3, 0]), (120, [104, 3, 191, 0, 1172]), (114, [])]
def fd_p105 : List Nat := [0, 1, 2, 4, 7, 10, 11, 12, 14, 17, 20, 21, 22, 23, 26, 29, 30, 31, 32, 33, 34, 35, 38, 39, 42]
-- FacingDoorsModel.mean (II)I
def fd_c106 : List fd_Ins := [(1, [1, 0]), (0, [0, 0, 0]), (0, [10, 1, 0]), (121, [52, 3, 57, 0, 976]), (107, [10]), (1, [2, 0]), (0, [0, 0, 0]), (0, [1, 0, 0]), (121, [52, 3, 57, 0, 976]), (108, [12]), (0, [-1, 0, 0]), (114, []), (2, [0, 0]), (2, [0, 0]), (1, [1, 0]), (0, [-1, 0, 0]), (120, [103, 3, 188, 0, 1168]), (1, [2, 0]), (120, [104, 3, 191, 0, 1172]), (114, [])]
def fd_p106 : List Nat := [0, 1, 2, 4, 7, 10, 11, 12, 13, 16, 19, 20, 21, 22, 23, 24, 25, 28, 29, 32]
-- FacingDoorsModel.mark (II)I
def fd_c107 : List fd_Ins := [(1, [1, 0]), (0, [0, 0, 0]), (0, [5, 0, 0]), (121, [52, 3, 57, 0, 976]), (107, [9]), (2, [0, 0]), (1, [2, 0]), (120, [66, 2, 148, 0, 1038]), (108, [11]), (0, [-1000000, 3, 194, 1184]), (114, []), (2, [0, 0]), (120, [72, 1, 151, 0, 1042]), (2, [0, 0]), (1, [2, 0]), (120, [76, 2, 145, 0, 1057]), (3, [3, 0]), (2, [0, 0]), (1, [2, 0]), (120, [79, 2, 157, 0, 1065]), (121, [71, 1, 166, 0, 1093]), (3, [4, 1]), (1, [3, 0]), (2, [0, 0]), (27, [10, 16, 2, 35, 0, 914]), (0, [6, 1, 0]), (1, [2, 0]), (6, []), (30, []), (7, []), (3, [5, 1]), (1, [1, 0]), (113, [90, 0, 33, 41, 51, 59, 71]), (2, [0, 0]), (24, []), (27, [10, 0, 1, 195, 0, 898]), (17, [1, 0, 0]), (18, []), (28, [10, 0, 1, 195, 0, 0, 898]), (1, [3, 0]), (114, []), (2, [0, 0]), (24, []), (27, [10, 0, 1, 195, 0, 898]), (17, [11, 1, 199, 1185]), (18, []), (28, [10, 0, 1, 195, 0, 0, 898]), (1, [3, 0]), (1, [4, 1]), (6, []), (114, []), (2, [0, 0]), (24, []), (27, [10, 0, 1, 195, 0, 898]), (17, [101, 1, 201, 1186]), (18, []), (28, [10, 0, 1, 195, 0, 0, 898]), (1, [5, 1]), (114, []), (2, [0, 0]), (24, []), (27, [10, 0, 1, 195, 0, 898]), (17, [1011, 1, 203, 1187]), (18, []), (28, [10, 0, 1, 195, 0, 0, 898]), (0, [2, 0, 0]), (1, [3, 0]), (1, [4, 1]), (6, []), (8, []), (114, []), (2, [0, 0]), (24, []), (27, [10, 0, 1, 195, 0, 898]), (17, [10101, 1, 205, 1188]), (18, []), (28, [10, 0, 1, 195, 0, 0, 898]), (1, [5, 1]), (0, [7, 1, 0]), (2, [0, 0]), (27, [10, 16, 2, 35, 0, 914]), (0, [12, 1, 0]), (30, []), (1, [2, 0]), (15, []), (0, [1, 0, 0]), (11, []), (8, []), (6, []), (114, []), (2, [0, 0]), (24, []), (27, [10, 0, 1, 195, 0, 898]), (17, [100001, 1, 207, 1189]), (18, []), (28, [10, 0, 1, 195, 0, 0, 898]), (1, [3, 0]), (2, [0, 0]), (27, [10, 16, 2, 35, 0, 914]), (0, [15, 1, 0]), (1, [2, 0]), (6, []), (30, []), (6, []), (114, [])]
def fd_p107 : List Nat := [0, 1, 2, 3, 6, 9, 10, 11, 14, 17, 19, 20, 21, 24, 25, 26, 29, 30, 31, 32, 35, 38, 40, 41, 42, 45, 47, 48, 49, 50, 51, 53, 54, 88, 89, 90, 93, 94, 95, 98, 99, 100, 101, 102, 105, 108, 109, 112, 113, 115, 116, 117, 118, 119, 122, 125, 126, 129, 131, 132, 133, 134, 137, 140, 141, 144, 145, 146, 148, 149, 150, 151, 152, 153, 156, 159, 160, 163, 165, 167, 168, 171, 173, 174, 175, 176, 177, 178, 179, 180, 181, 182, 183, 186, 189, 190, 193, 194, 195, 198, 200, 201, 202, 203, 204]
-- FacingDoorsModel.keep (I)I
def fd_c108 : List fd_Ins := [(1, [1, 0]), (0, [0, 0, 0]), (0, [1, 0, 0]), (121, [52, 3, 57, 0, 976]), (108, [7]), (0, [-1, 0, 0]), (114, []), (0, [0, 0, 0]), (3, [2, 0]), (1, [2, 0]), (0, [309, 2, 0]), (104, [28]), (2, [0, 0]), (27, [10, 16, 2, 35, 0, 914]), (0, [309, 2, 0]), (0, [1, 0, 0]), (1, [1, 0]), (6, []), (8, []), (1, [2, 0]), (6, []), (2, [0, 0]), (27, [10, 16, 2, 35, 0, 914]), (1, [2, 0]), (30, []), (31, []), (5, [2, 1]), (100, [9]), (2, [0, 0]), (27, [10, 17, 2, 38, 0, 915]), (1, [1, 0]), (0, [1, 0, 0]), (33, []), (2, [0, 0]), (120, [82, 1, 172, 0, 1104]), (114, [])]
def fd_p108 : List Nat := [0, 1, 2, 3, 6, 9, 10, 11, 12, 13, 14, 17, 20, 21, 24, 27, 28, 29, 30, 31, 32, 33, 34, 37, 38, 39, 40, 43, 46, 47, 50, 51, 52, 53, 54, 57]
-- FacingDoorsModel.back (I)I
def fd_c109 : List fd_Ins := [(1, [1, 0]), (0, [0, 0, 0]), (0, [1, 0, 0]), (121, [52, 3, 57, 0, 976]), (108, [7]), (0, [-1, 0, 0]), (114, []), (2, [0, 0]), (27, [10, 17, 2, 38, 0, 915]), (1, [1, 0]), (32, []), (108, [14]), (0, [-2, 1, 0]), (114, []), (0, [0, 0, 0]), (3, [2, 0]), (1, [2, 0]), (0, [309, 2, 0]), (104, [35]), (2, [0, 0]), (27, [10, 16, 2, 35, 0, 914]), (1, [2, 0]), (2, [0, 0]), (27, [10, 16, 2, 35, 0, 914]), (0, [309, 2, 0]), (0, [1, 0, 0]), (1, [1, 0]), (6, []), (8, []), (1, [2, 0]), (6, []), (30, []), (31, []), (5, [2, 1]), (100, [16]), (2, [0, 0]), (120, [82, 1, 172, 0, 1104]), (114, [])]
def fd_p109 : List Nat := [0, 1, 2, 3, 6, 9, 10, 11, 12, 15, 16, 17, 20, 22, 23, 24, 25, 26, 29, 32, 33, 36, 37, 38, 41, 44, 45, 46, 47, 48, 49, 50, 51, 52, 55, 58, 59, 62]
-- FacingDoorsModel.count (I)I
def fd_c110 : List fd_Ins := [(1, [1, 0]), (113, [35, 0, 2, 7, 12, 17, 17, 24, 27, 32]), (2, [0, 0]), (27, [10, 3, 2, 13, 0, 901]), (0, [0, 0, 0]), (30, []), (114, []), (2, [0, 0]), (27, [10, 4, 2, 17, 0, 902]), (0, [0, 0, 0]), (30, []), (114, []), (2, [0, 0]), (27, [10, 6, 2, 23, 0, 904]), (0, [0, 0, 0]), (30, []), (114, []), (2, [0, 0]), (27, [10, 9, 2, 32, 0, 907]), (1, [1, 0]), (0, [3, 0, 0]), (7, []), (30, []), (114, []), (2, [0, 0]), (27, [10, 23, 0, 106, 0, 921]), (114, []), (2, [0, 0]), (27, [10, 16, 2, 35, 0, 914]), (0, [28, 1, 0]), (30, []), (114, []), (2, [0, 0]), (27, [10, 2, 0, 61, 0, 900]), (114, []), (0, [-1, 0, 0]), (114, [])]
def fd_p110 : List Nat := [0, 1, 48, 49, 52, 53, 54, 55, 56, 59, 60, 61, 62, 63, 66, 67, 68, 69, 70, 73, 74, 75, 76, 77, 78, 79, 82, 83, 84, 87, 89, 90, 91, 92, 95, 96, 97]
-- FacingDoorsModel.trace ()J
def fd_c111 : List fd_Ins := [(2, [0, 0]), (27, [10, 0, 1, 195, 0, 898]), (115, [])]
def fd_p111 : List Nat := [0, 1, 4]
-- FacingDoors$History.<init> ()V
def fd_c112 : List fd_Ins := [(2, [0, 0]), (42, [3, 274]), (2, [0, 0]), (0, [10, 1, 0]), (39, [23, 9, 275]), (28, [1, 0, 2, 11, 0, 1, 278]), (2, [0, 0]), (0, [0, 0, 0]), (28, [1, 1, 0, 17, 0, 0, 279]), (0, [0, 0, 0]), (3, [1, 0]), (1, [1, 0]), (2, [0, 0]), (27, [1, 0, 2, 11, 0, 278]), (36, []), (104, [25]), (2, [0, 0]), (27, [1, 0, 2, 11, 0, 278]), (1, [1, 0]), (37, [5, 9, 275]), (24, []), (122, [141, 1, 21, 1, 277]), (35, []), (5, [1, 1]), (100, [11]), (116, [])]
def fd_p112 : List Nat := [0, 1, 4, 5, 7, 10, 13, 14, 15, 18, 19, 20, 21, 22, 25, 26, 29, 30, 33, 34, 37, 38, 41, 42, 45, 48]
-- FacingDoors$History.push (LFacingDoors$Scene;)V
def fd_c113 : List fd_Ins := [(2, [0, 0]), (27, [1, 1, 0, 17, 0, 279]), (0, [10, 1, 0]), (103, [6]), (2, [0, 0]), (120, [114, 1, 22, 0, 625]), (2, [0, 0]), (27, [1, 0, 2, 11, 0, 278]), (2, [0, 0]), (27, [1, 1, 0, 17, 0, 279]), (34, []), (2, [1, 0]), (120, [143, 2, 25, 1, 629]), (2, [0, 0]), (24, []), (27, [1, 1, 0, 17, 0, 279]), (0, [1, 0, 0]), (6, []), (28, [1, 1, 0, 17, 0, 0, 279]), (116, [])]
def fd_p113 : List Nat := [0, 1, 4, 6, 9, 10, 13, 14, 17, 18, 21, 22, 23, 26, 27, 28, 31, 32, 33, 36]
-- FacingDoors$History.loseOldest ()V
def fd_c114 : List fd_Ins := [(2, [0, 0]), (27, [1, 0, 2, 11, 0, 278]), (0, [0, 0, 0]), (34, []), (4, [1, 0]), (0, [1, 0, 0]), (3, [2, 0]), (1, [2, 0]), (2, [0, 0]), (27, [1, 0, 2, 11, 0, 278]), (36, []), (104, [24]), (2, [0, 0]), (27, [1, 0, 2, 11, 0, 278]), (1, [2, 0]), (0, [1, 0, 0]), (7, []), (2, [0, 0]), (27, [1, 0, 2, 11, 0, 278]), (1, [2, 0]), (34, []), (35, []), (5, [2, 1]), (100, [7]), (2, [0, 0]), (27, [1, 0, 2, 11, 0, 278]), (2, [0, 0]), (27, [1, 0, 2, 11, 0, 278]), (36, []), (0, [1, 0, 0]), (7, []), (2, [1, 0]), (35, []), (2, [0, 0]), (0, [9, 1, 0]), (28, [1, 1, 0, 17, 0, 0, 279]), (116, [])]
def fd_p114 : List Nat := [0, 1, 4, 5, 6, 7, 8, 9, 10, 11, 14, 15, 18, 19, 22, 23, 24, 25, 26, 29, 30, 31, 32, 35, 38, 39, 42, 43, 46, 47, 48, 49, 50, 51, 52, 54, 57]
-- FacingDoors$History.pop (LFacingDoors$Scene;)V
def fd_c115 : List fd_Ins := [(2, [0, 0]), (27, [1, 1, 0, 17, 0, 279]), (112, [16]), (2, [0, 0]), (24, []), (27, [1, 1, 0, 17, 0, 279]), (0, [1, 0, 0]), (7, []), (28, [1, 1, 0, 17, 0, 0, 279]), (2, [1, 0]), (2, [0, 0]), (27, [1, 0, 2, 11, 0, 278]), (2, [0, 0]), (27, [1, 1, 0, 17, 0, 279]), (34, []), (120, [143, 2, 25, 1, 629]), (116, [])]
def fd_p115 : List Nat := [0, 1, 4, 7, 8, 9, 12, 13, 14, 17, 18, 19, 22, 23, 26, 27, 30]
-- FacingDoors$History.copyFrom (LFacingDoors$History;)V
def fd_c116 : List fd_Ins := [(2, [0, 0]), (2, [1, 0]), (27, [1, 1, 0, 17, 0, 279]), (28, [1, 1, 0, 17, 0, 0, 279]), (0, [0, 0, 0]), (3, [2, 0]), (1, [2, 0]), (2, [0, 0]), (27, [1, 1, 0, 17, 0, 279]), (104, [21]), (2, [0, 0]), (27, [1, 0, 2, 11, 0, 278]), (1, [2, 0]), (34, []), (2, [1, 0]), (27, [1, 0, 2, 11, 0, 278]), (1, [2, 0]), (34, []), (120, [143, 2, 25, 1, 629]), (5, [2, 1]), (100, [6]), (116, [])]
def fd_p116 : List Nat := [0, 1, 2, 5, 8, 9, 10, 11, 12, 15, 18, 19, 22, 23, 24, 25, 28, 29, 30, 33, 36, 39]
-- FacingDoors$Image.<init> ()V
def fd_c117 : List fd_Ins := [(2, [0, 0]), (42, [1, 363]), (2, [0, 0]), (37, [5, 7, 364]), (24, []), (122, [141, 1, 9, 1, 365]), (28, [2, 0, 2, 10, 0, 1, 368]), (2, [0, 0]), (37, [1, 16, 366]), (24, []), (122, [112, 1, 18, 1, 367]), (28, [2, 1, 2, 19, 0, 1, 369]), (2, [0, 0]), (0, [0, 0, 0]), (28, [2, 2, 3, 23, 0, 0, 370]), (116, [])]
def fd_p117 : List Nat := [0, 1, 4, 5, 8, 9, 12, 15, 16, 19, 20, 23, 26, 27, 28, 31]
-- FacingDoors$Image.take (LFacingDoors$Scene;LFacingDoors$History;)V
def fd_c118 : List fd_Ins := [(2, [0, 0]), (27, [2, 0, 2, 10, 0, 368]), (2, [1, 0]), (120, [143, 2, 27, 1, 863]), (2, [0, 0]), (27, [2, 1, 2, 19, 0, 369]), (2, [2, 0]), (120, [116, 2, 31, 1, 864]), (2, [0, 0]), (0, [1, 0, 0]), (28, [2, 2, 3, 23, 0, 0, 370]), (116, [])]
def fd_p118 : List Nat := [0, 1, 4, 5, 8, 9, 12, 13, 16, 17, 18, 21]
-- FacingDoors$Image.give (LFacingDoors$Scene;LFacingDoors$History;)V
def fd_c119 : List fd_Ins := [(2, [1, 0]), (2, [0, 0]), (27, [2, 0, 2, 10, 0, 368]), (120, [143, 2, 27, 1, 863]), (2, [2, 0]), (2, [0, 0]), (27, [2, 1, 2, 19, 0, 369]), (120, [116, 2, 31, 1, 864]), (116, [])]
def fd_p119 : List Nat := [0, 1, 2, 5, 8, 9, 10, 13, 16]
-- FacingDoors$Plan.<init> ()V
def fd_c120 : List fd_Ins := [(2, [0, 0]), (42, [3, 137]), (2, [0, 0]), (0, [0, 0, 0]), (28, [3, 0, 0, 9, 0, 0, 138]), (2, [0, 0]), (0, [0, 0, 0]), (28, [3, 1, 0, 15, 0, 0, 141]), (2, [0, 0]), (0, [0, 0, 0]), (28, [3, 2, 0, 18, 0, 0, 144]), (2, [0, 0]), (0, [1, 0, 0]), (28, [3, 3, 0, 21, 0, 0, 150]), (2, [0, 0]), (0, [7, 1, 0]), (28, [3, 4, 0, 24, 0, 0, 155]), (2, [0, 0]), (0, [49, 1, 0]), (38, [20]), (28, [3, 5, 2, 27, 0, 1, 159]), (2, [0, 0]), (0, [6, 1, 0]), (38, [20]), (28, [3, 6, 2, 31, 0, 1, 161]), (2, [0, 0]), (0, [6, 1, 0]), (38, [20]), (28, [3, 7, 2, 34, 0, 1, 164]), (2, [0, 0]), (0, [6, 1, 0]), (38, [20]), (28, [3, 8, 2, 37, 0, 1, 167]), (116, [])]
def fd_p120 : List Nat := [0, 1, 4, 5, 6, 9, 10, 11, 14, 15, 16, 19, 20, 21, 24, 25, 27, 30, 31, 33, 35, 38, 39, 41, 43, 46, 47, 49, 51, 54, 55, 57, 59, 62]
-- FacingDoors$Plan.empty ()V
def fd_c121 : List fd_Ins := [(2, [0, 0]), (0, [0, 0, 0]), (28, [3, 0, 0, 9, 0, 0, 138]), (2, [0, 0]), (0, [0, 0, 0]), (28, [3, 1, 0, 15, 0, 0, 141]), (2, [0, 0]), (0, [0, 0, 0]), (28, [3, 2, 0, 18, 0, 0, 144]), (2, [0, 0]), (0, [1, 0, 0]), (28, [3, 3, 0, 21, 0, 0, 150]), (2, [0, 0]), (0, [7, 1, 0]), (28, [3, 4, 0, 24, 0, 0, 155]), (116, [])]
def fd_p121 : List Nat := [0, 1, 2, 5, 6, 7, 10, 11, 12, 15, 16, 17, 20, 21, 23, 26]
-- FacingDoors$Plan.copyFrom (LFacingDoors$Plan;)V
def fd_c122 : List fd_Ins := [(2, [0, 0]), (2, [1, 0]), (27, [3, 0, 0, 9, 0, 138]), (28, [3, 0, 0, 9, 0, 0, 138]), (2, [0, 0]), (2, [1, 0]), (27, [3, 1, 0, 15, 0, 141]), (28, [3, 1, 0, 15, 0, 0, 141]), (2, [0, 0]), (2, [1, 0]), (27, [3, 2, 0, 18, 0, 144]), (28, [3, 2, 0, 18, 0, 0, 144]), (2, [0, 0]), (2, [1, 0]), (27, [3, 3, 0, 21, 0, 150]), (28, [3, 3, 0, 21, 0, 0, 150]), (2, [0, 0]), (2, [1, 0]), (27, [3, 4, 0, 24, 0, 155]), (28, [3, 4, 0, 24, 0, 0, 155]), (2, [1, 0]), (27, [3, 5, 2, 27, 0, 159]), (0, [0, 0, 0]), (2, [0, 0]), (27, [3, 5, 2, 27, 0, 159]), (0, [0, 0, 0]), (0, [49, 1, 0]), (40, [40, 517]), (2, [1, 0]), (27, [3, 6, 2, 31, 0, 161]), (0, [0, 0, 0]), (2, [0, 0]), (27, [3, 6, 2, 31, 0, 161]), (0, [0, 0, 0]), (0, [6, 1, 0]), (40, [40, 517]), (2, [1, 0]), (27, [3, 7, 2, 34, 0, 164]), (0, [0, 0, 0]), (2, [0, 0]), (27, [3, 7, 2, 34, 0, 164]), (0, [0, 0, 0]), (0, [6, 1, 0]), (40, [40, 517]), (2, [1, 0]), (27, [3, 8, 2, 37, 0, 167]), (0, [0, 0, 0]), (2, [0, 0]), (27, [3, 8, 2, 37, 0, 167]), (0, [0, 0, 0]), (0, [6, 1, 0]), (40, [40, 517]), (116, [])]
def fd_p122 : List Nat := [0, 1, 2, 5, 8, 9, 10, 13, 16, 17, 18, 21, 24, 25, 26, 29, 32, 33, 34, 37, 40, 41, 44, 45, 46, 49, 50, 52, 55, 56, 59, 60, 61, 64, 65, 67, 70, 71, 74, 75, 76, 79, 80, 82, 85, 86, 89, 90, 91, 94, 95, 97, 100]
-- FacingDoors$Plan.hasCell (II)Z
def fd_c123 : List fd_Ins := [(1, [1, 0]), (109, [14]), (1, [1, 0]), (2, [0, 0]), (27, [3, 0, 0, 9, 0, 138]), (104, [14]), (1, [2, 0]), (109, [14]), (1, [2, 0]), (2, [0, 0]), (27, [3, 1, 0, 15, 0, 141]), (104, [14]), (0, [1, 0, 0]), (100, [15]), (0, [0, 0, 0]), (114, [])]
def fd_p123 : List Nat := [0, 1, 4, 5, 6, 9, 12, 13, 16, 17, 18, 21, 24, 25, 28, 29]
-- FacingDoors$Plan.hasDoor (I)Z
def fd_c124 : List fd_Ins := [(1, [1, 0]), (109, [8]), (1, [1, 0]), (2, [0, 0]), (27, [3, 2, 0, 18, 0, 144]), (104, [8]), (0, [1, 0, 0]), (100, [9]), (0, [0, 0, 0]), (114, [])]
def fd_p124 : List Nat := [0, 1, 4, 5, 6, 9, 12, 13, 16, 17]
-- FacingDoors$Plan.groundAt (II)I
def fd_c125 : List fd_Ins := [(2, [0, 0]), (1, [1, 0]), (1, [2, 0]), (120, [123, 3, 46, 0, 496]), (107, [12]), (2, [0, 0]), (27, [3, 5, 2, 27, 0, 159]), (1, [1, 0]), (1, [2, 0]), (121, [46, 2, 50, 1, 504]), (30, []), (100, [13]), (0, [1, 0, 0]), (114, [])]
def fd_p125 : List Nat := [0, 1, 2, 3, 6, 9, 10, 13, 14, 15, 18, 19, 22, 23]
-- FacingDoors$Plan.isFreeForDoor (II)Z
def fd_c126 : List fd_Ins := [(2, [0, 0]), (1, [1, 0]), (1, [2, 0]), (120, [123, 3, 46, 0, 496]), (107, [10]), (2, [0, 0]), (1, [1, 0]), (1, [2, 0]), (120, [125, 3, 54, 0, 500]), (107, [12]), (0, [0, 0, 0]), (114, []), (0, [0, 0, 0]), (3, [3, 0]), (1, [3, 0]), (2, [0, 0]), (27, [3, 2, 0, 18, 0, 144]), (104, [34]), (2, [0, 0]), (27, [3, 6, 2, 31, 0, 161]), (1, [3, 0]), (30, []), (1, [1, 0]), (102, [32]), (2, [0, 0]), (27, [3, 7, 2, 34, 0, 164]), (1, [3, 0]), (30, []), (1, [2, 0]), (102, [32]), (0, [0, 0, 0]), (114, []), (5, [3, 1]), (100, [14]), (0, [1, 0, 0]), (114, [])]
def fd_p126 : List Nat := [0, 1, 2, 3, 6, 9, 10, 11, 12, 15, 18, 19, 20, 21, 22, 23, 24, 27, 30, 31, 34, 35, 36, 37, 40, 41, 44, 45, 46, 47, 50, 51, 52, 55, 58, 59]
-- FacingDoors$Reader.<init> (LFacingDoors$Text;LFacingDoors$Plan;)V
def fd_c127 : List fd_Ins := [(2, [0, 0]), (42, [3, 194]), (2, [0, 0]), (0, [0, 0, 0]), (28, [4, 2, 0, 9, 0, 0, 197]), (2, [0, 0]), (0, [0, 0, 0]), (28, [4, 3, 0, 15, 0, 0, 198]), (2, [0, 0]), (0, [0, 0, 0]), (28, [4, 4, 0, 18, 0, 0, 199]), (2, [0, 0]), (0, [0, 0, 0]), (28, [4, 5, 0, 21, 0, 0, 200]), (2, [0, 0]), (0, [0, 0, 0]), (28, [4, 6, 0, 24, 0, 0, 201]), (2, [0, 0]), (0, [0, 0, 0]), (28, [4, 7, 3, 27, 0, 0, 202]), (2, [0, 0]), (0, [0, 0, 0]), (28, [4, 8, 3, 31, 0, 0, 203]), (2, [0, 0]), (2, [1, 0]), (28, [4, 0, 2, 34, 0, 1, 195]), (2, [0, 0]), (2, [2, 0]), (28, [4, 1, 2, 38, 0, 1, 196]), (116, [])]
def fd_p127 : List Nat := [0, 1, 4, 5, 6, 9, 10, 11, 14, 15, 16, 19, 20, 21, 24, 25, 26, 29, 30, 31, 34, 35, 36, 39, 40, 41, 44, 45, 46, 49]
-- FacingDoors$Reader.read ()I
def fd_c128 : List fd_Ins := [(2, [0, 0]), (27, [4, 1, 2, 38, 0, 196]), (120, [121, 1, 42, 1, 439]), (2, [0, 0]), (0, [0, 0, 0]), (28, [4, 2, 0, 9, 0, 0, 197]), (2, [0, 0]), (0, [0, 0, 0]), (28, [4, 6, 0, 24, 0, 0, 201]), (2, [0, 0]), (0, [0, 0, 0]), (28, [4, 7, 3, 27, 0, 0, 202]), (2, [0, 0]), (0, [0, 0, 0]), (28, [4, 8, 3, 31, 0, 0, 203]), (2, [0, 0]), (120, [129, 1, 47, 0, 443]), (0, [0, 0, 0]), (3, [1, 0]), (1, [1, 0]), (0, [150, 2, 0]), (105, [41]), (2, [0, 0]), (27, [4, 4, 0, 18, 0, 199]), (107, [41]), (2, [0, 0]), (120, [132, 1, 50, 0, 461]), (108, [33]), (0, [-10, 1, 0]), (2, [0, 0]), (27, [4, 3, 0, 15, 0, 198]), (7, []), (114, []), (2, [0, 0]), (24, []), (27, [4, 6, 0, 24, 0, 201]), (0, [1, 0, 0]), (6, []), (28, [4, 6, 0, 24, 0, 0, 201]), (5, [1, 1]), (100, [19]), (2, [0, 0]), (27, [4, 6, 0, 24, 0, 201]), (114, [])]
def fd_p128 : List Nat := [0, 1, 4, 7, 8, 9, 12, 13, 14, 17, 18, 19, 22, 23, 24, 27, 28, 31, 32, 33, 34, 37, 40, 41, 44, 47, 48, 51, 54, 56, 57, 60, 61, 62, 63, 64, 67, 68, 69, 72, 75, 78, 79, 82]
-- FacingDoors$Reader.advance ()V
def fd_c129 : List fd_Ins := [(2, [0, 0]), (27, [4, 2, 0, 9, 0, 197]), (2, [0, 0]), (27, [4, 0, 2, 34, 0, 195]), (27, [7, 1, 0, 54, 1, 125]), (104, [20]), (2, [0, 0]), (27, [4, 0, 2, 34, 0, 195]), (2, [0, 0]), (27, [4, 2, 0, 9, 0, 197]), (120, [165, 2, 59, 1, 447]), (0, [32, 1, 0]), (102, [20]), (2, [0, 0]), (24, []), (27, [4, 2, 0, 9, 0, 197]), (0, [1, 0, 0]), (6, []), (28, [4, 2, 0, 9, 0, 0, 197]), (100, [0]), (2, [0, 0]), (2, [0, 0]), (27, [4, 2, 0, 9, 0, 197]), (28, [4, 3, 0, 15, 0, 0, 198]), (2, [0, 0]), (27, [4, 2, 0, 9, 0, 197]), (2, [0, 0]), (27, [4, 0, 2, 34, 0, 195]), (27, [7, 1, 0, 54, 1, 125]), (103, [34]), (2, [0, 0]), (0, [0, 0, 0]), (28, [4, 4, 0, 18, 0, 0, 199]), (116, []), (2, [0, 0]), (27, [4, 0, 2, 34, 0, 195]), (2, [0, 0]), (27, [4, 2, 0, 9, 0, 197]), (120, [165, 2, 59, 1, 447]), (3, [1, 0]), (1, [1, 0]), (121, [131, 1, 63, 0, 451]), (107, [46]), (2, [0, 0]), (120, [130, 1, 67, 0, 454]), (116, []), (2, [0, 0]), (24, []), (27, [4, 2, 0, 9, 0, 197]), (0, [1, 0, 0]), (6, []), (28, [4, 2, 0, 9, 0, 0, 197]), (2, [0, 0]), (1, [1, 0]), (28, [4, 5, 0, 21, 0, 0, 200]), (1, [1, 0]), (0, [97, 1, 0]), (103, [65]), (1, [1, 0]), (0, [122, 1, 0]), (105, [65]), (2, [0, 0]), (0, [1, 0, 0]), (28, [4, 4, 0, 18, 0, 0, 199]), (100, [73]), (2, [0, 0]), (1, [1, 0]), (0, [59, 1, 0]), (102, [71]), (0, [3, 0, 0]), (100, [72]), (0, [4, 0, 0]), (28, [4, 4, 0, 18, 0, 0, 199]), (116, [])]
def fd_p129 : List Nat := [0, 1, 4, 5, 8, 11, 14, 15, 18, 19, 22, 25, 27, 30, 31, 32, 35, 36, 37, 40, 43, 44, 45, 48, 51, 52, 55, 56, 59, 62, 65, 66, 67, 70, 71, 72, 75, 76, 79, 82, 83, 84, 87, 90, 91, 94, 95, 96, 97, 100, 101, 102, 105, 106, 107, 110, 111, 113, 116, 117, 119, 122, 123, 124, 127, 130, 131, 132, 134, 137, 138, 141, 142, 145]
-- FacingDoors$Reader.advanceOverNumber ()V
def fd_c130 : List fd_Ins := [(2, [0, 0]), (0, [0, 0, 0]), (28, [4, 5, 0, 21, 0, 0, 200]), (2, [0, 0]), (27, [4, 2, 0, 9, 0, 197]), (2, [0, 0]), (27, [4, 0, 2, 34, 0, 195]), (27, [7, 1, 0, 54, 1, 125]), (104, [39]), (2, [0, 0]), (27, [4, 0, 2, 34, 0, 195]), (2, [0, 0]), (27, [4, 2, 0, 9, 0, 197]), (120, [165, 2, 59, 1, 447]), (121, [131, 1, 63, 0, 451]), (107, [39]), (2, [0, 0]), (0, [100, 1, 0]), (2, [0, 0]), (27, [4, 5, 0, 21, 0, 200]), (0, [10, 1, 0]), (8, []), (2, [0, 0]), (27, [4, 0, 2, 34, 0, 195]), (2, [0, 0]), (27, [4, 2, 0, 9, 0, 197]), (120, [165, 2, 59, 1, 447]), (6, []), (0, [48, 1, 0]), (7, []), (44, [70, 458]), (28, [4, 5, 0, 21, 0, 0, 200]), (2, [0, 0]), (24, []), (27, [4, 2, 0, 9, 0, 197]), (0, [1, 0, 0]), (6, []), (28, [4, 2, 0, 9, 0, 0, 197]), (100, [3]), (2, [0, 0]), (27, [4, 0, 2, 34, 0, 195]), (2, [0, 0]), (27, [4, 3, 0, 15, 0, 198]), (120, [165, 2, 59, 1, 447]), (0, [48, 1, 0]), (102, [55]), (2, [0, 0]), (27, [4, 2, 0, 9, 0, 197]), (2, [0, 0]), (27, [4, 3, 0, 15, 0, 198]), (7, []), (0, [1, 0, 0]), (106, [55]), (0, [1, 0, 0]), (100, [56]), (0, [0, 0, 0]), (3, [1, 0]), (2, [0, 0]), (1, [1, 0]), (108, [64]), (2, [0, 0]), (27, [4, 5, 0, 21, 0, 200]), (0, [99, 1, 0]), (106, [66]), (0, [4, 0, 0]), (100, [67]), (0, [2, 0, 0]), (28, [4, 4, 0, 18, 0, 0, 199]), (116, [])]
def fd_p130 : List Nat := [0, 1, 2, 5, 6, 9, 10, 13, 16, 19, 20, 23, 24, 27, 30, 33, 36, 37, 39, 40, 43, 45, 46, 47, 50, 51, 54, 57, 58, 60, 61, 64, 67, 68, 69, 72, 73, 74, 77, 80, 81, 84, 85, 88, 91, 93, 96, 97, 100, 101, 104, 105, 106, 109, 110, 113, 114, 115, 116, 117, 120, 121, 124, 126, 129, 130, 133, 134, 137]
-- FacingDoors$Reader.isDigit (I)Z
def fd_c131 : List fd_Ins := [(1, [0, 0]), (0, [48, 1, 0]), (103, [8]), (1, [0, 0]), (0, [57, 1, 0]), (105, [8]), (0, [1, 0, 0]), (100, [9]), (0, [0, 0, 0]), (114, [])]
def fd_p131 : List Nat := [0, 1, 3, 6, 7, 9, 12, 13, 16, 17]
-- FacingDoors$Reader.takeItem ()Z
def fd_c132 : List fd_Ins := [(2, [0, 0]), (27, [4, 4, 0, 18, 0, 199]), (0, [1, 0, 0]), (101, [6]), (0, [0, 0, 0]), (114, []), (2, [0, 0]), (27, [4, 5, 0, 21, 0, 200]), (118, [24, 100, 15, 112, 18, 114, 12, 115, 21, 119, 9]), (2, [0, 0]), (120, [133, 1, 76, 0, 465]), (114, []), (2, [0, 0]), (120, [134, 1, 79, 0, 477]), (114, []), (2, [0, 0]), (120, [136, 1, 82, 0, 488]), (114, []), (2, [0, 0]), (120, [137, 1, 85, 0, 505]), (114, []), (2, [0, 0]), (120, [138, 1, 88, 0, 509]), (114, []), (0, [0, 0, 0]), (114, [])]
def fd_p132 : List Nat := [0, 1, 4, 5, 8, 9, 10, 11, 14, 64, 65, 68, 69, 70, 73, 74, 75, 78, 79, 80, 83, 84, 85, 88, 89, 90]
-- FacingDoors$Reader.takeWide ()Z
def fd_c133 : List fd_Ins := [(2, [0, 0]), (27, [4, 6, 0, 24, 0, 201]), (108, [8]), (2, [0, 0]), (0, [1, 0, 0]), (0, [7, 1, 0]), (120, [139, 3, 91, 0, 469]), (108, [10]), (0, [0, 0, 0]), (114, []), (2, [0, 0]), (27, [4, 1, 2, 38, 0, 196]), (2, [0, 0]), (27, [4, 5, 0, 21, 0, 200]), (28, [3, 0, 0, 95, 1, 0, 139]), (2, [0, 0]), (120, [140, 1, 98, 0, 473]), (114, [])]
def fd_p133 : List Nat := [0, 1, 4, 7, 8, 9, 11, 14, 17, 18, 19, 20, 23, 24, 27, 30, 31, 34]
-- FacingDoors$Reader.takeRow ()Z
def fd_c134 : List fd_Ins := [(2, [0, 0]), (27, [4, 1, 2, 38, 0, 196]), (27, [3, 0, 0, 95, 1, 139]), (107, [13]), (2, [0, 0]), (27, [4, 1, 2, 38, 0, 196]), (27, [3, 1, 0, 101, 1, 142]), (0, [7, 1, 0]), (104, [13]), (2, [0, 0]), (27, [4, 1, 2, 38, 0, 196]), (27, [3, 2, 0, 104, 1, 149]), (112, [15]), (0, [0, 0, 0]), (114, []), (0, [0, 0, 0]), (3, [1, 0]), (1, [1, 0]), (2, [0, 0]), (27, [4, 1, 2, 38, 0, 196]), (27, [3, 0, 0, 95, 1, 139]), (104, [42]), (2, [0, 0]), (120, [135, 1, 107, 0, 481]), (3, [2, 0]), (1, [2, 0]), (0, [-1, 0, 0]), (102, [30]), (0, [0, 0, 0]), (114, []), (2, [0, 0]), (27, [4, 1, 2, 38, 0, 196]), (27, [3, 5, 2, 111, 1, 160]), (1, [1, 0]), (2, [0, 0]), (27, [4, 1, 2, 38, 0, 196]), (27, [3, 1, 0, 101, 1, 142]), (121, [46, 2, 115, 1, 485]), (1, [2, 0]), (31, []), (5, [1, 1]), (100, [17]), (2, [0, 0]), (27, [4, 1, 2, 38, 0, 196]), (24, []), (27, [3, 1, 0, 101, 1, 142]), (0, [1, 0, 0]), (6, []), (28, [3, 1, 0, 101, 1, 0, 142]), (2, [0, 0]), (120, [140, 1, 98, 0, 473]), (114, [])]
def fd_p134 : List Nat := [0, 1, 4, 7, 10, 11, 14, 17, 19, 22, 23, 26, 29, 32, 33, 34, 35, 36, 37, 38, 41, 44, 47, 48, 51, 52, 53, 54, 57, 58, 59, 60, 63, 66, 67, 68, 71, 74, 77, 78, 79, 82, 85, 86, 89, 90, 93, 94, 95, 98, 99, 102]
-- FacingDoors$Reader.nextGround ()I
def fd_c135 : List fd_Ins := [(2, [0, 0]), (120, [129, 1, 47, 0, 443]), (2, [0, 0]), (27, [4, 4, 0, 18, 0, 199]), (0, [1, 0, 0]), (101, [8]), (0, [-1, 0, 0]), (114, []), (2, [0, 0]), (27, [4, 5, 0, 21, 0, 200]), (118, [17, 102, 11, 116, 15, 120, 13]), (0, [0, 0, 0]), (114, []), (0, [1, 0, 0]), (114, []), (0, [2, 0, 0]), (114, []), (0, [-1, 0, 0]), (114, [])]
def fd_p135 : List Nat := [0, 1, 4, 5, 8, 9, 12, 13, 14, 15, 18, 52, 53, 54, 55, 56, 57, 58, 59]
-- FacingDoors$Reader.takeDoor ()Z
def fd_c136 : List fd_Ins := [(2, [0, 0]), (27, [4, 1, 2, 38, 0, 196]), (27, [3, 2, 0, 104, 1, 149]), (0, [6, 1, 0]), (104, [14]), (2, [0, 0]), (0, [0, 0, 0]), (2, [0, 0]), (27, [4, 1, 2, 38, 0, 196]), (27, [3, 0, 0, 95, 1, 139]), (0, [1, 0, 0]), (7, []), (120, [139, 3, 91, 0, 469]), (108, [16]), (0, [0, 0, 0]), (114, []), (2, [0, 0]), (27, [4, 5, 0, 21, 0, 200]), (3, [1, 0]), (2, [0, 0]), (0, [0, 0, 0]), (2, [0, 0]), (27, [4, 1, 2, 38, 0, 196]), (27, [3, 1, 0, 101, 1, 142]), (0, [1, 0, 0]), (7, []), (120, [139, 3, 91, 0, 469]), (107, [35]), (2, [0, 0]), (27, [4, 1, 2, 38, 0, 196]), (1, [1, 0]), (2, [0, 0]), (27, [4, 5, 0, 21, 0, 200]), (120, [126, 3, 118, 1, 492]), (108, [37]), (0, [0, 0, 0]), (114, []), (2, [0, 0]), (27, [4, 5, 0, 21, 0, 200]), (3, [2, 0]), (2, [0, 0]), (0, [0, 0, 0]), (0, [3, 0, 0]), (120, [139, 3, 91, 0, 469]), (108, [47]), (0, [0, 0, 0]), (114, []), (2, [0, 0]), (27, [4, 1, 2, 38, 0, 196]), (27, [3, 6, 2, 121, 1, 163]), (2, [0, 0]), (27, [4, 1, 2, 38, 0, 196]), (27, [3, 2, 0, 104, 1, 149]), (1, [1, 0]), (31, []), (2, [0, 0]), (27, [4, 1, 2, 38, 0, 196]), (27, [3, 7, 2, 124, 1, 166]), (2, [0, 0]), (27, [4, 1, 2, 38, 0, 196]), (27, [3, 2, 0, 104, 1, 149]), (1, [2, 0]), (31, []), (2, [0, 0]), (27, [4, 1, 2, 38, 0, 196]), (27, [3, 8, 2, 127, 1, 169]), (2, [0, 0]), (27, [4, 1, 2, 38, 0, 196]), (27, [3, 2, 0, 104, 1, 149]), (2, [0, 0]), (27, [4, 5, 0, 21, 0, 200]), (31, []), (2, [0, 0]), (27, [4, 1, 2, 38, 0, 196]), (24, []), (27, [3, 2, 0, 104, 1, 149]), (0, [1, 0, 0]), (6, []), (28, [3, 2, 0, 104, 1, 0, 149]), (2, [0, 0]), (120, [140, 1, 98, 0, 473]), (114, [])]
def fd_p136 : List Nat := [0, 1, 4, 7, 9, 12, 13, 14, 15, 18, 21, 22, 23, 26, 29, 30, 31, 32, 35, 36, 37, 38, 39, 42, 45, 46, 47, 50, 53, 54, 57, 58, 59, 62, 65, 68, 69, 70, 71, 74, 75, 76, 77, 78, 81, 84, 85, 86, 87, 90, 93, 94, 97, 100, 101, 102, 103, 106, 109, 110, 113, 116, 117, 118, 119, 122, 125, 126, 129, 132, 133, 136, 137, 138, 141, 142, 145, 146, 147, 150, 151, 154]
-- FacingDoors$Reader.takePrice ()Z
def fd_c137 : List fd_Ins := [(2, [0, 0]), (27, [4, 7, 3, 27, 0, 202]), (108, [8]), (2, [0, 0]), (0, [1, 0, 0]), (0, [9, 1, 0]), (120, [139, 3, 91, 0, 469]), (108, [10]), (0, [0, 0, 0]), (114, []), (2, [0, 0]), (0, [1, 0, 0]), (28, [4, 7, 3, 27, 0, 0, 202]), (2, [0, 0]), (27, [4, 1, 2, 38, 0, 196]), (2, [0, 0]), (27, [4, 5, 0, 21, 0, 200]), (28, [3, 3, 0, 130, 1, 0, 153]), (2, [0, 0]), (120, [140, 1, 98, 0, 473]), (114, [])]
def fd_p137 : List Nat := [0, 1, 4, 7, 8, 9, 11, 14, 17, 18, 19, 20, 21, 24, 25, 28, 29, 32, 35, 36, 39]
-- FacingDoors$Reader.takeSight ()Z
def fd_c138 : List fd_Ins := [(2, [0, 0]), (27, [4, 8, 3, 31, 0, 203]), (108, [8]), (2, [0, 0]), (0, [1, 0, 0]), (0, [7, 1, 0]), (120, [139, 3, 91, 0, 469]), (108, [10]), (0, [0, 0, 0]), (114, []), (2, [0, 0]), (0, [1, 0, 0]), (28, [4, 8, 3, 31, 0, 0, 203]), (2, [0, 0]), (27, [4, 1, 2, 38, 0, 196]), (2, [0, 0]), (27, [4, 5, 0, 21, 0, 200]), (28, [3, 4, 0, 133, 1, 0, 157]), (2, [0, 0]), (120, [140, 1, 98, 0, 473]), (114, [])]
def fd_p138 : List Nat := [0, 1, 4, 7, 8, 9, 11, 14, 17, 18, 19, 20, 21, 24, 25, 28, 29, 32, 35, 36, 39]
-- FacingDoors$Reader.nextIsNumber (II)Z
def fd_c139 : List fd_Ins := [(2, [0, 0]), (120, [129, 1, 47, 0, 443]), (2, [0, 0]), (27, [4, 4, 0, 18, 0, 199]), (0, [2, 0, 0]), (102, [16]), (2, [0, 0]), (27, [4, 5, 0, 21, 0, 200]), (1, [1, 0]), (103, [16]), (2, [0, 0]), (27, [4, 5, 0, 21, 0, 200]), (1, [2, 0]), (105, [16]), (0, [1, 0, 0]), (100, [17]), (0, [0, 0, 0]), (114, [])]
def fd_p139 : List Nat := [0, 1, 4, 5, 8, 9, 12, 13, 16, 17, 20, 21, 24, 25, 28, 29, 32, 33]
-- FacingDoors$Reader.takeEnd ()Z
def fd_c140 : List fd_Ins := [(2, [0, 0]), (120, [129, 1, 47, 0, 443]), (2, [0, 0]), (27, [4, 4, 0, 18, 0, 199]), (0, [3, 0, 0]), (101, [8]), (0, [0, 0, 0]), (114, []), (2, [0, 0]), (120, [129, 1, 47, 0, 443]), (0, [1, 0, 0]), (114, [])]
def fd_p140 : List Nat := [0, 1, 4, 5, 8, 9, 12, 13, 14, 15, 18, 19]
-- FacingDoors$Scene.<init> ()V
def fd_c141 : List fd_Ins := [(2, [0, 0]), (42, [3, 228]), (2, [0, 0]), (0, [6, 1, 0]), (38, [20]), (28, [5, 0, 2, 9, 0, 1, 229]), (2, [0, 0]), (0, [6, 1, 0]), (38, [20]), (28, [5, 1, 2, 15, 0, 1, 232]), (2, [0, 0]), (0, [6, 1, 0]), (38, [20]), (28, [5, 2, 2, 18, 0, 1, 235]), (2, [0, 0]), (0, [6, 1, 0]), (38, [20]), (28, [5, 3, 2, 21, 0, 1, 239]), (2, [0, 0]), (0, [0, 0, 0]), (28, [5, 4, 0, 24, 0, 0, 241]), (2, [0, 0]), (17, [0, 0, 0]), (28, [5, 5, 1, 28, 0, 0, 243]), (2, [0, 0]), (0, [1, 0, 0]), (28, [5, 6, 3, 32, 0, 0, 245]), (2, [0, 0]), (0, [0, 0, 0]), (28, [5, 7, 3, 36, 0, 0, 248]), (116, [])]
def fd_p141 : List Nat := [0, 1, 4, 5, 7, 9, 12, 13, 15, 17, 20, 21, 23, 25, 28, 29, 31, 33, 36, 37, 38, 41, 42, 43, 46, 47, 48, 51, 52, 53, 56]
-- FacingDoors$Scene.begin (LFacingDoors$Plan;)V
def fd_c142 : List fd_Ins := [(0, [0, 0, 0]), (3, [2, 0]), (1, [2, 0]), (0, [6, 1, 0]), (104, [36]), (2, [0, 0]), (27, [5, 0, 2, 9, 0, 229]), (1, [2, 0]), (2, [1, 0]), (27, [3, 6, 2, 39, 1, 162]), (1, [2, 0]), (30, []), (31, []), (2, [0, 0]), (27, [5, 1, 2, 15, 0, 232]), (1, [2, 0]), (2, [1, 0]), (27, [3, 7, 2, 44, 1, 165]), (1, [2, 0]), (30, []), (31, []), (2, [0, 0]), (27, [5, 2, 2, 18, 0, 235]), (1, [2, 0]), (2, [1, 0]), (27, [3, 8, 2, 47, 1, 168]), (1, [2, 0]), (30, []), (31, []), (2, [0, 0]), (27, [5, 3, 2, 21, 0, 239]), (1, [2, 0]), (0, [0, 0, 0]), (31, []), (5, [2, 1]), (100, [2]), (2, [0, 0]), (2, [1, 0]), (27, [3, 2, 0, 50, 1, 147]), (121, [45, 1, 53, 1, 524]), (0, [1, 0, 0]), (7, []), (28, [5, 4, 0, 24, 0, 0, 241]), (2, [0, 0]), (17, [0, 0, 0]), (28, [5, 5, 1, 28, 0, 0, 243]), (2, [0, 0]), (0, [1, 0, 0]), (28, [5, 6, 3, 32, 0, 0, 245]), (2, [0, 0]), (0, [0, 0, 0]), (28, [5, 7, 3, 36, 0, 0, 248]), (116, [])]
def fd_p142 : List Nat := [0, 1, 2, 3, 5, 8, 9, 12, 13, 14, 17, 18, 19, 20, 21, 24, 25, 26, 29, 30, 31, 32, 33, 36, 37, 38, 41, 42, 43, 44, 45, 48, 49, 50, 51, 54, 57, 58, 59, 62, 65, 66, 67, 70, 71, 72, 75, 76, 77, 80, 81, 82, 85]
-- FacingDoors$Scene.copyFrom (LFacingDoors$Scene;)V
def fd_c143 : List fd_Ins := [(2, [1, 0]), (27, [5, 0, 2, 9, 0, 229]), (0, [0, 0, 0]), (2, [0, 0]), (27, [5, 0, 2, 9, 0, 229]), (0, [0, 0, 0]), (0, [6, 1, 0]), (40, [57, 633]), (2, [1, 0]), (27, [5, 1, 2, 15, 0, 232]), (0, [0, 0, 0]), (2, [0, 0]), (27, [5, 1, 2, 15, 0, 232]), (0, [0, 0, 0]), (0, [6, 1, 0]), (40, [57, 633]), (2, [1, 0]), (27, [5, 2, 2, 18, 0, 235]), (0, [0, 0, 0]), (2, [0, 0]), (27, [5, 2, 2, 18, 0, 235]), (0, [0, 0, 0]), (0, [6, 1, 0]), (40, [57, 633]), (2, [1, 0]), (27, [5, 3, 2, 21, 0, 239]), (0, [0, 0, 0]), (2, [0, 0]), (27, [5, 3, 2, 21, 0, 239]), (0, [0, 0, 0]), (0, [6, 1, 0]), (40, [57, 633]), (2, [0, 0]), (2, [1, 0]), (27, [5, 4, 0, 24, 0, 241]), (28, [5, 4, 0, 24, 0, 0, 241]), (2, [0, 0]), (2, [1, 0]), (27, [5, 5, 1, 28, 0, 243]), (28, [5, 5, 1, 28, 0, 0, 243]), (2, [0, 0]), (2, [1, 0]), (27, [5, 6, 3, 32, 0, 245]), (28, [5, 6, 3, 32, 0, 0, 245]), (2, [0, 0]), (2, [1, 0]), (27, [5, 7, 3, 36, 0, 248]), (28, [5, 7, 3, 36, 0, 0, 248]), (116, [])]
def fd_p143 : List Nat := [0, 1, 4, 5, 6, 9, 10, 12, 15, 16, 19, 20, 21, 24, 25, 27, 30, 31, 34, 35, 36, 39, 40, 42, 45, 46, 49, 50, 51, 54, 55, 57, 60, 61, 62, 65, 68, 69, 70, 73, 76, 77, 78, 81, 84, 85, 86, 89, 92]
-- FacingDoors$Scene.isOpen (I)Z
def fd_c144 : List fd_Ins := [(2, [0, 0]), (27, [5, 4, 0, 24, 0, 241]), (1, [1, 0]), (121, [44, 2, 63, 1, 561]), (114, [])]
def fd_p144 : List Nat := [0, 1, 4, 5, 8]
-- FacingDoors$Scene.hasCart (II)Z
def fd_c145 : List fd_Ins := [(2, [0, 0]), (27, [5, 5, 1, 28, 0, 243]), (1, [1, 0]), (1, [2, 0]), (121, [47, 2, 67, 1, 544]), (20, []), (17, [0, 0, 0]), (22, []), (107, [11]), (0, [1, 0, 0]), (100, [12]), (0, [0, 0, 0]), (114, [])]
def fd_p145 : List Nat := [0, 1, 4, 5, 6, 9, 10, 11, 12, 15, 16, 19, 20]
-- FacingDoors$Scene.isDoorOn (III)Z
def fd_c146 : List fd_Ins := [(2, [0, 0]), (27, [5, 0, 2, 9, 0, 229]), (1, [1, 0]), (30, []), (1, [2, 0]), (102, [14]), (2, [0, 0]), (27, [5, 1, 2, 15, 0, 232]), (1, [1, 0]), (30, []), (1, [3, 0]), (102, [14]), (0, [1, 0, 0]), (100, [15]), (0, [0, 0, 0]), (114, [])]
def fd_p146 : List Nat := [0, 1, 4, 5, 6, 7, 10, 11, 14, 15, 16, 17, 20, 21, 24, 25]
-- FacingDoors$Scene.doorOn (III)I
def fd_c147 : List fd_Ins := [(0, [0, 0, 0]), (3, [4, 1]), (1, [4, 1]), (1, [3, 0]), (104, [18]), (1, [4, 1]), (0, [6, 1, 0]), (104, [18]), (2, [0, 0]), (1, [4, 1]), (1, [1, 0]), (1, [2, 0]), (120, [146, 4, 71, 0, 536]), (107, [16]), (1, [4, 1]), (114, []), (5, [4, 1]), (100, [2]), (0, [-1, 0, 0]), (114, [])]
def fd_p147 : List Nat := [0, 1, 3, 5, 6, 9, 11, 13, 16, 17, 19, 20, 21, 24, 27, 29, 30, 33, 36, 37]
-- FacingDoors$Scene.owedByAll (I)I
def fd_c148 : List fd_Ins := [(0, [0, 0, 0]), (3, [2, 0]), (0, [0, 0, 0]), (3, [3, 0]), (1, [3, 0]), (1, [1, 0]), (104, [19]), (1, [3, 0]), (0, [6, 1, 0]), (104, [19]), (1, [2, 0]), (2, [0, 0]), (27, [5, 3, 2, 21, 0, 239]), (1, [3, 0]), (30, []), (6, []), (3, [2, 0]), (5, [3, 1]), (100, [4]), (1, [2, 0]), (114, [])]
def fd_p148 : List Nat := [0, 1, 2, 3, 4, 5, 6, 9, 10, 12, 15, 16, 17, 20, 21, 22, 23, 24, 27, 30, 31]
-- FacingDoors$Sights.<init> (LFacingDoors$Plan;LFacingDoors$Scene;)V
def fd_c149 : List fd_Ins := [(2, [0, 0]), (42, [3, 293]), (2, [0, 0]), (2, [1, 0]), (28, [6, 0, 2, 9, 0, 1, 294]), (2, [0, 0]), (2, [2, 0]), (28, [6, 1, 2, 15, 0, 1, 295]), (116, [])]
def fd_p149 : List Nat := [0, 1, 4, 5, 6, 9, 10, 11, 14]
-- FacingDoors$Sights.isVacant (II)Z
def fd_c150 : List fd_Ins := [(2, [0, 0]), (27, [6, 0, 2, 9, 0, 294]), (1, [1, 0]), (1, [2, 0]), (120, [123, 3, 19, 1, 580]), (107, [30]), (2, [0, 0]), (27, [6, 0, 2, 9, 0, 294]), (1, [1, 0]), (1, [2, 0]), (120, [125, 3, 25, 1, 586]), (108, [30]), (2, [0, 0]), (27, [6, 1, 2, 15, 0, 295]), (1, [1, 0]), (1, [2, 0]), (120, [145, 3, 29, 1, 587]), (108, [30]), (2, [0, 0]), (27, [6, 1, 2, 15, 0, 295]), (1, [1, 0]), (1, [2, 0]), (2, [0, 0]), (27, [6, 0, 2, 9, 0, 294]), (27, [3, 2, 0, 34, 1, 146]), (120, [147, 4, 38, 1, 581]), (0, [-1, 0, 0]), (102, [30]), (0, [1, 0, 0]), (100, [31]), (0, [0, 0, 0]), (114, [])]
def fd_p150 : List Nat := [0, 1, 4, 5, 6, 9, 12, 13, 16, 17, 18, 21, 24, 25, 28, 29, 30, 33, 36, 37, 40, 41, 42, 43, 46, 49, 52, 53, 56, 57, 60, 61]
-- FacingDoors$Sights.hidesWhatIsBehind (II)Z
def fd_c151 : List fd_Ins := [(2, [0, 0]), (27, [6, 0, 2, 9, 0, 294]), (1, [1, 0]), (1, [2, 0]), (120, [125, 3, 25, 1, 586]), (3, [3, 0]), (1, [3, 0]), (0, [1, 0, 0]), (101, [22]), (1, [3, 0]), (0, [2, 0, 0]), (102, [16]), (2, [0, 0]), (27, [6, 1, 2, 15, 0, 295]), (27, [5, 6, 3, 42, 1, 246]), (108, [22]), (2, [0, 0]), (27, [6, 1, 2, 15, 0, 295]), (1, [1, 0]), (1, [2, 0]), (120, [145, 3, 29, 1, 587]), (107, [24]), (0, [1, 0, 0]), (100, [25]), (0, [0, 0, 0]), (114, [])]
def fd_p151 : List Nat := [0, 1, 4, 5, 6, 9, 10, 11, 12, 15, 16, 17, 20, 21, 24, 27, 30, 31, 34, 35, 36, 39, 42, 43, 46, 47]
-- FacingDoors$Sights.wouldSee (II)I
def fd_c152 : List fd_Ins := [(2, [0, 0]), (27, [6, 1, 2, 15, 0, 295]), (27, [5, 0, 2, 46, 1, 230]), (1, [1, 0]), (30, []), (3, [3, 0]), (2, [0, 0]), (27, [6, 1, 2, 15, 0, 295]), (27, [5, 1, 2, 50, 1, 233]), (1, [1, 0]), (30, []), (3, [4, 1]), (0, [0, 0, 0]), (3, [5, 1]), (1, [5, 1]), (2, [0, 0]), (27, [6, 0, 2, 9, 0, 294]), (27, [3, 4, 0, 53, 1, 156]), (104, [62]), (1, [3, 0]), (29, [1001, 56, 1, 576]), (1, [2, 0]), (43, []), (6, []), (3, [3, 0]), (1, [4, 1]), (29, [1002, 59, 1, 578]), (1, [2, 0]), (43, []), (6, []), (3, [4, 1]), (2, [0, 0]), (27, [6, 0, 2, 9, 0, 294]), (1, [3, 0]), (1, [4, 1]), (120, [123, 3, 19, 1, 580]), (108, [39]), (0, [-1, 0, 0]), (114, []), (2, [0, 0]), (27, [6, 1, 2, 15, 0, 295]), (1, [3, 0]), (1, [4, 1]), (2, [0, 0]), (27, [6, 0, 2, 9, 0, 294]), (27, [3, 2, 0, 34, 1, 146]), (120, [147, 4, 38, 1, 581]), (3, [6, 1]), (1, [6, 1]), (0, [-1, 0, 0]), (101, [53]), (1, [6, 1]), (114, []), (2, [0, 0]), (1, [3, 0]), (1, [4, 1]), (120, [151, 3, 62, 0, 582]), (107, [60]), (0, [-1, 0, 0]), (114, []), (5, [5, 1]), (100, [14]), (0, [-1, 0, 0]), (114, [])]
def fd_p152 : List Nat := [0, 1, 4, 7, 8, 9, 10, 11, 14, 17, 18, 19, 21, 22, 24, 26, 27, 30, 33, 36, 37, 40, 41, 42, 43, 44, 46, 49, 50, 51, 52, 54, 55, 58, 59, 61, 64, 67, 68, 69, 70, 73, 74, 76, 77, 80, 83, 86, 88, 90, 91, 94, 96, 97, 98, 99, 101, 104, 107, 108, 109, 112, 115, 116]
-- FacingDoors$Sights.seesWhom (I)I
def fd_c153 : List fd_Ins := [(2, [0, 0]), (27, [6, 1, 2, 15, 0, 295]), (27, [5, 7, 3, 65, 1, 249]), (108, [9]), (2, [0, 0]), (27, [6, 1, 2, 15, 0, 295]), (1, [1, 0]), (120, [144, 2, 68, 1, 571]), (108, [11]), (0, [-1, 0, 0]), (100, [19]), (2, [0, 0]), (1, [1, 0]), (2, [0, 0]), (27, [6, 1, 2, 15, 0, 295]), (27, [5, 2, 2, 72, 1, 237]), (1, [1, 0]), (30, []), (120, [152, 3, 75, 0, 572]), (114, [])]
def fd_p153 : List Nat := [0, 1, 4, 7, 10, 11, 14, 15, 18, 21, 22, 25, 26, 27, 28, 31, 34, 35, 36, 39]
-- FacingDoors$Sights.seenBy (I)I
def fd_c154 : List fd_Ins := [(0, [0, 0, 0]), (3, [2, 0]), (0, [0, 0, 0]), (3, [3, 0]), (1, [3, 0]), (2, [0, 0]), (27, [6, 0, 2, 9, 0, 294]), (27, [3, 2, 0, 34, 1, 146]), (104, [21]), (2, [0, 0]), (1, [3, 0]), (120, [153, 2, 78, 0, 612]), (1, [1, 0]), (102, [19]), (1, [2, 0]), (1, [3, 0]), (121, [45, 1, 82, 1, 613]), (12, []), (3, [2, 0]), (5, [3, 1]), (100, [4]), (1, [2, 0]), (114, [])]
def fd_p154 : List Nat := [0, 1, 2, 3, 4, 5, 6, 9, 12, 15, 16, 17, 20, 21, 24, 25, 26, 29, 30, 31, 34, 37, 38]
-- FacingDoors$Sights.dueIfOpen (I)I
def fd_c155 : List fd_Ins := [(2, [0, 0]), (27, [6, 1, 2, 15, 0, 295]), (27, [5, 7, 3, 65, 1, 249]), (107, [6]), (0, [-1, 0, 0]), (100, [14]), (2, [0, 0]), (1, [1, 0]), (2, [0, 0]), (27, [6, 1, 2, 15, 0, 295]), (27, [5, 2, 2, 72, 1, 237]), (1, [1, 0]), (30, []), (120, [152, 3, 75, 0, 572]), (3, [2, 0]), (1, [2, 0]), (0, [-1, 0, 0]), (102, [20]), (0, [0, 0, 0]), (114, []), (2, [0, 0]), (27, [6, 1, 2, 15, 0, 295]), (27, [5, 2, 2, 72, 1, 237]), (1, [2, 0]), (30, []), (2, [0, 0]), (27, [6, 1, 2, 15, 0, 295]), (27, [5, 2, 2, 72, 1, 237]), (1, [1, 0]), (30, []), (121, [48, 1, 85, 1, 597]), (102, [34]), (0, [1, 0, 0]), (100, [35]), (0, [0, 0, 0]), (3, [3, 0]), (1, [3, 0]), (107, [44]), (0, [2, 0, 0]), (2, [0, 0]), (27, [6, 0, 2, 9, 0, 294]), (27, [3, 3, 0, 88, 1, 152]), (8, []), (100, [47]), (2, [0, 0]), (27, [6, 0, 2, 9, 0, 294]), (27, [3, 3, 0, 88, 1, 152]), (114, [])]
def fd_p155 : List Nat := [0, 1, 4, 7, 10, 11, 14, 15, 16, 17, 20, 23, 24, 25, 28, 29, 30, 31, 34, 35, 36, 37, 40, 43, 44, 45, 46, 49, 52, 53, 54, 57, 60, 61, 64, 65, 66, 67, 70, 71, 72, 75, 78, 79, 82, 83, 86, 89]
-- FacingDoors$Sights.dueOf (I)I
def fd_c156 : List fd_Ins := [(2, [0, 0]), (27, [6, 1, 2, 15, 0, 295]), (1, [1, 0]), (120, [144, 2, 68, 1, 571]), (107, [9]), (2, [0, 0]), (1, [1, 0]), (120, [155, 2, 91, 0, 593]), (100, [10]), (0, [0, 0, 0]), (114, [])]
def fd_p156 : List Nat := [0, 1, 4, 5, 8, 11, 12, 13, 16, 19, 20]
-- FacingDoors$Sights.dueOfAll ()I
def fd_c157 : List fd_Ins := [(0, [0, 0, 0]), (3, [1, 0]), (0, [0, 0, 0]), (3, [2, 0]), (1, [2, 0]), (2, [0, 0]), (27, [6, 0, 2, 9, 0, 294]), (27, [3, 2, 0, 34, 1, 146]), (104, [17]), (1, [1, 0]), (2, [0, 0]), (1, [2, 0]), (120, [156, 2, 94, 0, 667]), (6, []), (3, [1, 0]), (5, [2, 1]), (100, [4]), (1, [1, 0]), (114, [])]
def fd_p157 : List Nat := [0, 1, 2, 3, 4, 5, 6, 9, 12, 15, 16, 17, 18, 21, 22, 23, 26, 29, 30]
-- FacingDoors$Sights.pairs ()I
def fd_c158 : List fd_Ins := [(0, [0, 0, 0]), (3, [1, 0]), (0, [0, 0, 0]), (3, [2, 0]), (1, [2, 0]), (2, [0, 0]), (27, [6, 0, 2, 9, 0, 294]), (27, [3, 2, 0, 34, 1, 146]), (104, [24]), (2, [0, 0]), (1, [2, 0]), (120, [153, 2, 78, 0, 612]), (3, [3, 0]), (1, [3, 0]), (1, [2, 0]), (106, [22]), (2, [0, 0]), (1, [3, 0]), (120, [153, 2, 78, 0, 612]), (1, [2, 0]), (102, [22]), (5, [1, 1]), (5, [2, 1]), (100, [4]), (1, [1, 0]), (114, [])]
def fd_p158 : List Nat := [0, 1, 2, 3, 4, 5, 6, 9, 12, 15, 16, 17, 20, 21, 22, 23, 26, 27, 28, 31, 32, 35, 38, 41, 44, 45]
-- FacingDoors$Sights.hasWayIn (II)Z
def fd_c159 : List fd_Ins := [(2, [0, 0]), (2, [0, 0]), (27, [6, 1, 2, 15, 0, 295]), (27, [5, 0, 2, 46, 1, 230]), (1, [1, 0]), (30, []), (29, [1001, 56, 1, 576]), (1, [2, 0]), (43, []), (6, []), (2, [0, 0]), (27, [6, 1, 2, 15, 0, 295]), (27, [5, 1, 2, 50, 1, 233]), (1, [1, 0]), (30, []), (29, [1002, 59, 1, 578]), (1, [2, 0]), (43, []), (6, []), (120, [150, 3, 97, 0, 604]), (114, [])]
def fd_p159 : List Nat := [0, 1, 2, 5, 8, 9, 10, 13, 14, 15, 16, 17, 20, 23, 24, 25, 28, 29, 30, 31, 34]
-- FacingDoors$Sights.whoHasWayIn ()I
def fd_c160 : List fd_Ins := [(0, [0, 0, 0]), (3, [1, 0]), (0, [0, 0, 0]), (3, [2, 0]), (1, [2, 0]), (2, [0, 0]), (27, [6, 0, 2, 9, 0, 294]), (27, [3, 2, 0, 34, 1, 146]), (104, [25]), (2, [0, 0]), (1, [2, 0]), (2, [0, 0]), (27, [6, 1, 2, 15, 0, 295]), (27, [5, 2, 2, 72, 1, 237]), (1, [2, 0]), (30, []), (120, [159, 3, 100, 0, 693]), (107, [23]), (1, [1, 0]), (1, [2, 0]), (121, [45, 1, 82, 1, 613]), (12, []), (3, [1, 0]), (5, [2, 1]), (100, [4]), (1, [1, 0]), (114, [])]
def fd_p160 : List Nat := [0, 1, 2, 3, 4, 5, 6, 9, 12, 15, 16, 17, 18, 21, 24, 25, 26, 29, 32, 33, 34, 37, 38, 39, 42, 45, 46]
-- FacingDoors$Sights.eachCanHaveWayIn ()Z
def fd_c161 : List fd_Ins := [(0, [0, 0, 0]), (3, [1, 0]), (1, [1, 0]), (2, [0, 0]), (27, [6, 0, 2, 9, 0, 294]), (27, [3, 2, 0, 34, 1, 146]), (104, [33]), (0, [0, 0, 0]), (3, [2, 0]), (0, [0, 0, 0]), (3, [3, 0]), (1, [3, 0]), (0, [4, 0, 0]), (104, [27]), (1, [2, 0]), (108, [21]), (2, [0, 0]), (1, [1, 0]), (1, [3, 0]), (120, [159, 3, 100, 0, 693]), (107, [23]), (0, [1, 0, 0]), (100, [24]), (0, [0, 0, 0]), (3, [2, 0]), (5, [3, 1]), (100, [11]), (1, [2, 0]), (108, [31]), (0, [0, 0, 0]), (114, []), (5, [1, 1]), (100, [2]), (0, [1, 0, 0]), (114, [])]
def fd_p161 : List Nat := [0, 1, 2, 3, 4, 7, 10, 13, 14, 15, 16, 17, 18, 19, 22, 23, 26, 27, 28, 29, 32, 35, 36, 39, 40, 41, 44, 47, 48, 51, 52, 53, 56, 59, 60]
-- FacingDoors$Sights.mustSee (II)Z
def fd_c162 : List fd_Ins := [(0, [0, 0, 0]), (3, [3, 0]), (1, [3, 0]), (0, [4, 0, 0]), (104, [20]), (2, [0, 0]), (1, [1, 0]), (1, [3, 0]), (120, [159, 3, 100, 0, 693]), (107, [18]), (2, [0, 0]), (1, [1, 0]), (1, [3, 0]), (120, [152, 3, 75, 0, 572]), (1, [2, 0]), (101, [18]), (0, [0, 0, 0]), (114, []), (5, [3, 1]), (100, [2]), (0, [1, 0, 0]), (114, [])]
def fd_p162 : List Nat := [0, 1, 2, 3, 4, 7, 8, 9, 10, 13, 16, 17, 18, 19, 22, 23, 26, 27, 28, 31, 34, 35]
-- FacingDoors$Text.<init> ()V
def fd_c163 : List fd_Ins := [(2, [0, 0]), (42, [3, 121]), (2, [0, 0]), (0, [150, 2, 0]), (38, [20]), (28, [7, 0, 2, 9, 0, 1, 122]), (2, [0, 0]), (0, [0, 0, 0]), (28, [7, 1, 0, 15, 0, 0, 123]), (116, [])]
def fd_p163 : List Nat := [0, 1, 4, 5, 8, 10, 13, 14, 15, 18]
-- FacingDoors$Text.append (I)V
def fd_c164 : List fd_Ins := [(2, [0, 0]), (27, [7, 1, 0, 15, 0, 123]), (2, [0, 0]), (27, [7, 0, 2, 9, 0, 122]), (36, []), (104, [18]), (2, [0, 0]), (27, [7, 0, 2, 9, 0, 122]), (2, [0, 0]), (27, [7, 1, 0, 15, 0, 123]), (1, [1, 0]), (31, []), (2, [0, 0]), (24, []), (27, [7, 1, 0, 15, 0, 123]), (0, [1, 0, 0]), (6, []), (28, [7, 1, 0, 15, 0, 0, 123]), (116, [])]
def fd_p164 : List Nat := [0, 1, 4, 5, 8, 9, 12, 13, 16, 17, 20, 21, 22, 23, 24, 27, 28, 29, 32]
-- FacingDoors$Text.byteAt (I)I
def fd_c165 : List fd_Ins := [(1, [1, 0]), (109, [11]), (1, [1, 0]), (2, [0, 0]), (27, [7, 1, 0, 15, 0, 123]), (104, [11]), (2, [0, 0]), (27, [7, 0, 2, 9, 0, 122]), (1, [1, 0]), (30, []), (100, [12]), (0, [-1, 0, 0]), (114, [])]
def fd_p165 : List Nat := [0, 1, 4, 5, 6, 9, 12, 13, 16, 17, 18, 21, 22]
-- FacingDoors$Told.<init> ()V
def fd_c166 : List fd_Ins := [(2, [0, 0]), (42, [3, 347]), (2, [0, 0]), (0, [6, 1, 0]), (38, [20]), (28, [8, 0, 2, 9, 0, 1, 348]), (2, [0, 0]), (0, [6, 1, 0]), (38, [20]), (28, [8, 1, 2, 15, 0, 1, 349]), (2, [0, 0]), (0, [0, 0, 0]), (28, [8, 2, 0, 18, 0, 0, 350]), (116, [])]
def fd_p166 : List Nat := [0, 1, 4, 5, 7, 9, 12, 13, 15, 17, 20, 21, 22, 25]
-- FacingDoors$Told.add (II)V
def fd_c167 : List fd_Ins := [(2, [0, 0]), (27, [8, 2, 0, 18, 0, 350]), (0, [6, 1, 0]), (104, [22]), (2, [0, 0]), (27, [8, 0, 2, 9, 0, 348]), (2, [0, 0]), (27, [8, 2, 0, 18, 0, 350]), (1, [1, 0]), (31, []), (2, [0, 0]), (27, [8, 1, 2, 15, 0, 349]), (2, [0, 0]), (27, [8, 2, 0, 18, 0, 350]), (1, [2, 0]), (31, []), (2, [0, 0]), (24, []), (27, [8, 2, 0, 18, 0, 350]), (0, [1, 0, 0]), (6, []), (28, [8, 2, 0, 18, 0, 0, 350]), (116, [])]
def fd_p167 : List Nat := [0, 1, 4, 6, 9, 10, 13, 14, 17, 18, 19, 20, 23, 24, 27, 28, 29, 30, 31, 34, 35, 36, 39]
-- FacingDoors$Told.agreesWith (I[I)Z
def fd_c168 : List fd_Ins := [(0, [0, 0, 0]), (3, [3, 0]), (1, [3, 0]), (2, [0, 0]), (27, [8, 2, 0, 18, 0, 350]), (104, [32]), (1, [1, 0]), (2, [0, 0]), (27, [8, 0, 2, 9, 0, 348]), (1, [3, 0]), (30, []), (121, [44, 2, 22, 1, 785]), (107, [20]), (2, [2, 0]), (2, [0, 0]), (27, [8, 0, 2, 9, 0, 348]), (1, [3, 0]), (30, []), (30, []), (100, [21]), (0, [0, 0, 0]), (3, [4, 1]), (1, [4, 1]), (2, [0, 0]), (27, [8, 1, 2, 15, 0, 349]), (1, [3, 0]), (30, []), (101, [30]), (0, [0, 0, 0]), (114, []), (5, [3, 1]), (100, [2]), (0, [1, 0, 0]), (114, [])]
def fd_p168 : List Nat := [0, 1, 2, 3, 4, 7, 10, 11, 12, 15, 16, 17, 20, 23, 24, 25, 28, 29, 30, 31, 34, 35, 37, 39, 40, 43, 44, 45, 48, 49, 50, 53, 56, 57]
-- FacingDoors$TurnSearch.<init> (LFacingDoors$Plan;LFacingDoors$Scene;LFacingDoors$Sights;)V
def fd_c169 : List fd_Ins := [(2, [0, 0]), (42, [3, 306]), (2, [0, 0]), (0, [24, 1, 0]), (38, [20]), (28, [9, 3, 2, 11, 0, 1, 310]), (2, [0, 0]), (0, [24, 1, 0]), (38, [22]), (28, [9, 4, 2, 15, 0, 1, 311]), (2, [0, 0]), (0, [6, 1, 0]), (38, [20]), (28, [9, 5, 2, 19, 0, 1, 312]), (2, [0, 0]), (0, [6, 1, 0]), (38, [20]), (28, [9, 6, 2, 22, 0, 1, 313]), (2, [0, 0]), (0, [0, 0, 0]), (28, [9, 7, 3, 25, 0, 0, 315]), (2, [0, 0]), (0, [0, 0, 0]), (28, [9, 8, 0, 29, 0, 0, 316]), (2, [0, 0]), (0, [0, 0, 0]), (28, [9, 9, 0, 33, 0, 0, 318]), (2, [0, 0]), (2, [1, 0]), (28, [9, 0, 2, 36, 0, 1, 307]), (2, [0, 0]), (2, [2, 0]), (28, [9, 1, 2, 40, 0, 1, 308]), (2, [0, 0]), (2, [3, 0]), (28, [9, 2, 2, 44, 0, 1, 309]), (116, [])]
def fd_p169 : List Nat := [0, 1, 4, 5, 7, 9, 12, 13, 15, 17, 20, 21, 23, 25, 28, 29, 31, 33, 36, 37, 38, 41, 42, 43, 46, 47, 48, 51, 52, 53, 56, 57, 58, 61, 62, 63, 66]
-- FacingDoors$TurnSearch.run ()Z
def fd_c170 : List fd_Ins := [(0, [0, 0, 0]), (3, [1, 0]), (1, [1, 0]), (2, [0, 0]), (27, [9, 0, 2, 36, 0, 307]), (27, [3, 2, 0, 48, 1, 145]), (104, [42]), (0, [0, 0, 0]), (3, [2, 0]), (1, [2, 0]), (0, [4, 0, 0]), (104, [40]), (2, [0, 0]), (27, [9, 3, 2, 11, 0, 310]), (1, [1, 0]), (0, [4, 0, 0]), (8, []), (1, [2, 0]), (6, []), (2, [0, 0]), (27, [9, 2, 2, 44, 0, 309]), (1, [1, 0]), (1, [2, 0]), (120, [152, 3, 53, 1, 710]), (31, []), (2, [0, 0]), (27, [9, 4, 2, 15, 0, 311]), (1, [1, 0]), (0, [4, 0, 0]), (8, []), (1, [2, 0]), (6, []), (2, [0, 0]), (27, [9, 2, 2, 44, 0, 309]), (1, [1, 0]), (1, [2, 0]), (120, [159, 3, 59, 1, 711]), (33, []), (5, [2, 1]), (100, [9]), (5, [1, 1]), (100, [2]), (2, [0, 0]), (0, [0, 0, 0]), (28, [9, 7, 3, 25, 0, 0, 315]), (2, [0, 0]), (0, [0, 0, 0]), (0, [0, 0, 0]), (0, [0, 0, 0]), (120, [171, 4, 63, 0, 712]), (2, [0, 0]), (27, [9, 7, 3, 25, 0, 315]), (114, [])]
def fd_p170 : List Nat := [0, 1, 2, 3, 4, 7, 10, 13, 14, 15, 16, 17, 20, 21, 24, 25, 26, 27, 28, 29, 30, 33, 34, 35, 38, 39, 40, 43, 44, 45, 46, 47, 48, 49, 52, 53, 54, 57, 58, 61, 64, 67, 70, 71, 72, 75, 76, 77, 78, 79, 82, 83, 86]
-- FacingDoors$TurnSearch.choose (III)V
def fd_c171 : List fd_Ins := [(2, [0, 0]), (1, [2, 0]), (1, [3, 0]), (120, [173, 3, 67, 0, 716]), (108, [6]), (116, []), (1, [1, 0]), (2, [0, 0]), (27, [9, 0, 2, 36, 0, 307]), (27, [3, 2, 0, 48, 1, 145]), (104, [20]), (1, [1, 0]), (0, [6, 1, 0]), (104, [20]), (2, [0, 0]), (1, [1, 0]), (1, [2, 0]), (1, [3, 0]), (120, [172, 4, 70, 0, 720]), (116, []), (2, [0, 0]), (0, [1, 0, 0]), (28, [9, 7, 3, 25, 0, 0, 315]), (2, [0, 0]), (1, [2, 0]), (28, [9, 8, 0, 29, 0, 0, 316]), (2, [0, 0]), (1, [3, 0]), (28, [9, 9, 0, 33, 0, 0, 318]), (2, [0, 0]), (27, [9, 5, 2, 19, 0, 312]), (0, [0, 0, 0]), (2, [0, 0]), (27, [9, 6, 2, 22, 0, 313]), (0, [0, 0, 0]), (0, [6, 1, 0]), (40, [73, 735]), (116, [])]
def fd_p171 : List Nat := [0, 1, 2, 3, 6, 9, 10, 11, 12, 15, 18, 21, 22, 24, 27, 28, 29, 30, 31, 34, 35, 36, 37, 40, 41, 42, 45, 46, 47, 50, 51, 54, 55, 56, 59, 60, 62, 65]
-- FacingDoors$TurnSearch.chooseEachWay (III)V
def fd_c172 : List fd_Ins := [(0, [0, 0, 0]), (3, [4, 1]), (1, [4, 1]), (0, [4, 0, 0]), (104, [44]), (2, [0, 0]), (27, [9, 4, 2, 15, 0, 311]), (1, [1, 0]), (0, [4, 0, 0]), (8, []), (1, [4, 1]), (6, []), (32, []), (107, [42]), (2, [0, 0]), (27, [9, 5, 2, 19, 0, 312]), (1, [1, 0]), (1, [4, 1]), (31, []), (2, [0, 0]), (1, [1, 0]), (0, [1, 0, 0]), (6, []), (1, [2, 0]), (2, [0, 0]), (1, [1, 0]), (120, [174, 2, 79, 0, 724]), (6, []), (1, [3, 0]), (1, [4, 1]), (2, [0, 0]), (27, [9, 1, 2, 40, 0, 308]), (27, [5, 2, 2, 83, 1, 236]), (1, [1, 0]), (30, []), (101, [38]), (0, [1, 0, 0]), (100, [39]), (0, [0, 0, 0]), (121, [43, 1, 88, 1, 734]), (6, []), (120, [171, 4, 63, 0, 712]), (5, [4, 1]), (100, [2]), (116, [])]
def fd_p172 : List Nat := [0, 1, 3, 5, 6, 9, 10, 13, 14, 15, 16, 18, 19, 20, 23, 24, 27, 28, 30, 31, 32, 33, 34, 35, 36, 37, 38, 41, 42, 43, 45, 46, 49, 52, 53, 54, 57, 58, 61, 62, 65, 66, 69, 72, 75]
-- FacingDoors$TurnSearch.isBetter (II)Z
def fd_c173 : List fd_Ins := [(2, [0, 0]), (27, [9, 7, 3, 25, 0, 315]), (107, [15]), (1, [1, 0]), (2, [0, 0]), (27, [9, 8, 0, 29, 0, 316]), (103, [15]), (1, [1, 0]), (2, [0, 0]), (27, [9, 8, 0, 29, 0, 316]), (102, [17]), (1, [2, 0]), (2, [0, 0]), (27, [9, 9, 0, 33, 0, 318]), (104, [17]), (0, [1, 0, 0]), (100, [18]), (0, [0, 0, 0]), (114, [])]
def fd_p173 : List Nat := [0, 1, 4, 7, 8, 9, 12, 15, 16, 17, 20, 23, 24, 25, 28, 31, 32, 35, 36]
-- FacingDoors$TurnSearch.dueThatComes (I)I
def fd_c174 : List fd_Ins := [(2, [0, 0]), (27, [9, 3, 2, 11, 0, 310]), (1, [1, 0]), (0, [4, 0, 0]), (8, []), (2, [0, 0]), (27, [9, 5, 2, 19, 0, 312]), (1, [1, 0]), (30, []), (6, []), (30, []), (3, [2, 0]), (1, [2, 0]), (0, [-1, 0, 0]), (102, [17]), (0, [0, 0, 0]), (114, []), (2, [0, 0]), (1, [1, 0]), (120, [175, 2, 92, 0, 728]), (3, [3, 0]), (1, [2, 0]), (1, [1, 0]), (104, [44]), (2, [0, 0]), (27, [9, 5, 2, 19, 0, 312]), (1, [2, 0]), (30, []), (2, [0, 0]), (27, [9, 5, 2, 19, 0, 312]), (1, [1, 0]), (30, []), (121, [48, 1, 95, 1, 733]), (102, [44]), (1, [3, 0]), (2, [0, 0]), (1, [1, 0]), (120, [175, 2, 92, 0, 728]), (2, [0, 0]), (1, [2, 0]), (120, [175, 2, 92, 0, 728]), (6, []), (6, []), (3, [3, 0]), (1, [3, 0]), (114, [])]
def fd_p174 : List Nat := [0, 1, 4, 5, 6, 7, 8, 11, 12, 13, 14, 15, 16, 17, 18, 21, 22, 23, 24, 25, 28, 29, 30, 31, 34, 35, 38, 39, 40, 41, 44, 45, 46, 49, 52, 53, 54, 55, 58, 59, 60, 63, 64, 65, 66, 67]
-- FacingDoors$TurnSearch.priceFor (I)I
def fd_c175 : List fd_Ins := [(2, [0, 0]), (27, [9, 1, 2, 40, 0, 308]), (1, [1, 0]), (120, [144, 2, 98, 1, 732]), (107, [13]), (2, [0, 0]), (27, [9, 1, 2, 40, 0, 308]), (27, [5, 7, 3, 102, 1, 250]), (108, [13]), (2, [0, 0]), (27, [9, 0, 2, 36, 0, 307]), (27, [3, 3, 0, 105, 1, 151]), (100, [14]), (0, [0, 0, 0]), (114, [])]
def fd_p175 : List Nat := [0, 1, 4, 5, 8, 11, 12, 15, 18, 21, 22, 25, 28, 31, 32]
-- java/lang/Integer.bitCount (I)I
def fd_c176 : List fd_Ins := [(1, [0, 0]), (1, [0, 0]), (0, [1, 0, 0]), (16, []), (0, [1431655765, 4, 265, 829]), (11, []), (7, []), (3, [0, 0]), (1, [0, 0]), (0, [858993459, 4, 266, 830]), (11, []), (1, [0, 0]), (0, [2, 0, 0]), (16, []), (0, [858993459, 4, 266, 830]), (11, []), (6, []), (3, [0, 0]), (1, [0, 0]), (1, [0, 0]), (0, [4, 0, 0]), (16, []), (6, []), (0, [252645135, 4, 267, 831]), (11, []), (3, [0, 0]), (1, [0, 0]), (1, [0, 0]), (0, [8, 1, 0]), (16, []), (6, []), (3, [0, 0]), (1, [0, 0]), (1, [0, 0]), (0, [16, 1, 0]), (16, []), (6, []), (3, [0, 0]), (1, [0, 0]), (0, [63, 1, 0]), (11, []), (114, [])]
def fd_p176 : List Nat := [0, 1, 2, 3, 4, 7, 8, 9, 10, 11, 14, 15, 16, 17, 18, 21, 22, 23, 24, 25, 26, 27, 28, 29, 32, 33, 34, 35, 36, 38, 39, 40, 41, 42, 43, 45, 46, 47, 48, 49, 51, 52]
def fd_code (m : Nat) : List fd_Ins := (bif Nat.ble 89 m then (bif Nat.ble 133 m then (bif Nat.ble 155 m then (bif Nat.ble 166 m then (bif Nat.ble 172 m then (bif Nat.ble 175 m then (bif Nat.ble 176 m then (bif Nat.ble 177 m then [] else fd_c176) else fd_c175) else (bif Nat.ble 173 m then (bif Nat.ble 174 m then fd_c174 else fd_c173) else fd_c172)) else (bif Nat.ble 169 m then (bif Nat.ble 170 m then (bif Nat.ble 171 m then fd_c171 else fd_c170) else fd_c169) else (bif Nat.ble 167 m then (bif Nat.ble 168 m then fd_c168 else fd_c167) else fd_c166))) else (bif Nat.ble 160 m then (bif Nat.ble 163 m then (bif Nat.ble 164 m then (bif Nat.ble 165 m then fd_c165 else fd_c164) else fd_c163) else (bif Nat.ble 161 m then (bif Nat.ble 162 m then fd_c162 else fd_c161) else fd_c160)) else (bif Nat.ble 157 m then (bif Nat.ble 158 m then (bif Nat.ble 159 m then fd_c159 else fd_c158) else fd_c157) else (bif Nat.ble 156 m then fd_c156 else fd_c155)))) else (bif Nat.ble 144 m then (bif Nat.ble 149 m then (bif Nat.ble 152 m then (bif Nat.ble 153 m then (bif Nat.ble 154 m then fd_c154 else fd_c153) else fd_c152) else (bif Nat.ble 150 m then (bif Nat.ble 151 m then fd_c151 else fd_c150) else fd_c149)) else (bif Nat.ble 146 m then (bif Nat.ble 147 m then (bif Nat.ble 148 m then fd_c148 else fd_c147) else fd_c146) else (bif Nat.ble 145 m then fd_c145 else fd_c144))) else (bif Nat.ble 138 m then (bif Nat.ble 141 m then (bif Nat.ble 142 m then (bif Nat.ble 143 m then fd_c143 else fd_c142) else fd_c141) else (bif Nat.ble 139 m then (bif Nat.ble 140 m then fd_c140 else fd_c139) else fd_c138)) else (bif Nat.ble 135 m then (bif Nat.ble 136 m then (bif Nat.ble 137 m then fd_c137 else fd_c136) else fd_c135) else (bif Nat.ble 134 m then fd_c134 else fd_c133))))) else (bif Nat.ble 111 m then (bif Nat.ble 122 m then (bif Nat.ble 127 m then (bif Nat.ble 130 m then (bif Nat.ble 131 m then (bif Nat.ble 132 m then fd_c132 else fd_c131) else fd_c130) else (bif Nat.ble 128 m then (bif Nat.ble 129 m then fd_c129 else fd_c128) else fd_c127)) else (bif Nat.ble 124 m then (bif Nat.ble 125 m then (bif Nat.ble 126 m then fd_c126 else fd_c125) else fd_c124) else (bif Nat.ble 123 m then fd_c123 else fd_c122))) else (bif Nat.ble 116 m then (bif Nat.ble 119 m then (bif Nat.ble 120 m then (bif Nat.ble 121 m then fd_c121 else fd_c120) else fd_c119) else (bif Nat.ble 117 m then (bif Nat.ble 118 m then fd_c118 else fd_c117) else fd_c116)) else (bif Nat.ble 113 m then (bif Nat.ble 114 m then (bif Nat.ble 115 m then fd_c115 else fd_c114) else fd_c113) else (bif Nat.ble 112 m then fd_c112 else fd_c111)))) else (bif Nat.ble 100 m then (bif Nat.ble 105 m then (bif Nat.ble 108 m then (bif Nat.ble 109 m then (bif Nat.ble 110 m then fd_c110 else fd_c109) else fd_c108) else (bif Nat.ble 106 m then (bif Nat.ble 107 m then fd_c107 else fd_c106) else fd_c105)) else (bif Nat.ble 102 m then (bif Nat.ble 103 m then (bif Nat.ble 104 m then fd_c104 else fd_c103) else fd_c102) else (bif Nat.ble 101 m then fd_c101 else fd_c100))) else (bif Nat.ble 94 m then (bif Nat.ble 97 m then (bif Nat.ble 98 m then (bif Nat.ble 99 m then fd_c99 else fd_c98) else fd_c97) else (bif Nat.ble 95 m then (bif Nat.ble 96 m then fd_c96 else fd_c95) else fd_c94)) else (bif Nat.ble 91 m then (bif Nat.ble 92 m then (bif Nat.ble 93 m then fd_c93 else fd_c92) else fd_c91) else (bif Nat.ble 90 m then fd_c90 else fd_c89)))))) else (bif Nat.ble 44 m then (bif Nat.ble 66 m then (bif Nat.ble 77 m then (bif Nat.ble 83 m then (bif Nat.ble 86 m then (bif Nat.ble 87 m then (bif Nat.ble 88 m then fd_c88 else fd_c87) else fd_c86) else (bif Nat.ble 84 m then (bif Nat.ble 85 m then fd_c85 else fd_c84) else fd_c83)) else (bif Nat.ble 80 m then (bif Nat.ble 81 m then (bif Nat.ble 82 m then fd_c82 else fd_c81) else fd_c80) else (bif Nat.ble 78 m then (bif Nat.ble 79 m then fd_c79 else fd_c78) else fd_c77))) else (bif Nat.ble 71 m then (bif Nat.ble 74 m then (bif Nat.ble 75 m then (bif Nat.ble 76 m then fd_c76 else fd_c75) else fd_c74) else (bif Nat.ble 72 m then (bif Nat.ble 73 m then fd_c73 else fd_c72) else fd_c71)) else (bif Nat.ble 68 m then (bif Nat.ble 69 m then (bif Nat.ble 70 m then fd_c70 else fd_c69) else fd_c68) else (bif Nat.ble 67 m then fd_c67 else fd_c66)))) else (bif Nat.ble 55 m then (bif Nat.ble 60 m then (bif Nat.ble 63 m then (bif Nat.ble 64 m then (bif Nat.ble 65 m then fd_c65 else fd_c64) else fd_c63) else (bif Nat.ble 61 m then (bif Nat.ble 62 m then fd_c62 else fd_c61) else fd_c60)) else (bif Nat.ble 57 m then (bif Nat.ble 58 m then (bif Nat.ble 59 m then fd_c59 else fd_c58) else fd_c57) else (bif Nat.ble 56 m then fd_c56 else fd_c55))) else (bif Nat.ble 49 m then (bif Nat.ble 52 m then (bif Nat.ble 53 m then (bif Nat.ble 54 m then fd_c54 else fd_c53) else fd_c52) else (bif Nat.ble 50 m then (bif Nat.ble 51 m then fd_c51 else fd_c50) else fd_c49)) else (bif Nat.ble 46 m then (bif Nat.ble 47 m then (bif Nat.ble 48 m then fd_c48 else fd_c47) else fd_c46) else (bif Nat.ble 45 m then fd_c45 else fd_c44))))) else (bif Nat.ble 22 m then (bif Nat.ble 33 m then (bif Nat.ble 38 m then (bif Nat.ble 41 m then (bif Nat.ble 42 m then (bif Nat.ble 43 m then fd_c43 else fd_c42) else fd_c41) else (bif Nat.ble 39 m then (bif Nat.ble 40 m then fd_c40 else fd_c39) else fd_c38)) else (bif Nat.ble 35 m then (bif Nat.ble 36 m then (bif Nat.ble 37 m then fd_c37 else fd_c36) else fd_c35) else (bif Nat.ble 34 m then fd_c34 else fd_c33))) else (bif Nat.ble 27 m then (bif Nat.ble 30 m then (bif Nat.ble 31 m then (bif Nat.ble 32 m then fd_c32 else fd_c31) else fd_c30) else (bif Nat.ble 28 m then (bif Nat.ble 29 m then fd_c29 else fd_c28) else fd_c27)) else (bif Nat.ble 24 m then (bif Nat.ble 25 m then (bif Nat.ble 26 m then fd_c26 else fd_c25) else fd_c24) else (bif Nat.ble 23 m then fd_c23 else fd_c22)))) else (bif Nat.ble 11 m then (bif Nat.ble 16 m then (bif Nat.ble 19 m then (bif Nat.ble 20 m then (bif Nat.ble 21 m then fd_c21 else fd_c20) else fd_c19) else (bif Nat.ble 17 m then (bif Nat.ble 18 m then fd_c18 else fd_c17) else fd_c16)) else (bif Nat.ble 13 m then (bif Nat.ble 14 m then (bif Nat.ble 15 m then fd_c15 else fd_c14) else fd_c13) else (bif Nat.ble 12 m then fd_c12 else fd_c11))) else (bif Nat.ble 5 m then (bif Nat.ble 8 m then (bif Nat.ble 9 m then (bif Nat.ble 10 m then fd_c10 else fd_c9) else fd_c8) else (bif Nat.ble 6 m then (bif Nat.ble 7 m then fd_c7 else fd_c6) else fd_c5)) else (bif Nat.ble 2 m then (bif Nat.ble 3 m then (bif Nat.ble 4 m then fd_c4 else fd_c3) else fd_c2) else (bif Nat.ble 1 m then fd_c1 else fd_c0)))))))
def fd_pcs (m : Nat) : List Nat := (bif Nat.ble 89 m then (bif Nat.ble 133 m then (bif Nat.ble 155 m then (bif Nat.ble 166 m then (bif Nat.ble 172 m then (bif Nat.ble 175 m then (bif Nat.ble 176 m then (bif Nat.ble 177 m then [] else fd_p176) else fd_p175) else (bif Nat.ble 173 m then (bif Nat.ble 174 m then fd_p174 else fd_p173) else fd_p172)) else (bif Nat.ble 169 m then (bif Nat.ble 170 m then (bif Nat.ble 171 m then fd_p171 else fd_p170) else fd_p169) else (bif Nat.ble 167 m then (bif Nat.ble 168 m then fd_p168 else fd_p167) else fd_p166))) else (bif Nat.ble 160 m then (bif Nat.ble 163 m then (bif Nat.ble 164 m then (bif Nat.ble 165 m then fd_p165 else fd_p164) else fd_p163) else (bif Nat.ble 161 m then (bif Nat.ble 162 m then fd_p162 else fd_p161) else fd_p160)) else (bif Nat.ble 157 m then (bif Nat.ble 158 m then (bif Nat.ble 159 m then fd_p159 else fd_p158) else fd_p157) else (bif Nat.ble 156 m then fd_p156 else fd_p155)))) else (bif Nat.ble 144 m then (bif Nat.ble 149 m then (bif Nat.ble 152 m then (bif Nat.ble 153 m then (bif Nat.ble 154 m then fd_p154 else fd_p153) else fd_p152) else (bif Nat.ble 150 m then (bif Nat.ble 151 m then fd_p151 else fd_p150) else fd_p149)) else (bif Nat.ble 146 m then (bif Nat.ble 147 m then (bif Nat.ble 148 m then fd_p148 else fd_p147) else fd_p146) else (bif Nat.ble 145 m then fd_p145 else fd_p144))) else (bif Nat.ble 138 m then (bif Nat.ble 141 m then (bif Nat.ble 142 m then (bif Nat.ble 143 m then fd_p143 else fd_p142) else fd_p141) else (bif Nat.ble 139 m then (bif Nat.ble 140 m then fd_p140 else fd_p139) else fd_p138)) else (bif Nat.ble 135 m then (bif Nat.ble 136 m then (bif Nat.ble 137 m then fd_p137 else fd_p136) else fd_p135) else (bif Nat.ble 134 m then fd_p134 else fd_p133))))) else (bif Nat.ble 111 m then (bif Nat.ble 122 m then (bif Nat.ble 127 m then (bif Nat.ble 130 m then (bif Nat.ble 131 m then (bif Nat.ble 132 m then fd_p132 else fd_p131) else fd_p130) else (bif Nat.ble 128 m then (bif Nat.ble 129 m then fd_p129 else fd_p128) else fd_p127)) else (bif Nat.ble 124 m then (bif Nat.ble 125 m then (bif Nat.ble 126 m then fd_p126 else fd_p125) else fd_p124) else (bif Nat.ble 123 m then fd_p123 else fd_p122))) else (bif Nat.ble 116 m then (bif Nat.ble 119 m then (bif Nat.ble 120 m then (bif Nat.ble 121 m then fd_p121 else fd_p120) else fd_p119) else (bif Nat.ble 117 m then (bif Nat.ble 118 m then fd_p118 else fd_p117) else fd_p116)) else (bif Nat.ble 113 m then (bif Nat.ble 114 m then (bif Nat.ble 115 m then fd_p115 else fd_p114) else fd_p113) else (bif Nat.ble 112 m then fd_p112 else fd_p111)))) else (bif Nat.ble 100 m then (bif Nat.ble 105 m then (bif Nat.ble 108 m then (bif Nat.ble 109 m then (bif Nat.ble 110 m then fd_p110 else fd_p109) else fd_p108) else (bif Nat.ble 106 m then (bif Nat.ble 107 m then fd_p107 else fd_p106) else fd_p105)) else (bif Nat.ble 102 m then (bif Nat.ble 103 m then (bif Nat.ble 104 m then fd_p104 else fd_p103) else fd_p102) else (bif Nat.ble 101 m then fd_p101 else fd_p100))) else (bif Nat.ble 94 m then (bif Nat.ble 97 m then (bif Nat.ble 98 m then (bif Nat.ble 99 m then fd_p99 else fd_p98) else fd_p97) else (bif Nat.ble 95 m then (bif Nat.ble 96 m then fd_p96 else fd_p95) else fd_p94)) else (bif Nat.ble 91 m then (bif Nat.ble 92 m then (bif Nat.ble 93 m then fd_p93 else fd_p92) else fd_p91) else (bif Nat.ble 90 m then fd_p90 else fd_p89)))))) else (bif Nat.ble 44 m then (bif Nat.ble 66 m then (bif Nat.ble 77 m then (bif Nat.ble 83 m then (bif Nat.ble 86 m then (bif Nat.ble 87 m then (bif Nat.ble 88 m then fd_p88 else fd_p87) else fd_p86) else (bif Nat.ble 84 m then (bif Nat.ble 85 m then fd_p85 else fd_p84) else fd_p83)) else (bif Nat.ble 80 m then (bif Nat.ble 81 m then (bif Nat.ble 82 m then fd_p82 else fd_p81) else fd_p80) else (bif Nat.ble 78 m then (bif Nat.ble 79 m then fd_p79 else fd_p78) else fd_p77))) else (bif Nat.ble 71 m then (bif Nat.ble 74 m then (bif Nat.ble 75 m then (bif Nat.ble 76 m then fd_p76 else fd_p75) else fd_p74) else (bif Nat.ble 72 m then (bif Nat.ble 73 m then fd_p73 else fd_p72) else fd_p71)) else (bif Nat.ble 68 m then (bif Nat.ble 69 m then (bif Nat.ble 70 m then fd_p70 else fd_p69) else fd_p68) else (bif Nat.ble 67 m then fd_p67 else fd_p66)))) else (bif Nat.ble 55 m then (bif Nat.ble 60 m then (bif Nat.ble 63 m then (bif Nat.ble 64 m then (bif Nat.ble 65 m then fd_p65 else fd_p64) else fd_p63) else (bif Nat.ble 61 m then (bif Nat.ble 62 m then fd_p62 else fd_p61) else fd_p60)) else (bif Nat.ble 57 m then (bif Nat.ble 58 m then (bif Nat.ble 59 m then fd_p59 else fd_p58) else fd_p57) else (bif Nat.ble 56 m then fd_p56 else fd_p55))) else (bif Nat.ble 49 m then (bif Nat.ble 52 m then (bif Nat.ble 53 m then (bif Nat.ble 54 m then fd_p54 else fd_p53) else fd_p52) else (bif Nat.ble 50 m then (bif Nat.ble 51 m then fd_p51 else fd_p50) else fd_p49)) else (bif Nat.ble 46 m then (bif Nat.ble 47 m then (bif Nat.ble 48 m then fd_p48 else fd_p47) else fd_p46) else (bif Nat.ble 45 m then fd_p45 else fd_p44))))) else (bif Nat.ble 22 m then (bif Nat.ble 33 m then (bif Nat.ble 38 m then (bif Nat.ble 41 m then (bif Nat.ble 42 m then (bif Nat.ble 43 m then fd_p43 else fd_p42) else fd_p41) else (bif Nat.ble 39 m then (bif Nat.ble 40 m then fd_p40 else fd_p39) else fd_p38)) else (bif Nat.ble 35 m then (bif Nat.ble 36 m then (bif Nat.ble 37 m then fd_p37 else fd_p36) else fd_p35) else (bif Nat.ble 34 m then fd_p34 else fd_p33))) else (bif Nat.ble 27 m then (bif Nat.ble 30 m then (bif Nat.ble 31 m then (bif Nat.ble 32 m then fd_p32 else fd_p31) else fd_p30) else (bif Nat.ble 28 m then (bif Nat.ble 29 m then fd_p29 else fd_p28) else fd_p27)) else (bif Nat.ble 24 m then (bif Nat.ble 25 m then (bif Nat.ble 26 m then fd_p26 else fd_p25) else fd_p24) else (bif Nat.ble 23 m then fd_p23 else fd_p22)))) else (bif Nat.ble 11 m then (bif Nat.ble 16 m then (bif Nat.ble 19 m then (bif Nat.ble 20 m then (bif Nat.ble 21 m then fd_p21 else fd_p20) else fd_p19) else (bif Nat.ble 17 m then (bif Nat.ble 18 m then fd_p18 else fd_p17) else fd_p16)) else (bif Nat.ble 13 m then (bif Nat.ble 14 m then (bif Nat.ble 15 m then fd_p15 else fd_p14) else fd_p13) else (bif Nat.ble 12 m then fd_p12 else fd_p11))) else (bif Nat.ble 5 m then (bif Nat.ble 8 m then (bif Nat.ble 9 m then (bif Nat.ble 10 m then fd_p10 else fd_p9) else fd_p8) else (bif Nat.ble 6 m then (bif Nat.ble 7 m then fd_p7 else fd_p6) else fd_p5)) else (bif Nat.ble 2 m then (bif Nat.ble 3 m then (bif Nat.ble 4 m then fd_p4 else fd_p3) else fd_p2) else (bif Nat.ble 1 m then fd_p1 else fd_p0)))))))
def fd_mL (m : Nat) : Nat := (bif Nat.ble 94 m then (bif Nat.ble 137 m then (bif Nat.ble 158 m then (bif Nat.ble 169 m then (bif Nat.ble 173 m then (bif Nat.ble 175 m then (bif Nat.ble 176 m then (bif Nat.ble 177 m then 0 else 1) else 2) else (bif Nat.ble 174 m then 4 else 3)) else (bif Nat.ble 171 m then (bif Nat.ble 172 m then 5 else 4) else (bif Nat.ble 170 m then 3 else 4))) else (bif Nat.ble 164 m then (bif Nat.ble 167 m then (bif Nat.ble 168 m then 5 else 3) else (bif Nat.ble 166 m then 1 else 2)) else (bif Nat.ble 161 m then (bif Nat.ble 163 m then 1 else 4) else (bif Nat.ble 159 m then 3 else 4)))) else (bif Nat.ble 148 m then (bif Nat.ble 153 m then (bif Nat.ble 156 m then (bif Nat.ble 157 m then 3 else 2) else (bif Nat.ble 154 m then 4 else 2)) else (bif Nat.ble 151 m then (bif Nat.ble 152 m then 7 else 4) else (bif Nat.ble 149 m then 3 else 4))) else (bif Nat.ble 143 m then (bif Nat.ble 146 m then (bif Nat.ble 147 m then 5 else 4) else (bif Nat.ble 145 m then 3 else 2)) else (bif Nat.ble 140 m then (bif Nat.ble 142 m then 3 else 1) else (bif Nat.ble 139 m then 3 else 1))))) else (bif Nat.ble 114 m then (bif Nat.ble 124 m then (bif Nat.ble 128 m then (bif Nat.ble 134 m then (bif Nat.ble 135 m then (bif Nat.ble 136 m then 3 else 1) else 3) else (bif Nat.ble 131 m then 1 else 2)) else (bif Nat.ble 126 m then (bif Nat.ble 127 m then 3 else 4) else (bif Nat.ble 125 m then 3 else 2))) else (bif Nat.ble 118 m then (bif Nat.ble 122 m then (bif Nat.ble 123 m then 3 else 2) else (bif Nat.ble 120 m then 1 else 3)) else (bif Nat.ble 116 m then (bif Nat.ble 117 m then 1 else 3) else (bif Nat.ble 115 m then 2 else 3)))) else (bif Nat.ble 103 m then (bif Nat.ble 108 m then (bif Nat.ble 111 m then (bif Nat.ble 112 m then 2 else 1) else (bif Nat.ble 110 m then 2 else 3)) else (bif Nat.ble 106 m then (bif Nat.ble 107 m then 6 else 3) else (bif Nat.ble 105 m then 4 else 7))) else (bif Nat.ble 99 m then (bif Nat.ble 101 m then (bif Nat.ble 102 m then 8 else 2) else (bif Nat.ble 100 m then 3 else 9)) else (bif Nat.ble 97 m then (bif Nat.ble 98 m then 6 else 7) else (bif Nat.ble 96 m then 3 else 5)))))) else (bif Nat.ble 51 m then (bif Nat.ble 73 m then (bif Nat.ble 83 m then (bif Nat.ble 88 m then (bif Nat.ble 91 m then (bif Nat.ble 92 m then (bif Nat.ble 93 m then 3 else 2) else 3) else (bif Nat.ble 89 m then 2 else 3)) else (bif Nat.ble 85 m then (bif Nat.ble 87 m then 4 else 3) else (bif Nat.ble 84 m then 5 else 4))) else (bif Nat.ble 79 m then (bif Nat.ble 81 m then (bif Nat.ble 82 m then 1 else 2) else (bif Nat.ble 80 m then 3 else 4)) else (bif Nat.ble 76 m then (bif Nat.ble 78 m then 2 else 3) else (bif Nat.ble 75 m then 6 else 1)))) else (bif Nat.ble 62 m then (bif Nat.ble 67 m then (bif Nat.ble 71 m then (bif Nat.ble 72 m then 2 else 3) else (bif Nat.ble 69 m then 4 else 3)) else (bif Nat.ble 65 m then (bif Nat.ble 66 m then 2 else 3) else (bif Nat.ble 63 m then 2 else 5))) else (bif Nat.ble 56 m then (bif Nat.ble 60 m then (bif Nat.ble 61 m then 4 else 1) else (bif Nat.ble 57 m then 3 else 2)) else (bif Nat.ble 53 m then (bif Nat.ble 55 m then 1 else 2) else (bif Nat.ble 52 m then 3 else 1))))) else (bif Nat.ble 21 m then (bif Nat.ble 36 m then (bif Nat.ble 45 m then (bif Nat.ble 48 m then (bif Nat.ble 49 m then (bif Nat.ble 50 m then 6 else 5) else 1) else (bif Nat.ble 46 m then 2 else 1)) else (bif Nat.ble 38 m then (bif Nat.ble 44 m then 2 else 1) else (bif Nat.ble 37 m then 5 else 4))) else (bif Nat.ble 27 m then (bif Nat.ble 34 m then (bif Nat.ble 35 m then 2 else 8) else (bif Nat.ble 28 m then 2 else 1)) else (bif Nat.ble 23 m then (bif Nat.ble 24 m then 2 else 3) else (bif Nat.ble 22 m then 4 else 8)))) else (bif Nat.ble 10 m then (bif Nat.ble 16 m then (bif Nat.ble 19 m then (bif Nat.ble 20 m then 7 else 2) else (bif Nat.ble 18 m then 3 else 6)) else (bif Nat.ble 13 m then (bif Nat.ble 14 m then 2 else 1) else (bif Nat.ble 12 m then 4 else 2))) else (bif Nat.ble 6 m then (bif Nat.ble 8 m then (bif Nat.ble 9 m then 5 else 3) else (bif Nat.ble 7 m then 5 else 4)) else (bif Nat.ble 4 m then (bif Nat.ble 5 m then 3 else 4) else (bif Nat.ble 3 m then 3 else 2)))))))
def fd_rk (m : Nat) : Nat := (bif Nat.ble 94 m then (bif Nat.ble 149 m then (bif Nat.ble 166 m then (bif Nat.ble 171 m then (bif Nat.ble 174 m then (bif Nat.ble 177 m then 0 else 1) else (bif Nat.ble 173 m then 2 else 0)) else (bif Nat.ble 169 m then (bif Nat.ble 170 m then 2 else 0) else (bif Nat.ble 168 m then 2 else 0))) else (bif Nat.ble 160 m then (bif Nat.ble 163 m then (bif Nat.ble 165 m then 1 else 0) else (bif Nat.ble 161 m then 2 else 1)) else (bif Nat.ble 152 m then (bif Nat.ble 159 m then 2 else 1) else (bif Nat.ble 150 m then 2 else 0)))) else (bif Nat.ble 128 m then (bif Nat.ble 136 m then (bif Nat.ble 144 m then (bif Nat.ble 147 m then 1 else 2) else (bif Nat.ble 141 m then 0 else 2)) else (bif Nat.ble 131 m then (bif Nat.ble 135 m then 1 else 2) else (bif Nat.ble 129 m then 0 else 1))) else (bif Nat.ble 123 m then (bif Nat.ble 126 m then (bif Nat.ble 127 m then 0 else 2) else (bif Nat.ble 125 m then 1 else 2)) else (bif Nat.ble 111 m then (bif Nat.ble 112 m then 0 else 3) else 1)))) else (bif Nat.ble 56 m then (bif Nat.ble 69 m then (bif Nat.ble 79 m then (bif Nat.ble 82 m then (bif Nat.ble 93 m then 2 else 1) else (bif Nat.ble 81 m then 0 else 1)) else (bif Nat.ble 73 m then (bif Nat.ble 78 m then 2 else 1) else (bif Nat.ble 72 m then 0 else 1))) else (bif Nat.ble 61 m then (bif Nat.ble 65 m then (bif Nat.ble 66 m then 2 else 1) else (bif Nat.ble 62 m then 0 else 2)) else (bif Nat.ble 59 m then (bif Nat.ble 60 m then 1 else 2) else (bif Nat.ble 57 m then 1 else 0)))) else (bif Nat.ble 43 m then (bif Nat.ble 48 m then (bif Nat.ble 52 m then (bif Nat.ble 53 m then 1 else 2) else (bif Nat.ble 51 m then 0 else 1)) else (bif Nat.ble 45 m then (bif Nat.ble 47 m then 3 else 1) else (bif Nat.ble 44 m then 2 else 1))) else (bif Nat.ble 28 m then (bif Nat.ble 36 m then (bif Nat.ble 38 m then 2 else 1) else (bif Nat.ble 34 m then 0 else 1)) else (bif Nat.ble 1 m then (bif Nat.ble 27 m then 3 else 1) else 0)))))
def fd_mc (m : Nat) : Nat := (bif Nat.ble 141 m then (bif Nat.ble 166 m then (bif Nat.ble 176 m then (bif Nat.ble 177 m then 60 else 50) else (bif Nat.ble 169 m then 9 else 8)) else (bif Nat.ble 149 m then (bif Nat.ble 163 m then 7 else 6) else 5)) else (bif Nat.ble 117 m then (bif Nat.ble 120 m then (bif Nat.ble 127 m then 4 else 3) else 2) else (bif Nat.ble 51 m then (bif Nat.ble 112 m then 1 else 10) else 0)))
def fd_mw : List (Nat × Nat × Nat × Nat) := [(112, 111, 0, 93), (422, 420, 421, 93), (430, 428, 429, 93), (434, 432, 433, 93), (530, 528, 529, 93), (552, 550, 551, 93), (617, 615, 616, 93), (637, 635, 636, 93), (644, 642, 643, 93), (651, 649, 650, 93), (662, 660, 661, 93), (671, 669, 670, 93), (675, 673, 674, 93), (680, 678, 679, 93), (688, 686, 687, 93), (705, 703, 704, 93), (739, 737, 738, 93), (748, 746, 747, 93), (760, 758, 759, 93), (771, 769, 770, 93), (775, 773, 774, 93), (789, 787, 788, 93), (811, 809, 810, 93), (815, 813, 814, 93), (855, 853, 854, 93), (871, 869, 870, 93), (879, 877, 878, 93), (883, 881, 882, 93), (820, 819, 55, 93), (824, 823, 56, 93), (835, 834, 57, 93), (840, 839, 58, 93), (845, 844, 59, 93), (850, 849, 60, 93), (743, 742, 47, 93), (779, 778, 51, 93), (796, 795, 53, 93), (801, 800, 54, 93), (620, 619, 0, 93), (647, 646, 0, 93), (792, 791, 0, 93), (763, 762, 0, 93), (858, 857, 0, 93), (566, 565, 0, 93), (563, 562, 0, 93), (526, 525, 0, 93), (487, 486, 0, 93), (546, 545, 0, 93), (599, 598, 0, 93), (804, 803, 0, 93), (807, 806, 0, 93), (888, 887, 0, 103), (978, 977, 0, 103), (975, 973, 974, 103), (982, 980, 981, 103), (994, 993, 67, 103), (990, 989, 66, 103), (1002, 1001, 69, 103), (1010, 1009, 71, 103), (998, 997, 68, 103), (1013, 1012, 0, 103), (1017, 1016, 72, 103), (1006, 1005, 70, 103), (893, 892, 64, 103), (897, 896, 65, 103), (986, 984, 985, 103), (1041, 1040, 76, 103), (1025, 1024, 73, 103), (1033, 1032, 75, 103), (1029, 1028, 74, 103), (1021, 1019, 1020, 103), (1095, 1094, 0, 103), (1045, 1044, 77, 103), (1052, 1051, 0, 103), (1055, 1054, 0, 103), (1049, 1048, 78, 103), (1060, 1059, 79, 103), (1111, 1110, 86, 103), (1064, 1063, 80, 103), (1068, 1067, 81, 103), (1037, 1035, 1036, 103), (1076, 1075, 82, 103), (1107, 1106, 85, 103), (1072, 1070, 1071, 103), (1080, 1078, 1079, 103), (1084, 1082, 1083, 103), (1092, 1091, 83, 103), (1088, 1086, 1087, 103), (1103, 1102, 84, 103), (1099, 1097, 1098, 103), (1115, 1113, 1114, 103), (1119, 1117, 1118, 103), (1123, 1121, 1122, 103), (1143, 1142, 89, 103), (1127, 1125, 1126, 103), (1139, 1138, 88, 103), (1135, 1134, 87, 103), (1131, 1129, 1130, 103), (1147, 1145, 1146, 103), (1151, 1149, 1150, 103), (1155, 1153, 1154, 103), (1159, 1157, 1158, 103), (1163, 1161, 1162, 103), (1171, 1170, 90, 103), (1175, 1174, 91, 103), (1167, 1165, 1166, 103), (1179, 1177, 1178, 103), (1183, 1181, 1182, 103), (1193, 1191, 1192, 103), (1197, 1195, 1196, 103), (1201, 1199, 1200, 103), (1205, 1203, 1204, 103), (273, 272, 0, 98), (624, 623, 33, 98), (628, 627, 34, 98), (684, 683, 37, 98), (867, 866, 62, 98), (362, 361, 0, 102), (862, 861, 61, 102), (875, 874, 63, 102), (136, 135, 0, 95), (442, 441, 2, 95), (516, 515, 18, 95), (499, 498, 14, 95), (556, 555, 23, 95), (503, 502, 15, 95), (495, 494, 13, 95), (193, 192, 0, 96), (438, 437, 1, 96), (446, 445, 3, 96), (457, 456, 5, 96), (453, 452, 0, 96), (464, 463, 6, 96), (468, 467, 7, 96), (480, 479, 10, 96), (484, 483, 11, 96), (491, 490, 12, 96), (508, 507, 16, 96), (512, 511, 17, 96), (472, 471, 8, 96), (476, 475, 9, 96), (227, 226, 0, 97), (523, 522, 19, 97), (632, 631, 35, 97), (560, 559, 24, 97), (543, 542, 22, 97), (539, 538, 21, 97), (535, 534, 20, 97), (701, 700, 40, 97), (292, 291, 0, 99), (607, 606, 31, 99), (585, 584, 27, 99), (575, 574, 26, 99), (570, 569, 25, 99), (611, 610, 32, 99), (596, 595, 29, 99), (592, 591, 28, 99), (666, 665, 36, 99), (697, 696, 39, 99), (603, 602, 30, 99), (692, 691, 38, 99), (752, 751, 48, 99), (756, 755, 49, 99), (120, 119, 0, 94), (426, 425, 0, 94), (450, 449, 4, 94), (346, 345, 0, 101), (767, 766, 50, 101), (784, 783, 52, 101), (305, 304, 0, 100), (709, 708, 41, 100), (715, 714, 42, 100), (723, 722, 44, 100), (719, 718, 43, 100), (727, 726, 45, 100), (731, 730, 46, 100), (828, 827, 0, 107)]
def fd_sk (m : Nat) : Nat := (bif Nat.ble 121 m then (bif Nat.ble 150 m then (bif Nat.ble 167 m then (bif Nat.ble 170 m then (bif Nat.ble 176 m then (bif Nat.ble 177 m then 9 else 0) else 1) else (bif Nat.ble 169 m then 2 else 1)) else (bif Nat.ble 164 m then (bif Nat.ble 166 m then 2 else 1) else (bif Nat.ble 163 m then 2 else 1))) else (bif Nat.ble 132 m then (bif Nat.ble 142 m then (bif Nat.ble 149 m then 2 else 1) else (bif Nat.ble 141 m then 2 else 1)) else (bif Nat.ble 128 m then (bif Nat.ble 131 m then 0 else 1) else (bif Nat.ble 127 m then 2 else 1)))) else (bif Nat.ble 71 m then (bif Nat.ble 112 m then (bif Nat.ble 117 m then (bif Nat.ble 118 m then (bif Nat.ble 120 m then 2 else 1) else 2) else (bif Nat.ble 113 m then 1 else 2)) else (bif Nat.ble 73 m then (bif Nat.ble 75 m then 1 else 0) else (bif Nat.ble 72 m then 1 else 0))) else (bif Nat.ble 52 m then (bif Nat.ble 60 m then (bif Nat.ble 61 m then 1 else 0) else (bif Nat.ble 53 m then 1 else 0)) else (bif Nat.ble 38 m then (bif Nat.ble 51 m then 2 else 0) else (bif Nat.ble 1 m then 1 else 2)))))
def fd_m (m : Nat) : MethodName × ByteArray × Nat × Option FieldType := fd_ms.getD m (⟨"", "", ""⟩, ⟨#[]⟩, 0, none)
abbrev fd_y (m : Nat) : MethodName := (fd_m m).1
abbrev fd_b (m : Nat) : ByteArray := (fd_m m).2.1
abbrev fd_r (m : Nat) : Option FieldType := (fd_m m).2.2.2
end
section
def fd_n (as : List Int) (k : Nat) : Nat := (as.getD k 0).toNat
def fd_a (as : List Int) (k : Nat) : Int := as.getD k 0
/-! the tables against the code: what each row of fd_code says of the bytes and of the tables' words -/
def fd_wd (p : Nat) (w : Jvm.Cond) : Bool := decide (lw_tbl[p]? = some w)
def fd_f4 (k : Nat) : Fin 4 := Fin.ofNat 4 k
def fd_dc (b : ByteArray) (pc nx : Nat) (I : Instr) (len : Nat) : Bool := decide (decode b pc = .ok (I, len)) && decide (nx = pc + len)
def fd_kd (t : FieldType) : Nat := match t with
  | .int => 0
  | .long => 1
  | .boolean => 3
  | _ => 2
def fd_clD (ci : Nat) : vw_C := fd_cl.getD ci ("", fd_T0, 0)
def fd_fl (p : Nat) (own : String) (idx : Nat) (nest : Int) (C nm ds : String) : Bool :=
  if nest = 0 then fd_wd p (.fieldLink own idx C nm ds) else fd_wd p (.fieldLinkNest own idx C nm ds "FacingDoors")
/-- a field: its class, its place, its kind -/
def fd_okF (p : Nat) (own : String) (as : List Int) : Bool :=
  decide (fd_n as 0 < 11) && (decide (fd_n as 1 < (fd_clD (fd_n as 0)).2.2) && (decide (fd_kd (fd_ty (fd_n as 0) (fd_n as 1)) = fd_n as 2) &&
    fd_fl p own (fd_n as 3) (fd_a as 4) (fd_clD (fd_n as 0)).1 ((fd_clD (fd_n as 0)).2.1 (fd_n as 1)).2.1 ((fd_clD (fd_n as 0)).2.1 (fd_n as 1)).2.2.1))
def fd_jp (pcs : List Nat) (pc t : Nat) (off : Int) : Bool := decide (pcs[t]? = some ((pc : Int) + off).toNat ∧ 0 ≤ (pc : Int) + off)
def fd_icmp (op : Nat) : ClassFile.Cond := match op with
  | 0 => .eq | 1 => .ne | 2 => .lt | 3 => .ge | 4 => .gt | _ => .le
def fd_rtyp (rk : Nat) : Option FieldType := match rk with
  | 0 => none | 1 => some .int | 2 => some .boolean | _ => some .long
def fd_aty (k : Nat) : ArrayType := match k with
  | 20 => .int | 21 => .byte | _ => .boolean
def fd_fty (k : Nat) : FieldType := match k with
  | 20 => .int | 21 => .byte | _ => .boolean
def fd_acl (k : Nat) : String := match k with
  | 23 => "FacingDoors$Scene" | _ => "FacingDoors$Image"
/-- what is so of a method wherever it is called from -/
def fd_okM (m : Nat) : Bool :=
  (fd_wd (fd_mw.getD m (0, 0, 0, 0)).1 (.code (fd_y m) (fd_b m) (fd_mL m) (fd_r m)) && fd_wd (fd_mw.getD m (0, 0, 0, 0)).2.2.2 (.initialized (fd_y m).cls)) && ((match fd_sk m with
    | 0 => fd_wd (fd_mw.getD m (0, 0, 0, 0)).2.1 (.static (fd_y m))
    | 1 => fd_wd (fd_mw.getD m (0, 0, 0, 0)).2.1 (.instanceMethod (fd_y m)) && fd_wd (fd_mw.getD m (0, 0, 0, 0)).2.2.1 (.selects (fd_y m).cls (fd_y m) (fd_y m))
    | _ => fd_wd (fd_mw.getD m (0, 0, 0, 0)).2.1 (.instanceMethod (fd_y m))) && (decide ((fd_y m).cls ≠ "java/lang/invoke/MethodHandle" ∧ (fd_y m).cls ≠ "java/lang/invoke/VarHandle" ∧ plainName (fd_y m).cls = true ∧ fd_r m = fd_rtyp (fd_rk m)) && decide (fd_mL m ≤ 20)))
def fd_np (m : Nat) : Option Nat := (parseMethodDescriptor (fd_y m).desc).map (fun d => d.parameters.length)
def fd_lb : MethodName := ⟨"java/lang/Long", "bitCount", "(J)I"⟩
def fd_okI (own : String) (b : ByteArray) (ini : Bool) (pcs : List Nat) (pc nx op : Nat) (as : List Int) : Bool := match op with
  | 0 => match fd_n as 1 with
    | 0 => fd_dc b pc nx (.iconst (fd_a as 0)) 1
    | 1 => fd_dc b pc nx (.bipush (fd_a as 0)) 2 && decide ((Int8.ofInt (fd_a as 0)).toInt32 = Int32.ofInt (fd_a as 0))
    | 2 => fd_dc b pc nx (.sipush (fd_a as 0)) 3 && decide ((Int16.ofInt (fd_a as 0)).toInt32 = Int32.ofInt (fd_a as 0))
    | 3 => fd_dc b pc nx (.ldc (fd_n as 2)) 2 && fd_wd (fd_n as 3) (.constant own (fd_n as 2) (Int32.ofInt (fd_a as 0)))
    | _ => fd_dc b pc nx (.ldc_w (fd_n as 2)) 3 && fd_wd (fd_n as 3) (.constant own (fd_n as 2) (Int32.ofInt (fd_a as 0)))
  | 1 => if fd_a as 1 = 0 then decide (fd_n as 0 < 4) && fd_dc b pc nx (.iload_n (fd_f4 (fd_n as 0))) 1 else fd_dc b pc nx (.iload (fd_n as 0)) 2
  | 2 => if fd_a as 1 = 0 then decide (fd_n as 0 < 4) && fd_dc b pc nx (.aload_n (fd_f4 (fd_n as 0))) 1 else fd_dc b pc nx (.aload (fd_n as 0)) 2
  | 3 => if fd_a as 1 = 0 then decide (fd_n as 0 < 4) && fd_dc b pc nx (.istore_n (fd_f4 (fd_n as 0))) 1 else fd_dc b pc nx (.istore (fd_n as 0)) 2
  | 4 => if fd_a as 1 = 0 then decide (fd_n as 0 < 4) && fd_dc b pc nx (.astore_n (fd_f4 (fd_n as 0))) 1 else fd_dc b pc nx (.astore (fd_n as 0)) 2
  | 5 => fd_dc b pc nx (.iinc (fd_n as 0) (fd_a as 1)) 3
  | 6 => fd_dc b pc nx .iadd 1
  | 7 => fd_dc b pc nx .isub 1
  | 8 => fd_dc b pc nx .imul 1
  | 9 => fd_dc b pc nx .idiv 1
  | 10 => fd_dc b pc nx .irem 1
  | 11 => fd_dc b pc nx .iand 1
  | 12 => fd_dc b pc nx .ior 1
  | 13 => fd_dc b pc nx .ixor 1
  | 14 => fd_dc b pc nx .ishl 1
  | 15 => fd_dc b pc nx .ishr 1
  | 16 => fd_dc b pc nx .iushr 1
  | 17 => if fd_a as 1 = 0 then (if fd_a as 0 = 0 then fd_dc b pc nx (.lconst 0) 1 else decide (fd_a as 0 = 1) && fd_dc b pc nx (.lconst 1) 1) else fd_dc b pc nx (.ldc2_w (fd_n as 2)) 3 && fd_wd (fd_n as 3) (.constantLong own (fd_n as 2) (Int64.ofInt (fd_a as 0)))
  | 18 => fd_dc b pc nx .ladd 1
  | 19 => fd_dc b pc nx .lxor 1
  | 20 => fd_dc b pc nx .land 1
  | 21 => fd_dc b pc nx .lshl 1
  | 22 => fd_dc b pc nx .lcmp 1
  | 23 => fd_dc b pc nx .i2b 1
  | 24 => fd_dc b pc nx .dup 1
  | 25 => fd_dc b pc nx .dup2 1
  | 26 => fd_dc b pc nx .pop 1
  | 27 => fd_dc b pc nx (.getfield (fd_n as 3)) 3 && fd_okF (fd_n as 5) own as
  | 28 => fd_dc b pc nx (.putfield (fd_n as 3)) 3 && (fd_okF (fd_n as 6) own as && (if ((fd_clD (fd_n as 0)).2.1 (fd_n as 1)).2.2.2 = true then ini && (decide (((fd_clD (fd_n as 0)).2.1 (fd_n as 1)).1 = own) && decide (fd_a as 4 = 0)) else true))
  | 29 => fd_dc b pc nx (.getstatic (fd_n as 1)) 3 && ((decide (fd_n as 0 = 1001) && fd_fl (fd_n as 3) own (fd_n as 1) (fd_a as 2) "FacingDoors" "STEP_X" "[I") || (decide (fd_n as 0 = 1002) && fd_fl (fd_n as 3) own (fd_n as 1) (fd_a as 2) "FacingDoors" "STEP_Y" "[I"))
  | 30 => fd_dc b pc nx .iaload 1
  | 31 => fd_dc b pc nx .iastore 1
  | 32 => fd_dc b pc nx .baload 1
  | 33 => fd_dc b pc nx .bastore 1
  | 34 => fd_dc b pc nx .aaload 1
  | 35 => fd_dc b pc nx .aastore 1
  | 36 => fd_dc b pc nx .arraylength 1
  | 37 => fd_dc b pc nx (.new (fd_n as 1)) 3 && (decide (fd_n as 0 < 11) && fd_wd (fd_n as 2) (.classLink own (fd_n as 1) (fd_clD (fd_n as 0)).1))
  | 38 => fd_dc b pc nx (.newarray (fd_aty (fd_n as 0))) 2 && (decide (20 ≤ fd_n as 0 ∧ fd_n as 0 ≤ 22))
  | 39 => fd_dc b pc nx (.anewarray (fd_n as 1)) 3 && (decide (23 ≤ fd_n as 0 ∧ fd_n as 0 ≤ 24) && fd_wd (fd_n as 2) (.classLink own (fd_n as 1) (fd_acl (fd_n as 0))))
  | 40 => fd_dc b pc nx (.invokestatic (fd_n as 0)) 3 && fd_wd (fd_n as 1) (.methodLink own (fd_n as 0) arraycopyName)
  | 41 => fd_dc b pc nx (.invokestatic (fd_n as 0)) 3 && fd_wd (fd_n as 1) (.methodLink own (fd_n as 0) fd_lb)
  | 42 => fd_dc b pc nx (.invokespecial (fd_n as 0)) 3 && fd_wd (fd_n as 1) (.methodLink own (fd_n as 0) objectInit)
  | 43 => fd_dc b pc nx .iaload 1
  | 44 => fd_dc b pc nx (.invokestatic (fd_n as 0)) 3 && fd_wd (fd_n as 1) (.methodLink own (fd_n as 0) Lib.Math.min.name)
  | 100 => match decode b pc with
    | .ok (.goto off, 3) => fd_jp pcs pc (fd_n as 0) off
    | _ => false
  | 113 => match decode b pc with
    | .ok (.tableswitch d lo hi offs, _) => fd_jp pcs pc (fd_n as 0) d && (decide (fd_a as 1 = lo ∧ hi = lo + ((as.length : Int) - 2) - 1 ∧ offs.toList.length + 2 = as.length ∧ 3 ≤ as.length) && (List.range (as.length - 2)).all fun j => fd_jp pcs pc (fd_n as (2 + j)) (offs.toList.getD j 0))
    | _ => false
  | 118 => match decode b pc with
    | .ok (.lookupswitch d ps, _) => fd_jp pcs pc (fd_n as 0) d && ((ps.toList.zip (ps.toList.drop 1)).all (fun (a, next) => a.1 < next.1) && (decide (as.length = 1 + 2 * ps.toList.length) && (List.range ps.toList.length).all fun j => decide (fd_a as (1 + 2 * j) = (ps.toList.getD j (0, 0)).1 ∧ 0 ≤ fd_a as (2 + 2 * j)) && fd_jp pcs pc (fd_n as (2 + 2 * j)) (ps.toList.getD j (0, 0)).2))
    | _ => false
  | 114 => decide (decode b pc = .ok (.ireturn, 1))
  | 115 => decide (decode b pc = .ok (.lreturn, 1))
  | 116 => decide (decode b pc = .ok (.return_, 1))
  | 120 => fd_dc b pc nx (.invokevirtual (fd_n as 2)) 3 && (decide (fd_n as 0 < 177 ∧ fd_mc (fd_n as 0) < 11 ∧ (fd_clD (fd_mc (fd_n as 0))).1 = (fd_y (fd_n as 0)).cls ∧ fd_np (fd_n as 0) = some (fd_n as 1 - 1) ∧ 1 ≤ fd_n as 1 ∧ fd_n as 1 ≤ fd_mL (fd_n as 0)) && (decide (fd_sk (fd_n as 0) = 1) && (if fd_a as 3 = 0 then fd_wd (fd_n as 4) (.methodLink own (fd_n as 2) (fd_y (fd_n as 0))) else fd_wd (fd_n as 4) (.methodLinkNest own (fd_n as 2) (fd_y (fd_n as 0)) "FacingDoors"))))
  | 121 => fd_dc b pc nx (.invokestatic (fd_n as 2)) 3 && (decide (fd_n as 0 < 177 ∧ fd_np (fd_n as 0) = some (fd_n as 1) ∧ fd_n as 1 ≤ fd_mL (fd_n as 0)) && (decide (fd_sk (fd_n as 0) = 0) && (if fd_a as 3 = 0 then fd_wd (fd_n as 4) (.methodLink own (fd_n as 2) (fd_y (fd_n as 0))) else fd_wd (fd_n as 4) (.methodLinkNest own (fd_n as 2) (fd_y (fd_n as 0)) "FacingDoors"))))
  | 122 => fd_dc b pc nx (.invokespecial (fd_n as 2)) 3 && (decide (fd_n as 0 < 177 ∧ fd_np (fd_n as 0) = some (fd_n as 1 - 1) ∧ 1 ≤ fd_n as 1 ∧ fd_n as 1 ≤ fd_mL (fd_n as 0) ∧ (fd_y (fd_n as 0)).name = "<init>" ∧ fd_r (fd_n as 0) = none) && (decide (fd_sk (fd_n as 0) = 2) && (if fd_a as 3 = 0 then fd_wd (fd_n as 4) (.methodLink own (fd_n as 2) (fd_y (fd_n as 0))) else fd_wd (fd_n as 4) (.methodLinkNest own (fd_n as 2) (fd_y (fd_n as 0)) "FacingDoors"))))
  | op => if 101 ≤ op ∧ op ≤ 106 then (match decode b pc with
      | .ok (.if_icmp cd off, 3) => decide (cd = fd_icmp (op - 101) ∧ nx = pc + 3) && fd_jp pcs pc (fd_n as 0) off
      | _ => false)
    else if 107 ≤ op ∧ op ≤ 112 then (match decode b pc with
      | .ok (.ifCond cd off, 3) => decide (cd = fd_icmp (op - 107) ∧ nx = pc + 3) && fd_jp pcs pc (fd_n as 0) off
      | _ => false)
    else false
/-- a method's rows from place i on: the pcs are those of fd_pcs; behind the last one nothing comes -/
def fd_okL (own : String) (b : ByteArray) (ini : Bool) (pcs : List Nat) : List fd_Ins → List Nat → Bool
  | [], [] => true
  | (op, as) :: r, pc :: q => fd_okI own b ini pcs pc (q.headD 0) op as && fd_okL own b ini pcs r q
  | _, _ => false
def fd_ini (m : Nat) : Bool := decide ((fd_y m).name = "<init>")
def fd_okC (m : Nat) : Bool := fd_okM m && fd_okL (fd_y m).cls (fd_b m) (fd_ini m) (fd_pcs m) (fd_code m) (fd_pcs m)
end
section
theorem fd_ok_0 : (List.range 3).all (fun j => fd_okC (0 + j)) = true := by decide +kernel
theorem fd_ok_1 : (List.range 3).all (fun j => fd_okC (3 + j)) = true := by decide +kernel
theorem fd_ok_2 : (List.range 3).all (fun j => fd_okC (6 + j)) = true := by decide +kernel
theorem fd_ok_3 : (List.range 3).all (fun j => fd_okC (9 + j)) = true := by decide +kernel
theorem fd_ok_4 : (List.range 3).all (fun j => fd_okC (12 + j)) = true := by decide +kernel
theorem fd_ok_5 : (List.range 3).all (fun j => fd_okC (15 + j)) = true := by decide +kernel
theorem fd_ok_6 : (List.range 3).all (fun j => fd_okC (18 + j)) = true := by decide +kernel
end
section
theorem fd_ok_7 : (List.range 3).all (fun j => fd_okC (21 + j)) = true := by decide +kernel
theorem fd_ok_8 : (List.range 3).all (fun j => fd_okC (24 + j)) = true := by decide +kernel
theorem fd_ok_9 : (List.range 3).all (fun j => fd_okC (27 + j)) = true := by decide +kernel
theorem fd_ok_10 : (List.range 3).all (fun j => fd_okC (30 + j)) = true := by decide +kernel
theorem fd_ok_11 : (List.range 3).all (fun j => fd_okC (33 + j)) = true := by decide +kernel
theorem fd_ok_12 : (List.range 3).all (fun j => fd_okC (36 + j)) = true := by decide +kernel
theorem fd_ok_13 : (List.range 3).all (fun j => fd_okC (39 + j)) = true := by decide +kernel
theorem fd_ok_14 : (List.range 3).all (fun j => fd_okC (42 + j)) = true := by decide +kernel
theorem fd_ok_15 : (List.range 3).all (fun j => fd_okC (45 + j)) = true := by decide +kernel
theorem fd_ok_16 : (List.range 3).all (fun j => fd_okC (48 + j)) = true := by decide +kernel
theorem fd_ok_17 : (List.range 3).all (fun j => fd_okC (51 + j)) = true := by decide +kernel
theorem fd_ok_18 : (List.range 3).all (fun j => fd_okC (54 + j)) = true := by decide +kernel
theorem fd_ok_19 : (List.range 3).all (fun j => fd_okC (57 + j)) = true := by decide +kernel
end
section
theorem fd_ok_20 : (List.range 3).all (fun j => fd_okC (60 + j)) = true := by decide +kernel
theorem fd_ok_21 : (List.range 3).all (fun j => fd_okC (63 + j)) = true := by decide +kernel
theorem fd_ok_22 : (List.range 3).all (fun j => fd_okC (66 + j)) = true := by decide +kernel
theorem fd_ok_23 : (List.range 3).all (fun j => fd_okC (69 + j)) = true := by decide +kernel
theorem fd_ok_24 : (List.range 3).all (fun j => fd_okC (72 + j)) = true := by decide +kernel
theorem fd_ok_25 : (List.range 3).all (fun j => fd_okC (75 + j)) = true := by decide +kernel
theorem fd_ok_26 : (List.range 3).all (fun j => fd_okC (78 + j)) = true := by decide +kernel
end
section
theorem fd_ok_27 : (List.range 3).all (fun j => fd_okC (81 + j)) = true := by decide +kernel
theorem fd_ok_28 : (List.range 3).all (fun j => fd_okC (84 + j)) = true := by decide +kernel
theorem fd_ok_29 : (List.range 3).all (fun j => fd_okC (87 + j)) = true := by decide +kernel
theorem fd_ok_30 : (List.range 3).all (fun j => fd_okC (90 + j)) = true := by decide +kernel
theorem fd_ok_31 : (List.range 3).all (fun j => fd_okC (93 + j)) = true := by decide +kernel
theorem fd_ok_32 : (List.range 3).all (fun j => fd_okC (96 + j)) = true := by decide +kernel
theorem fd_ok_33 : (List.range 3).all (fun j => fd_okC (99 + j)) = true := by decide +kernel
end
section
theorem fd_ok_34 : (List.range 3).all (fun j => fd_okC (102 + j)) = true := by decide +kernel
theorem fd_ok_35 : (List.range 3).all (fun j => fd_okC (105 + j)) = true := by decide +kernel
theorem fd_ok_36 : (List.range 3).all (fun j => fd_okC (108 + j)) = true := by decide +kernel
theorem fd_ok_37 : (List.range 3).all (fun j => fd_okC (111 + j)) = true := by decide +kernel
theorem fd_ok_38 : (List.range 3).all (fun j => fd_okC (114 + j)) = true := by decide +kernel
theorem fd_ok_39 : (List.range 3).all (fun j => fd_okC (117 + j)) = true := by decide +kernel
theorem fd_ok_40 : (List.range 3).all (fun j => fd_okC (120 + j)) = true := by decide +kernel
theorem fd_ok_41 : (List.range 3).all (fun j => fd_okC (123 + j)) = true := by decide +kernel
theorem fd_ok_42 : (List.range 3).all (fun j => fd_okC (126 + j)) = true := by decide +kernel
end
section
theorem fd_ok_43 : (List.range 3).all (fun j => fd_okC (129 + j)) = true := by decide +kernel
theorem fd_ok_44 : (List.range 3).all (fun j => fd_okC (132 + j)) = true := by decide +kernel
theorem fd_ok_45 : (List.range 3).all (fun j => fd_okC (135 + j)) = true := by decide +kernel
theorem fd_ok_46 : (List.range 3).all (fun j => fd_okC (138 + j)) = true := by decide +kernel
theorem fd_ok_47 : (List.range 3).all (fun j => fd_okC (141 + j)) = true := by decide +kernel
theorem fd_ok_48 : (List.range 3).all (fun j => fd_okC (144 + j)) = true := by decide +kernel
theorem fd_ok_49 : (List.range 3).all (fun j => fd_okC (147 + j)) = true := by decide +kernel
theorem fd_ok_50 : (List.range 3).all (fun j => fd_okC (150 + j)) = true := by decide +kernel
theorem fd_ok_51 : (List.range 3).all (fun j => fd_okC (153 + j)) = true := by decide +kernel
theorem fd_ok_52 : (List.range 3).all (fun j => fd_okC (156 + j)) = true := by decide +kernel
theorem fd_ok_53 : (List.range 3).all (fun j => fd_okC (159 + j)) = true := by decide +kernel
end
section
theorem fd_ok_54 : (List.range 3).all (fun j => fd_okC (162 + j)) = true := by decide +kernel
theorem fd_ok_55 : (List.range 3).all (fun j => fd_okC (165 + j)) = true := by decide +kernel
theorem fd_ok_56 : (List.range 3).all (fun j => fd_okC (168 + j)) = true := by decide +kernel
theorem fd_ok_57 : (List.range 3).all (fun j => fd_okC (171 + j)) = true := by decide +kernel
theorem fd_ok_58 : (List.range 3).all (fun j => fd_okC (174 + j)) = true := by decide +kernel
end
section
theorem fd_okAll (m : Nat) (h : m < 177) : fd_okC m = true := by
  rcases Nat.lt_or_ge m 3 with h0 | h0
  · have q := List.all_eq_true.mp fd_ok_0 (m - 0) (List.mem_range.mpr (by omega))
    rwa [show 0 + (m - 0) = m by omega] at q
  rcases Nat.lt_or_ge m 6 with h3 | h3
  · have q := List.all_eq_true.mp fd_ok_1 (m - 3) (List.mem_range.mpr (by omega))
    rwa [show 3 + (m - 3) = m by omega] at q
  rcases Nat.lt_or_ge m 9 with h6 | h6
  · have q := List.all_eq_true.mp fd_ok_2 (m - 6) (List.mem_range.mpr (by omega))
    rwa [show 6 + (m - 6) = m by omega] at q
  rcases Nat.lt_or_ge m 12 with h9 | h9
  · have q := List.all_eq_true.mp fd_ok_3 (m - 9) (List.mem_range.mpr (by omega))
    rwa [show 9 + (m - 9) = m by omega] at q
  rcases Nat.lt_or_ge m 15 with h12 | h12
  · have q := List.all_eq_true.mp fd_ok_4 (m - 12) (List.mem_range.mpr (by omega))
    rwa [show 12 + (m - 12) = m by omega] at q
  rcases Nat.lt_or_ge m 18 with h15 | h15
  · have q := List.all_eq_true.mp fd_ok_5 (m - 15) (List.mem_range.mpr (by omega))
    rwa [show 15 + (m - 15) = m by omega] at q
  rcases Nat.lt_or_ge m 21 with h18 | h18
  · have q := List.all_eq_true.mp fd_ok_6 (m - 18) (List.mem_range.mpr (by omega))
    rwa [show 18 + (m - 18) = m by omega] at q
  rcases Nat.lt_or_ge m 24 with h21 | h21
  · have q := List.all_eq_true.mp fd_ok_7 (m - 21) (List.mem_range.mpr (by omega))
    rwa [show 21 + (m - 21) = m by omega] at q
  rcases Nat.lt_or_ge m 27 with h24 | h24
  · have q := List.all_eq_true.mp fd_ok_8 (m - 24) (List.mem_range.mpr (by omega))
    rwa [show 24 + (m - 24) = m by omega] at q
  rcases Nat.lt_or_ge m 30 with h27 | h27
  · have q := List.all_eq_true.mp fd_ok_9 (m - 27) (List.mem_range.mpr (by omega))
    rwa [show 27 + (m - 27) = m by omega] at q
  rcases Nat.lt_or_ge m 33 with h30 | h30
  · have q := List.all_eq_true.mp fd_ok_10 (m - 30) (List.mem_range.mpr (by omega))
    rwa [show 30 + (m - 30) = m by omega] at q
  rcases Nat.lt_or_ge m 36 with h33 | h33
  · have q := List.all_eq_true.mp fd_ok_11 (m - 33) (List.mem_range.mpr (by omega))
    rwa [show 33 + (m - 33) = m by omega] at q
  rcases Nat.lt_or_ge m 39 with h36 | h36
  · have q := List.all_eq_true.mp fd_ok_12 (m - 36) (List.mem_range.mpr (by omega))
    rwa [show 36 + (m - 36) = m by omega] at q
  rcases Nat.lt_or_ge m 42 with h39 | h39
  · have q := List.all_eq_true.mp fd_ok_13 (m - 39) (List.mem_range.mpr (by omega))
    rwa [show 39 + (m - 39) = m by omega] at q
  rcases Nat.lt_or_ge m 45 with h42 | h42
  · have q := List.all_eq_true.mp fd_ok_14 (m - 42) (List.mem_range.mpr (by omega))
    rwa [show 42 + (m - 42) = m by omega] at q
  rcases Nat.lt_or_ge m 48 with h45 | h45
  · have q := List.all_eq_true.mp fd_ok_15 (m - 45) (List.mem_range.mpr (by omega))
    rwa [show 45 + (m - 45) = m by omega] at q
  rcases Nat.lt_or_ge m 51 with h48 | h48
  · have q := List.all_eq_true.mp fd_ok_16 (m - 48) (List.mem_range.mpr (by omega))
    rwa [show 48 + (m - 48) = m by omega] at q
  rcases Nat.lt_or_ge m 54 with h51 | h51
  · have q := List.all_eq_true.mp fd_ok_17 (m - 51) (List.mem_range.mpr (by omega))
    rwa [show 51 + (m - 51) = m by omega] at q
  rcases Nat.lt_or_ge m 57 with h54 | h54
  · have q := List.all_eq_true.mp fd_ok_18 (m - 54) (List.mem_range.mpr (by omega))
    rwa [show 54 + (m - 54) = m by omega] at q
  rcases Nat.lt_or_ge m 60 with h57 | h57
  · have q := List.all_eq_true.mp fd_ok_19 (m - 57) (List.mem_range.mpr (by omega))
    rwa [show 57 + (m - 57) = m by omega] at q
  rcases Nat.lt_or_ge m 63 with h60 | h60
  · have q := List.all_eq_true.mp fd_ok_20 (m - 60) (List.mem_range.mpr (by omega))
    rwa [show 60 + (m - 60) = m by omega] at q
  rcases Nat.lt_or_ge m 66 with h63 | h63
  · have q := List.all_eq_true.mp fd_ok_21 (m - 63) (List.mem_range.mpr (by omega))
    rwa [show 63 + (m - 63) = m by omega] at q
  rcases Nat.lt_or_ge m 69 with h66 | h66
  · have q := List.all_eq_true.mp fd_ok_22 (m - 66) (List.mem_range.mpr (by omega))
    rwa [show 66 + (m - 66) = m by omega] at q
  rcases Nat.lt_or_ge m 72 with h69 | h69
  · have q := List.all_eq_true.mp fd_ok_23 (m - 69) (List.mem_range.mpr (by omega))
    rwa [show 69 + (m - 69) = m by omega] at q
  rcases Nat.lt_or_ge m 75 with h72 | h72
  · have q := List.all_eq_true.mp fd_ok_24 (m - 72) (List.mem_range.mpr (by omega))
    rwa [show 72 + (m - 72) = m by omega] at q
  rcases Nat.lt_or_ge m 78 with h75 | h75
  · have q := List.all_eq_true.mp fd_ok_25 (m - 75) (List.mem_range.mpr (by omega))
    rwa [show 75 + (m - 75) = m by omega] at q
  rcases Nat.lt_or_ge m 81 with h78 | h78
  · have q := List.all_eq_true.mp fd_ok_26 (m - 78) (List.mem_range.mpr (by omega))
    rwa [show 78 + (m - 78) = m by omega] at q
  rcases Nat.lt_or_ge m 84 with h81 | h81
  · have q := List.all_eq_true.mp fd_ok_27 (m - 81) (List.mem_range.mpr (by omega))
    rwa [show 81 + (m - 81) = m by omega] at q
  rcases Nat.lt_or_ge m 87 with h84 | h84
  · have q := List.all_eq_true.mp fd_ok_28 (m - 84) (List.mem_range.mpr (by omega))
    rwa [show 84 + (m - 84) = m by omega] at q
  rcases Nat.lt_or_ge m 90 with h87 | h87
  · have q := List.all_eq_true.mp fd_ok_29 (m - 87) (List.mem_range.mpr (by omega))
    rwa [show 87 + (m - 87) = m by omega] at q
  rcases Nat.lt_or_ge m 93 with h90 | h90
  · have q := List.all_eq_true.mp fd_ok_30 (m - 90) (List.mem_range.mpr (by omega))
    rwa [show 90 + (m - 90) = m by omega] at q
  rcases Nat.lt_or_ge m 96 with h93 | h93
  · have q := List.all_eq_true.mp fd_ok_31 (m - 93) (List.mem_range.mpr (by omega))
    rwa [show 93 + (m - 93) = m by omega] at q
  rcases Nat.lt_or_ge m 99 with h96 | h96
  · have q := List.all_eq_true.mp fd_ok_32 (m - 96) (List.mem_range.mpr (by omega))
    rwa [show 96 + (m - 96) = m by omega] at q
  rcases Nat.lt_or_ge m 102 with h99 | h99
  · have q := List.all_eq_true.mp fd_ok_33 (m - 99) (List.mem_range.mpr (by omega))
    rwa [show 99 + (m - 99) = m by omega] at q
  rcases Nat.lt_or_ge m 105 with h102 | h102
  · have q := List.all_eq_true.mp fd_ok_34 (m - 102) (List.mem_range.mpr (by omega))
    rwa [show 102 + (m - 102) = m by omega] at q
  rcases Nat.lt_or_ge m 108 with h105 | h105
  · have q := List.all_eq_true.mp fd_ok_35 (m - 105) (List.mem_range.mpr (by omega))
    rwa [show 105 + (m - 105) = m by omega] at q
  rcases Nat.lt_or_ge m 111 with h108 | h108
  · have q := List.all_eq_true.mp fd_ok_36 (m - 108) (List.mem_range.mpr (by omega))
    rwa [show 108 + (m - 108) = m by omega] at q
  rcases Nat.lt_or_ge m 114 with h111 | h111
  · have q := List.all_eq_true.mp fd_ok_37 (m - 111) (List.mem_range.mpr (by omega))
    rwa [show 111 + (m - 111) = m by omega] at q
  rcases Nat.lt_or_ge m 117 with h114 | h114
  · have q := List.all_eq_true.mp fd_ok_38 (m - 114) (List.mem_range.mpr (by omega))
    rwa [show 114 + (m - 114) = m by omega] at q
  rcases Nat.lt_or_ge m 120 with h117 | h117
  · have q := List.all_eq_true.mp fd_ok_39 (m - 117) (List.mem_range.mpr (by omega))
    rwa [show 117 + (m - 117) = m by omega] at q
  rcases Nat.lt_or_ge m 123 with h120 | h120
  · have q := List.all_eq_true.mp fd_ok_40 (m - 120) (List.mem_range.mpr (by omega))
    rwa [show 120 + (m - 120) = m by omega] at q
  rcases Nat.lt_or_ge m 126 with h123 | h123
  · have q := List.all_eq_true.mp fd_ok_41 (m - 123) (List.mem_range.mpr (by omega))
    rwa [show 123 + (m - 123) = m by omega] at q
  rcases Nat.lt_or_ge m 129 with h126 | h126
  · have q := List.all_eq_true.mp fd_ok_42 (m - 126) (List.mem_range.mpr (by omega))
    rwa [show 126 + (m - 126) = m by omega] at q
  rcases Nat.lt_or_ge m 132 with h129 | h129
  · have q := List.all_eq_true.mp fd_ok_43 (m - 129) (List.mem_range.mpr (by omega))
    rwa [show 129 + (m - 129) = m by omega] at q
  rcases Nat.lt_or_ge m 135 with h132 | h132
  · have q := List.all_eq_true.mp fd_ok_44 (m - 132) (List.mem_range.mpr (by omega))
    rwa [show 132 + (m - 132) = m by omega] at q
  rcases Nat.lt_or_ge m 138 with h135 | h135
  · have q := List.all_eq_true.mp fd_ok_45 (m - 135) (List.mem_range.mpr (by omega))
    rwa [show 135 + (m - 135) = m by omega] at q
  rcases Nat.lt_or_ge m 141 with h138 | h138
  · have q := List.all_eq_true.mp fd_ok_46 (m - 138) (List.mem_range.mpr (by omega))
    rwa [show 138 + (m - 138) = m by omega] at q
  rcases Nat.lt_or_ge m 144 with h141 | h141
  · have q := List.all_eq_true.mp fd_ok_47 (m - 141) (List.mem_range.mpr (by omega))
    rwa [show 141 + (m - 141) = m by omega] at q
  rcases Nat.lt_or_ge m 147 with h144 | h144
  · have q := List.all_eq_true.mp fd_ok_48 (m - 144) (List.mem_range.mpr (by omega))
    rwa [show 144 + (m - 144) = m by omega] at q
  rcases Nat.lt_or_ge m 150 with h147 | h147
  · have q := List.all_eq_true.mp fd_ok_49 (m - 147) (List.mem_range.mpr (by omega))
    rwa [show 147 + (m - 147) = m by omega] at q
  rcases Nat.lt_or_ge m 153 with h150 | h150
  · have q := List.all_eq_true.mp fd_ok_50 (m - 150) (List.mem_range.mpr (by omega))
    rwa [show 150 + (m - 150) = m by omega] at q
  rcases Nat.lt_or_ge m 156 with h153 | h153
  · have q := List.all_eq_true.mp fd_ok_51 (m - 153) (List.mem_range.mpr (by omega))
    rwa [show 153 + (m - 153) = m by omega] at q
  rcases Nat.lt_or_ge m 159 with h156 | h156
  · have q := List.all_eq_true.mp fd_ok_52 (m - 156) (List.mem_range.mpr (by omega))
    rwa [show 156 + (m - 156) = m by omega] at q
  rcases Nat.lt_or_ge m 162 with h159 | h159
  · have q := List.all_eq_true.mp fd_ok_53 (m - 159) (List.mem_range.mpr (by omega))
    rwa [show 159 + (m - 159) = m by omega] at q
  rcases Nat.lt_or_ge m 165 with h162 | h162
  · have q := List.all_eq_true.mp fd_ok_54 (m - 162) (List.mem_range.mpr (by omega))
    rwa [show 162 + (m - 162) = m by omega] at q
  rcases Nat.lt_or_ge m 168 with h165 | h165
  · have q := List.all_eq_true.mp fd_ok_55 (m - 165) (List.mem_range.mpr (by omega))
    rwa [show 165 + (m - 165) = m by omega] at q
  rcases Nat.lt_or_ge m 171 with h168 | h168
  · have q := List.all_eq_true.mp fd_ok_56 (m - 168) (List.mem_range.mpr (by omega))
    rwa [show 168 + (m - 168) = m by omega] at q
  rcases Nat.lt_or_ge m 174 with h171 | h171
  · have q := List.all_eq_true.mp fd_ok_57 (m - 171) (List.mem_range.mpr (by omega))
    rwa [show 171 + (m - 171) = m by omega] at q
  rcases Nat.lt_or_ge m 177 with h174 | h174
  · have q := List.all_eq_true.mp fd_ok_58 (m - 174) (List.mem_range.mpr (by omega))
    rwa [show 174 + (m - 174) = m by omega] at q
  exact absurd h (by omega)
end
section
/-! A small machine over whole numbers: values, memory of the cells that the constructors make, one instruction, a run -/
abbrev fd_V : Type := Int ⊕ Int ⊕ Nat
abbrev fd_I (a : Int) : fd_V := .inl a
abbrev fd_J (a : Int) : fd_V := .inr (.inl a)
abbrev fd_R (c : Nat) : fd_V := .inr (.inr c)
abbrev fd_M : Type := Nat → Nat → Int
def fd_up (M : fd_M) (c k : Nat) (v : Int) : fd_M := fun c' k' => if c' = c ∧ k' = k then v else M c' k'
def fd_cp (M : fd_M) (c1 sp c2 dp n : Nat) : fd_M := fun c k => if c = c2 ∧ dp ≤ k ∧ k < dp + n then M c1 (sp + (k - dp)) else M c k
def fd_nw (M : fd_M) (f : Nat → Int) : fd_M := fun c k => if c = (M 5000 0).toNat then f k else if c = 5000 ∧ k = 0 then M 5000 0 + 1 else M c k
def fd_inb (i n : Int) : Bool := decide (0 ≤ i ∧ i < n)
def fd_rng (a : Int) : Bool := decide (-2147483648 ≤ a ∧ a < 2147483648)
def fd_al (ph : Bool) (M : fd_M) (c : Nat) : Bool := ph || Nat.blt c (M 5000 0).toNat
def fd_isO (ph : Bool) (M : fd_M) (c ci : Nat) : Bool := Nat.beq (fd_SH c).1 ci && fd_al ph M c
def fd_rf (ph : Bool) (M : fd_M) (c k : Nat) : Nat := match (bif ph then fd_RF c k else none) with
  | some r => r
  | none => (M c k).toNat
def fd_gf (ph : Bool) (M : fd_M) (kd c k : Nat) : fd_V := match kd with
  | 1 => fd_J (M c k)
  | 2 => fd_R (fd_rf ph M c k)
  | _ => fd_I (M c k)
def fd_and (a b : Int) : Int := (Int32.ofInt a &&& Int32.ofInt b).toInt
def fd_or (a b : Int) : Int := (Int32.ofInt a ||| Int32.ofInt b).toInt
def fd_xor (a b : Int) : Int := (Int32.ofInt a ^^^ Int32.ofInt b).toInt
def fd_land (a b : Int) : Int := (Int64.ofInt a &&& Int64.ofInt b).toInt
def fd_lxor (a b : Int) : Int := (Int64.ofInt a ^^^ Int64.ofInt b).toInt
def fd_lcmp (a b : Int) : Int := (lg_cmp (Int64.ofInt a) (Int64.ofInt b)).toInt
def fd_i2b (a : Int) : Int := ((Int32.ofInt a).toInt8.toInt32).toInt
def fd_sx (i : Int) : Int := if i = 1 then 1 else if i = 3 then -1 else 0
def fd_sy (i : Int) : Int := if i = 2 then 1 else if i = 0 then -1 else 0
def fd_us (x : Int64) (k : Int32) : Int64 := (x.toUInt64 >>> (k.toInt64.toUInt64 &&& Int64.toUInt64 63)).toInt64
def fd_bc1 (x : Int64) : Int64 := x - (fd_us x 1 &&& 6148914691236517205)
def fd_bc2 (x : Int64) : Int64 := (x &&& 3689348814741910323) + (fd_us x 2 &&& 3689348814741910323)
def fd_bc3 (x : Int64) : Int64 := (x + fd_us x 4) &&& 1085102592571150095
def fd_bc4 (x : Int64) : Int64 := x + fd_us x 8
def fd_bc5 (x : Int64) : Int64 := x + fd_us x 16
def fd_bc6 (x : Int64) : Int64 := x + fd_us x 32
def fd_bc (x : Int64) : Int32 := (fd_bc6 (fd_bc5 (fd_bc4 (fd_bc3 (fd_bc2 (fd_bc1 x)))))).toInt32 &&& 127
def fd_lbc (a : Int) : Int := (fd_bc (Int64.ofInt a)).toInt
abbrev fd_Rs : Type := Option (Bool × List fd_V × List fd_V × fd_M)
/-- what is on top: an int, a long, a reference -/
def fd_pI (st : List fd_V) (F : Int → List fd_V → fd_Rs) : fd_Rs := match st with
  | .inl a :: r => F a r
  | _ => none
def fd_pJ (st : List fd_V) (F : Int → List fd_V → fd_Rs) : fd_Rs := match st with
  | .inr (.inl a) :: r => F a r
  | _ => none
def fd_pR (st : List fd_V) (F : Nat → List fd_V → fd_Rs) : fd_Rs := match st with
  | .inr (.inr c) :: r => F c r
  | _ => none
def fd_lI (v : Option fd_V) (F : Int → fd_Rs) : fd_Rs := match v with
  | some (.inl a) => F a
  | _ => none
def fd_lR (v : Option fd_V) (F : Nat → fd_Rs) : fd_Rs := match v with
  | some (.inr (.inr c)) => F c
  | _ => none
def fd_2 (ls st : List fd_V) (M : fd_M) (g : Int → Int → Bool) (f : Int → Int → Int) : fd_Rs := fd_pI st fun b r => fd_pI r fun a r => some (g a b, ls, fd_I (f a b) :: r, M)
def fd_2J (ls st : List fd_V) (M : fd_M) (f : Int → Int → Int) : fd_Rs := fd_pJ st fun b r => fd_pJ r fun a r => some (true, ls, fd_J (f a b) :: r, M)
def fd_tt : Int → Int → Bool := fun _ _ => true
def fd_put (ph : Bool) (ci k kd : Nat) (ls st : List fd_V) (M : fd_M) : fd_Rs := match kd with
  | 0 => fd_pI st fun a r => fd_pR r fun c r => some (fd_isO ph M c ci, ls, r, fd_up M c k a)
  | 1 => fd_pJ st fun a r => fd_pR r fun c r => some (fd_isO ph M c ci, ls, r, fd_up M c k a)
  | 2 => fd_pR st fun x r => fd_pR r fun c r => some (!ph && (fd_isO ph M c ci && Nat.blt x 1000), ls, r, fd_up M c k x)
  | 3 => fd_pI st fun a r => fd_pR r fun c r => some (fd_isO ph M c ci && fd_inb a 2, ls, r, fd_up M c k a)
  | _ => none
def fd_isA (ph : Bool) (M : fd_M) (c kd : Nat) (i : Int) : Bool := (Nat.beq (fd_SH c).1 kd && fd_al ph M c) && fd_inb i (fd_SH c).2
def fd_new (ph : Bool) (kd : Nat) (ls r : List fd_V) (M : fd_M) (ok : Bool) (f : Nat → Int) : fd_Rs := some (!ph && (Nat.beq (fd_SH (M 5000 0).toNat).1 kd && ok), ls, fd_R (M 5000 0).toNat :: r, fd_nw M f)
def fd_copy (ph : Bool) (ls st : List fd_V) (M : fd_M) : fd_Rs := fd_pI st fun n r => fd_pI r fun dp r => fd_pR r fun c2 r => fd_pI r fun sp r => fd_pR r fun c1 r =>
    some ((ph && (Nat.beq (fd_SH c1).1 20 && fd_al ph M c1) && (Nat.beq (fd_SH c2).1 20 && fd_al ph M c2)) && decide (0 ≤ sp ∧ 0 ≤ dp ∧ 0 ≤ n ∧ sp + n ≤ (fd_SH c1).2 ∧ dp + n ≤ (fd_SH c2).2 ∧ (r.length : Int) ≤ 4), ls, r, fd_cp M c1 sp.toNat c2 dp.toNat n.toNat)
/-- one instruction that goes on to the next one -/
def fd_nx (ph : Bool) (op : Nat) (as : List Int) (ls st : List fd_V) (M : fd_M) : fd_Rs := match op with
  | 0 => some (true, ls, fd_I (fd_a as 0) :: st, M)
  | 1 => fd_lI ls[fd_n as 0]? fun a => some (true, ls, fd_I a :: st, M)
  | 2 => fd_lR ls[fd_n as 0]? fun c => some (Nat.blt c 1000, ls, fd_R c :: st, M)
  | 3 => fd_pI st fun a r => some (Nat.blt (fd_n as 0) ls.length, ls.set (fd_n as 0) (fd_I a), r, M)
  | 4 => fd_pR st fun c r => some (Nat.blt (fd_n as 0) ls.length && Nat.blt c 1000, ls.set (fd_n as 0) (fd_R c), r, M)
  | 5 => fd_lI ls[fd_n as 0]? fun a => some (true, ls.set (fd_n as 0) (fd_I (a + fd_a as 1)), st, M)
  | 6 => fd_2 ls st M fd_tt (fun a b => a + b)
  | 7 => fd_2 ls st M fd_tt (fun a b => a - b)
  | 8 => fd_2 ls st M fd_tt (fun a b => a * b)
  | 9 => fd_2 ls st M (fun a b => fd_inb a 2147483648 && fd_inb (b - 1) 2147483647) (fun a b => a / b)
  | 10 => fd_2 ls st M (fun a b => fd_inb a 2147483648 && fd_inb (b - 1) 2147483647) (fun a b => a % b)
  | 11 => fd_2 ls st M fd_tt fd_and
  | 12 => fd_2 ls st M fd_tt fd_or
  | 13 => fd_2 ls st M fd_tt fd_xor
  | 14 => fd_2 ls st M (fun a b => decide (a = 1) && fd_inb b 32) (fun _ b => 2 ^ b.toNat)
  | 15 => fd_2 ls st M (fun a b => fd_inb a 2147483648 && fd_inb b 32) (fun a b => a / 2 ^ b.toNat)
  | 16 => fd_2 ls st M (fun a b => fd_inb a 2147483648 && fd_inb b 32) (fun a b => a / 2 ^ b.toNat)
  | 17 => some (true, ls, fd_J (fd_a as 0) :: st, M)
  | 18 => fd_2J ls st M (fun a b => a + b)
  | 19 => fd_2J ls st M fd_lxor
  | 20 => fd_2J ls st M fd_land
  | 21 => fd_pI st fun b r => fd_pJ r fun a r => some (decide (a = 1) && fd_inb b 64, ls, fd_J (2 ^ b.toNat) :: r, M)
  | 22 => fd_pJ st fun b r => fd_pJ r fun a r => some (true, ls, fd_I (fd_lcmp a b) :: r, M)
  | 23 => fd_pI st fun a r => some (true, ls, fd_I (fd_i2b a) :: r, M)
  | 24 => match st with
    | .inl a :: r => some (true, ls, fd_I a :: fd_I a :: r, M)
    | .inr (.inr c) :: r => some (true, ls, fd_R c :: fd_R c :: r, M)
    | _ => none
  | 25 => fd_pI st fun b r => fd_pR r fun a r => some (true, ls, fd_I b :: fd_R a :: fd_I b :: fd_R a :: r, M)
  | 26 => fd_pI st fun _ r => some (true, ls, r, M)
  | 27 => fd_pR st fun c r => some (fd_isO ph M c (fd_n as 0), ls, fd_gf ph M (fd_n as 2) c (fd_n as 1) :: r, M)
  | 28 => fd_put ph (fd_n as 0) (fd_n as 1) (fd_n as 2) ls st M
  | 29 => some (true, ls, fd_R (fd_n as 0) :: st, M)
  | 30 => fd_pI st fun i r => fd_pR r fun c r => some (fd_isA ph M c 20 i, ls, fd_I (M c i.toNat) :: r, M)
  | 31 => fd_pI st fun v r => fd_pI r fun i r => fd_pR r fun c r => some (fd_isA ph M c 20 i, ls, r, fd_up M c i.toNat v)
  | 32 => fd_pI st fun i r => fd_pR r fun c r => some (fd_isA ph M c 21 i || fd_isA ph M c 22 i, ls, fd_I (M c i.toNat) :: r, M)
  | 33 => fd_pI st fun v r => fd_pI r fun i r => fd_pR r fun c r => some ((fd_isA ph M c 21 i && fd_inb (v + 128) 256) || (fd_isA ph M c 22 i && fd_inb v 2), ls, r, fd_up M c i.toNat v)
  | 34 => fd_pI st fun i r => fd_pR r fun c r => some ((fd_isA ph M c 23 i || fd_isA ph M c 24 i) && Nat.blt (M c i.toNat).toNat 1000, ls, fd_R (M c i.toNat).toNat :: r, M)
  | 35 => fd_pR st fun x r => fd_pI r fun i r => fd_pR r fun c r => some ((fd_isA ph M c 23 i && fd_isO ph M x 5) || (fd_isA ph M c 24 i && fd_isO ph M x 2), ls, r, fd_up M c i.toNat x)
  | 36 => fd_pR st fun c r => some (Nat.ble 20 (fd_SH c).1 && (Nat.ble (fd_SH c).1 24 && fd_al ph M c), ls, fd_I (fd_SH c).2 :: r, M)
  | 37 => fd_new ph (fd_n as 0) ls st M true (fd_dfl (fd_n as 0))
  | 38 => fd_pI st fun n r => fd_new ph (fd_n as 0) ls r M (decide (n = (fd_SH (M 5000 0).toNat).2)) (fun _ => 0)
  | 39 => fd_pI st fun n r => fd_new ph (fd_n as 0) ls r M (decide (n = (fd_SH (M 5000 0).toNat).2)) (fun _ => 1000)
  | 40 => fd_copy ph ls st M
  | 41 => fd_pJ st fun a r => some (Nat.ble r.length 4, ls, fd_I (fd_lbc a) :: r, M)
  | 42 => fd_pR st fun c r => some (Nat.blt c 1000 && Nat.ble r.length 4, ls, r, M)
  | 43 => fd_pI st fun i r => fd_pR r fun c r => some ((Nat.beq c 1001 || Nat.beq c 1002) && fd_inb i 4, ls, fd_I (bif Nat.beq c 1001 then fd_sx i else fd_sy i) :: r, M)
  | 44 => fd_pI st fun b r => fd_pI r fun a r => some (fd_rng a && (fd_rng b && Nat.ble r.length 4), ls, fd_I (if b < a then b else a) :: r, M)
  | _ => none
/-- where a branch goes: 100 goto, 101 .. two ints compared, 107 .. an int against 0, 113 a table, 118 a list of keys -/
def fd_cmp (op : Nat) (a b : Int) : Bool := match op with
  | 0 => decide (a = b)
  | 1 => decide (¬ a = b)
  | 2 => decide (a < b)
  | 3 => decide (b ≤ a)
  | 4 => decide (b < a)
  | _ => decide (a ≤ b)
def fd_look (x d : Int) : List Int → Int
  | k :: t :: r => if x = k then t else fd_look x d r
  | _ => d
def fd_jmp (op : Nat) (as : List Int) (i : Nat) (st : List fd_V) : Option (Bool × Nat × List fd_V) := match op with
  | 100 => some (true, fd_n as 0, st)
  | 101 => match st with | .inl b :: .inl a :: r => some (fd_rng a && fd_rng b, (if a = b then fd_n as 0 else i + 1), r) | _ => none
  | 102 => match st with | .inl b :: .inl a :: r => some (fd_rng a && fd_rng b, (if ¬ a = b then fd_n as 0 else i + 1), r) | _ => none
  | 103 => match st with | .inl b :: .inl a :: r => some (fd_rng a && fd_rng b, (if a < b then fd_n as 0 else i + 1), r) | _ => none
  | 104 => match st with | .inl b :: .inl a :: r => some (fd_rng a && fd_rng b, (if b ≤ a then fd_n as 0 else i + 1), r) | _ => none
  | 105 => match st with | .inl b :: .inl a :: r => some (fd_rng a && fd_rng b, (if b < a then fd_n as 0 else i + 1), r) | _ => none
  | 106 => match st with | .inl b :: .inl a :: r => some (fd_rng a && fd_rng b, (if a ≤ b then fd_n as 0 else i + 1), r) | _ => none
  | 107 => match st with | .inl a :: r => some (fd_rng a, (if a = 0 then fd_n as 0 else i + 1), r) | _ => none
  | 108 => match st with | .inl a :: r => some (fd_rng a, (if ¬ a = 0 then fd_n as 0 else i + 1), r) | _ => none
  | 109 => match st with | .inl a :: r => some (fd_rng a, (if a < 0 then fd_n as 0 else i + 1), r) | _ => none
  | 110 => match st with | .inl a :: r => some (fd_rng a, (if 0 ≤ a then fd_n as 0 else i + 1), r) | _ => none
  | 111 => match st with | .inl a :: r => some (fd_rng a, (if 0 < a then fd_n as 0 else i + 1), r) | _ => none
  | 112 => match st with | .inl a :: r => some (fd_rng a, (if a ≤ 0 then fd_n as 0 else i + 1), r) | _ => none
  | 113 => match st with | .inl a :: r => some (fd_rng a, (if 0 ≤ a - fd_a as 1 ∧ a - fd_a as 1 < (as.length : Int) - 2 then fd_n as (2 + (a - fd_a as 1).toNat) else fd_n as 0), r) | _ => none
  | 118 => match st with | .inl a :: r => some (fd_rng a, (fd_look a (fd_a as 0) (as.drop 1)).toNat, r) | _ => none
  | _ => none
def fd_ret (rk op : Nat) (st : List fd_V) : Option (Bool × Option fd_V) := match op, st with
  | 114, [.inl a] => some (Nat.beq rk 1 || (Nat.beq rk 2 && fd_inb a 2), some (fd_I a))
  | 115, [.inr (.inl a)] => some (Nat.beq rk 3, some (fd_J a))
  | 116, [] => some (Nat.beq rk 0, none)
  | _, _ => none
def fd_cw (v : fd_V) : Nat := match v with
  | .inr (.inl _) => 2
  | _ => 1
def fd_n1 (v : fd_V) : Bool := match v with
  | .inr (.inl _) => false
  | .inr (.inr c) => Nat.blt c 1000
  | _ => true
/-- what a call asks of the stack: 120 a method of an object, 121 a static one, 122 a constructor -/
def fd_inv (ph : Bool) (op m np : Nat) (st : List fd_V) (M : fd_M) : Bool :=
  (Nat.ble np st.length && ((st.take np).all fd_n1 && Nat.ble ((st.drop np).map fd_cw).sum 8)) && (match op with
    | 120 => (match (st.take np).reverse with
      | .inr (.inr c) :: _ => fd_isO ph M c (fd_mc m)
      | _ => false)
    | 121 => true
    | _ => (match (st.take np).reverse with
      | .inr (.inr _) :: _ => true
      | _ => false))
def fd_pad (m : Nat) (args : List fd_V) : List fd_V := args ++ List.replicate (fd_mL m - args.length) (fd_R 1003)
/-- the run of a method from an instruction on: fuel, how deep it may still call -/
def fd_ex (ph : Bool) : Nat → Nat → Nat → Nat → List fd_V → List fd_V → fd_M → Option (Option fd_V × fd_M)
  | 0, _, _, _, _, _, _ => none
  | f + 1, d, m, i, ls, st, M => match (fd_code m)[i]? with
    | none => none
    | some (op, as) =>
      if op < 100 then
        match fd_nx ph op as ls st M with
        | some (true, ls', st', M') => fd_ex ph f d m (i + 1) ls' st' M'
        | _ => none
      else if op < 114 ∨ op = 118 then
        match fd_jmp op as i st with
        | some (true, j, st') => fd_ex ph f d m j ls st' M
        | _ => none
      else if op < 120 then
        match fd_ret (fd_rk m) op st with
        | some (true, r) => some (r, M)
        | _ => none
      else
        match d with
        | 0 => none
        | d' + 1 => if fd_inv ph op (fd_n as 0) (fd_n as 1) st M then
            match fd_ex ph f d' (fd_n as 0) 0 (fd_pad (fd_n as 0) (st.take (fd_n as 1)).reverse) [] M with
            | some (r, M') => fd_ex ph f (d' + 1) m (i + 1) ls (r.toList ++ st.drop (fd_n as 1)) M'
            | none => none
          else none
end
section
/-! numbers -/
theorem fd_oi (n : Nat) : Int32.ofInt (n : Int) = nI n := Int32.ofInt_eq_ofNat
theorem fd_inb_iff {i n : Int} : fd_inb i n = true ↔ 0 ≤ i ∧ i < n := by simp [fd_inb]
theorem fd_rng_iff {a : Int} : fd_rng a = true ↔ -2147483648 ≤ a ∧ a < 2147483648 := by simp [fd_rng]
theorem fd_toI {a : Int} (h : -2147483648 ≤ a ∧ a < 2147483648) : (Int32.ofInt a).toInt = a := Int32.toInt_ofInt_of_le (by omega) (by omega)
theorem fd_eqI {a b : Int} (ha : -2147483648 ≤ a ∧ a < 2147483648) (hb : -2147483648 ≤ b ∧ b < 2147483648) : Int32.ofInt a = Int32.ofInt b ↔ a = b := by rw [← Int32.toInt_inj, fd_toI ha, fd_toI hb]
theorem fd_ltI {a b : Int} (ha : -2147483648 ≤ a ∧ a < 2147483648) (hb : -2147483648 ≤ b ∧ b < 2147483648) : Int32.ofInt a < Int32.ofInt b ↔ a < b := by rw [Int32.lt_iff_toInt_lt, fd_toI ha, fd_toI hb]
theorem fd_leI {a b : Int} (ha : -2147483648 ≤ a ∧ a < 2147483648) (hb : -2147483648 ≤ b ∧ b < 2147483648) : Int32.ofInt a ≤ Int32.ofInt b ↔ a ≤ b := by rw [Int32.le_iff_toInt_le, fd_toI ha, fd_toI hb]
theorem fd_vin {i : Int} {n : Nat} (h : 0 ≤ i ∧ i < n) (hn : n < 2147483648) : vp_in (Int32.ofInt i) n ∧ (Int32.ofInt i).toNatClampNeg = i.toNat := by
  have e : (Int32.ofInt i).toInt = i := fd_toI (by omega)
  refine ⟨vp_in_iff.mpr (by rw [e]; exact h), ?_⟩
  show (Int32.ofInt i).toInt.toNat = i.toNat
  rw [e]
theorem fd_divI {a b : Int} (ha : 0 ≤ a ∧ a < 2147483648) (hb : 0 ≤ b - 1 ∧ b - 1 < 2147483647) : Int32.ofInt a / Int32.ofInt b = Int32.ofInt (a / b) ∧ Int32.ofInt a - Int32.ofInt a / Int32.ofInt b * Int32.ofInt b = Int32.ofInt (a % b) ∧ ¬ Int32.ofInt b = 0 := by
  obtain ⟨n, rfl⟩ := Int.eq_ofNat_of_zero_le ha.1
  obtain ⟨k, rfl⟩ := Int.eq_ofNat_of_zero_le (show 0 ≤ b by omega)
  have h1 : n < 2 ^ 31 := by omega
  have h2 : k < 2 ^ 31 := by omega
  have h3 : 0 < k := by omega
  rw [fd_oi, fd_oi, pk_rem h1 h3 h2, pk_div h1 h3 h2, ← Int.natCast_ediv, ← Int.natCast_emod, fd_oi, fd_oi]
  exact ⟨rfl, rfl, nI_ne0 h3 h2⟩
theorem fd_sl31 : ∀ n, n < 32 → ((nI n &&& 31).toBitVec.smod 32).toNat = n := by decide +kernel
theorem fd_su31 : ∀ n, n < 32 → (((nI n).toUInt32 &&& Int32.toUInt32 31).toBitVec % 32).toNat = n := by decide +kernel
theorem fd_shl1 : ∀ n, n < 32 → (1 : Int32) <<< (nI n &&& 31) = Int32.ofInt (2 ^ n) := by decide +kernel
theorem fd_lshl1 : ∀ n, n < 64 → (1 : Int64) <<< ((nI n).toInt64 &&& 63) = Int64.ofInt (2 ^ n) := by decide +kernel
theorem fd_shrI {a b : Int} (ha : 0 ≤ a ∧ a < 2147483648) (hb : 0 ≤ b ∧ b < 32) : Int32.ofInt a >>> (Int32.ofInt b &&& 31) = Int32.ofInt (a / 2 ^ b.toNat) ∧ ((Int32.ofInt a).toUInt32 >>> ((Int32.ofInt b).toUInt32 &&& Int32.toUInt32 31)).toInt32 = Int32.ofInt (a / 2 ^ b.toNat) := by
  obtain ⟨n, rfl⟩ := Int.eq_ofNat_of_zero_le ha.1
  obtain ⟨k, rfl⟩ := Int.eq_ofNat_of_zero_le hb.1
  have h1 : n < 2 ^ 31 := by omega
  have h2 : k < 32 := by omega
  have e : ((n : Int) / 2 ^ ((k : Int)).toNat) = ((n / 2 ^ k : Nat) : Int) := by
    rw [Int.toNat_natCast, Int.natCast_ediv]
    simp
  rw [e, fd_oi, fd_oi, fd_oi, pk_shrN h1 _ k (fd_sl31 k h2), pk_ushrN (by omega) _ k (fd_su31 k h2)]
  exact ⟨rfl, rfl⟩
/-! the world: base address, the two tables of steps, class numbers, array classes -/
abbrev fd_G : Type := Nat × Nat × Nat × va_G × (Nat → ClassId)
def fd_rv (g : fd_G) (c : Nat) : Value := if c < 1000 then .ref (g.1 + c) else if c = 1001 then .ref g.2.1 else if c = 1002 then .ref g.2.2.1 else .null
def fd_cv (g : fd_G) (v : fd_V) : Value := match v with
  | .inl a => .int (Int32.ofInt a)
  | .inr (.inl a) => .long (Int64.ofInt a)
  | .inr (.inr c) => fd_rv g c
theorem fd_rv_lt {g : fd_G} {c : Nat} (h : c < 1000) : fd_rv g c = .ref (g.1 + c) := if_pos h
theorem fd_cat (g : fd_G) (v : fd_V) : (fd_cv g v).category = fd_cw v := by
  rcases v with a | a | c
  · rfl
  · rfl
  · show (fd_rv g c).category = 1
    unfold fd_rv
    split
    · rfl
    · split
      · rfl
      · split <;> rfl
def fd_fv (g : fd_G) (ph : Bool) (M : fd_M) (ci c k : Nat) : Value := fd_cv g (fd_gf ph M (fd_kd (fd_ty ci k)) c k)
def fd_ro (g : fd_G) (x : Int) : Option Nat := if x.toNat < 1000 then some (g.1 + x.toNat) else none
def fd_ce (g : fd_G) (ph : Bool) (M : fd_M) (c : Nat) : va_E :=
  if (fd_SH c).1 < 20 then .inr ((fd_SH c).1, (List.range (fd_SH c).2).map (fun k => fd_fv g ph M (fd_SH c).1 c k))
  else if (fd_SH c).1 < 23 then .inl (g.2.2.2.2 (fd_SH c).1, (fd_SH c).2, .inl (fun j => Int32.ofInt (M c j)))
  else .inl (g.2.2.2.2 (fd_SH c).1, (fd_SH c).2, .inr (.inr (.inr (.inr (fun j => fd_ro g (M c j))))))
def fd_ws (g : fd_G) (ph : Bool) (M : fd_M) (n : Nat) : va_W := (List.range n).map (fun c => (g.1 + c, fd_ce g ph M c))
abbrev fd_ap (M : fd_M) : Nat := (M 5000 0).toNat
abbrev fd_A (g : fd_G) : Nat → Prop := fun q => g.1 ≤ q
def fd_hp (g : fd_G) (ph : Bool) (M : fd_M) (H : Heap) : Prop :=
  (ph = false → H.size = g.1 + fd_ap M) ∧ fd_ap M ≤ fd_NC ∧ 0 ≤ M 5000 0 ∧ (ph = true → fd_ap M = fd_NC) ∧ va_P g.2.2.2.1 fd_cl (fd_ws g ph M (fd_ap M)) H
theorem fd_ws_get {g : fd_G} {ph : Bool} {M : fd_M} {n c : Nat} (h : c < n) : (fd_ws g ph M n)[c]? = some (g.1 + c, fd_ce g ph M c) := by
  simp [fd_ws, List.getElem?_map, List.getElem?_range h]
theorem fd_ws_D {g : fd_G} {ph : Bool} {M : fd_M} {n : Nat} : va_D (fd_A g) (fd_ws g ph M n) := by
  have key : ∀ (i : Nat) (p : Nat × va_E), (fd_ws g ph M n)[i]? = some p → p.1 = g.1 + i := by
    intro i p hp
    have hl : i < n := by
      have := (List.getElem?_eq_some_iff.mp hp).1
      simpa [fd_ws] using this
    rw [fd_ws_get hl] at hp
    cases hp
    rfl
  refine ⟨fun i j p q hp hq e => ?_, fun k q hq => ?_⟩
  · have := key i p hp
    have := key j q hq
    omega
  · have := key k q hq
    show g.1 ≤ q.1
    omega
theorem fd_ce_congr {g : fd_G} {ph : Bool} {M M' : fd_M} {c : Nat} (h : M' c = M c) : fd_ce g ph M' c = fd_ce g ph M c := by
  have h1 : ∀ ci k, fd_fv g ph M' ci c k = fd_fv g ph M ci c k := fun ci k => by
    unfold fd_fv fd_gf fd_rf
    rw [h]
  unfold fd_ce
  simp only [h1, h]
theorem fd_ws_set {g : fd_G} {ph : Bool} {M M' : fd_M} {n c : Nat} {x : Nat × va_E} (hx : x = (g.1 + c, fd_ce g ph M' c)) (ho : ∀ c', c' < n → c' ≠ c → M' c' = M c') : (fd_ws g ph M n).set c x = fd_ws g ph M' n := by
  subst hx
  apply List.ext_getElem?
  intro i
  by_cases hi : i < n
  · by_cases hc : c = i
    · subst hc
      rw [List.getElem?_set_self (by simpa [fd_ws] using hi), fd_ws_get hi]
    · rw [List.getElem?_set_ne hc, fd_ws_get hi, fd_ws_get hi, fd_ce_congr (ho i hi (fun q => hc q.symm))]
  · rw [List.getElem?_eq_none (by simpa [fd_ws] using hi), List.getElem?_eq_none (by simpa [fd_ws] using hi)]
/-- what the tables say at a state: classes, array classes, words, the two tables of steps -/
def fd_tys (g : fd_G) : List (ClassId × FieldType) := [(g.2.2.2.2 20, .int), (g.2.2.2.2 21, .byte), (g.2.2.2.2 22, .boolean), (g.2.2.2.2 23, .object "FacingDoors$Scene"), (g.2.2.2.2 24, .object "FacingDoors$Image")]
def fd_nest (w : Jvm.Cond) : Bool := match w with
  | .fieldLinkNest .. => true
  | .methodLinkNest .. => true
  | .arrayOver (.object _) => true
  | _ => false
def fd_gtbl : List Jvm.Cond := lw_tbl.filter goodWord
def fd_ntbl : List Jvm.Cond := lw_tbl.filter fd_nest
/-- the words that a frame holds: those that go over into calls -/
def fd_tbl : List Jvm.Cond := lw_tbl.filter (fun w => goodWord w || fd_nest w)
theorem fd_mt {w : Jvm.Cond} (h : w ∈ lw_tbl) (hg : (goodWord w || fd_nest w) = true := by rfl) : w ∈ fd_tbl := List.mem_filter.mpr ⟨h, hg⟩
def fd_St (g : fd_G) (U : State) (H : Heap) : Prop :=
  va_Z "FacingDoors" "STEP_X" "[I" (.ref g.2.1) (fd_A g) U H ∧ va_T .int g.2.1 4 (fun j => .int (Int32.ofInt (fd_sx j))) (fd_A g) U H ∧
  va_Z "FacingDoors" "STEP_Y" "[I" (.ref g.2.2.1) (fd_A g) U H ∧ va_T .int g.2.2.1 4 (fun j => .int (Int32.ofInt (fd_sy j))) (fd_A g) U H
def fd_Kn (g : fd_G) (U : State) (H : Heap) : Prop := va_K g.2.2.2.1 fd_cl (fd_tys g) U ∧ (∀ w ∈ fd_ntbl, va_Nw w U) ∧ fd_St g U H
theorem fd_Nw_moved {s U : State} {w : Jvm.Cond} (hw : w ∈ fd_ntbl) (hW : s.WarmedH U.vm) (h : va_Nw w s) : va_Nw w U := by
  have h1 : fd_nest w = true := (List.mem_filter.mp hw).2
  cases w <;> first | exact va_Nw.warmF hW h | exact va_Nw.warmM hW h | skip
  case arrayOver t =>
    cases t with
    | object C => exact va_AO.moved hW.alike h
    | _ => cases h1
  all_goals cases h1
theorem fd_Kn_moved {g : fd_G} {s U : State} {H H1 : Heap} (hW : s.WarmedH U.vm) (hk : ∀ q : Nat, q < H.size → ¬ fd_A g q → H1[q]? = H[q]?) (h : fd_Kn g s H) : fd_Kn g U H1 :=
  ⟨va_K.moved hW.alike h.1, fun w hw => fd_Nw_moved hw hW (h.2.1 w hw), (va_Z.moved hW.alike h.2.2.1).kept hk, (va_T.moved hW.alike h.2.2.2.1).kept hk, (va_Z.moved hW.alike h.2.2.2.2.1).kept hk, (va_T.moved hW.alike h.2.2.2.2.2).kept hk⟩
theorem fd_words {s : State} {args : Array Value} (h1 : ∀ w ∈ fd_gtbl, w.before args s = true) (h2 : ∀ w ∈ fd_ntbl, va_Nw w s) : ∀ w ∈ fd_tbl, w.before args s = true := by
  intro w hw0
  obtain ⟨hw, hq⟩ := List.mem_filter.mp hw0
  clear hw0
  cases hg : goodWord w with
  | true => exact h1 w (List.mem_filter.mpr ⟨hw, hg⟩)
  | false =>
    have h3 : fd_nest w = true := by rw [hg] at hq; exact hq
    have h4 := h2 w (List.mem_filter.mpr ⟨hw, h3⟩)
    cases w <;> first | exact va_Nw.use rfl h4 | skip
    case arrayOver t =>
      cases t with
      | object C => exact va_AO.use h4
      | _ => cases h3
    all_goals cases h3
end
section
/-! locals -/
def fd_as (g : fd_G) (L : List fd_V) : List (Nat × Value) := (List.range L.length).filterMap (fun k => match L[k]? with
  | some v => if v = fd_R 1003 then none else some (k, fd_cv g v)
  | none => none)
theorem fd_as_mem {g : fd_G} {L : List fd_V} {k : Nat} {w : Value} : (k, w) ∈ fd_as g L ↔ ∃ v, L[k]? = some v ∧ v ≠ fd_R 1003 ∧ w = fd_cv g v := by
  unfold fd_as
  rw [List.mem_filterMap]
  constructor
  · rintro ⟨j, -, hj⟩
    cases hv : L[j]? with
    | none => rw [hv] at hj; cases hj
    | some v =>
      rw [hv] at hj
      by_cases h : v = fd_R 1003
      · simp only [h, if_true] at hj; cases hj
      · simp only [if_neg h] at hj
        cases hj
        exact ⟨v, hv, h, rfl⟩
  · rintro ⟨v, hv, h, rfl⟩
    refine ⟨k, List.mem_range.mpr (List.getElem?_eq_some_iff.mp hv).1, ?_⟩
    rw [hv]
    simp only [if_neg h]
def fd_lr (g : fd_G) (la : Array Slot) (nL : Nat) (L : List fd_V) : Prop := L.length = nL ∧ (∀ v ∈ L, fd_cw v = 1) ∧ lv_has la nL (fd_as g L)
theorem fd_lr_get {g : fd_G} {la : Array Slot} {nL k : Nat} {L : List fd_V} {v : fd_V} (h : fd_lr g la nL L) (hk : L[k]? = some v) (hv : v ≠ fd_R 1003) : la[k]? = some (.val (fd_cv g v)) := h.2.2.2.2 (k, fd_cv g v) (fd_as_mem.mpr ⟨v, hk, hv, rfl⟩)
theorem fd_lr_set {g : fd_G} {la la' : Array Slot} {nL k : Nat} {L : List fd_V} {v : fd_V} (h : fd_lr g la nL L) (hk : k < nL) (hv : fd_cw v = 1) (h' : lv_has la' nL ((k, fd_cv g v) :: (fd_as g L).filter (fun q => !(q.1 == k) && !(q.1 + 1 == k && q.2.category == 2)))) : fd_lr g la' nL (L.set k v) := by
  refine ⟨by rw [List.length_set]; exact h.1, fun w hw => ?_, h'.1, h'.2.1, fun q hq => ?_⟩
  · rcases List.mem_or_eq_of_mem_set hw with hw | rfl
    · exact h.2.1 w hw
    · exact hv
  · obtain ⟨j, w⟩ := q
    obtain ⟨x, hx, hne, rfl⟩ := fd_as_mem.mp hq
    refine h'.2.2 _ ?_
    by_cases hj : j = k
    · subst hj
      rw [List.getElem?_set_self (by have := h.1; omega)] at hx
      cases hx
      exact List.mem_cons_self
    · rw [List.getElem?_set_ne (fun q => hj q.symm)] at hx
      refine List.mem_cons_of_mem _ (List.mem_filter.mpr ⟨fd_as_mem.mpr ⟨x, hx, hne, rfl⟩, ?_⟩)
      have h1 : (fd_cv g x).category = 1 := by rw [fd_cat]; exact h.2.1 x (List.mem_of_getElem? hx)
      simp [hj, h1]
/-! inversion -/
theorem fd_pI_inv {st : List fd_V} {F : Int → List fd_V → fd_Rs} {y} (h : fd_pI st F = some y) : ∃ a r, st = .inl a :: r ∧ F a r = some y := by
  unfold fd_pI at h
  split at h
  · exact ⟨_, _, rfl, h⟩
  · cases h
theorem fd_pJ_inv {st : List fd_V} {F : Int → List fd_V → fd_Rs} {y} (h : fd_pJ st F = some y) : ∃ a r, st = .inr (.inl a) :: r ∧ F a r = some y := by
  unfold fd_pJ at h
  split at h
  · exact ⟨_, _, rfl, h⟩
  · cases h
theorem fd_pR_inv {st : List fd_V} {F : Nat → List fd_V → fd_Rs} {y} (h : fd_pR st F = some y) : ∃ a r, st = .inr (.inr a) :: r ∧ F a r = some y := by
  unfold fd_pR at h
  split at h
  · exact ⟨_, _, rfl, h⟩
  · cases h
theorem fd_lI_inv {v : Option fd_V} {F : Int → fd_Rs} {y} (h : fd_lI v F = some y) : ∃ a, v = some (.inl a) ∧ F a = some y := by
  unfold fd_lI at h
  split at h
  · exact ⟨_, rfl, h⟩
  · cases h
theorem fd_lR_inv {v : Option fd_V} {F : Nat → fd_Rs} {y} (h : fd_lR v F = some y) : ∃ a, v = some (.inr (.inr a)) ∧ F a = some y := by
  unfold fd_lR at h
  split at h
  · exact ⟨_, rfl, h⟩
  · cases h
theorem fd_some4 {b : Bool} {x x' y y' : List fd_V} {z z' : fd_M} (h : (some (b, x, y, z) : fd_Rs) = some (true, x', y', z')) : b = true ∧ x = x' ∧ y = y' ∧ z = z' := by
  cases h
  exact ⟨rfl, rfl, rfl, rfl⟩
/-! the rows of the check at a place -/
theorem fd_okL_at {own : String} {b : ByteArray} {ini : Bool} {pcs : List Nat} : ∀ (r : List fd_Ins) (q : List Nat), fd_okL own b ini pcs r q = true → ∀ (i : Nat) (op : Nat) (as : List Int), r[i]? = some (op, as) → ∃ pc, q[i]? = some pc ∧ fd_okI own b ini pcs pc (q.getD (i + 1) 0) op as = true
  | [], [], _, i, op, as, h => by simp at h
  | [], _ :: _, h, _, _, _, _ => by cases h
  | _ :: _, [], h, _, _, _, _ => by cases h
  | (op', as') :: r, pc :: q, h, i, op, as, hi => by
    rw [fd_okL, Bool.and_eq_true] at h
    cases i with
    | zero =>
      cases hi
      exact ⟨pc, rfl, by
        have := h.1
        cases q <;> exact this⟩
    | succ i =>
      obtain ⟨pc', h1, h2⟩ := fd_okL_at r q h.2 i op as hi
      exact ⟨pc', h1, h2⟩
theorem fd_ok_at {mm i op : Nat} {as : List Int} (hm : mm < 177) (hi : (fd_code mm)[i]? = some (op, as)) : ∃ pc, (fd_pcs mm)[i]? = some pc ∧ fd_okI (fd_y mm).cls (fd_b mm) (fd_ini mm) (fd_pcs mm) pc ((fd_pcs mm).getD (i + 1) 0) op as = true := by
  have h := fd_okAll mm hm
  rw [fd_okC, Bool.and_eq_true] at h
  exact fd_okL_at _ _ h.2 i op as hi
theorem fd_okMM {mm : Nat} (hm : mm < 177) : fd_okM mm = true := by
  have h := fd_okAll mm hm
  rw [fd_okC, Bool.and_eq_true] at h
  exact h.1
theorem fd_wd_mem {p : Nat} {w : Jvm.Cond} (h : fd_wd p w = true) (hg : (goodWord w || fd_nest w) = true := by rfl) : w ∈ fd_tbl := fd_mt (List.mem_of_getElem? (of_decide_eq_true h)) hg
theorem fd_wd_memL {p : Nat} {w : Jvm.Cond} (h : fd_wd p w = true) : w ∈ lw_tbl := List.mem_of_getElem? (of_decide_eq_true h)
theorem fd_dc_inv {b : ByteArray} {pc nx : Nat} {I : Instr} {len : Nat} (h : fd_dc b pc nx I len = true) : decode b pc = .ok (I, len) ∧ nx = pc + len := by
  rw [fd_dc, Bool.and_eq_true] at h
  exact ⟨of_decide_eq_true h.1, of_decide_eq_true h.2⟩
theorem fd_nxt {q : List Nat} {j pc len : Nat} (h : q.getD j 0 = pc + len) (hl : 0 < len) : q[j]? = some (pc + len) := by
  rw [List.getD_eq_getElem?_getD] at h
  cases hj : q[j]? with
  | none => rw [hj] at h; simp at h; omega
  | some x => rw [hj] at h; simp at h; rw [h]
/-! what is so of the cells' shapes -/
def fd_shOk (c : Nat) : Bool := decide ((fd_SH c).1 < 20 → (fd_SH c).1 < 11 ∧ (fd_clD (fd_SH c).1).2.2 = (fd_SH c).2) && decide ((fd_SH c).2 < 1000 ∧ ((fd_SH c).1 ≤ 24))
theorem fd_sh_all : (List.range 213).all fd_shOk = true := by decide +kernel
theorem fd_sh_out {c : Nat} (h : 213 ≤ c) : fd_SH c = (99, 0) := by
  unfold fd_SH
  simp only [Bool.cond_eq_ite, Nat.ble_eq]
  repeat (first | rw [if_pos (by omega)])
theorem fd_sh_at {c : Nat} (h : (fd_SH c).1 ≤ 24) : c < 213 ∧ ((fd_SH c).1 < 20 → (fd_SH c).1 < 11 ∧ (fd_clD (fd_SH c).1).2.2 = (fd_SH c).2) ∧ (fd_SH c).2 < 1000 := by
  have hc : c < 213 := by
    rcases Nat.lt_or_ge c 213 with q | q
    · exact q
    · rw [fd_sh_out q] at h
      exact absurd h (by decide)
  have h1 := List.all_eq_true.mp fd_sh_all c (List.mem_range.mpr hc)
  rw [fd_shOk, Bool.and_eq_true] at h1
  exact ⟨hc, of_decide_eq_true h1.1, (of_decide_eq_true h1.2).1⟩
def fd_sl (n : Nat) : Nat := ((List.range n).map (fun c => (fd_SH c).2)).sum
theorem fd_sl_succ (n : Nat) : fd_sl (n + 1) = fd_sl n + (fd_SH n).2 := by
  simp [fd_sl, List.range_succ]
/-- a class by its number -/
theorem fd_clD_get {ci : Nat} (h : ci < 11) : fd_cl[ci]? = some (fd_clD ci) := by
  rcases ci with _ | _ | _ | _ | _ | _ | _ | _ | _ | _ | _ | ci <;> first | rfl | omega
def fd_clOk (ci : Nat) : Bool := (u_ws (fd_clD ci).1 (fd_clD ci).2.1 (fd_clD ci).2.2).all (fun w => decide (w ∈ lw_tbl) && goodWord w) &&
  (decide (.instantiable (fd_clD ci).1 (fd_clD ci).2.2 ∈ lw_tbl ∧ Jvm.Cond.initialized (fd_clD ci).1 ∈ lw_tbl) &&
  decide ((∀ a, a < (fd_clD ci).2.2 → ∀ b, b < (fd_clD ci).2.2 → a ≠ b → ((fd_clD ci).2.1 a).2.1 ≠ ((fd_clD ci).2.1 b).2.1) ∧ ∀ k, k < (fd_clD ci).2.2 → parseFieldDescriptor ((fd_clD ci).2.1 k).2.2.1 = some (fd_ty ci k)))
theorem fd_cl_all : (List.range 11).all fd_clOk = true := by decide +kernel
theorem fd_cl_at {ci : Nat} (h : ci < 11) : (∀ w ∈ u_ws (fd_clD ci).1 (fd_clD ci).2.1 (fd_clD ci).2.2, w ∈ fd_tbl) ∧ Jvm.Cond.instantiable (fd_clD ci).1 (fd_clD ci).2.2 ∈ fd_tbl ∧ Jvm.Cond.initialized (fd_clD ci).1 ∈ fd_tbl ∧ (∀ a, a < (fd_clD ci).2.2 → ∀ b, b < (fd_clD ci).2.2 → a ≠ b → ((fd_clD ci).2.1 a).2.1 ≠ ((fd_clD ci).2.1 b).2.1) ∧ ∀ k, k < (fd_clD ci).2.2 → parseFieldDescriptor ((fd_clD ci).2.1 k).2.2.1 = some (fd_ty ci k) := by
  have h1 := List.all_eq_true.mp fd_cl_all ci (List.mem_range.mpr h)
  rw [fd_clOk, Bool.and_eq_true, Bool.and_eq_true] at h1
  have h2 := of_decide_eq_true h1.2.1
  have h3 := of_decide_eq_true h1.2.2
  exact ⟨fun w hw => by
    have q := List.all_eq_true.mp h1.1 w hw
    rw [Bool.and_eq_true] at q
    exact fd_mt (of_decide_eq_true q.1) (by rw [q.2]; rfl), fd_mt h2.1, fd_mt h2.2, h3.1, h3.2⟩
end
section
section fdK
variable {g : fd_G} {ph : Bool} {p : Program} {l : Launch} {e : Env} {R : Room} {s : State} {m : MethodId} {args : Array Value} {below : List Frame} {meth : Method} {c : Code} {mm a0 i pc : Nat} {Q : State → Prop} {as : List Int} {L L' st st' : List fd_V} {M M' : fd_M} {H : Heap} {locs : List Loc} {la : Array Slot}
def fd_cx (g : fd_G) (p : Program) (R : Room) (s : State) (m : MethodId) (args : Array Value) (meth : Method) (c : Code) (mm : Nat) : Prop :=
  p.tables.exec = Jvm.exec ∧ c.code = fd_b mm ∧ c.maxLocals = fd_mL mm ∧ meth.sig.returnType = fd_r mm ∧ s.vm.findClass (fd_y mm).cls = some m.cls ∧ (∀ w ∈ fd_tbl, w.before args s = true) ∧ meth.locks = false ∧ (fd_ini mm = true → meth.name = "<init>") ∧ fd_Kn g s s.heap ∧ g.1 ≤ s.heap.size ∧ mm < 177 ∧ 5 ≤ R.frames ∧ 200 ≤ R.locals
def fd_Go (g : fd_G) (ph : Bool) (p : Program) (l : Launch) (e : Env) (R : Room) (s : State) (m : MethodId) (args : Array Value) (below : List Frame) (meth : Method) (c : Code) (mm a0 : Nat) (Q : State → Prop) (i : Nat) (L st : List fd_V) (M : fd_M) : Prop :=
  ∀ (pc : Nat) (H : Heap) (locs : List Loc) (la : Array Slot), (fd_pcs mm)[i]? = some pc → fd_hp g ph M H → va_S (fd_A g) s.heap H locs → fd_lr g la (fd_mL mm) L → W p l e R s m args below meth c H locs (fd_ap M - a0) (fd_sl (fd_ap M) - fd_sl a0) Q (F0 m pc la (st.map (fd_cv g)))
theorem fd_k6 (cx : fd_cx g p R s m args meth c mm) (hok : fd_okI (fd_y mm).cls (fd_b mm) (fd_ini mm) (fd_pcs mm) pc ((fd_pcs mm).getD (i + 1) 0) 6 as = true) (hn : fd_nx ph 6 as L st M = some (true, L', st', M')) (kk : fd_Go g ph p l e R s m args below meth c mm a0 Q (i + 1) L' st' M') (hH : fd_hp g ph M H) (hS : va_S (fd_A g) s.heap H locs) (hl : fd_lr g la (fd_mL mm) L) : W p l e R s m args below meth c H locs (fd_ap M - a0) (fd_sl (fd_ap M) - fd_sl a0) Q (F0 m pc la (st.map (fd_cv g))) := by
  obtain ⟨hd, hx⟩ := fd_dc_inv (show fd_dc (fd_b mm) pc _ .iadd 1 = true from hok)
  obtain ⟨b, r, rfl, hn⟩ := fd_pI_inv hn
  obtain ⟨a, r, rfl, hn⟩ := fd_pI_inv hn
  obtain ⟨hg, rfl, rfl, rfl⟩ := fd_some4 hn
  have k1 := kk (pc + 1) H locs la (fd_nxt hx (by decide)) hH hS hl
  refine lv_iadd cx.1 cx.2.1 hd ?_
  rw [← Int32.ofInt_add]
  exact k1
theorem fd_k7 (cx : fd_cx g p R s m args meth c mm) (hok : fd_okI (fd_y mm).cls (fd_b mm) (fd_ini mm) (fd_pcs mm) pc ((fd_pcs mm).getD (i + 1) 0) 7 as = true) (hn : fd_nx ph 7 as L st M = some (true, L', st', M')) (kk : fd_Go g ph p l e R s m args below meth c mm a0 Q (i + 1) L' st' M') (hH : fd_hp g ph M H) (hS : va_S (fd_A g) s.heap H locs) (hl : fd_lr g la (fd_mL mm) L) : W p l e R s m args below meth c H locs (fd_ap M - a0) (fd_sl (fd_ap M) - fd_sl a0) Q (F0 m pc la (st.map (fd_cv g))) := by
  obtain ⟨hd, hx⟩ := fd_dc_inv (show fd_dc (fd_b mm) pc _ .isub 1 = true from hok)
  obtain ⟨b, r, rfl, hn⟩ := fd_pI_inv hn
  obtain ⟨a, r, rfl, hn⟩ := fd_pI_inv hn
  obtain ⟨hg, rfl, rfl, rfl⟩ := fd_some4 hn
  have k1 := kk (pc + 1) H locs la (fd_nxt hx (by decide)) hH hS hl
  refine lv_isub cx.1 cx.2.1 hd ?_
  rw [← Int32.ofInt_sub]
  exact k1
theorem fd_k8 (cx : fd_cx g p R s m args meth c mm) (hok : fd_okI (fd_y mm).cls (fd_b mm) (fd_ini mm) (fd_pcs mm) pc ((fd_pcs mm).getD (i + 1) 0) 8 as = true) (hn : fd_nx ph 8 as L st M = some (true, L', st', M')) (kk : fd_Go g ph p l e R s m args below meth c mm a0 Q (i + 1) L' st' M') (hH : fd_hp g ph M H) (hS : va_S (fd_A g) s.heap H locs) (hl : fd_lr g la (fd_mL mm) L) : W p l e R s m args below meth c H locs (fd_ap M - a0) (fd_sl (fd_ap M) - fd_sl a0) Q (F0 m pc la (st.map (fd_cv g))) := by
  obtain ⟨hd, hx⟩ := fd_dc_inv (show fd_dc (fd_b mm) pc _ .imul 1 = true from hok)
  obtain ⟨b, r, rfl, hn⟩ := fd_pI_inv hn
  obtain ⟨a, r, rfl, hn⟩ := fd_pI_inv hn
  obtain ⟨hg, rfl, rfl, rfl⟩ := fd_some4 hn
  have k1 := kk (pc + 1) H locs la (fd_nxt hx (by decide)) hH hS hl
  refine lv_imul cx.1 cx.2.1 hd ?_
  rw [← Int32.ofInt_mul]
  exact k1
theorem fd_k9 (cx : fd_cx g p R s m args meth c mm) (hok : fd_okI (fd_y mm).cls (fd_b mm) (fd_ini mm) (fd_pcs mm) pc ((fd_pcs mm).getD (i + 1) 0) 9 as = true) (hn : fd_nx ph 9 as L st M = some (true, L', st', M')) (kk : fd_Go g ph p l e R s m args below meth c mm a0 Q (i + 1) L' st' M') (hH : fd_hp g ph M H) (hS : va_S (fd_A g) s.heap H locs) (hl : fd_lr g la (fd_mL mm) L) : W p l e R s m args below meth c H locs (fd_ap M - a0) (fd_sl (fd_ap M) - fd_sl a0) Q (F0 m pc la (st.map (fd_cv g))) := by
  obtain ⟨hd, hx⟩ := fd_dc_inv (show fd_dc (fd_b mm) pc _ .idiv 1 = true from hok)
  obtain ⟨b, r, rfl, hn⟩ := fd_pI_inv hn
  obtain ⟨a, r, rfl, hn⟩ := fd_pI_inv hn
  obtain ⟨hg, rfl, rfl, rfl⟩ := fd_some4 hn
  have k1 := kk (pc + 1) H locs la (fd_nxt hx (by decide)) hH hS hl
  rw [Bool.and_eq_true, fd_inb_iff, fd_inb_iff] at hg
  obtain ⟨e1, e2, e3⟩ := fd_divI hg.1 hg.2
  refine lv_idiv cx.1 cx.2.1 hd e3 ?_
  rw [e1]
  exact k1
theorem fd_k10 (cx : fd_cx g p R s m args meth c mm) (hok : fd_okI (fd_y mm).cls (fd_b mm) (fd_ini mm) (fd_pcs mm) pc ((fd_pcs mm).getD (i + 1) 0) 10 as = true) (hn : fd_nx ph 10 as L st M = some (true, L', st', M')) (kk : fd_Go g ph p l e R s m args below meth c mm a0 Q (i + 1) L' st' M') (hH : fd_hp g ph M H) (hS : va_S (fd_A g) s.heap H locs) (hl : fd_lr g la (fd_mL mm) L) : W p l e R s m args below meth c H locs (fd_ap M - a0) (fd_sl (fd_ap M) - fd_sl a0) Q (F0 m pc la (st.map (fd_cv g))) := by
  obtain ⟨hd, hx⟩ := fd_dc_inv (show fd_dc (fd_b mm) pc _ .irem 1 = true from hok)
  obtain ⟨b, r, rfl, hn⟩ := fd_pI_inv hn
  obtain ⟨a, r, rfl, hn⟩ := fd_pI_inv hn
  obtain ⟨hg, rfl, rfl, rfl⟩ := fd_some4 hn
  have k1 := kk (pc + 1) H locs la (fd_nxt hx (by decide)) hH hS hl
  rw [Bool.and_eq_true, fd_inb_iff, fd_inb_iff] at hg
  obtain ⟨e1, e2, e3⟩ := fd_divI hg.1 hg.2
  refine lv_irem cx.1 cx.2.1 hd e3 ?_
  rw [e2]
  exact k1
theorem fd_k11 (cx : fd_cx g p R s m args meth c mm) (hok : fd_okI (fd_y mm).cls (fd_b mm) (fd_ini mm) (fd_pcs mm) pc ((fd_pcs mm).getD (i + 1) 0) 11 as = true) (hn : fd_nx ph 11 as L st M = some (true, L', st', M')) (kk : fd_Go g ph p l e R s m args below meth c mm a0 Q (i + 1) L' st' M') (hH : fd_hp g ph M H) (hS : va_S (fd_A g) s.heap H locs) (hl : fd_lr g la (fd_mL mm) L) : W p l e R s m args below meth c H locs (fd_ap M - a0) (fd_sl (fd_ap M) - fd_sl a0) Q (F0 m pc la (st.map (fd_cv g))) := by
  obtain ⟨hd, hx⟩ := fd_dc_inv (show fd_dc (fd_b mm) pc _ .iand 1 = true from hok)
  obtain ⟨b, r, rfl, hn⟩ := fd_pI_inv hn
  obtain ⟨a, r, rfl, hn⟩ := fd_pI_inv hn
  obtain ⟨hg, rfl, rfl, rfl⟩ := fd_some4 hn
  have k1 := kk (pc + 1) H locs la (fd_nxt hx (by decide)) hH hS hl
  refine lv_iand cx.1 cx.2.1 hd ?_
  have e1 : Int32.ofInt (fd_and a b) = _ := Int32.ofInt_toInt _
  rw [← e1]
  exact k1
theorem fd_k12 (cx : fd_cx g p R s m args meth c mm) (hok : fd_okI (fd_y mm).cls (fd_b mm) (fd_ini mm) (fd_pcs mm) pc ((fd_pcs mm).getD (i + 1) 0) 12 as = true) (hn : fd_nx ph 12 as L st M = some (true, L', st', M')) (kk : fd_Go g ph p l e R s m args below meth c mm a0 Q (i + 1) L' st' M') (hH : fd_hp g ph M H) (hS : va_S (fd_A g) s.heap H locs) (hl : fd_lr g la (fd_mL mm) L) : W p l e R s m args below meth c H locs (fd_ap M - a0) (fd_sl (fd_ap M) - fd_sl a0) Q (F0 m pc la (st.map (fd_cv g))) := by
  obtain ⟨hd, hx⟩ := fd_dc_inv (show fd_dc (fd_b mm) pc _ .ior 1 = true from hok)
  obtain ⟨b, r, rfl, hn⟩ := fd_pI_inv hn
  obtain ⟨a, r, rfl, hn⟩ := fd_pI_inv hn
  obtain ⟨hg, rfl, rfl, rfl⟩ := fd_some4 hn
  have k1 := kk (pc + 1) H locs la (fd_nxt hx (by decide)) hH hS hl
  refine lv_ior cx.1 cx.2.1 hd ?_
  have e1 : Int32.ofInt (fd_or a b) = _ := Int32.ofInt_toInt _
  rw [← e1]
  exact k1
theorem fd_k13 (cx : fd_cx g p R s m args meth c mm) (hok : fd_okI (fd_y mm).cls (fd_b mm) (fd_ini mm) (fd_pcs mm) pc ((fd_pcs mm).getD (i + 1) 0) 13 as = true) (hn : fd_nx ph 13 as L st M = some (true, L', st', M')) (kk : fd_Go g ph p l e R s m args below meth c mm a0 Q (i + 1) L' st' M') (hH : fd_hp g ph M H) (hS : va_S (fd_A g) s.heap H locs) (hl : fd_lr g la (fd_mL mm) L) : W p l e R s m args below meth c H locs (fd_ap M - a0) (fd_sl (fd_ap M) - fd_sl a0) Q (F0 m pc la (st.map (fd_cv g))) := by
  obtain ⟨hd, hx⟩ := fd_dc_inv (show fd_dc (fd_b mm) pc _ .ixor 1 = true from hok)
  obtain ⟨b, r, rfl, hn⟩ := fd_pI_inv hn
  obtain ⟨a, r, rfl, hn⟩ := fd_pI_inv hn
  obtain ⟨hg, rfl, rfl, rfl⟩ := fd_some4 hn
  have k1 := kk (pc + 1) H locs la (fd_nxt hx (by decide)) hH hS hl
  refine lv_ixor cx.1 cx.2.1 hd ?_
  have e1 : Int32.ofInt (fd_xor a b) = _ := Int32.ofInt_toInt _
  rw [← e1]
  exact k1
theorem fd_k14 (cx : fd_cx g p R s m args meth c mm) (hok : fd_okI (fd_y mm).cls (fd_b mm) (fd_ini mm) (fd_pcs mm) pc ((fd_pcs mm).getD (i + 1) 0) 14 as = true) (hn : fd_nx ph 14 as L st M = some (true, L', st', M')) (kk : fd_Go g ph p l e R s m args below meth c mm a0 Q (i + 1) L' st' M') (hH : fd_hp g ph M H) (hS : va_S (fd_A g) s.heap H locs) (hl : fd_lr g la (fd_mL mm) L) : W p l e R s m args below meth c H locs (fd_ap M - a0) (fd_sl (fd_ap M) - fd_sl a0) Q (F0 m pc la (st.map (fd_cv g))) := by
  obtain ⟨hd, hx⟩ := fd_dc_inv (show fd_dc (fd_b mm) pc _ .ishl 1 = true from hok)
  obtain ⟨b, r, rfl, hn⟩ := fd_pI_inv hn
  obtain ⟨a, r, rfl, hn⟩ := fd_pI_inv hn
  obtain ⟨hg, rfl, rfl, rfl⟩ := fd_some4 hn
  have k1 := kk (pc + 1) H locs la (fd_nxt hx (by decide)) hH hS hl
  rw [Bool.and_eq_true, fd_inb_iff] at hg
  obtain ⟨h1, h2⟩ := hg
  have h1 := of_decide_eq_true h1
  subst h1
  obtain ⟨n, rfl⟩ := Int.eq_ofNat_of_zero_le h2.1
  refine lv_ishl cx.1 cx.2.1 hd ?_
  have e1 := fd_shl1 n (by omega)
  rw [fd_oi, show Int32.ofInt 1 = (1 : Int32) from rfl, e1]
  exact k1
theorem fd_k15 (cx : fd_cx g p R s m args meth c mm) (hok : fd_okI (fd_y mm).cls (fd_b mm) (fd_ini mm) (fd_pcs mm) pc ((fd_pcs mm).getD (i + 1) 0) 15 as = true) (hn : fd_nx ph 15 as L st M = some (true, L', st', M')) (kk : fd_Go g ph p l e R s m args below meth c mm a0 Q (i + 1) L' st' M') (hH : fd_hp g ph M H) (hS : va_S (fd_A g) s.heap H locs) (hl : fd_lr g la (fd_mL mm) L) : W p l e R s m args below meth c H locs (fd_ap M - a0) (fd_sl (fd_ap M) - fd_sl a0) Q (F0 m pc la (st.map (fd_cv g))) := by
  obtain ⟨hd, hx⟩ := fd_dc_inv (show fd_dc (fd_b mm) pc _ .ishr 1 = true from hok)
  obtain ⟨b, r, rfl, hn⟩ := fd_pI_inv hn
  obtain ⟨a, r, rfl, hn⟩ := fd_pI_inv hn
  obtain ⟨hg, rfl, rfl, rfl⟩ := fd_some4 hn
  have k1 := kk (pc + 1) H locs la (fd_nxt hx (by decide)) hH hS hl
  rw [Bool.and_eq_true, fd_inb_iff, fd_inb_iff] at hg
  obtain ⟨e1, e2⟩ := fd_shrI hg.1 hg.2
  refine lv_ishr cx.1 cx.2.1 hd ?_
  rw [e1]
  exact k1
theorem fd_k16 (cx : fd_cx g p R s m args meth c mm) (hok : fd_okI (fd_y mm).cls (fd_b mm) (fd_ini mm) (fd_pcs mm) pc ((fd_pcs mm).getD (i + 1) 0) 16 as = true) (hn : fd_nx ph 16 as L st M = some (true, L', st', M')) (kk : fd_Go g ph p l e R s m args below meth c mm a0 Q (i + 1) L' st' M') (hH : fd_hp g ph M H) (hS : va_S (fd_A g) s.heap H locs) (hl : fd_lr g la (fd_mL mm) L) : W p l e R s m args below meth c H locs (fd_ap M - a0) (fd_sl (fd_ap M) - fd_sl a0) Q (F0 m pc la (st.map (fd_cv g))) := by
  obtain ⟨hd, hx⟩ := fd_dc_inv (show fd_dc (fd_b mm) pc _ .iushr 1 = true from hok)
  obtain ⟨b, r, rfl, hn⟩ := fd_pI_inv hn
  obtain ⟨a, r, rfl, hn⟩ := fd_pI_inv hn
  obtain ⟨hg, rfl, rfl, rfl⟩ := fd_some4 hn
  have k1 := kk (pc + 1) H locs la (fd_nxt hx (by decide)) hH hS hl
  rw [Bool.and_eq_true, fd_inb_iff, fd_inb_iff] at hg
  obtain ⟨e1, e2⟩ := fd_shrI hg.1 hg.2
  exact lv_iushr cx.1 cx.2.1 hd e2 k1
theorem fd_k18 (cx : fd_cx g p R s m args meth c mm) (hok : fd_okI (fd_y mm).cls (fd_b mm) (fd_ini mm) (fd_pcs mm) pc ((fd_pcs mm).getD (i + 1) 0) 18 as = true) (hn : fd_nx ph 18 as L st M = some (true, L', st', M')) (kk : fd_Go g ph p l e R s m args below meth c mm a0 Q (i + 1) L' st' M') (hH : fd_hp g ph M H) (hS : va_S (fd_A g) s.heap H locs) (hl : fd_lr g la (fd_mL mm) L) : W p l e R s m args below meth c H locs (fd_ap M - a0) (fd_sl (fd_ap M) - fd_sl a0) Q (F0 m pc la (st.map (fd_cv g))) := by
  obtain ⟨hd, hx⟩ := fd_dc_inv (show fd_dc (fd_b mm) pc _ .ladd 1 = true from hok)
  obtain ⟨b, r, rfl, hn⟩ := fd_pJ_inv hn
  obtain ⟨a, r, rfl, hn⟩ := fd_pJ_inv hn
  obtain ⟨hg, rfl, rfl, rfl⟩ := fd_some4 hn
  have k1 := kk (pc + 1) H locs la (fd_nxt hx (by decide)) hH hS hl
  refine lv_ladd cx.1 cx.2.1 hd ?_
  rw [← Int64.ofInt_add]
  exact k1
theorem fd_k19 (cx : fd_cx g p R s m args meth c mm) (hok : fd_okI (fd_y mm).cls (fd_b mm) (fd_ini mm) (fd_pcs mm) pc ((fd_pcs mm).getD (i + 1) 0) 19 as = true) (hn : fd_nx ph 19 as L st M = some (true, L', st', M')) (kk : fd_Go g ph p l e R s m args below meth c mm a0 Q (i + 1) L' st' M') (hH : fd_hp g ph M H) (hS : va_S (fd_A g) s.heap H locs) (hl : fd_lr g la (fd_mL mm) L) : W p l e R s m args below meth c H locs (fd_ap M - a0) (fd_sl (fd_ap M) - fd_sl a0) Q (F0 m pc la (st.map (fd_cv g))) := by
  obtain ⟨hd, hx⟩ := fd_dc_inv (show fd_dc (fd_b mm) pc _ .lxor 1 = true from hok)
  obtain ⟨b, r, rfl, hn⟩ := fd_pJ_inv hn
  obtain ⟨a, r, rfl, hn⟩ := fd_pJ_inv hn
  obtain ⟨hg, rfl, rfl, rfl⟩ := fd_some4 hn
  have k1 := kk (pc + 1) H locs la (fd_nxt hx (by decide)) hH hS hl
  refine lv_lxor cx.1 cx.2.1 hd ?_
  have e1 : Int64.ofInt (fd_lxor a b) = _ := Int64.ofInt_toInt _
  rw [← e1]
  exact k1
theorem fd_k20 (cx : fd_cx g p R s m args meth c mm) (hok : fd_okI (fd_y mm).cls (fd_b mm) (fd_ini mm) (fd_pcs mm) pc ((fd_pcs mm).getD (i + 1) 0) 20 as = true) (hn : fd_nx ph 20 as L st M = some (true, L', st', M')) (kk : fd_Go g ph p l e R s m args below meth c mm a0 Q (i + 1) L' st' M') (hH : fd_hp g ph M H) (hS : va_S (fd_A g) s.heap H locs) (hl : fd_lr g la (fd_mL mm) L) : W p l e R s m args below meth c H locs (fd_ap M - a0) (fd_sl (fd_ap M) - fd_sl a0) Q (F0 m pc la (st.map (fd_cv g))) := by
  obtain ⟨hd, hx⟩ := fd_dc_inv (show fd_dc (fd_b mm) pc _ .land 1 = true from hok)
  obtain ⟨b, r, rfl, hn⟩ := fd_pJ_inv hn
  obtain ⟨a, r, rfl, hn⟩ := fd_pJ_inv hn
  obtain ⟨hg, rfl, rfl, rfl⟩ := fd_some4 hn
  have k1 := kk (pc + 1) H locs la (fd_nxt hx (by decide)) hH hS hl
  refine lv_land cx.1 cx.2.1 hd ?_
  have e1 : Int64.ofInt (fd_land a b) = _ := Int64.ofInt_toInt _
  rw [← e1]
  exact k1
theorem fd_k22 (cx : fd_cx g p R s m args meth c mm) (hok : fd_okI (fd_y mm).cls (fd_b mm) (fd_ini mm) (fd_pcs mm) pc ((fd_pcs mm).getD (i + 1) 0) 22 as = true) (hn : fd_nx ph 22 as L st M = some (true, L', st', M')) (kk : fd_Go g ph p l e R s m args below meth c mm a0 Q (i + 1) L' st' M') (hH : fd_hp g ph M H) (hS : va_S (fd_A g) s.heap H locs) (hl : fd_lr g la (fd_mL mm) L) : W p l e R s m args below meth c H locs (fd_ap M - a0) (fd_sl (fd_ap M) - fd_sl a0) Q (F0 m pc la (st.map (fd_cv g))) := by
  obtain ⟨hd, hx⟩ := fd_dc_inv (show fd_dc (fd_b mm) pc _ .lcmp 1 = true from hok)
  obtain ⟨b, r, rfl, hn⟩ := fd_pJ_inv hn
  obtain ⟨a, r, rfl, hn⟩ := fd_pJ_inv hn
  obtain ⟨hg, rfl, rfl, rfl⟩ := fd_some4 hn
  have k1 := kk (pc + 1) H locs la (fd_nxt hx (by decide)) hH hS hl
  refine W.lcmp cx.1 cx.2.1 hd ?_
  have e1 : Int32.ofInt (fd_lcmp a b) = _ := Int32.ofInt_toInt _
  rw [← e1]
  exact k1
theorem fd_k21 (cx : fd_cx g p R s m args meth c mm) (hok : fd_okI (fd_y mm).cls (fd_b mm) (fd_ini mm) (fd_pcs mm) pc ((fd_pcs mm).getD (i + 1) 0) 21 as = true) (hn : fd_nx ph 21 as L st M = some (true, L', st', M')) (kk : fd_Go g ph p l e R s m args below meth c mm a0 Q (i + 1) L' st' M') (hH : fd_hp g ph M H) (hS : va_S (fd_A g) s.heap H locs) (hl : fd_lr g la (fd_mL mm) L) : W p l e R s m args below meth c H locs (fd_ap M - a0) (fd_sl (fd_ap M) - fd_sl a0) Q (F0 m pc la (st.map (fd_cv g))) := by
  obtain ⟨hd, hx⟩ := fd_dc_inv (show fd_dc (fd_b mm) pc _ .lshl 1 = true from hok)
  obtain ⟨b, r, rfl, hn⟩ := fd_pI_inv hn
  obtain ⟨a, r, rfl, hn⟩ := fd_pJ_inv hn
  obtain ⟨hg, rfl, rfl, rfl⟩ := fd_some4 hn
  have k1 := kk (pc + 1) H locs la (fd_nxt hx (by decide)) hH hS hl
  rw [Bool.and_eq_true, fd_inb_iff] at hg
  obtain ⟨h1, h2⟩ := hg
  have h1 := of_decide_eq_true h1
  subst h1
  obtain ⟨n, rfl⟩ := Int.eq_ofNat_of_zero_le h2.1
  refine lv_lshl (v := Int64.ofInt (2 ^ n)) cx.1 cx.2.1 hd ?_ k1
  rw [fd_oi, show Int64.ofInt 1 = (1 : Int64) from rfl]
  exact fd_lshl1 n (by omega)
theorem fd_k23 (cx : fd_cx g p R s m args meth c mm) (hok : fd_okI (fd_y mm).cls (fd_b mm) (fd_ini mm) (fd_pcs mm) pc ((fd_pcs mm).getD (i + 1) 0) 23 as = true) (hn : fd_nx ph 23 as L st M = some (true, L', st', M')) (kk : fd_Go g ph p l e R s m args below meth c mm a0 Q (i + 1) L' st' M') (hH : fd_hp g ph M H) (hS : va_S (fd_A g) s.heap H locs) (hl : fd_lr g la (fd_mL mm) L) : W p l e R s m args below meth c H locs (fd_ap M - a0) (fd_sl (fd_ap M) - fd_sl a0) Q (F0 m pc la (st.map (fd_cv g))) := by
  obtain ⟨hd, hx⟩ := fd_dc_inv (show fd_dc (fd_b mm) pc _ .i2b 1 = true from hok)
  obtain ⟨a, r, rfl, hn⟩ := fd_pI_inv hn
  obtain ⟨hg, rfl, rfl, rfl⟩ := fd_some4 hn
  exact lv_i2b cx.1 cx.2.1 hd (Int32.ofInt_toInt _).symm (kk (pc + 1) H locs la (fd_nxt hx (by decide)) hH hS hl)
theorem fd_k24 (cx : fd_cx g p R s m args meth c mm) (hok : fd_okI (fd_y mm).cls (fd_b mm) (fd_ini mm) (fd_pcs mm) pc ((fd_pcs mm).getD (i + 1) 0) 24 as = true) (hn : fd_nx ph 24 as L st M = some (true, L', st', M')) (kk : fd_Go g ph p l e R s m args below meth c mm a0 Q (i + 1) L' st' M') (hH : fd_hp g ph M H) (hS : va_S (fd_A g) s.heap H locs) (hl : fd_lr g la (fd_mL mm) L) : W p l e R s m args below meth c H locs (fd_ap M - a0) (fd_sl (fd_ap M) - fd_sl a0) Q (F0 m pc la (st.map (fd_cv g))) := by
  obtain ⟨hd, hx⟩ := fd_dc_inv (show fd_dc (fd_b mm) pc _ .dup 1 = true from hok)
  rcases st with _ | ⟨⟨a⟩ | ⟨a⟩ | ⟨a⟩, r⟩
  · cases hn
  · obtain ⟨hg, rfl, rfl, rfl⟩ := fd_some4 hn
    exact lv_dup cx.1 cx.2.1 hd rfl (kk (pc + 1) H locs la (fd_nxt hx (by decide)) hH hS hl)
  · cases hn
  · obtain ⟨hg, rfl, rfl, rfl⟩ := fd_some4 hn
    exact lv_dup cx.1 cx.2.1 hd (fd_cat g (fd_R a)) (kk (pc + 1) H locs la (fd_nxt hx (by decide)) hH hS hl)
theorem fd_k25 (cx : fd_cx g p R s m args meth c mm) (hok : fd_okI (fd_y mm).cls (fd_b mm) (fd_ini mm) (fd_pcs mm) pc ((fd_pcs mm).getD (i + 1) 0) 25 as = true) (hn : fd_nx ph 25 as L st M = some (true, L', st', M')) (kk : fd_Go g ph p l e R s m args below meth c mm a0 Q (i + 1) L' st' M') (hH : fd_hp g ph M H) (hS : va_S (fd_A g) s.heap H locs) (hl : fd_lr g la (fd_mL mm) L) : W p l e R s m args below meth c H locs (fd_ap M - a0) (fd_sl (fd_ap M) - fd_sl a0) Q (F0 m pc la (st.map (fd_cv g))) := by
  obtain ⟨hd, hx⟩ := fd_dc_inv (show fd_dc (fd_b mm) pc _ .dup2 1 = true from hok)
  obtain ⟨b, r, rfl, hn⟩ := fd_pI_inv hn
  obtain ⟨a, r, rfl, hn⟩ := fd_pR_inv hn
  obtain ⟨hg, rfl, rfl, rfl⟩ := fd_some4 hn
  exact lv_dup2_11 cx.1 cx.2.1 hd rfl (fd_cat g (fd_R a)) (kk (pc + 1) H locs la (fd_nxt hx (by decide)) hH hS hl)
theorem fd_k26 (cx : fd_cx g p R s m args meth c mm) (hok : fd_okI (fd_y mm).cls (fd_b mm) (fd_ini mm) (fd_pcs mm) pc ((fd_pcs mm).getD (i + 1) 0) 26 as = true) (hn : fd_nx ph 26 as L st M = some (true, L', st', M')) (kk : fd_Go g ph p l e R s m args below meth c mm a0 Q (i + 1) L' st' M') (hH : fd_hp g ph M H) (hS : va_S (fd_A g) s.heap H locs) (hl : fd_lr g la (fd_mL mm) L) : W p l e R s m args below meth c H locs (fd_ap M - a0) (fd_sl (fd_ap M) - fd_sl a0) Q (F0 m pc la (st.map (fd_cv g))) := by
  obtain ⟨hd, hx⟩ := fd_dc_inv (show fd_dc (fd_b mm) pc _ .pop 1 = true from hok)
  obtain ⟨b, r, rfl, hn⟩ := fd_pI_inv hn
  obtain ⟨hg, rfl, rfl, rfl⟩ := fd_some4 hn
  exact lv_pop cx.1 cx.2.1 hd rfl (kk (pc + 1) H locs la (fd_nxt hx (by decide)) hH hS hl)
theorem fd_k0 (cx : fd_cx g p R s m args meth c mm) (hok : fd_okI (fd_y mm).cls (fd_b mm) (fd_ini mm) (fd_pcs mm) pc ((fd_pcs mm).getD (i + 1) 0) 0 as = true) (hn : fd_nx ph 0 as L st M = some (true, L', st', M')) (kk : fd_Go g ph p l e R s m args below meth c mm a0 Q (i + 1) L' st' M') (hH : fd_hp g ph M H) (hS : va_S (fd_A g) s.heap H locs) (hl : fd_lr g la (fd_mL mm) L) : W p l e R s m args below meth c H locs (fd_ap M - a0) (fd_sl (fd_ap M) - fd_sl a0) Q (F0 m pc la (st.map (fd_cv g))) := by
  obtain ⟨-, rfl, rfl, rfl⟩ := fd_some4 hn
  rw [fd_okI] at hok
  split at hok
  · obtain ⟨hd, hx⟩ := fd_dc_inv hok
    exact lv_iconst cx.1 cx.2.1 hd rfl (kk (pc + 1) H locs la (fd_nxt hx (by decide)) hH hS hl)
  · rw [Bool.and_eq_true] at hok
    obtain ⟨hd, hx⟩ := fd_dc_inv hok.1
    exact lv_bipush cx.1 cx.2.1 hd (of_decide_eq_true hok.2) (kk (pc + 2) H locs la (fd_nxt hx (by decide)) hH hS hl)
  · rw [Bool.and_eq_true] at hok
    obtain ⟨hd, hx⟩ := fd_dc_inv hok.1
    exact lv_sipush cx.1 cx.2.1 hd (of_decide_eq_true hok.2) (kk (pc + 3) H locs la (fd_nxt hx (by decide)) hH hS hl)
  · rw [Bool.and_eq_true] at hok
    obtain ⟨hd, hx⟩ := fd_dc_inv hok.1
    exact lv_ldc cx.1 cx.2.1 cx.2.2.2.2.1 (cx.2.2.2.2.2.1 _ (fd_wd_mem hok.2)) hd (kk (pc + 2) H locs la (fd_nxt hx (by decide)) hH hS hl)
  · rw [Bool.and_eq_true] at hok
    obtain ⟨hd, hx⟩ := fd_dc_inv hok.1
    exact lv_ldcw cx.1 cx.2.1 cx.2.2.2.2.1 (cx.2.2.2.2.2.1 _ (fd_wd_mem hok.2)) hd (kk (pc + 3) H locs la (fd_nxt hx (by decide)) hH hS hl)
theorem fd_k17 (cx : fd_cx g p R s m args meth c mm) (hok : fd_okI (fd_y mm).cls (fd_b mm) (fd_ini mm) (fd_pcs mm) pc ((fd_pcs mm).getD (i + 1) 0) 17 as = true) (hn : fd_nx ph 17 as L st M = some (true, L', st', M')) (kk : fd_Go g ph p l e R s m args below meth c mm a0 Q (i + 1) L' st' M') (hH : fd_hp g ph M H) (hS : va_S (fd_A g) s.heap H locs) (hl : fd_lr g la (fd_mL mm) L) : W p l e R s m args below meth c H locs (fd_ap M - a0) (fd_sl (fd_ap M) - fd_sl a0) Q (F0 m pc la (st.map (fd_cv g))) := by
  obtain ⟨-, rfl, rfl, rfl⟩ := fd_some4 hn
  rw [fd_okI] at hok
  split at hok
  · split at hok
    · rename_i h0
      obtain ⟨hd, hx⟩ := fd_dc_inv hok
      have k1 := kk (pc + 1) H locs la (fd_nxt hx (by decide)) hH hS hl
      rw [h0] at k1
      exact lv_lconst cx.1 cx.2.1 hd rfl k1
    · rw [Bool.and_eq_true] at hok
      obtain ⟨hd, hx⟩ := fd_dc_inv hok.2
      have k1 := kk (pc + 1) H locs la (fd_nxt hx (by decide)) hH hS hl
      rw [of_decide_eq_true hok.1] at k1
      exact lv_lconst cx.1 cx.2.1 hd rfl k1
  · rw [Bool.and_eq_true] at hok
    obtain ⟨hd, hx⟩ := fd_dc_inv hok.1
    exact lv_ldc2 cx.1 cx.2.1 cx.2.2.2.2.1 (cx.2.2.2.2.2.1 _ (fd_wd_mem hok.2)) hd (kk (pc + 3) H locs la (fd_nxt hx (by decide)) hH hS hl)
theorem fd_k1 (cx : fd_cx g p R s m args meth c mm) (hok : fd_okI (fd_y mm).cls (fd_b mm) (fd_ini mm) (fd_pcs mm) pc ((fd_pcs mm).getD (i + 1) 0) 1 as = true) (hn : fd_nx ph 1 as L st M = some (true, L', st', M')) (kk : fd_Go g ph p l e R s m args below meth c mm a0 Q (i + 1) L' st' M') (hH : fd_hp g ph M H) (hS : va_S (fd_A g) s.heap H locs) (hl : fd_lr g la (fd_mL mm) L) : W p l e R s m args below meth c H locs (fd_ap M - a0) (fd_sl (fd_ap M) - fd_sl a0) Q (F0 m pc la (st.map (fd_cv g))) := by
  obtain ⟨a, ha, hn⟩ := fd_lI_inv hn
  obtain ⟨hg, rfl, rfl, rfl⟩ := fd_some4 hn
  have hv := fd_lr_get hl ha (by intro q; cases q)
  rw [fd_okI] at hok
  split at hok
  · rw [Bool.and_eq_true] at hok
    have h4 := of_decide_eq_true hok.1
    obtain ⟨hd, hx⟩ := fd_dc_inv hok.2
    have k1 := kk (pc + 1) H locs la (fd_nxt hx (by decide)) hH hS hl
    exact lv_iload_n cx.1 cx.2.1 hd (show (fd_f4 (fd_n as 0)).val = fd_n as 0 from Nat.mod_eq_of_lt h4) hv k1
  · obtain ⟨hd, hx⟩ := fd_dc_inv hok
    have k1 := kk (pc + 2) H locs la (fd_nxt hx (by decide)) hH hS hl
    exact lv_iload cx.1 cx.2.1 hd hv k1
theorem fd_k2 (cx : fd_cx g p R s m args meth c mm) (hok : fd_okI (fd_y mm).cls (fd_b mm) (fd_ini mm) (fd_pcs mm) pc ((fd_pcs mm).getD (i + 1) 0) 2 as = true) (hn : fd_nx ph 2 as L st M = some (true, L', st', M')) (kk : fd_Go g ph p l e R s m args below meth c mm a0 Q (i + 1) L' st' M') (hH : fd_hp g ph M H) (hS : va_S (fd_A g) s.heap H locs) (hl : fd_lr g la (fd_mL mm) L) : W p l e R s m args below meth c H locs (fd_ap M - a0) (fd_sl (fd_ap M) - fd_sl a0) Q (F0 m pc la (st.map (fd_cv g))) := by
  obtain ⟨a, ha, hn⟩ := fd_lR_inv hn
  obtain ⟨hg, rfl, rfl, rfl⟩ := fd_some4 hn
  have ha3 : a < 1000 := by simpa using hg
  have hv := fd_lr_get hl ha (by intro q; cases q; omega)
  have ev : fd_cv g (fd_R a) = .ref (g.1 + a) := fd_rv_lt ha3
  rw [ev] at hv
  rw [fd_okI] at hok
  split at hok
  · rw [Bool.and_eq_true] at hok
    have h4 := of_decide_eq_true hok.1
    obtain ⟨hd, hx⟩ := fd_dc_inv hok.2
    have k1 := kk (pc + 1) H locs la (fd_nxt hx (by decide)) hH hS hl
    rw [List.map_cons, ev] at k1
    exact lv_aload_n cx.1 cx.2.1 hd (show (fd_f4 (fd_n as 0)).val = fd_n as 0 from Nat.mod_eq_of_lt h4) hv k1
  · obtain ⟨hd, hx⟩ := fd_dc_inv hok
    have k1 := kk (pc + 2) H locs la (fd_nxt hx (by decide)) hH hS hl
    rw [List.map_cons, ev] at k1
    exact lv_aload cx.1 cx.2.1 hd hv k1
theorem fd_k3 (cx : fd_cx g p R s m args meth c mm) (hok : fd_okI (fd_y mm).cls (fd_b mm) (fd_ini mm) (fd_pcs mm) pc ((fd_pcs mm).getD (i + 1) 0) 3 as = true) (hn : fd_nx ph 3 as L st M = some (true, L', st', M')) (kk : fd_Go g ph p l e R s m args below meth c mm a0 Q (i + 1) L' st' M') (hH : fd_hp g ph M H) (hS : va_S (fd_A g) s.heap H locs) (hl : fd_lr g la (fd_mL mm) L) : W p l e R s m args below meth c H locs (fd_ap M - a0) (fd_sl (fd_ap M) - fd_sl a0) Q (F0 m pc la (st.map (fd_cv g))) := by
  obtain ⟨a, r, rfl, hn⟩ := fd_pI_inv hn
  obtain ⟨hg, rfl, rfl, rfl⟩ := fd_some4 hn
  have hk : fd_n as 0 < fd_mL mm := by rw [← hl.1]; simpa using hg
  rw [fd_okI] at hok
  split at hok
  · rw [Bool.and_eq_true] at hok
    have h4 := of_decide_eq_true hok.1
    obtain ⟨hd, hx⟩ := fd_dc_inv hok.2
    exact lv_istore_n cx.1 cx.2.1 hd (show (fd_f4 (fd_n as 0)).val = fd_n as 0 from Nat.mod_eq_of_lt h4) hl.2.2 hk rfl (fun la1 h1 => kk (pc + 1) H locs la1 (fd_nxt hx (by decide)) hH hS (fd_lr_set hl hk rfl h1))
  · obtain ⟨hd, hx⟩ := fd_dc_inv hok
    exact lv_istore cx.1 cx.2.1 hd hl.2.2 hk rfl (fun la1 h1 => kk (pc + 2) H locs la1 (fd_nxt hx (by decide)) hH hS (fd_lr_set hl hk rfl h1))
theorem fd_k4 (cx : fd_cx g p R s m args meth c mm) (hok : fd_okI (fd_y mm).cls (fd_b mm) (fd_ini mm) (fd_pcs mm) pc ((fd_pcs mm).getD (i + 1) 0) 4 as = true) (hn : fd_nx ph 4 as L st M = some (true, L', st', M')) (kk : fd_Go g ph p l e R s m args below meth c mm a0 Q (i + 1) L' st' M') (hH : fd_hp g ph M H) (hS : va_S (fd_A g) s.heap H locs) (hl : fd_lr g la (fd_mL mm) L) : W p l e R s m args below meth c H locs (fd_ap M - a0) (fd_sl (fd_ap M) - fd_sl a0) Q (F0 m pc la (st.map (fd_cv g))) := by
  obtain ⟨a, r, rfl, hn⟩ := fd_pR_inv hn
  obtain ⟨hg, rfl, rfl, rfl⟩ := fd_some4 hn
  rw [Bool.and_eq_true] at hg
  have hk : fd_n as 0 < fd_mL mm := by rw [← hl.1]; simpa using hg.1
  have ha3 : a < 1000 := by simpa using hg.2
  have ev : fd_cv g (fd_R a) = .ref (g.1 + a) := fd_rv_lt ha3
  rw [List.map_cons, ev]
  rw [fd_okI] at hok
  split at hok
  · rw [Bool.and_eq_true] at hok
    have h4 := of_decide_eq_true hok.1
    obtain ⟨hd, hx⟩ := fd_dc_inv hok.2
    exact lv_astore_n cx.1 cx.2.1 hd (show (fd_f4 (fd_n as 0)).val = fd_n as 0 from Nat.mod_eq_of_lt h4) hl.2.2 hk rfl (fun la1 h1 => kk (pc + 1) H locs la1 (fd_nxt hx (by decide)) hH hS (fd_lr_set hl hk rfl (by rw [ev]; exact h1)))
  · obtain ⟨hd, hx⟩ := fd_dc_inv hok
    exact lv_astore cx.1 cx.2.1 hd hl.2.2 hk rfl (fun la1 h1 => kk (pc + 2) H locs la1 (fd_nxt hx (by decide)) hH hS (fd_lr_set hl hk rfl (by rw [ev]; exact h1)))
theorem fd_k5 (cx : fd_cx g p R s m args meth c mm) (hok : fd_okI (fd_y mm).cls (fd_b mm) (fd_ini mm) (fd_pcs mm) pc ((fd_pcs mm).getD (i + 1) 0) 5 as = true) (hn : fd_nx ph 5 as L st M = some (true, L', st', M')) (kk : fd_Go g ph p l e R s m args below meth c mm a0 Q (i + 1) L' st' M') (hH : fd_hp g ph M H) (hS : va_S (fd_A g) s.heap H locs) (hl : fd_lr g la (fd_mL mm) L) : W p l e R s m args below meth c H locs (fd_ap M - a0) (fd_sl (fd_ap M) - fd_sl a0) Q (F0 m pc la (st.map (fd_cv g))) := by
  obtain ⟨hd, hx⟩ := fd_dc_inv (show fd_dc (fd_b mm) pc _ (.iinc (fd_n as 0) (fd_a as 1)) 3 = true from hok)
  obtain ⟨a, ha, hn⟩ := fd_lI_inv hn
  obtain ⟨hg, rfl, rfl, rfl⟩ := fd_some4 hn
  have hk : fd_n as 0 < fd_mL mm := by rw [← hl.1]; exact (List.getElem?_eq_some_iff.mp ha).1
  obtain ⟨k, hk1⟩ := List.getElem?_of_mem (fd_as_mem.mpr ⟨fd_I a, ha, (by intro q; cases q), rfl⟩ : (fd_n as 0, fd_cv g (fd_I a)) ∈ fd_as g L)
  exact lv_iinc (v := Int32.ofInt (a + fd_a as 1)) cx.1 cx.2.1 hd hl.2.2 (k := k) hk1 (Int32.ofInt_add ..).symm hk rfl (fun la1 h1 => kk (pc + 3) H locs la1 (fd_nxt hx (by decide)) hH hS (fd_lr_set hl hk rfl h1))
end fdK
end
section
/-! cells: reading and writing the memory of the small machine in the heap -/
theorem fd_lt_ap {g : fd_G} {ph : Bool} {M : fd_M} {H : Heap} {c : Nat} (hH : fd_hp g ph M H) (hal : fd_al ph M c = true) (hs : (fd_SH c).1 ≤ 24) : c < fd_ap M ∧ c < 213 := by
  have h1 := (fd_sh_at hs).1
  refine ⟨?_, h1⟩
  cases ph with
  | true => rw [hH.2.2.2.1 rfl]; exact h1
  | false =>
    have h2 : Nat.blt c (M 5000 0).toNat = true := hal
    simpa using h2
theorem fd_isO_inv {ph : Bool} {M : fd_M} {c ci : Nat} (h : fd_isO ph M c ci = true) : (fd_SH c).1 = ci ∧ fd_al ph M c = true := by
  rw [fd_isO, Bool.and_eq_true] at h
  exact ⟨Nat.eq_of_beq_eq_true h.1, h.2⟩
theorem fd_isA_inv {ph : Bool} {M : fd_M} {c kd : Nat} {i : Int} (h : fd_isA ph M c kd i = true) : (fd_SH c).1 = kd ∧ fd_al ph M c = true ∧ 0 ≤ i ∧ i < (fd_SH c).2 := by
  rw [fd_isA, Bool.and_eq_true, Bool.and_eq_true, fd_inb_iff] at h
  exact ⟨Nat.eq_of_beq_eq_true h.1.1, h.1.2, h.2⟩
theorem fd_ce_obj {g : fd_G} {ph : Bool} {M : fd_M} {c ci : Nat} (h : (fd_SH c).1 = ci) (hc : ci < 20) : fd_ce g ph M c = .inr (ci, (List.range (fd_SH c).2).map (fun k => fd_fv g ph M ci c k)) := by
  subst h
  rw [fd_ce, if_pos hc]
theorem fd_ce_int {g : fd_G} {ph : Bool} {M : fd_M} {c kd : Nat} (h : (fd_SH c).1 = kd) (h1 : 20 ≤ kd) (h2 : kd < 23) : fd_ce g ph M c = .inl (g.2.2.2.2 kd, (fd_SH c).2, .inl (fun j => Int32.ofInt (M c j))) := by
  subst h
  rw [fd_ce, if_neg (by omega), if_pos h2]
theorem fd_ce_ref {g : fd_G} {ph : Bool} {M : fd_M} {c kd : Nat} (h : (fd_SH c).1 = kd) (h1 : 23 ≤ kd) : fd_ce g ph M c = .inl (g.2.2.2.2 kd, (fd_SH c).2, .inr (.inr (.inr (.inr (fun j => fd_ro g (M c j)))))) := by
  subst h
  rw [fd_ce, if_neg (by omega), if_neg (by omega)]
theorem fd_up_ne {M : fd_M} {c k : Nat} {v : Int} {c' : Nat} (h : c' ≠ c) : fd_up M c k v c' = M c' := by
  funext k'
  simp [fd_up, h]
theorem fd_up_at (M : fd_M) (c k : Nat) (v : Int) (j : Nat) : fd_up M c k v c j = if j = k then v else M c j := by simp [fd_up]
theorem fd_up_ap {M : fd_M} {c k : Nat} {v : Int} (h : c < 213) : fd_up M c k v 5000 0 = M 5000 0 := by rw [fd_up_ne (by omega)]
/-- the memory behind a write of one cell -/
theorem fd_hp_up {g : fd_G} {ph : Bool} {M : fd_M} {H H1 : Heap} {c k : Nat} {v : Int} (hH : fd_hp g ph M H) (hc : c < fd_ap M) (hz : ph = false → H1.size = H.size) (x : Nat × va_E) (hx : x = (g.1 + c, fd_ce g ph (fd_up M c k v) c)) (hP : va_P g.2.2.2.1 fd_cl ((fd_ws g ph M (fd_ap M)).set c x) H1) : fd_hp g ph (fd_up M c k v) H1 := by
  have h213 : c < 213 := Nat.lt_of_lt_of_le hc hH.2.1
  have e : fd_ap (fd_up M c k v) = fd_ap M := by show Int.toNat _ = _; rw [fd_up_ap h213]
  refine ⟨fun h => by rw [hz h, e]; exact hH.1 h, by rw [e]; exact hH.2.1, by rw [fd_up_ap h213]; exact hH.2.2.1, fun h => by rw [e]; exact hH.2.2.2.1 h, ?_⟩
  rw [e, ← fd_ws_set (M := M) (c := c) hx (fun c' _ h => fd_up_ne h)]
  exact hP
section fdM
variable {p : Program} {l : Launch} {e : Env} {R : Room} {s : State} {m : MethodId} {args : Array Value} {below : List Frame} {meth : Method} {c : Code} {H : Heap} {locs : List Loc} {cells slots : Nat} {Q : State → Prop}
variable {cc : ByteArray} {pc : Nat} {ls : Array Slot} {rest : List Value} {D : va_G} {cl : List vw_C} {A : Nat → Prop} {a : Nat} {tys : List (ClassId × FieldType)} {ws : va_W} {H0 : Heap}
/-- writes into a field and into arrays: as the kit's rows, and the heap's size stays -/
theorem fd_rput (hexec : p.tables.exec = Jvm.exec) (hb : c.code = cc) {own C : String} {T : u_T} {N ci index : Nat} {Ts : List Jvm.Cond} (hts : ∀ w ∈ Ts, w.before args s = true) (hin : ∀ w ∈ u_ws C T N, w ∈ Ts) (ty0 : Nat → FieldType) (hty : ∀ k, k < N → parseFieldDescriptor (T k).2.2.1 = some (ty0 k)) (hnm : ∀ a, a < N → ∀ b, b < N → a ≠ b → (T a).2.1 ≠ (T b).2.1) (hown : s.vm.findClass own = some m.cls) (hK : va_K D cl tys s) (hP : va_P D cl ws H) (hD : va_D A ws) (hS0 : va_S A H0 H locs) (q0 : Nat) {fs : List Value} (he : ws[q0]? = some (a, .inr (ci, fs))) (hc : cl[ci]? = some (C, T, N)) (k : Nat) (hk : k < N)
    (hlink : (Jvm.Cond.fieldLink own index (T k).1 (T k).2.1 (T k).2.2.1).before args s = true) (hfin : (T k).2.2.2 = true → meth.name = "<init>" ∧ (T k).1 = own) {v : Value} (hn : narrow (ty0 k) v = v) (hfit : fits (ty0 k) v = true) (hl : k < fs.length)
    (hdg : decode cc pc = .ok (.putfield index, 3)) (kk : ∀ (H1 : Heap) (locs1 : List Loc), H1.size = H.size → va_P D cl (ws.set q0 (a, .inr (ci, fs.set k v))) H1 → va_S A H0 H1 locs1 → W p l e R s m args below meth c H1 locs1 cells slots Q (F0 m (pc + 3) ls rest)) : W p l e R s m args below meth c H locs cells slots Q (F0 m pc ls (v :: .ref a :: rest)) := by
  have hap := va_apart (own := own) hts hin ty0 hty hnm hK hc
  obtain ⟨r, h1, cell, q1, q2, q3, q4⟩ := hP q0 _ he
  cases Option.some.inj (h1.symm.trans hc)
  obtain ⟨hS, hfc, kC, hkC, hkind⟩ := hK.1 ci _ hc
  obtain ⟨cf, kf, fi, f, hi, hsl⟩ := hS k hk
  have hlay := hts _ (hin _ (u_in_lay hk))
  unfold u_lay at hlay
  have hst := (u_facts hfc hkC (u_lays hts hin hk) hi).1
  have fin : ∀ (H' : Heap) (l2 : List Loc), H'[a]? = some (cell.setSlot (D.2 ci k) v) → H'.size = H.size → (∀ q, q ≠ a → H'[q]? = H[q]?) → l2 = locs ++ [⟨a, D.2 ci k⟩] → W p l e R s m args below meth c H' l2 cells slots Q (F0 m (pc + 3) ls rest) := fun H' l2 e1 e2 e3 e4 => by
    subst e4
    exact kk H' _ e2 (hP.set hD he ⟨_, hc, t_OB.to (V := updV (vp_V fs) k v) ⟨_, e1, q2, q3, t_set q4 hap hk v⟩ (fun j _ => vp_updV_set hl v j)⟩ e3) (hS0.put e2 e3 (hD.2 q0 _ he))
  cases hf : (T k).2.2.2 with
  | false =>
    rw [if_neg (by rw [hf]; decide)] at hlay
    have h6 := u_store hfc hkC hkind hlay hi (hty k hk) hn hfit
    refine W.putK hexec hb (f := f) ⟨hown, hlink, ⟨_, _, _, hi⟩, hst⟩ (by rw [q2]; exact h6) q1 q3 (by rw [hsl]; exact k2_hasslot (q4 k hk)) rfl rfl hdg fun H' e1 e2 e3 => ?_
    exact fin H' _ (by rw [← hsl]; exact e1) e2 e3 (by rw [hsl])
  | true =>
    rw [if_pos hf] at hlay
    obtain ⟨hin2, hdecl⟩ := hfin hf
    have hcf : m.cls = cf := by
      obtain ⟨_, _, c', _, _, _, -, -, hf', -, -, -, hown2, -⟩ := Cond.laysFinal_spec hlay
      have e1 : c' = cf := by have := hi.symm.trans hf'; simp at this; exact this.1.symm
      rw [hdecl] at hown2
      rw [← e1]; exact Option.some.inj (hown.symm.trans hown2)
    have h6 := u_fits hfc hkC hkind (Or.inr hlay) hi (hty k hk) hn hfit
    refine W.putFinK hexec hb hown hlink hi hst hcf hin2 (by rw [q2]; exact h6) q1 q3 (by rw [hsl]; exact k2_hasslot (q4 k hk)) rfl rfl hdg fun H' e1 e2 e3 => ?_
    exact fin H' _ (by rw [← hsl]; exact e1) e2 e3 (by rw [hsl])
theorem fd_rputN (hexec : p.tables.exec = Jvm.exec) (hb : c.code = cc) {own C host : String} {T : u_T} {N ci index : Nat} {Ts : List Jvm.Cond} (hts : ∀ w ∈ Ts, w.before args s = true) (hin : ∀ w ∈ u_ws C T N, w ∈ Ts) (ty0 : Nat → FieldType) (hty : ∀ k, k < N → parseFieldDescriptor (T k).2.2.1 = some (ty0 k)) (hnm : ∀ a, a < N → ∀ b, b < N → a ≠ b → (T a).2.1 ≠ (T b).2.1) (hown : s.vm.findClass own = some m.cls) (hK : va_K D cl tys s) (hP : va_P D cl ws H) (hD : va_D A ws) (hS0 : va_S A H0 H locs) (q0 : Nat) {fs : List Value} (he : ws[q0]? = some (a, .inr (ci, fs))) (hc : cl[ci]? = some (C, T, N)) (k : Nat) (hk : k < N)
    (hlink : (Jvm.Cond.fieldLinkNest own index (T k).1 (T k).2.1 (T k).2.2.1 host).before args s = true) (hfin : (T k).2.2.2 = false) {v : Value} (hn : narrow (ty0 k) v = v) (hfit : fits (ty0 k) v = true) (hl : k < fs.length)
    (hdg : decode cc pc = .ok (.putfield index, 3)) (kk : ∀ (H1 : Heap) (locs1 : List Loc), H1.size = H.size → va_P D cl (ws.set q0 (a, .inr (ci, fs.set k v))) H1 → va_S A H0 H1 locs1 → W p l e R s m args below meth c H1 locs1 cells slots Q (F0 m (pc + 3) ls rest)) : W p l e R s m args below meth c H locs cells slots Q (F0 m pc ls (v :: .ref a :: rest)) := by
  have hap := va_apart (own := own) hts hin ty0 hty hnm hK hc
  obtain ⟨r, h1, cell, q1, q2, q3, q4⟩ := hP q0 _ he
  cases Option.some.inj (h1.symm.trans hc)
  obtain ⟨hS, hfc, kC, hkC, hkind⟩ := hK.1 ci _ hc
  obtain ⟨cf, kf, fi, f, hi, hsl⟩ := hS k hk
  have hlay := hts _ (hin _ (u_in_lay hk))
  unfold u_lay at hlay
  rw [if_neg (by rw [hfin]; decide)] at hlay
  have hst := (u_facts hfc hkC (u_lays hts hin hk) hi).1
  have h6 := u_store hfc hkC hkind hlay hi (hty k hk) hn hfit
  refine va_WputK hexec hb (f := f) hown hlink hi hst (by rw [q2]; exact h6) q1 q3 (by rw [hsl]; exact k2_hasslot (q4 k hk)) rfl rfl hdg fun H' e1 e2 e3 => ?_
  rw [hsl] at e1 ⊢
  exact kk H' _ e2 (hP.set hD he ⟨_, hc, t_OB.to (V := updV (vp_V fs) k v) ⟨_, e1, q2, q3, t_set q4 hap hk v⟩ (fun j _ => vp_updV_set hl v j)⟩ e3) (hS0.put e2 e3 (hD.2 q0 _ he))
theorem fd_rcell {cA : ClassId} {n : Nat} {f : Nat → Int32} {x : Int32} {k : Nat} {H1 : Heap} (e1 : H1[a]? = some ((arrV cA n (fun j => Value.int (f j))).setSlot k (.int x))) : H1[a]? = some (vp_cell cA (n, .inl (upd f k x))) := by
  rw [e1, vp_cell_i, arrV_store]
  congr 2
  funext q
  by_cases hq : q = k
  · subst hq
    simp [updV, upd]
  · simp [updV, upd, hq]
theorem fd_riast (hexec : p.tables.exec = Jvm.exec) (hb : c.code = cc) (hK : va_K D cl tys s) (hP : va_P D cl ws H) (hD : va_D A ws) (hS : va_S A H0 H locs) (q0 t0 : Nat) {cA : ClassId} {n : Nat} {f : Nat → Int32} (ha : ws[q0]? = some (a, .inl (cA, n, .inl f))) (ht : tys[t0]? = some (cA, .int)) {i : Int32} {x : Int32} (hin : vp_in i n) (hdg : decode cc pc = .ok (.iastore, 1))
    (kk : ∀ (H1 : Heap) (locs1 : List Loc), H1.size = H.size → va_P D cl (ws.set q0 (a, .inl (cA, n, .inl (upd f i.toNatClampNeg x)))) H1 → va_S A H0 H1 locs1 → W p l e R s m args below meth c H1 locs1 cells slots Q (F0 m (pc + 1) ls rest)) : W p l e R s m args below meth c H locs cells slots Q (F0 m pc ls (.int x :: .int i :: .ref a :: rest)) := by
  refine W.iast hexec hb (hP q0 _ ha) ((hK.2 t0 _ ht).1 n (fun j => .int (f j))) (fun q => by cases q) (by show ¬ (i < 0 ∨ (arrV _ _ _).slots.size ≤ _); rw [arrV_size]; exact hin) rfl rfl hdg fun H1 e z oq => ?_
  exact kk H1 _ z (hP.set hD ha (fd_rcell e) oq) (hS.put z oq (hD.2 q0 _ ha))
theorem fd_rnar {x : Int32} {ty : FieldType} {cA : ClassId} {n : Nat} {f : Nat → Int32} {k : Nat} {H1 : Heap} (hx : narrow ty (.int x) = .int x) (e1 : H1[a]? = some ((arrV cA n (fun j => Value.int (f j))).setSlot k (narrow ty (.int x)))) : H1[a]? = some (vp_cell cA (n, .inl (upd f k x))) := fd_rcell (by rw [← hx]; exact e1)
theorem fd_rbast (hexec : p.tables.exec = Jvm.exec) (hb : c.code = cc) (hK : va_K D cl tys s) (hP : va_P D cl ws H) (hD : va_D A ws) (hS : va_S A H0 H locs) (q0 t0 : Nat) {cA : ClassId} {n : Nat} {f : Nat → Int32} (ha : ws[q0]? = some (a, .inl (cA, n, .inl f))) {ty : FieldType} (ht : tys[t0]? = some (cA, ty)) (hty : ty = .byte ∨ ty = .boolean) {i : Int32} {x : Int32} (hx : narrow ty (.int x) = .int x) (hin : vp_in i n) (hdg : decode cc pc = .ok (.bastore, 1))
    (kk : ∀ (H1 : Heap) (locs1 : List Loc), H1.size = H.size → va_P D cl (ws.set q0 (a, .inl (cA, n, .inl (upd f i.toNatClampNeg x)))) H1 → va_S A H0 H1 locs1 → W p l e R s m args below meth c H1 locs1 cells slots Q (F0 m (pc + 1) ls rest)) : W p l e R s m args below meth c H locs cells slots Q (F0 m pc ls (.int x :: .int i :: .ref a :: rest)) := by
  rcases hty with rfl | rfl
  · refine W.bast hexec hb (hP q0 _ ha) ((hK.2 t0 _ ht).1 n (fun j => .int (f j))) (fun q => by cases q) (by show ¬ (i < 0 ∨ (arrV _ _ _).slots.size ≤ _); rw [arrV_size]; exact hin) rfl rfl hdg fun H1 e z oq => ?_
    exact kk H1 _ z (hP.set hD ha (fd_rnar hx e) oq) (hS.put z oq (hD.2 q0 _ ha))
  · refine W.zast hexec hb (hP q0 _ ha) ((hK.2 t0 _ ht).1 n (fun j => .int (f j))) (fun q => by cases q) (by show ¬ (i < 0 ∨ (arrV _ _ _).slots.size ≤ _); rw [arrV_size]; exact hin) rfl rfl hdg fun H1 e z oq => ?_
    exact kk H1 _ z (hP.set hD ha (fd_rnar hx e) oq) (hS.put z oq (hD.2 q0 _ ha))
theorem fd_raast (hexec : p.tables.exec = Jvm.exec) (hb : c.code = cc) (hK : va_K D cl tys s) (hP : va_P D cl ws H) (hD : va_D A ws) (hS : va_S A H0 H locs) (q0 t0 qk ci : Nat) {cA : ClassId} {r : vw_C} {n v : Nat} {vs : List Value} {f : Nat → Option Nat} (ha : ws[q0]? = some (a, .inl (cA, n, .inr (.inr (.inr (.inr f)))))) (ht : tys[t0]? = some (cA, .object r.1)) (hv : ws[qk]? = some (v, .inr (ci, vs))) (hc : cl[ci]? = some r) {i : Int32} (hin : vp_in i n) (hdg : decode cc pc = .ok (.aastore, 1))
    (kk : ∀ (H1 : Heap) (locs1 : List Loc), H1.size = H.size → va_P D cl (ws.set q0 (a, .inl (cA, n, .inr (.inr (.inr (.inr (va_up f i.toNatClampNeg (some v)))))))) H1 → va_S A H0 H1 locs1 → W p l e R s m args below meth c H1 locs1 cells slots Q (F0 m (pc + 1) ls rest)) : W p l e R s m args below meth c H locs cells slots Q (F0 m pc ls (.ref v :: .int i :: .ref a :: rest)) := by
  have hlt : i.toNatClampNeg < n := Nat.not_le.mp fun q => hin (Or.inr q)
  obtain ⟨r', hr', cellV, g1, g2, g3, -⟩ := hP qk _ hv
  have hcls := (hK.1 ci r hc).2
  obtain ⟨kA, comp, k1, k2, k3, -⟩ := (hK.2 t0 _ ht).2
  cases Option.some.inj (k3.symm.trans hcls.1)
  obtain ⟨kC, hkC, -⟩ := hcls.2
  refine W.aast hexec hb (hP q0 _ ha) (fun q h => by cases h) (fun h => by cases h) k1 k2 rfl hkC ⟨fun q => hin (Or.inl q), by show _ < (arrV _ _ _).slots.size; rw [arrV_size]; exact hlt⟩ g1 (fun q h => by rw [g3] at h; cases h) (by rw [g2]; exact hkC) (by rw [g2]; exact va_assign hcls) rfl rfl hdg fun H1 e z oq => ?_
  refine kk H1 _ z (hP.set hD ha ?_ oq) (hS.put z oq (hD.2 q0 _ ha))
  show H1[a]? = some (vp_cell _ _)
  rw [e, vp_cell_q, vp_cell_q, arrV_store]
  congr 2
  funext q
  by_cases hq : q = i.toNatClampNeg
  · subst hq
    simp [updV, va_up, va_rf]
  · simp [updV, va_up, hq]
end fdM
end
section
theorem fd_okF_inv {q : Nat} {own : String} {as : List Int} (h : fd_okF q own as = true) : fd_n as 0 < 11 ∧ fd_n as 1 < (fd_clD (fd_n as 0)).2.2 ∧ fd_kd (fd_ty (fd_n as 0) (fd_n as 1)) = fd_n as 2 ∧ fd_fl q own (fd_n as 3) (fd_a as 4) (fd_clD (fd_n as 0)).1 ((fd_clD (fd_n as 0)).2.1 (fd_n as 1)).2.1 ((fd_clD (fd_n as 0)).2.1 (fd_n as 1)).2.2.1 = true := by
  rw [fd_okF, Bool.and_eq_true, Bool.and_eq_true, Bool.and_eq_true] at h
  exact ⟨of_decide_eq_true h.1, of_decide_eq_true h.2.1, of_decide_eq_true h.2.2.1, h.2.2.2⟩
def fd_clOk2 (ci : Nat) : Bool := decide (∀ k, k < (fd_clD ci).2.2 → ((fd_clD ci).2.1 k).1 = (fd_clD ci).1 ∧ (fd_kd (fd_ty ci k) = 2 → isReferenceType (fd_ty ci k) = true))
theorem fd_cl2_all : (List.range 11).all fd_clOk2 = true := by decide +kernel
theorem fd_cl2_at {ci : Nat} (h : ci < 11) : ∀ k, k < (fd_clD ci).2.2 → ((fd_clD ci).2.1 k).1 = (fd_clD ci).1 ∧ (fd_kd (fd_ty ci k) = 2 → isReferenceType (fd_ty ci k) = true) := of_decide_eq_true (List.all_eq_true.mp fd_cl2_all ci (List.mem_range.mpr h))
theorem fd_fs_set {g : fd_G} {ph : Bool} {M : fd_M} {ci c k N : Nat} {x : Int} {v : Value} (hk : k < N) (hv : fd_fv g ph (fd_up M c k x) ci c k = v) : ((List.range N).map (fun j => fd_fv g ph M ci c j)).set k v = (List.range N).map (fun j => fd_fv g ph (fd_up M c k x) ci c j) := by
  apply List.ext_getElem?
  intro j
  by_cases hj : j < N
  · by_cases hjk : k = j
    · subst hjk
      rw [List.getElem?_set_self (by simpa using hj)]
      simp [hj, hv]
    · rw [List.getElem?_set_ne hjk]
      have e1 : fd_up M c k x c j = M c j := by rw [fd_up_at, if_neg (fun q => hjk q.symm)]
      simp [hj, fd_fv, fd_gf, fd_rf, e1]
  · rw [List.getElem?_eq_none (by simpa using hj), List.getElem?_eq_none (by simpa using hj)]
theorem fd_kd_int {t : FieldType} (h : fd_kd t = 0) : t = .int := by cases t <;> first | rfl | cases h
theorem fd_kd_long {t : FieldType} (h : fd_kd t = 1) : t = .long := by cases t <;> first | rfl | cases h
theorem fd_kd_bool {t : FieldType} (h : fd_kd t = 3) : t = .boolean := by cases t <;> first | rfl | cases h
theorem fd_bool {a : Int} (h : 0 ≤ a ∧ a < 2) : narrow .boolean (.int (Int32.ofInt a)) = .int (Int32.ofInt a) ∧ fits .boolean (.int (Int32.ofInt a)) = true := by
  have h1 : a = 0 ∨ a = 1 := by omega
  rcases h1 with rfl | rfl <;> exact ⟨rfl, rfl⟩
theorem fd_nbyte {a : Int} (h : 0 ≤ a + 128 ∧ a + 128 < 256) : narrow .byte (.int (Int32.ofInt a)) = .int (Int32.ofInt a) := by
  have key : ∀ n : Nat, n < 256 → narrow .byte (.int (Int32.ofInt ((n : Int) - 128))) = .int (Int32.ofInt ((n : Int) - 128)) := by decide +kernel
  have h1 := key (a + 128).toNat (by omega)
  rwa [show (((a + 128).toNat : Int) - 128) = a by omega] at h1
section fdK2
variable {g : fd_G} {ph : Bool} {p : Program} {l : Launch} {e : Env} {R : Room} {s : State} {m : MethodId} {args : Array Value} {below : List Frame} {meth : Method} {c : Code} {mm a0 i pc : Nat} {Q : State → Prop} {as : List Int} {L L' st st' : List fd_V} {M M' : fd_M} {H : Heap} {locs : List Loc} {la : Array Slot}
theorem fd_k27 (cx : fd_cx g p R s m args meth c mm) (hok : fd_okI (fd_y mm).cls (fd_b mm) (fd_ini mm) (fd_pcs mm) pc ((fd_pcs mm).getD (i + 1) 0) 27 as = true) (hn : fd_nx ph 27 as L st M = some (true, L', st', M')) (kk : fd_Go g ph p l e R s m args below meth c mm a0 Q (i + 1) L' st' M') (hH : fd_hp g ph M H) (hS : va_S (fd_A g) s.heap H locs) (hl : fd_lr g la (fd_mL mm) L) : W p l e R s m args below meth c H locs (fd_ap M - a0) (fd_sl (fd_ap M) - fd_sl a0) Q (F0 m pc la (st.map (fd_cv g))) := by
  obtain ⟨hx, hb, hml, hr, hown, hts, hlk, hini, ⟨hK, hNw, hSt⟩, hbs, h177, hfr, hlo⟩ := cx
  rw [fd_okI, Bool.and_eq_true] at hok
  obtain ⟨hd, hnx⟩ := fd_dc_inv hok.1
  obtain ⟨hci, hkN, hkd, hfl⟩ := fd_okF_inv hok.2
  obtain ⟨a, r, rfl, hn1⟩ := fd_pR_inv hn
  obtain ⟨hg, rfl, rfl, rfl⟩ := fd_some4 hn1
  obtain ⟨hsh, hal⟩ := fd_isO_inv hg
  obtain ⟨hlt, h213⟩ := fd_lt_ap hH hal (by omega)
  have hsz := ((fd_sh_at (c := a) (by omega)).2.1 (by omega)).2
  rw [hsh] at hsz
  have hce := fd_ws_get (g := g) (ph := ph) (M := M) hlt
  rw [fd_ce_obj hsh (by omega)] at hce
  have hin := (fd_cl_at hci).1
  have k1 := kk (pc + 3) H locs la (fd_nxt hnx (by decide)) hH hS hl
  have hv : ((List.range (fd_SH a).2).map (fun k => fd_fv g ph M (fd_n as 0) a k))[fd_n as 1]? = some (fd_cv g (fd_gf ph M (fd_n as 2) a (fd_n as 1))) := by
    simp [show fd_n as 1 < (fd_SH a).2 by omega, fd_fv, hkd]
  rw [List.map_cons, show fd_cv g (fd_R a) = .ref (g.1 + a) from fd_rv_lt (by omega)]
  have hsame : ∀ x, s.fieldFound? ((fd_clD (fd_n as 0)).2.1 (fd_n as 1)).1 ((fd_clD (fd_n as 0)).2.1 (fd_n as 1)).2.1 ((fd_clD (fd_n as 0)).2.1 (fd_n as 1)).2.2.1 = some x → s.fieldFound? (fd_clD (fd_n as 0)).1 ((fd_clD (fd_n as 0)).2.1 (fd_n as 1)).2.1 ((fd_clD (fd_n as 0)).2.1 (fd_n as 1)).2.2.1 = some x := fun x h => by rw [← (fd_cl2_at hci _ hkN).1]; exact h
  rw [fd_fl] at hfl
  split at hfl
  · exact va_get hx hb hts hin hown hK hH.2.2.2.2 a hce (fd_clD_get hci) (fd_n as 1) hkN (hts _ (fd_wd_mem hfl)) hsame hv hd k1
  · exact va_getN hx hb hts hin hown hK hH.2.2.2.2 a hce (fd_clD_get hci) (fd_n as 1) hkN (hts _ (fd_wd_mem hfl)) hsame hv hd k1
/-- a write into a field, whatever its kind -/
theorem fd_kput (cx : fd_cx g p R s m args meth c mm) (hok : fd_okI (fd_y mm).cls (fd_b mm) (fd_ini mm) (fd_pcs mm) pc ((fd_pcs mm).getD (i + 1) 0) 28 as = true) {x : Int} {v : Value} {a : Nat} {r : List Value}
    (hal : fd_isO ph M a (fd_n as 0) = true) (hnar : narrow (fd_ty (fd_n as 0) (fd_n as 1)) v = v) (hfit : fits (fd_ty (fd_n as 0) (fd_n as 1)) v = true) (hv : fd_fv g ph (fd_up M a (fd_n as 1) x) (fd_n as 0) a (fd_n as 1) = v)
    (hH : fd_hp g ph M H) (hS : va_S (fd_A g) s.heap H locs) (kk : ∀ (H1 : Heap) (locs1 : List Loc), (fd_pcs mm)[i + 1]? = some (pc + 3) → fd_hp g ph (fd_up M a (fd_n as 1) x) H1 → va_S (fd_A g) s.heap H1 locs1 → W p l e R s m args below meth c H1 locs1 (fd_ap M - a0) (fd_sl (fd_ap M) - fd_sl a0) Q (F0 m (pc + 3) la r)) :
    W p l e R s m args below meth c H locs (fd_ap M - a0) (fd_sl (fd_ap M) - fd_sl a0) Q (F0 m pc la (v :: fd_cv g (fd_R a) :: r)) := by
  obtain ⟨hx, hb, hml, hr, hown, hts, hlk, hini, ⟨hK, hNw, hSt⟩, hbs, h177, hfr, hlo⟩ := cx
  rw [fd_okI, Bool.and_eq_true, Bool.and_eq_true] at hok
  obtain ⟨hd, hnx⟩ := fd_dc_inv hok.1
  obtain ⟨hci, hkN, hkd, hfl⟩ := fd_okF_inv hok.2.1
  obtain ⟨hsh, hal⟩ := fd_isO_inv hal
  obtain ⟨hlt, h213⟩ := fd_lt_ap hH hal (by omega)
  have hsz := ((fd_sh_at (c := a) (by omega)).2.1 (by omega)).2
  rw [hsh] at hsz
  have hce := fd_ws_get (g := g) (ph := ph) (M := M) hlt
  rw [fd_ce_obj hsh (by omega)] at hce
  obtain ⟨hin, -, -, hnm, hty⟩ := fd_cl_at hci
  rw [show fd_cv g (fd_R a) = .ref (g.1 + a) from fd_rv_lt (by omega)]
  have fin : ∀ (H1 : Heap) (locs1 : List Loc), H1.size = H.size → va_P g.2.2.2.1 fd_cl ((fd_ws g ph M (fd_ap M)).set a (g.1 + a, .inr (fd_n as 0, ((List.range (fd_SH a).2).map (fun k => fd_fv g ph M (fd_n as 0) a k)).set (fd_n as 1) v))) H1 → va_S (fd_A g) s.heap H1 locs1 → W p l e R s m args below meth c H1 locs1 (fd_ap M - a0) (fd_sl (fd_ap M) - fd_sl a0) Q (F0 m (pc + 3) la r) := fun H1 locs1 z hP1 hS1 => by
    refine kk H1 locs1 (fd_nxt hnx (by decide)) (fd_hp_up hH hlt (fun _ => z) _ ?_ hP1) hS1
    rw [fd_ce_obj hsh (by omega), fd_fs_set (by omega) hv]
  have hlen : fd_n as 1 < ((List.range (fd_SH a).2).map (fun k => fd_fv g ph M (fd_n as 0) a k)).length := by
    rw [List.length_map, List.length_range]; omega
  have hC := (fd_cl2_at hci _ hkN).1
  rw [fd_fl] at hfl
  have hok2 := hok.2.2
  split at hfl
  · refine fd_rput hx hb hts hin (fd_ty (fd_n as 0)) hty hnm hown hK hH.2.2.2.2 fd_ws_D hS a hce (fd_clD_get hci) (fd_n as 1) hkN (by rw [hC]; exact hts _ (fd_wd_mem hfl)) (fun hf => ?_) hnar hfit hlen hd fin
    rw [if_pos hf, Bool.and_eq_true, Bool.and_eq_true] at hok2
    exact ⟨hini hok2.1, of_decide_eq_true hok2.2.1⟩
  · rename_i hne
    refine fd_rputN hx hb hts hin (fd_ty (fd_n as 0)) hty hnm hown hK hH.2.2.2.2 fd_ws_D hS a hce (fd_clD_get hci) (fd_n as 1) hkN (by rw [hC]; exact hts _ (fd_wd_mem hfl)) ?_ hnar hfit hlen hd fin
    cases hf : ((fd_clD (fd_n as 0)).2.1 (fd_n as 1)).2.2.2 with
    | false => rfl
    | true =>
      rw [if_pos hf, Bool.and_eq_true, Bool.and_eq_true] at hok2
      exact absurd (of_decide_eq_true hok2.2.2) hne
theorem fd_k28 (cx : fd_cx g p R s m args meth c mm) (hok : fd_okI (fd_y mm).cls (fd_b mm) (fd_ini mm) (fd_pcs mm) pc ((fd_pcs mm).getD (i + 1) 0) 28 as = true) (hn : fd_nx ph 28 as L st M = some (true, L', st', M')) (kk : fd_Go g ph p l e R s m args below meth c mm a0 Q (i + 1) L' st' M') (hH : fd_hp g ph M H) (hS : va_S (fd_A g) s.heap H locs) (hl : fd_lr g la (fd_mL mm) L) : W p l e R s m args below meth c H locs (fd_ap M - a0) (fd_sl (fd_ap M) - fd_sl a0) Q (F0 m pc la (st.map (fd_cv g))) := by
  have hok0 := hok
  rw [fd_okI, Bool.and_eq_true, Bool.and_eq_true] at hok0
  obtain ⟨hci, hkN, hkd, -⟩ := fd_okF_inv hok0.2.1
  have hR := (fd_cl2_at hci _ hkN).2
  have hap : ∀ {a : Nat} {x : Int}, fd_isO ph M a (fd_n as 0) = true → fd_ap (fd_up M a (fd_n as 1) x) = fd_ap M := fun {a x} hal => by
    obtain ⟨hsh, hal⟩ := fd_isO_inv hal
    show Int.toNat _ = _
    rw [fd_up_ap (fd_lt_ap hH hal (by omega)).2]
  have hn : fd_put ph (fd_n as 0) (fd_n as 1) (fd_n as 2) L st M = some (true, L', st', M') := hn
  unfold fd_put at hn
  split at hn
  · rename_i h2
    rw [h2] at hkd
    obtain ⟨x, r, rfl, hn1⟩ := fd_pI_inv hn
    obtain ⟨a, r, rfl, hn2⟩ := fd_pR_inv hn1
    obtain ⟨hg, rfl, rfl, rfl⟩ := fd_some4 hn2
    refine fd_kput (x := x) (v := .int (Int32.ofInt x)) cx hok hg (by rw [fd_kd_int hkd]; rfl) (by rw [fd_kd_int hkd]; rfl) (by simp [fd_fv, hkd, fd_gf, fd_cv, fd_up_at]) hH hS (fun H1 l1 hp h1 h2 => ?_)
    have k1 := kk (pc + 3) H1 l1 la hp h1 h2 hl
    rw [hap hg] at k1
    exact k1
  · rename_i h2
    rw [h2] at hkd
    obtain ⟨x, r, rfl, hn1⟩ := fd_pJ_inv hn
    obtain ⟨a, r, rfl, hn2⟩ := fd_pR_inv hn1
    obtain ⟨hg, rfl, rfl, rfl⟩ := fd_some4 hn2
    refine fd_kput (x := x) (v := .long (Int64.ofInt x)) cx hok hg (by rw [fd_kd_long hkd]; rfl) (by rw [fd_kd_long hkd]; rfl) (by simp [fd_fv, hkd, fd_gf, fd_cv, fd_up_at]) hH hS (fun H1 l1 hp h1 h2 => ?_)
    have k1 := kk (pc + 3) H1 l1 la hp h1 h2 hl
    rw [hap hg] at k1
    exact k1
  · rename_i h2
    rw [h2] at hkd
    obtain ⟨x, r, rfl, hn1⟩ := fd_pR_inv hn
    obtain ⟨a, r, rfl, hn2⟩ := fd_pR_inv hn1
    obtain ⟨hg, rfl, rfl, rfl⟩ := fd_some4 hn2
    rw [Bool.and_eq_true, Bool.and_eq_true] at hg
    obtain ⟨hph, hg, hx3⟩ := hg
    have hph : ph = false := by simpa using hph
    subst hph
    have hx3 : x < 1000 := by simpa using hx3
    have hR := hR hkd
    refine fd_kput (x := x) (v := fd_cv g (fd_R x)) cx hok hg ?_ ?_ (by simp [fd_fv, hkd, fd_gf, fd_rf, fd_cv, fd_up_at]) hH hS (fun H1 l1 hp h1 h2 => ?_)
    · rw [show fd_cv g (fd_R x) = .ref (g.1 + x) from fd_rv_lt hx3]
      cases ht : fd_ty (fd_n as 0) (fd_n as 1) <;> rw [ht] at hR <;> first | rfl | cases hR
    · rw [show fd_cv g (fd_R x) = .ref (g.1 + x) from fd_rv_lt hx3]
      cases ht : fd_ty (fd_n as 0) (fd_n as 1) <;> rw [ht] at hR <;> first | rfl | cases hR
    · have k1 := kk (pc + 3) H1 l1 la hp h1 h2 hl
      rw [hap hg] at k1
      exact k1
  · rename_i h2
    rw [h2] at hkd
    obtain ⟨x, r, rfl, hn1⟩ := fd_pI_inv hn
    obtain ⟨a, r, rfl, hn2⟩ := fd_pR_inv hn1
    obtain ⟨hg, rfl, rfl, rfl⟩ := fd_some4 hn2
    rw [Bool.and_eq_true, fd_inb_iff] at hg
    obtain ⟨n1, n2⟩ := fd_bool hg.2
    refine fd_kput (x := x) (v := .int (Int32.ofInt x)) cx hok hg.1 (by rw [fd_kd_bool hkd]; exact n1) (by rw [fd_kd_bool hkd]; exact n2) (by simp [fd_fv, hkd, fd_gf, fd_cv, fd_up_at]) hH hS (fun H1 l1 hp h1 h2 => ?_)
    have k1 := kk (pc + 3) H1 l1 la hp h1 h2 hl
    rw [hap hg.1] at k1
    exact k1
  · cases hn
theorem fd_k29 (cx : fd_cx g p R s m args meth c mm) (hok : fd_okI (fd_y mm).cls (fd_b mm) (fd_ini mm) (fd_pcs mm) pc ((fd_pcs mm).getD (i + 1) 0) 29 as = true) (hn : fd_nx ph 29 as L st M = some (true, L', st', M')) (kk : fd_Go g ph p l e R s m args below meth c mm a0 Q (i + 1) L' st' M') (hH : fd_hp g ph M H) (hS : va_S (fd_A g) s.heap H locs) (hl : fd_lr g la (fd_mL mm) L) : W p l e R s m args below meth c H locs (fd_ap M - a0) (fd_sl (fd_ap M) - fd_sl a0) Q (F0 m pc la (st.map (fd_cv g))) := by
  obtain ⟨hx, hb, hml, hr, hown, hts, hlk, hini, ⟨hK, hNw, hSt⟩, hbs, h177, hfr, hlo⟩ := cx
  rw [fd_okI, Bool.and_eq_true, Bool.or_eq_true, Bool.and_eq_true, Bool.and_eq_true] at hok
  obtain ⟨hd, hnx⟩ := fd_dc_inv hok.1
  obtain ⟨hg, rfl, rfl, rfl⟩ := fd_some4 hn
  have k1 := kk (pc + 3) H locs la (fd_nxt hnx (by decide)) hH hS hl
  rcases hok.2 with ⟨h1, hfl⟩ | ⟨h1, hfl⟩
  · rw [of_decide_eq_true h1] at k1
    rw [fd_fl] at hfl
    split at hfl
    · exact va_gets hx hb hSt.1 hS hown (hts _ (fd_wd_mem hfl)) (fun _ h => h) hd k1
    · exact va_getsN hx hb hSt.1 hS hown (hts _ (fd_wd_mem hfl)) (fun _ h => h) hd k1
  · rw [of_decide_eq_true h1] at k1
    rw [fd_fl] at hfl
    split at hfl
    · exact va_gets hx hb hSt.2.2.1 hS hown (hts _ (fd_wd_mem hfl)) (fun _ h => h) hd k1
    · exact va_getsN hx hb hSt.2.2.1 hS hown (hts _ (fd_wd_mem hfl)) (fun _ h => h) hd k1
theorem fd_k30 (cx : fd_cx g p R s m args meth c mm) (hok : fd_okI (fd_y mm).cls (fd_b mm) (fd_ini mm) (fd_pcs mm) pc ((fd_pcs mm).getD (i + 1) 0) 30 as = true) (hn : fd_nx ph 30 as L st M = some (true, L', st', M')) (kk : fd_Go g ph p l e R s m args below meth c mm a0 Q (i + 1) L' st' M') (hH : fd_hp g ph M H) (hS : va_S (fd_A g) s.heap H locs) (hl : fd_lr g la (fd_mL mm) L) : W p l e R s m args below meth c H locs (fd_ap M - a0) (fd_sl (fd_ap M) - fd_sl a0) Q (F0 m pc la (st.map (fd_cv g))) := by
  obtain ⟨hx, hb, hml, hr, hown, hts, hlk, hini, ⟨hK, hNw, hSt⟩, hbs, h177, hfr, hlo⟩ := cx
  obtain ⟨hd, hnx⟩ := fd_dc_inv (show fd_dc (fd_b mm) pc _ .iaload 1 = true from hok)
  obtain ⟨j, r, rfl, hn1⟩ := fd_pI_inv hn
  obtain ⟨a, r, rfl, hn2⟩ := fd_pR_inv hn1
  obtain ⟨hg, rfl, rfl, rfl⟩ := fd_some4 hn2
  obtain ⟨hsh, hal, hi0, hi1⟩ := fd_isA_inv hg
  obtain ⟨hlt, h213⟩ := fd_lt_ap hH hal (by omega)
  have hn3 := (fd_sh_at (c := a) (by omega)).2.2
  obtain ⟨hin, hcl⟩ := fd_vin ⟨hi0, hi1⟩ (by omega)
  have hce := fd_ws_get (g := g) (ph := ph) (M := M) hlt
  rw [fd_ce_int hsh (by decide) (by decide)] at hce
  have k1 := kk (pc + 1) H locs la (fd_nxt hnx (by decide)) hH hS hl
  rw [List.map_cons, List.map_cons, show fd_cv g (fd_R a) = .ref (g.1 + a) from fd_rv_lt (by omega)]
  refine va_iald hx hb hK hH.2.2.2.2 a 0 hce rfl hin hd ?_
  rw [hcl]
  exact k1
theorem fd_k32 (cx : fd_cx g p R s m args meth c mm) (hok : fd_okI (fd_y mm).cls (fd_b mm) (fd_ini mm) (fd_pcs mm) pc ((fd_pcs mm).getD (i + 1) 0) 32 as = true) (hn : fd_nx ph 32 as L st M = some (true, L', st', M')) (kk : fd_Go g ph p l e R s m args below meth c mm a0 Q (i + 1) L' st' M') (hH : fd_hp g ph M H) (hS : va_S (fd_A g) s.heap H locs) (hl : fd_lr g la (fd_mL mm) L) : W p l e R s m args below meth c H locs (fd_ap M - a0) (fd_sl (fd_ap M) - fd_sl a0) Q (F0 m pc la (st.map (fd_cv g))) := by
  obtain ⟨hx, hb, hml, hr, hown, hts, hlk, hini, ⟨hK, hNw, hSt⟩, hbs, h177, hfr, hlo⟩ := cx
  obtain ⟨hd, hnx⟩ := fd_dc_inv (show fd_dc (fd_b mm) pc _ .baload 1 = true from hok)
  obtain ⟨j, r, rfl, hn1⟩ := fd_pI_inv hn
  obtain ⟨a, r, rfl, hn2⟩ := fd_pR_inv hn1
  obtain ⟨hg, rfl, rfl, rfl⟩ := fd_some4 hn2
  rw [Bool.or_eq_true] at hg
  have k1 := kk (pc + 1) H locs la (fd_nxt hnx (by decide)) hH hS hl
  rcases hg with hg | hg
  · obtain ⟨hsh, hal, hi0, hi1⟩ := fd_isA_inv hg
    obtain ⟨hlt, h213⟩ := fd_lt_ap hH hal (by omega)
    have hn3 := (fd_sh_at (c := a) (by omega)).2.2
    obtain ⟨hin, hcl⟩ := fd_vin ⟨hi0, hi1⟩ (by omega)
    have hce := fd_ws_get (g := g) (ph := ph) (M := M) hlt
    rw [fd_ce_int hsh (by decide) (by decide)] at hce
    rw [List.map_cons, List.map_cons, show fd_cv g (fd_R a) = .ref (g.1 + a) from fd_rv_lt (by omega)]
    refine va_bald hx hb hK hH.2.2.2.2 a 1 hce rfl hin hd ?_
    rw [hcl]
    exact k1
  · obtain ⟨hsh, hal, hi0, hi1⟩ := fd_isA_inv hg
    obtain ⟨hlt, h213⟩ := fd_lt_ap hH hal (by omega)
    have hn3 := (fd_sh_at (c := a) (by omega)).2.2
    obtain ⟨hin, hcl⟩ := fd_vin ⟨hi0, hi1⟩ (by omega)
    have hce := fd_ws_get (g := g) (ph := ph) (M := M) hlt
    rw [fd_ce_int hsh (by decide) (by decide)] at hce
    rw [List.map_cons, List.map_cons, show fd_cv g (fd_R a) = .ref (g.1 + a) from fd_rv_lt (by omega)]
    refine va_zald hx hb hK hH.2.2.2.2 a 2 hce rfl hin hd ?_
    rw [hcl]
    exact k1
theorem fd_k31 (cx : fd_cx g p R s m args meth c mm) (hok : fd_okI (fd_y mm).cls (fd_b mm) (fd_ini mm) (fd_pcs mm) pc ((fd_pcs mm).getD (i + 1) 0) 31 as = true) (hn : fd_nx ph 31 as L st M = some (true, L', st', M')) (kk : fd_Go g ph p l e R s m args below meth c mm a0 Q (i + 1) L' st' M') (hH : fd_hp g ph M H) (hS : va_S (fd_A g) s.heap H locs) (hl : fd_lr g la (fd_mL mm) L) : W p l e R s m args below meth c H locs (fd_ap M - a0) (fd_sl (fd_ap M) - fd_sl a0) Q (F0 m pc la (st.map (fd_cv g))) := by
  obtain ⟨hx, hb, hml, hr, hown, hts, hlk, hini, ⟨hK, hNw, hSt⟩, hbs, h177, hfr, hlo⟩ := cx
  obtain ⟨hd, hnx⟩ := fd_dc_inv (show fd_dc (fd_b mm) pc _ .iastore 1 = true from hok)
  obtain ⟨x, r, rfl, hn1⟩ := fd_pI_inv hn
  obtain ⟨j, r, rfl, hn2⟩ := fd_pI_inv hn1
  obtain ⟨a, r, rfl, hn3⟩ := fd_pR_inv hn2
  obtain ⟨hg, rfl, rfl, rfl⟩ := fd_some4 hn3
  obtain ⟨hsh, hal, hi0, hi1⟩ := fd_isA_inv hg
  obtain ⟨hlt, h213⟩ := fd_lt_ap hH hal (by omega)
  have hn3 := (fd_sh_at (c := a) (by omega)).2.2
  obtain ⟨hin, hcl⟩ := fd_vin ⟨hi0, hi1⟩ (by omega)
  have hce := fd_ws_get (g := g) (ph := ph) (M := M) hlt
  have e1 : ∀ (x : Int), upd (fun j => Int32.ofInt (M a j)) j.toNat (Int32.ofInt x) = fun k => Int32.ofInt (fd_up M a j.toNat x a k) := fun x => by
    funext k
    rw [fd_up_at]
    by_cases h : k = j.toNat
    · simp [upd, h]
    · simp [upd, h]
  rw [fd_ce_int hsh (by decide) (by decide)] at hce
  rw [List.map_cons, List.map_cons, List.map_cons, show fd_cv g (fd_R a) = .ref (g.1 + a) from fd_rv_lt (by omega)]
  refine fd_riast hx hb hK hH.2.2.2.2 fd_ws_D hS a 0 hce rfl hin hd (fun H1 l1 z hP1 hS1 => ?_)
  have k1 := kk (pc + 1) H1 l1 la (fd_nxt hnx (by decide)) (fd_hp_up hH hlt (fun _ => z) _ (by rw [fd_ce_int hsh (by decide) (by decide), hcl, e1]) hP1) hS1 hl
  rw [show fd_ap (fd_up M a j.toNat x) = fd_ap M from by show Int.toNat _ = _; rw [fd_up_ap h213]] at k1
  exact k1
theorem fd_k33 (cx : fd_cx g p R s m args meth c mm) (hok : fd_okI (fd_y mm).cls (fd_b mm) (fd_ini mm) (fd_pcs mm) pc ((fd_pcs mm).getD (i + 1) 0) 33 as = true) (hn : fd_nx ph 33 as L st M = some (true, L', st', M')) (kk : fd_Go g ph p l e R s m args below meth c mm a0 Q (i + 1) L' st' M') (hH : fd_hp g ph M H) (hS : va_S (fd_A g) s.heap H locs) (hl : fd_lr g la (fd_mL mm) L) : W p l e R s m args below meth c H locs (fd_ap M - a0) (fd_sl (fd_ap M) - fd_sl a0) Q (F0 m pc la (st.map (fd_cv g))) := by
  obtain ⟨hx, hb, hml, hr, hown, hts, hlk, hini, ⟨hK, hNw, hSt⟩, hbs, h177, hfr, hlo⟩ := cx
  obtain ⟨hd, hnx⟩ := fd_dc_inv (show fd_dc (fd_b mm) pc _ .bastore 1 = true from hok)
  obtain ⟨x, r, rfl, hn1⟩ := fd_pI_inv hn
  obtain ⟨j, r, rfl, hn2⟩ := fd_pI_inv hn1
  obtain ⟨a, r, rfl, hn3⟩ := fd_pR_inv hn2
  obtain ⟨hg, rfl, rfl, rfl⟩ := fd_some4 hn3
  rw [Bool.or_eq_true, Bool.and_eq_true, Bool.and_eq_true, fd_inb_iff, fd_inb_iff] at hg
  have e1 : ∀ (x : Int), upd (fun j => Int32.ofInt (M a j)) j.toNat (Int32.ofInt x) = fun k => Int32.ofInt (fd_up M a j.toNat x a k) := fun x => by
    funext k
    rw [fd_up_at]
    by_cases h : k = j.toNat
    · simp [upd, h]
    · simp [upd, h]
  rcases hg with ⟨hg, hv⟩ | ⟨hg, hv⟩
  · obtain ⟨hsh, hal, hi0, hi1⟩ := fd_isA_inv hg
    obtain ⟨hlt, h213⟩ := fd_lt_ap hH hal (by omega)
    have hn3 := (fd_sh_at (c := a) (by omega)).2.2
    obtain ⟨hin, hcl⟩ := fd_vin ⟨hi0, hi1⟩ (by omega)
    have hce := fd_ws_get (g := g) (ph := ph) (M := M) hlt
    rw [fd_ce_int hsh (by decide) (by decide)] at hce
    rw [List.map_cons, List.map_cons, List.map_cons, show fd_cv g (fd_R a) = .ref (g.1 + a) from fd_rv_lt (by omega)]
    refine fd_rbast (ty := .byte) hx hb hK hH.2.2.2.2 fd_ws_D hS a 1 hce rfl (Or.inl rfl) (fd_nbyte hv) hin hd (fun H1 l1 z hP1 hS1 => ?_)
    have k1 := kk (pc + 1) H1 l1 la (fd_nxt hnx (by decide)) (fd_hp_up hH hlt (fun _ => z) _ (by rw [fd_ce_int hsh (by decide) (by decide), hcl, e1]) hP1) hS1 hl
    rw [show fd_ap (fd_up M a j.toNat x) = fd_ap M from by show Int.toNat _ = _; rw [fd_up_ap h213]] at k1
    exact k1
  · obtain ⟨hsh, hal, hi0, hi1⟩ := fd_isA_inv hg
    obtain ⟨hlt, h213⟩ := fd_lt_ap hH hal (by omega)
    have hn3 := (fd_sh_at (c := a) (by omega)).2.2
    obtain ⟨hin, hcl⟩ := fd_vin ⟨hi0, hi1⟩ (by omega)
    have hce := fd_ws_get (g := g) (ph := ph) (M := M) hlt
    rw [fd_ce_int hsh (by decide) (by decide)] at hce
    rw [List.map_cons, List.map_cons, List.map_cons, show fd_cv g (fd_R a) = .ref (g.1 + a) from fd_rv_lt (by omega)]
    refine fd_rbast (ty := .boolean) hx hb hK hH.2.2.2.2 fd_ws_D hS a 2 hce rfl (Or.inr rfl) ((fd_bool hv).1) hin hd (fun H1 l1 z hP1 hS1 => ?_)
    have k1 := kk (pc + 1) H1 l1 la (fd_nxt hnx (by decide)) (fd_hp_up hH hlt (fun _ => z) _ (by rw [fd_ce_int hsh (by decide) (by decide), hcl, e1]) hP1) hS1 hl
    rw [show fd_ap (fd_up M a j.toNat x) = fd_ap M from by show Int.toNat _ = _; rw [fd_up_ap h213]] at k1
    exact k1
theorem fd_k34 (cx : fd_cx g p R s m args meth c mm) (hok : fd_okI (fd_y mm).cls (fd_b mm) (fd_ini mm) (fd_pcs mm) pc ((fd_pcs mm).getD (i + 1) 0) 34 as = true) (hn : fd_nx ph 34 as L st M = some (true, L', st', M')) (kk : fd_Go g ph p l e R s m args below meth c mm a0 Q (i + 1) L' st' M') (hH : fd_hp g ph M H) (hS : va_S (fd_A g) s.heap H locs) (hl : fd_lr g la (fd_mL mm) L) : W p l e R s m args below meth c H locs (fd_ap M - a0) (fd_sl (fd_ap M) - fd_sl a0) Q (F0 m pc la (st.map (fd_cv g))) := by
  obtain ⟨hx, hb, hml, hr, hown, hts, hlk, hini, ⟨hK, hNw, hSt⟩, hbs, h177, hfr, hlo⟩ := cx
  obtain ⟨hd, hnx⟩ := fd_dc_inv (show fd_dc (fd_b mm) pc _ .aaload 1 = true from hok)
  obtain ⟨j, r, rfl, hn1⟩ := fd_pI_inv hn
  obtain ⟨a, r, rfl, hn2⟩ := fd_pR_inv hn1
  obtain ⟨hg, rfl, rfl, rfl⟩ := fd_some4 hn2
  rw [Bool.and_eq_true, Bool.or_eq_true] at hg
  have hm3 : (M a j.toNat).toNat < 1000 := by simpa using hg.2
  have k1 := kk (pc + 1) H locs la (fd_nxt hnx (by decide)) hH hS hl
  rw [List.map_cons, show fd_cv g (fd_R (M a j.toNat).toNat) = .ref (g.1 + (M a j.toNat).toNat) from fd_rv_lt hm3] at k1
  rcases hg.1 with hg | hg
  · obtain ⟨hsh, hal, hi0, hi1⟩ := fd_isA_inv hg
    obtain ⟨hlt, h213⟩ := fd_lt_ap hH hal (by omega)
    have hn3 := (fd_sh_at (c := a) (by omega)).2.2
    obtain ⟨hin, hcl⟩ := fd_vin ⟨hi0, hi1⟩ (by omega)
    have hce := fd_ws_get (g := g) (ph := ph) (M := M) hlt
    rw [fd_ce_ref hsh (by decide)] at hce
    rw [List.map_cons, List.map_cons, show fd_cv g (fd_R a) = .ref (g.1 + a) from fd_rv_lt (by omega)]
    refine va_aldq hx hb hK hH.2.2.2.2 a 3 hce rfl hin hd ?_
    rw [hcl, fd_ro, if_pos hm3]
    exact k1
  · obtain ⟨hsh, hal, hi0, hi1⟩ := fd_isA_inv hg
    obtain ⟨hlt, h213⟩ := fd_lt_ap hH hal (by omega)
    have hn3 := (fd_sh_at (c := a) (by omega)).2.2
    obtain ⟨hin, hcl⟩ := fd_vin ⟨hi0, hi1⟩ (by omega)
    have hce := fd_ws_get (g := g) (ph := ph) (M := M) hlt
    rw [fd_ce_ref hsh (by decide)] at hce
    rw [List.map_cons, List.map_cons, show fd_cv g (fd_R a) = .ref (g.1 + a) from fd_rv_lt (by omega)]
    refine va_aldq hx hb hK hH.2.2.2.2 a 4 hce rfl hin hd ?_
    rw [hcl, fd_ro, if_pos hm3]
    exact k1
theorem fd_k35 (cx : fd_cx g p R s m args meth c mm) (hok : fd_okI (fd_y mm).cls (fd_b mm) (fd_ini mm) (fd_pcs mm) pc ((fd_pcs mm).getD (i + 1) 0) 35 as = true) (hn : fd_nx ph 35 as L st M = some (true, L', st', M')) (kk : fd_Go g ph p l e R s m args below meth c mm a0 Q (i + 1) L' st' M') (hH : fd_hp g ph M H) (hS : va_S (fd_A g) s.heap H locs) (hl : fd_lr g la (fd_mL mm) L) : W p l e R s m args below meth c H locs (fd_ap M - a0) (fd_sl (fd_ap M) - fd_sl a0) Q (F0 m pc la (st.map (fd_cv g))) := by
  obtain ⟨hx, hb, hml, hr, hown, hts, hlk, hini, ⟨hK, hNw, hSt⟩, hbs, h177, hfr, hlo⟩ := cx
  obtain ⟨hd, hnx⟩ := fd_dc_inv (show fd_dc (fd_b mm) pc _ .aastore 1 = true from hok)
  obtain ⟨x, r, rfl, hn1⟩ := fd_pR_inv hn
  obtain ⟨j, r, rfl, hn2⟩ := fd_pI_inv hn1
  obtain ⟨a, r, rfl, hn3⟩ := fd_pR_inv hn2
  obtain ⟨hg, rfl, rfl, rfl⟩ := fd_some4 hn3
  rw [Bool.or_eq_true, Bool.and_eq_true, Bool.and_eq_true] at hg
  rcases hg with ⟨hg, hv⟩ | ⟨hg, hv⟩
  · obtain ⟨hsh, hal, hi0, hi1⟩ := fd_isA_inv hg
    obtain ⟨hsx, halx⟩ := fd_isO_inv hv
    obtain ⟨hlt, h213⟩ := fd_lt_ap hH hal (by omega)
    obtain ⟨hltx, hx213⟩ := fd_lt_ap hH halx (by omega)
    have hn3 := (fd_sh_at (c := a) (by omega)).2.2
    obtain ⟨hin, hcl⟩ := fd_vin ⟨hi0, hi1⟩ (by omega)
    have hce := fd_ws_get (g := g) (ph := ph) (M := M) hlt
    rw [fd_ce_ref hsh (by decide)] at hce
    have hcx := fd_ws_get (g := g) (ph := ph) (M := M) hltx
    rw [fd_ce_obj hsx (by decide)] at hcx
    rw [List.map_cons, List.map_cons, List.map_cons, show fd_cv g (fd_R a) = .ref (g.1 + a) from fd_rv_lt (by omega), show fd_cv g (fd_R x) = .ref (g.1 + x) from fd_rv_lt (by omega)]
    refine fd_raast hx hb hK hH.2.2.2.2 fd_ws_D hS a 3 x 5 hce rfl hcx (fd_clD_get (by decide)) hin hd (fun H1 l1 z hP1 hS1 => ?_)
    have k1 := kk (pc + 1) H1 l1 la (fd_nxt hnx (by decide)) (fd_hp_up hH hlt (fun _ => z) _ (by
      rw [fd_ce_ref hsh (by decide), hcl]
      congr 8
      funext k
      rw [fd_up_at]
      by_cases h : k = j.toNat
      · simp [va_up, h, fd_ro, show x < 1000 by omega]
      · simp [va_up, h]) hP1) hS1 hl
    rw [show fd_ap (fd_up M a j.toNat x) = fd_ap M from by show Int.toNat _ = _; rw [fd_up_ap h213]] at k1
    exact k1
  · obtain ⟨hsh, hal, hi0, hi1⟩ := fd_isA_inv hg
    obtain ⟨hsx, halx⟩ := fd_isO_inv hv
    obtain ⟨hlt, h213⟩ := fd_lt_ap hH hal (by omega)
    obtain ⟨hltx, hx213⟩ := fd_lt_ap hH halx (by omega)
    have hn3 := (fd_sh_at (c := a) (by omega)).2.2
    obtain ⟨hin, hcl⟩ := fd_vin ⟨hi0, hi1⟩ (by omega)
    have hce := fd_ws_get (g := g) (ph := ph) (M := M) hlt
    rw [fd_ce_ref hsh (by decide)] at hce
    have hcx := fd_ws_get (g := g) (ph := ph) (M := M) hltx
    rw [fd_ce_obj hsx (by decide)] at hcx
    rw [List.map_cons, List.map_cons, List.map_cons, show fd_cv g (fd_R a) = .ref (g.1 + a) from fd_rv_lt (by omega), show fd_cv g (fd_R x) = .ref (g.1 + x) from fd_rv_lt (by omega)]
    refine fd_raast hx hb hK hH.2.2.2.2 fd_ws_D hS a 4 x 2 hce rfl hcx (fd_clD_get (by decide)) hin hd (fun H1 l1 z hP1 hS1 => ?_)
    have k1 := kk (pc + 1) H1 l1 la (fd_nxt hnx (by decide)) (fd_hp_up hH hlt (fun _ => z) _ (by
      rw [fd_ce_ref hsh (by decide), hcl]
      congr 8
      funext k
      rw [fd_up_at]
      by_cases h : k = j.toNat
      · simp [va_up, h, fd_ro, show x < 1000 by omega]
      · simp [va_up, h]) hP1) hS1 hl
    rw [show fd_ap (fd_up M a j.toNat x) = fd_ap M from by show Int.toNat _ = _; rw [fd_up_ap h213]] at k1
    exact k1
theorem fd_k36 (cx : fd_cx g p R s m args meth c mm) (hok : fd_okI (fd_y mm).cls (fd_b mm) (fd_ini mm) (fd_pcs mm) pc ((fd_pcs mm).getD (i + 1) 0) 36 as = true) (hn : fd_nx ph 36 as L st M = some (true, L', st', M')) (kk : fd_Go g ph p l e R s m args below meth c mm a0 Q (i + 1) L' st' M') (hH : fd_hp g ph M H) (hS : va_S (fd_A g) s.heap H locs) (hl : fd_lr g la (fd_mL mm) L) : W p l e R s m args below meth c H locs (fd_ap M - a0) (fd_sl (fd_ap M) - fd_sl a0) Q (F0 m pc la (st.map (fd_cv g))) := by
  obtain ⟨hx, hb, hml, hr, hown, hts, hlk, hini, ⟨hK, hNw, hSt⟩, hbs, h177, hfr, hlo⟩ := cx
  obtain ⟨hd, hnx⟩ := fd_dc_inv (show fd_dc (fd_b mm) pc _ .arraylength 1 = true from hok)
  obtain ⟨a, r, rfl, hn1⟩ := fd_pR_inv hn
  obtain ⟨hg, rfl, rfl, rfl⟩ := fd_some4 hn1
  rw [Bool.and_eq_true, Bool.and_eq_true] at hg
  have h20 : 20 ≤ (fd_SH a).1 := by simpa using hg.1
  have h24 : (fd_SH a).1 ≤ 24 := by simpa using hg.2.1
  obtain ⟨hlt, h213⟩ := fd_lt_ap hH hg.2.2 h24
  have hce := fd_ws_get (g := g) (ph := ph) (M := M) hlt
  have k1 := kk (pc + 1) H locs la (fd_nxt hnx (by decide)) hH hS hl
  rw [List.map_cons, show fd_cv g (fd_R a) = .ref (g.1 + a) from fd_rv_lt (by omega)]
  have hcase : (fd_SH a).1 = 20 ∨ (fd_SH a).1 = 21 ∨ (fd_SH a).1 = 22 ∨ (fd_SH a).1 = 23 ∨ (fd_SH a).1 = 24 := by omega
  rcases hcase with h | h | h | h | h
  · rw [fd_ce_int h (by decide) (by decide)] at hce
    exact va_alen hx hb hK hH.2.2.2.2 a 0 hce rfl (fd_oi _).symm hd k1
  · rw [fd_ce_int h (by decide) (by decide)] at hce
    exact va_alen hx hb hK hH.2.2.2.2 a 1 hce rfl (fd_oi _).symm hd k1
  · rw [fd_ce_int h (by decide) (by decide)] at hce
    exact va_alen hx hb hK hH.2.2.2.2 a 2 hce rfl (fd_oi _).symm hd k1
  · rw [fd_ce_ref h (by decide)] at hce
    exact va_alen hx hb hK hH.2.2.2.2 a 3 hce rfl (fd_oi _).symm hd k1
  · rw [fd_ce_ref h (by decide)] at hce
    exact va_alen hx hb hK hH.2.2.2.2 a 4 hce rfl (fd_oi _).symm hd k1
theorem fd_k43 (cx : fd_cx g p R s m args meth c mm) (hok : fd_okI (fd_y mm).cls (fd_b mm) (fd_ini mm) (fd_pcs mm) pc ((fd_pcs mm).getD (i + 1) 0) 43 as = true) (hn : fd_nx ph 43 as L st M = some (true, L', st', M')) (kk : fd_Go g ph p l e R s m args below meth c mm a0 Q (i + 1) L' st' M') (hH : fd_hp g ph M H) (hS : va_S (fd_A g) s.heap H locs) (hl : fd_lr g la (fd_mL mm) L) : W p l e R s m args below meth c H locs (fd_ap M - a0) (fd_sl (fd_ap M) - fd_sl a0) Q (F0 m pc la (st.map (fd_cv g))) := by
  obtain ⟨hx, hb, hml, hr, hown, hts, hlk, hini, ⟨hK, hNw, hSt⟩, hbs, h177, hfr, hlo⟩ := cx
  obtain ⟨hd, hnx⟩ := fd_dc_inv (show fd_dc (fd_b mm) pc _ .iaload 1 = true from hok)
  obtain ⟨j, r, rfl, hn1⟩ := fd_pI_inv hn
  obtain ⟨a, r, rfl, hn2⟩ := fd_pR_inv hn1
  obtain ⟨hg, rfl, rfl, rfl⟩ := fd_some4 hn2
  rw [Bool.and_eq_true, Bool.or_eq_true, fd_inb_iff] at hg
  obtain ⟨hin, hcl⟩ := fd_vin (n := 4) hg.2 (by decide)
  have k1 := kk (pc + 1) H locs la (fd_nxt hnx (by decide)) hH hS hl
  have ej : ((j.toNat : Nat) : Int) = j := Int.toNat_of_nonneg hg.2.1
  rcases hg.1 with h | h
  · have h := Nat.eq_of_beq_eq_true h
    subst h
    exact va_ti hx hb hSt.2.1 hS hin (by rw [hcl, ej]; rfl) hd k1
  · have h := Nat.eq_of_beq_eq_true h
    subst h
    exact va_ti hx hb hSt.2.2.2 hS hin (by rw [hcl, ej]; rfl) hd k1
end fdK2
end
section
theorem fd_sl_mono {a b : Nat} (h : a ≤ b) : fd_sl a ≤ fd_sl b := by
  induction b with
  | zero => rw [Nat.le_zero.mp h]; exact Nat.le_refl _
  | succ b ih =>
    rcases Nat.lt_or_ge a (b + 1) with q | q
    · rw [fd_sl_succ]
      exact Nat.le_trans (ih (by omega)) (by omega)
    · rw [show a = b + 1 by omega]
      exact Nat.le_refl _
theorem fd_nw_old {M : fd_M} {f : Nat → Int} {c : Nat} (h : c ≠ fd_ap M) (h2 : c ≠ 5000) : fd_nw M f c = M c := by
  funext k
  simp [fd_nw, h, h2]
theorem fd_nw_new {M : fd_M} {f : Nat → Int} {k : Nat} : fd_nw M f (fd_ap M) k = f k := by simp [fd_nw]
theorem fd_nw_ap {M : fd_M} {f : Nat → Int} (h : fd_ap M < 213) (h0 : 0 ≤ M 5000 0) : fd_nw M f 5000 0 = M 5000 0 + 1 ∧ fd_ap (fd_nw M f) = fd_ap M + 1 := by
  have e : fd_nw M f 5000 0 = M 5000 0 + 1 := by
    have h1 : ¬ (5000 = (M 5000 0).toNat) := by
      intro q
      have : fd_ap M = 5000 := q.symm
      omega
    simp [fd_nw, h1]
  refine ⟨e, ?_⟩
  show Int.toNat (fd_nw M f 5000 0) = (M 5000 0).toNat + 1
  rw [e]
  omega
/-- the memory behind a making -/
theorem fd_hp_nw {g : fd_G} {M : fd_M} {f : Nat → Int} {H H1 : Heap} (hH : fd_hp g false M H) (hap : fd_ap M < 213) (z : H1.size = g.1 + fd_ap M + 1) (o1 : ∀ q, q < g.1 + fd_ap M → H1[q]? = H[q]?) (hnew : va_at g.2.2.2.1 fd_cl (g.1 + fd_ap M, fd_ce g false (fd_nw M f) (fd_ap M)) H1) : fd_hp g false (fd_nw M f) H1 := by
  obtain ⟨e1, e2⟩ := fd_nw_ap (f := f) hap hH.2.2.1
  refine ⟨fun _ => by rw [e2, z]; omega, by rw [e2]; exact hap, by rw [e1]; have := hH.2.2.1; omega, fun h => (by cases h), ?_⟩
  intro k q hq
  rw [e2] at hq
  have hk : k < fd_ap M + 1 := by
    have := (List.getElem?_eq_some_iff.mp hq).1
    simpa [fd_ws] using this
  rw [fd_ws_get hk] at hq
  cases hq
  rcases Nat.lt_or_ge k (fd_ap M) with h | h
  · rw [fd_ce_congr (fd_nw_old (by omega) (by omega))]
    exact (hH.2.2.2.2 k _ (fd_ws_get h)).kept (o1 _ (by show g.1 + k < _; omega))
  · rw [show k = fd_ap M by omega]
    exact hnew
theorem fd_hp_set {g : fd_G} {ph : Bool} {M M' : fd_M} {H H1 : Heap} {c : Nat} (hH : fd_hp g ph M H) (hc : c < fd_ap M) (ho : ∀ c', c' ≠ c → M' c' = M c') (hz : ph = false → H1.size = H.size) (x : Nat × va_E) (hx : x = (g.1 + c, fd_ce g ph M' c)) (hP : va_P g.2.2.2.1 fd_cl ((fd_ws g ph M (fd_ap M)).set c x) H1) : fd_hp g ph M' H1 := by
  have h213 : c < 213 := Nat.lt_of_lt_of_le hc hH.2.1
  have e0 : M' 5000 0 = M 5000 0 := by rw [ho 5000 (by omega)]
  have e : fd_ap M' = fd_ap M := by show Int.toNat _ = _; rw [e0]
  refine ⟨fun h => by rw [hz h, e]; exact hH.1 h, by rw [e]; exact hH.2.1, by rw [e0]; exact hH.2.2.1, fun h => by rw [e]; exact hH.2.2.2.1 h, ?_⟩
  rw [e, ← fd_ws_set (M := M) (c := c) hx (fun c' _ h => ho c' h)]
  exact hP
theorem fd_sum_le (g : fd_G) (r : List fd_V) : ((r.map (fd_cv g)).map fun v => v.category).sum ≤ 2 * r.length := by
  induction r with
  | nil => simp
  | cons a r ih =>
    have : (fd_cv g a).category ≤ 2 := by
      rw [fd_cat]
      unfold fd_cw
      split <;> omega
    simp only [List.map_cons, List.sum_cons, List.length_cons]
    omega
def fd_okX : Bool := decide (Jvm.Cond.arrayClass .int ∈ lw_tbl ∧ Jvm.Cond.arrayClass .byte ∈ lw_tbl ∧ Jvm.Cond.arrayClass .boolean ∈ lw_tbl ∧ Jvm.Cond.arrayOver (.object "FacingDoors$Scene") ∈ lw_tbl ∧ Jvm.Cond.arrayOver (.object "FacingDoors$Image") ∈ lw_tbl ∧ Jvm.Cond.native arraycopyName ∈ lw_tbl ∧ Jvm.Cond.static arraycopyName ∈ lw_tbl ∧ Jvm.Cond.initialized "java/lang/System" ∈ lw_tbl ∧ Jvm.Cond.instanceMethod objectInit ∈ lw_tbl ∧ Jvm.Cond.code objectInit ⟨#[0xb1]⟩ 1 none ∈ lw_tbl ∧ Jvm.Cond.static Lib.Math.min.name ∈ lw_tbl ∧ Jvm.Cond.initialized "java/lang/Math" ∈ lw_tbl ∧ Jvm.Cond.code Lib.Math.min.name Lib.Math.min.code 2 (some .int) ∈ lw_tbl ∧ Jvm.Cond.static fd_lb ∈ lw_tbl ∧ Jvm.Cond.initialized "java/lang/Long" ∈ lw_tbl ∧ Jvm.Cond.code fd_lb prog_14_method_50_code 2 (some .int) ∈ lw_tbl)
theorem fd_okX_ok : fd_okX = true := by decide +kernel
theorem fd_okXs : Jvm.Cond.arrayClass .int ∈ fd_tbl ∧ Jvm.Cond.arrayClass .byte ∈ fd_tbl ∧ Jvm.Cond.arrayClass .boolean ∈ fd_tbl ∧ Jvm.Cond.arrayOver (.object "FacingDoors$Scene") ∈ fd_tbl ∧ Jvm.Cond.arrayOver (.object "FacingDoors$Image") ∈ fd_tbl ∧ Jvm.Cond.native arraycopyName ∈ fd_tbl ∧ Jvm.Cond.static arraycopyName ∈ fd_tbl ∧ Jvm.Cond.initialized "java/lang/System" ∈ fd_tbl ∧ Jvm.Cond.instanceMethod objectInit ∈ fd_tbl ∧ Jvm.Cond.code objectInit ⟨#[0xb1]⟩ 1 none ∈ fd_tbl ∧ Jvm.Cond.static Lib.Math.min.name ∈ fd_tbl ∧ Jvm.Cond.initialized "java/lang/Math" ∈ fd_tbl ∧ Jvm.Cond.code Lib.Math.min.name Lib.Math.min.code 2 (some .int) ∈ fd_tbl ∧ Jvm.Cond.static fd_lb ∈ fd_tbl ∧ Jvm.Cond.initialized "java/lang/Long" ∈ fd_tbl ∧ Jvm.Cond.code fd_lb prog_14_method_50_code 2 (some .int) ∈ fd_tbl := by
  obtain ⟨w1, w2, w3, w4, w5, w6, w7, w8, w9, w10, w11, w12, w13, w14, w15, w16⟩ := of_decide_eq_true fd_okX_ok
  exact ⟨fd_mt w1, fd_mt w2, fd_mt w3, fd_mt w4, fd_mt w5, fd_mt w6, fd_mt w7, fd_mt w8, fd_mt w9, fd_mt w10, fd_mt w11, fd_mt w12, fd_mt w13, fd_mt w14, fd_mt w15, fd_mt w16⟩
section fdK3
variable {g : fd_G} {ph : Bool} {p : Program} {l : Launch} {e : Env} {R : Room} {s : State} {m : MethodId} {args : Array Value} {below : List Frame} {meth : Method} {c : Code} {mm a0 i pc : Nat} {Q : State → Prop} {as : List Int} {L L' st st' : List fd_V} {M M' : fd_M} {H : Heap} {locs : List Loc} {la : Array Slot}
theorem fd_k37 (cx : fd_cx g p R s m args meth c mm) (hok : fd_okI (fd_y mm).cls (fd_b mm) (fd_ini mm) (fd_pcs mm) pc ((fd_pcs mm).getD (i + 1) 0) 37 as = true) (hn : fd_nx ph 37 as L st M = some (true, L', st', M')) (kk : fd_Go g ph p l e R s m args below meth c mm a0 Q (i + 1) L' st' M') (hH : fd_hp g ph M H) (hS : va_S (fd_A g) s.heap H locs) (hl : fd_lr g la (fd_mL mm) L) (hrc : fd_ap M' - a0 ≤ R.cells) (hrs : fd_sl (fd_ap M') - fd_sl a0 ≤ R.slots) (ha0 : a0 ≤ fd_ap M) : W p l e R s m args below meth c H locs (fd_ap M - a0) (fd_sl (fd_ap M) - fd_sl a0) Q (F0 m pc la (st.map (fd_cv g))) := by
  obtain ⟨hx, hb, hml, hr, hown, hts, hlk, hini, ⟨hK, hNw, hSt⟩, hbs, h177, hfr, hlo⟩ := cx
  obtain ⟨w1, w2, w3, w4, w5, w6, w7, w8, w9, w10, w11, w12, w13, w14, w15, w16⟩ := fd_okXs
  rw [fd_okI, Bool.and_eq_true, Bool.and_eq_true] at hok
  obtain ⟨hd, hnx⟩ := fd_dc_inv hok.1
  have hci := of_decide_eq_true hok.2.1
  obtain ⟨r, hr0⟩ : ∃ r, r = st := ⟨_, rfl⟩
  subst hr0
  obtain ⟨hg, rfl, rfl, rfl⟩ := fd_some4 hn
  rw [Bool.and_eq_true, Bool.and_eq_true] at hg
  have hph : ph = false := by simpa using hg.1
  subst hph
  have hsh : (fd_SH (fd_ap M)).1 = fd_n as 0 := Nat.eq_of_beq_eq_true hg.2.1
  have hap : fd_ap M < 213 := (fd_sh_at (by omega)).1
  have hn3 := (fd_sh_at (c := fd_ap M) (by omega)).2.2
  obtain ⟨e1, e2⟩ := fd_nw_ap (f := fd_dfl (fd_n as 0)) hap hH.2.2.1
  have hslm := fd_sl_mono ha0
  rw [e2] at hrc hrs
  rw [fd_sl_succ] at hrs
  have hsS : ∀ {H1 : Heap}, H1.size = g.1 + fd_ap M + 1 → (∀ q, q < g.1 + fd_ap M → H1[q]? = H[q]?) → va_S (fd_A g) s.heap H1 locs := fun {H1} z o1 => ⟨Nat.le_trans hS.1 (by rw [z, hH.1 rfl]; omega), fun x h1 h2 => (o1 x (by have := hS.1; have := hH.1 rfl; omega)).trans (hS.2.1 x h1 h2), hS.2.2⟩
  have fin : ∀ {H1 : Heap}, H1.size = g.1 + fd_ap M + 1 → (∀ q, q < g.1 + fd_ap M → H1[q]? = H[q]?) → va_at g.2.2.2.1 fd_cl (g.1 + fd_ap M, fd_ce g false (fd_nw M (fd_dfl (fd_n as 0))) (fd_ap M)) H1 → W p l e R s m args below meth c H1 locs (fd_ap M - a0 + 1) (fd_sl (fd_ap M) - fd_sl a0 + (fd_SH (fd_ap M)).2) Q (F0 m (pc + 3) la (.ref (g.1 + fd_ap M) :: r.map (fd_cv g))) := fun {H1} z o1 hnew => by
    have k1 := kk (pc + 3) H1 locs la (fd_nxt hnx (by decide)) (fd_hp_nw hH hap z o1 hnew) (hsS z o1) hl
    rw [e2, fd_sl_succ, List.map_cons, show fd_cv g (fd_R (fd_ap M)) = .ref (g.1 + fd_ap M) from fd_rv_lt (by omega), show fd_ap M + 1 - a0 = fd_ap M - a0 + 1 by omega, show fd_sl (fd_ap M) + (fd_SH (fd_ap M)).2 - fd_sl a0 = fd_sl (fd_ap M) - fd_sl a0 + (fd_SH (fd_ap M)).2 by omega] at k1
    exact k1
  obtain ⟨hin, hinst, hini2, -, hty⟩ := fd_cl_at hci
  have hsz := ((fd_sh_at (c := fd_ap M) (by omega)).2.1 (by omega)).2
  rw [hsh] at hsz
  have hKn := hK.1 (fd_n as 0) _ (fd_clD_get hci)
  refine W.newcK hx hb hown (hts _ (fd_wd_mem hok.2.2)) (hts _ hinst) (hts _ hini2) rfl hd (by omega) (by omega) hKn.2.1 (hH.1 rfl) fun H1 kC hkC q1 z1 o1 => ?_
  rw [hsz]
  refine fin z1 o1 ?_
  rw [fd_ce_obj hsh (by omega)]
  refine ⟨_, fd_clD_get hci, (u_born (fd_ty (fd_n as 0)) hts hin hKn hkC q1 hty).to (fun j hj => ?_)⟩
  have hj2 : j < (fd_SH (fd_ap M)).2 := by omega
  have hR := (fd_cl2_at hci j hj).2
  have e3 : vp_V ((List.range (fd_SH (fd_ap M)).2).map (fun k => fd_fv g false (fd_nw M (fd_dfl (fd_n as 0))) (fd_n as 0) (fd_ap M) k)) j = fd_fv g false (fd_nw M (fd_dfl (fd_n as 0))) (fd_n as 0) (fd_ap M) j := by
    simp [vp_V, hj2]
  rw [e3]
  unfold fd_fv fd_gf fd_rf
  simp only [fd_nw_new]
  unfold fd_dfl
  cases ht : fd_ty (fd_n as 0) j <;> rw [ht] at hR <;> first | rfl | exact absurd (hR rfl) (by decide)
theorem fd_k38 (cx : fd_cx g p R s m args meth c mm) (hok : fd_okI (fd_y mm).cls (fd_b mm) (fd_ini mm) (fd_pcs mm) pc ((fd_pcs mm).getD (i + 1) 0) 38 as = true) (hn : fd_nx ph 38 as L st M = some (true, L', st', M')) (kk : fd_Go g ph p l e R s m args below meth c mm a0 Q (i + 1) L' st' M') (hH : fd_hp g ph M H) (hS : va_S (fd_A g) s.heap H locs) (hl : fd_lr g la (fd_mL mm) L) (hrc : fd_ap M' - a0 ≤ R.cells) (hrs : fd_sl (fd_ap M') - fd_sl a0 ≤ R.slots) (ha0 : a0 ≤ fd_ap M) : W p l e R s m args below meth c H locs (fd_ap M - a0) (fd_sl (fd_ap M) - fd_sl a0) Q (F0 m pc la (st.map (fd_cv g))) := by
  obtain ⟨hx, hb, hml, hr, hown, hts, hlk, hini, ⟨hK, hNw, hSt⟩, hbs, h177, hfr, hlo⟩ := cx
  obtain ⟨w1, w2, w3, w4, w5, w6, w7, w8, w9, w10, w11, w12, w13, w14, w15, w16⟩ := fd_okXs
  rw [fd_okI, Bool.and_eq_true] at hok
  obtain ⟨hd, hnx⟩ := fd_dc_inv hok.1
  have hci := of_decide_eq_true hok.2
  obtain ⟨n, r, rfl, hn1⟩ := fd_pI_inv hn
  obtain ⟨hg, rfl, rfl, rfl⟩ := fd_some4 hn1
  rw [Bool.and_eq_true, Bool.and_eq_true] at hg
  have hph : ph = false := by simpa using hg.1
  subst hph
  have hsh : (fd_SH (fd_ap M)).1 = fd_n as 0 := Nat.eq_of_beq_eq_true hg.2.1
  have hap : fd_ap M < 213 := (fd_sh_at (by omega)).1
  have hn3 := (fd_sh_at (c := fd_ap M) (by omega)).2.2
  obtain ⟨e1, e2⟩ := fd_nw_ap (f := fun _ => 0) hap hH.2.2.1
  have hslm := fd_sl_mono ha0
  rw [e2] at hrc hrs
  rw [fd_sl_succ] at hrs
  have hsS : ∀ {H1 : Heap}, H1.size = g.1 + fd_ap M + 1 → (∀ q, q < g.1 + fd_ap M → H1[q]? = H[q]?) → va_S (fd_A g) s.heap H1 locs := fun {H1} z o1 => ⟨Nat.le_trans hS.1 (by rw [z, hH.1 rfl]; omega), fun x h1 h2 => (o1 x (by have := hS.1; have := hH.1 rfl; omega)).trans (hS.2.1 x h1 h2), hS.2.2⟩
  have fin : ∀ {H1 : Heap}, H1.size = g.1 + fd_ap M + 1 → (∀ q, q < g.1 + fd_ap M → H1[q]? = H[q]?) → va_at g.2.2.2.1 fd_cl (g.1 + fd_ap M, fd_ce g false (fd_nw M (fun _ => 0)) (fd_ap M)) H1 → W p l e R s m args below meth c H1 locs (fd_ap M - a0 + 1) (fd_sl (fd_ap M) - fd_sl a0 + (fd_SH (fd_ap M)).2) Q (F0 m (pc + 2) la (.ref (g.1 + fd_ap M) :: r.map (fd_cv g))) := fun {H1} z o1 hnew => by
    have k1 := kk (pc + 2) H1 locs la (fd_nxt hnx (by decide)) (fd_hp_nw hH hap z o1 hnew) (hsS z o1) hl
    rw [e2, fd_sl_succ, List.map_cons, show fd_cv g (fd_R (fd_ap M)) = .ref (g.1 + fd_ap M) from fd_rv_lt (by omega), show fd_ap M + 1 - a0 = fd_ap M - a0 + 1 by omega, show fd_sl (fd_ap M) + (fd_SH (fd_ap M)).2 - fd_sl a0 = fd_sl (fd_ap M) - fd_sl a0 + (fd_SH (fd_ap M)).2 by omega] at k1
    exact k1
  have hnn : n = ((fd_SH (fd_ap M)).2 : Int) := of_decide_eq_true hg.2.2
  have hN : (Int32.ofInt n).toNatClampNeg = (fd_SH (fd_ap M)).2 := by rw [hnn, fd_oi]; exact nI_clamp (by omega)
  have hn0 : ¬ Int32.ofInt n < 0 := by rw [hnn, fd_oi]; exact nI_pos (by omega)
  have hcase : fd_n as 0 = 20 ∨ fd_n as 0 = 21 ∨ fd_n as 0 = 22 := by omega
  rcases hcase with h | h | h
  · rw [h] at hsh hd
    refine va_newaK hx hb (atype := .int) (hts _ w1) rfl hd rfl hn0 hN (by rw [show componentBytes (newarray.typeOf .int) = 4 from rfl]; omega) (by omega) (by omega) (hH.1 rfl) fun H1 cA q1 z1 o1 hAr hNm => ?_
    refine fin z1 o1 ?_
    rw [fd_ce_int hsh (by decide) (by decide)]
    have hcA : cA = g.2.2.2.2 20 := Option.some.inj (hNm.symm.trans (hK.2 0 _ rfl).2)
    subst hcA
    show H1[g.1 + fd_ap M]? = some (vp_cell _ _)
    rw [q1, vp_cell_i]
    simp only [fd_nw_new]
    rfl
  · rw [h] at hsh hd
    refine va_newaK hx hb (atype := .byte) (hts _ w2) rfl hd rfl hn0 hN (by rw [show componentBytes (newarray.typeOf .byte) = 1 from rfl]; omega) (by omega) (by omega) (hH.1 rfl) fun H1 cA q1 z1 o1 hAr hNm => ?_
    refine fin z1 o1 ?_
    rw [fd_ce_int hsh (by decide) (by decide)]
    have hcA : cA = g.2.2.2.2 21 := Option.some.inj (hNm.symm.trans (hK.2 1 _ rfl).2)
    subst hcA
    show H1[g.1 + fd_ap M]? = some (vp_cell _ _)
    rw [q1, vp_cell_i]
    simp only [fd_nw_new]
    rfl
  · rw [h] at hsh hd
    refine va_newaK hx hb (atype := .boolean) (hts _ w3) rfl hd rfl hn0 hN (by rw [show componentBytes (newarray.typeOf .boolean) = 1 from rfl]; omega) (by omega) (by omega) (hH.1 rfl) fun H1 cA q1 z1 o1 hAr hNm => ?_
    refine fin z1 o1 ?_
    rw [fd_ce_int hsh (by decide) (by decide)]
    have hcA : cA = g.2.2.2.2 22 := Option.some.inj (hNm.symm.trans (hK.2 2 _ rfl).2)
    subst hcA
    show H1[g.1 + fd_ap M]? = some (vp_cell _ _)
    rw [q1, vp_cell_i]
    simp only [fd_nw_new]
    rfl
theorem fd_k39 (cx : fd_cx g p R s m args meth c mm) (hok : fd_okI (fd_y mm).cls (fd_b mm) (fd_ini mm) (fd_pcs mm) pc ((fd_pcs mm).getD (i + 1) 0) 39 as = true) (hn : fd_nx ph 39 as L st M = some (true, L', st', M')) (kk : fd_Go g ph p l e R s m args below meth c mm a0 Q (i + 1) L' st' M') (hH : fd_hp g ph M H) (hS : va_S (fd_A g) s.heap H locs) (hl : fd_lr g la (fd_mL mm) L) (hrc : fd_ap M' - a0 ≤ R.cells) (hrs : fd_sl (fd_ap M') - fd_sl a0 ≤ R.slots) (ha0 : a0 ≤ fd_ap M) : W p l e R s m args below meth c H locs (fd_ap M - a0) (fd_sl (fd_ap M) - fd_sl a0) Q (F0 m pc la (st.map (fd_cv g))) := by
  obtain ⟨hx, hb, hml, hr, hown, hts, hlk, hini, ⟨hK, hNw, hSt⟩, hbs, h177, hfr, hlo⟩ := cx
  obtain ⟨w1, w2, w3, w4, w5, w6, w7, w8, w9, w10, w11, w12, w13, w14, w15, w16⟩ := fd_okXs
  rw [fd_okI, Bool.and_eq_true, Bool.and_eq_true] at hok
  obtain ⟨hd, hnx⟩ := fd_dc_inv hok.1
  have hci := of_decide_eq_true hok.2.1
  obtain ⟨n, r, rfl, hn1⟩ := fd_pI_inv hn
  obtain ⟨hg, rfl, rfl, rfl⟩ := fd_some4 hn1
  rw [Bool.and_eq_true, Bool.and_eq_true] at hg
  have hph : ph = false := by simpa using hg.1
  subst hph
  have hsh : (fd_SH (fd_ap M)).1 = fd_n as 0 := Nat.eq_of_beq_eq_true hg.2.1
  have hap : fd_ap M < 213 := (fd_sh_at (by omega)).1
  have hn3 := (fd_sh_at (c := fd_ap M) (by omega)).2.2
  obtain ⟨e1, e2⟩ := fd_nw_ap (f := fun _ => 1000) hap hH.2.2.1
  have hslm := fd_sl_mono ha0
  rw [e2] at hrc hrs
  rw [fd_sl_succ] at hrs
  have hsS : ∀ {H1 : Heap}, H1.size = g.1 + fd_ap M + 1 → (∀ q, q < g.1 + fd_ap M → H1[q]? = H[q]?) → va_S (fd_A g) s.heap H1 locs := fun {H1} z o1 => ⟨Nat.le_trans hS.1 (by rw [z, hH.1 rfl]; omega), fun x h1 h2 => (o1 x (by have := hS.1; have := hH.1 rfl; omega)).trans (hS.2.1 x h1 h2), hS.2.2⟩
  have fin : ∀ {H1 : Heap}, H1.size = g.1 + fd_ap M + 1 → (∀ q, q < g.1 + fd_ap M → H1[q]? = H[q]?) → va_at g.2.2.2.1 fd_cl (g.1 + fd_ap M, fd_ce g false (fd_nw M (fun _ => 1000)) (fd_ap M)) H1 → W p l e R s m args below meth c H1 locs (fd_ap M - a0 + 1) (fd_sl (fd_ap M) - fd_sl a0 + (fd_SH (fd_ap M)).2) Q (F0 m (pc + 3) la (.ref (g.1 + fd_ap M) :: r.map (fd_cv g))) := fun {H1} z o1 hnew => by
    have k1 := kk (pc + 3) H1 locs la (fd_nxt hnx (by decide)) (fd_hp_nw hH hap z o1 hnew) (hsS z o1) hl
    rw [e2, fd_sl_succ, List.map_cons, show fd_cv g (fd_R (fd_ap M)) = .ref (g.1 + fd_ap M) from fd_rv_lt (by omega), show fd_ap M + 1 - a0 = fd_ap M - a0 + 1 by omega, show fd_sl (fd_ap M) + (fd_SH (fd_ap M)).2 - fd_sl a0 = fd_sl (fd_ap M) - fd_sl a0 + (fd_SH (fd_ap M)).2 by omega] at k1
    exact k1
  have hnn : n = ((fd_SH (fd_ap M)).2 : Int) := of_decide_eq_true hg.2.2
  have hN : (Int32.ofInt n).toNatClampNeg = (fd_SH (fd_ap M)).2 := by rw [hnn, fd_oi]; exact nI_clamp (by omega)
  have hn0 : ¬ Int32.ofInt n < 0 := by rw [hnn, fd_oi]; exact nI_pos (by omega)
  have hcase : fd_n as 0 = 23 ∨ fd_n as 0 = 24 := by omega
  rcases hcase with h | h
  · rw [h] at hsh hok
    refine W.anew hx hb hown (hts _ (fd_wd_mem hok.2.2)) (hts _ w4) rfl hd rfl hn0 (by rw [hN]; omega) (by omega) (by rw [hN]; omega) fun cA kA comp f1 f2 f3 f4 => ?_
    rw [hN]
    generalize hH1 : H.push ({ cls := cA, slots := Array.replicate (fd_SH (fd_ap M)).2 .null, vm := .none } : Cell) = H1
    have z1 : H1.size = g.1 + fd_ap M + 1 := by rw [← hH1, Array.size_push, hH.1 rfl]
    have q1 : H1[g.1 + fd_ap M]? = some (arrV cA (fd_SH (fd_ap M)).2 (fun _ => .null)) := by rw [← hH1, ← hH.1 rfl, Array.getElem?_push_size, ← arrV_new]
    have o1 : ∀ q, q < g.1 + fd_ap M → H1[q]? = H[q]? := fun q hq => by
      rw [← hH1, Array.getElem?_push, if_neg (by rw [hH.1 rfl]; omega)]
    rw [hH.1 rfl]
    refine fin z1 o1 ?_
    rw [fd_ce_ref hsh (by decide)]
    obtain ⟨kA2, comp2, -, -, -, hNm⟩ := (hK.2 3 _ rfl).2
    have hcA : cA = g.2.2.2.2 23 := Option.some.inj (f1.symm.trans hNm)
    subst hcA
    show H1[g.1 + fd_ap M]? = some (vp_cell _ _)
    rw [q1, vp_cell_q]
    simp only [fd_nw_new]
    rfl
  · rw [h] at hsh hok
    refine W.anew hx hb hown (hts _ (fd_wd_mem hok.2.2)) (hts _ w5) rfl hd rfl hn0 (by rw [hN]; omega) (by omega) (by rw [hN]; omega) fun cA kA comp f1 f2 f3 f4 => ?_
    rw [hN]
    generalize hH1 : H.push ({ cls := cA, slots := Array.replicate (fd_SH (fd_ap M)).2 .null, vm := .none } : Cell) = H1
    have z1 : H1.size = g.1 + fd_ap M + 1 := by rw [← hH1, Array.size_push, hH.1 rfl]
    have q1 : H1[g.1 + fd_ap M]? = some (arrV cA (fd_SH (fd_ap M)).2 (fun _ => .null)) := by rw [← hH1, ← hH.1 rfl, Array.getElem?_push_size, ← arrV_new]
    have o1 : ∀ q, q < g.1 + fd_ap M → H1[q]? = H[q]? := fun q hq => by
      rw [← hH1, Array.getElem?_push, if_neg (by rw [hH.1 rfl]; omega)]
    rw [hH.1 rfl]
    refine fin z1 o1 ?_
    rw [fd_ce_ref hsh (by decide)]
    obtain ⟨kA2, comp2, -, -, -, hNm⟩ := (hK.2 4 _ rfl).2
    have hcA : cA = g.2.2.2.2 24 := Option.some.inj (f1.symm.trans hNm)
    subst hcA
    show H1[g.1 + fd_ap M]? = some (vp_cell _ _)
    rw [q1, vp_cell_q]
    simp only [fd_nw_new]
    rfl
theorem fd_k40 (cx : fd_cx g p R s m args meth c mm) (hok : fd_okI (fd_y mm).cls (fd_b mm) (fd_ini mm) (fd_pcs mm) pc ((fd_pcs mm).getD (i + 1) 0) 40 as = true) (hn : fd_nx ph 40 as L st M = some (true, L', st', M')) (kk : fd_Go g ph p l e R s m args below meth c mm a0 Q (i + 1) L' st' M') (hH : fd_hp g ph M H) (hS : va_S (fd_A g) s.heap H locs) (hl : fd_lr g la (fd_mL mm) L) (hrc : fd_ap M' - a0 ≤ R.cells) (hrs : fd_sl (fd_ap M') - fd_sl a0 ≤ R.slots) (ha0 : a0 ≤ fd_ap M) : W p l e R s m args below meth c H locs (fd_ap M - a0) (fd_sl (fd_ap M) - fd_sl a0) Q (F0 m pc la (st.map (fd_cv g))) := by
  obtain ⟨hx, hb, hml, hr, hown, hts, hlk, hini, ⟨hK, hNw, hSt⟩, hbs, h177, hfr, hlo⟩ := cx
  obtain ⟨w1, w2, w3, w4, w5, w6, w7, w8, w9, w10, w11, w12, w13, w14, w15, w16⟩ := fd_okXs
  rw [fd_okI, Bool.and_eq_true] at hok
  obtain ⟨hd, hnx⟩ := fd_dc_inv hok.1
  obtain ⟨n, r, rfl, hn1⟩ := fd_pI_inv hn
  obtain ⟨dp, r, rfl, hn2⟩ := fd_pI_inv hn1
  obtain ⟨c2, r, rfl, hn3⟩ := fd_pR_inv hn2
  obtain ⟨sp, r, rfl, hn4⟩ := fd_pI_inv hn3
  obtain ⟨c1, r, rfl, hn5⟩ := fd_pR_inv hn4
  obtain ⟨hg, rfl, rfl, rfl⟩ := fd_some4 hn5
  rw [Bool.and_eq_true, Bool.and_eq_true, Bool.and_eq_true, Bool.and_eq_true, Bool.and_eq_true] at hg
  obtain ⟨⟨⟨hph, hs1, ha1⟩, hs2, ha2⟩, hq⟩ := hg
  obtain ⟨h1, h2, h3, h4, h5, h6⟩ := of_decide_eq_true hq
  subst hph
  have hs1 := Nat.eq_of_beq_eq_true hs1
  have hs2 := Nat.eq_of_beq_eq_true hs2
  obtain ⟨hl1, b1⟩ := fd_lt_ap hH ha1 (by omega)
  obtain ⟨hl2, b2⟩ := fd_lt_ap hH ha2 (by omega)
  have m1 := (fd_sh_at (c := c1) (by omega)).2.2
  have m2 := (fd_sh_at (c := c2) (by omega)).2.2
  have hc1 := fd_ws_get (g := g) (ph := true) (M := M) hl1
  have hc2 := fd_ws_get (g := g) (ph := true) (M := M) hl2
  rw [fd_ce_int hs1 (by decide) (by decide)] at hc1
  rw [fd_ce_int hs2 (by decide) (by decide)] at hc2
  obtain ⟨n', rfl⟩ := Int.eq_ofNat_of_zero_le h3
  obtain ⟨dp', rfl⟩ := Int.eq_ofNat_of_zero_le h2
  obtain ⟨sp', rfl⟩ := Int.eq_ofNat_of_zero_le h1
  have en : (Int32.ofInt (n' : Int)).toNatClampNeg = n' := by rw [fd_oi]; exact nI_clamp (by omega)
  have ed : (Int32.ofInt (dp' : Int)).toNatClampNeg = dp' := by rw [fd_oi]; exact nI_clamp (by omega)
  have es : (Int32.ofInt (sp' : Int)).toNatClampNeg = sp' := by rw [fd_oi]; exact nI_clamp (by omega)
  have hsum := fd_sum_le g r
  have hnat : nativeFrameWords "java/lang/System" "arraycopy" 5 ≤ 100 := by decide +kernel
  simp only [List.map_cons]
  rw [show fd_cv g (fd_R c1) = .ref (g.1 + c1) from fd_rv_lt (by omega), show fd_cv g (fd_R c2) = .ref (g.1 + c2) from fd_rv_lt (by omega)]
  refine va_copyi hx hb (by rw [hml]; exact hl.2.2.1.symm) hown (hts _ (fd_wd_mem hok.2)) (hts _ w6) (hts _ w7) (hts _ w8) hK hH.2.2.2.2 fd_ws_D hS c1 c2 0 0 hc1 hc2 rfl rfl rfl (by rw [fd_oi]; exact nI_pos (by omega)) (by rw [fd_oi]; exact nI_pos (by omega)) (by rw [fd_oi]; exact nI_pos (by omega)) (by rw [es, en]; omega) (by rw [ed, en]; omega) (fun _ _ => rfl) (by omega) (by omega) hd (fun H1 l1 hP1 _ hS1 => ?_)
  rw [es, ed, en] at hP1
  have ho : ∀ c', c' ≠ c2 → fd_cp M c1 sp' c2 dp' n' c' = M c' := fun c' h => by funext k; simp [fd_cp, h]
  have k1 := kk (pc + 3) H1 l1 la (fd_nxt hnx (by decide)) (fd_hp_set hH hl2 ho (fun h => (by cases h)) _ (by
    rw [fd_ce_int hs2 (by decide) (by decide)]
    congr 5
    funext k
    simp only [va_cpy, fd_cp, Int.toNat_natCast, true_and]
    split <;> rfl) hP1) hS1 hl
  have e0 : fd_ap (fd_cp M c1 sp' c2 dp' n') = fd_ap M := by show Int.toNat _ = _; rw [ho 5000 (by omega)]
  rw [show ((sp' : Int)).toNat = sp' from rfl, show ((dp' : Int)).toNat = dp' from rfl, show ((n' : Int)).toNat = n' from rfl, e0] at k1
  exact k1
theorem fd_k42 (cx : fd_cx g p R s m args meth c mm) (hok : fd_okI (fd_y mm).cls (fd_b mm) (fd_ini mm) (fd_pcs mm) pc ((fd_pcs mm).getD (i + 1) 0) 42 as = true) (hn : fd_nx ph 42 as L st M = some (true, L', st', M')) (kk : fd_Go g ph p l e R s m args below meth c mm a0 Q (i + 1) L' st' M') (hH : fd_hp g ph M H) (hS : va_S (fd_A g) s.heap H locs) (hl : fd_lr g la (fd_mL mm) L) (hrc : fd_ap M' - a0 ≤ R.cells) (hrs : fd_sl (fd_ap M') - fd_sl a0 ≤ R.slots) (ha0 : a0 ≤ fd_ap M) : W p l e R s m args below meth c H locs (fd_ap M - a0) (fd_sl (fd_ap M) - fd_sl a0) Q (F0 m pc la (st.map (fd_cv g))) := by
  obtain ⟨hx, hb, hml, hr, hown, hts, hlk, hini, ⟨hK, hNw, hSt⟩, hbs, h177, hfr, hlo⟩ := cx
  obtain ⟨w1, w2, w3, w4, w5, w6, w7, w8, w9, w10, w11, w12, w13, w14, w15, w16⟩ := fd_okXs
  rw [fd_okI, Bool.and_eq_true] at hok
  obtain ⟨hd, hnx⟩ := fd_dc_inv hok.1
  obtain ⟨a, r, rfl, hn1⟩ := fd_pR_inv hn
  obtain ⟨hg, rfl, rfl, rfl⟩ := fd_some4 hn1
  rw [Bool.and_eq_true] at hg
  have ha3 : a < 1000 := by simpa using hg.1
  have hr4 : r.length ≤ 4 := by simpa using hg.2
  have hsum := fd_sum_le g r
  have hroom := lv_room (m := m) (pc := pc) (ls := la) (rest := .ref (g.1 + a) :: r.map (fd_cv g)) (st := r.map (fd_cv g)) (by omega)
  rw [List.map_cons, show fd_cv g (fd_R a) = .ref (g.1 + a) from fd_rv_lt ha3]
  exact W.objInit hx hb hown (hts _ (fd_wd_mem hok.2)) (hts _ w9) (hts _ w10) rfl (hl.2.2.1.trans hml.symm) rfl hd (by omega) (by omega) (kk (pc + 3) H locs la (fd_nxt hnx (by decide)) hH hS hl)
theorem fd_k44 (cx : fd_cx g p R s m args meth c mm) (hok : fd_okI (fd_y mm).cls (fd_b mm) (fd_ini mm) (fd_pcs mm) pc ((fd_pcs mm).getD (i + 1) 0) 44 as = true) (hn : fd_nx ph 44 as L st M = some (true, L', st', M')) (kk : fd_Go g ph p l e R s m args below meth c mm a0 Q (i + 1) L' st' M') (hH : fd_hp g ph M H) (hS : va_S (fd_A g) s.heap H locs) (hl : fd_lr g la (fd_mL mm) L) (hrc : fd_ap M' - a0 ≤ R.cells) (hrs : fd_sl (fd_ap M') - fd_sl a0 ≤ R.slots) (ha0 : a0 ≤ fd_ap M) : W p l e R s m args below meth c H locs (fd_ap M - a0) (fd_sl (fd_ap M) - fd_sl a0) Q (F0 m pc la (st.map (fd_cv g))) := by
  obtain ⟨hx, hb, hml, hr, hown, hts, hlk, hini, ⟨hK, hNw, hSt⟩, hbs, h177, hfr, hlo⟩ := cx
  obtain ⟨w1, w2, w3, w4, w5, w6, w7, w8, w9, w10, w11, w12, w13, w14, w15, w16⟩ := fd_okXs
  rw [fd_okI, Bool.and_eq_true] at hok
  obtain ⟨hd, hnx⟩ := fd_dc_inv hok.1
  obtain ⟨b, r, rfl, hn1⟩ := fd_pI_inv hn
  obtain ⟨a, r, rfl, hn2⟩ := fd_pI_inv hn1
  obtain ⟨hg, rfl, rfl, rfl⟩ := fd_some4 hn2
  rw [Bool.and_eq_true, Bool.and_eq_true, fd_rng_iff, fd_rng_iff] at hg
  have hr4 : r.length ≤ 4 := by simpa using hg.2.2
  have hsum := fd_sum_le g r
  have k1 := kk (pc + 3) H locs la (fd_nxt hnx (by decide)) hH hS hl
  refine va_mmin hx hb (by rw [hml]; exact hl.2.2.1.symm) hown (hts _ (fd_wd_mem hok.2)) (hts _ w11) (hts _ w12) (hts _ w13) (by omega) (by omega) hrc hrs hd ?_
  have e1 : (if Int32.ofInt b < Int32.ofInt a then Int32.ofInt b else Int32.ofInt a) = Int32.ofInt (if b < a then b else a) := by
    by_cases h : b < a
    · rw [if_pos h, if_pos ((fd_ltI hg.2.1 hg.1).mpr h)]
    · rw [if_neg h, if_neg (fun q => h ((fd_ltI hg.2.1 hg.1).mp q))]
  rw [e1]
  exact k1
end fdK3
end
section
theorem fd_gmem {w : Jvm.Cond} (h : w ∈ lw_tbl) (hg : goodWord w = true) : w ∈ fd_gtbl := List.mem_filter.mpr ⟨h, hg⟩
theorem fd_lb_words : Jvm.Cond.constantLong "java/lang/Long" 314 6148914691236517205 ∈ lw_tbl ∧ Jvm.Cond.constantLong "java/lang/Long" 316 3689348814741910323 ∈ lw_tbl ∧ Jvm.Cond.constantLong "java/lang/Long" 318 1085102592571150095 ∈ lw_tbl := by decide +kernel
set_option maxRecDepth 20000 in
/-- Long.bitCount, as its code counts -/
theorem fd_lbcM (l : Launch) (x : Int64) (H : Heap) : Met l fd_lb (.code fd_lb prog_14_method_50_code 2 (some .int) :: fd_gtbl) { frames := 1, cells := 0, slots := 0, locals := 40 } (va_Pc [.long x] (fun U => U.heap = H)) (va_Qi (fun r (_ : Unit) => r = fd_bc x) (fun _ t => t.heap = H) (fun _ => False)) 0 0 (fun _ => False) := by
  refine Met.ofW (cc := prog_14_method_50_code) (maxL := 2) (ret := some .int) (by decide) rfl ?_
  intro p e s m args below meth c s₁ B hml hv
  obtain ⟨rfl, hH⟩ := hv
  have hx := B.exec
  have hb := B.bytes
  have hr := B.returns
  have hts := atoms_spec (ws := .code fd_lb prog_14_method_50_code 2 (some .int) :: fd_gtbl) B.pre
  have hown : s.vm.findClass "java/lang/Long" = some m.cls := findClass_of_methodNamed B.named
  have hlocks := B.notSynchronized
  have c1 := hts _ (List.mem_cons_of_mem _ (fd_gmem fd_lb_words.1 rfl))
  have c2 := hts _ (List.mem_cons_of_mem _ (fd_gmem fd_lb_words.2.1 rfl))
  have c3 := hts _ (List.mem_cons_of_mem _ (fd_gmem fd_lb_words.2.2 rfl))
  have hS : va_S (fun _ => False) s.heap s.heap [] := va_S.rf
  have hl := lv_entry ([.long x]) (n := 2) (Nat.le_of_ble_eq_true rfl)
  rw [lg_entry_eq]
  generalize (lg_sl ([.long x]) ++ List.replicate (2 - (lg_sl ([.long x])).length) Slot.unset).toArray = ls at hl ⊢
  have hl : lv_has ls 2 [(0, .long x)] := hl
  refine lv_lload_n hx hb (by decide +kernel : decode prog_14_method_50_code 0 = .ok (.lload_n 0, 1)) rfl (lv_at hl 0 rfl) ?_
  refine lv_lload_n hx hb (by decide +kernel : decode prog_14_method_50_code 1 = .ok (.lload_n 0, 1)) rfl (lv_at hl 0 rfl) ?_
  refine lv_iconst (v := 1) hx hb (by decide +kernel : decode prog_14_method_50_code 2 = .ok (.iconst 1, 1)) (by decide) ?_
  refine lv_lushr hx hb (by decide +kernel : decode prog_14_method_50_code 3 = .ok (.lushr, 1)) rfl ?_
  refine lv_ldc2 hx hb hown c1 (by decide +kernel : decode prog_14_method_50_code 4 = .ok (.ldc2_w 314, 3)) ?_
  refine lv_land hx hb (by decide +kernel : decode prog_14_method_50_code 7 = .ok (.land, 1)) ?_
  refine lv_lsub hx hb (by decide +kernel : decode prog_14_method_50_code 8 = .ok (.lsub, 1)) ?_
  refine lv_topl (fun x1 e1 => ?_)
  refine lv_lstore_n (lv' := [(0, .long x1)]) hx hb (by decide +kernel : decode prog_14_method_50_code 9 = .ok (.lstore_n 0, 1)) rfl hl (by decide) rfl (fun ls hl => ?_)
  refine lv_lload_n hx hb (by decide +kernel : decode prog_14_method_50_code 10 = .ok (.lload_n 0, 1)) rfl (lv_at hl 0 rfl) ?_
  refine lv_ldc2 hx hb hown c2 (by decide +kernel : decode prog_14_method_50_code 11 = .ok (.ldc2_w 316, 3)) ?_
  refine lv_land hx hb (by decide +kernel : decode prog_14_method_50_code 14 = .ok (.land, 1)) ?_
  refine lv_lload_n hx hb (by decide +kernel : decode prog_14_method_50_code 15 = .ok (.lload_n 0, 1)) rfl (lv_at hl 0 rfl) ?_
  refine lv_iconst (v := 2) hx hb (by decide +kernel : decode prog_14_method_50_code 16 = .ok (.iconst 2, 1)) (by decide) ?_
  refine lv_lushr hx hb (by decide +kernel : decode prog_14_method_50_code 17 = .ok (.lushr, 1)) rfl ?_
  refine lv_ldc2 hx hb hown c2 (by decide +kernel : decode prog_14_method_50_code 18 = .ok (.ldc2_w 316, 3)) ?_
  refine lv_land hx hb (by decide +kernel : decode prog_14_method_50_code 21 = .ok (.land, 1)) ?_
  refine lv_ladd hx hb (by decide +kernel : decode prog_14_method_50_code 22 = .ok (.ladd, 1)) ?_
  refine lv_topl (fun x2 e2 => ?_)
  refine lv_lstore_n (lv' := [(0, .long x2)]) hx hb (by decide +kernel : decode prog_14_method_50_code 23 = .ok (.lstore_n 0, 1)) rfl hl (by decide) rfl (fun ls hl => ?_)
  refine lv_lload_n hx hb (by decide +kernel : decode prog_14_method_50_code 24 = .ok (.lload_n 0, 1)) rfl (lv_at hl 0 rfl) ?_
  refine lv_lload_n hx hb (by decide +kernel : decode prog_14_method_50_code 25 = .ok (.lload_n 0, 1)) rfl (lv_at hl 0 rfl) ?_
  refine lv_iconst (v := 4) hx hb (by decide +kernel : decode prog_14_method_50_code 26 = .ok (.iconst 4, 1)) (by decide) ?_
  refine lv_lushr hx hb (by decide +kernel : decode prog_14_method_50_code 27 = .ok (.lushr, 1)) rfl ?_
  refine lv_ladd hx hb (by decide +kernel : decode prog_14_method_50_code 28 = .ok (.ladd, 1)) ?_
  refine lv_ldc2 hx hb hown c3 (by decide +kernel : decode prog_14_method_50_code 29 = .ok (.ldc2_w 318, 3)) ?_
  refine lv_land hx hb (by decide +kernel : decode prog_14_method_50_code 32 = .ok (.land, 1)) ?_
  refine lv_topl (fun x3 e3 => ?_)
  refine lv_lstore_n (lv' := [(0, .long x3)]) hx hb (by decide +kernel : decode prog_14_method_50_code 33 = .ok (.lstore_n 0, 1)) rfl hl (by decide) rfl (fun ls hl => ?_)
  refine lv_lload_n hx hb (by decide +kernel : decode prog_14_method_50_code 34 = .ok (.lload_n 0, 1)) rfl (lv_at hl 0 rfl) ?_
  refine lv_lload_n hx hb (by decide +kernel : decode prog_14_method_50_code 35 = .ok (.lload_n 0, 1)) rfl (lv_at hl 0 rfl) ?_
  refine lv_bipush (v := 8) hx hb (by decide +kernel : decode prog_14_method_50_code 36 = .ok (.bipush 8, 2)) (by decide) ?_
  refine lv_lushr hx hb (by decide +kernel : decode prog_14_method_50_code 38 = .ok (.lushr, 1)) rfl ?_
  refine lv_ladd hx hb (by decide +kernel : decode prog_14_method_50_code 39 = .ok (.ladd, 1)) ?_
  refine lv_topl (fun x4 e4 => ?_)
  refine lv_lstore_n (lv' := [(0, .long x4)]) hx hb (by decide +kernel : decode prog_14_method_50_code 40 = .ok (.lstore_n 0, 1)) rfl hl (by decide) rfl (fun ls hl => ?_)
  refine lv_lload_n hx hb (by decide +kernel : decode prog_14_method_50_code 41 = .ok (.lload_n 0, 1)) rfl (lv_at hl 0 rfl) ?_
  refine lv_lload_n hx hb (by decide +kernel : decode prog_14_method_50_code 42 = .ok (.lload_n 0, 1)) rfl (lv_at hl 0 rfl) ?_
  refine lv_bipush (v := 16) hx hb (by decide +kernel : decode prog_14_method_50_code 43 = .ok (.bipush 16, 2)) (by decide) ?_
  refine lv_lushr hx hb (by decide +kernel : decode prog_14_method_50_code 45 = .ok (.lushr, 1)) rfl ?_
  refine lv_ladd hx hb (by decide +kernel : decode prog_14_method_50_code 46 = .ok (.ladd, 1)) ?_
  refine lv_topl (fun x5 e5 => ?_)
  refine lv_lstore_n (lv' := [(0, .long x5)]) hx hb (by decide +kernel : decode prog_14_method_50_code 47 = .ok (.lstore_n 0, 1)) rfl hl (by decide) rfl (fun ls hl => ?_)
  refine lv_lload_n hx hb (by decide +kernel : decode prog_14_method_50_code 48 = .ok (.lload_n 0, 1)) rfl (lv_at hl 0 rfl) ?_
  refine lv_lload_n hx hb (by decide +kernel : decode prog_14_method_50_code 49 = .ok (.lload_n 0, 1)) rfl (lv_at hl 0 rfl) ?_
  refine lv_bipush (v := 32) hx hb (by decide +kernel : decode prog_14_method_50_code 50 = .ok (.bipush 32, 2)) (by decide) ?_
  refine lv_lushr hx hb (by decide +kernel : decode prog_14_method_50_code 52 = .ok (.lushr, 1)) rfl ?_
  refine lv_ladd hx hb (by decide +kernel : decode prog_14_method_50_code 53 = .ok (.ladd, 1)) ?_
  refine lv_topl (fun x6 e6 => ?_)
  refine lv_lstore_n (lv' := [(0, .long x6)]) hx hb (by decide +kernel : decode prog_14_method_50_code 54 = .ok (.lstore_n 0, 1)) rfl hl (by decide) rfl (fun ls hl => ?_)
  refine lv_lload_n hx hb (by decide +kernel : decode prog_14_method_50_code 55 = .ok (.lload_n 0, 1)) rfl (lv_at hl 0 rfl) ?_
  refine lv_l2i hx hb (by decide +kernel : decode prog_14_method_50_code 56 = .ok (.l2i, 1)) rfl ?_
  refine lv_bipush (v := 127) hx hb (by decide +kernel : decode prog_14_method_50_code 57 = .ok (.bipush 127, 2)) (by decide) ?_
  refine lv_iand hx hb (by decide +kernel : decode prog_14_method_50_code 59 = .ok (.iand, 1)) ?_
  refine W.iret hx hb hr (fun t ht hW => ⟨⟨_, (), rfl, ?_, ht.trans hH⟩, hS.F ht⟩) hS.2.2 (by decide +kernel : decode prog_14_method_50_code 60 = .ok (.ireturn, 1))
  rw [e6, e5, e4, e3, e2, e1]
  rfl
end
section
section fdK4
variable {g : fd_G} {ph : Bool} {p : Program} {l : Launch} {e : Env} {R : Room} {s : State} {m : MethodId} {args : Array Value} {below : List Frame} {meth : Method} {c : Code} {mm a0 i pc : Nat} {Q : State → Prop} {as : List Int} {L L' st st' : List fd_V} {M M' : fd_M} {H : Heap} {locs : List Loc} {la : Array Slot}
theorem fd_good_in {w : Jvm.Cond} (h : w ∈ fd_gtbl) : w ∈ fd_tbl ∧ ((w.onTables && w.keeps) = true ∨ ∃ ty, w = .arrayClass ty) := ⟨fd_mt (List.mem_filter.mp h).1 (by rw [(List.mem_filter.mp h).2]; rfl), good_of_word (List.mem_filter.mp h).2⟩
theorem fd_goodIn {y : MethodName} {b : ByteArray} {n : Nat} {r : Option FieldType} (h : Jvm.Cond.code y b n r ∈ fd_tbl) : GoodIn fd_tbl (.code y b n r :: fd_gtbl) := by
  intro w hw
  rcases List.mem_cons.mp hw with rfl | hw
  · exact ⟨h, good_of_word rfl⟩
  · exact fd_good_in hw
theorem fd_k41 (cx : fd_cx g p R s m args meth c mm) (hok : fd_okI (fd_y mm).cls (fd_b mm) (fd_ini mm) (fd_pcs mm) pc ((fd_pcs mm).getD (i + 1) 0) 41 as = true) (hn : fd_nx ph 41 as L st M = some (true, L', st', M')) (kk : fd_Go g ph p l e R s m args below meth c mm a0 Q (i + 1) L' st' M') (hH : fd_hp g ph M H) (hS : va_S (fd_A g) s.heap H locs) (hl : fd_lr g la (fd_mL mm) L) (hrc : fd_ap M' - a0 ≤ R.cells) (hrs : fd_sl (fd_ap M') - fd_sl a0 ≤ R.slots) (ha0 : a0 ≤ fd_ap M) : W p l e R s m args below meth c H locs (fd_ap M - a0) (fd_sl (fd_ap M) - fd_sl a0) Q (F0 m pc la (st.map (fd_cv g))) := by
  obtain ⟨hx, hb, hml, hr, hown, hts, hlk, hini, ⟨hK, hNw, hSt⟩, hbs, h177, hfr, hlo⟩ := cx
  obtain ⟨w1, w2, w3, w4, w5, w6, w7, w8, w9, w10, w11, w12, w13, w14, w15, w16⟩ := fd_okXs
  rw [fd_okI, Bool.and_eq_true] at hok
  obtain ⟨hd, hnx⟩ := fd_dc_inv hok.1
  obtain ⟨a, r, rfl, hn1⟩ := fd_pJ_inv hn
  obtain ⟨hg, rfl, rfl, rfl⟩ := fd_some4 hn1
  have hr4 : r.length ≤ 4 := by simpa using hg
  have hsum := fd_sum_le g r
  refine va_calli (A1 := fun _ => False) (free := fun _ => False) (rest := r.map (fd_cv g)) (va_runS (As := [.long (Int64.ofInt a)]) ⟨hx, hb, hml, hown, hts⟩ (fd_lbcM l (Int64.ofInt a) H) ⟨callB_of 1 hts (fd_goodIn w16) rfl rfl rfl (hts _ w15) (hts _ (fd_wd_mem hok.2)) ⟨by decide, by decide, by decide +kernel⟩ ⟨by show 1 + 1 ≤ R.frames; omega, by show 8 + (2 + 11) + 40 ≤ R.locals; omega⟩, hts _ w14⟩ ⟨fun a' U g' mk q => q, fun U hU hW => ⟨rfl, hU⟩⟩ rfl rfl (hl.2.2.1) rfl (lv_room (by omega)) hd ⟨hrc, hrs⟩) hS (fun q _ h => h.elim) (fun q h => h.elim) (fun r1 u t H1 l1 ht hvm hp hB hz hk1 hS1 => ?_)
  subst hp
  have e1 : H1 = H := ht.symm.trans hB
  subst e1
  have k1 := kk (pc + 3) H1 l1 la (fd_nxt hnx (by decide)) hH hS1 hl
  have e2 : Int32.ofInt (fd_lbc a) = fd_bc (Int64.ofInt a) := Int32.ofInt_toInt _
  rw [List.map_cons, show fd_cv g (fd_I (fd_lbc a)) = .int (fd_bc (Int64.ofInt a)) from congrArg Value.int e2] at k1
  exact k1
theorem fd_step {op : Nat} (cx : fd_cx g p R s m args meth c mm) (hok : fd_okI (fd_y mm).cls (fd_b mm) (fd_ini mm) (fd_pcs mm) pc ((fd_pcs mm).getD (i + 1) 0) op as = true) (hn : fd_nx ph op as L st M = some (true, L', st', M')) (kk : fd_Go g ph p l e R s m args below meth c mm a0 Q (i + 1) L' st' M') (hH : fd_hp g ph M H) (hS : va_S (fd_A g) s.heap H locs) (hl : fd_lr g la (fd_mL mm) L) (hrc : fd_ap M' - a0 ≤ R.cells) (hrs : fd_sl (fd_ap M') - fd_sl a0 ≤ R.slots) (ha0 : a0 ≤ fd_ap M) : W p l e R s m args below meth c H locs (fd_ap M - a0) (fd_sl (fd_ap M) - fd_sl a0) Q (F0 m pc la (st.map (fd_cv g))) := by
  match op, hok, hn with
  | 0, hok, hn => exact fd_k0 cx hok hn kk hH hS hl
  | 1, hok, hn => exact fd_k1 cx hok hn kk hH hS hl
  | 2, hok, hn => exact fd_k2 cx hok hn kk hH hS hl
  | 3, hok, hn => exact fd_k3 cx hok hn kk hH hS hl
  | 4, hok, hn => exact fd_k4 cx hok hn kk hH hS hl
  | 5, hok, hn => exact fd_k5 cx hok hn kk hH hS hl
  | 6, hok, hn => exact fd_k6 cx hok hn kk hH hS hl
  | 7, hok, hn => exact fd_k7 cx hok hn kk hH hS hl
  | 8, hok, hn => exact fd_k8 cx hok hn kk hH hS hl
  | 9, hok, hn => exact fd_k9 cx hok hn kk hH hS hl
  | 10, hok, hn => exact fd_k10 cx hok hn kk hH hS hl
  | 11, hok, hn => exact fd_k11 cx hok hn kk hH hS hl
  | 12, hok, hn => exact fd_k12 cx hok hn kk hH hS hl
  | 13, hok, hn => exact fd_k13 cx hok hn kk hH hS hl
  | 14, hok, hn => exact fd_k14 cx hok hn kk hH hS hl
  | 15, hok, hn => exact fd_k15 cx hok hn kk hH hS hl
  | 16, hok, hn => exact fd_k16 cx hok hn kk hH hS hl
  | 17, hok, hn => exact fd_k17 cx hok hn kk hH hS hl
  | 18, hok, hn => exact fd_k18 cx hok hn kk hH hS hl
  | 19, hok, hn => exact fd_k19 cx hok hn kk hH hS hl
  | 20, hok, hn => exact fd_k20 cx hok hn kk hH hS hl
  | 21, hok, hn => exact fd_k21 cx hok hn kk hH hS hl
  | 22, hok, hn => exact fd_k22 cx hok hn kk hH hS hl
  | 23, hok, hn => exact fd_k23 cx hok hn kk hH hS hl
  | 24, hok, hn => exact fd_k24 cx hok hn kk hH hS hl
  | 25, hok, hn => exact fd_k25 cx hok hn kk hH hS hl
  | 26, hok, hn => exact fd_k26 cx hok hn kk hH hS hl
  | 27, hok, hn => exact fd_k27 cx hok hn kk hH hS hl
  | 28, hok, hn => exact fd_k28 cx hok hn kk hH hS hl
  | 29, hok, hn => exact fd_k29 cx hok hn kk hH hS hl
  | 30, hok, hn => exact fd_k30 cx hok hn kk hH hS hl
  | 31, hok, hn => exact fd_k31 cx hok hn kk hH hS hl
  | 32, hok, hn => exact fd_k32 cx hok hn kk hH hS hl
  | 33, hok, hn => exact fd_k33 cx hok hn kk hH hS hl
  | 34, hok, hn => exact fd_k34 cx hok hn kk hH hS hl
  | 35, hok, hn => exact fd_k35 cx hok hn kk hH hS hl
  | 36, hok, hn => exact fd_k36 cx hok hn kk hH hS hl
  | 37, hok, hn => exact fd_k37 cx hok hn kk hH hS hl hrc hrs ha0
  | 38, hok, hn => exact fd_k38 cx hok hn kk hH hS hl hrc hrs ha0
  | 39, hok, hn => exact fd_k39 cx hok hn kk hH hS hl hrc hrs ha0
  | 40, hok, hn => exact fd_k40 cx hok hn kk hH hS hl hrc hrs ha0
  | 41, hok, hn => exact fd_k41 cx hok hn kk hH hS hl hrc hrs ha0
  | 42, hok, hn => exact fd_k42 cx hok hn kk hH hS hl hrc hrs ha0
  | 43, hok, hn => exact fd_k43 cx hok hn kk hH hS hl
  | 44, hok, hn => exact fd_k44 cx hok hn kk hH hS hl hrc hrs ha0
  | n + 45, hok, hn => cases hn
theorem fd_up_mono {M : fd_M} {c k : Nat} {v : Int} (h : (fd_SH c).1 ≤ 24) : fd_ap M ≤ fd_ap (fd_up M c k v) := by
  have e : fd_up M c k v 5000 0 = M 5000 0 := fd_up_ap (fd_sh_at h).1
  show (M 5000 0).toNat ≤ Int.toNat _
  rw [e]
  exact Nat.le_refl _
theorem fd_nw_mono {M : fd_M} {f : Nat → Int} (h : (fd_SH (fd_ap M)).1 ≤ 24) : fd_ap M ≤ fd_ap (fd_nw M f) := by
  have h1 := (fd_sh_at h).1
  have e : fd_nw M f 5000 0 = M 5000 0 + 1 := by
    have h1 : ¬ (5000 = (M 5000 0).toNat) := by
      intro q
      have : fd_ap M = 5000 := q.symm
      omega
    simp [fd_nw, h1]
  show (M 5000 0).toNat ≤ Int.toNat _
  rw [e]
  omega
theorem fd_nx_mono {own : String} {b : ByteArray} {ini : Bool} {pcs : List Nat} {pc nx op : Nat} {as : List Int} {ph : Bool} {L L' st st' : List fd_V} {M M' : fd_M} (hok : fd_okI own b ini pcs pc nx op as = true) (hn : fd_nx ph op as L st M = some (true, L', st', M')) : fd_ap M ≤ fd_ap M' := by
  match op, hok, hn with
  | 0, hok, hn => obtain ⟨-, -, -, rfl⟩ := fd_some4 hn; exact Nat.le_refl _
  | 1, hok, hn => obtain ⟨_, _, hn⟩ := fd_lI_inv hn; obtain ⟨-, -, -, rfl⟩ := fd_some4 hn; exact Nat.le_refl _
  | 2, hok, hn => obtain ⟨_, _, hn⟩ := fd_lR_inv hn; obtain ⟨-, -, -, rfl⟩ := fd_some4 hn; exact Nat.le_refl _
  | 3, hok, hn => obtain ⟨v1, r1, rfl, hn1⟩ := fd_pI_inv hn; obtain ⟨-, -, -, rfl⟩ := fd_some4 hn1; exact Nat.le_refl _
  | 4, hok, hn => obtain ⟨v1, r1, rfl, hn1⟩ := fd_pR_inv hn; obtain ⟨-, -, -, rfl⟩ := fd_some4 hn1; exact Nat.le_refl _
  | 5, hok, hn => obtain ⟨_, _, hn⟩ := fd_lI_inv hn; obtain ⟨-, -, -, rfl⟩ := fd_some4 hn; exact Nat.le_refl _
  | 6, hok, hn => obtain ⟨v1, r1, rfl, hn1⟩ := fd_pI_inv hn; obtain ⟨v2, r2, rfl, hn2⟩ := fd_pI_inv hn1; obtain ⟨-, -, -, rfl⟩ := fd_some4 hn2; exact Nat.le_refl _
  | 7, hok, hn => obtain ⟨v1, r1, rfl, hn1⟩ := fd_pI_inv hn; obtain ⟨v2, r2, rfl, hn2⟩ := fd_pI_inv hn1; obtain ⟨-, -, -, rfl⟩ := fd_some4 hn2; exact Nat.le_refl _
  | 8, hok, hn => obtain ⟨v1, r1, rfl, hn1⟩ := fd_pI_inv hn; obtain ⟨v2, r2, rfl, hn2⟩ := fd_pI_inv hn1; obtain ⟨-, -, -, rfl⟩ := fd_some4 hn2; exact Nat.le_refl _
  | 9, hok, hn => obtain ⟨v1, r1, rfl, hn1⟩ := fd_pI_inv hn; obtain ⟨v2, r2, rfl, hn2⟩ := fd_pI_inv hn1; obtain ⟨-, -, -, rfl⟩ := fd_some4 hn2; exact Nat.le_refl _
  | 10, hok, hn => obtain ⟨v1, r1, rfl, hn1⟩ := fd_pI_inv hn; obtain ⟨v2, r2, rfl, hn2⟩ := fd_pI_inv hn1; obtain ⟨-, -, -, rfl⟩ := fd_some4 hn2; exact Nat.le_refl _
  | 11, hok, hn => obtain ⟨v1, r1, rfl, hn1⟩ := fd_pI_inv hn; obtain ⟨v2, r2, rfl, hn2⟩ := fd_pI_inv hn1; obtain ⟨-, -, -, rfl⟩ := fd_some4 hn2; exact Nat.le_refl _
  | 12, hok, hn => obtain ⟨v1, r1, rfl, hn1⟩ := fd_pI_inv hn; obtain ⟨v2, r2, rfl, hn2⟩ := fd_pI_inv hn1; obtain ⟨-, -, -, rfl⟩ := fd_some4 hn2; exact Nat.le_refl _
  | 13, hok, hn => obtain ⟨v1, r1, rfl, hn1⟩ := fd_pI_inv hn; obtain ⟨v2, r2, rfl, hn2⟩ := fd_pI_inv hn1; obtain ⟨-, -, -, rfl⟩ := fd_some4 hn2; exact Nat.le_refl _
  | 14, hok, hn => obtain ⟨v1, r1, rfl, hn1⟩ := fd_pI_inv hn; obtain ⟨v2, r2, rfl, hn2⟩ := fd_pI_inv hn1; obtain ⟨-, -, -, rfl⟩ := fd_some4 hn2; exact Nat.le_refl _
  | 15, hok, hn => obtain ⟨v1, r1, rfl, hn1⟩ := fd_pI_inv hn; obtain ⟨v2, r2, rfl, hn2⟩ := fd_pI_inv hn1; obtain ⟨-, -, -, rfl⟩ := fd_some4 hn2; exact Nat.le_refl _
  | 16, hok, hn => obtain ⟨v1, r1, rfl, hn1⟩ := fd_pI_inv hn; obtain ⟨v2, r2, rfl, hn2⟩ := fd_pI_inv hn1; obtain ⟨-, -, -, rfl⟩ := fd_some4 hn2; exact Nat.le_refl _
  | 17, hok, hn => obtain ⟨-, -, -, rfl⟩ := fd_some4 hn; exact Nat.le_refl _
  | 18, hok, hn => obtain ⟨v1, r1, rfl, hn1⟩ := fd_pJ_inv hn; obtain ⟨v2, r2, rfl, hn2⟩ := fd_pJ_inv hn1; obtain ⟨-, -, -, rfl⟩ := fd_some4 hn2; exact Nat.le_refl _
  | 19, hok, hn => obtain ⟨v1, r1, rfl, hn1⟩ := fd_pJ_inv hn; obtain ⟨v2, r2, rfl, hn2⟩ := fd_pJ_inv hn1; obtain ⟨-, -, -, rfl⟩ := fd_some4 hn2; exact Nat.le_refl _
  | 20, hok, hn => obtain ⟨v1, r1, rfl, hn1⟩ := fd_pJ_inv hn; obtain ⟨v2, r2, rfl, hn2⟩ := fd_pJ_inv hn1; obtain ⟨-, -, -, rfl⟩ := fd_some4 hn2; exact Nat.le_refl _
  | 21, hok, hn => obtain ⟨v1, r1, rfl, hn1⟩ := fd_pI_inv hn; obtain ⟨v2, r2, rfl, hn2⟩ := fd_pJ_inv hn1; obtain ⟨-, -, -, rfl⟩ := fd_some4 hn2; exact Nat.le_refl _
  | 22, hok, hn => obtain ⟨v1, r1, rfl, hn1⟩ := fd_pJ_inv hn; obtain ⟨v2, r2, rfl, hn2⟩ := fd_pJ_inv hn1; obtain ⟨-, -, -, rfl⟩ := fd_some4 hn2; exact Nat.le_refl _
  | 23, hok, hn => obtain ⟨v1, r1, rfl, hn1⟩ := fd_pI_inv hn; obtain ⟨-, -, -, rfl⟩ := fd_some4 hn1; exact Nat.le_refl _
  | 24, hok, hn =>
    rcases st with _ | ⟨⟨a⟩ | ⟨a⟩ | ⟨a⟩, r⟩
    · cases hn
    · obtain ⟨-, -, -, rfl⟩ := fd_some4 hn; exact Nat.le_refl _
    · cases hn
    · obtain ⟨-, -, -, rfl⟩ := fd_some4 hn; exact Nat.le_refl _
  | 25, hok, hn => obtain ⟨v1, r1, rfl, hn1⟩ := fd_pI_inv hn; obtain ⟨v2, r2, rfl, hn2⟩ := fd_pR_inv hn1; obtain ⟨-, -, -, rfl⟩ := fd_some4 hn2; exact Nat.le_refl _
  | 26, hok, hn => obtain ⟨v1, r1, rfl, hn1⟩ := fd_pI_inv hn; obtain ⟨-, -, -, rfl⟩ := fd_some4 hn1; exact Nat.le_refl _
  | 27, hok, hn => obtain ⟨v1, r1, rfl, hn1⟩ := fd_pR_inv hn; obtain ⟨-, -, -, rfl⟩ := fd_some4 hn1; exact Nat.le_refl _
  | 28, hok, hn =>
    rw [fd_okI, Bool.and_eq_true, Bool.and_eq_true] at hok
    obtain ⟨hci, -, -, -⟩ := fd_okF_inv hok.2.1
    have hn : fd_put ph (fd_n as 0) (fd_n as 1) (fd_n as 2) L st M = some (true, L', st', M') := hn
    unfold fd_put at hn
    split at hn
    · obtain ⟨_, _, rfl, hn1⟩ := fd_pI_inv hn; obtain ⟨_, _, rfl, hn2⟩ := fd_pR_inv hn1; obtain ⟨hg, -, -, rfl⟩ := fd_some4 hn2; exact fd_up_mono (by rw [(fd_isO_inv hg).1]; omega)
    · obtain ⟨_, _, rfl, hn1⟩ := fd_pJ_inv hn; obtain ⟨_, _, rfl, hn2⟩ := fd_pR_inv hn1; obtain ⟨hg, -, -, rfl⟩ := fd_some4 hn2; exact fd_up_mono (by rw [(fd_isO_inv hg).1]; omega)
    · obtain ⟨_, _, rfl, hn1⟩ := fd_pR_inv hn; obtain ⟨_, _, rfl, hn2⟩ := fd_pR_inv hn1; obtain ⟨hg, -, -, rfl⟩ := fd_some4 hn2
      rw [Bool.and_eq_true, Bool.and_eq_true] at hg
      exact fd_up_mono (by rw [(fd_isO_inv hg.2.1).1]; omega)
    · obtain ⟨_, _, rfl, hn1⟩ := fd_pI_inv hn; obtain ⟨_, _, rfl, hn2⟩ := fd_pR_inv hn1; obtain ⟨hg, -, -, rfl⟩ := fd_some4 hn2
      rw [Bool.and_eq_true] at hg
      exact fd_up_mono (by rw [(fd_isO_inv hg.1).1]; omega)
    · cases hn
  | 29, hok, hn => obtain ⟨-, -, -, rfl⟩ := fd_some4 hn; exact Nat.le_refl _
  | 30, hok, hn => obtain ⟨v1, r1, rfl, hn1⟩ := fd_pI_inv hn; obtain ⟨v2, r2, rfl, hn2⟩ := fd_pR_inv hn1; obtain ⟨-, -, -, rfl⟩ := fd_some4 hn2; exact Nat.le_refl _
  | 31, hok, hn => obtain ⟨v1, r1, rfl, hn1⟩ := fd_pI_inv hn; obtain ⟨v2, r2, rfl, hn2⟩ := fd_pI_inv hn1; obtain ⟨v3, r3, rfl, hn3⟩ := fd_pR_inv hn2; obtain ⟨hg, -, -, rfl⟩ := fd_some4 hn3; exact fd_up_mono (by rw [(fd_isA_inv hg).1]; decide)
  | 32, hok, hn => obtain ⟨v1, r1, rfl, hn1⟩ := fd_pI_inv hn; obtain ⟨v2, r2, rfl, hn2⟩ := fd_pR_inv hn1; obtain ⟨-, -, -, rfl⟩ := fd_some4 hn2; exact Nat.le_refl _
  | 33, hok, hn =>
    obtain ⟨v1, r1, rfl, hn1⟩ := fd_pI_inv hn; obtain ⟨v2, r2, rfl, hn2⟩ := fd_pI_inv hn1; obtain ⟨v3, r3, rfl, hn3⟩ := fd_pR_inv hn2; obtain ⟨hg, -, -, rfl⟩ := fd_some4 hn3
    rw [Bool.or_eq_true, Bool.and_eq_true, Bool.and_eq_true] at hg
    rcases hg with hg | hg <;> exact fd_up_mono (by rw [(fd_isA_inv hg.1).1]; decide)
  | 34, hok, hn => obtain ⟨v1, r1, rfl, hn1⟩ := fd_pI_inv hn; obtain ⟨v2, r2, rfl, hn2⟩ := fd_pR_inv hn1; obtain ⟨-, -, -, rfl⟩ := fd_some4 hn2; exact Nat.le_refl _
  | 35, hok, hn =>
    obtain ⟨v1, r1, rfl, hn1⟩ := fd_pR_inv hn; obtain ⟨v2, r2, rfl, hn2⟩ := fd_pI_inv hn1; obtain ⟨v3, r3, rfl, hn3⟩ := fd_pR_inv hn2; obtain ⟨hg, -, -, rfl⟩ := fd_some4 hn3
    rw [Bool.or_eq_true, Bool.and_eq_true, Bool.and_eq_true] at hg
    rcases hg with hg | hg <;> exact fd_up_mono (by rw [(fd_isA_inv hg.1).1]; decide)
  | 36, hok, hn => obtain ⟨v1, r1, rfl, hn1⟩ := fd_pR_inv hn; obtain ⟨-, -, -, rfl⟩ := fd_some4 hn1; exact Nat.le_refl _
  | 37, hok, hn =>
    have h24 : fd_n as 0 ≤ 24 := by
      rw [fd_okI, Bool.and_eq_true, Bool.and_eq_true] at hok
      have := of_decide_eq_true hok.2.1
      omega
    obtain ⟨hg, -, -, rfl⟩ := fd_some4 hn
    rw [Bool.and_eq_true, Bool.and_eq_true] at hg
    exact fd_nw_mono (by rw [Nat.eq_of_beq_eq_true hg.2.1]; exact h24)
  | 38, hok, hn =>
    have h24 : fd_n as 0 ≤ 24 := by
      rw [fd_okI, Bool.and_eq_true] at hok
      have := of_decide_eq_true hok.2
      omega
    obtain ⟨v1, r1, rfl, hn1⟩ := fd_pI_inv hn; obtain ⟨hg, -, -, rfl⟩ := fd_some4 hn1
    rw [Bool.and_eq_true, Bool.and_eq_true] at hg
    exact fd_nw_mono (by rw [Nat.eq_of_beq_eq_true hg.2.1]; exact h24)
  | 39, hok, hn =>
    have h24 : fd_n as 0 ≤ 24 := by
      rw [fd_okI, Bool.and_eq_true, Bool.and_eq_true] at hok
      have := of_decide_eq_true hok.2.1
      omega
    obtain ⟨v1, r1, rfl, hn1⟩ := fd_pI_inv hn; obtain ⟨hg, -, -, rfl⟩ := fd_some4 hn1
    rw [Bool.and_eq_true, Bool.and_eq_true] at hg
    exact fd_nw_mono (by rw [Nat.eq_of_beq_eq_true hg.2.1]; exact h24)
  | 40, hok, hn =>
    obtain ⟨v1, r1, rfl, hn1⟩ := fd_pI_inv hn; obtain ⟨v2, r2, rfl, hn2⟩ := fd_pI_inv hn1; obtain ⟨v3, r3, rfl, hn3⟩ := fd_pR_inv hn2; obtain ⟨v4, r4, rfl, hn4⟩ := fd_pI_inv hn3; obtain ⟨v5, r5, rfl, hn5⟩ := fd_pR_inv hn4; obtain ⟨hg, -, -, rfl⟩ := fd_some4 hn5
    rw [Bool.and_eq_true, Bool.and_eq_true, Bool.and_eq_true, Bool.and_eq_true, Bool.and_eq_true] at hg
    have hs2 := Nat.eq_of_beq_eq_true hg.1.2.1
    have h2 := (fd_sh_at (c := v3) (by omega)).1
    have e : fd_cp M v5 v4.toNat v3 v2.toNat v1.toNat 5000 0 = M 5000 0 := by simp [fd_cp, show ¬ 5000 = v3 by omega]
    show (M 5000 0).toNat ≤ Int.toNat _
    rw [e]
    exact Nat.le_refl _
  | 41, hok, hn => obtain ⟨v1, r1, rfl, hn1⟩ := fd_pJ_inv hn; obtain ⟨-, -, -, rfl⟩ := fd_some4 hn1; exact Nat.le_refl _
  | 42, hok, hn => obtain ⟨v1, r1, rfl, hn1⟩ := fd_pR_inv hn; obtain ⟨-, -, -, rfl⟩ := fd_some4 hn1; exact Nat.le_refl _
  | 43, hok, hn => obtain ⟨v1, r1, rfl, hn1⟩ := fd_pI_inv hn; obtain ⟨v2, r2, rfl, hn2⟩ := fd_pR_inv hn1; obtain ⟨-, -, -, rfl⟩ := fd_some4 hn2; exact Nat.le_refl _
  | 44, hok, hn => obtain ⟨v1, r1, rfl, hn1⟩ := fd_pI_inv hn; obtain ⟨v2, r2, rfl, hn2⟩ := fd_pI_inv hn1; obtain ⟨-, -, -, rfl⟩ := fd_some4 hn2; exact Nat.le_refl _
  | n + 45, hok, hn => cases hn
theorem fd_jp_inv {pcs : List Nat} {pc t : Nat} {off : Int} (h : fd_jp pcs pc t off = true) : pcs[t]? = some ((pc : Int) + off).toNat ∧ (pc : Int) + off = ((((pc : Int) + off).toNat : Nat) : Int) := by
  have h1 := of_decide_eq_true h
  exact ⟨h1.1, (Int.toNat_of_nonneg h1.2).symm⟩
theorem fd_icmp_inv {own : String} {b : ByteArray} {ini : Bool} {pcs : List Nat} {pc nx op : Nat} {as : List Int} (h1 : 101 ≤ op) (h2 : op ≤ 106) (h : fd_okI own b ini pcs pc nx op as = true) : ∃ off, decode b pc = .ok (.if_icmp (fd_icmp (op - 101)) off, 3) ∧ nx = pc + 3 ∧ fd_jp pcs pc (fd_n as 0) off = true := by
  unfold fd_okI at h
  split at h
  all_goals first | omega | skip
  rw [if_pos ⟨h1, h2⟩] at h
  split at h
  · rename_i cd off hde
    rw [Bool.and_eq_true] at h
    obtain ⟨e1, e2⟩ := of_decide_eq_true h.1
    subst e1
    exact ⟨off, hde, e2, h.2⟩
  · cases h
theorem fd_ifc_inv {own : String} {b : ByteArray} {ini : Bool} {pcs : List Nat} {pc nx op : Nat} {as : List Int} (h1 : 107 ≤ op) (h2 : op ≤ 112) (h : fd_okI own b ini pcs pc nx op as = true) : ∃ off, decode b pc = .ok (.ifCond (fd_icmp (op - 107)) off, 3) ∧ nx = pc + 3 ∧ fd_jp pcs pc (fd_n as 0) off = true := by
  unfold fd_okI at h
  split at h
  all_goals first | omega | skip
  rw [if_neg (by omega), if_pos ⟨h1, h2⟩] at h
  split at h
  · rename_i cd off hde
    rw [Bool.and_eq_true] at h
    obtain ⟨e1, e2⟩ := of_decide_eq_true h.1
    subst e1
    exact ⟨off, hde, e2, h.2⟩
  · cases h
theorem fd_j100 {j : Nat} (cx : fd_cx g p R s m args meth c mm) (hok : fd_okI (fd_y mm).cls (fd_b mm) (fd_ini mm) (fd_pcs mm) pc ((fd_pcs mm).getD (i + 1) 0) 100 as = true) (hn : fd_jmp 100 as i st = some (true, j, st')) (kk : fd_Go g ph p l e R s m args below meth c mm a0 Q j L st' M) (hH : fd_hp g ph M H) (hS : va_S (fd_A g) s.heap H locs) (hl : fd_lr g la (fd_mL mm) L) : W p l e R s m args below meth c H locs (fd_ap M - a0) (fd_sl (fd_ap M) - fd_sl a0) Q (F0 m pc la (st.map (fd_cv g))) := by
  rw [fd_okI] at hok
  split at hok
  · rename_i off hd
    obtain ⟨h1, h2⟩ := fd_jp_inv hok
    cases hn
    exact lv_goto cx.1 cx.2.1 hd h2 (kk _ H locs la h1 hH hS hl)
  · cases hok
theorem fd_j101 {j : Nat} (cx : fd_cx g p R s m args meth c mm) (hok : fd_okI (fd_y mm).cls (fd_b mm) (fd_ini mm) (fd_pcs mm) pc ((fd_pcs mm).getD (i + 1) 0) 101 as = true) (hn : fd_jmp 101 as i st = some (true, j, st')) (kk : fd_Go g ph p l e R s m args below meth c mm a0 Q j L st' M) (hH : fd_hp g ph M H) (hS : va_S (fd_A g) s.heap H locs) (hl : fd_lr g la (fd_mL mm) L) : W p l e R s m args below meth c H locs (fd_ap M - a0) (fd_sl (fd_ap M) - fd_sl a0) Q (F0 m pc la (st.map (fd_cv g))) := by
  obtain ⟨off, hd, hnx, hjp⟩ := fd_icmp_inv (by decide) (by decide) hok
  obtain ⟨h1, h2⟩ := fd_jp_inv hjp
  rcases st with _ | ⟨⟨b⟩ | ⟨b⟩ | ⟨b⟩, r⟩
  · cases hn
  rotate_left
  · cases hn
  · cases hn
  rcases r with _ | ⟨⟨a⟩ | ⟨a⟩ | ⟨a⟩, r⟩
  · cases hn
  rotate_left
  · cases hn
  · cases hn
  have hn : (some (fd_rng a && fd_rng b, (if a = b then fd_n as 0 else i + 1), r) : Option (Bool × Nat × List fd_V)) = some (true, j, st') := hn
  injection hn with hn
  injection hn with hr hn
  injection hn with hj hs
  subst hj
  subst hs
  rw [Bool.and_eq_true, fd_rng_iff, fd_rng_iff] at hr
  refine lv_icmp_eq cx.1 cx.2.1 hd h2 (fun q => ?_) (fun q => ?_)
  · rw [if_pos ((fd_eqI hr.1 hr.2).mp q)] at kk
    exact kk _ H locs la h1 hH hS hl
  · rw [if_neg (fun z => q ((fd_eqI hr.1 hr.2).mpr z))] at kk
    exact kk _ H locs la (fd_nxt hnx (by decide)) hH hS hl
theorem fd_j102 {j : Nat} (cx : fd_cx g p R s m args meth c mm) (hok : fd_okI (fd_y mm).cls (fd_b mm) (fd_ini mm) (fd_pcs mm) pc ((fd_pcs mm).getD (i + 1) 0) 102 as = true) (hn : fd_jmp 102 as i st = some (true, j, st')) (kk : fd_Go g ph p l e R s m args below meth c mm a0 Q j L st' M) (hH : fd_hp g ph M H) (hS : va_S (fd_A g) s.heap H locs) (hl : fd_lr g la (fd_mL mm) L) : W p l e R s m args below meth c H locs (fd_ap M - a0) (fd_sl (fd_ap M) - fd_sl a0) Q (F0 m pc la (st.map (fd_cv g))) := by
  obtain ⟨off, hd, hnx, hjp⟩ := fd_icmp_inv (by decide) (by decide) hok
  obtain ⟨h1, h2⟩ := fd_jp_inv hjp
  rcases st with _ | ⟨⟨b⟩ | ⟨b⟩ | ⟨b⟩, r⟩
  · cases hn
  rotate_left
  · cases hn
  · cases hn
  rcases r with _ | ⟨⟨a⟩ | ⟨a⟩ | ⟨a⟩, r⟩
  · cases hn
  rotate_left
  · cases hn
  · cases hn
  have hn : (some (fd_rng a && fd_rng b, (if ¬ a = b then fd_n as 0 else i + 1), r) : Option (Bool × Nat × List fd_V)) = some (true, j, st') := hn
  injection hn with hn
  injection hn with hr hn
  injection hn with hj hs
  subst hj
  subst hs
  rw [Bool.and_eq_true, fd_rng_iff, fd_rng_iff] at hr
  refine lv_icmp_ne cx.1 cx.2.1 hd h2 (fun q => ?_) (fun q => ?_)
  · rw [if_pos (fun z => q ((fd_eqI hr.1 hr.2).mpr z))] at kk
    exact kk _ H locs la h1 hH hS hl
  · rw [if_neg (fun z => z ((fd_eqI hr.1 hr.2).mp q))] at kk
    exact kk _ H locs la (fd_nxt hnx (by decide)) hH hS hl
theorem fd_j103 {j : Nat} (cx : fd_cx g p R s m args meth c mm) (hok : fd_okI (fd_y mm).cls (fd_b mm) (fd_ini mm) (fd_pcs mm) pc ((fd_pcs mm).getD (i + 1) 0) 103 as = true) (hn : fd_jmp 103 as i st = some (true, j, st')) (kk : fd_Go g ph p l e R s m args below meth c mm a0 Q j L st' M) (hH : fd_hp g ph M H) (hS : va_S (fd_A g) s.heap H locs) (hl : fd_lr g la (fd_mL mm) L) : W p l e R s m args below meth c H locs (fd_ap M - a0) (fd_sl (fd_ap M) - fd_sl a0) Q (F0 m pc la (st.map (fd_cv g))) := by
  obtain ⟨off, hd, hnx, hjp⟩ := fd_icmp_inv (by decide) (by decide) hok
  obtain ⟨h1, h2⟩ := fd_jp_inv hjp
  rcases st with _ | ⟨⟨b⟩ | ⟨b⟩ | ⟨b⟩, r⟩
  · cases hn
  rotate_left
  · cases hn
  · cases hn
  rcases r with _ | ⟨⟨a⟩ | ⟨a⟩ | ⟨a⟩, r⟩
  · cases hn
  rotate_left
  · cases hn
  · cases hn
  have hn : (some (fd_rng a && fd_rng b, (if a < b then fd_n as 0 else i + 1), r) : Option (Bool × Nat × List fd_V)) = some (true, j, st') := hn
  injection hn with hn
  injection hn with hr hn
  injection hn with hj hs
  subst hj
  subst hs
  rw [Bool.and_eq_true, fd_rng_iff, fd_rng_iff] at hr
  refine lv_icmp_lt cx.1 cx.2.1 hd h2 (fun q => ?_) (fun q => ?_)
  · rw [if_pos ((fd_ltI hr.1 hr.2).mp q)] at kk
    exact kk _ H locs la h1 hH hS hl
  · rw [if_neg (fun z => q ((fd_ltI hr.1 hr.2).mpr z))] at kk
    exact kk _ H locs la (fd_nxt hnx (by decide)) hH hS hl
theorem fd_j104 {j : Nat} (cx : fd_cx g p R s m args meth c mm) (hok : fd_okI (fd_y mm).cls (fd_b mm) (fd_ini mm) (fd_pcs mm) pc ((fd_pcs mm).getD (i + 1) 0) 104 as = true) (hn : fd_jmp 104 as i st = some (true, j, st')) (kk : fd_Go g ph p l e R s m args below meth c mm a0 Q j L st' M) (hH : fd_hp g ph M H) (hS : va_S (fd_A g) s.heap H locs) (hl : fd_lr g la (fd_mL mm) L) : W p l e R s m args below meth c H locs (fd_ap M - a0) (fd_sl (fd_ap M) - fd_sl a0) Q (F0 m pc la (st.map (fd_cv g))) := by
  obtain ⟨off, hd, hnx, hjp⟩ := fd_icmp_inv (by decide) (by decide) hok
  obtain ⟨h1, h2⟩ := fd_jp_inv hjp
  rcases st with _ | ⟨⟨b⟩ | ⟨b⟩ | ⟨b⟩, r⟩
  · cases hn
  rotate_left
  · cases hn
  · cases hn
  rcases r with _ | ⟨⟨a⟩ | ⟨a⟩ | ⟨a⟩, r⟩
  · cases hn
  rotate_left
  · cases hn
  · cases hn
  have hn : (some (fd_rng a && fd_rng b, (if b ≤ a then fd_n as 0 else i + 1), r) : Option (Bool × Nat × List fd_V)) = some (true, j, st') := hn
  injection hn with hn
  injection hn with hr hn
  injection hn with hj hs
  subst hj
  subst hs
  rw [Bool.and_eq_true, fd_rng_iff, fd_rng_iff] at hr
  refine lv_icmp_ge cx.1 cx.2.1 hd h2 (fun q => ?_) (fun q => ?_)
  · rw [if_pos ((fd_leI hr.2 hr.1).mp q)] at kk
    exact kk _ H locs la h1 hH hS hl
  · rw [if_neg (fun z => q ((fd_leI hr.2 hr.1).mpr z))] at kk
    exact kk _ H locs la (fd_nxt hnx (by decide)) hH hS hl
theorem fd_j105 {j : Nat} (cx : fd_cx g p R s m args meth c mm) (hok : fd_okI (fd_y mm).cls (fd_b mm) (fd_ini mm) (fd_pcs mm) pc ((fd_pcs mm).getD (i + 1) 0) 105 as = true) (hn : fd_jmp 105 as i st = some (true, j, st')) (kk : fd_Go g ph p l e R s m args below meth c mm a0 Q j L st' M) (hH : fd_hp g ph M H) (hS : va_S (fd_A g) s.heap H locs) (hl : fd_lr g la (fd_mL mm) L) : W p l e R s m args below meth c H locs (fd_ap M - a0) (fd_sl (fd_ap M) - fd_sl a0) Q (F0 m pc la (st.map (fd_cv g))) := by
  obtain ⟨off, hd, hnx, hjp⟩ := fd_icmp_inv (by decide) (by decide) hok
  obtain ⟨h1, h2⟩ := fd_jp_inv hjp
  rcases st with _ | ⟨⟨b⟩ | ⟨b⟩ | ⟨b⟩, r⟩
  · cases hn
  rotate_left
  · cases hn
  · cases hn
  rcases r with _ | ⟨⟨a⟩ | ⟨a⟩ | ⟨a⟩, r⟩
  · cases hn
  rotate_left
  · cases hn
  · cases hn
  have hn : (some (fd_rng a && fd_rng b, (if b < a then fd_n as 0 else i + 1), r) : Option (Bool × Nat × List fd_V)) = some (true, j, st') := hn
  injection hn with hn
  injection hn with hr hn
  injection hn with hj hs
  subst hj
  subst hs
  rw [Bool.and_eq_true, fd_rng_iff, fd_rng_iff] at hr
  refine lv_icmp_gt cx.1 cx.2.1 hd h2 (fun q => ?_) (fun q => ?_)
  · rw [if_pos ((fd_ltI hr.2 hr.1).mp q)] at kk
    exact kk _ H locs la h1 hH hS hl
  · rw [if_neg (fun z => q ((fd_ltI hr.2 hr.1).mpr z))] at kk
    exact kk _ H locs la (fd_nxt hnx (by decide)) hH hS hl
theorem fd_j106 {j : Nat} (cx : fd_cx g p R s m args meth c mm) (hok : fd_okI (fd_y mm).cls (fd_b mm) (fd_ini mm) (fd_pcs mm) pc ((fd_pcs mm).getD (i + 1) 0) 106 as = true) (hn : fd_jmp 106 as i st = some (true, j, st')) (kk : fd_Go g ph p l e R s m args below meth c mm a0 Q j L st' M) (hH : fd_hp g ph M H) (hS : va_S (fd_A g) s.heap H locs) (hl : fd_lr g la (fd_mL mm) L) : W p l e R s m args below meth c H locs (fd_ap M - a0) (fd_sl (fd_ap M) - fd_sl a0) Q (F0 m pc la (st.map (fd_cv g))) := by
  obtain ⟨off, hd, hnx, hjp⟩ := fd_icmp_inv (by decide) (by decide) hok
  obtain ⟨h1, h2⟩ := fd_jp_inv hjp
  rcases st with _ | ⟨⟨b⟩ | ⟨b⟩ | ⟨b⟩, r⟩
  · cases hn
  rotate_left
  · cases hn
  · cases hn
  rcases r with _ | ⟨⟨a⟩ | ⟨a⟩ | ⟨a⟩, r⟩
  · cases hn
  rotate_left
  · cases hn
  · cases hn
  have hn : (some (fd_rng a && fd_rng b, (if a ≤ b then fd_n as 0 else i + 1), r) : Option (Bool × Nat × List fd_V)) = some (true, j, st') := hn
  injection hn with hn
  injection hn with hr hn
  injection hn with hj hs
  subst hj
  subst hs
  rw [Bool.and_eq_true, fd_rng_iff, fd_rng_iff] at hr
  refine lv_icmp_le cx.1 cx.2.1 hd h2 (fun q => ?_) (fun q => ?_)
  · rw [if_pos ((fd_leI hr.1 hr.2).mp q)] at kk
    exact kk _ H locs la h1 hH hS hl
  · rw [if_neg (fun z => q ((fd_leI hr.1 hr.2).mpr z))] at kk
    exact kk _ H locs la (fd_nxt hnx (by decide)) hH hS hl
theorem fd_j107 {j : Nat} (cx : fd_cx g p R s m args meth c mm) (hok : fd_okI (fd_y mm).cls (fd_b mm) (fd_ini mm) (fd_pcs mm) pc ((fd_pcs mm).getD (i + 1) 0) 107 as = true) (hn : fd_jmp 107 as i st = some (true, j, st')) (kk : fd_Go g ph p l e R s m args below meth c mm a0 Q j L st' M) (hH : fd_hp g ph M H) (hS : va_S (fd_A g) s.heap H locs) (hl : fd_lr g la (fd_mL mm) L) : W p l e R s m args below meth c H locs (fd_ap M - a0) (fd_sl (fd_ap M) - fd_sl a0) Q (F0 m pc la (st.map (fd_cv g))) := by
  obtain ⟨off, hd, hnx, hjp⟩ := fd_ifc_inv (by decide) (by decide) hok
  obtain ⟨h1, h2⟩ := fd_jp_inv hjp
  rcases st with _ | ⟨⟨a⟩ | ⟨a⟩ | ⟨a⟩, r⟩
  · cases hn
  rotate_left
  · cases hn
  · cases hn
  have hn : (some (fd_rng a, (if a = 0 then fd_n as 0 else i + 1), r) : Option (Bool × Nat × List fd_V)) = some (true, j, st') := hn
  injection hn with hn
  injection hn with hr hn
  injection hn with hj hs
  subst hj
  subst hs
  rw [fd_rng_iff] at hr
  have z0 : (-2147483648 : Int) ≤ 0 ∧ (0 : Int) < 2147483648 := by decide
  refine lv_if_eq cx.1 cx.2.1 hd h2 (fun q => ?_) (fun q => ?_)
  · rw [if_pos ((fd_eqI hr z0).mp q)] at kk
    exact kk _ H locs la h1 hH hS hl
  · rw [if_neg (fun z => q ((fd_eqI hr z0).mpr z))] at kk
    exact kk _ H locs la (fd_nxt hnx (by decide)) hH hS hl
theorem fd_j108 {j : Nat} (cx : fd_cx g p R s m args meth c mm) (hok : fd_okI (fd_y mm).cls (fd_b mm) (fd_ini mm) (fd_pcs mm) pc ((fd_pcs mm).getD (i + 1) 0) 108 as = true) (hn : fd_jmp 108 as i st = some (true, j, st')) (kk : fd_Go g ph p l e R s m args below meth c mm a0 Q j L st' M) (hH : fd_hp g ph M H) (hS : va_S (fd_A g) s.heap H locs) (hl : fd_lr g la (fd_mL mm) L) : W p l e R s m args below meth c H locs (fd_ap M - a0) (fd_sl (fd_ap M) - fd_sl a0) Q (F0 m pc la (st.map (fd_cv g))) := by
  obtain ⟨off, hd, hnx, hjp⟩ := fd_ifc_inv (by decide) (by decide) hok
  obtain ⟨h1, h2⟩ := fd_jp_inv hjp
  rcases st with _ | ⟨⟨a⟩ | ⟨a⟩ | ⟨a⟩, r⟩
  · cases hn
  rotate_left
  · cases hn
  · cases hn
  have hn : (some (fd_rng a, (if ¬ a = 0 then fd_n as 0 else i + 1), r) : Option (Bool × Nat × List fd_V)) = some (true, j, st') := hn
  injection hn with hn
  injection hn with hr hn
  injection hn with hj hs
  subst hj
  subst hs
  rw [fd_rng_iff] at hr
  have z0 : (-2147483648 : Int) ≤ 0 ∧ (0 : Int) < 2147483648 := by decide
  refine lv_if_ne cx.1 cx.2.1 hd h2 (fun q => ?_) (fun q => ?_)
  · rw [if_pos (fun z => q ((fd_eqI hr z0).mpr z))] at kk
    exact kk _ H locs la h1 hH hS hl
  · rw [if_neg (fun z => z ((fd_eqI hr z0).mp q))] at kk
    exact kk _ H locs la (fd_nxt hnx (by decide)) hH hS hl
theorem fd_j109 {j : Nat} (cx : fd_cx g p R s m args meth c mm) (hok : fd_okI (fd_y mm).cls (fd_b mm) (fd_ini mm) (fd_pcs mm) pc ((fd_pcs mm).getD (i + 1) 0) 109 as = true) (hn : fd_jmp 109 as i st = some (true, j, st')) (kk : fd_Go g ph p l e R s m args below meth c mm a0 Q j L st' M) (hH : fd_hp g ph M H) (hS : va_S (fd_A g) s.heap H locs) (hl : fd_lr g la (fd_mL mm) L) : W p l e R s m args below meth c H locs (fd_ap M - a0) (fd_sl (fd_ap M) - fd_sl a0) Q (F0 m pc la (st.map (fd_cv g))) := by
  obtain ⟨off, hd, hnx, hjp⟩ := fd_ifc_inv (by decide) (by decide) hok
  obtain ⟨h1, h2⟩ := fd_jp_inv hjp
  rcases st with _ | ⟨⟨a⟩ | ⟨a⟩ | ⟨a⟩, r⟩
  · cases hn
  rotate_left
  · cases hn
  · cases hn
  have hn : (some (fd_rng a, (if a < 0 then fd_n as 0 else i + 1), r) : Option (Bool × Nat × List fd_V)) = some (true, j, st') := hn
  injection hn with hn
  injection hn with hr hn
  injection hn with hj hs
  subst hj
  subst hs
  rw [fd_rng_iff] at hr
  have z0 : (-2147483648 : Int) ≤ 0 ∧ (0 : Int) < 2147483648 := by decide
  refine lv_if_lt cx.1 cx.2.1 hd h2 (fun q => ?_) (fun q => ?_)
  · rw [if_pos ((fd_ltI hr z0).mp q)] at kk
    exact kk _ H locs la h1 hH hS hl
  · rw [if_neg (fun z => q ((fd_ltI hr z0).mpr z))] at kk
    exact kk _ H locs la (fd_nxt hnx (by decide)) hH hS hl
theorem fd_j110 {j : Nat} (cx : fd_cx g p R s m args meth c mm) (hok : fd_okI (fd_y mm).cls (fd_b mm) (fd_ini mm) (fd_pcs mm) pc ((fd_pcs mm).getD (i + 1) 0) 110 as = true) (hn : fd_jmp 110 as i st = some (true, j, st')) (kk : fd_Go g ph p l e R s m args below meth c mm a0 Q j L st' M) (hH : fd_hp g ph M H) (hS : va_S (fd_A g) s.heap H locs) (hl : fd_lr g la (fd_mL mm) L) : W p l e R s m args below meth c H locs (fd_ap M - a0) (fd_sl (fd_ap M) - fd_sl a0) Q (F0 m pc la (st.map (fd_cv g))) := by
  obtain ⟨off, hd, hnx, hjp⟩ := fd_ifc_inv (by decide) (by decide) hok
  obtain ⟨h1, h2⟩ := fd_jp_inv hjp
  rcases st with _ | ⟨⟨a⟩ | ⟨a⟩ | ⟨a⟩, r⟩
  · cases hn
  rotate_left
  · cases hn
  · cases hn
  have hn : (some (fd_rng a, (if 0 ≤ a then fd_n as 0 else i + 1), r) : Option (Bool × Nat × List fd_V)) = some (true, j, st') := hn
  injection hn with hn
  injection hn with hr hn
  injection hn with hj hs
  subst hj
  subst hs
  rw [fd_rng_iff] at hr
  have z0 : (-2147483648 : Int) ≤ 0 ∧ (0 : Int) < 2147483648 := by decide
  refine lv_if_ge cx.1 cx.2.1 hd h2 (fun q => ?_) (fun q => ?_)
  · rw [if_pos ((fd_leI z0 hr).mp q)] at kk
    exact kk _ H locs la h1 hH hS hl
  · rw [if_neg (fun z => q ((fd_leI z0 hr).mpr z))] at kk
    exact kk _ H locs la (fd_nxt hnx (by decide)) hH hS hl
theorem fd_j111 {j : Nat} (cx : fd_cx g p R s m args meth c mm) (hok : fd_okI (fd_y mm).cls (fd_b mm) (fd_ini mm) (fd_pcs mm) pc ((fd_pcs mm).getD (i + 1) 0) 111 as = true) (hn : fd_jmp 111 as i st = some (true, j, st')) (kk : fd_Go g ph p l e R s m args below meth c mm a0 Q j L st' M) (hH : fd_hp g ph M H) (hS : va_S (fd_A g) s.heap H locs) (hl : fd_lr g la (fd_mL mm) L) : W p l e R s m args below meth c H locs (fd_ap M - a0) (fd_sl (fd_ap M) - fd_sl a0) Q (F0 m pc la (st.map (fd_cv g))) := by
  obtain ⟨off, hd, hnx, hjp⟩ := fd_ifc_inv (by decide) (by decide) hok
  obtain ⟨h1, h2⟩ := fd_jp_inv hjp
  rcases st with _ | ⟨⟨a⟩ | ⟨a⟩ | ⟨a⟩, r⟩
  · cases hn
  rotate_left
  · cases hn
  · cases hn
  have hn : (some (fd_rng a, (if 0 < a then fd_n as 0 else i + 1), r) : Option (Bool × Nat × List fd_V)) = some (true, j, st') := hn
  injection hn with hn
  injection hn with hr hn
  injection hn with hj hs
  subst hj
  subst hs
  rw [fd_rng_iff] at hr
  have z0 : (-2147483648 : Int) ≤ 0 ∧ (0 : Int) < 2147483648 := by decide
  refine lv_if_gt cx.1 cx.2.1 hd h2 (fun q => ?_) (fun q => ?_)
  · rw [if_pos ((fd_ltI z0 hr).mp q)] at kk
    exact kk _ H locs la h1 hH hS hl
  · rw [if_neg (fun z => q ((fd_ltI z0 hr).mpr z))] at kk
    exact kk _ H locs la (fd_nxt hnx (by decide)) hH hS hl
theorem fd_j112 {j : Nat} (cx : fd_cx g p R s m args meth c mm) (hok : fd_okI (fd_y mm).cls (fd_b mm) (fd_ini mm) (fd_pcs mm) pc ((fd_pcs mm).getD (i + 1) 0) 112 as = true) (hn : fd_jmp 112 as i st = some (true, j, st')) (kk : fd_Go g ph p l e R s m args below meth c mm a0 Q j L st' M) (hH : fd_hp g ph M H) (hS : va_S (fd_A g) s.heap H locs) (hl : fd_lr g la (fd_mL mm) L) : W p l e R s m args below meth c H locs (fd_ap M - a0) (fd_sl (fd_ap M) - fd_sl a0) Q (F0 m pc la (st.map (fd_cv g))) := by
  obtain ⟨off, hd, hnx, hjp⟩ := fd_ifc_inv (by decide) (by decide) hok
  obtain ⟨h1, h2⟩ := fd_jp_inv hjp
  rcases st with _ | ⟨⟨a⟩ | ⟨a⟩ | ⟨a⟩, r⟩
  · cases hn
  rotate_left
  · cases hn
  · cases hn
  have hn : (some (fd_rng a, (if a ≤ 0 then fd_n as 0 else i + 1), r) : Option (Bool × Nat × List fd_V)) = some (true, j, st') := hn
  injection hn with hn
  injection hn with hr hn
  injection hn with hj hs
  subst hj
  subst hs
  rw [fd_rng_iff] at hr
  have z0 : (-2147483648 : Int) ≤ 0 ∧ (0 : Int) < 2147483648 := by decide
  refine lv_if_le cx.1 cx.2.1 hd h2 (fun q => ?_) (fun q => ?_)
  · rw [if_pos ((fd_leI hr z0).mp q)] at kk
    exact kk _ H locs la h1 hH hS hl
  · rw [if_neg (fun z => q ((fd_leI hr z0).mpr z))] at kk
    exact kk _ H locs la (fd_nxt hnx (by decide)) hH hS hl
theorem fd_j113 {j : Nat} (cx : fd_cx g p R s m args meth c mm) (hok : fd_okI (fd_y mm).cls (fd_b mm) (fd_ini mm) (fd_pcs mm) pc ((fd_pcs mm).getD (i + 1) 0) 113 as = true) (hn : fd_jmp 113 as i st = some (true, j, st')) (kk : fd_Go g ph p l e R s m args below meth c mm a0 Q j L st' M) (hH : fd_hp g ph M H) (hS : va_S (fd_A g) s.heap H locs) (hl : fd_lr g la (fd_mL mm) L) : W p l e R s m args below meth c H locs (fd_ap M - a0) (fd_sl (fd_ap M) - fd_sl a0) Q (F0 m pc la (st.map (fd_cv g))) := by
  rw [fd_okI] at hok
  split at hok
  · rename_i d lo hi offs len hd
    rw [Bool.and_eq_true, Bool.and_eq_true] at hok
    obtain ⟨h1, h2⟩ := fd_jp_inv hok.1
    obtain ⟨k1, k2, k3, k4⟩ := of_decide_eq_true hok.2.1
    have hall := List.all_eq_true.mp hok.2.2
    rcases st with _ | ⟨⟨a⟩ | ⟨a⟩ | ⟨a⟩, r⟩
    · cases hn
    rotate_left
    · cases hn
    · cases hn
    have hn : (some (fd_rng a, (if 0 ≤ a - fd_a as 1 ∧ a - fd_a as 1 < (as.length : Int) - 2 then fd_n as (2 + (a - fd_a as 1).toNat) else fd_n as 0), r) : Option (Bool × Nat × List fd_V)) = some (true, j, st') := hn
    injection hn with hn
    injection hn with hr hn
    injection hn with hj hs
    subst hj
    subst hs
    rw [fd_rng_iff] at hr
    have ea : (Int32.ofInt a).toInt = a := fd_toI hr
    by_cases hc : 0 ≤ a - fd_a as 1 ∧ a - fd_a as 1 < (as.length : Int) - 2
    · rw [if_pos hc] at kk
      have hj := hall (a - fd_a as 1).toNat (List.mem_range.mpr (by omega))
      obtain ⟨q1, q2⟩ := fd_jp_inv hj
      have ho : offs[((Int32.ofInt a).toInt - lo).toNat]? = some (offs.toList.getD (a - fd_a as 1).toNat 0) := by
        rw [ea, ← k1, ← Array.getElem?_toList, List.getD_eq_getElem?_getD]
        have hlt : (a - fd_a as 1).toNat < offs.toList.length := by omega
        rw [List.getElem?_eq_getElem hlt]
        rfl
      exact lv_tableIn cx.1 cx.2.1 hd (by rw [ea]; omega) (by rw [ea]; omega) ho q2 (kk _ H locs la q1 hH hS hl)
    · rw [if_neg hc] at kk
      exact lv_tableOut cx.1 cx.2.1 hd (by rw [ea]; omega) h2 (kk _ H locs la h1 hH hS hl)
  · cases hok
theorem fd_look_ok {pcs : List Nat} {pc : Nat} {x d : Int} {dd : Int} (hd : fd_jp pcs pc dd.toNat d = true) : ∀ (ps : List (Int × Int)) (as : List Int), as.length = 2 * ps.length → (∀ j, j < ps.length → (as.getD (2 * j) 0 = (ps.getD j (0, 0)).1 ∧ 0 ≤ as.getD (2 * j + 1) 0) ∧ fd_jp pcs pc (as.getD (2 * j + 1) 0).toNat (ps.getD j (0, 0)).2 = true) → fd_jp pcs pc (fd_look x dd as).toNat (Op.lookupswitch.offset ps d x) = true
  | [], as, h, _ => by
    have : as = [] := List.length_eq_zero_iff.mp (by simpa using h)
    subst this
    exact hd
  | (k, o) :: ps, as, h, hj => by
    match as, h with
    | [], h => simp at h
    | [_], h => simp at h; omega
    | k' :: t' :: r, h =>
      have h0 := hj 0 (by simp)
      simp only [List.getD_cons_zero, Nat.mul_zero, Nat.zero_add, List.getD_cons_succ] at h0
      rw [Op.lookupswitch.offset_cons, fd_look]
      have e1 : k' = k := h0.1.1
      subst e1
      by_cases hx : x = k'
      · rw [if_pos hx, if_pos hx.symm]
        exact h0.2
      · rw [if_neg hx, if_neg (fun q => hx q.symm)]
        refine fd_look_ok hd ps r (by simp at h; omega) (fun j hjl => ?_)
        have h1 := hj (j + 1) (by simp; omega)
        simpa [Nat.mul_add, Nat.mul_one, List.getD_cons_succ] using h1
theorem fd_j118 {j : Nat} (cx : fd_cx g p R s m args meth c mm) (hok : fd_okI (fd_y mm).cls (fd_b mm) (fd_ini mm) (fd_pcs mm) pc ((fd_pcs mm).getD (i + 1) 0) 118 as = true) (hn : fd_jmp 118 as i st = some (true, j, st')) (kk : fd_Go g ph p l e R s m args below meth c mm a0 Q j L st' M) (hH : fd_hp g ph M H) (hS : va_S (fd_A g) s.heap H locs) (hl : fd_lr g la (fd_mL mm) L) : W p l e R s m args below meth c H locs (fd_ap M - a0) (fd_sl (fd_ap M) - fd_sl a0) Q (F0 m pc la (st.map (fd_cv g))) := by
  rw [fd_okI] at hok
  split at hok
  · rename_i d ps len hd
    rw [Bool.and_eq_true, Bool.and_eq_true, Bool.and_eq_true] at hok
    obtain ⟨hdj, hso, hln, hal⟩ := hok
    have hln := of_decide_eq_true hln
    have hall := List.all_eq_true.mp hal
    rcases st with _ | ⟨⟨a⟩ | ⟨a⟩ | ⟨a⟩, r⟩
    · cases hn
    rotate_left
    · cases hn
    · cases hn
    have hn : (some (fd_rng a, (fd_look a (fd_a as 0) (as.drop 1)).toNat, r) : Option (Bool × Nat × List fd_V)) = some (true, j, st') := hn
    injection hn with hn
    injection hn with hr hn
    injection hn with hj hs
    subst hj
    subst hs
    rw [fd_rng_iff] at hr
    have ea : (Int32.ofInt a).toInt = a := fd_toI hr
    have key := fd_look_ok (pcs := fd_pcs mm) (pc := pc) (x := a) (d := d) (dd := fd_a as 0) hdj ps.toList (as.drop 1) (by rw [List.length_drop]; omega) (fun j hjl => by
      have h1 := hall j (List.mem_range.mpr hjl)
      rw [Bool.and_eq_true] at h1
      have h2 := of_decide_eq_true h1.1
      have e1 : ∀ k, (as.drop 1).getD k 0 = as.getD (1 + k) 0 := fun k => by
        rw [List.getD_eq_getElem?_getD, List.getD_eq_getElem?_getD, List.getElem?_drop]
      rw [e1, e1, show 1 + (2 * j + 1) = 2 + 2 * j by omega]
      exact ⟨h2, h1.2⟩)
    obtain ⟨q1, q2⟩ := fd_jp_inv key
    exact lv_lookup cx.1 cx.2.1 hd hso (by rw [ea]) q2 (kk _ H locs la q1 hH hS hl)
  · cases hok
theorem fd_jump {op j : Nat} (cx : fd_cx g p R s m args meth c mm) (hok : fd_okI (fd_y mm).cls (fd_b mm) (fd_ini mm) (fd_pcs mm) pc ((fd_pcs mm).getD (i + 1) 0) op as = true) (hn : fd_jmp op as i st = some (true, j, st')) (kk : fd_Go g ph p l e R s m args below meth c mm a0 Q j L st' M) (hH : fd_hp g ph M H) (hS : va_S (fd_A g) s.heap H locs) (hl : fd_lr g la (fd_mL mm) L) : W p l e R s m args below meth c H locs (fd_ap M - a0) (fd_sl (fd_ap M) - fd_sl a0) Q (F0 m pc la (st.map (fd_cv g))) := by
  have hop : op = 100 ∨ op = 101 ∨ op = 102 ∨ op = 103 ∨ op = 104 ∨ op = 105 ∨ op = 106 ∨ op = 107 ∨ op = 108 ∨ op = 109 ∨ op = 110 ∨ op = 111 ∨ op = 112 ∨ op = 113 ∨ op = 118 := by
    unfold fd_jmp at hn
    split at hn
    all_goals first | (cases hn; done) | omega
  rcases hop with rfl | rfl | rfl | rfl | rfl | rfl | rfl | rfl | rfl | rfl | rfl | rfl | rfl | rfl | rfl
  · exact fd_j100 cx hok hn kk hH hS hl
  · exact fd_j101 cx hok hn kk hH hS hl
  · exact fd_j102 cx hok hn kk hH hS hl
  · exact fd_j103 cx hok hn kk hH hS hl
  · exact fd_j104 cx hok hn kk hH hS hl
  · exact fd_j105 cx hok hn kk hH hS hl
  · exact fd_j106 cx hok hn kk hH hS hl
  · exact fd_j107 cx hok hn kk hH hS hl
  · exact fd_j108 cx hok hn kk hH hS hl
  · exact fd_j109 cx hok hn kk hH hS hl
  · exact fd_j110 cx hok hn kk hH hS hl
  · exact fd_j111 cx hok hn kk hH hS hl
  · exact fd_j112 cx hok hn kk hH hS hl
  · exact fd_j113 cx hok hn kk hH hS hl
  · exact fd_j118 cx hok hn kk hH hS hl
end fdK4
end
section
/-! THE SMALL MACHINE IS SOUND: a run of fd_ex gives a contract of the method -/
def fd_Qc (g : fd_G) (ph : Bool) (r : Option fd_V) (M' : fd_M) : Array Value → State → Outcome → State → Prop := match r with
  | none => va_Qv (fun _ : Unit => True) (fun _ t => fd_hp g ph M' t.heap) (fd_A g)
  | some (.inl a) => va_Qi (fun r (_ : Unit) => r = Int32.ofInt a) (fun _ t => fd_hp g ph M' t.heap) (fd_A g)
  | some (.inr (.inl a)) => va_Ql (fun r (_ : Unit) => r = Int64.ofInt a) (fun _ t => fd_hp g ph M' t.heap) (fd_A g)
  | some (.inr (.inr _)) => fun _ _ _ _ => False
def fd_Pc (g : fd_G) (ph : Bool) (as : List fd_V) (M : fd_M) : Array Value → State → Prop := va_Pc (as.map (fd_cv g)) (fun U => fd_hp g ph M U.heap ∧ fd_Kn g U U.heap ∧ g.1 ≤ U.heap.size)
def fd_rm (d mc ms : Nat) : Room := { frames := d + 5, cells := mc, slots := ms, locals := 60 * d + 300 }
def fd_wsm (m : Nat) : List Jvm.Cond := .code (fd_y m) (fd_b m) (fd_mL m) (fd_r m) :: fd_gtbl
theorem fd_okM_inv {m : Nat} (h : m < 177) : (Jvm.Cond.code (fd_y m) (fd_b m) (fd_mL m) (fd_r m) ∈ fd_tbl ∧ Jvm.Cond.initialized (fd_y m).cls ∈ fd_tbl) ∧ (fd_sk m = 0 → Jvm.Cond.static (fd_y m) ∈ fd_tbl) ∧ (fd_sk m = 1 → Jvm.Cond.instanceMethod (fd_y m) ∈ fd_tbl ∧ Jvm.Cond.selects (fd_y m).cls (fd_y m) (fd_y m) ∈ fd_tbl) ∧ (fd_sk m = 2 → Jvm.Cond.instanceMethod (fd_y m) ∈ fd_tbl) ∧ ((fd_y m).cls ≠ "java/lang/invoke/MethodHandle" ∧ (fd_y m).cls ≠ "java/lang/invoke/VarHandle" ∧ plainName (fd_y m).cls = true ∧ fd_r m = fd_rtyp (fd_rk m)) ∧ fd_mL m ≤ 20 := by
  have h1 := fd_okMM h
  rw [fd_okM, Bool.and_eq_true, Bool.and_eq_true, Bool.and_eq_true, Bool.and_eq_true] at h1
  obtain ⟨⟨a1, a2⟩, a3, a4, a5⟩ := h1
  refine ⟨⟨fd_wd_mem a1, fd_wd_mem a2⟩, fun q => ?_, fun q => ?_, fun q => ?_, of_decide_eq_true a4, of_decide_eq_true a5⟩
  · rw [q] at a3
    exact fd_wd_mem a3
  · rw [q] at a3
    have a3 := Bool.and_eq_true_iff.mp a3
    exact ⟨fd_wd_mem a3.1, fd_wd_mem a3.2⟩
  · rw [q] at a3
    exact fd_wd_mem a3
theorem fd_ex_succ {ph : Bool} {f d mm i : Nat} {L st : List fd_V} {M : fd_M} {y : Option fd_V × fd_M} (h : fd_ex ph (f + 1) d mm i L st M = some y) : ∃ op as, (fd_code mm)[i]? = some (op, as) ∧
    ((op < 100 ∧ ∃ L1 st1 M1, fd_nx ph op as L st M = some (true, L1, st1, M1) ∧ fd_ex ph f d mm (i + 1) L1 st1 M1 = some y) ∨
     (¬ op < 100 ∧ (op < 114 ∨ op = 118) ∧ ∃ j st1, fd_jmp op as i st = some (true, j, st1) ∧ fd_ex ph f d mm j L st1 M = some y) ∨
     (¬ op < 100 ∧ ¬ (op < 114 ∨ op = 118) ∧ op < 120 ∧ ∃ r, fd_ret (fd_rk mm) op st = some (true, r) ∧ y = (r, M)) ∨
     (120 ≤ op ∧ ∃ d', d = d' + 1 ∧ fd_inv ph op (fd_n as 0) (fd_n as 1) st M = true ∧ ∃ r1 M1, fd_ex ph f d' (fd_n as 0) 0 (fd_pad (fd_n as 0) (st.take (fd_n as 1)).reverse) [] M = some (r1, M1) ∧ fd_ex ph f (d' + 1) mm (i + 1) L (r1.toList ++ st.drop (fd_n as 1)) M1 = some y)) := by
  rw [fd_ex] at h
  cases hi : (fd_code mm)[i]? with
  | none => rw [hi] at h; cases h
  | some I =>
    obtain ⟨op, as⟩ := I
    rw [hi] at h
    refine ⟨op, as, rfl, ?_⟩
    dsimp only at h
    by_cases h1 : op < 100
    · rw [if_pos h1] at h
      refine Or.inl ⟨h1, ?_⟩
      split at h
      · exact ⟨_, _, _, by assumption, h⟩
      · cases h
    · rw [if_neg h1] at h
      refine Or.inr ?_
      by_cases h2 : op < 114 ∨ op = 118
      · rw [if_pos h2] at h
        refine Or.inl ⟨h1, h2, ?_⟩
        split at h
        · exact ⟨_, _, by assumption, h⟩
        · cases h
      · rw [if_neg h2] at h
        refine Or.inr ?_
        by_cases h3 : op < 120
        · rw [if_pos h3] at h
          refine Or.inl ⟨h1, h2, h3, ?_⟩
          split at h
          · cases h
            exact ⟨_, by assumption, rfl⟩
          · cases h
        · rw [if_neg h3] at h
          refine Or.inr ⟨by omega, ?_⟩
          cases d with
          | zero => cases h
          | succ d' =>
            refine ⟨d', rfl, ?_⟩
            dsimp only at h
            by_cases h4 : fd_inv ph op (fd_n as 0) (fd_n as 1) st M = true
            · rw [if_pos h4] at h
              refine ⟨h4, ?_⟩
              split at h
              · exact ⟨_, _, by assumption, h⟩
              · cases h
            · rw [if_neg h4] at h
              cases h
theorem fd_op_call {own : String} {b : ByteArray} {ini : Bool} {pcs : List Nat} {pc nx op : Nat} {as : List Int} (hok : fd_okI own b ini pcs pc nx op as = true) (h : 120 ≤ op) : op = 120 ∨ op = 121 ∨ op = 122 := by
  unfold fd_okI at hok
  split at hok
  all_goals first | omega | skip
  rw [if_neg (by omega), if_neg (by omega)] at hok
  cases hok
theorem fd_mid_lt {own : String} {b : ByteArray} {ini : Bool} {pcs : List Nat} {pc nx op : Nat} {as : List Int} (hok : fd_okI own b ini pcs pc nx op as = true) (h : 120 ≤ op) : fd_n as 0 < 177 := by
  rcases fd_op_call hok h with rfl | rfl | rfl
  all_goals
    rw [fd_okI, Bool.and_eq_true, Bool.and_eq_true] at hok
    exact (of_decide_eq_true hok.2.1).1
theorem fd_mono {ph : Bool} : ∀ (f d mm i : Nat) (L st : List fd_V) (M : fd_M) (r : Option fd_V) (M' : fd_M), mm < 177 → fd_ex ph f d mm i L st M = some (r, M') → fd_ap M ≤ fd_ap M'
  | 0, _, _, _, _, _, _, _, _, _, h => by rw [fd_ex] at h; cases h
  | f + 1, d, mm, i, L, st, M, r, M', hm, h => by
    obtain ⟨op, as, hi, h⟩ := fd_ex_succ h
    obtain ⟨pc, hpc, hok⟩ := fd_ok_at hm hi
    rcases h with ⟨h1, L1, st1, M1, h2, h3⟩ | ⟨h1, h2, j, st1, h3, h4⟩ | ⟨h1, h2, h3, r1, h4, h5⟩ | ⟨h1, d', rfl, h2, r1, M1, h3, h4⟩
    · exact Nat.le_trans (fd_nx_mono hok h2) (fd_mono f _ _ _ _ _ _ _ _ hm h3)
    · exact fd_mono f _ _ _ _ _ _ _ _ hm h4
    · cases h5
      exact Nat.le_refl _
    · exact Nat.le_trans (fd_mono f _ _ _ _ _ _ _ _ (fd_mid_lt hok h1) h3) (fd_mono f _ _ _ _ _ _ _ _ hm h4)
theorem fd_Kn_same {g : fd_G} {u U : State} {H : Heap} (h : u.vm = U.vm) (hk : fd_Kn g u H) : fd_Kn g U H := by
  have ha : u.vm.Alike U.vm := by rw [h]; exact Vm.Alike.refl _
  refine ⟨va_K.moved ha hk.1, fun w hw => ?_, va_Z.moved ha hk.2.2.1, va_T.moved ha hk.2.2.2.1, va_Z.moved ha hk.2.2.2.2.1, va_T.moved ha hk.2.2.2.2.2⟩
  have h1 : fd_nest w = true := (List.mem_filter.mp hw).2
  have h2 := hk.2.1 w hw
  clear hw
  cases w <;> first | exact va_Nw.same rfl h h2 | skip
  case arrayOver t =>
    cases t with
    | object C => exact va_AO.moved ha h2
    | _ => cases h1
  all_goals cases h1
theorem fd_Pc_blind {g : fd_G} {ph : Bool} {as : List fd_V} {M : fd_M} : FrameBlind (fd_Pc g ph as M) := by
  intro a U g' mk q
  obtain ⟨q0, q1, q2, q3⟩ := q
  exact ⟨q0, q1, fd_Kn_same (u := U) rfl q2, q3⟩
/-! entry -/
theorem fd_pcs0_all : (List.range 177).all (fun m => decide ((fd_pcs m)[0]? = some 0)) = true := by decide +kernel
theorem fd_pcs0 {m : Nat} (h : m < 177) : (fd_pcs m)[0]? = some 0 := of_decide_eq_true (List.all_eq_true.mp fd_pcs0_all m (List.mem_range.mpr h))
theorem fd_args_mem : ∀ (vs : List Value) (o k : Nat) (w : Value), (∀ v ∈ vs, v.category = 1) → vs[k]? = some w → (o + k, w) ∈ lv_args o vs
  | [], _, k, w, _, h => by simp at h
  | v :: vs, o, k, w, hc, h => by
    have h1 : ¬ v.category = 2 := by rw [hc v List.mem_cons_self]; decide
    rw [lv_args, if_neg h1]
    cases k with
    | zero =>
      cases h
      exact List.mem_cons_self
    | succ k =>
      have := fd_args_mem vs (o + 1) k w (fun v hv => hc v (List.mem_cons_of_mem _ hv)) h
      rw [show o + (k + 1) = o + 1 + k by omega]
      exact List.mem_cons_of_mem _ this
theorem fd_sl_len : ∀ (vs : List Value), (∀ v ∈ vs, v.category = 1) → (lg_sl vs).length = vs.length
  | [], _ => rfl
  | v :: vs, hc => by
    have h1 : ¬ v.category = 2 := by rw [hc v List.mem_cons_self]; decide
    have := fd_sl_len vs (fun v hv => hc v (List.mem_cons_of_mem _ hv))
    simp only [lg_sl, List.flatMap_cons, if_neg h1] at this ⊢
    simp [this]
theorem fd_n1_cw {v : fd_V} (h : fd_n1 v = true) : fd_cw v = 1 ∧ v ≠ fd_R 1003 := by
  rcases v with a | a | c
  · exact ⟨rfl, fun q => by cases q⟩
  · cases h
  · refine ⟨rfl, fun q => ?_⟩
    cases q
    cases h
theorem fd_entry {g : fd_G} {mid : Nat} {as : List fd_V} (hlen : as.length ≤ fd_mL mid) (hn1 : ∀ v ∈ as, fd_n1 v = true) : fd_lr g ((lg_sl (as.map (fd_cv g)) ++ List.replicate (fd_mL mid - (lg_sl (as.map (fd_cv g))).length) Slot.unset).toArray) (fd_mL mid) (fd_pad mid as) := by
  have hc : ∀ v ∈ as.map (fd_cv g), v.category = 1 := by
    intro v hv
    obtain ⟨x, hx, rfl⟩ := List.mem_map.mp hv
    rw [fd_cat]
    exact (fd_n1_cw (hn1 x hx)).1
  have hl := lv_entry (as.map (fd_cv g)) (n := fd_mL mid) (by rw [fd_sl_len _ hc, List.length_map]; exact hlen)
  refine ⟨by simp [fd_pad]; omega, fun v hv => ?_, hl.1, hl.2.1, fun q hq => ?_⟩
  · rcases List.mem_append.mp hv with h | h
    · exact (fd_n1_cw (hn1 v h)).1
    · rw [(List.mem_replicate.mp h).2]
      rfl
  · obtain ⟨k, w⟩ := q
    obtain ⟨v, hv, hne, rfl⟩ := fd_as_mem.mp hq
    have hk : as[k]? = some v := by
      rcases Nat.lt_or_ge k as.length with h | h
      · rw [fd_pad, List.getElem?_append_left h] at hv
        exact hv
      · rw [fd_pad, List.getElem?_append_right h] at hv
        exact absurd (List.mem_replicate.mp (List.mem_of_getElem? hv)).2 hne
    have := fd_args_mem (as.map (fd_cv g)) 0 k (fd_cv g v) hc (by rw [List.getElem?_map, hk]; rfl)
    rw [Nat.zero_add] at this
    exact hl.2.2 _ this
theorem fd_met_of {g : fd_G} {ph : Bool} {l : Launch} {mid d mc ms : Nat} {as : List fd_V} {M M' : fd_M} {r : Option fd_V} (h177 : mid < 177) (hlen : as.length ≤ fd_mL mid) (hn1 : ∀ v ∈ as, fd_n1 v = true)
    (hgo : ∀ (p : Program) (e : Env) (s : State) (m : MethodId) (args : Array Value) (below : List Frame) (meth : Method) (c : Code), fd_cx g p (fd_rm d mc ms) s m args meth c mid → fd_Go g ph p l e (fd_rm d mc ms) s m args below meth c mid (fd_ap M) (MQ below (fd_Qc g ph r M') args s mc ms (fd_A g)) 0 (fd_pad mid as) [] M) :
    Met l (fd_y mid) (fd_wsm mid) (fd_rm d mc ms) (fd_Pc g ph as M) (fd_Qc g ph r M') mc ms (fd_A g) := by
  obtain ⟨⟨hcode, hinit⟩, -, -, -, ⟨-, -, hplain, -⟩, -⟩ := fd_okM_inv h177
  refine Met.ofW (cc := fd_b mid) (maxL := fd_mL mid) (ret := fd_r mid) hplain rfl ?_
  intro p e s m args below meth c s₁ B hml hv
  obtain ⟨rfl, hH, hKn, hbs⟩ := hv
  have hts := atoms_spec (ws := fd_wsm mid) B.pre
  have hown := findClass_of_methodNamed B.named
  have cx : fd_cx g p (fd_rm d mc ms) s m (as.map (fd_cv g)).toArray meth c mid := ⟨B.exec, B.bytes, hml, B.returns, hown, fd_words (fun w hw => hts w (List.mem_cons_of_mem _ hw)) hKn.2.1, B.notSynchronized, fun hi => by rw [(name_of_methodNamed B.named B.method).1]; exact of_decide_eq_true hi, hKn, hbs, h177, by show 5 ≤ d + 5; omega, by show 200 ≤ 60 * d + 300; omega⟩
  have k := hgo p e s m _ below meth c cx 0 s.heap [] _ (fd_pcs0 h177) hH va_S.rf (fd_entry hlen hn1)
  rw [Nat.sub_self, Nat.sub_self] at k
  rw [lg_entry_eq]
  exact k
end
section
theorem fd_arith (K d : Nat) (h : K ≤ 20) : 8 + (K + 11) + (60 * d + 300) ≤ 60 * (d + 1) + 300 := by omega
section fdK5
variable {g : fd_G} {ph : Bool} {p : Program} {l : Launch} {e : Env} {R : Room} {s : State} {m : MethodId} {args : Array Value} {below : List Frame} {meth : Method} {c : Code} {mm a0 i pc : Nat} {Q : State → Prop} {as : List Int} {L st : List fd_V} {M M1 : fd_M} {H : Heap} {locs : List Loc} {la : Array Slot} {d op : Nat} {r1 : Option fd_V}
theorem fd_cwsum (g : fd_G) (r : List fd_V) : ((r.map (fd_cv g)).map fun v => v.category).sum = (r.map fd_cw).sum := by
  rw [List.map_map]
  congr 1
  apply List.map_congr_left
  intro v _
  exact fd_cat g v
/-- the call itself: from the callee's contract, by the way it is called -/
theorem fd_callR (cx : fd_cx g p R s m args meth c mm) (hok : fd_okI (fd_y mm).cls (fd_b mm) (fd_ini mm) (fd_pcs mm) pc ((fd_pcs mm).getD (i + 1) 0) op as = true) (hop : 120 ≤ op) (hinv : fd_inv ph op (fd_n as 0) (fd_n as 1) st M = true)
    (hM : Met l (fd_y (fd_n as 0)) (fd_wsm (fd_n as 0)) (fd_rm d (fd_ap M1 - fd_ap M) (fd_sl (fd_ap M1) - fd_sl (fd_ap M))) (fd_Pc g ph (st.take (fd_n as 1)).reverse M) (fd_Qc g ph r1 M1) (fd_ap M1 - fd_ap M) (fd_sl (fd_ap M1) - fd_sl (fd_ap M)) (fd_A g))
    (hF : d + 6 ≤ R.frames) (hLo : 60 * (d + 1) + 300 ≤ R.locals) (hrc : fd_ap M - a0 + (fd_ap M1 - fd_ap M) ≤ R.cells) (hrs : fd_sl (fd_ap M) - fd_sl a0 + (fd_sl (fd_ap M1) - fd_sl (fd_ap M)) ≤ R.slots)
    (hH : fd_hp g ph M H) (hS : va_S (fd_A g) s.heap H locs) (hl : fd_lr g la (fd_mL mm) L) :
    (fd_pcs mm)[i + 1]? = some (pc + 3) ∧ va_Run p l e R s m args below meth c H locs (fd_ap M - a0) (fd_sl (fd_ap M) - fd_sl a0) (fd_ap M1 - fd_ap M) (fd_sl (fd_ap M1) - fd_sl (fd_ap M)) (F0 m pc la (st.map (fd_cv g))) ((st.drop (fd_n as 1)).map (fd_cv g)) (fd_Qc g ph r1 M1 ((st.take (fd_n as 1)).reverse.map (fd_cv g)).toArray) (fd_A g) := by
  obtain ⟨hx, hb, hml, hr, hown, hts, hlk, hini, hKn, hbs, h177, hfr, hlo⟩ := cx
  have hmid := fd_mid_lt hok hop
  obtain ⟨⟨hcode, hinit⟩, hsk0, hsk1, hsk2, ⟨hy1, hy2, -, -⟩, hmL⟩ := fd_okM_inv hmid
  unfold fd_inv at hinv
  rw [Bool.and_eq_true, Bool.and_eq_true, Bool.and_eq_true] at hinv
  obtain ⟨⟨hnp, hall, hsum⟩, hrecv⟩ := hinv
  have hnp : fd_n as 1 ≤ st.length := by simpa using hnp
  have hsum : ((st.drop (fd_n as 1)).map fd_cw).sum ≤ 8 := by simpa using hsum
  have hroom : (((st.drop (fd_n as 1)).map (fd_cv g)).map fun v => v.category).sum ≤ 8 := by rw [fd_cwsum]; exact hsum
  have hst : st.map (fd_cv g) = ((st.take (fd_n as 1)).reverse.map (fd_cv g)).reverse ++ (st.drop (fd_n as 1)).map (fd_cv g) := by
    rw [List.map_reverse, List.reverse_reverse, ← List.map_append, List.take_append_drop]
  have hlen : (st.take (fd_n as 1)).reverse.length = fd_n as 1 := by
    rw [List.length_reverse, List.length_take]; omega
  have hpre : ∀ U : State, U.heap = H → s.WarmedH U.vm → fd_Pc g ph (st.take (fd_n as 1)).reverse M ((st.take (fd_n as 1)).reverse.map (fd_cv g)).toArray U := fun U hU hW =>
    ⟨rfl, by rw [hU]; exact hH, fd_Kn_moved hW (fun q h1 h2 => by rw [hU]; exact hS.2.1 q h1 h2) hKn, by rw [hU]; exact Nat.le_trans hbs hS.1⟩
  have hG := fd_goodIn hcode
  have hRR : (fd_rm d (fd_ap M1 - fd_ap M) (fd_sl (fd_ap M1) - fd_sl (fd_ap M))).frames + 1 ≤ R.frames ∧ 8 + (fd_mL (fd_n as 0) + 11) + (fd_rm d (fd_ap M1 - fd_ap M) (fd_sl (fd_ap M1) - fd_sl (fd_ap M))).locals ≤ R.locals := by
    constructor
    · show d + 5 + 1 ≤ _
      omega
    · exact Nat.le_trans (fd_arith _ d hmL) hLo
  generalize hargs : (st.take (fd_n as 1)).reverse = AL at *
  have hn1 : ∀ v ∈ AL, fd_n1 v = true := by
    intro v hv
    rw [← hargs] at hv
    exact List.all_eq_true.mp hall v (List.mem_reverse.mp hv)
  rcases fd_op_call hok hop with rfl | rfl | rfl
  · rw [fd_okI, Bool.and_eq_true, Bool.and_eq_true, Bool.and_eq_true] at hok
    obtain ⟨hd, hnx⟩ := fd_dc_inv hok.1
    obtain ⟨-, hmc, hcls, hpar, h1np, -⟩ := of_decide_eq_true hok.2.1
    have hsk := of_decide_eq_true hok.2.2.1
    have hlk2 := hok.2.2.2
    refine ⟨fd_nxt hnx (by decide), ?_⟩
    rcases AL with _ | ⟨⟨a⟩ | ⟨a⟩ | ⟨a⟩, tl⟩
    · cases hrecv
    · cases hrecv
    · cases hrecv
    dsimp only at hrecv
    obtain ⟨hsh, hal⟩ := fd_isO_inv hrecv
    obtain ⟨hlt, h213⟩ := fd_lt_ap hH hal (by omega)
    have hce := fd_ws_get (g := g) (ph := ph) (M := M) hlt
    rw [fd_ce_obj hsh (by omega)] at hce
    have hcell := va_recv hKn.1 hH.2.2.2.2 (fd_clD_get hmc) hce
    rw [hcls] at hcell
    have hst2 : st.map (fd_cv g) = (tl.map (fd_cv g)).reverse ++ .ref (g.1 + a) :: (st.drop (fd_n as 1)).map (fd_cv g) := by
      rw [hst]
      simp only [List.map_cons, List.reverse_cons, List.append_assoc, List.singleton_append]
      rw [show fd_cv g (Sum.inr (Sum.inr a)) = .ref (g.1 + a) from fd_rv_lt (by omega)]
    have hargv : (List.map (fd_cv g) (Sum.inr (Sum.inr a) :: tl)) = .ref (g.1 + a) :: tl.map (fd_cv g) := by
      rw [List.map_cons, show fd_cv g (Sum.inr (Sum.inr a)) = .ref (g.1 + a) from fd_rv_lt (by omega)]
    rw [hargv] at hpre ⊢
    have hlen2 : (tl.map (fd_cv g)).length = fd_n as 1 - 1 := by
      rw [List.length_map]
      simp only [List.length_cons] at hlen
      omega
    split at hlk2
    · exact va_runV ⟨hx, hb, hml, hown, hts⟩ hM ⟨callB_of (fd_n as 1 - 1) hts hG rfl rfl rfl (hts _ hinit) (hts _ (fd_wd_mem hlk2)) ⟨hy1, hy2, hpar⟩ hRR, hts _ (hsk1 hsk).1, hts _ (hsk1 hsk).2⟩ ⟨fd_Pc_blind, hcell, hpre⟩ rfl hlen2 hl.2.2.1 hst2 (lv_room hroom) hd ⟨hrc, hrs⟩
    · exact va_runVN ⟨hx, hb, hml, hown, hts⟩ hM ⟨va_cnB (fd_n as 1 - 1) hts hG rfl rfl rfl (va_Nw.of rfl (hts _ (fd_wd_mem hlk2))) (hts _ hinit) ⟨hy1, hy2, hpar⟩ hRR, hts _ (hsk1 hsk).1, hts _ (hsk1 hsk).2⟩ ⟨fd_Pc_blind, hcell, hpre⟩ rfl hlen2 hl.2.2.1 hst2 (lv_room hroom) hd ⟨hrc, hrs⟩
  · rw [fd_okI, Bool.and_eq_true, Bool.and_eq_true, Bool.and_eq_true] at hok
    obtain ⟨hd, hnx⟩ := fd_dc_inv hok.1
    obtain ⟨-, hpar, -⟩ := of_decide_eq_true hok.2.1
    have hsk := of_decide_eq_true hok.2.2.1
    have hlk2 := hok.2.2.2
    refine ⟨fd_nxt hnx (by decide), ?_⟩
    have hlen2 : (AL.map (fd_cv g)).length = fd_n as 1 := by rw [List.length_map]; exact hlen
    split at hlk2
    · exact va_runS ⟨hx, hb, hml, hown, hts⟩ hM ⟨callB_of (fd_n as 1) hts hG rfl rfl rfl (hts _ hinit) (hts _ (fd_wd_mem hlk2)) ⟨hy1, hy2, hpar⟩ hRR, hts _ (hsk0 hsk)⟩ ⟨fd_Pc_blind, hpre⟩ rfl hlen2 hl.2.2.1 hst (lv_room hroom) hd ⟨hrc, hrs⟩
    · exact va_runSN ⟨hx, hb, hml, hown, hts⟩ hM ⟨va_cnB (fd_n as 1) hts hG rfl rfl rfl (va_Nw.of rfl (hts _ (fd_wd_mem hlk2))) (hts _ hinit) ⟨hy1, hy2, hpar⟩ hRR, hts _ (hsk0 hsk), trivial⟩ ⟨fd_Pc_blind, hpre⟩ rfl hlen2 hl.2.2.1 hst (lv_room hroom) hd ⟨hrc, hrs⟩
  · rw [fd_okI, Bool.and_eq_true, Bool.and_eq_true, Bool.and_eq_true] at hok
    obtain ⟨hd, hnx⟩ := fd_dc_inv hok.1
    obtain ⟨-, hpar, h1np, -, hnm, hret⟩ := of_decide_eq_true hok.2.1
    have hsk := of_decide_eq_true hok.2.2.1
    have hlk2 := hok.2.2.2
    refine ⟨fd_nxt hnx (by decide), ?_⟩
    rcases AL with _ | ⟨⟨a⟩ | ⟨a⟩ | ⟨a⟩, tl⟩
    · cases hrecv
    · cases hrecv
    · cases hrecv
    have ha3 : a < 1000 := by
      have h9 : Nat.blt a 1000 = true := hn1 (Sum.inr (Sum.inr a)) List.mem_cons_self
      simpa using h9
    have hst2 : st.map (fd_cv g) = (tl.map (fd_cv g)).reverse ++ .ref (g.1 + a) :: (st.drop (fd_n as 1)).map (fd_cv g) := by
      rw [hst]
      simp only [List.map_cons, List.reverse_cons, List.append_assoc, List.singleton_append]
      rw [show fd_cv g (Sum.inr (Sum.inr a)) = .ref (g.1 + a) from fd_rv_lt ha3]
    have hargv : (List.map (fd_cv g) (Sum.inr (Sum.inr a) :: tl)) = .ref (g.1 + a) :: tl.map (fd_cv g) := by
      rw [List.map_cons, show fd_cv g (Sum.inr (Sum.inr a)) = .ref (g.1 + a) from fd_rv_lt ha3]
    rw [hargv] at hpre ⊢
    have hlen2 : (tl.map (fd_cv g)).length = fd_n as 1 - 1 := by
      rw [List.length_map]
      simp only [List.length_cons] at hlen
      omega
    rw [hret] at hG
    have hM2 := hM
    unfold fd_wsm at hM2
    rw [hret] at hM2
    split at hlk2
    · exact va_runI ⟨hx, hb, hml, hown, hts⟩ hM2 ⟨callB_of (fd_n as 1 - 1) hts hG rfl rfl rfl (hts _ hinit) (hts _ (fd_wd_mem hlk2)) ⟨hy1, hy2, hpar⟩ hRR, hnm, hts _ (hsk2 hsk)⟩ ⟨fd_Pc_blind, hpre⟩ rfl hlen2 hl.2.2.1 hst2 (lv_room hroom) hd ⟨hrc, hrs⟩
    · exact va_runIN ⟨hx, hb, hml, hown, hts⟩ hM2 ⟨va_cnB (fd_n as 1 - 1) hts hG rfl rfl rfl (va_Nw.of rfl (hts _ (fd_wd_mem hlk2))) (hts _ hinit) ⟨hy1, hy2, hpar⟩ hRR, hnm, hts _ (hsk2 hsk)⟩ ⟨fd_Pc_blind, hpre⟩ rfl hlen2 hl.2.2.1 hst2 (lv_room hroom) hd ⟨hrc, hrs⟩
theorem fd_callW (cx : fd_cx g p R s m args meth c mm) (hok : fd_okI (fd_y mm).cls (fd_b mm) (fd_ini mm) (fd_pcs mm) pc ((fd_pcs mm).getD (i + 1) 0) op as = true) (hop : 120 ≤ op) (hinv : fd_inv ph op (fd_n as 0) (fd_n as 1) st M = true)
    (hM : Met l (fd_y (fd_n as 0)) (fd_wsm (fd_n as 0)) (fd_rm d (fd_ap M1 - fd_ap M) (fd_sl (fd_ap M1) - fd_sl (fd_ap M))) (fd_Pc g ph (st.take (fd_n as 1)).reverse M) (fd_Qc g ph r1 M1) (fd_ap M1 - fd_ap M) (fd_sl (fd_ap M1) - fd_sl (fd_ap M)) (fd_A g))
    (hF : d + 6 ≤ R.frames) (hLo : 60 * (d + 1) + 300 ≤ R.locals) (ha0 : a0 ≤ fd_ap M) (hmn : fd_ap M ≤ fd_ap M1) (hrc : fd_ap M1 - a0 ≤ R.cells) (hrs : fd_sl (fd_ap M1) - fd_sl a0 ≤ R.slots)
    (kk : fd_Go g ph p l e R s m args below meth c mm a0 Q (i + 1) L (r1.toList ++ st.drop (fd_n as 1)) M1)
    (hH : fd_hp g ph M H) (hS : va_S (fd_A g) s.heap H locs) (hl : fd_lr g la (fd_mL mm) L) : W p l e R s m args below meth c H locs (fd_ap M - a0) (fd_sl (fd_ap M) - fd_sl a0) Q (F0 m pc la (st.map (fd_cv g))) := by
  have s1 := fd_sl_mono ha0
  have s2 := fd_sl_mono hmn
  have ec : fd_ap M - a0 + (fd_ap M1 - fd_ap M) = fd_ap M1 - a0 := Nat.add_comm .. ▸ Nat.sub_add_sub_cancel hmn ha0
  have es : fd_sl (fd_ap M) - fd_sl a0 + (fd_sl (fd_ap M1) - fd_sl (fd_ap M)) = fd_sl (fd_ap M1) - fd_sl a0 := Nat.add_comm .. ▸ Nat.sub_add_sub_cancel s2 s1
  obtain ⟨hpc, hrun⟩ := fd_callR (a0 := a0) (e := e) (below := below) cx hok hop hinv hM hF hLo (by rw [ec]; exact hrc) (by rw [es]; exact hrs) hH hS hl
  rcases r1 with _ | ⟨a⟩ | ⟨a⟩ | ⟨a⟩
  · refine va_callv (a := ((st.take (fd_n as 1)).reverse.map (fd_cv g)).toArray) hrun hS (fun q _ h => h) (fun q h => h) (fun u t H1 l1 ht hvm hp hB hz hk1 hS1 => ?_)
    have k1 := kk (pc + 3) H1 l1 la hpc (by rw [← ht]; exact hB) hS1 hl
    rw [ec, es]
    exact k1
  · refine va_calli (a := ((st.take (fd_n as 1)).reverse.map (fd_cv g)).toArray) hrun hS (fun q _ h => h) (fun q h => h) (fun r u t H1 l1 ht hvm hp hB hz hk1 hS1 => ?_)
    have k1 := kk (pc + 3) H1 l1 la hpc (by rw [← ht]; exact hB) hS1 hl
    rw [ec, es]
    subst hp
    exact k1
  · refine va_calll (a := ((st.take (fd_n as 1)).reverse.map (fd_cv g)).toArray) hrun hS (fun q _ h => h) (fun q h => h) (fun r u t H1 l1 ht hvm hp hB hz hk1 hS1 => ?_)
    have k1 := kk (pc + 3) H1 l1 la hpc (by rw [← ht]; exact hB) hS1 hl
    rw [ec, es]
    subst hp
    exact k1
  · intro T hT X
    obtain ⟨v, st0, t, T', L', -, -, -, -, -, hf, -⟩ := hrun T hT X
    exact hf.elim
theorem fd_retW {r : Option fd_V} (cx : fd_cx g p R s m args meth c mm) (hok : fd_okI (fd_y mm).cls (fd_b mm) (fd_ini mm) (fd_pcs mm) pc ((fd_pcs mm).getD (i + 1) 0) op as = true) (hn : fd_ret (fd_rk mm) op st = some (true, r)) (hH : fd_hp g ph M H) (hS : va_S (fd_A g) s.heap H locs) :
    W p l e R s m args below meth c H locs (fd_ap M - a0) (fd_sl (fd_ap M) - fd_sl a0) (MQ below (fd_Qc g ph r M) args s (fd_ap M - a0) (fd_sl (fd_ap M) - fd_sl a0) (fd_A g)) (F0 m pc la (st.map (fd_cv g))) := by
  obtain ⟨hx, hb, hml, hr, hown, hts, hlk, hini, hKn, hbs, h177, hfr, hlo⟩ := cx
  obtain ⟨-, -, -, -, ⟨-, -, -, hrt⟩, -⟩ := fd_okM_inv h177
  rw [hrt] at hr
  unfold fd_ret at hn
  split at hn
  · rename_i a
    injection hn with hn
    injection hn with h1 h2
    subst h2
    have hd : decode (fd_b mm) pc = .ok (.ireturn, 1) := of_decide_eq_true hok
    rw [Bool.or_eq_true, Bool.and_eq_true, fd_inb_iff] at h1
    rcases h1 with h1 | ⟨h1, h3⟩
    · rw [Nat.eq_of_beq_eq_true h1] at hr
      exact W.iret hx hb hr (fun t ht hW => ⟨⟨Int32.ofInt a, (), rfl, rfl, by show fd_hp g ph M t.heap; rw [ht]; exact hH⟩, hS.F ht⟩) hS.2.2 hd hlk
    · rw [Nat.eq_of_beq_eq_true h1] at hr
      exact W.zret hx hb hr (fd_bool h3).1 (fun t ht hW => ⟨⟨Int32.ofInt a, (), rfl, rfl, by show fd_hp g ph M t.heap; rw [ht]; exact hH⟩, hS.F ht⟩) hS.2.2 hd hlk
  · rename_i a
    injection hn with hn
    injection hn with h1 h2
    subst h2
    have hd : decode (fd_b mm) pc = .ok (.lreturn, 1) := of_decide_eq_true hok
    rw [Nat.eq_of_beq_eq_true h1] at hr
    exact W.lret hx hb hr (fun t ht hW => ⟨⟨Int64.ofInt a, (), rfl, rfl, by show fd_hp g ph M t.heap; rw [ht]; exact hH⟩, hS.F ht⟩) hS.2.2 hd hlk
  · injection hn with hn
    injection hn with h1 h2
    subst h2
    have hd : decode (fd_b mm) pc = .ok (.return_, 1) := of_decide_eq_true hok
    rw [Nat.eq_of_beq_eq_true h1] at hr
    exact W.vret hx hb hr (fun t ht hW => ⟨⟨(), rfl, trivial, by show fd_hp g ph M t.heap; rw [ht]; exact hH⟩, hS.F ht⟩) hS.2.2 hd hlk
  · cases hn
end fdK5
/-- every run of the small machine is one of the machine -/
theorem fd_main {g : fd_G} {ph : Bool} {l : Launch} : ∀ (f d mm i : Nat) (L st : List fd_V) (M : fd_M) (r : Option fd_V) (M' : fd_M), fd_ex ph f d mm i L st M = some (r, M') →
    ∀ (p : Program) (e : Env) (s : State) (m : MethodId) (args : Array Value) (below : List Frame) (meth : Method) (c : Code) (a0 : Nat), fd_cx g p (fd_rm d (fd_ap M' - a0) (fd_sl (fd_ap M') - fd_sl a0)) s m args meth c mm → a0 ≤ fd_ap M →
    fd_Go g ph p l e (fd_rm d (fd_ap M' - a0) (fd_sl (fd_ap M') - fd_sl a0)) s m args below meth c mm a0 (MQ below (fd_Qc g ph r M') args s (fd_ap M' - a0) (fd_sl (fd_ap M') - fd_sl a0) (fd_A g)) i L st M
  | 0, _, _, _, _, _, _, _, _, h => by rw [fd_ex] at h; cases h
  | f + 1, d, mm, i, L, st, M, r, M', h => by
    intro p e s m args below meth c a0 cx ha0 pc H locs la hpc hH hS hl
    have h177 : mm < 177 := cx.2.2.2.2.2.2.2.2.2.2.1
    obtain ⟨op, as, hi, h⟩ := fd_ex_succ h
    obtain ⟨pc', hpc', hok⟩ := fd_ok_at h177 hi
    cases hpc.symm.trans hpc'
    rcases h with ⟨h1, L1, st1, M1, h2, h3⟩ | ⟨h1, h2, j, st1, h3, h4⟩ | ⟨h1, h2, h3, r1, h4, h5⟩ | ⟨h1, d', rfl, h2, r1, M1, h3, h4⟩
    · have m0 := fd_nx_mono hok h2
      have m1 := fd_mono f _ _ _ _ _ _ _ _ h177 h3
      exact fd_step cx hok h2 (fd_main f d mm (i + 1) L1 st1 M1 r M' h3 p e s m args below meth c a0 cx (Nat.le_trans ha0 m0)) hH hS hl (Nat.sub_le_sub_right m1 a0) (Nat.sub_le_sub_right (fd_sl_mono m1) _) ha0
    · exact fd_jump cx hok h3 (fd_main f d mm j L st1 M r M' h4 p e s m args below meth c a0 cx ha0) hH hS hl
    · cases h5
      exact fd_retW cx hok h4 hH hS
    · have hmid := fd_mid_lt hok h1
      have m0 := fd_mono f _ _ _ _ _ _ _ _ hmid h3
      have m1 := fd_mono f _ _ _ _ _ _ _ _ h177 h4
      have hnp : (st.take (fd_n as 1)).reverse.length ≤ fd_mL (fd_n as 0) ∧ ∀ v ∈ (st.take (fd_n as 1)).reverse, fd_n1 v = true := by
        have q := h2
        unfold fd_inv at q
        rw [Bool.and_eq_true, Bool.and_eq_true, Bool.and_eq_true] at q
        refine ⟨?_, fun v hv => List.all_eq_true.mp q.1.2.1 v (List.mem_reverse.mp hv)⟩
        rw [List.length_reverse, List.length_take]
        refine Nat.le_trans (Nat.min_le_left _ _) ?_
        rcases fd_op_call hok h1 with rfl | rfl | rfl
        all_goals
          rw [fd_okI, Bool.and_eq_true, Bool.and_eq_true] at hok
          have z := of_decide_eq_true hok.2.1
        · exact z.2.2.2.2.2
        · exact z.2.2
        · exact z.2.2.2.1
      have hM := fd_met_of (g := g) (ph := ph) (l := l) (d := d') (mc := fd_ap M1 - fd_ap M) (ms := fd_sl (fd_ap M1) - fd_sl (fd_ap M)) (M := M) (M' := M1) (r := r1) hmid hnp.1 hnp.2 (fun p e s m args below meth c cx => fd_main f d' (fd_n as 0) 0 _ [] M r1 M1 h3 p e s m args below meth c (fd_ap M) cx (Nat.le_refl _))
      exact fd_callW cx hok h1 h2 hM (Nat.le_refl _) (Nat.le_refl _) ha0 m0 (Nat.sub_le_sub_right m1 a0) (Nat.sub_le_sub_right (fd_sl_mono m1) _) (fd_main f (d' + 1) mm (i + 1) L _ M1 r M' h4 p e s m args below meth c a0 cx (Nat.le_trans ha0 m0)) hH hS hl
/-- THE CONTRACT of a method out of its run -/
theorem fd_met {g : fd_G} {ph : Bool} {l : Launch} {f d mm : Nat} {as : List fd_V} {M M' : fd_M} {r : Option fd_V} (h177 : mm < 177) (hlen : as.length ≤ fd_mL mm) (hn1 : ∀ v ∈ as, fd_n1 v = true) (h : fd_ex ph f d mm 0 (fd_pad mm as) [] M = some (r, M')) :
    Met l (fd_y mm) (fd_wsm mm) (fd_rm d (fd_ap M' - fd_ap M) (fd_sl (fd_ap M') - fd_sl (fd_ap M))) (fd_Pc g ph as M) (fd_Qc g ph r M') (fd_ap M' - fd_ap M) (fd_sl (fd_ap M') - fd_sl (fd_ap M)) (fd_A g) :=
  fd_met_of h177 hlen hn1 (fun p e s m args below meth c cx => fd_main f d mm 0 _ [] M r M' h p e s m args below meth c (fd_ap M) cx (Nat.le_refl _))
end
section
/-! rules for runs of the small machine -/
theorem fd_nx_lt {ph : Bool} {op : Nat} {as : List Int} {L st : List fd_V} {M : fd_M} {y} (h : fd_nx ph op as L st M = some y) : op < 100 := by
  rcases Nat.lt_or_ge op 45 with q | q
  · omega
  · exfalso
    obtain ⟨n, rfl⟩ : ∃ n, op = n + 45 := ⟨op - 45, by omega⟩
    cases h
theorem fd_x_nx {ph : Bool} {f d m i op : Nat} {as : List Int} {L st L1 st1 : List fd_V} {M M1 : fd_M} {y} (hi : (fd_code m)[i]? = some (op, as)) (hn : fd_nx ph op as L st M = some (true, L1, st1, M1)) (k : fd_ex ph f d m (i + 1) L1 st1 M1 = some y) : fd_ex ph (f + 1) d m i L st M = some y := by
  rw [fd_ex, hi]
  dsimp only
  rw [if_pos (fd_nx_lt hn), hn]
  exact k
theorem fd_x_jmp {ph : Bool} {f d m i op j : Nat} {as : List Int} {L st st1 : List fd_V} {M : fd_M} {y} (hi : (fd_code m)[i]? = some (op, as)) (h1 : ¬ op < 100) (h2 : op < 114 ∨ op = 118) (hn : fd_jmp op as i st = some (true, j, st1)) (k : fd_ex ph f d m j L st1 M = some y) : fd_ex ph (f + 1) d m i L st M = some y := by
  rw [fd_ex, hi]
  dsimp only
  rw [if_neg h1, if_pos h2, hn]
  exact k
theorem fd_x_ret {ph : Bool} {f d m i op : Nat} {as : List Int} {L st : List fd_V} {M : fd_M} {r} (hi : (fd_code m)[i]? = some (op, as)) (h1 : ¬ op < 100) (h2 : ¬ (op < 114 ∨ op = 118)) (h3 : op < 120) (hn : fd_ret (fd_rk m) op st = some (true, r)) : fd_ex ph (f + 1) d m i L st M = some (r, M) := by
  rw [fd_ex, hi]
  dsimp only
  rw [if_neg h1, if_neg h2, if_pos h3, hn]
theorem fd_x_call {ph : Bool} {f d m i op : Nat} {as : List Int} {L st : List fd_V} {M M1 : fd_M} {r1 : Option fd_V} {y} (hi : (fd_code m)[i]? = some (op, as)) (h1 : 120 ≤ op) (hinv : fd_inv ph op (fd_n as 0) (fd_n as 1) st M = true) (hc : fd_ex ph f d (fd_n as 0) 0 (fd_pad (fd_n as 0) (st.take (fd_n as 1)).reverse) [] M = some (r1, M1)) (k : fd_ex ph f (d + 1) m (i + 1) L (r1.toList ++ st.drop (fd_n as 1)) M1 = some y) : fd_ex ph (f + 1) (d + 1) m i L st M = some y := by
  rw [fd_ex, hi]
  dsimp only
  rw [if_neg (by omega), if_neg (by omega), if_neg (by omega), if_pos hinv, hc]
  exact k
theorem fd_fuel {ph : Bool} : ∀ (f d m i : Nat) (L st : List fd_V) (M : fd_M) (y), fd_ex ph f d m i L st M = some y → fd_ex ph (f + 1) d m i L st M = some y
  | 0, _, _, _, _, _, _, _, h => by rw [fd_ex] at h; cases h
  | f + 1, d, m, i, L, st, M, y, h => by
    obtain ⟨op, as, hi, h⟩ := fd_ex_succ h
    rcases h with ⟨h1, L1, st1, M1, h2, h3⟩ | ⟨h1, h2, j, st1, h3, h4⟩ | ⟨h1, h2, h3, r1, h4, rfl⟩ | ⟨h1, d', rfl, h2, r1, M1, h3, h4⟩
    · exact fd_x_nx hi h2 (fd_fuel f _ _ _ _ _ _ _ h3)
    · exact fd_x_jmp hi h1 h2 h3 (fd_fuel f _ _ _ _ _ _ _ h4)
    · exact fd_x_ret hi h1 h2 h3 h4
    · exact fd_x_call hi h1 h2 (fd_fuel f _ _ _ _ _ _ _ h3) (fd_fuel f _ _ _ _ _ _ _ h4)
theorem fd_fuelN {ph : Bool} {f d m i : Nat} {L st : List fd_V} {M : fd_M} {y} (h : fd_ex ph f d m i L st M = some y) : ∀ n, fd_ex ph (f + n) d m i L st M = some y
  | 0 => h
  | n + 1 => fd_fuel _ _ _ _ _ _ _ _ (fd_fuelN h n)
theorem fd_fuelL {ph : Bool} {f g d m i : Nat} {L st : List fd_V} {M : fd_M} {y} (hfg : f ≤ g) (h : fd_ex ph f d m i L st M = some y) : fd_ex ph g d m i L st M = some y := by
  rw [show g = f + (g - f) by omega]
  exact fd_fuelN h _
theorem fd_deep {ph : Bool} : ∀ (f d m i : Nat) (L st : List fd_V) (M : fd_M) (y), fd_ex ph f d m i L st M = some y → fd_ex ph f (d + 1) m i L st M = some y
  | 0, _, _, _, _, _, _, _, h => by rw [fd_ex] at h; cases h
  | f + 1, d, m, i, L, st, M, y, h => by
    obtain ⟨op, as, hi, h⟩ := fd_ex_succ h
    rcases h with ⟨h1, L1, st1, M1, h2, h3⟩ | ⟨h1, h2, j, st1, h3, h4⟩ | ⟨h1, h2, h3, r1, h4, rfl⟩ | ⟨h1, d', rfl, h2, r1, M1, h3, h4⟩
    · exact fd_x_nx hi h2 (fd_deep f _ _ _ _ _ _ _ h3)
    · exact fd_x_jmp hi h1 h2 h3 (fd_deep f _ _ _ _ _ _ _ h4)
    · exact fd_x_ret hi h1 h2 h3 h4
    · exact fd_x_call hi h1 h2 (fd_deep f _ _ _ _ _ _ _ h3) (fd_deep f _ _ _ _ _ _ _ h4)
theorem fd_deepL {ph : Bool} {f d d' m i : Nat} {L st : List fd_V} {M : fd_M} {y} (hd : d ≤ d') (h : fd_ex ph f d m i L st M = some y) : fd_ex ph f d' m i L st M = some y := by
  have key : ∀ n, fd_ex ph f (d + n) m i L st M = some y := fun n => by
    induction n with
    | zero => exact h
    | succ n ih => exact fd_deep _ _ _ _ _ _ _ _ ih
  have := key (d' - d)
  rwa [show d + (d' - d) = d' by omega] at this
/-- runs behind the constructors -/
def fd_run (d m i : Nat) (L st : List fd_V) (M : fd_M) (r : Option fd_V) (M' : fd_M) : Prop := ∃ f, fd_ex true f d m i L st M = some (r, M')
def fd_call (d m : Nat) (as : List fd_V) (M : fd_M) (r : Option fd_V) (M' : fd_M) : Prop := fd_run d m 0 (fd_pad m as) [] M r M'
theorem fd_callD {d d' m : Nat} {as : List fd_V} {M M' : fd_M} {r : Option fd_V} (h : fd_call d m as M r M') (hd : d ≤ d') : fd_call d' m as M r M' := ⟨h.choose, fd_deepL hd h.choose_spec⟩
/-- a row of instructions -/
def fd_bl : Nat → List fd_Ins → List fd_V → List fd_V → fd_M → fd_Rs
  | 0, _, ls, st, M => some (true, ls, st, M)
  | _ + 1, [], _, _, _ => none
  | n + 1, (op, as) :: is, ls, st, M => match fd_nx true op as ls st M with
    | some (b, ls', st', M') => match fd_bl n is ls' st' M' with
      | some (b2, r) => some (b && b2, r)
      | none => none
    | none => none
theorem fd_bl_ok {d m : Nat} {r : Option fd_V} {R : fd_M} : ∀ (n i : Nat) (L st L' st' : List fd_V) (M M' : fd_M), fd_bl n ((fd_code m).drop i) L st M = some (true, L', st', M') → fd_run d m (i + n) L' st' M' r R → fd_run d m i L st M r R
  | 0, i, L, st, L', st', M, M', h, k => by
    rw [fd_bl] at h
    cases h
    exact k
  | n + 1, i, L, st, L', st', M, M', h, k => by
    cases hd : (fd_code m).drop i with
    | nil => rw [hd, fd_bl] at h; cases h
    | cons I is =>
      obtain ⟨op, as⟩ := I
      have hi : (fd_code m)[i]? = some (op, as) := by
        have : ((fd_code m).drop i)[0]? = some (op, as) := by rw [hd]; rfl
        rw [List.getElem?_drop] at this
        simpa using this
      have hd2 : (fd_code m).drop (i + 1) = is := by
        rw [← List.drop_drop, hd]
        rfl
      rw [hd, fd_bl] at h
      cases hn : fd_nx true op as L st M with
      | none => rw [hn] at h; cases h
      | some y =>
        obtain ⟨b, L1, st1, M1⟩ := y
        rw [hn] at h
        dsimp only at h
        cases hb : fd_bl n is L1 st1 M1 with
        | none => rw [hb] at h; cases h
        | some z =>
          obtain ⟨b2, L2, st2, M2⟩ := z
          rw [hb] at h
          dsimp only at h
          injection h with h
          injection h with h1 h2
          rw [Bool.and_eq_true] at h1
          obtain ⟨rfl, rfl⟩ := h1
          injection h2 with h3 h4
          injection h4 with h5 h6
          subst h3
          subst h5
          subst h6
          obtain ⟨f, hf⟩ := fd_bl_ok n (i + 1) L1 st1 L2 st2 M1 M2 (by rw [hd2]; exact hb) (by rw [show i + 1 + n = i + (n + 1) by omega]; exact k)
          exact ⟨f + 1, fd_x_nx hi hn hf⟩
theorem fd_u_blk {d m i j : Nat} {C : List fd_Ins} {b : Bool} {L st L' st' : List fd_V} {M M' : fd_M} {r : Option fd_V} {R : fd_M} (n : Nat) (hC : fd_code m = C) (h : fd_bl n (C.drop i) L st M = some (b, L', st', M')) (hj : i + n = j) (hb : b = true) (k : fd_run d m j L' st' M' r R) : fd_run d m i L st M r R := by
  subst hb
  subst hC
  subst hj
  exact fd_bl_ok n i L st L' st' M M' h k
theorem fd_u_br {d m i t e op : Nat} {C : List fd_Ins} {as : List Int} {c : Prop} {dc : Decidable c} {b : Bool} {L st st' : List fd_V} {M : fd_M} {r : Option fd_V} {R : fd_M} (hC : fd_code m = C) (hi : C[i]? = some (op, as)) (hj : fd_jmp op as i st = some (b, @ite Nat c dc t e, st')) (hb : b = true) (kt : c → fd_run d m t L st' M r R) (kf : ¬ c → fd_run d m e L st' M r R) : fd_run d m i L st M r R := by
  subst hb
  subst hC
  have h1 : ¬ op < 100 ∧ (op < 114 ∨ op = 118) := by
    unfold fd_jmp at hj
    split at hj
    all_goals first | (cases hj; done) | omega
  by_cases hc : c
  · rw [if_pos hc] at hj
    obtain ⟨f, hf⟩ := kt hc
    exact ⟨f + 1, fd_x_jmp hi h1.1 h1.2 hj hf⟩
  · rw [if_neg hc] at hj
    obtain ⟨f, hf⟩ := kf hc
    exact ⟨f + 1, fd_x_jmp hi h1.1 h1.2 hj hf⟩
theorem fd_u_jmp {d m i j op : Nat} {C : List fd_Ins} {as : List Int} {b : Bool} {L st st' : List fd_V} {M : fd_M} {r : Option fd_V} {R : fd_M} (hC : fd_code m = C) (hi : C[i]? = some (op, as)) (hj : fd_jmp op as i st = some (b, j, st')) (hb : b = true) (k : fd_run d m j L st' M r R) : fd_run d m i L st M r R :=
  fd_u_br (c := True) (dc := instDecidableTrue) (t := j) (e := j) hC hi (by rw [hj, if_pos trivial]) hb (fun _ => k) (fun _ => k)
theorem fd_u_ret {d m i op : Nat} {C : List fd_Ins} {as : List Int} {b : Bool} {L st : List fd_V} {M : fd_M} {r r' : Option fd_V} {R : fd_M} (hC : fd_code m = C) (hi : C[i]? = some (op, as)) (h : fd_ret (fd_rk m) op st = some (b, r')) (hb : b = true) (hr : r' = r) (hM : M = R) : fd_run d m i L st M r R := by
  subst hb
  subst hC
  subst hr
  subst hM
  have h1 : ¬ op < 100 ∧ ¬ (op < 114 ∨ op = 118) ∧ op < 120 := by
    unfold fd_ret at h
    split at h
    all_goals first | (cases h; done) | omega
  exact ⟨1, fd_x_ret hi h1.1 h1.2.1 h1.2.2 h⟩
theorem fd_u_call {d d0 m i op mid np : Nat} {C : List fd_Ins} {as : List Int} {args L st st' : List fd_V} {M M1 : fd_M} {r r1 : Option fd_V} {R : fd_M} (hC : fd_code m = C) (hi : C[i]? = some (op, as)) (hop : Nat.ble 120 op = true) (hm : fd_n as 0 = mid) (hp : fd_n as 1 = np) (ha : (st.take np).reverse = args) (hinv : fd_inv true op mid np st M = true) (hc : fd_call d0 mid args M r1 M1) (hs : r1.toList ++ st.drop np = st') (hd : d0 < d) (k : fd_run d m (i + 1) L st' M1 r R) : fd_run d m i L st M r R := by
  subst hC
  subst hm
  subst hp
  subst ha
  subst hs
  obtain ⟨f, hf⟩ := hc
  obtain ⟨f2, hf2⟩ := k
  obtain ⟨d', rfl⟩ : ∃ d', d = d' + 1 := ⟨d - 1, by omega⟩
  exact ⟨max f f2 + 1, fd_x_call hi (by simpa using hop) hinv (fd_fuelL (Nat.le_max_left _ _) (fd_deepL (by omega) hf)) (fd_fuelL (Nat.le_max_right _ _) hf2)⟩
theorem fd_u_in {d m : Nat} {as L : List fd_V} {M : fd_M} {r : Option fd_V} {R : fd_M} (hL : fd_pad m as = L) (k : fd_run d m 0 L [] M r R) : fd_call d m as M r R := by
  subst hL
  exact k
theorem fd_bI {i n : Int} (h1 : 0 ≤ i) (h2 : i < n) : fd_inb i n = true := fd_inb_iff.mpr ⟨h1, h2⟩
theorem fd_bR {a : Int} (h1 : -2147483648 ≤ a) (h2 : a < 2147483648) : fd_rng a = true := fd_rng_iff.mpr ⟨h1, h2⟩
theorem fd_bA {a b : Bool} (h1 : a = true) (h2 : b = true) : (a && b) = true := by rw [h1, h2]; rfl
end
section
/-! the two constructors, run by the kernel -/
def fd_M0 : fd_M := fun _ _ => 0
def fd_Ma : fd_M := fd_nw fd_M0 (fd_dfl 0)
def fd_isN (x : Option (Option fd_V × fd_M)) : Bool := match x with
  | some (none, _) => true
  | _ => false
def fd_getM (x : Option (Option fd_V × fd_M)) : fd_M := match x with
  | some (_, M) => M
  | none => fd_M0
theorem fd_isN_eq {x : Option (Option fd_V × fd_M)} (h : fd_isN x = true) : x = some (none, fd_getM x) := by
  unfold fd_isN at h
  split at h
  · rfl
  · cases h
def fd_run1 : Option (Option fd_V × fd_M) := fd_ex false 400 20 0 0 (fd_pad 0 [fd_R 0]) [] fd_Ma
def fd_Mb : fd_M := fd_getM fd_run1
def fd_Mb' : fd_M := fd_nw fd_Mb (fd_dfl 10)
def fd_run2 : Option (Option fd_V × fd_M) := fd_ex false 3000 20 51 0 (fd_pad 51 [fd_R 199]) [] fd_Mb'
def fd_Mc : fd_M := fd_getM fd_run2
theorem fd_ctor1 : fd_isN fd_run1 = true ∧ fd_Mb 5000 0 = 199 := by decide +kernel
theorem fd_ctor2 : fd_isN fd_run2 = true ∧ fd_Mc 5000 0 = 213 := by decide +kernel
def fd_rfOk (M : fd_M) (c : Nat) : Bool := (List.range (fd_SH c).2).all (fun k => match fd_RF c k with
  | some r => decide (M c k = r)
  | none => true)
theorem fd_ctor_rf : (List.range 213).all (fd_rfOk fd_Mc) = true := by decide +kernel
theorem fd_ce_ph {g : fd_G} {M : fd_M} {c : Nat} (h : fd_rfOk M c = true) : fd_ce g false M c = fd_ce g true M c := by
  unfold fd_ce
  split
  · congr 2
    apply List.map_congr_left
    intro k hk
    have h1 := List.all_eq_true.mp h k hk
    unfold fd_fv fd_gf
    split
    · rfl
    · have : fd_rf false M c k = fd_rf true M c k := by
        unfold fd_rf
        simp only [cond_true, cond_false]
        cases hr : fd_RF c k with
        | none => rfl
        | some r =>
          rw [hr] at h1
          have h2 : M c k = r := of_decide_eq_true h1
          dsimp only
          rw [h2]
          rfl
      rw [this]
    · rfl
  · rfl
theorem fd_hp_ph {g : fd_G} {M : fd_M} {H : Heap} (hH : fd_hp g false M H) (hap : M 5000 0 = 213) (hrf : (List.range 213).all (fd_rfOk M) = true) : fd_hp g true M H := by
  have e : fd_ap M = 213 := by show Int.toNat _ = _; rw [hap]; rfl
  refine ⟨fun h => (by cases h), hH.2.1, hH.2.2.1, fun _ => e, ?_⟩
  have hP := hH.2.2.2.2
  rw [e] at hP ⊢
  have : fd_ws g true M 213 = fd_ws g false M 213 := by
    unfold fd_ws
    apply List.map_congr_left
    intro c hc
    rw [fd_ce_ph (List.all_eq_true.mp hrf c hc)]
  rw [this]
  exact hP
end
section
/-! THE CLAIM OUT OF ONE WALK OF THE LAW'S BODY. Your part is whole_start (and what it stands on); all else here is the same for every law, but numbers. -/
def R_law : String := "FacingDoorsLaw"
def lw_P (b : Addr) (xs : List Int32) (args : Array Value) (s : State) : Prop := args = #[.ref b] ∧ s.IntsAt b xs ∧ xs.length ≤ 256 ∧ (Jvm.Cond.and given_1 narrow_1).before args s = true
def lw_Q (_ : Array Value) (s : State) (o : Outcome) (t : State) : Prop := o = .returned (some (.int 1)) ∧ Framed s o t [] 600000 7302250
def lw_Z (below : List Frame) (a : Array Value) (s : State) : State → Prop := fun t => ∃ o, t.status = .running ∧ Ended t below o ∧ lw_Q a s o t
/-- the law's own end, with 1 on the stack, nothing written that was there before, its room as the claim has it -/
theorem lw_ret {p : Program} {l : Launch} {e : Env} {s : State} {m : MethodId} {below : List Frame} {meth : Method} {c : Code} {b : Nat} (hx : p.tables.exec = Jvm.exec) (hb : c.code = code) (hr : meth.sig.returnType = ret) (hlocks : meth.locks = false) {pc : Nat} {H : Heap} {ls : Array Slot} (hdg : decode code pc = .ok (.ireturn, 1)) : W p l e room_1 s m #[Value.ref b] below meth c H [] 600000 7302250 (lw_Z below #[Value.ref b] s) (F0 m pc ls [.int 1]) := by
  intro T hT X
  obtain ⟨fs, hret, hrun, hended, hW, hframe⟩ := X.leave (v := some (.int 1)) (hlocks := hlocks) (fun h => by rw [hr] at h; cases h)
  have hmeth' : T.vm.method? m = some meth := X.method'
  refine ⟨T.setFrames fs, ?_, .returned (some (.int 1)), hrun, hended, rfl, ⟨_, rfl⟩, hW, hframe⟩
  jvm_step X.here [X.here.top, hx, hb, hdg, hmeth', hr, ret, narrow_b1]
  (try refine ⟨rfl, ?_⟩); (try refine ⟨rfl, ?_⟩)
  first | (intro acts; rw [hret _ acts rfl rfl rfl]) | rw [hret _ _ rfl rfl rfl]
  exact Steps.refl _
/-- what holds at the law's entry: the machine, the code, the tables' words (any of lw_tbl by 'hts w (by decide +kernel)'), the script of L ints xs at the cell b, what the Statement gives of the start (any of its parts by flat_of_before) -/
def lw_At (p : Program) (s : State) (m : MethodId) (meth : Method) (c : Code) (b L : Nat) (xs : Nat → Int32) : Prop :=
  p.tables.exec = Jvm.exec ∧ c.code = code ∧ meth.sig.returnType = ret ∧ c.maxLocals = 4 ∧ s.vm.findClass R_law = some m.cls ∧ (∀ w ∈ lw_tbl, w.before #[Value.ref b] s = true) ∧ va_X b L xs s s.heap ∧ b < s.heap.size ∧ meth.locks = false ∧ (Jvm.Cond.and given_1 narrow_1).before #[Value.ref b] s = true
/-! behind the constructors nothing is made -/
theorem fd_nx_same {own : String} {b : ByteArray} {ini : Bool} {pcs : List Nat} {pc nx op : Nat} {as : List Int} {L L' st st' : List fd_V} {M M' : fd_M} (hok : fd_okI own b ini pcs pc nx op as = true) (hn : fd_nx true op as L st M = some (true, L', st', M')) : M' 5000 0 = M 5000 0 := by
  match op, hok, hn with
  | 0, hok, hn => obtain ⟨-, -, -, rfl⟩ := fd_some4 hn; rfl
  | 1, hok, hn => obtain ⟨_, _, hn⟩ := fd_lI_inv hn; obtain ⟨-, -, -, rfl⟩ := fd_some4 hn; rfl
  | 2, hok, hn => obtain ⟨_, _, hn⟩ := fd_lR_inv hn; obtain ⟨-, -, -, rfl⟩ := fd_some4 hn; rfl
  | 3, hok, hn => obtain ⟨v1, r1, rfl, hn1⟩ := fd_pI_inv hn; obtain ⟨-, -, -, rfl⟩ := fd_some4 hn1; rfl
  | 4, hok, hn => obtain ⟨v1, r1, rfl, hn1⟩ := fd_pR_inv hn; obtain ⟨-, -, -, rfl⟩ := fd_some4 hn1; rfl
  | 5, hok, hn => obtain ⟨_, _, hn⟩ := fd_lI_inv hn; obtain ⟨-, -, -, rfl⟩ := fd_some4 hn; rfl
  | 6, hok, hn => obtain ⟨v1, r1, rfl, hn1⟩ := fd_pI_inv hn; obtain ⟨v2, r2, rfl, hn2⟩ := fd_pI_inv hn1; obtain ⟨-, -, -, rfl⟩ := fd_some4 hn2; rfl
  | 7, hok, hn => obtain ⟨v1, r1, rfl, hn1⟩ := fd_pI_inv hn; obtain ⟨v2, r2, rfl, hn2⟩ := fd_pI_inv hn1; obtain ⟨-, -, -, rfl⟩ := fd_some4 hn2; rfl
  | 8, hok, hn => obtain ⟨v1, r1, rfl, hn1⟩ := fd_pI_inv hn; obtain ⟨v2, r2, rfl, hn2⟩ := fd_pI_inv hn1; obtain ⟨-, -, -, rfl⟩ := fd_some4 hn2; rfl
  | 9, hok, hn => obtain ⟨v1, r1, rfl, hn1⟩ := fd_pI_inv hn; obtain ⟨v2, r2, rfl, hn2⟩ := fd_pI_inv hn1; obtain ⟨-, -, -, rfl⟩ := fd_some4 hn2; rfl
  | 10, hok, hn => obtain ⟨v1, r1, rfl, hn1⟩ := fd_pI_inv hn; obtain ⟨v2, r2, rfl, hn2⟩ := fd_pI_inv hn1; obtain ⟨-, -, -, rfl⟩ := fd_some4 hn2; rfl
  | 11, hok, hn => obtain ⟨v1, r1, rfl, hn1⟩ := fd_pI_inv hn; obtain ⟨v2, r2, rfl, hn2⟩ := fd_pI_inv hn1; obtain ⟨-, -, -, rfl⟩ := fd_some4 hn2; rfl
  | 12, hok, hn => obtain ⟨v1, r1, rfl, hn1⟩ := fd_pI_inv hn; obtain ⟨v2, r2, rfl, hn2⟩ := fd_pI_inv hn1; obtain ⟨-, -, -, rfl⟩ := fd_some4 hn2; rfl
  | 13, hok, hn => obtain ⟨v1, r1, rfl, hn1⟩ := fd_pI_inv hn; obtain ⟨v2, r2, rfl, hn2⟩ := fd_pI_inv hn1; obtain ⟨-, -, -, rfl⟩ := fd_some4 hn2; rfl
  | 14, hok, hn => obtain ⟨v1, r1, rfl, hn1⟩ := fd_pI_inv hn; obtain ⟨v2, r2, rfl, hn2⟩ := fd_pI_inv hn1; obtain ⟨-, -, -, rfl⟩ := fd_some4 hn2; rfl
  | 15, hok, hn => obtain ⟨v1, r1, rfl, hn1⟩ := fd_pI_inv hn; obtain ⟨v2, r2, rfl, hn2⟩ := fd_pI_inv hn1; obtain ⟨-, -, -, rfl⟩ := fd_some4 hn2; rfl
  | 16, hok, hn => obtain ⟨v1, r1, rfl, hn1⟩ := fd_pI_inv hn; obtain ⟨v2, r2, rfl, hn2⟩ := fd_pI_inv hn1; obtain ⟨-, -, -, rfl⟩ := fd_some4 hn2; rfl
  | 17, hok, hn => obtain ⟨-, -, -, rfl⟩ := fd_some4 hn; rfl
  | 18, hok, hn => obtain ⟨v1, r1, rfl, hn1⟩ := fd_pJ_inv hn; obtain ⟨v2, r2, rfl, hn2⟩ := fd_pJ_inv hn1; obtain ⟨-, -, -, rfl⟩ := fd_some4 hn2; rfl
  | 19, hok, hn => obtain ⟨v1, r1, rfl, hn1⟩ := fd_pJ_inv hn; obtain ⟨v2, r2, rfl, hn2⟩ := fd_pJ_inv hn1; obtain ⟨-, -, -, rfl⟩ := fd_some4 hn2; rfl
  | 20, hok, hn => obtain ⟨v1, r1, rfl, hn1⟩ := fd_pJ_inv hn; obtain ⟨v2, r2, rfl, hn2⟩ := fd_pJ_inv hn1; obtain ⟨-, -, -, rfl⟩ := fd_some4 hn2; rfl
  | 21, hok, hn => obtain ⟨v1, r1, rfl, hn1⟩ := fd_pI_inv hn; obtain ⟨v2, r2, rfl, hn2⟩ := fd_pJ_inv hn1; obtain ⟨-, -, -, rfl⟩ := fd_some4 hn2; rfl
  | 22, hok, hn => obtain ⟨v1, r1, rfl, hn1⟩ := fd_pJ_inv hn; obtain ⟨v2, r2, rfl, hn2⟩ := fd_pJ_inv hn1; obtain ⟨-, -, -, rfl⟩ := fd_some4 hn2; rfl
  | 23, hok, hn => obtain ⟨v1, r1, rfl, hn1⟩ := fd_pI_inv hn; obtain ⟨-, -, -, rfl⟩ := fd_some4 hn1; rfl
  | 24, hok, hn =>
    rcases st with _ | ⟨⟨a⟩ | ⟨a⟩ | ⟨a⟩, r⟩
    · cases hn
    · obtain ⟨-, -, -, rfl⟩ := fd_some4 hn; rfl
    · cases hn
    · obtain ⟨-, -, -, rfl⟩ := fd_some4 hn; rfl
  | 25, hok, hn => obtain ⟨v1, r1, rfl, hn1⟩ := fd_pI_inv hn; obtain ⟨v2, r2, rfl, hn2⟩ := fd_pR_inv hn1; obtain ⟨-, -, -, rfl⟩ := fd_some4 hn2; rfl
  | 26, hok, hn => obtain ⟨v1, r1, rfl, hn1⟩ := fd_pI_inv hn; obtain ⟨-, -, -, rfl⟩ := fd_some4 hn1; rfl
  | 27, hok, hn => obtain ⟨v1, r1, rfl, hn1⟩ := fd_pR_inv hn; obtain ⟨-, -, -, rfl⟩ := fd_some4 hn1; rfl
  | 28, hok, hn =>
    rw [fd_okI, Bool.and_eq_true, Bool.and_eq_true] at hok
    obtain ⟨hci, -, -, -⟩ := fd_okF_inv hok.2.1
    have hn : fd_put true (fd_n as 0) (fd_n as 1) (fd_n as 2) L st M = some (true, L', st', M') := hn
    unfold fd_put at hn
    split at hn
    · obtain ⟨_, _, rfl, hn1⟩ := fd_pI_inv hn; obtain ⟨_, _, rfl, hn2⟩ := fd_pR_inv hn1; obtain ⟨hg, -, -, rfl⟩ := fd_some4 hn2; exact fd_up_ap (fd_sh_at (by rw [(fd_isO_inv hg).1]; omega)).1
    · obtain ⟨_, _, rfl, hn1⟩ := fd_pJ_inv hn; obtain ⟨_, _, rfl, hn2⟩ := fd_pR_inv hn1; obtain ⟨hg, -, -, rfl⟩ := fd_some4 hn2; exact fd_up_ap (fd_sh_at (by rw [(fd_isO_inv hg).1]; omega)).1
    · obtain ⟨_, _, rfl, hn1⟩ := fd_pR_inv hn; obtain ⟨_, _, rfl, hn2⟩ := fd_pR_inv hn1; obtain ⟨hg, -, -, rfl⟩ := fd_some4 hn2
      cases hg
    · obtain ⟨_, _, rfl, hn1⟩ := fd_pI_inv hn; obtain ⟨_, _, rfl, hn2⟩ := fd_pR_inv hn1; obtain ⟨hg, -, -, rfl⟩ := fd_some4 hn2
      rw [Bool.and_eq_true] at hg
      exact fd_up_ap (fd_sh_at (by rw [(fd_isO_inv hg.1).1]; omega)).1
    · cases hn
  | 29, hok, hn => obtain ⟨-, -, -, rfl⟩ := fd_some4 hn; rfl
  | 30, hok, hn => obtain ⟨v1, r1, rfl, hn1⟩ := fd_pI_inv hn; obtain ⟨v2, r2, rfl, hn2⟩ := fd_pR_inv hn1; obtain ⟨-, -, -, rfl⟩ := fd_some4 hn2; rfl
  | 31, hok, hn => obtain ⟨v1, r1, rfl, hn1⟩ := fd_pI_inv hn; obtain ⟨v2, r2, rfl, hn2⟩ := fd_pI_inv hn1; obtain ⟨v3, r3, rfl, hn3⟩ := fd_pR_inv hn2; obtain ⟨hg, -, -, rfl⟩ := fd_some4 hn3; exact fd_up_ap (fd_sh_at (by rw [(fd_isA_inv hg).1]; decide)).1
  | 32, hok, hn => obtain ⟨v1, r1, rfl, hn1⟩ := fd_pI_inv hn; obtain ⟨v2, r2, rfl, hn2⟩ := fd_pR_inv hn1; obtain ⟨-, -, -, rfl⟩ := fd_some4 hn2; rfl
  | 33, hok, hn =>
    obtain ⟨v1, r1, rfl, hn1⟩ := fd_pI_inv hn; obtain ⟨v2, r2, rfl, hn2⟩ := fd_pI_inv hn1; obtain ⟨v3, r3, rfl, hn3⟩ := fd_pR_inv hn2; obtain ⟨hg, -, -, rfl⟩ := fd_some4 hn3
    rw [Bool.or_eq_true, Bool.and_eq_true, Bool.and_eq_true] at hg
    rcases hg with hg | hg <;> exact fd_up_ap (fd_sh_at (by rw [(fd_isA_inv hg.1).1]; decide)).1
  | 34, hok, hn => obtain ⟨v1, r1, rfl, hn1⟩ := fd_pI_inv hn; obtain ⟨v2, r2, rfl, hn2⟩ := fd_pR_inv hn1; obtain ⟨-, -, -, rfl⟩ := fd_some4 hn2; rfl
  | 35, hok, hn =>
    obtain ⟨v1, r1, rfl, hn1⟩ := fd_pR_inv hn; obtain ⟨v2, r2, rfl, hn2⟩ := fd_pI_inv hn1; obtain ⟨v3, r3, rfl, hn3⟩ := fd_pR_inv hn2; obtain ⟨hg, -, -, rfl⟩ := fd_some4 hn3
    rw [Bool.or_eq_true, Bool.and_eq_true, Bool.and_eq_true] at hg
    rcases hg with hg | hg <;> exact fd_up_ap (fd_sh_at (by rw [(fd_isA_inv hg.1).1]; decide)).1
  | 36, hok, hn => obtain ⟨v1, r1, rfl, hn1⟩ := fd_pR_inv hn; obtain ⟨-, -, -, rfl⟩ := fd_some4 hn1; rfl
  | 37, hok, hn =>
    obtain ⟨hg, -, -, rfl⟩ := fd_some4 hn
    cases hg
  | 38, hok, hn =>
    obtain ⟨v1, r1, rfl, hn1⟩ := fd_pI_inv hn; obtain ⟨hg, -, -, rfl⟩ := fd_some4 hn1
    cases hg
  | 39, hok, hn =>
    obtain ⟨v1, r1, rfl, hn1⟩ := fd_pI_inv hn; obtain ⟨hg, -, -, rfl⟩ := fd_some4 hn1
    cases hg
  | 40, hok, hn =>
    obtain ⟨v1, r1, rfl, hn1⟩ := fd_pI_inv hn; obtain ⟨v2, r2, rfl, hn2⟩ := fd_pI_inv hn1; obtain ⟨v3, r3, rfl, hn3⟩ := fd_pR_inv hn2; obtain ⟨v4, r4, rfl, hn4⟩ := fd_pI_inv hn3; obtain ⟨v5, r5, rfl, hn5⟩ := fd_pR_inv hn4; obtain ⟨hg, -, -, rfl⟩ := fd_some4 hn5
    rw [Bool.and_eq_true, Bool.and_eq_true, Bool.and_eq_true, Bool.and_eq_true, Bool.and_eq_true] at hg
    have hs2 := Nat.eq_of_beq_eq_true hg.1.2.1
    have h2 := (fd_sh_at (c := v3) (by omega)).1
    simp [fd_cp, show ¬ 5000 = v3 by omega]
  | 41, hok, hn => obtain ⟨v1, r1, rfl, hn1⟩ := fd_pJ_inv hn; obtain ⟨-, -, -, rfl⟩ := fd_some4 hn1; rfl
  | 42, hok, hn => obtain ⟨v1, r1, rfl, hn1⟩ := fd_pR_inv hn; obtain ⟨-, -, -, rfl⟩ := fd_some4 hn1; rfl
  | 43, hok, hn => obtain ⟨v1, r1, rfl, hn1⟩ := fd_pI_inv hn; obtain ⟨v2, r2, rfl, hn2⟩ := fd_pR_inv hn1; obtain ⟨-, -, -, rfl⟩ := fd_some4 hn2; rfl
  | 44, hok, hn => obtain ⟨v1, r1, rfl, hn1⟩ := fd_pI_inv hn; obtain ⟨v2, r2, rfl, hn2⟩ := fd_pI_inv hn1; obtain ⟨-, -, -, rfl⟩ := fd_some4 hn2; rfl
  | n + 45, hok, hn => cases hn
theorem fd_stay : ∀ (f d mm i : Nat) (L st : List fd_V) (M : fd_M) (r : Option fd_V) (M' : fd_M), mm < 177 → fd_ex true f d mm i L st M = some (r, M') → M' 5000 0 = M 5000 0
  | 0, _, _, _, _, _, _, _, _, _, h => by rw [fd_ex] at h; cases h
  | f + 1, d, mm, i, L, st, M, r, M', hm, h => by
    obtain ⟨op, as, hi, h⟩ := fd_ex_succ h
    obtain ⟨pc, hpc, hok⟩ := fd_ok_at hm hi
    rcases h with ⟨h1, L1, st1, M1, h2, h3⟩ | ⟨h1, h2, j, st1, h3, h4⟩ | ⟨h1, h2, h3, r1, h4, h5⟩ | ⟨h1, d', rfl, h2, r1, M1, h3, h4⟩
    · rw [fd_stay f _ _ _ _ _ _ _ _ hm h3, fd_nx_same hok h2]
    · exact fd_stay f _ _ _ _ _ _ _ _ hm h4
    · cases h5
      rfl
    · rw [fd_stay f _ _ _ _ _ _ _ _ hm h4, fd_stay f _ _ _ _ _ _ _ _ (fd_mid_lt hok h1) h3]
/-! what the law's start knows -/
theorem fd_known {s : State} {b : Nat} (hts : ∀ w ∈ lw_tbl, w.before #[Value.ref b] s = true) (hgv : (Jvm.Cond.and given_1 narrow_1).before #[Value.ref b] s = true) : ∃ g : fd_G, g.1 = s.heap.size ∧ fd_Kn g s s.heap := by
  have hk : ∀ ci : Nat, ∃ q : ClassId × (Nat → Nat), ci < 11 → u_Kn s (fd_clD ci).1 (fd_clD ci).2.1 (fd_clD ci).2.2 q.1 q.2 := by
    intro ci
    by_cases h : ci < 11
    · obtain ⟨h1, h2, -, -, -⟩ := fd_cl_at h
      obtain ⟨cC, iS, hq⟩ := u_known (ws := lw_tbl) hts (fun w hw => (List.mem_filter.mp (h1 w hw)).1) (hts _ (List.mem_filter.mp h2).1)
      exact ⟨(cC, iS), fun _ => hq⟩
    · exact ⟨(0, fun _ => 0), fun q => absurd q h⟩
  obtain ⟨F, hF⟩ := Classical.axiomOfChoice hk
  obtain ⟨w1, w2, w3, w4, w5, -⟩ := of_decide_eq_true fd_okX_ok
  obtain ⟨a0, k0, p0, x0, y0, z0⟩ := Cond.arrayClass_spec (hts _ w1)
  obtain ⟨a1, k1, p1, x1, y1, z1⟩ := Cond.arrayClass_spec (hts _ w2)
  obtain ⟨a2, k2, p2, x2, y2, z2⟩ := Cond.arrayClass_spec (hts _ w3)
  obtain ⟨p3, a3, k3, n3, -, y3, z3, x3⟩ := Cond.arrayOver_spec (hts _ w4)
  obtain ⟨p4, a4, k4, n4, -, y4, z4, x4⟩ := Cond.arrayOver_spec (hts _ w5)
  have hs := flat_of_before _ hgv
  have hA : ∀ a : Nat, a < s.heap.size → ¬ s.heap.size ≤ a := fun a h => Nat.not_le.mpr h
  obtain ⟨tX, eX, TX⟩ := va_Tof (A := fun q => s.heap.size ≤ q) (args := #[Value.ref b]) (s := s) (tm := .static "FacingDoors" "STEP_X" "[I") (ty := .int) (N := 4) (f := fun j => .int (Int32.ofInt (fd_sx j))) (by decide) (hs _ (by decide +kernel)) (va_eqt (hs _ (by decide +kernel))) (fun j hj => by
    have h4 : j = 0 ∨ j = 1 ∨ j = 2 ∨ j = 3 := by omega
    rcases h4 with rfl | rfl | rfl | rfl
    · exact va_eqt (z := 0) (hs (.eq (.elem (.static "FacingDoors" "STEP_X" "[I") (.int 0)) (.int 0)) (by decide +kernel))
    · exact va_eqt (z := 1) (hs (.eq (.elem (.static "FacingDoors" "STEP_X" "[I") (.int 1)) (.int 1)) (by decide +kernel))
    · exact va_eqt (z := 0) (hs (.eq (.elem (.static "FacingDoors" "STEP_X" "[I") (.int 2)) (.int 0)) (by decide +kernel))
    · exact va_eqt (z := -1) (hs (.eq (.elem (.static "FacingDoors" "STEP_X" "[I") (.int 3)) (.int (-1))) (by decide +kernel))) hA
  obtain ⟨tY, eY, TY⟩ := va_Tof (A := fun q => s.heap.size ≤ q) (args := #[Value.ref b]) (s := s) (tm := .static "FacingDoors" "STEP_Y" "[I") (ty := .int) (N := 4) (f := fun j => .int (Int32.ofInt (fd_sy j))) (by decide) (hs _ (by decide +kernel)) (va_eqt (hs _ (by decide +kernel))) (fun j hj => by
    have h4 : j = 0 ∨ j = 1 ∨ j = 2 ∨ j = 3 := by omega
    rcases h4 with rfl | rfl | rfl | rfl
    · exact va_eqt (z := -1) (hs (.eq (.elem (.static "FacingDoors" "STEP_Y" "[I") (.int 0)) (.int (-1))) (by decide +kernel))
    · exact va_eqt (z := 0) (hs (.eq (.elem (.static "FacingDoors" "STEP_Y" "[I") (.int 1)) (.int 0)) (by decide +kernel))
    · exact va_eqt (z := 1) (hs (.eq (.elem (.static "FacingDoors" "STEP_Y" "[I") (.int 2)) (.int 1)) (by decide +kernel))
    · exact va_eqt (z := 0) (hs (.eq (.elem (.static "FacingDoors" "STEP_Y" "[I") (.int 3)) (.int 0)) (by decide +kernel))) hA
  have hini := hts (.initialized "FacingDoors") (List.mem_of_getElem? (i := 93) (by decide +kernel))
  have ZX := va_Zof (A := fun q => s.heap.size ≤ q) (hts (.laysStatic "FacingDoors" "STEP_X" "[I") (by decide +kernel)) hini eX hA
  have ZY := va_Zof (A := fun q => s.heap.size ≤ q) (hts (.laysStatic "FacingDoors" "STEP_Y" "[I") (by decide +kernel)) hini eY hA
  refine ⟨(s.heap.size, tX, tY, (fun ci => (F ci).1, fun ci => (F ci).2), fun k => match k with | 20 => a0 | 21 => a1 | 22 => a2 | 23 => a3 | _ => a4), rfl, ⟨fun ci q hq => ?_, fun k q hq => ?_⟩, fun w hw => ?_, ZX, TX, ZY, TY⟩
  · have hc : ci < 11 := (List.getElem?_eq_some_iff.mp hq).1
    rw [fd_clD_get hc] at hq
    cases hq
    exact hF ci hc
  · have hc : k < 5 := (List.getElem?_eq_some_iff.mp hq).1
    have h5 : k = 0 ∨ k = 1 ∨ k = 2 ∨ k = 3 ∨ k = 4 := by omega
    rcases h5 with rfl | rfl | rfl | rfl | rfl
    · cases hq
      exact ⟨fun n z => ⟨fun k h => (by cases h), k0, y0, p0, z0⟩, x0⟩
    · cases hq
      exact ⟨fun n z => ⟨fun k h => (by cases h), k1, y1, p1, z1⟩, x1⟩
    · cases hq
      exact ⟨fun n z => ⟨fun k h => (by cases h), k2, y2, p2, z2⟩, x2⟩
    · cases hq
      exact ⟨fun n z => ⟨fun k h => (by cases h), k3, y3, p3, z3⟩, k3, p3, y3, z3, n3, x3⟩
    · cases hq
      exact ⟨fun n z => ⟨fun k h => (by cases h), k4, y4, p4, z4⟩, k4, p4, y4, z4, n4, x4⟩
  · obtain ⟨h1, h2⟩ := List.mem_filter.mp hw
    have h3 := hts w h1
    clear hw
    cases w <;> first | exact va_Nw.of rfl h3 | skip
    case arrayOver t =>
      cases t with
      | object C => exact va_AO.of h3
      | _ => cases h2
    all_goals cases h2
end
section
/-- one call of both: the answers are the same -/
def fd_op (Rel : fd_M → Prop) (mx mr n : Nat) : Prop := ∀ M, Rel M → ∀ as : List Int, as.length = n → (∀ a ∈ as, -2147483648 ≤ a ∧ a < 2147483648) → ∃ r M1 M2, fd_call 40 mx (fd_R 0 :: as.map fd_I) M (some (fd_I r)) M1 ∧ fd_call 40 mr (fd_R 199 :: as.map fd_I) M1 (some (fd_I r)) M2 ∧ Rel M2
def fd_opJ (Rel : fd_M → Prop) (mx mr : Nat) : Prop := ∀ M, Rel M → ∃ r M1 M2, fd_call 40 mx [fd_R 0] M (some (fd_J r)) M1 ∧ fd_call 40 mr [fd_R 199] M1 (some (fd_J r)) M2 ∧ Rel M2
def fd_OpsOk (Rel : fd_M → Prop) : Prop :=
  fd_op Rel 1 53 1 ∧ fd_op Rel 2 54 0 ∧ fd_op Rel 3 65 0 ∧ fd_op Rel 4 70 2 ∧ fd_op Rel 5 80 2 ∧ fd_op Rel 6 83 2 ∧ fd_op Rel 7 84 2 ∧ fd_op Rel 8 85 2 ∧ fd_op Rel 9 87 3 ∧ fd_op Rel 10 89 1 ∧ fd_op Rel 11 90 1 ∧ fd_op Rel 12 91 0 ∧ fd_op Rel 13 92 0 ∧ fd_op Rel 14 94 1 ∧ fd_op Rel 15 97 1 ∧ fd_op Rel 16 98 0 ∧ fd_op Rel 17 99 1 ∧ fd_op Rel 18 100 2 ∧ fd_op Rel 19 101 0 ∧ fd_op Rel 20 102 1 ∧ fd_op Rel 21 105 3 ∧ fd_op Rel 22 106 2 ∧ fd_op Rel 23 107 2 ∧ fd_op Rel 24 108 1 ∧ fd_op Rel 25 109 1 ∧ fd_op Rel 26 110 1 ∧ fd_opJ Rel 27 111
section fdLaw
variable {g : fd_G} {p : Program} {l : Launch} {e : Env} {s : State} {m : MethodId} {below : List Frame} {meth : Method} {c : Code} {b L : Nat} {xs : Nat → Int32} {H : Heap} {locs : List Loc} {cells slots : Nat} {Q : State → Prop} {la : Array Slot} {M M1 : fd_M} {mid a idx pc i : Nat} {tl : List fd_V} {r1 : fd_V} {rest : List Value} {Rel : fd_M → Prop}
abbrev fd_lq (mid a n idx : Nat) : Prop := mid < 177 ∧ fd_sk mid = 1 ∧ fd_mc mid < 11 ∧ (fd_clD (fd_mc mid)).1 = (fd_y mid).cls ∧ fd_np mid = some n ∧ (fd_SH a).1 = fd_mc mid ∧ n + 1 ≤ fd_mL mid ∧ a < 213 ∧ Jvm.Cond.methodLink R_law idx (fd_y mid) ∈ lw_tbl
theorem fd_lawCall (C0 : lw_At p s m meth c b L xs) (hKn : fd_Kn g s s.heap) (hbs : g.1 ≤ s.heap.size) (hq : fd_lq mid a tl.length idx) (hn1 : ∀ v ∈ tl, fd_n1 v = true) (hc : fd_call 40 mid (fd_R a :: tl) M (some r1) M1) (hd : decode code pc = .ok (.invokevirtual idx, 3)) (hH : fd_hp g true M H) (hS : va_S (fd_A g) s.heap H locs) (hls : la.size = 4) (hrest : (rest.map fun v => v.category).sum ≤ 8) (hcs : cells ≤ 1000 ∧ slots ≤ 11000)
    (kk : ∀ (H1 : Heap) (l1 : List Loc), fd_hp g true M1 H1 → va_S (fd_A g) s.heap H1 l1 → W p l e room_1 s m #[Value.ref b] below meth c H1 l1 cells slots Q (F0 m (pc + 3) la (fd_cv g r1 :: rest))) :
    W p l e room_1 s m #[Value.ref b] below meth c H locs cells slots Q (F0 m pc la ((tl.map (fd_cv g)).reverse ++ .ref (g.1 + a) :: rest)) := by
  obtain ⟨hx, hb, hr, hml, hown, hts, hX, hbl, hlocks, hgv⟩ := C0
  obtain ⟨hmid, hsk, hmc, hcls, hnp, hsh, hlen, ha, hlink⟩ := hq
  obtain ⟨f, hf⟩ := hc
  have hst := fd_stay f 40 mid 0 _ _ M _ M1 hmid hf
  have e1 : fd_ap M1 = fd_ap M := by show Int.toNat _ = _; rw [hst]
  have hM := fd_met (g := g) (l := l) hmid (by rw [List.length_cons]; exact hlen) (fun v hv => by
    rcases List.mem_cons.mp hv with rfl | hv
    · show Nat.blt a 1000 = true
      simp; omega
    · exact hn1 v hv) hf
  rw [e1, Nat.sub_self, Nat.sub_self] at hM
  obtain ⟨⟨hcode, hinit⟩, -, hsk1, -, ⟨hy1, hy2, -, -⟩, hmL⟩ := fd_okM_inv hmid
  have hts2 : ∀ w ∈ fd_tbl, w.before #[Value.ref b] s = true := fun w hw => hts w (List.mem_filter.mp hw).1
  have hG : GoodIn lw_tbl (.code (fd_y mid) (fd_b mid) (fd_mL mid) (fd_r mid) :: fd_gtbl) := fun w hw => by
    obtain ⟨q1, q2⟩ := fd_goodIn hcode w hw
    exact ⟨(List.mem_filter.mp q1).1, q2⟩
  have hap := hH.2.2.2.1 rfl
  have hce := fd_ws_get (g := g) (ph := true) (M := M) (n := fd_ap M) (c := a) (by rw [hap]; exact ha)
  rw [fd_ce_obj hsh (by omega)] at hce
  have hcell := va_recv hKn.1 hH.2.2.2.2 (fd_clD_get hmc) hce
  rw [hcls] at hcell
  have hargv : (List.map (fd_cv g) (fd_R a :: tl)) = .ref (g.1 + a) :: tl.map (fd_cv g) := by
    rw [List.map_cons, show fd_cv g (fd_R a) = .ref (g.1 + a) from fd_rv_lt (by omega)]
  have hpre : ∀ U : State, U.heap = H → s.WarmedH U.vm → fd_Pc g true (fd_R a :: tl) M (Value.ref (g.1 + a) :: tl.map (fd_cv g)).toArray U := fun U hU hW =>
    ⟨by rw [hargv], by rw [hU]; exact hH, fd_Kn_moved hW (fun q h1 h2 => by rw [hU]; exact hS.2.1 q h1 h2) hKn, by rw [hU]; exact Nat.le_trans hbs hS.1⟩
  have hrun : va_Run p l e room_1 s m #[Value.ref b] below meth c H locs cells slots 0 0 (F0 m pc la ((tl.map (fd_cv g)).reverse ++ .ref (g.1 + a) :: rest)) rest (fd_Qc g true (some r1) M1 (Value.ref (g.1 + a) :: tl.map (fd_cv g)).toArray) (fd_A g) :=
    va_runV ⟨hx, hb, hml, hown, hts⟩ hM ⟨callB_of tl.length hts hG rfl rfl rfl (hts2 _ hinit) (hts _ hlink) ⟨hy1, hy2, hnp⟩ ⟨by decide, Nat.le_trans (fd_arith _ 40 hmL) (by decide)⟩, hts2 _ (hsk1 hsk).1, hts2 _ (hsk1 hsk).2⟩ ⟨fd_Pc_blind, hcell, hpre⟩ rfl (List.length_map ..) hls rfl (lv_room hrest) hd ⟨by show cells + 0 ≤ 600000; omega, by show slots + 0 ≤ 7302250; omega⟩
  rcases r1 with ⟨r⟩ | ⟨r⟩ | ⟨r⟩
  · refine va_calli (a := (Value.ref (g.1 + a) :: tl.map (fd_cv g)).toArray) hrun hS (fun q _ h => h) (fun q h => h) (fun r u t H1 l1 ht hvm hp hB hz hk1 hS1 => ?_)
    subst hp
    exact kk H1 l1 (by rw [← ht]; exact hB) hS1
  · refine va_calll (a := (Value.ref (g.1 + a) :: tl.map (fd_cv g)).toArray) hrun hS (fun q _ h => h) (fun q h => h) (fun r u t H1 l1 ht hvm hp hB hz hk1 hS1 => ?_)
    subst hp
    exact kk H1 l1 (by rw [← ht]; exact hB) hS1
  · intro T hT X
    obtain ⟨v, st0, t, T', L', -, -, -, -, -, hf, -⟩ := hrun T hT X
    exact hf.elim
/-- an argument out of the script -/
theorem fd_lawArg (C0 : lw_At p s m meth c b L xs) (hbs : g.1 = s.heap.size) {k : Nat} {kI : Int} (hk : (k : Int) = kI) (h0 : decode code pc = .ok (.aload_n 0, 1)) (h1 : decode code (pc + 1) = .ok (.iload_n 3, 1)) (h2 : decode code (pc + 2) = .ok (.iconst kI, 1)) (h3 : decode code (pc + 3) = .ok (.iadd, 1)) (h4 : decode code (pc + 4) = .ok (.iaload, 1)) {y2 : Nat} (hl : lv_has la 4 [(0, .ref b), (1, .ref g.1), (2, .ref y2), (3, .int (nI i))]) (hS : va_S (fd_A g) s.heap H locs) (hi : i + k < L) (hL : L ≤ 256)
    (kk : W p l e room_1 s m #[Value.ref b] below meth c H locs cells slots Q (F0 m (pc + 5) la (fd_cv g (fd_I (xs (i + k)).toInt) :: rest))) : W p l e room_1 s m #[Value.ref b] below meth c H locs cells slots Q (F0 m pc la rest) := by
  obtain ⟨hx, hb, hr, hml, hown, hts, hX, hbl, hlocks, hgv⟩ := C0
  refine lv_aload_n hx hb h0 rfl (lv_at hl 0 rfl) ?_
  refine lv_iload_n hx hb h1 rfl (lv_at hl 3 rfl) ?_
  refine lv_iconst (v := nI k) hx hb h2 (by rw [← hk]; exact fd_oi k) ?_
  refine lv_iadd hx hb h3 ?_
  rw [nI_add]
  refine va_sld hx hb hX hbl (show ¬ g.1 ≤ b by omega) hS (vp_in_nI hi (by omega)) h4 ?_
  rw [nI_clamp (show i + k < 2 ^ 31 by omega)]
  rw [show fd_cv g (fd_I (xs (i + k)).toInt) = .int (xs (i + k)) from congrArg Value.int (Int32.ofInt_toInt _)] at kk
  exact kk
theorem fd_xrng (x : Int32) : -2147483648 ≤ x.toInt ∧ x.toInt < 2147483648 := ⟨Int32.le_toInt x, Int32.toInt_lt x⟩
theorem fd_lq_0a : fd_lq 1 0 1 13 := by decide +kernel
theorem fd_lq_0b : fd_lq 53 199 1 17 := by decide +kernel
theorem fd_lc_0 (C0 : lw_At p s m meth c b L xs) (hKn : fd_Kn g s s.heap) (hbs : g.1 = s.heap.size) (hop : fd_op Rel 1 53 1) (hR : Rel M) (hl : lv_has la 4 [(0, .ref b), (1, .ref g.1), (2, .ref (g.1 + 199)), (3, .int (nI i))]) (hH : fd_hp g true M H) (hS : va_S (fd_A g) s.heap H locs) (hi : i + 4 ≤ L) (hL : L ≤ 256) (hcs : cells ≤ 1000 ∧ slots ≤ 11000) (kk : ∀ (M2 : fd_M) (H2 : Heap) (l2 : List Loc), Rel M2 → fd_hp g true M2 H2 → va_S (fd_A g) s.heap H2 l2 → W p l e room_1 s m #[Value.ref b] below meth c H2 l2 cells slots Q (F0 m 828 la [])) : W p l e room_1 s m #[Value.ref b] below meth c H locs cells slots Q (F0 m 156 la []) := by
  obtain ⟨r, M1, M2, q1, q2, q3⟩ := hop M hR [(xs (i + 1)).toInt] rfl (fun a ha => by simp only [List.mem_cons, List.not_mem_nil, or_false] at ha; rcases ha with rfl <;> exact fd_xrng _)
  refine lv_aload_n C0.1 C0.2.1 (by decide +kernel : decode code 156 = .ok (.aload_n 1, 1)) rfl (lv_at hl 1 rfl) ?_
  refine fd_lawArg (k := 1) C0 hbs rfl (by decide +kernel : decode code 157 = .ok (.aload_n 0, 1)) (by decide +kernel : decode code 158 = .ok (.iload_n 3, 1)) (by decide +kernel : decode code 159 = .ok (.iconst 1, 1)) (by decide +kernel : decode code 160 = .ok (.iadd, 1)) (by decide +kernel : decode code 161 = .ok (.iaload, 1)) hl hS (by omega) hL ?_
  refine fd_lawCall (a := 0) (tl := [fd_I (xs (i + 1)).toInt]) (rest := []) C0 hKn (by omega) fd_lq_0a (fun v hv => by simp only [List.mem_cons, List.not_mem_nil, or_false] at hv; rcases hv with rfl <;> rfl) q1 (by decide +kernel : decode code 162 = .ok (.invokevirtual 13, 3)) hH hS hl.1 (by decide) hcs (fun H1 l1 hH1 hS1 => ?_)
  refine lv_aload_n C0.1 C0.2.1 (by decide +kernel : decode code 165 = .ok (.aload_n 2, 1)) rfl (lv_at hl 2 rfl) ?_
  refine fd_lawArg (k := 1) C0 hbs rfl (by decide +kernel : decode code 166 = .ok (.aload_n 0, 1)) (by decide +kernel : decode code 167 = .ok (.iload_n 3, 1)) (by decide +kernel : decode code 168 = .ok (.iconst 1, 1)) (by decide +kernel : decode code 169 = .ok (.iadd, 1)) (by decide +kernel : decode code 170 = .ok (.iaload, 1)) hl hS1 (by omega) hL ?_
  refine fd_lawCall (a := 199) (tl := [fd_I (xs (i + 1)).toInt]) (rest := [fd_cv g (fd_I r)]) C0 hKn (by omega) fd_lq_0b (fun v hv => by simp only [List.mem_cons, List.not_mem_nil, or_false] at hv; rcases hv with rfl <;> rfl) q2 (by decide +kernel : decode code 171 = .ok (.invokevirtual 17, 3)) hH1 hS1 hl.1 (Nat.le_of_ble_eq_true rfl) hcs (fun H2 l2 hH2 hS2 => ?_)
  exact lv_icmp_eq (tgt := 828) C0.1 C0.2.1 (by decide +kernel : decode code 174 = .ok (.if_icmp .eq 654, 3)) (by decide) (fun _ => kk M2 H2 l2 q3 hH2 hS2) (fun q => absurd rfl q)
theorem fd_lq_1a : fd_lq 2 0 0 18 := by decide +kernel
theorem fd_lq_1b : fd_lq 54 199 0 22 := by decide +kernel
theorem fd_lc_1 (C0 : lw_At p s m meth c b L xs) (hKn : fd_Kn g s s.heap) (hbs : g.1 = s.heap.size) (hop : fd_op Rel 2 54 0) (hR : Rel M) (hl : lv_has la 4 [(0, .ref b), (1, .ref g.1), (2, .ref (g.1 + 199)), (3, .int (nI i))]) (hH : fd_hp g true M H) (hS : va_S (fd_A g) s.heap H locs) (hi : i + 4 ≤ L) (hL : L ≤ 256) (hcs : cells ≤ 1000 ∧ slots ≤ 11000) (kk : ∀ (M2 : fd_M) (H2 : Heap) (l2 : List Loc), Rel M2 → fd_hp g true M2 H2 → va_S (fd_A g) s.heap H2 l2 → W p l e room_1 s m #[Value.ref b] below meth c H2 l2 cells slots Q (F0 m 828 la [])) : W p l e room_1 s m #[Value.ref b] below meth c H locs cells slots Q (F0 m 179 la []) := by
  obtain ⟨r, M1, M2, q1, q2, q3⟩ := hop M hR [] rfl (fun a ha => by cases ha)
  refine lv_aload_n C0.1 C0.2.1 (by decide +kernel : decode code 179 = .ok (.aload_n 1, 1)) rfl (lv_at hl 1 rfl) ?_
  refine fd_lawCall (a := 0) (tl := []) (rest := []) C0 hKn (by omega) fd_lq_1a (fun v hv => by cases hv) q1 (by decide +kernel : decode code 180 = .ok (.invokevirtual 18, 3)) hH hS hl.1 (by decide) hcs (fun H1 l1 hH1 hS1 => ?_)
  refine lv_aload_n C0.1 C0.2.1 (by decide +kernel : decode code 183 = .ok (.aload_n 2, 1)) rfl (lv_at hl 2 rfl) ?_
  refine fd_lawCall (a := 199) (tl := []) (rest := [fd_cv g (fd_I r)]) C0 hKn (by omega) fd_lq_1b (fun v hv => by cases hv) q2 (by decide +kernel : decode code 184 = .ok (.invokevirtual 22, 3)) hH1 hS1 hl.1 (Nat.le_of_ble_eq_true rfl) hcs (fun H2 l2 hH2 hS2 => ?_)
  exact lv_icmp_eq (tgt := 828) C0.1 C0.2.1 (by decide +kernel : decode code 187 = .ok (.if_icmp .eq 641, 3)) (by decide) (fun _ => kk M2 H2 l2 q3 hH2 hS2) (fun q => absurd rfl q)
theorem fd_lq_2a : fd_lq 3 0 0 23 := by decide +kernel
theorem fd_lq_2b : fd_lq 65 199 0 26 := by decide +kernel
theorem fd_lc_2 (C0 : lw_At p s m meth c b L xs) (hKn : fd_Kn g s s.heap) (hbs : g.1 = s.heap.size) (hop : fd_op Rel 3 65 0) (hR : Rel M) (hl : lv_has la 4 [(0, .ref b), (1, .ref g.1), (2, .ref (g.1 + 199)), (3, .int (nI i))]) (hH : fd_hp g true M H) (hS : va_S (fd_A g) s.heap H locs) (hi : i + 4 ≤ L) (hL : L ≤ 256) (hcs : cells ≤ 1000 ∧ slots ≤ 11000) (kk : ∀ (M2 : fd_M) (H2 : Heap) (l2 : List Loc), Rel M2 → fd_hp g true M2 H2 → va_S (fd_A g) s.heap H2 l2 → W p l e room_1 s m #[Value.ref b] below meth c H2 l2 cells slots Q (F0 m 828 la [])) : W p l e room_1 s m #[Value.ref b] below meth c H locs cells slots Q (F0 m 192 la []) := by
  obtain ⟨r, M1, M2, q1, q2, q3⟩ := hop M hR [] rfl (fun a ha => by cases ha)
  refine lv_aload_n C0.1 C0.2.1 (by decide +kernel : decode code 192 = .ok (.aload_n 1, 1)) rfl (lv_at hl 1 rfl) ?_
  refine fd_lawCall (a := 0) (tl := []) (rest := []) C0 hKn (by omega) fd_lq_2a (fun v hv => by cases hv) q1 (by decide +kernel : decode code 193 = .ok (.invokevirtual 23, 3)) hH hS hl.1 (by decide) hcs (fun H1 l1 hH1 hS1 => ?_)
  refine lv_aload_n C0.1 C0.2.1 (by decide +kernel : decode code 196 = .ok (.aload_n 2, 1)) rfl (lv_at hl 2 rfl) ?_
  refine fd_lawCall (a := 199) (tl := []) (rest := [fd_cv g (fd_I r)]) C0 hKn (by omega) fd_lq_2b (fun v hv => by cases hv) q2 (by decide +kernel : decode code 197 = .ok (.invokevirtual 26, 3)) hH1 hS1 hl.1 (Nat.le_of_ble_eq_true rfl) hcs (fun H2 l2 hH2 hS2 => ?_)
  exact lv_icmp_eq (tgt := 828) C0.1 C0.2.1 (by decide +kernel : decode code 200 = .ok (.if_icmp .eq 628, 3)) (by decide) (fun _ => kk M2 H2 l2 q3 hH2 hS2) (fun q => absurd rfl q)
theorem fd_lq_3a : fd_lq 4 0 2 27 := by decide +kernel
theorem fd_lq_3b : fd_lq 70 199 2 31 := by decide +kernel
theorem fd_lc_3 (C0 : lw_At p s m meth c b L xs) (hKn : fd_Kn g s s.heap) (hbs : g.1 = s.heap.size) (hop : fd_op Rel 4 70 2) (hR : Rel M) (hl : lv_has la 4 [(0, .ref b), (1, .ref g.1), (2, .ref (g.1 + 199)), (3, .int (nI i))]) (hH : fd_hp g true M H) (hS : va_S (fd_A g) s.heap H locs) (hi : i + 4 ≤ L) (hL : L ≤ 256) (hcs : cells ≤ 1000 ∧ slots ≤ 11000) (kk : ∀ (M2 : fd_M) (H2 : Heap) (l2 : List Loc), Rel M2 → fd_hp g true M2 H2 → va_S (fd_A g) s.heap H2 l2 → W p l e room_1 s m #[Value.ref b] below meth c H2 l2 cells slots Q (F0 m 828 la [])) : W p l e room_1 s m #[Value.ref b] below meth c H locs cells slots Q (F0 m 205 la []) := by
  obtain ⟨r, M1, M2, q1, q2, q3⟩ := hop M hR [(xs (i + 1)).toInt, (xs (i + 2)).toInt] rfl (fun a ha => by simp only [List.mem_cons, List.not_mem_nil, or_false] at ha; rcases ha with rfl | rfl <;> exact fd_xrng _)
  refine lv_aload_n C0.1 C0.2.1 (by decide +kernel : decode code 205 = .ok (.aload_n 1, 1)) rfl (lv_at hl 1 rfl) ?_
  refine fd_lawArg (k := 1) C0 hbs rfl (by decide +kernel : decode code 206 = .ok (.aload_n 0, 1)) (by decide +kernel : decode code 207 = .ok (.iload_n 3, 1)) (by decide +kernel : decode code 208 = .ok (.iconst 1, 1)) (by decide +kernel : decode code 209 = .ok (.iadd, 1)) (by decide +kernel : decode code 210 = .ok (.iaload, 1)) hl hS (by omega) hL ?_
  refine fd_lawArg (k := 2) C0 hbs rfl (by decide +kernel : decode code 211 = .ok (.aload_n 0, 1)) (by decide +kernel : decode code 212 = .ok (.iload_n 3, 1)) (by decide +kernel : decode code 213 = .ok (.iconst 2, 1)) (by decide +kernel : decode code 214 = .ok (.iadd, 1)) (by decide +kernel : decode code 215 = .ok (.iaload, 1)) hl hS (by omega) hL ?_
  refine fd_lawCall (a := 0) (tl := [fd_I (xs (i + 1)).toInt, fd_I (xs (i + 2)).toInt]) (rest := []) C0 hKn (by omega) fd_lq_3a (fun v hv => by simp only [List.mem_cons, List.not_mem_nil, or_false] at hv; rcases hv with rfl | rfl <;> rfl) q1 (by decide +kernel : decode code 216 = .ok (.invokevirtual 27, 3)) hH hS hl.1 (by decide) hcs (fun H1 l1 hH1 hS1 => ?_)
  refine lv_aload_n C0.1 C0.2.1 (by decide +kernel : decode code 219 = .ok (.aload_n 2, 1)) rfl (lv_at hl 2 rfl) ?_
  refine fd_lawArg (k := 1) C0 hbs rfl (by decide +kernel : decode code 220 = .ok (.aload_n 0, 1)) (by decide +kernel : decode code 221 = .ok (.iload_n 3, 1)) (by decide +kernel : decode code 222 = .ok (.iconst 1, 1)) (by decide +kernel : decode code 223 = .ok (.iadd, 1)) (by decide +kernel : decode code 224 = .ok (.iaload, 1)) hl hS1 (by omega) hL ?_
  refine fd_lawArg (k := 2) C0 hbs rfl (by decide +kernel : decode code 225 = .ok (.aload_n 0, 1)) (by decide +kernel : decode code 226 = .ok (.iload_n 3, 1)) (by decide +kernel : decode code 227 = .ok (.iconst 2, 1)) (by decide +kernel : decode code 228 = .ok (.iadd, 1)) (by decide +kernel : decode code 229 = .ok (.iaload, 1)) hl hS1 (by omega) hL ?_
  refine fd_lawCall (a := 199) (tl := [fd_I (xs (i + 1)).toInt, fd_I (xs (i + 2)).toInt]) (rest := [fd_cv g (fd_I r)]) C0 hKn (by omega) fd_lq_3b (fun v hv => by simp only [List.mem_cons, List.not_mem_nil, or_false] at hv; rcases hv with rfl | rfl <;> rfl) q2 (by decide +kernel : decode code 230 = .ok (.invokevirtual 31, 3)) hH1 hS1 hl.1 (Nat.le_of_ble_eq_true rfl) hcs (fun H2 l2 hH2 hS2 => ?_)
  exact lv_icmp_eq (tgt := 828) C0.1 C0.2.1 (by decide +kernel : decode code 233 = .ok (.if_icmp .eq 595, 3)) (by decide) (fun _ => kk M2 H2 l2 q3 hH2 hS2) (fun q => absurd rfl q)
theorem fd_lq_4a : fd_lq 5 0 2 32 := by decide +kernel
theorem fd_lq_4b : fd_lq 80 199 2 35 := by decide +kernel
theorem fd_lc_4 (C0 : lw_At p s m meth c b L xs) (hKn : fd_Kn g s s.heap) (hbs : g.1 = s.heap.size) (hop : fd_op Rel 5 80 2) (hR : Rel M) (hl : lv_has la 4 [(0, .ref b), (1, .ref g.1), (2, .ref (g.1 + 199)), (3, .int (nI i))]) (hH : fd_hp g true M H) (hS : va_S (fd_A g) s.heap H locs) (hi : i + 4 ≤ L) (hL : L ≤ 256) (hcs : cells ≤ 1000 ∧ slots ≤ 11000) (kk : ∀ (M2 : fd_M) (H2 : Heap) (l2 : List Loc), Rel M2 → fd_hp g true M2 H2 → va_S (fd_A g) s.heap H2 l2 → W p l e room_1 s m #[Value.ref b] below meth c H2 l2 cells slots Q (F0 m 828 la [])) : W p l e room_1 s m #[Value.ref b] below meth c H locs cells slots Q (F0 m 238 la []) := by
  obtain ⟨r, M1, M2, q1, q2, q3⟩ := hop M hR [(xs (i + 1)).toInt, (xs (i + 2)).toInt] rfl (fun a ha => by simp only [List.mem_cons, List.not_mem_nil, or_false] at ha; rcases ha with rfl | rfl <;> exact fd_xrng _)
  refine lv_aload_n C0.1 C0.2.1 (by decide +kernel : decode code 238 = .ok (.aload_n 1, 1)) rfl (lv_at hl 1 rfl) ?_
  refine fd_lawArg (k := 1) C0 hbs rfl (by decide +kernel : decode code 239 = .ok (.aload_n 0, 1)) (by decide +kernel : decode code 240 = .ok (.iload_n 3, 1)) (by decide +kernel : decode code 241 = .ok (.iconst 1, 1)) (by decide +kernel : decode code 242 = .ok (.iadd, 1)) (by decide +kernel : decode code 243 = .ok (.iaload, 1)) hl hS (by omega) hL ?_
  refine fd_lawArg (k := 2) C0 hbs rfl (by decide +kernel : decode code 244 = .ok (.aload_n 0, 1)) (by decide +kernel : decode code 245 = .ok (.iload_n 3, 1)) (by decide +kernel : decode code 246 = .ok (.iconst 2, 1)) (by decide +kernel : decode code 247 = .ok (.iadd, 1)) (by decide +kernel : decode code 248 = .ok (.iaload, 1)) hl hS (by omega) hL ?_
  refine fd_lawCall (a := 0) (tl := [fd_I (xs (i + 1)).toInt, fd_I (xs (i + 2)).toInt]) (rest := []) C0 hKn (by omega) fd_lq_4a (fun v hv => by simp only [List.mem_cons, List.not_mem_nil, or_false] at hv; rcases hv with rfl | rfl <;> rfl) q1 (by decide +kernel : decode code 249 = .ok (.invokevirtual 32, 3)) hH hS hl.1 (by decide) hcs (fun H1 l1 hH1 hS1 => ?_)
  refine lv_aload_n C0.1 C0.2.1 (by decide +kernel : decode code 252 = .ok (.aload_n 2, 1)) rfl (lv_at hl 2 rfl) ?_
  refine fd_lawArg (k := 1) C0 hbs rfl (by decide +kernel : decode code 253 = .ok (.aload_n 0, 1)) (by decide +kernel : decode code 254 = .ok (.iload_n 3, 1)) (by decide +kernel : decode code 255 = .ok (.iconst 1, 1)) (by decide +kernel : decode code 256 = .ok (.iadd, 1)) (by decide +kernel : decode code 257 = .ok (.iaload, 1)) hl hS1 (by omega) hL ?_
  refine fd_lawArg (k := 2) C0 hbs rfl (by decide +kernel : decode code 258 = .ok (.aload_n 0, 1)) (by decide +kernel : decode code 259 = .ok (.iload_n 3, 1)) (by decide +kernel : decode code 260 = .ok (.iconst 2, 1)) (by decide +kernel : decode code 261 = .ok (.iadd, 1)) (by decide +kernel : decode code 262 = .ok (.iaload, 1)) hl hS1 (by omega) hL ?_
  refine fd_lawCall (a := 199) (tl := [fd_I (xs (i + 1)).toInt, fd_I (xs (i + 2)).toInt]) (rest := [fd_cv g (fd_I r)]) C0 hKn (by omega) fd_lq_4b (fun v hv => by simp only [List.mem_cons, List.not_mem_nil, or_false] at hv; rcases hv with rfl | rfl <;> rfl) q2 (by decide +kernel : decode code 263 = .ok (.invokevirtual 35, 3)) hH1 hS1 hl.1 (Nat.le_of_ble_eq_true rfl) hcs (fun H2 l2 hH2 hS2 => ?_)
  exact lv_icmp_eq (tgt := 828) C0.1 C0.2.1 (by decide +kernel : decode code 266 = .ok (.if_icmp .eq 562, 3)) (by decide) (fun _ => kk M2 H2 l2 q3 hH2 hS2) (fun q => absurd rfl q)
theorem fd_lq_5a : fd_lq 6 0 2 36 := by decide +kernel
theorem fd_lq_5b : fd_lq 83 199 2 39 := by decide +kernel
theorem fd_lc_5 (C0 : lw_At p s m meth c b L xs) (hKn : fd_Kn g s s.heap) (hbs : g.1 = s.heap.size) (hop : fd_op Rel 6 83 2) (hR : Rel M) (hl : lv_has la 4 [(0, .ref b), (1, .ref g.1), (2, .ref (g.1 + 199)), (3, .int (nI i))]) (hH : fd_hp g true M H) (hS : va_S (fd_A g) s.heap H locs) (hi : i + 4 ≤ L) (hL : L ≤ 256) (hcs : cells ≤ 1000 ∧ slots ≤ 11000) (kk : ∀ (M2 : fd_M) (H2 : Heap) (l2 : List Loc), Rel M2 → fd_hp g true M2 H2 → va_S (fd_A g) s.heap H2 l2 → W p l e room_1 s m #[Value.ref b] below meth c H2 l2 cells slots Q (F0 m 828 la [])) : W p l e room_1 s m #[Value.ref b] below meth c H locs cells slots Q (F0 m 271 la []) := by
  obtain ⟨r, M1, M2, q1, q2, q3⟩ := hop M hR [(xs (i + 1)).toInt, (xs (i + 2)).toInt] rfl (fun a ha => by simp only [List.mem_cons, List.not_mem_nil, or_false] at ha; rcases ha with rfl | rfl <;> exact fd_xrng _)
  refine lv_aload_n C0.1 C0.2.1 (by decide +kernel : decode code 271 = .ok (.aload_n 1, 1)) rfl (lv_at hl 1 rfl) ?_
  refine fd_lawArg (k := 1) C0 hbs rfl (by decide +kernel : decode code 272 = .ok (.aload_n 0, 1)) (by decide +kernel : decode code 273 = .ok (.iload_n 3, 1)) (by decide +kernel : decode code 274 = .ok (.iconst 1, 1)) (by decide +kernel : decode code 275 = .ok (.iadd, 1)) (by decide +kernel : decode code 276 = .ok (.iaload, 1)) hl hS (by omega) hL ?_
  refine fd_lawArg (k := 2) C0 hbs rfl (by decide +kernel : decode code 277 = .ok (.aload_n 0, 1)) (by decide +kernel : decode code 278 = .ok (.iload_n 3, 1)) (by decide +kernel : decode code 279 = .ok (.iconst 2, 1)) (by decide +kernel : decode code 280 = .ok (.iadd, 1)) (by decide +kernel : decode code 281 = .ok (.iaload, 1)) hl hS (by omega) hL ?_
  refine fd_lawCall (a := 0) (tl := [fd_I (xs (i + 1)).toInt, fd_I (xs (i + 2)).toInt]) (rest := []) C0 hKn (by omega) fd_lq_5a (fun v hv => by simp only [List.mem_cons, List.not_mem_nil, or_false] at hv; rcases hv with rfl | rfl <;> rfl) q1 (by decide +kernel : decode code 282 = .ok (.invokevirtual 36, 3)) hH hS hl.1 (by decide) hcs (fun H1 l1 hH1 hS1 => ?_)
  refine lv_aload_n C0.1 C0.2.1 (by decide +kernel : decode code 285 = .ok (.aload_n 2, 1)) rfl (lv_at hl 2 rfl) ?_
  refine fd_lawArg (k := 1) C0 hbs rfl (by decide +kernel : decode code 286 = .ok (.aload_n 0, 1)) (by decide +kernel : decode code 287 = .ok (.iload_n 3, 1)) (by decide +kernel : decode code 288 = .ok (.iconst 1, 1)) (by decide +kernel : decode code 289 = .ok (.iadd, 1)) (by decide +kernel : decode code 290 = .ok (.iaload, 1)) hl hS1 (by omega) hL ?_
  refine fd_lawArg (k := 2) C0 hbs rfl (by decide +kernel : decode code 291 = .ok (.aload_n 0, 1)) (by decide +kernel : decode code 292 = .ok (.iload_n 3, 1)) (by decide +kernel : decode code 293 = .ok (.iconst 2, 1)) (by decide +kernel : decode code 294 = .ok (.iadd, 1)) (by decide +kernel : decode code 295 = .ok (.iaload, 1)) hl hS1 (by omega) hL ?_
  refine fd_lawCall (a := 199) (tl := [fd_I (xs (i + 1)).toInt, fd_I (xs (i + 2)).toInt]) (rest := [fd_cv g (fd_I r)]) C0 hKn (by omega) fd_lq_5b (fun v hv => by simp only [List.mem_cons, List.not_mem_nil, or_false] at hv; rcases hv with rfl | rfl <;> rfl) q2 (by decide +kernel : decode code 296 = .ok (.invokevirtual 39, 3)) hH1 hS1 hl.1 (Nat.le_of_ble_eq_true rfl) hcs (fun H2 l2 hH2 hS2 => ?_)
  exact lv_icmp_eq (tgt := 828) C0.1 C0.2.1 (by decide +kernel : decode code 299 = .ok (.if_icmp .eq 529, 3)) (by decide) (fun _ => kk M2 H2 l2 q3 hH2 hS2) (fun q => absurd rfl q)
theorem fd_lq_6a : fd_lq 7 0 2 40 := by decide +kernel
theorem fd_lq_6b : fd_lq 84 199 2 43 := by decide +kernel
theorem fd_lc_6 (C0 : lw_At p s m meth c b L xs) (hKn : fd_Kn g s s.heap) (hbs : g.1 = s.heap.size) (hop : fd_op Rel 7 84 2) (hR : Rel M) (hl : lv_has la 4 [(0, .ref b), (1, .ref g.1), (2, .ref (g.1 + 199)), (3, .int (nI i))]) (hH : fd_hp g true M H) (hS : va_S (fd_A g) s.heap H locs) (hi : i + 4 ≤ L) (hL : L ≤ 256) (hcs : cells ≤ 1000 ∧ slots ≤ 11000) (kk : ∀ (M2 : fd_M) (H2 : Heap) (l2 : List Loc), Rel M2 → fd_hp g true M2 H2 → va_S (fd_A g) s.heap H2 l2 → W p l e room_1 s m #[Value.ref b] below meth c H2 l2 cells slots Q (F0 m 828 la [])) : W p l e room_1 s m #[Value.ref b] below meth c H locs cells slots Q (F0 m 304 la []) := by
  obtain ⟨r, M1, M2, q1, q2, q3⟩ := hop M hR [(xs (i + 1)).toInt, (xs (i + 2)).toInt] rfl (fun a ha => by simp only [List.mem_cons, List.not_mem_nil, or_false] at ha; rcases ha with rfl | rfl <;> exact fd_xrng _)
  refine lv_aload_n C0.1 C0.2.1 (by decide +kernel : decode code 304 = .ok (.aload_n 1, 1)) rfl (lv_at hl 1 rfl) ?_
  refine fd_lawArg (k := 1) C0 hbs rfl (by decide +kernel : decode code 305 = .ok (.aload_n 0, 1)) (by decide +kernel : decode code 306 = .ok (.iload_n 3, 1)) (by decide +kernel : decode code 307 = .ok (.iconst 1, 1)) (by decide +kernel : decode code 308 = .ok (.iadd, 1)) (by decide +kernel : decode code 309 = .ok (.iaload, 1)) hl hS (by omega) hL ?_
  refine fd_lawArg (k := 2) C0 hbs rfl (by decide +kernel : decode code 310 = .ok (.aload_n 0, 1)) (by decide +kernel : decode code 311 = .ok (.iload_n 3, 1)) (by decide +kernel : decode code 312 = .ok (.iconst 2, 1)) (by decide +kernel : decode code 313 = .ok (.iadd, 1)) (by decide +kernel : decode code 314 = .ok (.iaload, 1)) hl hS (by omega) hL ?_
  refine fd_lawCall (a := 0) (tl := [fd_I (xs (i + 1)).toInt, fd_I (xs (i + 2)).toInt]) (rest := []) C0 hKn (by omega) fd_lq_6a (fun v hv => by simp only [List.mem_cons, List.not_mem_nil, or_false] at hv; rcases hv with rfl | rfl <;> rfl) q1 (by decide +kernel : decode code 315 = .ok (.invokevirtual 40, 3)) hH hS hl.1 (by decide) hcs (fun H1 l1 hH1 hS1 => ?_)
  refine lv_aload_n C0.1 C0.2.1 (by decide +kernel : decode code 318 = .ok (.aload_n 2, 1)) rfl (lv_at hl 2 rfl) ?_
  refine fd_lawArg (k := 1) C0 hbs rfl (by decide +kernel : decode code 319 = .ok (.aload_n 0, 1)) (by decide +kernel : decode code 320 = .ok (.iload_n 3, 1)) (by decide +kernel : decode code 321 = .ok (.iconst 1, 1)) (by decide +kernel : decode code 322 = .ok (.iadd, 1)) (by decide +kernel : decode code 323 = .ok (.iaload, 1)) hl hS1 (by omega) hL ?_
  refine fd_lawArg (k := 2) C0 hbs rfl (by decide +kernel : decode code 324 = .ok (.aload_n 0, 1)) (by decide +kernel : decode code 325 = .ok (.iload_n 3, 1)) (by decide +kernel : decode code 326 = .ok (.iconst 2, 1)) (by decide +kernel : decode code 327 = .ok (.iadd, 1)) (by decide +kernel : decode code 328 = .ok (.iaload, 1)) hl hS1 (by omega) hL ?_
  refine fd_lawCall (a := 199) (tl := [fd_I (xs (i + 1)).toInt, fd_I (xs (i + 2)).toInt]) (rest := [fd_cv g (fd_I r)]) C0 hKn (by omega) fd_lq_6b (fun v hv => by simp only [List.mem_cons, List.not_mem_nil, or_false] at hv; rcases hv with rfl | rfl <;> rfl) q2 (by decide +kernel : decode code 329 = .ok (.invokevirtual 43, 3)) hH1 hS1 hl.1 (Nat.le_of_ble_eq_true rfl) hcs (fun H2 l2 hH2 hS2 => ?_)
  exact lv_icmp_eq (tgt := 828) C0.1 C0.2.1 (by decide +kernel : decode code 332 = .ok (.if_icmp .eq 496, 3)) (by decide) (fun _ => kk M2 H2 l2 q3 hH2 hS2) (fun q => absurd rfl q)
theorem fd_lq_7a : fd_lq 8 0 2 44 := by decide +kernel
theorem fd_lq_7b : fd_lq 85 199 2 47 := by decide +kernel
theorem fd_lc_7 (C0 : lw_At p s m meth c b L xs) (hKn : fd_Kn g s s.heap) (hbs : g.1 = s.heap.size) (hop : fd_op Rel 8 85 2) (hR : Rel M) (hl : lv_has la 4 [(0, .ref b), (1, .ref g.1), (2, .ref (g.1 + 199)), (3, .int (nI i))]) (hH : fd_hp g true M H) (hS : va_S (fd_A g) s.heap H locs) (hi : i + 4 ≤ L) (hL : L ≤ 256) (hcs : cells ≤ 1000 ∧ slots ≤ 11000) (kk : ∀ (M2 : fd_M) (H2 : Heap) (l2 : List Loc), Rel M2 → fd_hp g true M2 H2 → va_S (fd_A g) s.heap H2 l2 → W p l e room_1 s m #[Value.ref b] below meth c H2 l2 cells slots Q (F0 m 828 la [])) : W p l e room_1 s m #[Value.ref b] below meth c H locs cells slots Q (F0 m 337 la []) := by
  obtain ⟨r, M1, M2, q1, q2, q3⟩ := hop M hR [(xs (i + 1)).toInt, (xs (i + 2)).toInt] rfl (fun a ha => by simp only [List.mem_cons, List.not_mem_nil, or_false] at ha; rcases ha with rfl | rfl <;> exact fd_xrng _)
  refine lv_aload_n C0.1 C0.2.1 (by decide +kernel : decode code 337 = .ok (.aload_n 1, 1)) rfl (lv_at hl 1 rfl) ?_
  refine fd_lawArg (k := 1) C0 hbs rfl (by decide +kernel : decode code 338 = .ok (.aload_n 0, 1)) (by decide +kernel : decode code 339 = .ok (.iload_n 3, 1)) (by decide +kernel : decode code 340 = .ok (.iconst 1, 1)) (by decide +kernel : decode code 341 = .ok (.iadd, 1)) (by decide +kernel : decode code 342 = .ok (.iaload, 1)) hl hS (by omega) hL ?_
  refine fd_lawArg (k := 2) C0 hbs rfl (by decide +kernel : decode code 343 = .ok (.aload_n 0, 1)) (by decide +kernel : decode code 344 = .ok (.iload_n 3, 1)) (by decide +kernel : decode code 345 = .ok (.iconst 2, 1)) (by decide +kernel : decode code 346 = .ok (.iadd, 1)) (by decide +kernel : decode code 347 = .ok (.iaload, 1)) hl hS (by omega) hL ?_
  refine fd_lawCall (a := 0) (tl := [fd_I (xs (i + 1)).toInt, fd_I (xs (i + 2)).toInt]) (rest := []) C0 hKn (by omega) fd_lq_7a (fun v hv => by simp only [List.mem_cons, List.not_mem_nil, or_false] at hv; rcases hv with rfl | rfl <;> rfl) q1 (by decide +kernel : decode code 348 = .ok (.invokevirtual 44, 3)) hH hS hl.1 (by decide) hcs (fun H1 l1 hH1 hS1 => ?_)
  refine lv_aload_n C0.1 C0.2.1 (by decide +kernel : decode code 351 = .ok (.aload_n 2, 1)) rfl (lv_at hl 2 rfl) ?_
  refine fd_lawArg (k := 1) C0 hbs rfl (by decide +kernel : decode code 352 = .ok (.aload_n 0, 1)) (by decide +kernel : decode code 353 = .ok (.iload_n 3, 1)) (by decide +kernel : decode code 354 = .ok (.iconst 1, 1)) (by decide +kernel : decode code 355 = .ok (.iadd, 1)) (by decide +kernel : decode code 356 = .ok (.iaload, 1)) hl hS1 (by omega) hL ?_
  refine fd_lawArg (k := 2) C0 hbs rfl (by decide +kernel : decode code 357 = .ok (.aload_n 0, 1)) (by decide +kernel : decode code 358 = .ok (.iload_n 3, 1)) (by decide +kernel : decode code 359 = .ok (.iconst 2, 1)) (by decide +kernel : decode code 360 = .ok (.iadd, 1)) (by decide +kernel : decode code 361 = .ok (.iaload, 1)) hl hS1 (by omega) hL ?_
  refine fd_lawCall (a := 199) (tl := [fd_I (xs (i + 1)).toInt, fd_I (xs (i + 2)).toInt]) (rest := [fd_cv g (fd_I r)]) C0 hKn (by omega) fd_lq_7b (fun v hv => by simp only [List.mem_cons, List.not_mem_nil, or_false] at hv; rcases hv with rfl | rfl <;> rfl) q2 (by decide +kernel : decode code 362 = .ok (.invokevirtual 47, 3)) hH1 hS1 hl.1 (Nat.le_of_ble_eq_true rfl) hcs (fun H2 l2 hH2 hS2 => ?_)
  exact lv_icmp_eq (tgt := 828) C0.1 C0.2.1 (by decide +kernel : decode code 365 = .ok (.if_icmp .eq 463, 3)) (by decide) (fun _ => kk M2 H2 l2 q3 hH2 hS2) (fun q => absurd rfl q)
theorem fd_lq_8a : fd_lq 9 0 3 48 := by decide +kernel
theorem fd_lq_8b : fd_lq 87 199 3 52 := by decide +kernel
theorem fd_lc_8 (C0 : lw_At p s m meth c b L xs) (hKn : fd_Kn g s s.heap) (hbs : g.1 = s.heap.size) (hop : fd_op Rel 9 87 3) (hR : Rel M) (hl : lv_has la 4 [(0, .ref b), (1, .ref g.1), (2, .ref (g.1 + 199)), (3, .int (nI i))]) (hH : fd_hp g true M H) (hS : va_S (fd_A g) s.heap H locs) (hi : i + 4 ≤ L) (hL : L ≤ 256) (hcs : cells ≤ 1000 ∧ slots ≤ 11000) (kk : ∀ (M2 : fd_M) (H2 : Heap) (l2 : List Loc), Rel M2 → fd_hp g true M2 H2 → va_S (fd_A g) s.heap H2 l2 → W p l e room_1 s m #[Value.ref b] below meth c H2 l2 cells slots Q (F0 m 828 la [])) : W p l e room_1 s m #[Value.ref b] below meth c H locs cells slots Q (F0 m 370 la []) := by
  obtain ⟨r, M1, M2, q1, q2, q3⟩ := hop M hR [(xs (i + 1)).toInt, (xs (i + 2)).toInt, (xs (i + 3)).toInt] rfl (fun a ha => by simp only [List.mem_cons, List.not_mem_nil, or_false] at ha; rcases ha with rfl | rfl | rfl <;> exact fd_xrng _)
  refine lv_aload_n C0.1 C0.2.1 (by decide +kernel : decode code 370 = .ok (.aload_n 1, 1)) rfl (lv_at hl 1 rfl) ?_
  refine fd_lawArg (k := 1) C0 hbs rfl (by decide +kernel : decode code 371 = .ok (.aload_n 0, 1)) (by decide +kernel : decode code 372 = .ok (.iload_n 3, 1)) (by decide +kernel : decode code 373 = .ok (.iconst 1, 1)) (by decide +kernel : decode code 374 = .ok (.iadd, 1)) (by decide +kernel : decode code 375 = .ok (.iaload, 1)) hl hS (by omega) hL ?_
  refine fd_lawArg (k := 2) C0 hbs rfl (by decide +kernel : decode code 376 = .ok (.aload_n 0, 1)) (by decide +kernel : decode code 377 = .ok (.iload_n 3, 1)) (by decide +kernel : decode code 378 = .ok (.iconst 2, 1)) (by decide +kernel : decode code 379 = .ok (.iadd, 1)) (by decide +kernel : decode code 380 = .ok (.iaload, 1)) hl hS (by omega) hL ?_
  refine fd_lawArg (k := 3) C0 hbs rfl (by decide +kernel : decode code 381 = .ok (.aload_n 0, 1)) (by decide +kernel : decode code 382 = .ok (.iload_n 3, 1)) (by decide +kernel : decode code 383 = .ok (.iconst 3, 1)) (by decide +kernel : decode code 384 = .ok (.iadd, 1)) (by decide +kernel : decode code 385 = .ok (.iaload, 1)) hl hS (by omega) hL ?_
  refine fd_lawCall (a := 0) (tl := [fd_I (xs (i + 1)).toInt, fd_I (xs (i + 2)).toInt, fd_I (xs (i + 3)).toInt]) (rest := []) C0 hKn (by omega) fd_lq_8a (fun v hv => by simp only [List.mem_cons, List.not_mem_nil, or_false] at hv; rcases hv with rfl | rfl | rfl <;> rfl) q1 (by decide +kernel : decode code 386 = .ok (.invokevirtual 48, 3)) hH hS hl.1 (by decide) hcs (fun H1 l1 hH1 hS1 => ?_)
  refine lv_aload_n C0.1 C0.2.1 (by decide +kernel : decode code 389 = .ok (.aload_n 2, 1)) rfl (lv_at hl 2 rfl) ?_
  refine fd_lawArg (k := 1) C0 hbs rfl (by decide +kernel : decode code 390 = .ok (.aload_n 0, 1)) (by decide +kernel : decode code 391 = .ok (.iload_n 3, 1)) (by decide +kernel : decode code 392 = .ok (.iconst 1, 1)) (by decide +kernel : decode code 393 = .ok (.iadd, 1)) (by decide +kernel : decode code 394 = .ok (.iaload, 1)) hl hS1 (by omega) hL ?_
  refine fd_lawArg (k := 2) C0 hbs rfl (by decide +kernel : decode code 395 = .ok (.aload_n 0, 1)) (by decide +kernel : decode code 396 = .ok (.iload_n 3, 1)) (by decide +kernel : decode code 397 = .ok (.iconst 2, 1)) (by decide +kernel : decode code 398 = .ok (.iadd, 1)) (by decide +kernel : decode code 399 = .ok (.iaload, 1)) hl hS1 (by omega) hL ?_
  refine fd_lawArg (k := 3) C0 hbs rfl (by decide +kernel : decode code 400 = .ok (.aload_n 0, 1)) (by decide +kernel : decode code 401 = .ok (.iload_n 3, 1)) (by decide +kernel : decode code 402 = .ok (.iconst 3, 1)) (by decide +kernel : decode code 403 = .ok (.iadd, 1)) (by decide +kernel : decode code 404 = .ok (.iaload, 1)) hl hS1 (by omega) hL ?_
  refine fd_lawCall (a := 199) (tl := [fd_I (xs (i + 1)).toInt, fd_I (xs (i + 2)).toInt, fd_I (xs (i + 3)).toInt]) (rest := [fd_cv g (fd_I r)]) C0 hKn (by omega) fd_lq_8b (fun v hv => by simp only [List.mem_cons, List.not_mem_nil, or_false] at hv; rcases hv with rfl | rfl | rfl <;> rfl) q2 (by decide +kernel : decode code 405 = .ok (.invokevirtual 52, 3)) hH1 hS1 hl.1 (Nat.le_of_ble_eq_true rfl) hcs (fun H2 l2 hH2 hS2 => ?_)
  exact lv_icmp_eq (tgt := 828) C0.1 C0.2.1 (by decide +kernel : decode code 408 = .ok (.if_icmp .eq 420, 3)) (by decide) (fun _ => kk M2 H2 l2 q3 hH2 hS2) (fun q => absurd rfl q)
theorem fd_lq_9a : fd_lq 10 0 1 53 := by decide +kernel
theorem fd_lq_9b : fd_lq 89 199 1 56 := by decide +kernel
theorem fd_lc_9 (C0 : lw_At p s m meth c b L xs) (hKn : fd_Kn g s s.heap) (hbs : g.1 = s.heap.size) (hop : fd_op Rel 10 89 1) (hR : Rel M) (hl : lv_has la 4 [(0, .ref b), (1, .ref g.1), (2, .ref (g.1 + 199)), (3, .int (nI i))]) (hH : fd_hp g true M H) (hS : va_S (fd_A g) s.heap H locs) (hi : i + 4 ≤ L) (hL : L ≤ 256) (hcs : cells ≤ 1000 ∧ slots ≤ 11000) (kk : ∀ (M2 : fd_M) (H2 : Heap) (l2 : List Loc), Rel M2 → fd_hp g true M2 H2 → va_S (fd_A g) s.heap H2 l2 → W p l e room_1 s m #[Value.ref b] below meth c H2 l2 cells slots Q (F0 m 828 la [])) : W p l e room_1 s m #[Value.ref b] below meth c H locs cells slots Q (F0 m 413 la []) := by
  obtain ⟨r, M1, M2, q1, q2, q3⟩ := hop M hR [(xs (i + 1)).toInt] rfl (fun a ha => by simp only [List.mem_cons, List.not_mem_nil, or_false] at ha; rcases ha with rfl <;> exact fd_xrng _)
  refine lv_aload_n C0.1 C0.2.1 (by decide +kernel : decode code 413 = .ok (.aload_n 1, 1)) rfl (lv_at hl 1 rfl) ?_
  refine fd_lawArg (k := 1) C0 hbs rfl (by decide +kernel : decode code 414 = .ok (.aload_n 0, 1)) (by decide +kernel : decode code 415 = .ok (.iload_n 3, 1)) (by decide +kernel : decode code 416 = .ok (.iconst 1, 1)) (by decide +kernel : decode code 417 = .ok (.iadd, 1)) (by decide +kernel : decode code 418 = .ok (.iaload, 1)) hl hS (by omega) hL ?_
  refine fd_lawCall (a := 0) (tl := [fd_I (xs (i + 1)).toInt]) (rest := []) C0 hKn (by omega) fd_lq_9a (fun v hv => by simp only [List.mem_cons, List.not_mem_nil, or_false] at hv; rcases hv with rfl <;> rfl) q1 (by decide +kernel : decode code 419 = .ok (.invokevirtual 53, 3)) hH hS hl.1 (by decide) hcs (fun H1 l1 hH1 hS1 => ?_)
  refine lv_aload_n C0.1 C0.2.1 (by decide +kernel : decode code 422 = .ok (.aload_n 2, 1)) rfl (lv_at hl 2 rfl) ?_
  refine fd_lawArg (k := 1) C0 hbs rfl (by decide +kernel : decode code 423 = .ok (.aload_n 0, 1)) (by decide +kernel : decode code 424 = .ok (.iload_n 3, 1)) (by decide +kernel : decode code 425 = .ok (.iconst 1, 1)) (by decide +kernel : decode code 426 = .ok (.iadd, 1)) (by decide +kernel : decode code 427 = .ok (.iaload, 1)) hl hS1 (by omega) hL ?_
  refine fd_lawCall (a := 199) (tl := [fd_I (xs (i + 1)).toInt]) (rest := [fd_cv g (fd_I r)]) C0 hKn (by omega) fd_lq_9b (fun v hv => by simp only [List.mem_cons, List.not_mem_nil, or_false] at hv; rcases hv with rfl <;> rfl) q2 (by decide +kernel : decode code 428 = .ok (.invokevirtual 56, 3)) hH1 hS1 hl.1 (Nat.le_of_ble_eq_true rfl) hcs (fun H2 l2 hH2 hS2 => ?_)
  exact lv_icmp_eq (tgt := 828) C0.1 C0.2.1 (by decide +kernel : decode code 431 = .ok (.if_icmp .eq 397, 3)) (by decide) (fun _ => kk M2 H2 l2 q3 hH2 hS2) (fun q => absurd rfl q)
theorem fd_lq_10a : fd_lq 11 0 1 57 := by decide +kernel
theorem fd_lq_10b : fd_lq 90 199 1 60 := by decide +kernel
theorem fd_lc_10 (C0 : lw_At p s m meth c b L xs) (hKn : fd_Kn g s s.heap) (hbs : g.1 = s.heap.size) (hop : fd_op Rel 11 90 1) (hR : Rel M) (hl : lv_has la 4 [(0, .ref b), (1, .ref g.1), (2, .ref (g.1 + 199)), (3, .int (nI i))]) (hH : fd_hp g true M H) (hS : va_S (fd_A g) s.heap H locs) (hi : i + 4 ≤ L) (hL : L ≤ 256) (hcs : cells ≤ 1000 ∧ slots ≤ 11000) (kk : ∀ (M2 : fd_M) (H2 : Heap) (l2 : List Loc), Rel M2 → fd_hp g true M2 H2 → va_S (fd_A g) s.heap H2 l2 → W p l e room_1 s m #[Value.ref b] below meth c H2 l2 cells slots Q (F0 m 828 la [])) : W p l e room_1 s m #[Value.ref b] below meth c H locs cells slots Q (F0 m 436 la []) := by
  obtain ⟨r, M1, M2, q1, q2, q3⟩ := hop M hR [(xs (i + 1)).toInt] rfl (fun a ha => by simp only [List.mem_cons, List.not_mem_nil, or_false] at ha; rcases ha with rfl <;> exact fd_xrng _)
  refine lv_aload_n C0.1 C0.2.1 (by decide +kernel : decode code 436 = .ok (.aload_n 1, 1)) rfl (lv_at hl 1 rfl) ?_
  refine fd_lawArg (k := 1) C0 hbs rfl (by decide +kernel : decode code 437 = .ok (.aload_n 0, 1)) (by decide +kernel : decode code 438 = .ok (.iload_n 3, 1)) (by decide +kernel : decode code 439 = .ok (.iconst 1, 1)) (by decide +kernel : decode code 440 = .ok (.iadd, 1)) (by decide +kernel : decode code 441 = .ok (.iaload, 1)) hl hS (by omega) hL ?_
  refine fd_lawCall (a := 0) (tl := [fd_I (xs (i + 1)).toInt]) (rest := []) C0 hKn (by omega) fd_lq_10a (fun v hv => by simp only [List.mem_cons, List.not_mem_nil, or_false] at hv; rcases hv with rfl <;> rfl) q1 (by decide +kernel : decode code 442 = .ok (.invokevirtual 57, 3)) hH hS hl.1 (by decide) hcs (fun H1 l1 hH1 hS1 => ?_)
  refine lv_aload_n C0.1 C0.2.1 (by decide +kernel : decode code 445 = .ok (.aload_n 2, 1)) rfl (lv_at hl 2 rfl) ?_
  refine fd_lawArg (k := 1) C0 hbs rfl (by decide +kernel : decode code 446 = .ok (.aload_n 0, 1)) (by decide +kernel : decode code 447 = .ok (.iload_n 3, 1)) (by decide +kernel : decode code 448 = .ok (.iconst 1, 1)) (by decide +kernel : decode code 449 = .ok (.iadd, 1)) (by decide +kernel : decode code 450 = .ok (.iaload, 1)) hl hS1 (by omega) hL ?_
  refine fd_lawCall (a := 199) (tl := [fd_I (xs (i + 1)).toInt]) (rest := [fd_cv g (fd_I r)]) C0 hKn (by omega) fd_lq_10b (fun v hv => by simp only [List.mem_cons, List.not_mem_nil, or_false] at hv; rcases hv with rfl <;> rfl) q2 (by decide +kernel : decode code 451 = .ok (.invokevirtual 60, 3)) hH1 hS1 hl.1 (Nat.le_of_ble_eq_true rfl) hcs (fun H2 l2 hH2 hS2 => ?_)
  exact lv_icmp_eq (tgt := 828) C0.1 C0.2.1 (by decide +kernel : decode code 454 = .ok (.if_icmp .eq 374, 3)) (by decide) (fun _ => kk M2 H2 l2 q3 hH2 hS2) (fun q => absurd rfl q)
theorem fd_lq_11a : fd_lq 12 0 0 61 := by decide +kernel
theorem fd_lq_11b : fd_lq 91 199 0 64 := by decide +kernel
theorem fd_lc_11 (C0 : lw_At p s m meth c b L xs) (hKn : fd_Kn g s s.heap) (hbs : g.1 = s.heap.size) (hop : fd_op Rel 12 91 0) (hR : Rel M) (hl : lv_has la 4 [(0, .ref b), (1, .ref g.1), (2, .ref (g.1 + 199)), (3, .int (nI i))]) (hH : fd_hp g true M H) (hS : va_S (fd_A g) s.heap H locs) (hi : i + 4 ≤ L) (hL : L ≤ 256) (hcs : cells ≤ 1000 ∧ slots ≤ 11000) (kk : ∀ (M2 : fd_M) (H2 : Heap) (l2 : List Loc), Rel M2 → fd_hp g true M2 H2 → va_S (fd_A g) s.heap H2 l2 → W p l e room_1 s m #[Value.ref b] below meth c H2 l2 cells slots Q (F0 m 828 la [])) : W p l e room_1 s m #[Value.ref b] below meth c H locs cells slots Q (F0 m 459 la []) := by
  obtain ⟨r, M1, M2, q1, q2, q3⟩ := hop M hR [] rfl (fun a ha => by cases ha)
  refine lv_aload_n C0.1 C0.2.1 (by decide +kernel : decode code 459 = .ok (.aload_n 1, 1)) rfl (lv_at hl 1 rfl) ?_
  refine fd_lawCall (a := 0) (tl := []) (rest := []) C0 hKn (by omega) fd_lq_11a (fun v hv => by cases hv) q1 (by decide +kernel : decode code 460 = .ok (.invokevirtual 61, 3)) hH hS hl.1 (by decide) hcs (fun H1 l1 hH1 hS1 => ?_)
  refine lv_aload_n C0.1 C0.2.1 (by decide +kernel : decode code 463 = .ok (.aload_n 2, 1)) rfl (lv_at hl 2 rfl) ?_
  refine fd_lawCall (a := 199) (tl := []) (rest := [fd_cv g (fd_I r)]) C0 hKn (by omega) fd_lq_11b (fun v hv => by cases hv) q2 (by decide +kernel : decode code 464 = .ok (.invokevirtual 64, 3)) hH1 hS1 hl.1 (Nat.le_of_ble_eq_true rfl) hcs (fun H2 l2 hH2 hS2 => ?_)
  exact lv_icmp_eq (tgt := 828) C0.1 C0.2.1 (by decide +kernel : decode code 467 = .ok (.if_icmp .eq 361, 3)) (by decide) (fun _ => kk M2 H2 l2 q3 hH2 hS2) (fun q => absurd rfl q)
theorem fd_lq_12a : fd_lq 13 0 0 65 := by decide +kernel
theorem fd_lq_12b : fd_lq 92 199 0 68 := by decide +kernel
theorem fd_lc_12 (C0 : lw_At p s m meth c b L xs) (hKn : fd_Kn g s s.heap) (hbs : g.1 = s.heap.size) (hop : fd_op Rel 13 92 0) (hR : Rel M) (hl : lv_has la 4 [(0, .ref b), (1, .ref g.1), (2, .ref (g.1 + 199)), (3, .int (nI i))]) (hH : fd_hp g true M H) (hS : va_S (fd_A g) s.heap H locs) (hi : i + 4 ≤ L) (hL : L ≤ 256) (hcs : cells ≤ 1000 ∧ slots ≤ 11000) (kk : ∀ (M2 : fd_M) (H2 : Heap) (l2 : List Loc), Rel M2 → fd_hp g true M2 H2 → va_S (fd_A g) s.heap H2 l2 → W p l e room_1 s m #[Value.ref b] below meth c H2 l2 cells slots Q (F0 m 828 la [])) : W p l e room_1 s m #[Value.ref b] below meth c H locs cells slots Q (F0 m 472 la []) := by
  obtain ⟨r, M1, M2, q1, q2, q3⟩ := hop M hR [] rfl (fun a ha => by cases ha)
  refine lv_aload_n C0.1 C0.2.1 (by decide +kernel : decode code 472 = .ok (.aload_n 1, 1)) rfl (lv_at hl 1 rfl) ?_
  refine fd_lawCall (a := 0) (tl := []) (rest := []) C0 hKn (by omega) fd_lq_12a (fun v hv => by cases hv) q1 (by decide +kernel : decode code 473 = .ok (.invokevirtual 65, 3)) hH hS hl.1 (by decide) hcs (fun H1 l1 hH1 hS1 => ?_)
  refine lv_aload_n C0.1 C0.2.1 (by decide +kernel : decode code 476 = .ok (.aload_n 2, 1)) rfl (lv_at hl 2 rfl) ?_
  refine fd_lawCall (a := 199) (tl := []) (rest := [fd_cv g (fd_I r)]) C0 hKn (by omega) fd_lq_12b (fun v hv => by cases hv) q2 (by decide +kernel : decode code 477 = .ok (.invokevirtual 68, 3)) hH1 hS1 hl.1 (Nat.le_of_ble_eq_true rfl) hcs (fun H2 l2 hH2 hS2 => ?_)
  exact lv_icmp_eq (tgt := 828) C0.1 C0.2.1 (by decide +kernel : decode code 480 = .ok (.if_icmp .eq 348, 3)) (by decide) (fun _ => kk M2 H2 l2 q3 hH2 hS2) (fun q => absurd rfl q)
theorem fd_lq_13a : fd_lq 14 0 1 69 := by decide +kernel
theorem fd_lq_13b : fd_lq 94 199 1 72 := by decide +kernel
theorem fd_lc_13 (C0 : lw_At p s m meth c b L xs) (hKn : fd_Kn g s s.heap) (hbs : g.1 = s.heap.size) (hop : fd_op Rel 14 94 1) (hR : Rel M) (hl : lv_has la 4 [(0, .ref b), (1, .ref g.1), (2, .ref (g.1 + 199)), (3, .int (nI i))]) (hH : fd_hp g true M H) (hS : va_S (fd_A g) s.heap H locs) (hi : i + 4 ≤ L) (hL : L ≤ 256) (hcs : cells ≤ 1000 ∧ slots ≤ 11000) (kk : ∀ (M2 : fd_M) (H2 : Heap) (l2 : List Loc), Rel M2 → fd_hp g true M2 H2 → va_S (fd_A g) s.heap H2 l2 → W p l e room_1 s m #[Value.ref b] below meth c H2 l2 cells slots Q (F0 m 828 la [])) : W p l e room_1 s m #[Value.ref b] below meth c H locs cells slots Q (F0 m 485 la []) := by
  obtain ⟨r, M1, M2, q1, q2, q3⟩ := hop M hR [(xs (i + 1)).toInt] rfl (fun a ha => by simp only [List.mem_cons, List.not_mem_nil, or_false] at ha; rcases ha with rfl <;> exact fd_xrng _)
  refine lv_aload_n C0.1 C0.2.1 (by decide +kernel : decode code 485 = .ok (.aload_n 1, 1)) rfl (lv_at hl 1 rfl) ?_
  refine fd_lawArg (k := 1) C0 hbs rfl (by decide +kernel : decode code 486 = .ok (.aload_n 0, 1)) (by decide +kernel : decode code 487 = .ok (.iload_n 3, 1)) (by decide +kernel : decode code 488 = .ok (.iconst 1, 1)) (by decide +kernel : decode code 489 = .ok (.iadd, 1)) (by decide +kernel : decode code 490 = .ok (.iaload, 1)) hl hS (by omega) hL ?_
  refine fd_lawCall (a := 0) (tl := [fd_I (xs (i + 1)).toInt]) (rest := []) C0 hKn (by omega) fd_lq_13a (fun v hv => by simp only [List.mem_cons, List.not_mem_nil, or_false] at hv; rcases hv with rfl <;> rfl) q1 (by decide +kernel : decode code 491 = .ok (.invokevirtual 69, 3)) hH hS hl.1 (by decide) hcs (fun H1 l1 hH1 hS1 => ?_)
  refine lv_aload_n C0.1 C0.2.1 (by decide +kernel : decode code 494 = .ok (.aload_n 2, 1)) rfl (lv_at hl 2 rfl) ?_
  refine fd_lawArg (k := 1) C0 hbs rfl (by decide +kernel : decode code 495 = .ok (.aload_n 0, 1)) (by decide +kernel : decode code 496 = .ok (.iload_n 3, 1)) (by decide +kernel : decode code 497 = .ok (.iconst 1, 1)) (by decide +kernel : decode code 498 = .ok (.iadd, 1)) (by decide +kernel : decode code 499 = .ok (.iaload, 1)) hl hS1 (by omega) hL ?_
  refine fd_lawCall (a := 199) (tl := [fd_I (xs (i + 1)).toInt]) (rest := [fd_cv g (fd_I r)]) C0 hKn (by omega) fd_lq_13b (fun v hv => by simp only [List.mem_cons, List.not_mem_nil, or_false] at hv; rcases hv with rfl <;> rfl) q2 (by decide +kernel : decode code 500 = .ok (.invokevirtual 72, 3)) hH1 hS1 hl.1 (Nat.le_of_ble_eq_true rfl) hcs (fun H2 l2 hH2 hS2 => ?_)
  exact lv_icmp_eq (tgt := 828) C0.1 C0.2.1 (by decide +kernel : decode code 503 = .ok (.if_icmp .eq 325, 3)) (by decide) (fun _ => kk M2 H2 l2 q3 hH2 hS2) (fun q => absurd rfl q)
theorem fd_lq_14a : fd_lq 15 0 1 73 := by decide +kernel
theorem fd_lq_14b : fd_lq 97 199 1 76 := by decide +kernel
theorem fd_lc_14 (C0 : lw_At p s m meth c b L xs) (hKn : fd_Kn g s s.heap) (hbs : g.1 = s.heap.size) (hop : fd_op Rel 15 97 1) (hR : Rel M) (hl : lv_has la 4 [(0, .ref b), (1, .ref g.1), (2, .ref (g.1 + 199)), (3, .int (nI i))]) (hH : fd_hp g true M H) (hS : va_S (fd_A g) s.heap H locs) (hi : i + 4 ≤ L) (hL : L ≤ 256) (hcs : cells ≤ 1000 ∧ slots ≤ 11000) (kk : ∀ (M2 : fd_M) (H2 : Heap) (l2 : List Loc), Rel M2 → fd_hp g true M2 H2 → va_S (fd_A g) s.heap H2 l2 → W p l e room_1 s m #[Value.ref b] below meth c H2 l2 cells slots Q (F0 m 828 la [])) : W p l e room_1 s m #[Value.ref b] below meth c H locs cells slots Q (F0 m 508 la []) := by
  obtain ⟨r, M1, M2, q1, q2, q3⟩ := hop M hR [(xs (i + 1)).toInt] rfl (fun a ha => by simp only [List.mem_cons, List.not_mem_nil, or_false] at ha; rcases ha with rfl <;> exact fd_xrng _)
  refine lv_aload_n C0.1 C0.2.1 (by decide +kernel : decode code 508 = .ok (.aload_n 1, 1)) rfl (lv_at hl 1 rfl) ?_
  refine fd_lawArg (k := 1) C0 hbs rfl (by decide +kernel : decode code 509 = .ok (.aload_n 0, 1)) (by decide +kernel : decode code 510 = .ok (.iload_n 3, 1)) (by decide +kernel : decode code 511 = .ok (.iconst 1, 1)) (by decide +kernel : decode code 512 = .ok (.iadd, 1)) (by decide +kernel : decode code 513 = .ok (.iaload, 1)) hl hS (by omega) hL ?_
  refine fd_lawCall (a := 0) (tl := [fd_I (xs (i + 1)).toInt]) (rest := []) C0 hKn (by omega) fd_lq_14a (fun v hv => by simp only [List.mem_cons, List.not_mem_nil, or_false] at hv; rcases hv with rfl <;> rfl) q1 (by decide +kernel : decode code 514 = .ok (.invokevirtual 73, 3)) hH hS hl.1 (by decide) hcs (fun H1 l1 hH1 hS1 => ?_)
  refine lv_aload_n C0.1 C0.2.1 (by decide +kernel : decode code 517 = .ok (.aload_n 2, 1)) rfl (lv_at hl 2 rfl) ?_
  refine fd_lawArg (k := 1) C0 hbs rfl (by decide +kernel : decode code 518 = .ok (.aload_n 0, 1)) (by decide +kernel : decode code 519 = .ok (.iload_n 3, 1)) (by decide +kernel : decode code 520 = .ok (.iconst 1, 1)) (by decide +kernel : decode code 521 = .ok (.iadd, 1)) (by decide +kernel : decode code 522 = .ok (.iaload, 1)) hl hS1 (by omega) hL ?_
  refine fd_lawCall (a := 199) (tl := [fd_I (xs (i + 1)).toInt]) (rest := [fd_cv g (fd_I r)]) C0 hKn (by omega) fd_lq_14b (fun v hv => by simp only [List.mem_cons, List.not_mem_nil, or_false] at hv; rcases hv with rfl <;> rfl) q2 (by decide +kernel : decode code 523 = .ok (.invokevirtual 76, 3)) hH1 hS1 hl.1 (Nat.le_of_ble_eq_true rfl) hcs (fun H2 l2 hH2 hS2 => ?_)
  exact lv_icmp_eq (tgt := 828) C0.1 C0.2.1 (by decide +kernel : decode code 526 = .ok (.if_icmp .eq 302, 3)) (by decide) (fun _ => kk M2 H2 l2 q3 hH2 hS2) (fun q => absurd rfl q)
theorem fd_lq_15a : fd_lq 16 0 0 77 := by decide +kernel
theorem fd_lq_15b : fd_lq 98 199 0 80 := by decide +kernel
theorem fd_lc_15 (C0 : lw_At p s m meth c b L xs) (hKn : fd_Kn g s s.heap) (hbs : g.1 = s.heap.size) (hop : fd_op Rel 16 98 0) (hR : Rel M) (hl : lv_has la 4 [(0, .ref b), (1, .ref g.1), (2, .ref (g.1 + 199)), (3, .int (nI i))]) (hH : fd_hp g true M H) (hS : va_S (fd_A g) s.heap H locs) (hi : i + 4 ≤ L) (hL : L ≤ 256) (hcs : cells ≤ 1000 ∧ slots ≤ 11000) (kk : ∀ (M2 : fd_M) (H2 : Heap) (l2 : List Loc), Rel M2 → fd_hp g true M2 H2 → va_S (fd_A g) s.heap H2 l2 → W p l e room_1 s m #[Value.ref b] below meth c H2 l2 cells slots Q (F0 m 828 la [])) : W p l e room_1 s m #[Value.ref b] below meth c H locs cells slots Q (F0 m 531 la []) := by
  obtain ⟨r, M1, M2, q1, q2, q3⟩ := hop M hR [] rfl (fun a ha => by cases ha)
  refine lv_aload_n C0.1 C0.2.1 (by decide +kernel : decode code 531 = .ok (.aload_n 1, 1)) rfl (lv_at hl 1 rfl) ?_
  refine fd_lawCall (a := 0) (tl := []) (rest := []) C0 hKn (by omega) fd_lq_15a (fun v hv => by cases hv) q1 (by decide +kernel : decode code 532 = .ok (.invokevirtual 77, 3)) hH hS hl.1 (by decide) hcs (fun H1 l1 hH1 hS1 => ?_)
  refine lv_aload_n C0.1 C0.2.1 (by decide +kernel : decode code 535 = .ok (.aload_n 2, 1)) rfl (lv_at hl 2 rfl) ?_
  refine fd_lawCall (a := 199) (tl := []) (rest := [fd_cv g (fd_I r)]) C0 hKn (by omega) fd_lq_15b (fun v hv => by cases hv) q2 (by decide +kernel : decode code 536 = .ok (.invokevirtual 80, 3)) hH1 hS1 hl.1 (Nat.le_of_ble_eq_true rfl) hcs (fun H2 l2 hH2 hS2 => ?_)
  exact lv_icmp_eq (tgt := 828) C0.1 C0.2.1 (by decide +kernel : decode code 539 = .ok (.if_icmp .eq 289, 3)) (by decide) (fun _ => kk M2 H2 l2 q3 hH2 hS2) (fun q => absurd rfl q)
theorem fd_lq_16a : fd_lq 17 0 1 81 := by decide +kernel
theorem fd_lq_16b : fd_lq 99 199 1 84 := by decide +kernel
theorem fd_lc_16 (C0 : lw_At p s m meth c b L xs) (hKn : fd_Kn g s s.heap) (hbs : g.1 = s.heap.size) (hop : fd_op Rel 17 99 1) (hR : Rel M) (hl : lv_has la 4 [(0, .ref b), (1, .ref g.1), (2, .ref (g.1 + 199)), (3, .int (nI i))]) (hH : fd_hp g true M H) (hS : va_S (fd_A g) s.heap H locs) (hi : i + 4 ≤ L) (hL : L ≤ 256) (hcs : cells ≤ 1000 ∧ slots ≤ 11000) (kk : ∀ (M2 : fd_M) (H2 : Heap) (l2 : List Loc), Rel M2 → fd_hp g true M2 H2 → va_S (fd_A g) s.heap H2 l2 → W p l e room_1 s m #[Value.ref b] below meth c H2 l2 cells slots Q (F0 m 828 la [])) : W p l e room_1 s m #[Value.ref b] below meth c H locs cells slots Q (F0 m 544 la []) := by
  obtain ⟨r, M1, M2, q1, q2, q3⟩ := hop M hR [(xs (i + 1)).toInt] rfl (fun a ha => by simp only [List.mem_cons, List.not_mem_nil, or_false] at ha; rcases ha with rfl <;> exact fd_xrng _)
  refine lv_aload_n C0.1 C0.2.1 (by decide +kernel : decode code 544 = .ok (.aload_n 1, 1)) rfl (lv_at hl 1 rfl) ?_
  refine fd_lawArg (k := 1) C0 hbs rfl (by decide +kernel : decode code 545 = .ok (.aload_n 0, 1)) (by decide +kernel : decode code 546 = .ok (.iload_n 3, 1)) (by decide +kernel : decode code 547 = .ok (.iconst 1, 1)) (by decide +kernel : decode code 548 = .ok (.iadd, 1)) (by decide +kernel : decode code 549 = .ok (.iaload, 1)) hl hS (by omega) hL ?_
  refine fd_lawCall (a := 0) (tl := [fd_I (xs (i + 1)).toInt]) (rest := []) C0 hKn (by omega) fd_lq_16a (fun v hv => by simp only [List.mem_cons, List.not_mem_nil, or_false] at hv; rcases hv with rfl <;> rfl) q1 (by decide +kernel : decode code 550 = .ok (.invokevirtual 81, 3)) hH hS hl.1 (by decide) hcs (fun H1 l1 hH1 hS1 => ?_)
  refine lv_aload_n C0.1 C0.2.1 (by decide +kernel : decode code 553 = .ok (.aload_n 2, 1)) rfl (lv_at hl 2 rfl) ?_
  refine fd_lawArg (k := 1) C0 hbs rfl (by decide +kernel : decode code 554 = .ok (.aload_n 0, 1)) (by decide +kernel : decode code 555 = .ok (.iload_n 3, 1)) (by decide +kernel : decode code 556 = .ok (.iconst 1, 1)) (by decide +kernel : decode code 557 = .ok (.iadd, 1)) (by decide +kernel : decode code 558 = .ok (.iaload, 1)) hl hS1 (by omega) hL ?_
  refine fd_lawCall (a := 199) (tl := [fd_I (xs (i + 1)).toInt]) (rest := [fd_cv g (fd_I r)]) C0 hKn (by omega) fd_lq_16b (fun v hv => by simp only [List.mem_cons, List.not_mem_nil, or_false] at hv; rcases hv with rfl <;> rfl) q2 (by decide +kernel : decode code 559 = .ok (.invokevirtual 84, 3)) hH1 hS1 hl.1 (Nat.le_of_ble_eq_true rfl) hcs (fun H2 l2 hH2 hS2 => ?_)
  exact lv_icmp_eq (tgt := 828) C0.1 C0.2.1 (by decide +kernel : decode code 562 = .ok (.if_icmp .eq 266, 3)) (by decide) (fun _ => kk M2 H2 l2 q3 hH2 hS2) (fun q => absurd rfl q)
theorem fd_lq_17a : fd_lq 18 0 2 85 := by decide +kernel
theorem fd_lq_17b : fd_lq 100 199 2 88 := by decide +kernel
theorem fd_lc_17 (C0 : lw_At p s m meth c b L xs) (hKn : fd_Kn g s s.heap) (hbs : g.1 = s.heap.size) (hop : fd_op Rel 18 100 2) (hR : Rel M) (hl : lv_has la 4 [(0, .ref b), (1, .ref g.1), (2, .ref (g.1 + 199)), (3, .int (nI i))]) (hH : fd_hp g true M H) (hS : va_S (fd_A g) s.heap H locs) (hi : i + 4 ≤ L) (hL : L ≤ 256) (hcs : cells ≤ 1000 ∧ slots ≤ 11000) (kk : ∀ (M2 : fd_M) (H2 : Heap) (l2 : List Loc), Rel M2 → fd_hp g true M2 H2 → va_S (fd_A g) s.heap H2 l2 → W p l e room_1 s m #[Value.ref b] below meth c H2 l2 cells slots Q (F0 m 828 la [])) : W p l e room_1 s m #[Value.ref b] below meth c H locs cells slots Q (F0 m 567 la []) := by
  obtain ⟨r, M1, M2, q1, q2, q3⟩ := hop M hR [(xs (i + 1)).toInt, (xs (i + 2)).toInt] rfl (fun a ha => by simp only [List.mem_cons, List.not_mem_nil, or_false] at ha; rcases ha with rfl | rfl <;> exact fd_xrng _)
  refine lv_aload_n C0.1 C0.2.1 (by decide +kernel : decode code 567 = .ok (.aload_n 1, 1)) rfl (lv_at hl 1 rfl) ?_
  refine fd_lawArg (k := 1) C0 hbs rfl (by decide +kernel : decode code 568 = .ok (.aload_n 0, 1)) (by decide +kernel : decode code 569 = .ok (.iload_n 3, 1)) (by decide +kernel : decode code 570 = .ok (.iconst 1, 1)) (by decide +kernel : decode code 571 = .ok (.iadd, 1)) (by decide +kernel : decode code 572 = .ok (.iaload, 1)) hl hS (by omega) hL ?_
  refine fd_lawArg (k := 2) C0 hbs rfl (by decide +kernel : decode code 573 = .ok (.aload_n 0, 1)) (by decide +kernel : decode code 574 = .ok (.iload_n 3, 1)) (by decide +kernel : decode code 575 = .ok (.iconst 2, 1)) (by decide +kernel : decode code 576 = .ok (.iadd, 1)) (by decide +kernel : decode code 577 = .ok (.iaload, 1)) hl hS (by omega) hL ?_
  refine fd_lawCall (a := 0) (tl := [fd_I (xs (i + 1)).toInt, fd_I (xs (i + 2)).toInt]) (rest := []) C0 hKn (by omega) fd_lq_17a (fun v hv => by simp only [List.mem_cons, List.not_mem_nil, or_false] at hv; rcases hv with rfl | rfl <;> rfl) q1 (by decide +kernel : decode code 578 = .ok (.invokevirtual 85, 3)) hH hS hl.1 (by decide) hcs (fun H1 l1 hH1 hS1 => ?_)
  refine lv_aload_n C0.1 C0.2.1 (by decide +kernel : decode code 581 = .ok (.aload_n 2, 1)) rfl (lv_at hl 2 rfl) ?_
  refine fd_lawArg (k := 1) C0 hbs rfl (by decide +kernel : decode code 582 = .ok (.aload_n 0, 1)) (by decide +kernel : decode code 583 = .ok (.iload_n 3, 1)) (by decide +kernel : decode code 584 = .ok (.iconst 1, 1)) (by decide +kernel : decode code 585 = .ok (.iadd, 1)) (by decide +kernel : decode code 586 = .ok (.iaload, 1)) hl hS1 (by omega) hL ?_
  refine fd_lawArg (k := 2) C0 hbs rfl (by decide +kernel : decode code 587 = .ok (.aload_n 0, 1)) (by decide +kernel : decode code 588 = .ok (.iload_n 3, 1)) (by decide +kernel : decode code 589 = .ok (.iconst 2, 1)) (by decide +kernel : decode code 590 = .ok (.iadd, 1)) (by decide +kernel : decode code 591 = .ok (.iaload, 1)) hl hS1 (by omega) hL ?_
  refine fd_lawCall (a := 199) (tl := [fd_I (xs (i + 1)).toInt, fd_I (xs (i + 2)).toInt]) (rest := [fd_cv g (fd_I r)]) C0 hKn (by omega) fd_lq_17b (fun v hv => by simp only [List.mem_cons, List.not_mem_nil, or_false] at hv; rcases hv with rfl | rfl <;> rfl) q2 (by decide +kernel : decode code 592 = .ok (.invokevirtual 88, 3)) hH1 hS1 hl.1 (Nat.le_of_ble_eq_true rfl) hcs (fun H2 l2 hH2 hS2 => ?_)
  exact lv_icmp_eq (tgt := 828) C0.1 C0.2.1 (by decide +kernel : decode code 595 = .ok (.if_icmp .eq 233, 3)) (by decide) (fun _ => kk M2 H2 l2 q3 hH2 hS2) (fun q => absurd rfl q)
theorem fd_lq_18a : fd_lq 19 0 0 89 := by decide +kernel
theorem fd_lq_18b : fd_lq 101 199 0 92 := by decide +kernel
theorem fd_lc_18 (C0 : lw_At p s m meth c b L xs) (hKn : fd_Kn g s s.heap) (hbs : g.1 = s.heap.size) (hop : fd_op Rel 19 101 0) (hR : Rel M) (hl : lv_has la 4 [(0, .ref b), (1, .ref g.1), (2, .ref (g.1 + 199)), (3, .int (nI i))]) (hH : fd_hp g true M H) (hS : va_S (fd_A g) s.heap H locs) (hi : i + 4 ≤ L) (hL : L ≤ 256) (hcs : cells ≤ 1000 ∧ slots ≤ 11000) (kk : ∀ (M2 : fd_M) (H2 : Heap) (l2 : List Loc), Rel M2 → fd_hp g true M2 H2 → va_S (fd_A g) s.heap H2 l2 → W p l e room_1 s m #[Value.ref b] below meth c H2 l2 cells slots Q (F0 m 828 la [])) : W p l e room_1 s m #[Value.ref b] below meth c H locs cells slots Q (F0 m 600 la []) := by
  obtain ⟨r, M1, M2, q1, q2, q3⟩ := hop M hR [] rfl (fun a ha => by cases ha)
  refine lv_aload_n C0.1 C0.2.1 (by decide +kernel : decode code 600 = .ok (.aload_n 1, 1)) rfl (lv_at hl 1 rfl) ?_
  refine fd_lawCall (a := 0) (tl := []) (rest := []) C0 hKn (by omega) fd_lq_18a (fun v hv => by cases hv) q1 (by decide +kernel : decode code 601 = .ok (.invokevirtual 89, 3)) hH hS hl.1 (by decide) hcs (fun H1 l1 hH1 hS1 => ?_)
  refine lv_aload_n C0.1 C0.2.1 (by decide +kernel : decode code 604 = .ok (.aload_n 2, 1)) rfl (lv_at hl 2 rfl) ?_
  refine fd_lawCall (a := 199) (tl := []) (rest := [fd_cv g (fd_I r)]) C0 hKn (by omega) fd_lq_18b (fun v hv => by cases hv) q2 (by decide +kernel : decode code 605 = .ok (.invokevirtual 92, 3)) hH1 hS1 hl.1 (Nat.le_of_ble_eq_true rfl) hcs (fun H2 l2 hH2 hS2 => ?_)
  exact lv_icmp_eq (tgt := 828) C0.1 C0.2.1 (by decide +kernel : decode code 608 = .ok (.if_icmp .eq 220, 3)) (by decide) (fun _ => kk M2 H2 l2 q3 hH2 hS2) (fun q => absurd rfl q)
theorem fd_lq_19a : fd_lq 20 0 1 93 := by decide +kernel
theorem fd_lq_19b : fd_lq 102 199 1 96 := by decide +kernel
theorem fd_lc_19 (C0 : lw_At p s m meth c b L xs) (hKn : fd_Kn g s s.heap) (hbs : g.1 = s.heap.size) (hop : fd_op Rel 20 102 1) (hR : Rel M) (hl : lv_has la 4 [(0, .ref b), (1, .ref g.1), (2, .ref (g.1 + 199)), (3, .int (nI i))]) (hH : fd_hp g true M H) (hS : va_S (fd_A g) s.heap H locs) (hi : i + 4 ≤ L) (hL : L ≤ 256) (hcs : cells ≤ 1000 ∧ slots ≤ 11000) (kk : ∀ (M2 : fd_M) (H2 : Heap) (l2 : List Loc), Rel M2 → fd_hp g true M2 H2 → va_S (fd_A g) s.heap H2 l2 → W p l e room_1 s m #[Value.ref b] below meth c H2 l2 cells slots Q (F0 m 828 la [])) : W p l e room_1 s m #[Value.ref b] below meth c H locs cells slots Q (F0 m 613 la []) := by
  obtain ⟨r, M1, M2, q1, q2, q3⟩ := hop M hR [(xs (i + 1)).toInt] rfl (fun a ha => by simp only [List.mem_cons, List.not_mem_nil, or_false] at ha; rcases ha with rfl <;> exact fd_xrng _)
  refine lv_aload_n C0.1 C0.2.1 (by decide +kernel : decode code 613 = .ok (.aload_n 1, 1)) rfl (lv_at hl 1 rfl) ?_
  refine fd_lawArg (k := 1) C0 hbs rfl (by decide +kernel : decode code 614 = .ok (.aload_n 0, 1)) (by decide +kernel : decode code 615 = .ok (.iload_n 3, 1)) (by decide +kernel : decode code 616 = .ok (.iconst 1, 1)) (by decide +kernel : decode code 617 = .ok (.iadd, 1)) (by decide +kernel : decode code 618 = .ok (.iaload, 1)) hl hS (by omega) hL ?_
  refine fd_lawCall (a := 0) (tl := [fd_I (xs (i + 1)).toInt]) (rest := []) C0 hKn (by omega) fd_lq_19a (fun v hv => by simp only [List.mem_cons, List.not_mem_nil, or_false] at hv; rcases hv with rfl <;> rfl) q1 (by decide +kernel : decode code 619 = .ok (.invokevirtual 93, 3)) hH hS hl.1 (by decide) hcs (fun H1 l1 hH1 hS1 => ?_)
  refine lv_aload_n C0.1 C0.2.1 (by decide +kernel : decode code 622 = .ok (.aload_n 2, 1)) rfl (lv_at hl 2 rfl) ?_
  refine fd_lawArg (k := 1) C0 hbs rfl (by decide +kernel : decode code 623 = .ok (.aload_n 0, 1)) (by decide +kernel : decode code 624 = .ok (.iload_n 3, 1)) (by decide +kernel : decode code 625 = .ok (.iconst 1, 1)) (by decide +kernel : decode code 626 = .ok (.iadd, 1)) (by decide +kernel : decode code 627 = .ok (.iaload, 1)) hl hS1 (by omega) hL ?_
  refine fd_lawCall (a := 199) (tl := [fd_I (xs (i + 1)).toInt]) (rest := [fd_cv g (fd_I r)]) C0 hKn (by omega) fd_lq_19b (fun v hv => by simp only [List.mem_cons, List.not_mem_nil, or_false] at hv; rcases hv with rfl <;> rfl) q2 (by decide +kernel : decode code 628 = .ok (.invokevirtual 96, 3)) hH1 hS1 hl.1 (Nat.le_of_ble_eq_true rfl) hcs (fun H2 l2 hH2 hS2 => ?_)
  exact lv_icmp_eq (tgt := 828) C0.1 C0.2.1 (by decide +kernel : decode code 631 = .ok (.if_icmp .eq 197, 3)) (by decide) (fun _ => kk M2 H2 l2 q3 hH2 hS2) (fun q => absurd rfl q)
theorem fd_lq_20a : fd_lq 21 0 3 97 := by decide +kernel
theorem fd_lq_20b : fd_lq 105 199 3 100 := by decide +kernel
theorem fd_lc_20 (C0 : lw_At p s m meth c b L xs) (hKn : fd_Kn g s s.heap) (hbs : g.1 = s.heap.size) (hop : fd_op Rel 21 105 3) (hR : Rel M) (hl : lv_has la 4 [(0, .ref b), (1, .ref g.1), (2, .ref (g.1 + 199)), (3, .int (nI i))]) (hH : fd_hp g true M H) (hS : va_S (fd_A g) s.heap H locs) (hi : i + 4 ≤ L) (hL : L ≤ 256) (hcs : cells ≤ 1000 ∧ slots ≤ 11000) (kk : ∀ (M2 : fd_M) (H2 : Heap) (l2 : List Loc), Rel M2 → fd_hp g true M2 H2 → va_S (fd_A g) s.heap H2 l2 → W p l e room_1 s m #[Value.ref b] below meth c H2 l2 cells slots Q (F0 m 828 la [])) : W p l e room_1 s m #[Value.ref b] below meth c H locs cells slots Q (F0 m 636 la []) := by
  obtain ⟨r, M1, M2, q1, q2, q3⟩ := hop M hR [(xs (i + 1)).toInt, (xs (i + 2)).toInt, (xs (i + 3)).toInt] rfl (fun a ha => by simp only [List.mem_cons, List.not_mem_nil, or_false] at ha; rcases ha with rfl | rfl | rfl <;> exact fd_xrng _)
  refine lv_aload_n C0.1 C0.2.1 (by decide +kernel : decode code 636 = .ok (.aload_n 1, 1)) rfl (lv_at hl 1 rfl) ?_
  refine fd_lawArg (k := 1) C0 hbs rfl (by decide +kernel : decode code 637 = .ok (.aload_n 0, 1)) (by decide +kernel : decode code 638 = .ok (.iload_n 3, 1)) (by decide +kernel : decode code 639 = .ok (.iconst 1, 1)) (by decide +kernel : decode code 640 = .ok (.iadd, 1)) (by decide +kernel : decode code 641 = .ok (.iaload, 1)) hl hS (by omega) hL ?_
  refine fd_lawArg (k := 2) C0 hbs rfl (by decide +kernel : decode code 642 = .ok (.aload_n 0, 1)) (by decide +kernel : decode code 643 = .ok (.iload_n 3, 1)) (by decide +kernel : decode code 644 = .ok (.iconst 2, 1)) (by decide +kernel : decode code 645 = .ok (.iadd, 1)) (by decide +kernel : decode code 646 = .ok (.iaload, 1)) hl hS (by omega) hL ?_
  refine fd_lawArg (k := 3) C0 hbs rfl (by decide +kernel : decode code 647 = .ok (.aload_n 0, 1)) (by decide +kernel : decode code 648 = .ok (.iload_n 3, 1)) (by decide +kernel : decode code 649 = .ok (.iconst 3, 1)) (by decide +kernel : decode code 650 = .ok (.iadd, 1)) (by decide +kernel : decode code 651 = .ok (.iaload, 1)) hl hS (by omega) hL ?_
  refine fd_lawCall (a := 0) (tl := [fd_I (xs (i + 1)).toInt, fd_I (xs (i + 2)).toInt, fd_I (xs (i + 3)).toInt]) (rest := []) C0 hKn (by omega) fd_lq_20a (fun v hv => by simp only [List.mem_cons, List.not_mem_nil, or_false] at hv; rcases hv with rfl | rfl | rfl <;> rfl) q1 (by decide +kernel : decode code 652 = .ok (.invokevirtual 97, 3)) hH hS hl.1 (by decide) hcs (fun H1 l1 hH1 hS1 => ?_)
  refine lv_aload_n C0.1 C0.2.1 (by decide +kernel : decode code 655 = .ok (.aload_n 2, 1)) rfl (lv_at hl 2 rfl) ?_
  refine fd_lawArg (k := 1) C0 hbs rfl (by decide +kernel : decode code 656 = .ok (.aload_n 0, 1)) (by decide +kernel : decode code 657 = .ok (.iload_n 3, 1)) (by decide +kernel : decode code 658 = .ok (.iconst 1, 1)) (by decide +kernel : decode code 659 = .ok (.iadd, 1)) (by decide +kernel : decode code 660 = .ok (.iaload, 1)) hl hS1 (by omega) hL ?_
  refine fd_lawArg (k := 2) C0 hbs rfl (by decide +kernel : decode code 661 = .ok (.aload_n 0, 1)) (by decide +kernel : decode code 662 = .ok (.iload_n 3, 1)) (by decide +kernel : decode code 663 = .ok (.iconst 2, 1)) (by decide +kernel : decode code 664 = .ok (.iadd, 1)) (by decide +kernel : decode code 665 = .ok (.iaload, 1)) hl hS1 (by omega) hL ?_
  refine fd_lawArg (k := 3) C0 hbs rfl (by decide +kernel : decode code 666 = .ok (.aload_n 0, 1)) (by decide +kernel : decode code 667 = .ok (.iload_n 3, 1)) (by decide +kernel : decode code 668 = .ok (.iconst 3, 1)) (by decide +kernel : decode code 669 = .ok (.iadd, 1)) (by decide +kernel : decode code 670 = .ok (.iaload, 1)) hl hS1 (by omega) hL ?_
  refine fd_lawCall (a := 199) (tl := [fd_I (xs (i + 1)).toInt, fd_I (xs (i + 2)).toInt, fd_I (xs (i + 3)).toInt]) (rest := [fd_cv g (fd_I r)]) C0 hKn (by omega) fd_lq_20b (fun v hv => by simp only [List.mem_cons, List.not_mem_nil, or_false] at hv; rcases hv with rfl | rfl | rfl <;> rfl) q2 (by decide +kernel : decode code 671 = .ok (.invokevirtual 100, 3)) hH1 hS1 hl.1 (Nat.le_of_ble_eq_true rfl) hcs (fun H2 l2 hH2 hS2 => ?_)
  exact lv_icmp_eq (tgt := 828) C0.1 C0.2.1 (by decide +kernel : decode code 674 = .ok (.if_icmp .eq 154, 3)) (by decide) (fun _ => kk M2 H2 l2 q3 hH2 hS2) (fun q => absurd rfl q)
theorem fd_lq_21a : fd_lq 22 0 2 101 := by decide +kernel
theorem fd_lq_21b : fd_lq 106 199 2 104 := by decide +kernel
theorem fd_lc_21 (C0 : lw_At p s m meth c b L xs) (hKn : fd_Kn g s s.heap) (hbs : g.1 = s.heap.size) (hop : fd_op Rel 22 106 2) (hR : Rel M) (hl : lv_has la 4 [(0, .ref b), (1, .ref g.1), (2, .ref (g.1 + 199)), (3, .int (nI i))]) (hH : fd_hp g true M H) (hS : va_S (fd_A g) s.heap H locs) (hi : i + 4 ≤ L) (hL : L ≤ 256) (hcs : cells ≤ 1000 ∧ slots ≤ 11000) (kk : ∀ (M2 : fd_M) (H2 : Heap) (l2 : List Loc), Rel M2 → fd_hp g true M2 H2 → va_S (fd_A g) s.heap H2 l2 → W p l e room_1 s m #[Value.ref b] below meth c H2 l2 cells slots Q (F0 m 828 la [])) : W p l e room_1 s m #[Value.ref b] below meth c H locs cells slots Q (F0 m 679 la []) := by
  obtain ⟨r, M1, M2, q1, q2, q3⟩ := hop M hR [(xs (i + 1)).toInt, (xs (i + 2)).toInt] rfl (fun a ha => by simp only [List.mem_cons, List.not_mem_nil, or_false] at ha; rcases ha with rfl | rfl <;> exact fd_xrng _)
  refine lv_aload_n C0.1 C0.2.1 (by decide +kernel : decode code 679 = .ok (.aload_n 1, 1)) rfl (lv_at hl 1 rfl) ?_
  refine fd_lawArg (k := 1) C0 hbs rfl (by decide +kernel : decode code 680 = .ok (.aload_n 0, 1)) (by decide +kernel : decode code 681 = .ok (.iload_n 3, 1)) (by decide +kernel : decode code 682 = .ok (.iconst 1, 1)) (by decide +kernel : decode code 683 = .ok (.iadd, 1)) (by decide +kernel : decode code 684 = .ok (.iaload, 1)) hl hS (by omega) hL ?_
  refine fd_lawArg (k := 2) C0 hbs rfl (by decide +kernel : decode code 685 = .ok (.aload_n 0, 1)) (by decide +kernel : decode code 686 = .ok (.iload_n 3, 1)) (by decide +kernel : decode code 687 = .ok (.iconst 2, 1)) (by decide +kernel : decode code 688 = .ok (.iadd, 1)) (by decide +kernel : decode code 689 = .ok (.iaload, 1)) hl hS (by omega) hL ?_
  refine fd_lawCall (a := 0) (tl := [fd_I (xs (i + 1)).toInt, fd_I (xs (i + 2)).toInt]) (rest := []) C0 hKn (by omega) fd_lq_21a (fun v hv => by simp only [List.mem_cons, List.not_mem_nil, or_false] at hv; rcases hv with rfl | rfl <;> rfl) q1 (by decide +kernel : decode code 690 = .ok (.invokevirtual 101, 3)) hH hS hl.1 (by decide) hcs (fun H1 l1 hH1 hS1 => ?_)
  refine lv_aload_n C0.1 C0.2.1 (by decide +kernel : decode code 693 = .ok (.aload_n 2, 1)) rfl (lv_at hl 2 rfl) ?_
  refine fd_lawArg (k := 1) C0 hbs rfl (by decide +kernel : decode code 694 = .ok (.aload_n 0, 1)) (by decide +kernel : decode code 695 = .ok (.iload_n 3, 1)) (by decide +kernel : decode code 696 = .ok (.iconst 1, 1)) (by decide +kernel : decode code 697 = .ok (.iadd, 1)) (by decide +kernel : decode code 698 = .ok (.iaload, 1)) hl hS1 (by omega) hL ?_
  refine fd_lawArg (k := 2) C0 hbs rfl (by decide +kernel : decode code 699 = .ok (.aload_n 0, 1)) (by decide +kernel : decode code 700 = .ok (.iload_n 3, 1)) (by decide +kernel : decode code 701 = .ok (.iconst 2, 1)) (by decide +kernel : decode code 702 = .ok (.iadd, 1)) (by decide +kernel : decode code 703 = .ok (.iaload, 1)) hl hS1 (by omega) hL ?_
  refine fd_lawCall (a := 199) (tl := [fd_I (xs (i + 1)).toInt, fd_I (xs (i + 2)).toInt]) (rest := [fd_cv g (fd_I r)]) C0 hKn (by omega) fd_lq_21b (fun v hv => by simp only [List.mem_cons, List.not_mem_nil, or_false] at hv; rcases hv with rfl | rfl <;> rfl) q2 (by decide +kernel : decode code 704 = .ok (.invokevirtual 104, 3)) hH1 hS1 hl.1 (Nat.le_of_ble_eq_true rfl) hcs (fun H2 l2 hH2 hS2 => ?_)
  exact lv_icmp_eq (tgt := 828) C0.1 C0.2.1 (by decide +kernel : decode code 707 = .ok (.if_icmp .eq 121, 3)) (by decide) (fun _ => kk M2 H2 l2 q3 hH2 hS2) (fun q => absurd rfl q)
theorem fd_lq_22a : fd_lq 23 0 2 105 := by decide +kernel
theorem fd_lq_22b : fd_lq 107 199 2 108 := by decide +kernel
theorem fd_lc_22 (C0 : lw_At p s m meth c b L xs) (hKn : fd_Kn g s s.heap) (hbs : g.1 = s.heap.size) (hop : fd_op Rel 23 107 2) (hR : Rel M) (hl : lv_has la 4 [(0, .ref b), (1, .ref g.1), (2, .ref (g.1 + 199)), (3, .int (nI i))]) (hH : fd_hp g true M H) (hS : va_S (fd_A g) s.heap H locs) (hi : i + 4 ≤ L) (hL : L ≤ 256) (hcs : cells ≤ 1000 ∧ slots ≤ 11000) (kk : ∀ (M2 : fd_M) (H2 : Heap) (l2 : List Loc), Rel M2 → fd_hp g true M2 H2 → va_S (fd_A g) s.heap H2 l2 → W p l e room_1 s m #[Value.ref b] below meth c H2 l2 cells slots Q (F0 m 828 la [])) : W p l e room_1 s m #[Value.ref b] below meth c H locs cells slots Q (F0 m 712 la []) := by
  obtain ⟨r, M1, M2, q1, q2, q3⟩ := hop M hR [(xs (i + 1)).toInt, (xs (i + 2)).toInt] rfl (fun a ha => by simp only [List.mem_cons, List.not_mem_nil, or_false] at ha; rcases ha with rfl | rfl <;> exact fd_xrng _)
  refine lv_aload_n C0.1 C0.2.1 (by decide +kernel : decode code 712 = .ok (.aload_n 1, 1)) rfl (lv_at hl 1 rfl) ?_
  refine fd_lawArg (k := 1) C0 hbs rfl (by decide +kernel : decode code 713 = .ok (.aload_n 0, 1)) (by decide +kernel : decode code 714 = .ok (.iload_n 3, 1)) (by decide +kernel : decode code 715 = .ok (.iconst 1, 1)) (by decide +kernel : decode code 716 = .ok (.iadd, 1)) (by decide +kernel : decode code 717 = .ok (.iaload, 1)) hl hS (by omega) hL ?_
  refine fd_lawArg (k := 2) C0 hbs rfl (by decide +kernel : decode code 718 = .ok (.aload_n 0, 1)) (by decide +kernel : decode code 719 = .ok (.iload_n 3, 1)) (by decide +kernel : decode code 720 = .ok (.iconst 2, 1)) (by decide +kernel : decode code 721 = .ok (.iadd, 1)) (by decide +kernel : decode code 722 = .ok (.iaload, 1)) hl hS (by omega) hL ?_
  refine fd_lawCall (a := 0) (tl := [fd_I (xs (i + 1)).toInt, fd_I (xs (i + 2)).toInt]) (rest := []) C0 hKn (by omega) fd_lq_22a (fun v hv => by simp only [List.mem_cons, List.not_mem_nil, or_false] at hv; rcases hv with rfl | rfl <;> rfl) q1 (by decide +kernel : decode code 723 = .ok (.invokevirtual 105, 3)) hH hS hl.1 (by decide) hcs (fun H1 l1 hH1 hS1 => ?_)
  refine lv_aload_n C0.1 C0.2.1 (by decide +kernel : decode code 726 = .ok (.aload_n 2, 1)) rfl (lv_at hl 2 rfl) ?_
  refine fd_lawArg (k := 1) C0 hbs rfl (by decide +kernel : decode code 727 = .ok (.aload_n 0, 1)) (by decide +kernel : decode code 728 = .ok (.iload_n 3, 1)) (by decide +kernel : decode code 729 = .ok (.iconst 1, 1)) (by decide +kernel : decode code 730 = .ok (.iadd, 1)) (by decide +kernel : decode code 731 = .ok (.iaload, 1)) hl hS1 (by omega) hL ?_
  refine fd_lawArg (k := 2) C0 hbs rfl (by decide +kernel : decode code 732 = .ok (.aload_n 0, 1)) (by decide +kernel : decode code 733 = .ok (.iload_n 3, 1)) (by decide +kernel : decode code 734 = .ok (.iconst 2, 1)) (by decide +kernel : decode code 735 = .ok (.iadd, 1)) (by decide +kernel : decode code 736 = .ok (.iaload, 1)) hl hS1 (by omega) hL ?_
  refine fd_lawCall (a := 199) (tl := [fd_I (xs (i + 1)).toInt, fd_I (xs (i + 2)).toInt]) (rest := [fd_cv g (fd_I r)]) C0 hKn (by omega) fd_lq_22b (fun v hv => by simp only [List.mem_cons, List.not_mem_nil, or_false] at hv; rcases hv with rfl | rfl <;> rfl) q2 (by decide +kernel : decode code 737 = .ok (.invokevirtual 108, 3)) hH1 hS1 hl.1 (Nat.le_of_ble_eq_true rfl) hcs (fun H2 l2 hH2 hS2 => ?_)
  exact lv_icmp_eq (tgt := 828) C0.1 C0.2.1 (by decide +kernel : decode code 740 = .ok (.if_icmp .eq 88, 3)) (by decide) (fun _ => kk M2 H2 l2 q3 hH2 hS2) (fun q => absurd rfl q)
theorem fd_lq_23a : fd_lq 24 0 1 109 := by decide +kernel
theorem fd_lq_23b : fd_lq 108 199 1 112 := by decide +kernel
theorem fd_lc_23 (C0 : lw_At p s m meth c b L xs) (hKn : fd_Kn g s s.heap) (hbs : g.1 = s.heap.size) (hop : fd_op Rel 24 108 1) (hR : Rel M) (hl : lv_has la 4 [(0, .ref b), (1, .ref g.1), (2, .ref (g.1 + 199)), (3, .int (nI i))]) (hH : fd_hp g true M H) (hS : va_S (fd_A g) s.heap H locs) (hi : i + 4 ≤ L) (hL : L ≤ 256) (hcs : cells ≤ 1000 ∧ slots ≤ 11000) (kk : ∀ (M2 : fd_M) (H2 : Heap) (l2 : List Loc), Rel M2 → fd_hp g true M2 H2 → va_S (fd_A g) s.heap H2 l2 → W p l e room_1 s m #[Value.ref b] below meth c H2 l2 cells slots Q (F0 m 828 la [])) : W p l e room_1 s m #[Value.ref b] below meth c H locs cells slots Q (F0 m 745 la []) := by
  obtain ⟨r, M1, M2, q1, q2, q3⟩ := hop M hR [(xs (i + 1)).toInt] rfl (fun a ha => by simp only [List.mem_cons, List.not_mem_nil, or_false] at ha; rcases ha with rfl <;> exact fd_xrng _)
  refine lv_aload_n C0.1 C0.2.1 (by decide +kernel : decode code 745 = .ok (.aload_n 1, 1)) rfl (lv_at hl 1 rfl) ?_
  refine fd_lawArg (k := 1) C0 hbs rfl (by decide +kernel : decode code 746 = .ok (.aload_n 0, 1)) (by decide +kernel : decode code 747 = .ok (.iload_n 3, 1)) (by decide +kernel : decode code 748 = .ok (.iconst 1, 1)) (by decide +kernel : decode code 749 = .ok (.iadd, 1)) (by decide +kernel : decode code 750 = .ok (.iaload, 1)) hl hS (by omega) hL ?_
  refine fd_lawCall (a := 0) (tl := [fd_I (xs (i + 1)).toInt]) (rest := []) C0 hKn (by omega) fd_lq_23a (fun v hv => by simp only [List.mem_cons, List.not_mem_nil, or_false] at hv; rcases hv with rfl <;> rfl) q1 (by decide +kernel : decode code 751 = .ok (.invokevirtual 109, 3)) hH hS hl.1 (by decide) hcs (fun H1 l1 hH1 hS1 => ?_)
  refine lv_aload_n C0.1 C0.2.1 (by decide +kernel : decode code 754 = .ok (.aload_n 2, 1)) rfl (lv_at hl 2 rfl) ?_
  refine fd_lawArg (k := 1) C0 hbs rfl (by decide +kernel : decode code 755 = .ok (.aload_n 0, 1)) (by decide +kernel : decode code 756 = .ok (.iload_n 3, 1)) (by decide +kernel : decode code 757 = .ok (.iconst 1, 1)) (by decide +kernel : decode code 758 = .ok (.iadd, 1)) (by decide +kernel : decode code 759 = .ok (.iaload, 1)) hl hS1 (by omega) hL ?_
  refine fd_lawCall (a := 199) (tl := [fd_I (xs (i + 1)).toInt]) (rest := [fd_cv g (fd_I r)]) C0 hKn (by omega) fd_lq_23b (fun v hv => by simp only [List.mem_cons, List.not_mem_nil, or_false] at hv; rcases hv with rfl <;> rfl) q2 (by decide +kernel : decode code 760 = .ok (.invokevirtual 112, 3)) hH1 hS1 hl.1 (Nat.le_of_ble_eq_true rfl) hcs (fun H2 l2 hH2 hS2 => ?_)
  exact lv_icmp_eq (tgt := 828) C0.1 C0.2.1 (by decide +kernel : decode code 763 = .ok (.if_icmp .eq 65, 3)) (by decide) (fun _ => kk M2 H2 l2 q3 hH2 hS2) (fun q => absurd rfl q)
theorem fd_lq_24a : fd_lq 25 0 1 113 := by decide +kernel
theorem fd_lq_24b : fd_lq 109 199 1 116 := by decide +kernel
theorem fd_lc_24 (C0 : lw_At p s m meth c b L xs) (hKn : fd_Kn g s s.heap) (hbs : g.1 = s.heap.size) (hop : fd_op Rel 25 109 1) (hR : Rel M) (hl : lv_has la 4 [(0, .ref b), (1, .ref g.1), (2, .ref (g.1 + 199)), (3, .int (nI i))]) (hH : fd_hp g true M H) (hS : va_S (fd_A g) s.heap H locs) (hi : i + 4 ≤ L) (hL : L ≤ 256) (hcs : cells ≤ 1000 ∧ slots ≤ 11000) (kk : ∀ (M2 : fd_M) (H2 : Heap) (l2 : List Loc), Rel M2 → fd_hp g true M2 H2 → va_S (fd_A g) s.heap H2 l2 → W p l e room_1 s m #[Value.ref b] below meth c H2 l2 cells slots Q (F0 m 828 la [])) : W p l e room_1 s m #[Value.ref b] below meth c H locs cells slots Q (F0 m 768 la []) := by
  obtain ⟨r, M1, M2, q1, q2, q3⟩ := hop M hR [(xs (i + 1)).toInt] rfl (fun a ha => by simp only [List.mem_cons, List.not_mem_nil, or_false] at ha; rcases ha with rfl <;> exact fd_xrng _)
  refine lv_aload_n C0.1 C0.2.1 (by decide +kernel : decode code 768 = .ok (.aload_n 1, 1)) rfl (lv_at hl 1 rfl) ?_
  refine fd_lawArg (k := 1) C0 hbs rfl (by decide +kernel : decode code 769 = .ok (.aload_n 0, 1)) (by decide +kernel : decode code 770 = .ok (.iload_n 3, 1)) (by decide +kernel : decode code 771 = .ok (.iconst 1, 1)) (by decide +kernel : decode code 772 = .ok (.iadd, 1)) (by decide +kernel : decode code 773 = .ok (.iaload, 1)) hl hS (by omega) hL ?_
  refine fd_lawCall (a := 0) (tl := [fd_I (xs (i + 1)).toInt]) (rest := []) C0 hKn (by omega) fd_lq_24a (fun v hv => by simp only [List.mem_cons, List.not_mem_nil, or_false] at hv; rcases hv with rfl <;> rfl) q1 (by decide +kernel : decode code 774 = .ok (.invokevirtual 113, 3)) hH hS hl.1 (by decide) hcs (fun H1 l1 hH1 hS1 => ?_)
  refine lv_aload_n C0.1 C0.2.1 (by decide +kernel : decode code 777 = .ok (.aload_n 2, 1)) rfl (lv_at hl 2 rfl) ?_
  refine fd_lawArg (k := 1) C0 hbs rfl (by decide +kernel : decode code 778 = .ok (.aload_n 0, 1)) (by decide +kernel : decode code 779 = .ok (.iload_n 3, 1)) (by decide +kernel : decode code 780 = .ok (.iconst 1, 1)) (by decide +kernel : decode code 781 = .ok (.iadd, 1)) (by decide +kernel : decode code 782 = .ok (.iaload, 1)) hl hS1 (by omega) hL ?_
  refine fd_lawCall (a := 199) (tl := [fd_I (xs (i + 1)).toInt]) (rest := [fd_cv g (fd_I r)]) C0 hKn (by omega) fd_lq_24b (fun v hv => by simp only [List.mem_cons, List.not_mem_nil, or_false] at hv; rcases hv with rfl <;> rfl) q2 (by decide +kernel : decode code 783 = .ok (.invokevirtual 116, 3)) hH1 hS1 hl.1 (Nat.le_of_ble_eq_true rfl) hcs (fun H2 l2 hH2 hS2 => ?_)
  exact lv_icmp_eq (tgt := 828) C0.1 C0.2.1 (by decide +kernel : decode code 786 = .ok (.if_icmp .eq 42, 3)) (by decide) (fun _ => kk M2 H2 l2 q3 hH2 hS2) (fun q => absurd rfl q)
theorem fd_lq_25a : fd_lq 26 0 1 117 := by decide +kernel
theorem fd_lq_25b : fd_lq 110 199 1 120 := by decide +kernel
theorem fd_lc_25 (C0 : lw_At p s m meth c b L xs) (hKn : fd_Kn g s s.heap) (hbs : g.1 = s.heap.size) (hop : fd_op Rel 26 110 1) (hR : Rel M) (hl : lv_has la 4 [(0, .ref b), (1, .ref g.1), (2, .ref (g.1 + 199)), (3, .int (nI i))]) (hH : fd_hp g true M H) (hS : va_S (fd_A g) s.heap H locs) (hi : i + 4 ≤ L) (hL : L ≤ 256) (hcs : cells ≤ 1000 ∧ slots ≤ 11000) (kk : ∀ (M2 : fd_M) (H2 : Heap) (l2 : List Loc), Rel M2 → fd_hp g true M2 H2 → va_S (fd_A g) s.heap H2 l2 → W p l e room_1 s m #[Value.ref b] below meth c H2 l2 cells slots Q (F0 m 828 la [])) : W p l e room_1 s m #[Value.ref b] below meth c H locs cells slots Q (F0 m 791 la []) := by
  obtain ⟨r, M1, M2, q1, q2, q3⟩ := hop M hR [(xs (i + 1)).toInt] rfl (fun a ha => by simp only [List.mem_cons, List.not_mem_nil, or_false] at ha; rcases ha with rfl <;> exact fd_xrng _)
  refine lv_aload_n C0.1 C0.2.1 (by decide +kernel : decode code 791 = .ok (.aload_n 1, 1)) rfl (lv_at hl 1 rfl) ?_
  refine fd_lawArg (k := 1) C0 hbs rfl (by decide +kernel : decode code 792 = .ok (.aload_n 0, 1)) (by decide +kernel : decode code 793 = .ok (.iload_n 3, 1)) (by decide +kernel : decode code 794 = .ok (.iconst 1, 1)) (by decide +kernel : decode code 795 = .ok (.iadd, 1)) (by decide +kernel : decode code 796 = .ok (.iaload, 1)) hl hS (by omega) hL ?_
  refine fd_lawCall (a := 0) (tl := [fd_I (xs (i + 1)).toInt]) (rest := []) C0 hKn (by omega) fd_lq_25a (fun v hv => by simp only [List.mem_cons, List.not_mem_nil, or_false] at hv; rcases hv with rfl <;> rfl) q1 (by decide +kernel : decode code 797 = .ok (.invokevirtual 117, 3)) hH hS hl.1 (by decide) hcs (fun H1 l1 hH1 hS1 => ?_)
  refine lv_aload_n C0.1 C0.2.1 (by decide +kernel : decode code 800 = .ok (.aload_n 2, 1)) rfl (lv_at hl 2 rfl) ?_
  refine fd_lawArg (k := 1) C0 hbs rfl (by decide +kernel : decode code 801 = .ok (.aload_n 0, 1)) (by decide +kernel : decode code 802 = .ok (.iload_n 3, 1)) (by decide +kernel : decode code 803 = .ok (.iconst 1, 1)) (by decide +kernel : decode code 804 = .ok (.iadd, 1)) (by decide +kernel : decode code 805 = .ok (.iaload, 1)) hl hS1 (by omega) hL ?_
  refine fd_lawCall (a := 199) (tl := [fd_I (xs (i + 1)).toInt]) (rest := [fd_cv g (fd_I r)]) C0 hKn (by omega) fd_lq_25b (fun v hv => by simp only [List.mem_cons, List.not_mem_nil, or_false] at hv; rcases hv with rfl <;> rfl) q2 (by decide +kernel : decode code 806 = .ok (.invokevirtual 120, 3)) hH1 hS1 hl.1 (Nat.le_of_ble_eq_true rfl) hcs (fun H2 l2 hH2 hS2 => ?_)
  exact lv_icmp_eq (tgt := 828) C0.1 C0.2.1 (by decide +kernel : decode code 809 = .ok (.if_icmp .eq 19, 3)) (by decide) (fun _ => kk M2 H2 l2 q3 hH2 hS2) (fun q => absurd rfl q)
theorem fd_lq_26a : fd_lq 27 0 0 121 := by decide +kernel
theorem fd_lq_26b : fd_lq 111 199 0 125 := by decide +kernel
theorem fd_lc_26 (C0 : lw_At p s m meth c b L xs) (hKn : fd_Kn g s s.heap) (hbs : g.1 = s.heap.size) (hop : fd_opJ Rel 27 111) (hR : Rel M) (hl : lv_has la 4 [(0, .ref b), (1, .ref g.1), (2, .ref (g.1 + 199)), (3, .int (nI i))]) (hH : fd_hp g true M H) (hS : va_S (fd_A g) s.heap H locs) (hi : i + 4 ≤ L) (hL : L ≤ 256) (hcs : cells ≤ 1000 ∧ slots ≤ 11000) (kk : ∀ (M2 : fd_M) (H2 : Heap) (l2 : List Loc), Rel M2 → fd_hp g true M2 H2 → va_S (fd_A g) s.heap H2 l2 → W p l e room_1 s m #[Value.ref b] below meth c H2 l2 cells slots Q (F0 m 828 la [])) : W p l e room_1 s m #[Value.ref b] below meth c H locs cells slots Q (F0 m 814 la []) := by
  obtain ⟨r, M1, M2, q1, q2, q3⟩ := hop M hR
  refine lv_aload_n C0.1 C0.2.1 (by decide +kernel : decode code 814 = .ok (.aload_n 1, 1)) rfl (lv_at hl 1 rfl) ?_
  refine fd_lawCall (a := 0) (tl := []) (rest := []) C0 hKn (by omega) fd_lq_26a (fun v hv => by cases hv) q1 (by decide +kernel : decode code 815 = .ok (.invokevirtual 121, 3)) hH hS hl.1 (by decide) hcs (fun H1 l1 hH1 hS1 => ?_)
  refine lv_aload_n C0.1 C0.2.1 (by decide +kernel : decode code 818 = .ok (.aload_n 2, 1)) rfl (lv_at hl 2 rfl) ?_
  refine fd_lawCall (a := 199) (tl := []) (rest := [fd_cv g (fd_J r)]) C0 hKn (by omega) fd_lq_26b (fun v hv => by cases hv) q2 (by decide +kernel : decode code 819 = .ok (.invokevirtual 125, 3)) hH1 hS1 hl.1 (Nat.le_of_ble_eq_true rfl) hcs (fun H2 l2 hH2 hS2 => ?_)
  refine W.lcmp C0.1 C0.2.1 (by decide +kernel : decode code 822 = .ok (.lcmp, 1)) ?_
  refine lv_if_eq (tgt := 828) C0.1 C0.2.1 (by decide +kernel : decode code 823 = .ok (.ifCond .eq 5, 3)) (by decide) (fun _ => kk M2 H2 l2 q3 hH2 hS2) (fun q => absurd ?_ q)
  rw [lg_cmp, if_neg (by rw [gt_iff_lt, Int64.lt_iff_toInt_lt]; omega), if_pos rfl]
end fdLaw
end
section
section fdLoop
variable {p : Program} {l : Launch} {e : Env} {s : State} {m : MethodId} {below : List Frame} {meth : Method} {c : Code} {b L : Nat} {xs : Nat → Int32} {g : fd_G} {Rel : fd_M → Prop}
theorem fd_law_sw : decode code 32 = .ok (.tableswitch (828 - 32) 0 26 #[124, 147, 160, 173, 206, 239, 272, 305, 338, 381, 404, 427, 440, 453, 476, 499, 512, 535, 568, 581, 604, 647, 680, 713, 736, 759, 782], 124) := by decide +kernel
theorem fd_law_loop (hL : L ≤ 256) (C0 : lw_At p s m meth c b L xs) (hKn : fd_Kn g s s.heap) (hbs : g.1 = s.heap.size) (hops : fd_OpsOk Rel) :
    ∀ (n i : Nat), L < i + 4 * n + 4 → i ≤ L → ∀ (M : fd_M) (H : Heap) (locs : List Loc), Rel M → fd_hp g true M H → va_S (fd_A g) s.heap H locs → ∀ (la : Array Slot), lv_has la 4 [(0, .ref b), (1, .ref g.1), (2, .ref (g.1 + 199)), (3, .int (nI i))] → W p l e room_1 s m #[Value.ref b] below meth c H locs 1000 11000 (lw_Z below #[Value.ref b] s) (F0 m 18 la []) := by
  intro n
  induction n with
  | zero => ?_
  | succ n ih => ?_
  all_goals
    intro i hn hiL M H locs hR hH hS la hl
    obtain ⟨hx, hb, hr, hml, hown, hts, hX, hbl, hlocks, hgv⟩ := id C0
    have hbA : ¬ g.1 ≤ b := by omega
    refine lv_iload_n hx hb (by decide +kernel : decode code 18 = .ok (.iload_n 3, 1)) rfl (lv_at hl 3 rfl) ?_
    refine lv_aload_n hx hb (by decide +kernel : decode code 19 = .ok (.aload_n 0, 1)) rfl (lv_at hl 0 rfl) ?_
    refine va_slen hx hb hX hbl hbA hS (by decide +kernel : decode code 20 = .ok (.arraylength, 1)) ?_
    refine lv_iconst (v := 4) hx hb (by decide +kernel : decode code 21 = .ok (.iconst 4, 1)) (by decide) ?_
    refine lv_isub hx hb (by decide +kernel : decode code 22 = .ok (.isub, 1)) ?_
    have e4 : (nI L - 4 : Int32).toInt = (L : Int) - 4 := pk_sub_toInt (b := 4) (by omega) (by decide)
    have ei : (nI i).toInt = (i : Int) := nI_toInt (by omega)
    refine lv_icmp_gt (tgt := 834) hx hb (by decide +kernel : decode code 23 = .ok (.if_icmp .gt 811, 3)) (by decide) (fun _ => ?_) (fun q => ?_)
    · refine lv_iconst (v := 1) hx hb (by decide +kernel : decode code 834 = .ok (.iconst 1, 1)) (by decide) ?_
      refine va_forget (fun q hq => ?_) ?_
      · have := hS.2.2 q hq
        show s.heap.size ≤ q.base
        rw [← hbs]
        exact this
      refine W.widen (k := 600000) (n := 7302250) (by decide) (by decide) ?_
      exact lw_ret hx hb hr hlocks (by decide +kernel : decode code 835 = .ok (.ireturn, 1))
  · exfalso
    apply q
    rw [Int32.lt_iff_toInt_lt]
    show (nI L - 4 : Int32).toInt < _
    rw [e4, ei]
    omega
  · have hi4 : i + 4 ≤ L := by
      rcases Nat.lt_or_ge L (i + 4) with z | z
      · exfalso
        apply q
        rw [Int32.lt_iff_toInt_lt]
        show (nI L - 4 : Int32).toInt < _
        rw [e4, ei]
        omega
      · exact z
    have kk : ∀ (M2 : fd_M) (H2 : Heap) (l2 : List Loc), Rel M2 → fd_hp g true M2 H2 → va_S (fd_A g) s.heap H2 l2 → W p l e room_1 s m #[Value.ref b] below meth c H2 l2 1000 11000 (lw_Z below #[Value.ref b] s) (F0 m 828 la []) := fun M2 H2 l2 h1 h2 h3 => by
      refine lv_iinc (v := nI (i + 4)) (lv' := [(3, .int (nI (i + 4))), (0, .ref b), (1, .ref g.1), (2, .ref (g.1 + 199))]) hx hb (by decide +kernel : decode code 828 = .ok (.iinc 3 4, 3)) hl (k := 3) rfl (nI_add i 4) (by decide) rfl (fun la1 hl1 => ?_)
      refine lv_goto (tgt := 18) hx hb (by decide +kernel : decode code 831 = .ok (.goto (-813), 3)) (by decide) ?_
      exact ih (i + 4) (by omega) hi4 M2 H2 l2 h1 h2 h3 la1 (lv_sub hl1 [1, 2, 3, 0] rfl)
    refine lv_aload_n hx hb (by decide +kernel : decode code 26 = .ok (.aload_n 0, 1)) rfl (lv_at hl 0 rfl) ?_
    refine lv_iload_n hx hb (by decide +kernel : decode code 27 = .ok (.iload_n 3, 1)) rfl (lv_at hl 3 rfl) ?_
    refine va_sld hx hb hX hbl hbA hS (vp_in_nI (show i < L by omega) (by omega)) (by decide +kernel : decode code 28 = .ok (.iaload, 1)) ?_
    refine lv_bipush (v := 31) hx hb (by decide +kernel : decode code 29 = .ok (.bipush 31, 2)) (by decide) ?_
    refine lv_iand hx hb (by decide +kernel : decode code 31 = .ok (.iand, 1)) ?_
    obtain ⟨j, hj, ej⟩ := pk_andE (xs (nI i).toNatClampNeg) (m := 31) 5 (by decide)
    rw [ej]
    have ejt : (nI j).toInt = (j : Int) := nI_toInt (by omega)
    obtain ⟨o0, o1, o2, o3, o4, o5, o6, o7, o8, o9, o10, o11, o12, o13, o14, o15, o16, o17, o18, o19, o20, o21, o22, o23, o24, o25, o26⟩ := hops
    rcases Nat.lt_or_ge j 27 with hj27 | hj27
    · have hcs : j = 0 ∨ j = 1 ∨ j = 2 ∨ j = 3 ∨ j = 4 ∨ j = 5 ∨ j = 6 ∨ j = 7 ∨ j = 8 ∨ j = 9 ∨ j = 10 ∨ j = 11 ∨ j = 12 ∨ j = 13 ∨ j = 14 ∨ j = 15 ∨ j = 16 ∨ j = 17 ∨ j = 18 ∨ j = 19 ∨ j = 20 ∨ j = 21 ∨ j = 22 ∨ j = 23 ∨ j = 24 ∨ j = 25 ∨ j = 26 := by omega
      rcases hcs with rfl | rfl | rfl | rfl | rfl | rfl | rfl | rfl | rfl | rfl | rfl | rfl | rfl | rfl | rfl | rfl | rfl | rfl | rfl | rfl | rfl | rfl | rfl | rfl | rfl | rfl | rfl
      · exact lv_tableIn (tgt := 156) (off := 124) hx hb fd_law_sw (by decide) (by decide) (by decide) (by decide) (fd_lc_0 C0 hKn hbs o0 hR hl hH hS hi4 hL ⟨by decide, by decide⟩ kk)
      · exact lv_tableIn (tgt := 179) (off := 147) hx hb fd_law_sw (by decide) (by decide) (by decide) (by decide) (fd_lc_1 C0 hKn hbs o1 hR hl hH hS hi4 hL ⟨by decide, by decide⟩ kk)
      · exact lv_tableIn (tgt := 192) (off := 160) hx hb fd_law_sw (by decide) (by decide) (by decide) (by decide) (fd_lc_2 C0 hKn hbs o2 hR hl hH hS hi4 hL ⟨by decide, by decide⟩ kk)
      · exact lv_tableIn (tgt := 205) (off := 173) hx hb fd_law_sw (by decide) (by decide) (by decide) (by decide) (fd_lc_3 C0 hKn hbs o3 hR hl hH hS hi4 hL ⟨by decide, by decide⟩ kk)
      · exact lv_tableIn (tgt := 238) (off := 206) hx hb fd_law_sw (by decide) (by decide) (by decide) (by decide) (fd_lc_4 C0 hKn hbs o4 hR hl hH hS hi4 hL ⟨by decide, by decide⟩ kk)
      · exact lv_tableIn (tgt := 271) (off := 239) hx hb fd_law_sw (by decide) (by decide) (by decide) (by decide) (fd_lc_5 C0 hKn hbs o5 hR hl hH hS hi4 hL ⟨by decide, by decide⟩ kk)
      · exact lv_tableIn (tgt := 304) (off := 272) hx hb fd_law_sw (by decide) (by decide) (by decide) (by decide) (fd_lc_6 C0 hKn hbs o6 hR hl hH hS hi4 hL ⟨by decide, by decide⟩ kk)
      · exact lv_tableIn (tgt := 337) (off := 305) hx hb fd_law_sw (by decide) (by decide) (by decide) (by decide) (fd_lc_7 C0 hKn hbs o7 hR hl hH hS hi4 hL ⟨by decide, by decide⟩ kk)
      · exact lv_tableIn (tgt := 370) (off := 338) hx hb fd_law_sw (by decide) (by decide) (by decide) (by decide) (fd_lc_8 C0 hKn hbs o8 hR hl hH hS hi4 hL ⟨by decide, by decide⟩ kk)
      · exact lv_tableIn (tgt := 413) (off := 381) hx hb fd_law_sw (by decide) (by decide) (by decide) (by decide) (fd_lc_9 C0 hKn hbs o9 hR hl hH hS hi4 hL ⟨by decide, by decide⟩ kk)
      · exact lv_tableIn (tgt := 436) (off := 404) hx hb fd_law_sw (by decide) (by decide) (by decide) (by decide) (fd_lc_10 C0 hKn hbs o10 hR hl hH hS hi4 hL ⟨by decide, by decide⟩ kk)
      · exact lv_tableIn (tgt := 459) (off := 427) hx hb fd_law_sw (by decide) (by decide) (by decide) (by decide) (fd_lc_11 C0 hKn hbs o11 hR hl hH hS hi4 hL ⟨by decide, by decide⟩ kk)
      · exact lv_tableIn (tgt := 472) (off := 440) hx hb fd_law_sw (by decide) (by decide) (by decide) (by decide) (fd_lc_12 C0 hKn hbs o12 hR hl hH hS hi4 hL ⟨by decide, by decide⟩ kk)
      · exact lv_tableIn (tgt := 485) (off := 453) hx hb fd_law_sw (by decide) (by decide) (by decide) (by decide) (fd_lc_13 C0 hKn hbs o13 hR hl hH hS hi4 hL ⟨by decide, by decide⟩ kk)
      · exact lv_tableIn (tgt := 508) (off := 476) hx hb fd_law_sw (by decide) (by decide) (by decide) (by decide) (fd_lc_14 C0 hKn hbs o14 hR hl hH hS hi4 hL ⟨by decide, by decide⟩ kk)
      · exact lv_tableIn (tgt := 531) (off := 499) hx hb fd_law_sw (by decide) (by decide) (by decide) (by decide) (fd_lc_15 C0 hKn hbs o15 hR hl hH hS hi4 hL ⟨by decide, by decide⟩ kk)
      · exact lv_tableIn (tgt := 544) (off := 512) hx hb fd_law_sw (by decide) (by decide) (by decide) (by decide) (fd_lc_16 C0 hKn hbs o16 hR hl hH hS hi4 hL ⟨by decide, by decide⟩ kk)
      · exact lv_tableIn (tgt := 567) (off := 535) hx hb fd_law_sw (by decide) (by decide) (by decide) (by decide) (fd_lc_17 C0 hKn hbs o17 hR hl hH hS hi4 hL ⟨by decide, by decide⟩ kk)
      · exact lv_tableIn (tgt := 600) (off := 568) hx hb fd_law_sw (by decide) (by decide) (by decide) (by decide) (fd_lc_18 C0 hKn hbs o18 hR hl hH hS hi4 hL ⟨by decide, by decide⟩ kk)
      · exact lv_tableIn (tgt := 613) (off := 581) hx hb fd_law_sw (by decide) (by decide) (by decide) (by decide) (fd_lc_19 C0 hKn hbs o19 hR hl hH hS hi4 hL ⟨by decide, by decide⟩ kk)
      · exact lv_tableIn (tgt := 636) (off := 604) hx hb fd_law_sw (by decide) (by decide) (by decide) (by decide) (fd_lc_20 C0 hKn hbs o20 hR hl hH hS hi4 hL ⟨by decide, by decide⟩ kk)
      · exact lv_tableIn (tgt := 679) (off := 647) hx hb fd_law_sw (by decide) (by decide) (by decide) (by decide) (fd_lc_21 C0 hKn hbs o21 hR hl hH hS hi4 hL ⟨by decide, by decide⟩ kk)
      · exact lv_tableIn (tgt := 712) (off := 680) hx hb fd_law_sw (by decide) (by decide) (by decide) (by decide) (fd_lc_22 C0 hKn hbs o22 hR hl hH hS hi4 hL ⟨by decide, by decide⟩ kk)
      · exact lv_tableIn (tgt := 745) (off := 713) hx hb fd_law_sw (by decide) (by decide) (by decide) (by decide) (fd_lc_23 C0 hKn hbs o23 hR hl hH hS hi4 hL ⟨by decide, by decide⟩ kk)
      · exact lv_tableIn (tgt := 768) (off := 736) hx hb fd_law_sw (by decide) (by decide) (by decide) (by decide) (fd_lc_24 C0 hKn hbs o24 hR hl hH hS hi4 hL ⟨by decide, by decide⟩ kk)
      · exact lv_tableIn (tgt := 791) (off := 759) hx hb fd_law_sw (by decide) (by decide) (by decide) (by decide) (fd_lc_25 C0 hKn hbs o25 hR hl hH hS hi4 hL ⟨by decide, by decide⟩ kk)
      · exact lv_tableIn (tgt := 814) (off := 782) hx hb fd_law_sw (by decide) (by decide) (by decide) (by decide) (fd_lc_26 C0 hKn hbs o26 hR hl hH hS hi4 hL ⟨by decide, by decide⟩ kk)
    · exact lv_tableOut (tgt := 828) hx hb fd_law_sw (by rw [ejt]; omega) (by decide) (kk M H locs hR hH hS)
end fdLoop
end
section
section fdStart
variable {p : Program} {l : Launch} {e : Env} {s : State} {m : MethodId} {below : List Frame} {meth : Method} {c : Code} {b L : Nat} {xs : Nat → Int32} {g : fd_G} {H : Heap} {locs : List Loc} {cells slots : Nat} {Q : State → Prop} {la : Array Slot} {M M1 : fd_M} {ci idx pc mid a : Nat} {rest : List Value}
/-- a making in the law -/
theorem fd_lawNew (C0 : lw_At p s m meth c b L xs) (hKn : fd_Kn g s s.heap) (hci : ci < 11) (hcl : Jvm.Cond.classLink R_law idx (fd_clD ci).1 ∈ lw_tbl) (hsh : (fd_SH (fd_ap M)).1 = ci) (hd : decode code pc = .ok (.new idx, 3)) (hH : fd_hp g false M H) (hS : va_S (fd_A g) s.heap H locs) (hcs : cells ≤ 900 ∧ slots ≤ 9000)
    (kk : ∀ (H1 : Heap), fd_hp g false (fd_nw M (fd_dfl ci)) H1 → va_S (fd_A g) s.heap H1 locs → W p l e room_1 s m #[Value.ref b] below meth c H1 locs (cells + 1) (slots + 1000) Q (F0 m (pc + 3) la (.ref (g.1 + fd_ap M) :: rest))) : W p l e room_1 s m #[Value.ref b] below meth c H locs cells slots Q (F0 m pc la rest) := by
  obtain ⟨hx, hb, hr, hml, hown, hts, hX, hbl, hlocks, hgv⟩ := C0
  have hK := hKn.1
  have hap : fd_ap M < 213 := (fd_sh_at (by omega)).1
  have hn3 := (fd_sh_at (c := fd_ap M) (by omega)).2.2
  obtain ⟨hin, hinst, hini2, -, hty⟩ := fd_cl_at hci
  have hts2 : ∀ w ∈ fd_tbl, w.before #[Value.ref b] s = true := fun w hw => hts w (List.mem_filter.mp hw).1
  have hsz := ((fd_sh_at (c := fd_ap M) (by omega)).2.1 (by omega)).2
  rw [hsh] at hsz
  have hKc := hK.1 ci _ (fd_clD_get hci)
  have hN : (fd_clD ci).2.2 < 1000 := by rw [hsz]; exact hn3
  refine W.newcK hx hb hown (hts _ hcl) (hts2 _ hinst) (hts2 _ hini2) rfl hd (by show cells + 1 ≤ 600000; omega) (by show slots + _ ≤ 7302250; omega) hKc.2.1 (hH.1 rfl) fun H1 kC hkC q1 z1 o1 => ?_
  refine W.widen (k := cells + 1) (n := slots + 1000) (Nat.le_refl _) (by omega) ?_
  refine kk H1 (fd_hp_nw hH hap z1 o1 ?_) ⟨Nat.le_trans hS.1 (by rw [z1, hH.1 rfl]; omega), fun x h1 h2 => (o1 x (by have := hS.1; have := hH.1 rfl; omega)).trans (hS.2.1 x h1 h2), hS.2.2⟩
  rw [fd_ce_obj hsh (by omega)]
  refine ⟨_, fd_clD_get hci, (u_born (fd_ty ci) hts2 hin hKc hkC q1 hty).to (fun j hj => ?_)⟩
  have hj2 : j < (fd_SH (fd_ap M)).2 := by omega
  have hR := (fd_cl2_at hci j hj).2
  have e3 : vp_V ((List.range (fd_SH (fd_ap M)).2).map (fun k => fd_fv g false (fd_nw M (fd_dfl ci)) ci (fd_ap M) k)) j = fd_fv g false (fd_nw M (fd_dfl ci)) ci (fd_ap M) j := by
    simp [vp_V, hj2]
  rw [e3]
  unfold fd_fv fd_gf fd_rf
  simp only [fd_nw_new]
  unfold fd_dfl
  cases ht : fd_ty ci j <;> rw [ht] at hR <;> first | rfl | exact absurd (hR rfl) (by decide)
/-- a constructor called by the law -/
theorem fd_lawInit {mc ms : Nat} (C0 : lw_At p s m meth c b L xs) (hKn : fd_Kn g s s.heap) (hbs : g.1 ≤ s.heap.size) (hmid : mid < 177) (hq : fd_sk mid = 2 ∧ fd_np mid = some 0 ∧ 1 ≤ fd_mL mid ∧ fd_r mid = none ∧ (fd_y mid).name = "<init>" ∧ Jvm.Cond.methodLink R_law idx (fd_y mid) ∈ lw_tbl) {f : Nat} (hf : fd_ex false f 20 mid 0 (fd_pad mid [fd_R a]) [] M = some (none, M1)) (hd : decode code pc = .ok (.invokespecial idx, 3)) (ha : a < 1000) (hH : fd_hp g false M H) (hS : va_S (fd_A g) s.heap H locs) (hls : la.size = 4) (hrest : (rest.map fun v => v.category).sum ≤ 8) (hmc : fd_ap M1 - fd_ap M = mc) (hms : fd_sl (fd_ap M1) - fd_sl (fd_ap M) = ms) (hcs : cells + mc ≤ 600000 ∧ slots + ms ≤ 7302250)
    (kk : ∀ (H1 : Heap) (l1 : List Loc), fd_hp g false M1 H1 → va_S (fd_A g) s.heap H1 l1 → W p l e room_1 s m #[Value.ref b] below meth c H1 l1 (cells + mc) (slots + ms) Q (F0 m (pc + 3) la rest)) :
    W p l e room_1 s m #[Value.ref b] below meth c H locs cells slots Q (F0 m pc la (.ref (g.1 + a) :: rest)) := by
  obtain ⟨hx, hb, hr, hml, hown, hts, hX, hbl, hlocks, hgv⟩ := C0
  obtain ⟨hsk, hnp, hlen, hret, hnm, hlink⟩ := hq
  have hM := fd_met (g := g) (l := l) hmid (by exact hlen) (fun v hv => by
    rcases List.mem_cons.mp hv with rfl | hv
    · show Nat.blt a 1000 = true
      simp; omega
    · cases hv) hf
  rw [hmc, hms] at hM
  obtain ⟨⟨hcode, hinit⟩, -, -, hsk2, ⟨hy1, hy2, -, -⟩, hmL⟩ := fd_okM_inv hmid
  have hts2 : ∀ w ∈ fd_tbl, w.before #[Value.ref b] s = true := fun w hw => hts w (List.mem_filter.mp hw).1
  have hG : GoodIn lw_tbl (.code (fd_y mid) (fd_b mid) (fd_mL mid) (fd_r mid) :: fd_gtbl) := fun w hw => by
    obtain ⟨q1, q2⟩ := fd_goodIn hcode w hw
    exact ⟨(List.mem_filter.mp q1).1, q2⟩
  have hargv : (List.map (fd_cv g) [fd_R a]) = [Value.ref (g.1 + a)] := by
    rw [List.map_cons, show fd_cv g (fd_R a) = .ref (g.1 + a) from fd_rv_lt ha]
    rfl
  have hpre : ∀ U : State, U.heap = H → s.WarmedH U.vm → fd_Pc g false [fd_R a] M (Value.ref (g.1 + a) :: []).toArray U := fun U hU hW =>
    ⟨by rw [hargv], by rw [hU]; exact hH, fd_Kn_moved hW (fun q h1 h2 => by rw [hU]; exact hS.2.1 q h1 h2) hKn, by rw [hU]; exact Nat.le_trans hbs hS.1⟩
  rw [hret] at hG
  unfold fd_wsm at hM
  rw [hret] at hM
  have hrun : va_Run p l e room_1 s m #[Value.ref b] below meth c H locs cells slots mc ms (F0 m pc la (.ref (g.1 + a) :: rest)) rest (fd_Qc g false none M1 (Value.ref (g.1 + a) :: []).toArray) (fd_A g) :=
    va_runI (As := []) ⟨hx, hb, hml, hown, hts⟩ hM ⟨callB_of 0 hts hG rfl rfl rfl (hts2 _ hinit) (hts _ hlink) ⟨hy1, hy2, hnp⟩ ⟨by show 20 + 5 + 1 ≤ 2048; decide, Nat.le_trans (fd_arith _ 20 hmL) (by show 60 * (20 + 1) + 300 ≤ 84000; decide)⟩, hnm, hts2 _ (hsk2 hsk)⟩ ⟨fd_Pc_blind, hpre⟩ rfl rfl hls rfl (lv_room hrest) hd hcs
  refine va_callv (a := (Value.ref (g.1 + a) :: []).toArray) hrun hS (fun q _ h => h) (fun q h => h) (fun u t H1 l1 ht hvm hp hB hz hk1 hS1 => ?_)
  exact kk H1 l1 (by rw [← ht]; exact hB) hS1
end fdStart
theorem fd_hp0 {g : fd_G} {H : Heap} (h : H.size = g.1) : fd_hp g false fd_M0 H := by
  refine ⟨fun _ => h, by decide, by decide, fun q => (by cases q), fun k q hq => ?_⟩
  have hk := (List.getElem?_eq_some_iff.mp hq).1
  exact absurd hk (by simp [fd_ws, fd_M0])
theorem fd_costs : fd_ap fd_Ma = 1 ∧ fd_ap fd_Mb = 199 ∧ fd_ap fd_Mb' = 200 ∧ fd_ap fd_Mc = 213 := by
  have h1 := fd_ctor1.2
  have h2 := fd_ctor2.2
  have e2 : fd_ap fd_Mb = 199 := by show Int.toNat _ = _; rw [h1]; rfl
  refine ⟨by decide +kernel, e2, ?_, by show Int.toNat _ = _; rw [h2]; rfl⟩
  have := (fd_nw_ap (M := fd_Mb) (f := fd_dfl 10) (by omega) (by omega)).2
  rw [e2] at this
  exact this
theorem fd_slots : fd_sl 1 = 13 ∧ fd_sl 199 = 1568 ∧ fd_sl 200 = 1592 ∧ fd_sl 213 = 2809 := by decide +kernel
theorem fd_cost1 : fd_ap fd_Mb - fd_ap fd_Ma = 198 := by rw [fd_costs.1, fd_costs.2.1]
theorem fd_cost2 : fd_sl (fd_ap fd_Mb) - fd_sl (fd_ap fd_Ma) = 1555 := by rw [fd_costs.1, fd_costs.2.1, fd_slots.1, fd_slots.2.1]
theorem fd_cost3 : fd_ap fd_Mc - fd_ap fd_Mb' = 13 := by rw [fd_costs.2.2.1, fd_costs.2.2.2]
theorem fd_cost4 : fd_sl (fd_ap fd_Mc) - fd_sl (fd_ap fd_Mb') = 1217 := by rw [fd_costs.2.2.1, fd_costs.2.2.2, fd_slots.2.2.1, fd_slots.2.2.2]
theorem fd_made1 : fd_ex false 400 20 0 0 (fd_pad 0 [fd_R 0]) [] fd_Ma = some (none, fd_Mb) := fd_isN_eq fd_ctor1.1
theorem fd_made2 : fd_ex false 3000 20 51 0 (fd_pad 51 [fd_R 199]) [] fd_Mb' = some (none, fd_Mc) := fd_isN_eq fd_ctor2.1
theorem fd_whole (Rel : fd_M → Prop) (hops : fd_OpsOk Rel) (h0 : Rel fd_Mc) {p : Program} {e : Env} {s : State} {m : MethodId} {below : List Frame} {meth : Method} {c : Code} (l : Launch) {b L : Nat} {xs : Nat → Int32} (hL : L ≤ 256) (C0 : lw_At p s m meth c b L xs) : W p l e room_1 s m #[Value.ref b] below meth c s.heap [] 0 0 (lw_Z below #[Value.ref b] s) (entryFrame m ([Value.ref b] : List Value).toArray 4) := by
  obtain ⟨hx, hb, hr, hml, hown, hts, hX, hbl, hlocks, hgv⟩ := id C0
  obtain ⟨g, hbs, hKn⟩ := fd_known hts hgv
  obtain ⟨c1, c2, c3, c4⟩ := fd_costs
  have hH0 := fd_hp0 (g := g) (H := s.heap) hbs.symm
  have hl := lv_entry ([Value.ref b]) (n := 4) (Nat.le_of_ble_eq_true rfl)
  rw [lg_entry_eq]
  generalize (lg_sl ([Value.ref b]) ++ List.replicate (4 - (lg_sl ([Value.ref b])).length) Slot.unset).toArray = ls at hl ⊢
  have hl : lv_has ls 4 [(0, .ref b)] := hl
  refine fd_lawNew (ci := 0) (idx := 7) C0 hKn (by decide) (by decide +kernel) (by decide +kernel) (by decide +kernel : decode code 0 = .ok (.new 7, 3)) hH0 va_S.rf ⟨by decide, by decide⟩ (fun H1 hH1 hS1 => ?_)
  refine lv_dup hx hb (by decide +kernel : decode code 3 = .ok (.dup, 1)) rfl ?_
  refine fd_lawInit (mid := 0) (a := 0) (idx := 9) C0 hKn (by omega) (by decide) (by decide +kernel) fd_made1 (by decide +kernel : decode code 4 = .ok (.invokespecial 9, 3)) (by decide) hH1 hS1 hl.1 (Nat.le_of_ble_eq_true rfl) fd_cost1 fd_cost2 ⟨by decide, by decide⟩ (fun H2 l2 hH2 hS2 => ?_)
  refine W.widen (k := 300) (n := 6000) (by decide) (by decide) ?_
  refine lv_astore_n (lv' := [(1, .ref (g.1 + 0)), (0, .ref b)]) hx hb (by decide +kernel : decode code 7 = .ok (.astore_n 1, 1)) rfl hl (by decide) rfl (fun ls hl => ?_)
  refine fd_lawNew (ci := 10) (idx := 10) (M := fd_Mb) C0 hKn (by decide) (by decide +kernel) (by rw [c2]; decide) (by decide +kernel : decode code 8 = .ok (.new 10, 3)) hH2 hS2 ⟨by decide, by decide⟩ (fun H3 hH3 hS3 => ?_)
  rw [c2]
  refine lv_dup hx hb (by decide +kernel : decode code 11 = .ok (.dup, 1)) rfl ?_
  refine fd_lawInit (mid := 51) (a := 199) (idx := 12) C0 hKn (by omega) (by decide) (by decide +kernel) fd_made2 (by decide +kernel : decode code 12 = .ok (.invokespecial 12, 3)) (by decide) hH3 hS3 hl.1 (Nat.le_of_ble_eq_true rfl) fd_cost3 fd_cost4 ⟨by decide, by decide⟩ (fun H4 l4 hH4 hS4 => ?_)
  refine W.widen (k := 1000) (n := 11000) (by decide) (by decide) ?_
  refine lv_astore_n (lv' := [(2, .ref (g.1 + 199)), (1, .ref (g.1 + 0)), (0, .ref b)]) hx hb (by decide +kernel : decode code 15 = .ok (.astore_n 2, 1)) rfl hl (by decide) rfl (fun ls hl => ?_)
  refine lv_iconst (v := 0) hx hb (by decide +kernel : decode code 16 = .ok (.iconst 0, 1)) (by decide) ?_
  refine lv_istore_n (lv' := [(3, .int 0), (2, .ref (g.1 + 199)), (1, .ref (g.1 + 0)), (0, .ref b)]) hx hb (by decide +kernel : decode code 17 = .ok (.istore_n 3, 1)) rfl hl (by decide) rfl (fun ls hl => ?_)
  have hHc := fd_hp_ph hH4 fd_ctor2.2 fd_ctor_rf
  exact fd_law_loop hL C0 hKn hbs hops L 0 (by omega) (by omega) fd_Mc H4 l4 h0 hHc hS4 ls (lv_sub hl [3, 2, 1, 0] rfl)
end
section
/-! small questions of the class -/
def fd_bi (p : Prop) [Decidable p] : Int := if p then 1 else 0
theorem fd_biT {p : Prop} [Decidable p] : ¬ fd_bi p = 0 ↔ p := by
  unfold fd_bi
  by_cases h : p
  · simp [h]
  · simp [h]
theorem fd_biF {p : Prop} [Decidable p] : fd_bi p = 0 ↔ ¬ p := by
  unfold fd_bi
  by_cases h : p
  · simp [h]
  · simp [h]
theorem fd_biF2 {p : Prop} [Decidable p] (h : ¬ ¬ fd_bi p = 0) : ¬ p := fd_biF.mp (Classical.not_not.mp h)
theorem fd_bi_rng (p : Prop) [Decidable p] : 0 ≤ fd_bi p ∧ fd_bi p < 2 := by
  unfold fd_bi
  by_cases h : p
  · simp [h]
  · simp [h]
theorem fd_biR {p : Prop} [Decidable p] : fd_rng (fd_bi p) = true := by
  have := fd_bi_rng p
  exact fd_bR (by omega) (by omega)
theorem fd_biI {p : Prop} [Decidable p] {n : Int} (hn : 2 ≤ n := by decide) : fd_inb (fd_bi p) n = true := by
  have := fd_bi_rng p
  exact fd_bI (by omega) (by omega)
theorem fd_bi1 {p : Prop} [Decidable p] (h : p) : fd_bi p = 1 := if_pos h
theorem fd_bi0 {p : Prop} [Decidable p] (h : ¬ p) : fd_bi p = 0 := if_neg h
theorem fd_ok1 {p : Prop} [Decidable p] (h : p) : some (fd_I 1) = some (fd_I (fd_bi p)) := by rw [fd_bi1 h]
theorem fd_ok0 {p : Prop} [Decidable p] (h : ¬ p) : some (fd_I 0) = some (fd_I (fd_bi p)) := by rw [fd_bi0 h]
theorem fd_sw_out {as : List Int} {i : Nat} {a : Int} {r : List fd_V} (h : ¬ (0 ≤ a - fd_a as 1 ∧ a - fd_a as 1 < (as.length : Int) - 2)) : fd_jmp 113 as i (.inl a :: r) = some (fd_rng a, fd_n as 0, r) := by
  show some (fd_rng a, (if 0 ≤ a - fd_a as 1 ∧ a - fd_a as 1 < (as.length : Int) - 2 then fd_n as (2 + (a - fd_a as 1).toNat) else fd_n as 0), r) = _
  rw [if_neg h]
theorem fd_s_isWay (M : fd_M) (n : Int) (hn : -2147483648 ≤ n ∧ n < 2147483648) : fd_call 0 38 [fd_I n] M (some (fd_I (fd_bi (0 ≤ n ∧ n < 4)))) M := by
  refine fd_u_in (L := [fd_I n]) rfl ?_
  refine fd_u_blk 1 (C := fd_c38) (b := true) (L' := [fd_I n]) (st' := [fd_I n]) (M' := M) rfl rfl (j := 1) rfl (rfl) ?_
  refine fd_u_br (C := fd_c38) (t := 7) (e := 2) (st' := []) (c := n < 0) (b := (fd_rng n)) rfl rfl rfl (fd_bR (by omega) (by omega)) (fun h3 => ?_) (fun h3 => ?_)
  · refine fd_u_blk 1 (C := fd_c38) (b := true) (L' := [fd_I n]) (st' := [fd_I 0]) (M' := M) rfl rfl (j := 8) rfl (rfl) ?_
    refine fd_u_ret (C := fd_c38) (b := true) (r' := some (fd_I 0)) rfl rfl rfl (rfl) ?_ ?_
    · exact fd_ok0 (by omega)
    · rfl
  · refine fd_u_blk 2 (C := fd_c38) (b := true) (L' := [fd_I n]) (st' := [fd_I 4, fd_I n]) (M' := M) rfl rfl (j := 4) rfl (rfl) ?_
    refine fd_u_br (C := fd_c38) (t := 7) (e := 5) (st' := []) (c := 4 ≤ n) (b := (fd_rng n && fd_rng 4)) rfl rfl rfl (fd_bA (fd_bR (by omega) (by omega)) (fd_bR (by omega) (by omega))) (fun h8 => ?_) (fun h8 => ?_)
    · refine fd_u_blk 1 (C := fd_c38) (b := true) (L' := [fd_I n]) (st' := [fd_I 0]) (M' := M) rfl rfl (j := 8) rfl (rfl) ?_
      refine fd_u_ret (C := fd_c38) (b := true) (r' := some (fd_I 0)) rfl rfl rfl (rfl) ?_ ?_
      · exact fd_ok0 (by omega)
      · rfl
    · refine fd_u_blk 1 (C := fd_c38) (b := true) (L' := [fd_I n]) (st' := [fd_I 1]) (M' := M) rfl rfl (j := 6) rfl (rfl) ?_
      refine fd_u_jmp (C := fd_c38) (j := 8) (st' := [fd_I 1]) rfl rfl (b := true) rfl rfl ?_
      refine fd_u_ret (C := fd_c38) (b := true) (r' := some (fd_I 1)) rfl rfl rfl (rfl) ?_ ?_
      · exact fd_ok1 (by omega)
      · rfl

theorem fd_s_isFlag (M : fd_M) (n : Int) (hn : -2147483648 ≤ n ∧ n < 2147483648) : fd_call 0 39 [fd_I n] M (some (fd_I (fd_bi (n = 0 ∨ n = 1)))) M := by
  refine fd_u_in (L := [fd_I n]) rfl ?_
  refine fd_u_blk 1 (C := fd_c39) (b := true) (L' := [fd_I n]) (st' := [fd_I n]) (M' := M) rfl rfl (j := 1) rfl (rfl) ?_
  refine fd_u_br (C := fd_c39) (t := 5) (e := 2) (st' := []) (c := n = 0) (b := (fd_rng n)) rfl rfl rfl (fd_bR (by omega) (by omega)) (fun h3 => ?_) (fun h3 => ?_)
  · refine fd_u_blk 1 (C := fd_c39) (b := true) (L' := [fd_I n]) (st' := [fd_I 1]) (M' := M) rfl rfl (j := 6) rfl (rfl) ?_
    refine fd_u_jmp (C := fd_c39) (j := 8) (st' := [fd_I 1]) rfl rfl (b := true) rfl rfl ?_
    refine fd_u_ret (C := fd_c39) (b := true) (r' := some (fd_I 1)) rfl rfl rfl (rfl) ?_ ?_
    · exact fd_ok1 (by omega)
    · rfl
  · refine fd_u_blk 2 (C := fd_c39) (b := true) (L' := [fd_I n]) (st' := [fd_I 1, fd_I n]) (M' := M) rfl rfl (j := 4) rfl (rfl) ?_
    refine fd_u_br (C := fd_c39) (t := 7) (e := 5) (st' := []) (c := ¬ n = 1) (b := (fd_rng n && fd_rng 1)) rfl rfl rfl (fd_bA (fd_bR (by omega) (by omega)) (fd_bR (by omega) (by omega))) (fun h9 => ?_) (fun h9 => ?_)
    · refine fd_u_blk 1 (C := fd_c39) (b := true) (L' := [fd_I n]) (st' := [fd_I 0]) (M' := M) rfl rfl (j := 8) rfl (rfl) ?_
      refine fd_u_ret (C := fd_c39) (b := true) (r' := some (fd_I 0)) rfl rfl rfl (rfl) ?_ ?_
      · exact fd_ok0 (by omega)
      · rfl
    · refine fd_u_blk 1 (C := fd_c39) (b := true) (L' := [fd_I n]) (st' := [fd_I 1]) (M' := M) rfl rfl (j := 6) rfl (rfl) ?_
      refine fd_u_jmp (C := fd_c39) (j := 8) (st' := [fd_I 1]) rfl rfl (b := true) rfl rfl ?_
      refine fd_u_ret (C := fd_c39) (b := true) (r' := some (fd_I 1)) rfl rfl rfl (rfl) ?_ ?_
      · exact fd_ok1 (by omega)
      · rfl

theorem fd_s_isTenths (M : fd_M) (n : Int) (hn : -2147483648 ≤ n ∧ n < 2147483648) : fd_call 0 40 [fd_I n] M (some (fd_I (fd_bi (0 ≤ n ∧ n ≤ 10)))) M := by
  refine fd_u_in (L := [fd_I n]) rfl ?_
  refine fd_u_blk 1 (C := fd_c40) (b := true) (L' := [fd_I n]) (st' := [fd_I n]) (M' := M) rfl rfl (j := 1) rfl (rfl) ?_
  refine fd_u_br (C := fd_c40) (t := 7) (e := 2) (st' := []) (c := n < 0) (b := (fd_rng n)) rfl rfl rfl (fd_bR (by omega) (by omega)) (fun h3 => ?_) (fun h3 => ?_)
  · refine fd_u_blk 1 (C := fd_c40) (b := true) (L' := [fd_I n]) (st' := [fd_I 0]) (M' := M) rfl rfl (j := 8) rfl (rfl) ?_
    refine fd_u_ret (C := fd_c40) (b := true) (r' := some (fd_I 0)) rfl rfl rfl (rfl) ?_ ?_
    · exact fd_ok0 (by omega)
    · rfl
  · refine fd_u_blk 2 (C := fd_c40) (b := true) (L' := [fd_I n]) (st' := [fd_I 10, fd_I n]) (M' := M) rfl rfl (j := 4) rfl (rfl) ?_
    refine fd_u_br (C := fd_c40) (t := 7) (e := 5) (st' := []) (c := 10 < n) (b := (fd_rng n && fd_rng 10)) rfl rfl rfl (fd_bA (fd_bR (by omega) (by omega)) (fd_bR (by omega) (by omega))) (fun h8 => ?_) (fun h8 => ?_)
    · refine fd_u_blk 1 (C := fd_c40) (b := true) (L' := [fd_I n]) (st' := [fd_I 0]) (M' := M) rfl rfl (j := 8) rfl (rfl) ?_
      refine fd_u_ret (C := fd_c40) (b := true) (r' := some (fd_I 0)) rfl rfl rfl (rfl) ?_ ?_
      · exact fd_ok0 (by omega)
      · rfl
    · refine fd_u_blk 1 (C := fd_c40) (b := true) (L' := [fd_I n]) (st' := [fd_I 1]) (M' := M) rfl rfl (j := 6) rfl (rfl) ?_
      refine fd_u_jmp (C := fd_c40) (j := 8) (st' := [fd_I 1]) rfl rfl (b := true) rfl rfl ?_
      refine fd_u_ret (C := fd_c40) (b := true) (r' := some (fd_I 1)) rfl rfl rfl (rfl) ?_ ?_
      · exact fd_ok1 (by omega)
      · rfl

theorem fd_s_isDueTold (M : fd_M) (n : Int) (hn : -2147483648 ≤ n ∧ n < 2147483648) : fd_call 0 41 [fd_I n] M (some (fd_I (fd_bi (0 ≤ n ∧ n ≤ 99)))) M := by
  refine fd_u_in (L := [fd_I n]) rfl ?_
  refine fd_u_blk 1 (C := fd_c41) (b := true) (L' := [fd_I n]) (st' := [fd_I n]) (M' := M) rfl rfl (j := 1) rfl (rfl) ?_
  refine fd_u_br (C := fd_c41) (t := 7) (e := 2) (st' := []) (c := n < 0) (b := (fd_rng n)) rfl rfl rfl (fd_bR (by omega) (by omega)) (fun h3 => ?_) (fun h3 => ?_)
  · refine fd_u_blk 1 (C := fd_c41) (b := true) (L' := [fd_I n]) (st' := [fd_I 0]) (M' := M) rfl rfl (j := 8) rfl (rfl) ?_
    refine fd_u_ret (C := fd_c41) (b := true) (r' := some (fd_I 0)) rfl rfl rfl (rfl) ?_ ?_
    · exact fd_ok0 (by omega)
    · rfl
  · refine fd_u_blk 2 (C := fd_c41) (b := true) (L' := [fd_I n]) (st' := [fd_I 99, fd_I n]) (M' := M) rfl rfl (j := 4) rfl (rfl) ?_
    refine fd_u_br (C := fd_c41) (t := 7) (e := 5) (st' := []) (c := 99 < n) (b := (fd_rng n && fd_rng 99)) rfl rfl rfl (fd_bA (fd_bR (by omega) (by omega)) (fd_bR (by omega) (by omega))) (fun h8 => ?_) (fun h8 => ?_)
    · refine fd_u_blk 1 (C := fd_c41) (b := true) (L' := [fd_I n]) (st' := [fd_I 0]) (M' := M) rfl rfl (j := 8) rfl (rfl) ?_
      refine fd_u_ret (C := fd_c41) (b := true) (r' := some (fd_I 0)) rfl rfl rfl (rfl) ?_ ?_
      · exact fd_ok0 (by omega)
      · rfl
    · refine fd_u_blk 1 (C := fd_c41) (b := true) (L' := [fd_I n]) (st' := [fd_I 1]) (M' := M) rfl rfl (j := 6) rfl (rfl) ?_
      refine fd_u_jmp (C := fd_c41) (j := 8) (st' := [fd_I 1]) rfl rfl (b := true) rfl rfl ?_
      refine fd_u_ret (C := fd_c41) (b := true) (r' := some (fd_I 1)) rfl rfl rfl (rfl) ?_ ?_
      · exact fd_ok1 (by omega)
      · rfl

theorem fd_s_isImage (M : fd_M) (n : Int) (hn : -2147483648 ≤ n ∧ n < 2147483648) : fd_call 0 42 [fd_I n] M (some (fd_I (fd_bi (0 ≤ n ∧ n < 2)))) M := by
  refine fd_u_in (L := [fd_I n]) rfl ?_
  refine fd_u_blk 1 (C := fd_c42) (b := true) (L' := [fd_I n]) (st' := [fd_I n]) (M' := M) rfl rfl (j := 1) rfl (rfl) ?_
  refine fd_u_br (C := fd_c42) (t := 7) (e := 2) (st' := []) (c := n < 0) (b := (fd_rng n)) rfl rfl rfl (fd_bR (by omega) (by omega)) (fun h3 => ?_) (fun h3 => ?_)
  · refine fd_u_blk 1 (C := fd_c42) (b := true) (L' := [fd_I n]) (st' := [fd_I 0]) (M' := M) rfl rfl (j := 8) rfl (rfl) ?_
    refine fd_u_ret (C := fd_c42) (b := true) (r' := some (fd_I 0)) rfl rfl rfl (rfl) ?_ ?_
    · exact fd_ok0 (by omega)
    · rfl
  · refine fd_u_blk 2 (C := fd_c42) (b := true) (L' := [fd_I n]) (st' := [fd_I 2, fd_I n]) (M' := M) rfl rfl (j := 4) rfl (rfl) ?_
    refine fd_u_br (C := fd_c42) (t := 7) (e := 5) (st' := []) (c := 2 ≤ n) (b := (fd_rng n && fd_rng 2)) rfl rfl rfl (fd_bA (fd_bR (by omega) (by omega)) (fd_bR (by omega) (by omega))) (fun h8 => ?_) (fun h8 => ?_)
    · refine fd_u_blk 1 (C := fd_c42) (b := true) (L' := [fd_I n]) (st' := [fd_I 0]) (M' := M) rfl rfl (j := 8) rfl (rfl) ?_
      refine fd_u_ret (C := fd_c42) (b := true) (r' := some (fd_I 0)) rfl rfl rfl (rfl) ?_ ?_
      · exact fd_ok0 (by omega)
      · rfl
    · refine fd_u_blk 1 (C := fd_c42) (b := true) (L' := [fd_I n]) (st' := [fd_I 1]) (M' := M) rfl rfl (j := 6) rfl (rfl) ?_
      refine fd_u_jmp (C := fd_c42) (j := 8) (st' := [fd_I 1]) rfl rfl (b := true) rfl rfl ?_
      refine fd_u_ret (C := fd_c42) (b := true) (r' := some (fd_I 1)) rfl rfl rfl (rfl) ?_ ?_
      · exact fd_ok1 (by omega)
      · rfl

theorem fd_s_hasCell (M : fd_M) (x y : Int) (hx : -2147483648 ≤ x ∧ x < 2147483648) (hy : -2147483648 ≤ y ∧ y < 2147483648) (h0 : 0 ≤ M 3 0 ∧ M 3 0 ≤ 7) (h1 : 0 ≤ M 3 1 ∧ M 3 1 ≤ 7) : fd_call 0 123 [fd_R 3, fd_I x, fd_I y] M (some (fd_I (fd_bi (0 ≤ x ∧ x < M 3 0 ∧ 0 ≤ y ∧ y < M 3 1)))) M := by
  refine fd_u_in (L := [fd_R 3, fd_I x, fd_I y]) rfl ?_
  refine fd_u_blk 1 (C := fd_c123) (b := true) (L' := [fd_R 3, fd_I x, fd_I y]) (st' := [fd_I x]) (M' := M) rfl rfl (j := 1) rfl (rfl) ?_
  refine fd_u_br (C := fd_c123) (t := 14) (e := 2) (st' := []) (c := x < 0) (b := (fd_rng x)) rfl rfl rfl (fd_bR (by omega) (by omega)) (fun h3 => ?_) (fun h3 => ?_)
  · refine fd_u_blk 1 (C := fd_c123) (b := true) (L' := [fd_R 3, fd_I x, fd_I y]) (st' := [fd_I 0]) (M' := M) rfl rfl (j := 15) rfl (rfl) ?_
    refine fd_u_ret (C := fd_c123) (b := true) (r' := some (fd_I 0)) rfl rfl rfl (rfl) ?_ ?_
    · exact fd_ok0 (by omega)
    · rfl
  · refine fd_u_blk 3 (C := fd_c123) (b := true) (L' := [fd_R 3, fd_I x, fd_I y]) (st' := [fd_I (M 3 0), fd_I x]) (M' := M) rfl rfl (j := 5) rfl (rfl) ?_
    refine fd_u_br (C := fd_c123) (t := 14) (e := 6) (st' := []) (c := (M 3 0) ≤ x) (b := (fd_rng x && fd_rng (M 3 0))) rfl rfl rfl (fd_bA (fd_bR (by omega) (by omega)) (fd_bR (by omega) (by omega))) (fun h8 => ?_) (fun h8 => ?_)
    · refine fd_u_blk 1 (C := fd_c123) (b := true) (L' := [fd_R 3, fd_I x, fd_I y]) (st' := [fd_I 0]) (M' := M) rfl rfl (j := 15) rfl (rfl) ?_
      refine fd_u_ret (C := fd_c123) (b := true) (r' := some (fd_I 0)) rfl rfl rfl (rfl) ?_ ?_
      · exact fd_ok0 (by omega)
      · rfl
    · refine fd_u_blk 1 (C := fd_c123) (b := true) (L' := [fd_R 3, fd_I x, fd_I y]) (st' := [fd_I y]) (M' := M) rfl rfl (j := 7) rfl (rfl) ?_
      refine fd_u_br (C := fd_c123) (t := 14) (e := 8) (st' := []) (c := y < 0) (b := (fd_rng y)) rfl rfl rfl (fd_bR (by omega) (by omega)) (fun h13 => ?_) (fun h13 => ?_)
      · refine fd_u_blk 1 (C := fd_c123) (b := true) (L' := [fd_R 3, fd_I x, fd_I y]) (st' := [fd_I 0]) (M' := M) rfl rfl (j := 15) rfl (rfl) ?_
        refine fd_u_ret (C := fd_c123) (b := true) (r' := some (fd_I 0)) rfl rfl rfl (rfl) ?_ ?_
        · exact fd_ok0 (by omega)
        · rfl
      · refine fd_u_blk 3 (C := fd_c123) (b := true) (L' := [fd_R 3, fd_I x, fd_I y]) (st' := [fd_I (M 3 1), fd_I y]) (M' := M) rfl rfl (j := 11) rfl (rfl) ?_
        refine fd_u_br (C := fd_c123) (t := 14) (e := 12) (st' := []) (c := (M 3 1) ≤ y) (b := (fd_rng y && fd_rng (M 3 1))) rfl rfl rfl (fd_bA (fd_bR (by omega) (by omega)) (fd_bR (by omega) (by omega))) (fun h18 => ?_) (fun h18 => ?_)
        · refine fd_u_blk 1 (C := fd_c123) (b := true) (L' := [fd_R 3, fd_I x, fd_I y]) (st' := [fd_I 0]) (M' := M) rfl rfl (j := 15) rfl (rfl) ?_
          refine fd_u_ret (C := fd_c123) (b := true) (r' := some (fd_I 0)) rfl rfl rfl (rfl) ?_ ?_
          · exact fd_ok0 (by omega)
          · rfl
        · refine fd_u_blk 1 (C := fd_c123) (b := true) (L' := [fd_R 3, fd_I x, fd_I y]) (st' := [fd_I 1]) (M' := M) rfl rfl (j := 13) rfl (rfl) ?_
          refine fd_u_jmp (C := fd_c123) (j := 15) (st' := [fd_I 1]) rfl rfl (b := true) rfl rfl ?_
          refine fd_u_ret (C := fd_c123) (b := true) (r' := some (fd_I 1)) rfl rfl rfl (rfl) ?_ ?_
          · exact fd_ok1 (by omega)
          · rfl
end
section
/-! numbers and bits -/
theorem fd_andN (a b : Nat) (ha : a < 2147483648) : fd_and (a : Int) (b : Int) = ((a &&& b : Nat) : Int) := by
  unfold fd_and
  rw [fd_oi, fd_oi]
  have e : nI a &&& nI b = nI (a &&& b) := by
    apply Int32.toBitVec.inj
    show BitVec.ofNat 32 a &&& BitVec.ofNat 32 b = BitVec.ofNat 32 (a &&& b)
    apply BitVec.eq_of_toNat_eq
    simp [BitVec.toNat_and, BitVec.toNat_ofNat, Nat.and_mod_two_pow]
  rw [e]
  exact nI_toInt (Nat.lt_of_le_of_lt Nat.and_le_left ha)
theorem fd_and1 {a : Int} (h : 0 ≤ a ∧ a < 2147483648) : fd_and a 1 = a % 2 := by
  obtain ⟨n, rfl⟩ := Int.eq_ofNat_of_zero_le h.1
  rw [show (1 : Int) = ((1 : Nat) : Int) from rfl, fd_andN n 1 (by omega), Nat.and_one_is_mod]
  omega
theorem fd_and3 {a : Int} (h : 0 ≤ a ∧ a < 2147483648) : fd_and a 3 = a % 4 := by
  obtain ⟨n, rfl⟩ := Int.eq_ofNat_of_zero_le h.1
  rw [show (3 : Int) = ((3 : Nat) : Int) from rfl, fd_andN n 3 (by omega), show (3 : Nat) = 2 ^ 2 - 1 from rfl, Nat.and_two_pow_sub_one_eq_mod]
  omega
theorem fd_pow_pos (k : Nat) : (0 : Int) < 2 ^ k := by
  have := Nat.two_pow_pos k
  exact_mod_cast this
theorem fd_div_rng {a : Int} (k : Nat) (h : 0 ≤ a ∧ a < 2147483648) : 0 ≤ a / 2 ^ k ∧ a / 2 ^ k < 2147483648 := by
  refine ⟨Int.ediv_nonneg h.1 (Int.le_of_lt (fd_pow_pos k)), ?_⟩
  exact Int.lt_of_le_of_lt (Int.ediv_le_self _ h.1) h.2
theorem fd_landP (n k : Nat) (hn : n < 2 ^ 49) (hk : k < 49) : fd_lcmp (fd_land (n : Int) (2 ^ k)) 0 = 0 ↔ n / 2 ^ k % 2 = 0 := by
  have e1 : Int64.ofInt (n : Int) = lN n := Int64.ofInt_eq_ofNat
  have e2 : Int64.ofInt ((2 : Int) ^ k) = lN (2 ^ k) := by
    have : ((2 : Int) ^ k) = ((2 ^ k : Nat) : Int) := by simp
    rw [this]
    exact Int64.ofInt_eq_ofNat
  have e3 : lN n &&& lN (2 ^ k) = lN (n &&& 2 ^ k) := by
    apply Int64.toBitVec.inj
    show BitVec.ofNat 64 n &&& BitVec.ofNat 64 (2 ^ k) = BitVec.ofNat 64 (n &&& 2 ^ k)
    apply BitVec.eq_of_toNat_eq
    simp [BitVec.toNat_and, BitVec.toNat_ofNat, Nat.and_mod_two_pow]
  have hlt : n &&& 2 ^ k < 2 ^ 63 := Nat.lt_of_le_of_lt Nat.and_le_left (Nat.lt_of_lt_of_le hn (by decide))
  have e4 : Int64.ofInt (fd_land (n : Int) (2 ^ k)) = lN (n &&& 2 ^ k) := by
    unfold fd_land
    rw [Int64.ofInt_toInt, e1, e2, e3]
  unfold fd_lcmp
  rw [e4, show Int64.ofInt 0 = lN 0 from rfl]
  have key : (lg_cmp (lN (n &&& 2 ^ k)) (lN 0)).toInt = 0 ↔ n &&& 2 ^ k = 0 := by
    unfold lg_cmp
    by_cases h : n &&& 2 ^ k = 0
    · rw [h]
      simp
    · rw [if_pos (by rw [gt_iff_lt, pk_lLT (by decide) hlt]; omega)]
      simp [h]
  rw [key]
  have t : n.testBit k = true ↔ n / 2 ^ k % 2 = 1 := by
    rw [Nat.testBit_eq_decide_div_mod_eq]
    simp
  constructor
  · intro h
    have h2 : (n &&& 2 ^ k).testBit k = false := by rw [h]; simp
    rw [Nat.testBit_and, Nat.testBit_two_pow_self, Bool.and_true] at h2
    have : ¬ n.testBit k = true := by rw [h2]; decide
    rw [t] at this
    omega
  · intro h
    apply Nat.eq_of_testBit_eq
    intro i
    rw [Nat.testBit_and, Nat.zero_testBit]
    by_cases hi : k = i
    · subst hi
      have : ¬ n.testBit k = true := by rw [t]; omega
      simp [this]
    · rw [Nat.testBit_two_pow_of_ne hi, Bool.and_false]
/-! the class's views of its memory -/
def fd_dr (px py : Nat → Int) (x y : Int) : Nat → Nat → Int
  | 0, _ => -1
  | n + 1, k => if px k = x ∧ py k = y then (k : Int) else fd_dr px py x y n (k + 1)
theorem fd_dr_rng (px py : Nat → Int) (x y : Int) : ∀ (n k : Nat), fd_dr px py x y n k = -1 ∨ ((k : Int) ≤ fd_dr px py x y n k ∧ fd_dr px py x y n k < k + n)
  | 0, k => Or.inl rfl
  | n + 1, k => by
    rw [fd_dr]
    split
    · right; omega
    · rcases fd_dr_rng px py x y n (k + 1) with h | h
      · exact Or.inl h
      · right; omega
def fd_SG (M : fd_M) (c : Nat) : Prop := (∀ d : Nat, 0 ≤ M (c + 1) d ∧ M (c + 1) d ≤ 6) ∧ (∀ d : Nat, 0 ≤ M (c + 2) d ∧ M (c + 2) d ≤ 6) ∧ (∀ d : Nat, 0 ≤ M (c + 3) d ∧ M (c + 3) d ≤ 3) ∧ (∀ d : Nat, 0 ≤ M (c + 4) d ∧ M (c + 4) d ≤ 9999) ∧ (0 ≤ M c 4 ∧ M c 4 < 64) ∧ (0 ≤ M c 5 ∧ M c 5 < 562949953421312) ∧ (0 ≤ M c 6 ∧ M c 6 ≤ 1) ∧ (0 ≤ M c 7 ∧ M c 7 ≤ 1)
def fd_PG (M : fd_M) : Prop := (0 ≤ M 3 0 ∧ M 3 0 ≤ 7) ∧ (0 ≤ M 3 1 ∧ M 3 1 ≤ 7) ∧ (0 ≤ M 3 2 ∧ M 3 2 ≤ 6) ∧ (1 ≤ M 3 3 ∧ M 3 3 ≤ 9) ∧ (1 ≤ M 3 4 ∧ M 3 4 ≤ 7) ∧ (∀ k : Nat, 0 ≤ M 4 k ∧ M 4 k ≤ 2)
def fd_CG (M : fd_M) : Prop := fd_PG M ∧ fd_SG M 14
def fd_has (M : fd_M) (x y : Int) : Prop := 0 ≤ x ∧ x < M 3 0 ∧ 0 ≤ y ∧ y < M 3 1
def fd_dor (M : fd_M) (x y : Int) : Int := fd_dr (M 15) (M 16) x y (M 3 2).toNat 0
def fd_crt (M : fd_M) (x y : Int) : Prop := M 14 5 / 2 ^ (y * 7 + x).toNat % 2 = 1
def fd_cvC (M : fd_M) (x y : Int) : Int := if 0 ≤ x ∧ x < M 3 0 ∧ 0 ≤ y ∧ y < M 3 1 then (if fd_dor M x y = -1 then (if M 14 5 / 2 ^ (y * 7 + x).toNat % 2 = 1 then 3 else M 4 (y * 7 + x).toNat) else 10 + fd_dor M x y) else -1
def fd_see (cv : Int → Int → Int) (lf dx dy : Int) : Nat → Int → Int → Int
  | 0, _, _ => -9
  | n + 1, x, y => if 10 ≤ cv (x + dx) (y + dy) then cv (x + dx) (y + dy) - 10 else if cv (x + dx) (y + dy) = -1 ∨ cv (x + dx) (y + dy) = 1 ∨ cv (x + dx) (y + dy) = 3 ∨ (cv (x + dx) (y + dy) = 2 ∧ lf = 1) then -9 else fd_see cv lf dx dy n (x + dx) (y + dy)
theorem fd_dor_rng {M : fd_M} (h : 0 ≤ M 3 2) (x y : Int) : fd_dor M x y = -1 ∨ (0 ≤ fd_dor M x y ∧ fd_dor M x y < M 3 2) := by
  rcases fd_dr_rng (M 15) (M 16) x y (M 3 2).toNat 0 with q | q
  · exact Or.inl q
  · right
    unfold fd_dor
    omega
theorem fd_s_placeOf (M : fd_M) (x y : Int) : fd_call 0 46 [fd_I x, fd_I y] M (some (fd_I ((y * 7) + x))) M := by
  refine fd_u_in (L := [fd_I x, fd_I y]) rfl ?_
  refine fd_u_blk 5 (C := fd_c46) (b := true) (L' := [fd_I x, fd_I y]) (st' := [fd_I ((y * 7) + x)]) (M' := M) rfl rfl (j := 5) rfl (rfl) ?_
  refine fd_u_ret (C := fd_c46) (b := true) (r' := some (fd_I ((y * 7) + x))) rfl rfl rfl (rfl) ?_ ?_
  · rfl
  · rfl

theorem fd_s_wayBack (M : fd_M) (n : Int) (hn : 0 ≤ n ∧ n ≤ 3) : fd_call 0 48 [fd_I n] M (some (fd_I ((n + 2) % 4))) M := by
  refine fd_u_in (L := [fd_I n]) rfl ?_
  refine fd_u_blk 5 (C := fd_c48) (b := true) (L' := [fd_I n]) (st' := [fd_I (fd_and (n + 2) 3)]) (M' := M) rfl rfl (j := 5) rfl (rfl) ?_
  refine fd_u_ret (C := fd_c48) (b := true) (r' := some (fd_I (fd_and (n + 2) 3))) rfl rfl rfl (rfl) ?_ ?_
  · rw [fd_and3 (by omega)]
  · rfl

theorem fd_s_flag (M : fd_M) (n : Int) (hn : 0 ≤ n ∧ n < 2) : fd_call 0 43 [fd_I n] M (some (fd_I n)) M := by
  refine fd_u_in (L := [fd_I n]) rfl ?_
  refine fd_u_blk 1 (C := fd_c43) (b := true) (L' := [fd_I n]) (st' := [fd_I n]) (M' := M) rfl rfl (j := 1) rfl (rfl) ?_
  refine fd_u_br (C := fd_c43) (t := 4) (e := 2) (st' := []) (c := n = 0) (b := (fd_rng n)) rfl rfl rfl (fd_bR (by omega) (by omega)) (fun h3 => ?_) (fun h3 => ?_)
  · refine fd_u_blk 1 (C := fd_c43) (b := true) (L' := [fd_I n]) (st' := [fd_I 0]) (M' := M) rfl rfl (j := 5) rfl (rfl) ?_
    refine fd_u_ret (C := fd_c43) (b := true) (r' := some (fd_I 0)) rfl rfl rfl (rfl) ?_ ?_
    · rw [show n = 0 by omega]
    · rfl
  · refine fd_u_blk 1 (C := fd_c43) (b := true) (L' := [fd_I n]) (st' := [fd_I 1]) (M' := M) rfl rfl (j := 3) rfl (rfl) ?_
    refine fd_u_jmp (C := fd_c43) (j := 5) (st' := [fd_I 1]) rfl rfl (b := true) rfl rfl ?_
    refine fd_u_ret (C := fd_c43) (b := true) (r' := some (fd_I 1)) rfl rfl rfl (rfl) ?_ ?_
    · rw [show n = 1 by omega]
    · rfl

theorem fd_s_bitOf (M : fd_M) (d : Int) (hd : -1 ≤ d ∧ d < 31) : fd_call 0 45 [fd_I d] M (some (fd_I (if d = -1 then 0 else 2 ^ d.toNat))) M := by
  refine fd_u_in (L := [fd_I d]) rfl ?_
  refine fd_u_blk 2 (C := fd_c45) (b := true) (L' := [fd_I d]) (st' := [fd_I (-1), fd_I d]) (M' := M) rfl rfl (j := 2) rfl (rfl) ?_
  refine fd_u_br (C := fd_c45) (t := 5) (e := 3) (st' := []) (c := ¬ d = (-1)) (b := (fd_rng d && fd_rng (-1))) rfl rfl rfl (fd_bA (fd_bR (by omega) (by omega)) (fd_bR (by omega) (by omega))) (fun h3 => ?_) (fun h3 => ?_)
  · refine fd_u_blk 3 (C := fd_c45) (b := (fd_inb d 32 && true)) (L' := [fd_I d]) (st' := [fd_I (2 ^ (d).toNat)]) (M' := M) rfl rfl (j := 8) rfl (fd_bA (fd_bI (by omega) (by omega)) (rfl)) ?_
    refine fd_u_ret (C := fd_c45) (b := true) (r' := some (fd_I (2 ^ (d).toNat))) rfl rfl rfl (rfl) ?_ ?_
    · rw [if_neg (by omega)]
    · rfl
  · refine fd_u_blk 1 (C := fd_c45) (b := true) (L' := [fd_I d]) (st' := [fd_I 0]) (M' := M) rfl rfl (j := 4) rfl (rfl) ?_
    refine fd_u_jmp (C := fd_c45) (j := 8) (st' := [fd_I 0]) rfl rfl (b := true) rfl rfl ?_
    refine fd_u_ret (C := fd_c45) (b := true) (r' := some (fd_I 0)) rfl rfl rfl (rfl) ?_ ?_
    · rw [if_pos (by omega)]
    · rfl

theorem fd_s_hasBit (M : fd_M) (n d : Int) (hn : 0 ≤ n ∧ n < 2147483648) (hd : 0 ≤ d ∧ d < 31) : fd_call 0 44 [fd_I n, fd_I d] M (some (fd_I (fd_bi (n / 2 ^ d.toNat % 2 = 1)))) M := by
  refine fd_u_in (L := [fd_I n, fd_I d]) rfl ?_
  have e1 := fd_and1 (fd_div_rng d.toNat hn)
  refine fd_u_blk 5 (C := fd_c44) (b := ((fd_inb n 2147483648 && fd_inb d 32) && true)) (L' := [fd_I n, fd_I d]) (st' := [fd_I (fd_and (n / 2 ^ (d).toNat) 1)]) (M' := M) rfl rfl (j := 5) rfl (fd_bA (fd_bA (fd_bI (by omega) (by omega)) (fd_bI (by omega) (by omega))) (rfl)) ?_
  refine fd_u_br (C := fd_c44) (t := 8) (e := 6) (st' := []) (c := (fd_and (n / 2 ^ (d).toNat) 1) = 0) (b := (fd_rng (fd_and (n / 2 ^ (d).toNat) 1))) rfl rfl rfl (fd_bR (by omega) (by omega)) (fun h3 => ?_) (fun h3 => ?_)
  · refine fd_u_blk 1 (C := fd_c44) (b := true) (L' := [fd_I n, fd_I d]) (st' := [fd_I 0]) (M' := M) rfl rfl (j := 9) rfl (rfl) ?_
    refine fd_u_ret (C := fd_c44) (b := true) (r' := some (fd_I 0)) rfl rfl rfl (rfl) ?_ ?_
    · exact fd_ok0 (by omega)
    · rfl
  · refine fd_u_blk 1 (C := fd_c44) (b := true) (L' := [fd_I n, fd_I d]) (st' := [fd_I 1]) (M' := M) rfl rfl (j := 7) rfl (rfl) ?_
    refine fd_u_jmp (C := fd_c44) (j := 9) (st' := [fd_I 1]) rfl rfl (b := true) rfl rfl ?_
    refine fd_u_ret (C := fd_c44) (b := true) (r' := some (fd_I 1)) rfl rfl rfl (rfl) ?_ ?_
    · exact fd_ok1 (by omega)
    · rfl

theorem fd_s_cartBit (M : fd_M) (x y : Int) (hx : 0 ≤ x ∧ x ≤ 6) (hy : 0 ≤ y ∧ y ≤ 6) : fd_call 1 47 [fd_I x, fd_I y] M (some (fd_J (2 ^ (y * 7 + x).toNat))) M := by
  refine fd_u_in (L := [fd_I x, fd_I y]) rfl ?_
  refine fd_u_blk 3 (C := fd_c47) (b := true) (L' := [fd_I x, fd_I y]) (st' := [fd_I y, fd_I x, fd_J 1]) (M' := M) rfl rfl (j := 3) rfl (rfl) ?_
  refine fd_u_call (C := fd_c47) (d0 := 0) (mid := 46) (np := 2) (args := [fd_I x, fd_I y]) (r1 := some (fd_I ((y * 7) + x))) (M1 := M) (st' := [fd_I ((y * 7) + x), fd_J 1]) rfl rfl rfl rfl rfl rfl (rfl) (fd_s_placeOf M x y) rfl (by omega) ?_
  refine fd_u_blk 1 (C := fd_c47) (b := (fd_inb ((y * 7) + x) 64 && true)) (L' := [fd_I x, fd_I y]) (st' := [fd_J (2 ^ ((y * 7) + x).toNat)]) (M' := M) rfl rfl (j := 5) rfl (fd_bA (fd_bI (by omega) (by omega)) (rfl)) ?_
  refine fd_u_ret (C := fd_c47) (b := true) (r' := some (fd_J (2 ^ ((y * 7) + x).toNat))) rfl rfl rfl (rfl) ?_ ?_
  · rfl
  · rfl

theorem fd_s_hasDoor (M : fd_M) (d : Int) (hd : -2147483648 ≤ d ∧ d < 2147483648) (h2 : 0 ≤ M 3 2 ∧ M 3 2 ≤ 6) : fd_call 0 124 [fd_R 3, fd_I d] M (some (fd_I (fd_bi (0 ≤ d ∧ d < M 3 2)))) M := by
  refine fd_u_in (L := [fd_R 3, fd_I d]) rfl ?_
  refine fd_u_blk 1 (C := fd_c124) (b := true) (L' := [fd_R 3, fd_I d]) (st' := [fd_I d]) (M' := M) rfl rfl (j := 1) rfl (rfl) ?_
  refine fd_u_br (C := fd_c124) (t := 8) (e := 2) (st' := []) (c := d < 0) (b := (fd_rng d)) rfl rfl rfl (fd_bR (by omega) (by omega)) (fun h3 => ?_) (fun h3 => ?_)
  · refine fd_u_blk 1 (C := fd_c124) (b := true) (L' := [fd_R 3, fd_I d]) (st' := [fd_I 0]) (M' := M) rfl rfl (j := 9) rfl (rfl) ?_
    refine fd_u_ret (C := fd_c124) (b := true) (r' := some (fd_I 0)) rfl rfl rfl (rfl) ?_ ?_
    · exact fd_ok0 (by omega)
    · rfl
  · refine fd_u_blk 3 (C := fd_c124) (b := true) (L' := [fd_R 3, fd_I d]) (st' := [fd_I (M 3 2), fd_I d]) (M' := M) rfl rfl (j := 5) rfl (rfl) ?_
    refine fd_u_br (C := fd_c124) (t := 8) (e := 6) (st' := []) (c := (M 3 2) ≤ d) (b := (fd_rng d && fd_rng (M 3 2))) rfl rfl rfl (fd_bA (fd_bR (by omega) (by omega)) (fd_bR (by omega) (by omega))) (fun h8 => ?_) (fun h8 => ?_)
    · refine fd_u_blk 1 (C := fd_c124) (b := true) (L' := [fd_R 3, fd_I d]) (st' := [fd_I 0]) (M' := M) rfl rfl (j := 9) rfl (rfl) ?_
      refine fd_u_ret (C := fd_c124) (b := true) (r' := some (fd_I 0)) rfl rfl rfl (rfl) ?_ ?_
      · exact fd_ok0 (by omega)
      · rfl
    · refine fd_u_blk 1 (C := fd_c124) (b := true) (L' := [fd_R 3, fd_I d]) (st' := [fd_I 1]) (M' := M) rfl rfl (j := 7) rfl (rfl) ?_
      refine fd_u_jmp (C := fd_c124) (j := 9) (st' := [fd_I 1]) rfl rfl (b := true) rfl rfl ?_
      refine fd_u_ret (C := fd_c124) (b := true) (r' := some (fd_I 1)) rfl rfl rfl (rfl) ?_ ?_
      · exact fd_ok1 (by omega)
      · rfl

theorem fd_s_groundAt (M : fd_M) (hG : fd_PG M) (x y : Int) (hx : -2147483648 ≤ x ∧ x < 2147483648) (hy : -2147483648 ≤ y ∧ y < 2147483648) : fd_call 1 125 [fd_R 3, fd_I x, fd_I y] M (some (fd_I (if 0 ≤ x ∧ x < M 3 0 ∧ 0 ≤ y ∧ y < M 3 1 then M 4 (y * 7 + x).toNat else 1))) M := by
  refine fd_u_in (L := [fd_R 3, fd_I x, fd_I y]) rfl ?_
  have g0 := hG.1
  have g1 := hG.2.1
  refine fd_u_blk 3 (C := fd_c125) (b := true) (L' := [fd_R 3, fd_I x, fd_I y]) (st' := [fd_I y, fd_I x, fd_R 3]) (M' := M) rfl rfl (j := 3) rfl (rfl) ?_
  refine fd_u_call (C := fd_c125) (d0 := 0) (mid := 123) (np := 3) (args := [fd_R 3, fd_I x, fd_I y]) (r1 := some (fd_I (fd_bi (0 ≤ x ∧ x < M 3 0 ∧ 0 ≤ y ∧ y < M 3 1)))) (M1 := M) (st' := [fd_I (fd_bi (0 ≤ x ∧ x < M 3 0 ∧ 0 ≤ y ∧ y < M 3 1))]) rfl rfl rfl rfl rfl rfl (rfl) (fd_s_hasCell M x y (by omega) (by omega) (by omega) (by omega)) rfl (by omega) ?_
  refine fd_u_br (C := fd_c125) (t := 12) (e := 5) (st' := []) (c := (fd_bi (0 ≤ x ∧ x < M 3 0 ∧ 0 ≤ y ∧ y < M 3 1)) = 0) (b := (fd_rng (fd_bi (0 ≤ x ∧ x < M 3 0 ∧ 0 ≤ y ∧ y < M 3 1)))) rfl rfl rfl (fd_biR) (fun h4 => ?_) (fun h4 => ?_)
  · have h4 := fd_biF.mp h4
    refine fd_u_blk 1 (C := fd_c125) (b := true) (L' := [fd_R 3, fd_I x, fd_I y]) (st' := [fd_I 1]) (M' := M) rfl rfl (j := 13) rfl (rfl) ?_
    refine fd_u_ret (C := fd_c125) (b := true) (r' := some (fd_I 1)) rfl rfl rfl (rfl) ?_ ?_
    · rw [if_neg (by omega)]
    · rfl
  · have h4 := fd_biT.mp h4
    refine fd_u_blk 4 (C := fd_c125) (b := true) (L' := [fd_R 3, fd_I x, fd_I y]) (st' := [fd_I y, fd_I x, fd_R 4]) (M' := M) rfl rfl (j := 9) rfl (rfl) ?_
    refine fd_u_call (C := fd_c125) (d0 := 0) (mid := 46) (np := 2) (args := [fd_I x, fd_I y]) (r1 := some (fd_I ((y * 7) + x))) (M1 := M) (st' := [fd_I ((y * 7) + x), fd_R 4]) rfl rfl rfl rfl rfl rfl (rfl) (fd_s_placeOf M x y) rfl (by omega) ?_
    refine fd_u_blk 1 (C := fd_c125) (b := (fd_inb ((y * 7) + x) 49 && true)) (L' := [fd_R 3, fd_I x, fd_I y]) (st' := [fd_I (M 4 ((y * 7) + x).toNat)]) (M' := M) rfl rfl (j := 11) rfl (fd_bA (fd_bI (by omega) (by omega)) (rfl)) ?_
    refine fd_u_jmp (C := fd_c125) (j := 13) (st' := [fd_I (M 4 ((y * 7) + x).toNat)]) rfl rfl (b := true) rfl rfl ?_
    refine fd_u_ret (C := fd_c125) (b := true) (r' := some (fd_I (M 4 ((y * 7) + x).toNat))) rfl rfl rfl (rfl) ?_ ?_
    · rw [if_pos (by omega)]
    · rfl

theorem fd_s_isOpen (M : fd_M) (hG : fd_CG M) (d : Int) (hd : 0 ≤ d ∧ d < 6) : fd_call 1 144 [fd_R 14, fd_I d] M (some (fd_I (fd_bi (M 14 4 / 2 ^ d.toNat % 2 = 1)))) M := by
  refine fd_u_in (L := [fd_R 14, fd_I d]) rfl ?_
  obtain ⟨s1, s2, s3, s4, s5, s6, s7, s8⟩ := hG.2
  refine fd_u_blk 3 (C := fd_c144) (b := true) (L' := [fd_R 14, fd_I d]) (st' := [fd_I d, fd_I (M 14 4)]) (M' := M) rfl rfl (j := 3) rfl (rfl) ?_
  refine fd_u_call (C := fd_c144) (d0 := 0) (mid := 44) (np := 2) (args := [fd_I (M 14 4), fd_I d]) (r1 := some (fd_I (fd_bi ((M 14 4) / 2 ^ (d).toNat % 2 = 1)))) (M1 := M) (st' := [fd_I (fd_bi ((M 14 4) / 2 ^ (d).toNat % 2 = 1))]) rfl rfl rfl rfl rfl rfl (rfl) (fd_s_hasBit M (M 14 4) d (by omega) (by omega)) rfl (by omega) ?_
  refine fd_u_ret (C := fd_c144) (b := (fd_inb (fd_bi ((M 14 4) / 2 ^ (d).toNat % 2 = 1)) 2)) (r' := some (fd_I (fd_bi ((M 14 4) / 2 ^ (d).toNat % 2 = 1)))) rfl rfl rfl (fd_biI) ?_ ?_
  · rfl
  · rfl

theorem fd_s_hasCart (M : fd_M) (hG : fd_CG M) (x y : Int) (hx : 0 ≤ x ∧ x ≤ 6) (hy : 0 ≤ y ∧ y ≤ 6) : fd_call 2 145 [fd_R 14, fd_I x, fd_I y] M (some (fd_I (fd_bi (M 14 5 / 2 ^ (y * 7 + x).toNat % 2 = 1)))) M := by
  refine fd_u_in (L := [fd_R 14, fd_I x, fd_I y]) rfl ?_
  obtain ⟨s1, s2, s3, s4, s5, s6, s7, s8⟩ := hG.2
  obtain ⟨n, hn⟩ := Int.eq_ofNat_of_zero_le s6.1
  have e1 := fd_landP n (y * 7 + x).toNat (by omega) (by omega)
  rw [← hn] at e1
  have e2 : M 14 5 / 2 ^ (y * 7 + x).toNat % 2 = ((n / 2 ^ (y * 7 + x).toNat % 2 : Nat) : Int) := by rw [hn]; simp
  have e3 : -2147483648 ≤ fd_lcmp (fd_land (M 14 5) (2 ^ (y * 7 + x).toNat)) 0 ∧ fd_lcmp (fd_land (M 14 5) (2 ^ (y * 7 + x).toNat)) 0 < 2147483648 := fd_xrng _
  refine fd_u_blk 4 (C := fd_c145) (b := true) (L' := [fd_R 14, fd_I x, fd_I y]) (st' := [fd_I y, fd_I x, fd_J (M 14 5)]) (M' := M) rfl rfl (j := 4) rfl (rfl) ?_
  refine fd_u_call (C := fd_c145) (d0 := 1) (mid := 47) (np := 2) (args := [fd_I x, fd_I y]) (r1 := some (fd_J (2 ^ (y * 7 + x).toNat))) (M1 := M) (st' := [fd_J (2 ^ (y * 7 + x).toNat), fd_J (M 14 5)]) rfl rfl rfl rfl rfl rfl (rfl) (fd_s_cartBit M x y (by omega) (by omega)) rfl (by omega) ?_
  refine fd_u_blk 3 (C := fd_c145) (b := true) (L' := [fd_R 14, fd_I x, fd_I y]) (st' := [fd_I (fd_lcmp (fd_land (M 14 5) (2 ^ (y * 7 + x).toNat)) 0)]) (M' := M) rfl rfl (j := 8) rfl (rfl) ?_
  refine fd_u_br (C := fd_c145) (t := 11) (e := 9) (st' := []) (c := (fd_lcmp (fd_land (M 14 5) (2 ^ (y * 7 + x).toNat)) 0) = 0) (b := (fd_rng (fd_lcmp (fd_land (M 14 5) (2 ^ (y * 7 + x).toNat)) 0))) rfl rfl rfl (fd_bR (by omega) (by omega)) (fun h5 => ?_) (fun h5 => ?_)
  · refine fd_u_blk 1 (C := fd_c145) (b := true) (L' := [fd_R 14, fd_I x, fd_I y]) (st' := [fd_I 0]) (M' := M) rfl rfl (j := 12) rfl (rfl) ?_
    refine fd_u_ret (C := fd_c145) (b := true) (r' := some (fd_I 0)) rfl rfl rfl (rfl) ?_ ?_
    · exact fd_ok0 (by omega)
    · rfl
  · refine fd_u_blk 1 (C := fd_c145) (b := true) (L' := [fd_R 14, fd_I x, fd_I y]) (st' := [fd_I 1]) (M' := M) rfl rfl (j := 10) rfl (rfl) ?_
    refine fd_u_jmp (C := fd_c145) (j := 12) (st' := [fd_I 1]) rfl rfl (b := true) rfl rfl ?_
    refine fd_u_ret (C := fd_c145) (b := true) (r' := some (fd_I 1)) rfl rfl rfl (rfl) ?_ ?_
    · exact fd_ok1 (by omega)
    · rfl

theorem fd_s_isDoorOn (M : fd_M) (hG : fd_CG M) (d : Nat) (hd : d < 6) (x y : Int) (hx : -2147483648 ≤ x ∧ x < 2147483648) (hy : -2147483648 ≤ y ∧ y < 2147483648) : fd_call 0 146 [fd_R 14, fd_I ((d : Nat) : Int), fd_I x, fd_I y] M (some (fd_I (fd_bi (M 15 d = x ∧ M 16 d = y)))) M := by
  refine fd_u_in (L := [fd_R 14, fd_I ((d : Nat) : Int), fd_I x, fd_I y]) rfl ?_
  obtain ⟨s1, s2, s3, s4, s5, s6, s7, s8⟩ := hG.2
  have q1 := s1 d
  have q2 := s2 d
  simp only [Nat.reduceAdd] at q1 q2
  refine fd_u_blk 5 (C := fd_c146) (b := (fd_inb ((d : Nat) : Int) 6 && true)) (L' := [fd_R 14, fd_I ((d : Nat) : Int), fd_I x, fd_I y]) (st' := [fd_I x, fd_I (M 15 d)]) (M' := M) rfl rfl (j := 5) rfl (fd_bA (fd_bI (by omega) (by omega)) (rfl)) ?_
  refine fd_u_br (C := fd_c146) (t := 14) (e := 6) (st' := []) (c := ¬ (M 15 d) = x) (b := (fd_rng (M 15 d) && fd_rng x)) rfl rfl rfl (fd_bA (fd_bR (by omega) (by omega)) (fd_bR (by omega) (by omega))) (fun h3 => ?_) (fun h3 => ?_)
  · refine fd_u_blk 1 (C := fd_c146) (b := true) (L' := [fd_R 14, fd_I ((d : Nat) : Int), fd_I x, fd_I y]) (st' := [fd_I 0]) (M' := M) rfl rfl (j := 15) rfl (rfl) ?_
    refine fd_u_ret (C := fd_c146) (b := true) (r' := some (fd_I 0)) rfl rfl rfl (rfl) ?_ ?_
    · exact fd_ok0 (by omega)
    · rfl
  · refine fd_u_blk 5 (C := fd_c146) (b := (fd_inb ((d : Nat) : Int) 6 && true)) (L' := [fd_R 14, fd_I ((d : Nat) : Int), fd_I x, fd_I y]) (st' := [fd_I y, fd_I (M 16 d)]) (M' := M) rfl rfl (j := 11) rfl (fd_bA (fd_bI (by omega) (by omega)) (rfl)) ?_
    refine fd_u_br (C := fd_c146) (t := 14) (e := 12) (st' := []) (c := ¬ (M 16 d) = y) (b := (fd_rng (M 16 d) && fd_rng y)) rfl rfl rfl (fd_bA (fd_bR (by omega) (by omega)) (fd_bR (by omega) (by omega))) (fun h8 => ?_) (fun h8 => ?_)
    · refine fd_u_blk 1 (C := fd_c146) (b := true) (L' := [fd_R 14, fd_I ((d : Nat) : Int), fd_I x, fd_I y]) (st' := [fd_I 0]) (M' := M) rfl rfl (j := 15) rfl (rfl) ?_
      refine fd_u_ret (C := fd_c146) (b := true) (r' := some (fd_I 0)) rfl rfl rfl (rfl) ?_ ?_
      · exact fd_ok0 (by omega)
      · rfl
    · refine fd_u_blk 1 (C := fd_c146) (b := true) (L' := [fd_R 14, fd_I ((d : Nat) : Int), fd_I x, fd_I y]) (st' := [fd_I 1]) (M' := M) rfl rfl (j := 13) rfl (rfl) ?_
      refine fd_u_jmp (C := fd_c146) (j := 15) (st' := [fd_I 1]) rfl rfl (b := true) rfl rfl ?_
      refine fd_u_ret (C := fd_c146) (b := true) (r' := some (fd_I 1)) rfl rfl rfl (rfl) ?_ ?_
      · exact fd_ok1 (by omega)
      · rfl
end
section
/-! the look along a line -/
theorem fd_sx_rng (w : Int) : -1 ≤ fd_sx w ∧ fd_sx w ≤ 1 := by unfold fd_sx; split <;> (try split) <;> omega
theorem fd_sy_rng (w : Int) : -1 ≤ fd_sy w ∧ fd_sy w ≤ 1 := by unfold fd_sy; split <;> (try split) <;> omega
def fd_nb (r : Int) : Int := if r = -9 then -1 else r
def fd_wsee (M : fd_M) (d : Nat) (w : Int) : Int := fd_see (fd_cvC M) (M 14 6) (fd_sx w) (fd_sy w) (M 3 4).toNat (M 15 d) (M 16 d)
def fd_sw (M : fd_M) (d : Nat) : Int := if M 14 7 = 1 ∨ ¬ M 14 4 / 2 ^ d % 2 = 1 then -9 else fd_wsee M d (M 17 d)
def fd_due (wy : Nat → Int) (pr o : Int) (d : Nat) : Int := if o = -9 then 0 else if wy o.toNat = (wy d + 2) % 4 then 2 * pr else pr
def fd_dio (M : fd_M) (d : Nat) : Int := fd_due (M 17) (M 3 3) (if M 14 7 = 1 then -9 else fd_wsee M d (M 17 d)) d
def fd_dueC (M : fd_M) (d : Nat) : Int := fd_due (M 17) (M 3 3) (fd_sw M d) d
def fd_sum (f : Nat → Int) : Nat → Int
  | 0 => 0
  | n + 1 => fd_sum f n + f n
theorem fd_cvC_rng {M : fd_M} (hG : fd_CG M) (x y : Int) : -1 ≤ fd_cvC M x y ∧ (fd_cvC M x y ≤ 3 ∨ (10 ≤ fd_cvC M x y ∧ fd_cvC M x y < 10 + M 3 2)) := by
  obtain ⟨g0, g1, g2, g3, g4, g5⟩ := hG.1
  unfold fd_cvC
  have q := fd_dor_rng g2.1 x y
  have q5 := g5 (y * 7 + x).toNat
  split
  · split
    · split <;> omega
    · omega
  · omega
theorem fd_see_rng {cv : Int → Int → Int} {D : Int} (h : ∀ x y, -1 ≤ cv x y ∧ (cv x y ≤ 3 ∨ (10 ≤ cv x y ∧ cv x y < 10 + D))) (lf dx dy : Int) : ∀ (n : Nat) (x y : Int), fd_see cv lf dx dy n x y = -9 ∨ (0 ≤ fd_see cv lf dx dy n x y ∧ fd_see cv lf dx dy n x y < D)
  | 0, _, _ => Or.inl rfl
  | n + 1, x, y => by
    rw [fd_see]
    have q := h (x + dx) (y + dy)
    split
    · right; omega
    · split
      · exact Or.inl rfl
      · exact fd_see_rng h lf dx dy n _ _
theorem fd_wsee_rng {M : fd_M} (hG : fd_CG M) (d : Nat) (w : Int) : fd_wsee M d w = -9 ∨ (0 ≤ fd_wsee M d w ∧ fd_wsee M d w < M 3 2) := fd_see_rng (fd_cvC_rng hG) _ _ _ _ _ _
theorem fd_sw_rng {M : fd_M} (hG : fd_CG M) (d : Nat) : fd_sw M d = -9 ∨ (0 ≤ fd_sw M d ∧ fd_sw M d < M 3 2) := by
  unfold fd_sw
  split
  · exact Or.inl rfl
  · exact fd_wsee_rng hG _ _
theorem fd_due_rng {wy : Nat → Int} {pr : Int} (h : 1 ≤ pr ∧ pr ≤ 9) (o : Int) (d : Nat) : 0 ≤ fd_due wy pr o d ∧ fd_due wy pr o d ≤ 18 := by
  unfold fd_due
  split
  · omega
  · split <;> omega
theorem fd_sum_rng {f : Nat → Int} {B : Int} (h : ∀ d, 0 ≤ f d ∧ f d ≤ B) : ∀ n : Nat, 0 ≤ fd_sum f n ∧ fd_sum f n ≤ B * n
  | 0 => by simp [fd_sum]
  | n + 1 => by
    have := fd_sum_rng h n
    have := h n
    rw [fd_sum, Int.natCast_add, Int.mul_add]
    simp
    omega
theorem fd_orP : ∀ k : Fin 6, ∀ a : Fin 64, a.val < 2 ^ k.val → fd_or (a.val : Int) (2 ^ k.val) = (a.val : Int) + 2 ^ k.val := by decide +kernel
theorem fd_orS {a : Int} {k : Nat} (hk : k < 6) (h0 : 0 ≤ a) (h : a < 2 ^ k) : fd_or a (2 ^ k) = a + 2 ^ k := by
  obtain ⟨n, rfl⟩ := Int.eq_ofNat_of_zero_le h0
  have hn : n < 2 ^ k := by exact_mod_cast h
  have : 2 ^ k ≤ 2 ^ 6 := Nat.pow_le_pow_right (by decide) (by omega)
  exact fd_orP ⟨k, hk⟩ ⟨n, by omega⟩ hn
def fd_bits (p : Nat → Prop) [DecidablePred p] (n : Nat) : Int := fd_sum (fun k => if p k then 2 ^ k else 0) n
theorem fd_bits_rng (p : Nat → Prop) [DecidablePred p] : ∀ n : Nat, 0 ≤ fd_bits p n ∧ fd_bits p n < 2 ^ n
  | 0 => by simp [fd_bits, fd_sum]
  | n + 1 => by
    have q := fd_bits_rng p n
    have e : fd_bits p (n + 1) = fd_bits p n + (if p n then 2 ^ n else 0) := rfl
    rw [e, Int.pow_succ]
    have := fd_pow_pos n
    split <;> omega
theorem fd_cvC_zero {M : fd_M} (hG : fd_CG M) (x y : Int) : fd_cvC M x y = 0 ↔ (0 ≤ x ∧ x < M 3 0 ∧ 0 ≤ y ∧ y < M 3 1) ∧ (if 0 ≤ x ∧ x < M 3 0 ∧ 0 ≤ y ∧ y < M 3 1 then M 4 (y * 7 + x).toNat else 1) = 0 ∧ ¬ M 14 5 / 2 ^ (y * 7 + x).toNat % 2 = 1 ∧ fd_dor M x y = -1 := by
  obtain ⟨g0, g1, g2, g3, g4, g5⟩ := hG.1
  have q := fd_dor_rng g2.1 x y
  unfold fd_cvC
  by_cases h1 : 0 ≤ x ∧ x < M 3 0 ∧ 0 ≤ y ∧ y < M 3 1
  · rw [if_pos h1, if_pos h1]
    by_cases h2 : fd_dor M x y = -1
    · rw [if_pos h2]
      by_cases h3 : M 14 5 / 2 ^ (y * 7 + x).toNat % 2 = 1
      · rw [if_pos h3]
        simp [h3]
      · rw [if_neg h3]
        simp [h1, h2, h3]
    · rw [if_neg h2]
      constructor
      · intro z; omega
      · intro z; exact absurd z.2.2.2 h2
  · rw [if_neg h1]
    constructor
    · intro z; omega
    · intro z; exact absurd z.1 h1
theorem fd_l_doorOn (M : fd_M) (hG : fd_CG M) (x y : Int) (hx : -2147483648 ≤ x ∧ x < 2147483648) (hy : -2147483648 ≤ y ∧ y < 2147483648) : ∀ (n : Nat) (k : Nat) (hk : (k : Int) + n = M 3 2), fd_run 1 147 2 [fd_R 14, fd_I x, fd_I y, fd_I (M 3 2), fd_I ((k : Nat) : Int)] [] M (some (fd_I (fd_dr (M 15) (M 16) x y n k))) M := by
  obtain ⟨g0, g1, g2, g3, g4, g5⟩ := hG.1
  intro n
  induction n with
  | zero =>
    intro k hk
    refine fd_u_blk 2 (C := fd_c147) (b := true) (L' := [fd_R 14, fd_I x, fd_I y, fd_I (M 3 2), fd_I ((k : Nat) : Int)]) (st' := [fd_I (M 3 2), fd_I ((k : Nat) : Int)]) (M' := M) rfl rfl (j := 4) rfl (rfl) ?_
    refine fd_u_br (C := fd_c147) (t := 18) (e := 5) (st' := []) (c := (M 3 2) ≤ ((k : Nat) : Int)) (b := (fd_rng ((k : Nat) : Int) && fd_rng (M 3 2))) rfl rfl rfl (fd_bA (fd_bR (by omega) (by omega)) (fd_bR (by omega) (by omega))) (fun h4 => ?_) (fun h4 => absurd h4 (by omega))
    refine fd_u_blk 1 (C := fd_c147) (b := true) (L' := [fd_R 14, fd_I x, fd_I y, fd_I (M 3 2), fd_I ((k : Nat) : Int)]) (st' := [fd_I (-1)]) (M' := M) rfl rfl (j := 19) rfl (rfl) ?_
    refine fd_u_ret (C := fd_c147) (b := true) (r' := some (fd_I (-1))) rfl rfl rfl (rfl) ?_ ?_
    · rfl
    · rfl
  | succ n ih =>
    intro k hk
    refine fd_u_blk 2 (C := fd_c147) (b := true) (L' := [fd_R 14, fd_I x, fd_I y, fd_I (M 3 2), fd_I ((k : Nat) : Int)]) (st' := [fd_I (M 3 2), fd_I ((k : Nat) : Int)]) (M' := M) rfl rfl (j := 4) rfl (rfl) ?_
    refine fd_u_br (C := fd_c147) (t := 18) (e := 5) (st' := []) (c := (M 3 2) ≤ ((k : Nat) : Int)) (b := (fd_rng ((k : Nat) : Int) && fd_rng (M 3 2))) rfl rfl rfl (fd_bA (fd_bR (by omega) (by omega)) (fd_bR (by omega) (by omega))) (fun h4 => absurd h4 (by omega)) (fun h4 => ?_)
    refine fd_u_blk 2 (C := fd_c147) (b := true) (L' := [fd_R 14, fd_I x, fd_I y, fd_I (M 3 2), fd_I ((k : Nat) : Int)]) (st' := [fd_I 6, fd_I ((k : Nat) : Int)]) (M' := M) rfl rfl (j := 7) rfl (rfl) ?_
    refine fd_u_br (C := fd_c147) (t := 18) (e := 8) (st' := []) (c := 6 ≤ ((k : Nat) : Int)) (b := (fd_rng ((k : Nat) : Int) && fd_rng 6)) rfl rfl rfl (fd_bA (fd_bR (by omega) (by omega)) (fd_bR (by omega) (by omega))) (fun h7 => absurd h7 (by omega)) (fun h7 => ?_)
    refine fd_u_blk 4 (C := fd_c147) (b := true) (L' := [fd_R 14, fd_I x, fd_I y, fd_I (M 3 2), fd_I ((k : Nat) : Int)]) (st' := [fd_I y, fd_I x, fd_I ((k : Nat) : Int), fd_R 14]) (M' := M) rfl rfl (j := 12) rfl (rfl) ?_
    refine fd_u_call (C := fd_c147) (d0 := 0) (mid := 146) (np := 4) (args := [fd_R 14, fd_I ((k : Nat) : Int), fd_I x, fd_I y]) (r1 := some (fd_I (fd_bi (M 15 k = x ∧ M 16 k = y)))) (M1 := M) (st' := [fd_I (fd_bi (M 15 k = x ∧ M 16 k = y))]) rfl rfl rfl rfl rfl rfl (rfl) (fd_s_isDoorOn M hG k (by omega) x y (by omega) (by omega)) rfl (by omega) ?_
    refine fd_u_br (C := fd_c147) (t := 16) (e := 14) (st' := []) (c := (fd_bi (M 15 k = x ∧ M 16 k = y)) = 0) (b := (fd_rng (fd_bi (M 15 k = x ∧ M 16 k = y)))) rfl rfl rfl (fd_biR) (fun h13 => ?_) (fun h13 => ?_)
    · have h13 := fd_biF.mp h13
      refine fd_u_blk 1 (C := fd_c147) (b := true) (L' := [fd_R 14, fd_I x, fd_I y, fd_I (M 3 2), fd_I (((k + 1) : Nat) : Int)]) (st' := []) (M' := M) rfl rfl (j := 17) rfl (rfl) ?_
      refine fd_u_jmp (C := fd_c147) (j := 2) (st' := []) rfl rfl (b := true) rfl rfl ?_
      rw [fd_dr, if_neg h13]
      exact ih (k + 1) (by omega)
    · have h13 := fd_biT.mp h13
      refine fd_u_blk 1 (C := fd_c147) (b := true) (L' := [fd_R 14, fd_I x, fd_I y, fd_I (M 3 2), fd_I ((k : Nat) : Int)]) (st' := [fd_I ((k : Nat) : Int)]) (M' := M) rfl rfl (j := 15) rfl (rfl) ?_
      refine fd_u_ret (C := fd_c147) (b := true) (r' := some (fd_I ((k : Nat) : Int))) rfl rfl rfl (rfl) ?_ ?_
      · rw [fd_dr, if_pos h13]
      · rfl

theorem fd_s_doorOn (M : fd_M) (hG : fd_CG M) (x y : Int) (hx : -2147483648 ≤ x ∧ x < 2147483648) (hy : -2147483648 ≤ y ∧ y < 2147483648) : fd_call 1 147 [fd_R 14, fd_I x, fd_I y, fd_I (M 3 2)] M (some (fd_I (fd_dor M x y))) M := by
  refine fd_u_in (L := [fd_R 14, fd_I x, fd_I y, fd_I (M 3 2), fd_R 1003]) rfl ?_
  obtain ⟨g0, g1, g2, g3, g4, g5⟩ := hG.1
  refine fd_u_blk 2 (C := fd_c147) (b := true) (L' := [fd_R 14, fd_I x, fd_I y, fd_I (M 3 2), fd_I 0]) (st' := []) (M' := M) rfl rfl (j := 2) rfl (rfl) ?_
  exact fd_l_doorOn M hG x y hx hy (M 3 2).toNat 0 (by omega)

theorem fd_s_isVacant (M : fd_M) (hG : fd_CG M) (x y : Int) (hx : -2147483648 ≤ x ∧ x < 2147483648) (hy : -2147483648 ≤ y ∧ y < 2147483648) : fd_call 3 150 [fd_R 72, fd_I x, fd_I y] M (some (fd_I (fd_bi (fd_cvC M x y = 0)))) M := by
  refine fd_u_in (L := [fd_R 72, fd_I x, fd_I y]) rfl ?_
  obtain ⟨g0, g1, g2, g3, g4, g5⟩ := hG.1
  have q5 := g5 (y * 7 + x).toNat
  have eg : 0 ≤ (if 0 ≤ x ∧ x < M 3 0 ∧ 0 ≤ y ∧ y < M 3 1 then M 4 (y * 7 + x).toNat else 1) ∧ (if 0 ≤ x ∧ x < M 3 0 ∧ 0 ≤ y ∧ y < M 3 1 then M 4 (y * 7 + x).toNat else 1) ≤ 2 := by split <;> omega
  refine fd_u_blk 4 (C := fd_c150) (b := true) (L' := [fd_R 72, fd_I x, fd_I y]) (st' := [fd_I y, fd_I x, fd_R 3]) (M' := M) rfl rfl (j := 4) rfl (rfl) ?_
  refine fd_u_call (C := fd_c150) (d0 := 0) (mid := 123) (np := 3) (args := [fd_R 3, fd_I x, fd_I y]) (r1 := some (fd_I (fd_bi (0 ≤ x ∧ x < M 3 0 ∧ 0 ≤ y ∧ y < M 3 1)))) (M1 := M) (st' := [fd_I (fd_bi (0 ≤ x ∧ x < M 3 0 ∧ 0 ≤ y ∧ y < M 3 1))]) rfl rfl rfl rfl rfl rfl (rfl) (fd_s_hasCell M x y (by omega) (by omega) (by omega) (by omega)) rfl (by omega) ?_
  refine fd_u_br (C := fd_c150) (t := 30) (e := 6) (st' := []) (c := (fd_bi (0 ≤ x ∧ x < M 3 0 ∧ 0 ≤ y ∧ y < M 3 1)) = 0) (b := (fd_rng (fd_bi (0 ≤ x ∧ x < M 3 0 ∧ 0 ≤ y ∧ y < M 3 1)))) rfl rfl rfl (fd_biR) (fun h5 => ?_) (fun h5 => ?_)
  · have h5 := fd_biF.mp h5
    refine fd_u_blk 1 (C := fd_c150) (b := true) (L' := [fd_R 72, fd_I x, fd_I y]) (st' := [fd_I 0]) (M' := M) rfl rfl (j := 31) rfl (rfl) ?_
    refine fd_u_ret (C := fd_c150) (b := true) (r' := some (fd_I 0)) rfl rfl rfl (rfl) ?_ ?_
    · refine fd_ok0 (fun q => ?_)
      obtain ⟨q1, q2, q3, q4⟩ := (fd_cvC_zero hG x y).mp q
      first | exact absurd q1 h5 | exact absurd q2 h11 | exact absurd h17 q3 | exact absurd q4 h27
    · rfl
  · have h5 := fd_biT.mp h5
    refine fd_u_blk 4 (C := fd_c150) (b := true) (L' := [fd_R 72, fd_I x, fd_I y]) (st' := [fd_I y, fd_I x, fd_R 3]) (M' := M) rfl rfl (j := 10) rfl (rfl) ?_
    refine fd_u_call (C := fd_c150) (d0 := 1) (mid := 125) (np := 3) (args := [fd_R 3, fd_I x, fd_I y]) (r1 := some (fd_I (if 0 ≤ x ∧ x < M 3 0 ∧ 0 ≤ y ∧ y < M 3 1 then M 4 (y * 7 + x).toNat else 1))) (M1 := M) (st' := [fd_I (if 0 ≤ x ∧ x < M 3 0 ∧ 0 ≤ y ∧ y < M 3 1 then M 4 (y * 7 + x).toNat else 1)]) rfl rfl rfl rfl rfl rfl (rfl) (fd_s_groundAt M hG.1 x y (by omega) (by omega)) rfl (by omega) ?_
    refine fd_u_br (C := fd_c150) (t := 30) (e := 12) (st' := []) (c := ¬ (if 0 ≤ x ∧ x < M 3 0 ∧ 0 ≤ y ∧ y < M 3 1 then M 4 (y * 7 + x).toNat else 1) = 0) (b := (fd_rng (if 0 ≤ x ∧ x < M 3 0 ∧ 0 ≤ y ∧ y < M 3 1 then M 4 (y * 7 + x).toNat else 1))) rfl rfl rfl (fd_bR (by omega) (by omega)) (fun h11 => ?_) (fun h11 => ?_)
    · refine fd_u_blk 1 (C := fd_c150) (b := true) (L' := [fd_R 72, fd_I x, fd_I y]) (st' := [fd_I 0]) (M' := M) rfl rfl (j := 31) rfl (rfl) ?_
      refine fd_u_ret (C := fd_c150) (b := true) (r' := some (fd_I 0)) rfl rfl rfl (rfl) ?_ ?_
      · refine fd_ok0 (fun q => ?_)
        obtain ⟨q1, q2, q3, q4⟩ := (fd_cvC_zero hG x y).mp q
        first | exact absurd q1 h5 | exact absurd q2 h11 | exact absurd h17 q3 | exact absurd q4 h27
      · rfl
    · refine fd_u_blk 4 (C := fd_c150) (b := true) (L' := [fd_R 72, fd_I x, fd_I y]) (st' := [fd_I y, fd_I x, fd_R 14]) (M' := M) rfl rfl (j := 16) rfl (rfl) ?_
      refine fd_u_call (C := fd_c150) (d0 := 2) (mid := 145) (np := 3) (args := [fd_R 14, fd_I x, fd_I y]) (r1 := some (fd_I (fd_bi (M 14 5 / 2 ^ (y * 7 + x).toNat % 2 = 1)))) (M1 := M) (st' := [fd_I (fd_bi (M 14 5 / 2 ^ (y * 7 + x).toNat % 2 = 1))]) rfl rfl rfl rfl rfl rfl (rfl) (fd_s_hasCart M hG x y (by omega) (by omega)) rfl (by omega) ?_
      refine fd_u_br (C := fd_c150) (t := 30) (e := 18) (st' := []) (c := ¬ (fd_bi (M 14 5 / 2 ^ (y * 7 + x).toNat % 2 = 1)) = 0) (b := (fd_rng (fd_bi (M 14 5 / 2 ^ (y * 7 + x).toNat % 2 = 1)))) rfl rfl rfl (fd_biR) (fun h17 => ?_) (fun h17 => ?_)
      · have h17 := fd_biT.mp h17
        refine fd_u_blk 1 (C := fd_c150) (b := true) (L' := [fd_R 72, fd_I x, fd_I y]) (st' := [fd_I 0]) (M' := M) rfl rfl (j := 31) rfl (rfl) ?_
        refine fd_u_ret (C := fd_c150) (b := true) (r' := some (fd_I 0)) rfl rfl rfl (rfl) ?_ ?_
        · refine fd_ok0 (fun q => ?_)
          obtain ⟨q1, q2, q3, q4⟩ := (fd_cvC_zero hG x y).mp q
          first | exact absurd q1 h5 | exact absurd q2 h11 | exact absurd h17 q3 | exact absurd q4 h27
        · rfl
      · have h17 := fd_biF2  h17
        refine fd_u_blk 7 (C := fd_c150) (b := true) (L' := [fd_R 72, fd_I x, fd_I y]) (st' := [fd_I (M 3 2), fd_I y, fd_I x, fd_R 14]) (M' := M) rfl rfl (j := 25) rfl (rfl) ?_
        refine fd_u_call (C := fd_c150) (d0 := 1) (mid := 147) (np := 4) (args := [fd_R 14, fd_I x, fd_I y, fd_I (M 3 2)]) (r1 := some (fd_I (fd_dor M x y))) (M1 := M) (st' := [fd_I (fd_dor M x y)]) rfl rfl rfl rfl rfl rfl (rfl) (fd_s_doorOn M hG x y (by omega) (by omega)) rfl (by omega) ?_
        have qd := fd_dor_rng (M := M) (by omega) x y
        refine fd_u_blk 1 (C := fd_c150) (b := true) (L' := [fd_R 72, fd_I x, fd_I y]) (st' := [fd_I (-1), fd_I (fd_dor M x y)]) (M' := M) rfl rfl (j := 27) rfl (rfl) ?_
        refine fd_u_br (C := fd_c150) (t := 30) (e := 28) (st' := []) (c := ¬ (fd_dor M x y) = (-1)) (b := (fd_rng (fd_dor M x y) && fd_rng (-1))) rfl rfl rfl (fd_bA (fd_bR (by omega) (by omega)) (fd_bR (by omega) (by omega))) (fun h27 => ?_) (fun h27 => ?_)
        · refine fd_u_blk 1 (C := fd_c150) (b := true) (L' := [fd_R 72, fd_I x, fd_I y]) (st' := [fd_I 0]) (M' := M) rfl rfl (j := 31) rfl (rfl) ?_
          refine fd_u_ret (C := fd_c150) (b := true) (r' := some (fd_I 0)) rfl rfl rfl (rfl) ?_ ?_
          · refine fd_ok0 (fun q => ?_)
            obtain ⟨q1, q2, q3, q4⟩ := (fd_cvC_zero hG x y).mp q
            first | exact absurd q1 h5 | exact absurd q2 h11 | exact absurd h17 q3 | exact absurd q4 h27
          · rfl
        · refine fd_u_blk 1 (C := fd_c150) (b := true) (L' := [fd_R 72, fd_I x, fd_I y]) (st' := [fd_I 1]) (M' := M) rfl rfl (j := 29) rfl (rfl) ?_
          refine fd_u_jmp (C := fd_c150) (j := 31) (st' := [fd_I 1]) rfl rfl (b := true) rfl rfl ?_
          refine fd_u_ret (C := fd_c150) (b := true) (r' := some (fd_I 1)) rfl rfl rfl (rfl) ?_ ?_
          · exact fd_ok1 ((fd_cvC_zero hG x y).mpr ⟨h5, Classical.not_not.mp h11, h17, Classical.not_not.mp h27⟩)
          · rfl

theorem fd_s_hides (M : fd_M) (hG : fd_CG M) (x y : Int) (hc : 0 ≤ x ∧ x < M 3 0 ∧ 0 ≤ y ∧ y < M 3 1) : fd_call 3 151 [fd_R 72, fd_I x, fd_I y] M (some (fd_I (fd_bi (M 4 (y * 7 + x).toNat = 1 ∨ (M 4 (y * 7 + x).toNat = 2 ∧ M 14 6 = 1) ∨ M 14 5 / 2 ^ (y * 7 + x).toNat % 2 = 1)))) M := by
  refine fd_u_in (L := [fd_R 72, fd_I x, fd_I y, fd_R 1003]) rfl ?_
  obtain ⟨g0, g1, g2, g3, g4, g5⟩ := hG.1
  obtain ⟨s1, s2, s3, s4, s5, s6, s7, s8⟩ := hG.2
  have q5 := g5 (y * 7 + x).toNat
  have eg : (if 0 ≤ x ∧ x < M 3 0 ∧ 0 ≤ y ∧ y < M 3 1 then M 4 (y * 7 + x).toNat else 1) = M 4 (y * 7 + x).toNat := if_pos hc
  refine fd_u_blk 4 (C := fd_c151) (b := true) (L' := [fd_R 72, fd_I x, fd_I y, fd_R 1003]) (st' := [fd_I y, fd_I x, fd_R 3]) (M' := M) rfl rfl (j := 4) rfl (rfl) ?_
  refine fd_u_call (C := fd_c151) (d0 := 1) (mid := 125) (np := 3) (args := [fd_R 3, fd_I x, fd_I y]) (r1 := some (fd_I (if 0 ≤ x ∧ x < M 3 0 ∧ 0 ≤ y ∧ y < M 3 1 then M 4 (y * 7 + x).toNat else 1))) (M1 := M) (st' := [fd_I (if 0 ≤ x ∧ x < M 3 0 ∧ 0 ≤ y ∧ y < M 3 1 then M 4 (y * 7 + x).toNat else 1)]) rfl rfl rfl rfl rfl rfl (rfl) (fd_s_groundAt M hG.1 x y (by omega) (by omega)) rfl (by omega) ?_
  refine fd_u_blk 3 (C := fd_c151) (b := true) (L' := [fd_R 72, fd_I x, fd_I y, fd_I (if 0 ≤ x ∧ x < M 3 0 ∧ 0 ≤ y ∧ y < M 3 1 then M 4 (y * 7 + x).toNat else 1)]) (st' := [fd_I 1, fd_I (if 0 ≤ x ∧ x < M 3 0 ∧ 0 ≤ y ∧ y < M 3 1 then M 4 (y * 7 + x).toNat else 1)]) (M' := M) rfl rfl (j := 8) rfl (rfl) ?_
  refine fd_u_br (C := fd_c151) (t := 22) (e := 9) (st' := []) (c := (if 0 ≤ x ∧ x < M 3 0 ∧ 0 ≤ y ∧ y < M 3 1 then M 4 (y * 7 + x).toNat else 1) = 1) (b := (fd_rng (if 0 ≤ x ∧ x < M 3 0 ∧ 0 ≤ y ∧ y < M 3 1 then M 4 (y * 7 + x).toNat else 1) && fd_rng 1)) rfl rfl rfl (fd_bA (fd_bR (by omega) (by omega)) (fd_bR (by omega) (by omega))) (fun h8 => ?_) (fun h8 => ?_)
  · refine fd_u_blk 1 (C := fd_c151) (b := true) (L' := [fd_R 72, fd_I x, fd_I y, fd_I (if 0 ≤ x ∧ x < M 3 0 ∧ 0 ≤ y ∧ y < M 3 1 then M 4 (y * 7 + x).toNat else 1)]) (st' := [fd_I 1]) (M' := M) rfl rfl (j := 23) rfl (rfl) ?_
    refine fd_u_jmp (C := fd_c151) (j := 25) (st' := [fd_I 1]) rfl rfl (b := true) rfl rfl ?_
    refine fd_u_ret (C := fd_c151) (b := true) (r' := some (fd_I 1)) rfl rfl rfl (rfl) ?_ ?_
    · refine fd_ok1 ?_
      omega
    · rfl
  · refine fd_u_blk 2 (C := fd_c151) (b := true) (L' := [fd_R 72, fd_I x, fd_I y, fd_I (if 0 ≤ x ∧ x < M 3 0 ∧ 0 ≤ y ∧ y < M 3 1 then M 4 (y * 7 + x).toNat else 1)]) (st' := [fd_I 2, fd_I (if 0 ≤ x ∧ x < M 3 0 ∧ 0 ≤ y ∧ y < M 3 1 then M 4 (y * 7 + x).toNat else 1)]) (M' := M) rfl rfl (j := 11) rfl (rfl) ?_
    refine fd_u_br (C := fd_c151) (t := 16) (e := 12) (st' := []) (c := ¬ (if 0 ≤ x ∧ x < M 3 0 ∧ 0 ≤ y ∧ y < M 3 1 then M 4 (y * 7 + x).toNat else 1) = 2) (b := (fd_rng (if 0 ≤ x ∧ x < M 3 0 ∧ 0 ≤ y ∧ y < M 3 1 then M 4 (y * 7 + x).toNat else 1) && fd_rng 2)) rfl rfl rfl (fd_bA (fd_bR (by omega) (by omega)) (fd_bR (by omega) (by omega))) (fun h11 => ?_) (fun h11 => ?_)
    · refine fd_u_blk 4 (C := fd_c151) (b := true) (L' := [fd_R 72, fd_I x, fd_I y, fd_I (if 0 ≤ x ∧ x < M 3 0 ∧ 0 ≤ y ∧ y < M 3 1 then M 4 (y * 7 + x).toNat else 1)]) (st' := [fd_I y, fd_I x, fd_R 14]) (M' := M) rfl rfl (j := 20) rfl (rfl) ?_
      refine fd_u_call (C := fd_c151) (d0 := 2) (mid := 145) (np := 3) (args := [fd_R 14, fd_I x, fd_I y]) (r1 := some (fd_I (fd_bi (M 14 5 / 2 ^ (y * 7 + x).toNat % 2 = 1)))) (M1 := M) (st' := [fd_I (fd_bi (M 14 5 / 2 ^ (y * 7 + x).toNat % 2 = 1))]) rfl rfl rfl rfl rfl rfl (rfl) (fd_s_hasCart M hG x y (by omega) (by omega)) rfl (by omega) ?_
      refine fd_u_br (C := fd_c151) (t := 24) (e := 22) (st' := []) (c := (fd_bi (M 14 5 / 2 ^ (y * 7 + x).toNat % 2 = 1)) = 0) (b := (fd_rng (fd_bi (M 14 5 / 2 ^ (y * 7 + x).toNat % 2 = 1)))) rfl rfl rfl (fd_biR) (fun h21 => ?_) (fun h21 => ?_)
      · have h21 := fd_biF.mp h21
        refine fd_u_blk 1 (C := fd_c151) (b := true) (L' := [fd_R 72, fd_I x, fd_I y, fd_I (if 0 ≤ x ∧ x < M 3 0 ∧ 0 ≤ y ∧ y < M 3 1 then M 4 (y * 7 + x).toNat else 1)]) (st' := [fd_I 0]) (M' := M) rfl rfl (j := 25) rfl (rfl) ?_
        refine fd_u_ret (C := fd_c151) (b := true) (r' := some (fd_I 0)) rfl rfl rfl (rfl) ?_ ?_
        · refine fd_ok0 ?_
          omega
        · rfl
      · have h21 := fd_biT.mp h21
        refine fd_u_blk 1 (C := fd_c151) (b := true) (L' := [fd_R 72, fd_I x, fd_I y, fd_I (if 0 ≤ x ∧ x < M 3 0 ∧ 0 ≤ y ∧ y < M 3 1 then M 4 (y * 7 + x).toNat else 1)]) (st' := [fd_I 1]) (M' := M) rfl rfl (j := 23) rfl (rfl) ?_
        refine fd_u_jmp (C := fd_c151) (j := 25) (st' := [fd_I 1]) rfl rfl (b := true) rfl rfl ?_
        refine fd_u_ret (C := fd_c151) (b := true) (r' := some (fd_I 1)) rfl rfl rfl (rfl) ?_ ?_
        · refine fd_ok1 ?_
          omega
        · rfl
    · refine fd_u_blk 3 (C := fd_c151) (b := true) (L' := [fd_R 72, fd_I x, fd_I y, fd_I (if 0 ≤ x ∧ x < M 3 0 ∧ 0 ≤ y ∧ y < M 3 1 then M 4 (y * 7 + x).toNat else 1)]) (st' := [fd_I (M 14 6)]) (M' := M) rfl rfl (j := 15) rfl (rfl) ?_
      refine fd_u_br (C := fd_c151) (t := 22) (e := 16) (st' := []) (c := ¬ (M 14 6) = 0) (b := (fd_rng (M 14 6))) rfl rfl rfl (fd_bR (by omega) (by omega)) (fun h15 => ?_) (fun h15 => ?_)
      · refine fd_u_blk 1 (C := fd_c151) (b := true) (L' := [fd_R 72, fd_I x, fd_I y, fd_I (if 0 ≤ x ∧ x < M 3 0 ∧ 0 ≤ y ∧ y < M 3 1 then M 4 (y * 7 + x).toNat else 1)]) (st' := [fd_I 1]) (M' := M) rfl rfl (j := 23) rfl (rfl) ?_
        refine fd_u_jmp (C := fd_c151) (j := 25) (st' := [fd_I 1]) rfl rfl (b := true) rfl rfl ?_
        refine fd_u_ret (C := fd_c151) (b := true) (r' := some (fd_I 1)) rfl rfl rfl (rfl) ?_ ?_
        · refine fd_ok1 ?_
          omega
        · rfl
      · refine fd_u_blk 4 (C := fd_c151) (b := true) (L' := [fd_R 72, fd_I x, fd_I y, fd_I (if 0 ≤ x ∧ x < M 3 0 ∧ 0 ≤ y ∧ y < M 3 1 then M 4 (y * 7 + x).toNat else 1)]) (st' := [fd_I y, fd_I x, fd_R 14]) (M' := M) rfl rfl (j := 20) rfl (rfl) ?_
        refine fd_u_call (C := fd_c151) (d0 := 2) (mid := 145) (np := 3) (args := [fd_R 14, fd_I x, fd_I y]) (r1 := some (fd_I (fd_bi (M 14 5 / 2 ^ (y * 7 + x).toNat % 2 = 1)))) (M1 := M) (st' := [fd_I (fd_bi (M 14 5 / 2 ^ (y * 7 + x).toNat % 2 = 1))]) rfl rfl rfl rfl rfl rfl (rfl) (fd_s_hasCart M hG x y (by omega) (by omega)) rfl (by omega) ?_
        refine fd_u_br (C := fd_c151) (t := 24) (e := 22) (st' := []) (c := (fd_bi (M 14 5 / 2 ^ (y * 7 + x).toNat % 2 = 1)) = 0) (b := (fd_rng (fd_bi (M 14 5 / 2 ^ (y * 7 + x).toNat % 2 = 1)))) rfl rfl rfl (fd_biR) (fun h21 => ?_) (fun h21 => ?_)
        · have h21 := fd_biF.mp h21
          refine fd_u_blk 1 (C := fd_c151) (b := true) (L' := [fd_R 72, fd_I x, fd_I y, fd_I (if 0 ≤ x ∧ x < M 3 0 ∧ 0 ≤ y ∧ y < M 3 1 then M 4 (y * 7 + x).toNat else 1)]) (st' := [fd_I 0]) (M' := M) rfl rfl (j := 25) rfl (rfl) ?_
          refine fd_u_ret (C := fd_c151) (b := true) (r' := some (fd_I 0)) rfl rfl rfl (rfl) ?_ ?_
          · refine fd_ok0 ?_
            omega
          · rfl
        · have h21 := fd_biT.mp h21
          refine fd_u_blk 1 (C := fd_c151) (b := true) (L' := [fd_R 72, fd_I x, fd_I y, fd_I (if 0 ≤ x ∧ x < M 3 0 ∧ 0 ≤ y ∧ y < M 3 1 then M 4 (y * 7 + x).toNat else 1)]) (st' := [fd_I 1]) (M' := M) rfl rfl (j := 23) rfl (rfl) ?_
          refine fd_u_jmp (C := fd_c151) (j := 25) (st' := [fd_I 1]) rfl rfl (b := true) rfl rfl ?_
          refine fd_u_ret (C := fd_c151) (b := true) (r' := some (fd_I 1)) rfl rfl rfl (rfl) ?_ ?_
          · refine fd_ok1 ?_
            omega
          · rfl

theorem fd_see_hit {cv : Int → Int → Int} {lf dx dy : Int} {n : Nat} {x y c : Int} (e : cv (x + dx) (y + dy) = c) (h : 10 ≤ c) : fd_see cv lf dx dy (n + 1) x y = c - 10 := by
  rw [fd_see, e, if_pos h]
theorem fd_see_end {cv : Int → Int → Int} {lf dx dy : Int} {n : Nat} {x y c : Int} (e : cv (x + dx) (y + dy) = c) (h : c = -1 ∨ c = 1 ∨ c = 3 ∨ (c = 2 ∧ lf = 1)) : fd_see cv lf dx dy (n + 1) x y = -9 := by
  rw [fd_see, e, if_neg (by omega), if_pos h]
theorem fd_see_on {cv : Int → Int → Int} {lf dx dy : Int} {n : Nat} {x y c : Int} (e : cv (x + dx) (y + dy) = c) (h : ¬ 10 ≤ c) (h2 : ¬ (c = -1 ∨ c = 1 ∨ c = 3 ∨ (c = 2 ∧ lf = 1))) : fd_see cv lf dx dy (n + 1) x y = fd_see cv lf dx dy n (x + dx) (y + dy) := by
  rw [fd_see, e, if_neg h, if_neg h2]
theorem fd_l_wouldSee (M : fd_M) (hG : fd_CG M) (d w : Int) (hw : 0 ≤ w ∧ w ≤ 3) : ∀ (n : Nat) (k : Nat) (x y : Int) (u : fd_V) (hk : (k : Int) + n = M 3 4) (hx : 0 ≤ x ∧ x ≤ 6) (hy : 0 ≤ y ∧ y ≤ 6), fd_run 4 152 14 [fd_R 72, fd_I d, fd_I w, fd_I x, fd_I y, fd_I ((k : Nat) : Int), u] [] M (some (fd_I (fd_nb (fd_see (fd_cvC M) (M 14 6) (fd_sx w) (fd_sy w) n x y)))) M := by
  obtain ⟨g0, g1, g2, g3, g4, g5⟩ := hG.1
  obtain ⟨s1, s2, s3, s4, s5, s6, s7, s8⟩ := hG.2
  have qx := fd_sx_rng w
  have qy := fd_sy_rng w
  intro n
  induction n with
  | zero =>
    intro k x y u hk hx hy
    refine fd_u_blk 4 (C := fd_c152) (b := true) (L' := [fd_R 72, fd_I d, fd_I w, fd_I x, fd_I y, fd_I ((k : Nat) : Int), u]) (st' := [fd_I (M 3 4), fd_I ((k : Nat) : Int)]) (M' := M) rfl rfl (j := 18) rfl (rfl) ?_
    refine fd_u_br (C := fd_c152) (t := 62) (e := 19) (st' := []) (c := (M 3 4) ≤ ((k : Nat) : Int)) (b := (fd_rng ((k : Nat) : Int) && fd_rng (M 3 4))) rfl rfl rfl (fd_bA (fd_bR (by omega) (by omega)) (fd_bR (by omega) (by omega))) (fun h18 => ?_) (fun h18 => absurd h18 (by omega))
    refine fd_u_blk 1 (C := fd_c152) (b := true) (L' := [fd_R 72, fd_I d, fd_I w, fd_I x, fd_I y, fd_I ((k : Nat) : Int), u]) (st' := [fd_I (-1)]) (M' := M) rfl rfl (j := 63) rfl (rfl) ?_
    refine fd_u_ret (C := fd_c152) (b := true) (r' := some (fd_I (-1))) rfl rfl rfl (rfl) ?_ ?_
    · rfl
    · rfl
  | succ n ih =>
    intro k x y u hk hx hy
    refine fd_u_blk 4 (C := fd_c152) (b := true) (L' := [fd_R 72, fd_I d, fd_I w, fd_I x, fd_I y, fd_I ((k : Nat) : Int), u]) (st' := [fd_I (M 3 4), fd_I ((k : Nat) : Int)]) (M' := M) rfl rfl (j := 18) rfl (rfl) ?_
    refine fd_u_br (C := fd_c152) (t := 62) (e := 19) (st' := []) (c := (M 3 4) ≤ ((k : Nat) : Int)) (b := (fd_rng ((k : Nat) : Int) && fd_rng (M 3 4))) rfl rfl rfl (fd_bA (fd_bR (by omega) (by omega)) (fd_bR (by omega) (by omega))) (fun h18 => absurd h18 (by omega)) (fun h18 => ?_)
    refine fd_u_blk 16 (C := fd_c152) (b := (fd_inb w 4 && (fd_inb w 4 && true))) (L' := [fd_R 72, fd_I d, fd_I w, fd_I (x + (fd_sx w)), fd_I (y + (fd_sy w)), fd_I ((k : Nat) : Int), u]) (st' := [fd_I (y + (fd_sy w)), fd_I (x + (fd_sx w)), fd_R 3]) (M' := M) rfl rfl (j := 35) rfl (fd_bA (fd_bI (by omega) (by omega)) (fd_bA (fd_bI (by omega) (by omega)) (rfl))) ?_
    refine fd_u_call (C := fd_c152) (d0 := 0) (mid := 123) (np := 3) (args := [fd_R 3, fd_I (x + (fd_sx w)), fd_I (y + (fd_sy w))]) (r1 := some (fd_I (fd_bi (0 ≤ (x + (fd_sx w)) ∧ (x + (fd_sx w)) < M 3 0 ∧ 0 ≤ (y + (fd_sy w)) ∧ (y + (fd_sy w)) < M 3 1)))) (M1 := M) (st' := [fd_I (fd_bi (0 ≤ (x + (fd_sx w)) ∧ (x + (fd_sx w)) < M 3 0 ∧ 0 ≤ (y + (fd_sy w)) ∧ (y + (fd_sy w)) < M 3 1))]) rfl rfl rfl rfl rfl rfl (rfl) (fd_s_hasCell M (x + (fd_sx w)) (y + (fd_sy w)) (by omega) (by omega) (by omega) (by omega)) rfl (by omega) ?_
    refine fd_u_br (C := fd_c152) (t := 39) (e := 37) (st' := []) (c := ¬ (fd_bi (0 ≤ (x + (fd_sx w)) ∧ (x + (fd_sx w)) < M 3 0 ∧ 0 ≤ (y + (fd_sy w)) ∧ (y + (fd_sy w)) < M 3 1)) = 0) (b := (fd_rng (fd_bi (0 ≤ (x + (fd_sx w)) ∧ (x + (fd_sx w)) < M 3 0 ∧ 0 ≤ (y + (fd_sy w)) ∧ (y + (fd_sy w)) < M 3 1)))) rfl rfl rfl (fd_biR) (fun h36 => ?_) (fun h36 => ?_)
    · have h36 := fd_biT.mp h36
      refine fd_u_blk 7 (C := fd_c152) (b := true) (L' := [fd_R 72, fd_I d, fd_I w, fd_I (x + (fd_sx w)), fd_I (y + (fd_sy w)), fd_I ((k : Nat) : Int), u]) (st' := [fd_I (M 3 2), fd_I (y + (fd_sy w)), fd_I (x + (fd_sx w)), fd_R 14]) (M' := M) rfl rfl (j := 46) rfl (rfl) ?_
      refine fd_u_call (C := fd_c152) (d0 := 1) (mid := 147) (np := 4) (args := [fd_R 14, fd_I (x + (fd_sx w)), fd_I (y + (fd_sy w)), fd_I (M 3 2)]) (r1 := some (fd_I (fd_dor M (x + (fd_sx w)) (y + (fd_sy w))))) (M1 := M) (st' := [fd_I (fd_dor M (x + (fd_sx w)) (y + (fd_sy w)))]) rfl rfl rfl rfl rfl rfl (rfl) (fd_s_doorOn M hG (x + (fd_sx w)) (y + (fd_sy w)) (by omega) (by omega)) rfl (by omega) ?_
      have qd := fd_dor_rng (M := M) (by omega) (x + (fd_sx w)) (y + (fd_sy w))
      refine fd_u_blk 3 (C := fd_c152) (b := true) (L' := [fd_R 72, fd_I d, fd_I w, fd_I (x + (fd_sx w)), fd_I (y + (fd_sy w)), fd_I ((k : Nat) : Int), fd_I (fd_dor M (x + (fd_sx w)) (y + (fd_sy w)))]) (st' := [fd_I (-1), fd_I (fd_dor M (x + (fd_sx w)) (y + (fd_sy w)))]) (M' := M) rfl rfl (j := 50) rfl (rfl) ?_
      refine fd_u_br (C := fd_c152) (t := 53) (e := 51) (st' := []) (c := (fd_dor M (x + (fd_sx w)) (y + (fd_sy w))) = (-1)) (b := (fd_rng (fd_dor M (x + (fd_sx w)) (y + (fd_sy w))) && fd_rng (-1))) rfl rfl rfl (fd_bA (fd_bR (by omega) (by omega)) (fd_bR (by omega) (by omega))) (fun h50 => ?_) (fun h50 => ?_)
      · refine fd_u_blk 3 (C := fd_c152) (b := true) (L' := [fd_R 72, fd_I d, fd_I w, fd_I (x + (fd_sx w)), fd_I (y + (fd_sy w)), fd_I ((k : Nat) : Int), fd_I (fd_dor M (x + (fd_sx w)) (y + (fd_sy w)))]) (st' := [fd_I (y + (fd_sy w)), fd_I (x + (fd_sx w)), fd_R 72]) (M' := M) rfl rfl (j := 56) rfl (rfl) ?_
        refine fd_u_call (C := fd_c152) (d0 := 3) (mid := 151) (np := 3) (args := [fd_R 72, fd_I (x + (fd_sx w)), fd_I (y + (fd_sy w))]) (r1 := some (fd_I (fd_bi (M 4 ((y + (fd_sy w)) * 7 + (x + (fd_sx w))).toNat = 1 ∨ (M 4 ((y + (fd_sy w)) * 7 + (x + (fd_sx w))).toNat = 2 ∧ M 14 6 = 1) ∨ M 14 5 / 2 ^ ((y + (fd_sy w)) * 7 + (x + (fd_sx w))).toNat % 2 = 1)))) (M1 := M) (st' := [fd_I (fd_bi (M 4 ((y + (fd_sy w)) * 7 + (x + (fd_sx w))).toNat = 1 ∨ (M 4 ((y + (fd_sy w)) * 7 + (x + (fd_sx w))).toNat = 2 ∧ M 14 6 = 1) ∨ M 14 5 / 2 ^ ((y + (fd_sy w)) * 7 + (x + (fd_sx w))).toNat % 2 = 1))]) rfl rfl rfl rfl rfl rfl (rfl) (fd_s_hides M hG (x + (fd_sx w)) (y + (fd_sy w)) (by omega)) rfl (by omega) ?_
        refine fd_u_br (C := fd_c152) (t := 60) (e := 58) (st' := []) (c := (fd_bi (M 4 ((y + (fd_sy w)) * 7 + (x + (fd_sx w))).toNat = 1 ∨ (M 4 ((y + (fd_sy w)) * 7 + (x + (fd_sx w))).toNat = 2 ∧ M 14 6 = 1) ∨ M 14 5 / 2 ^ ((y + (fd_sy w)) * 7 + (x + (fd_sx w))).toNat % 2 = 1)) = 0) (b := (fd_rng (fd_bi (M 4 ((y + (fd_sy w)) * 7 + (x + (fd_sx w))).toNat = 1 ∨ (M 4 ((y + (fd_sy w)) * 7 + (x + (fd_sx w))).toNat = 2 ∧ M 14 6 = 1) ∨ M 14 5 / 2 ^ ((y + (fd_sy w)) * 7 + (x + (fd_sx w))).toNat % 2 = 1)))) rfl rfl rfl (fd_biR) (fun h57 => ?_) (fun h57 => ?_)
        · have h57 := fd_biF.mp h57
          refine fd_u_blk 1 (C := fd_c152) (b := true) (L' := [fd_R 72, fd_I d, fd_I w, fd_I (x + (fd_sx w)), fd_I (y + (fd_sy w)), fd_I (((k + 1) : Nat) : Int), fd_I (fd_dor M (x + (fd_sx w)) (y + (fd_sy w)))]) (st' := []) (M' := M) rfl rfl (j := 61) rfl (rfl) ?_
          refine fd_u_jmp (C := fd_c152) (j := 14) (st' := []) rfl rfl (b := true) rfl rfl ?_
          have q5 := g5 ((y + (fd_sy w)) * 7 + (x + (fd_sx w))).toNat
          rw [fd_see_on (c := if M 14 5 / 2 ^ ((y + (fd_sy w)) * 7 + (x + (fd_sx w))).toNat % 2 = 1 then 3 else M 4 ((y + (fd_sy w)) * 7 + (x + (fd_sx w))).toNat) (by unfold fd_cvC; rw [if_pos h36, if_pos h50]) (by split <;> omega) (by split <;> omega)]
          exact ih (k + 1) _ _ _ (by omega) (by omega) (by omega)
        · have h57 := fd_biT.mp h57
          refine fd_u_blk 1 (C := fd_c152) (b := true) (L' := [fd_R 72, fd_I d, fd_I w, fd_I (x + (fd_sx w)), fd_I (y + (fd_sy w)), fd_I ((k : Nat) : Int), fd_I (fd_dor M (x + (fd_sx w)) (y + (fd_sy w)))]) (st' := [fd_I (-1)]) (M' := M) rfl rfl (j := 59) rfl (rfl) ?_
          refine fd_u_ret (C := fd_c152) (b := true) (r' := some (fd_I (-1))) rfl rfl rfl (rfl) ?_ ?_
          · first
            | rw [fd_see_end (c := -1) (by unfold fd_cvC; rw [if_neg h36]) (by omega)]; rfl
            | rw [fd_see_end (c := if M 14 5 / 2 ^ ((y + (fd_sy w)) * 7 + (x + (fd_sx w))).toNat % 2 = 1 then 3 else M 4 ((y + (fd_sy w)) * 7 + (x + (fd_sx w))).toNat) (by unfold fd_cvC; rw [if_pos h36, if_pos h50]) (by split <;> omega)]; rfl
          · rfl
      · refine fd_u_blk 1 (C := fd_c152) (b := true) (L' := [fd_R 72, fd_I d, fd_I w, fd_I (x + (fd_sx w)), fd_I (y + (fd_sy w)), fd_I ((k : Nat) : Int), fd_I (fd_dor M (x + (fd_sx w)) (y + (fd_sy w)))]) (st' := [fd_I (fd_dor M (x + (fd_sx w)) (y + (fd_sy w)))]) (M' := M) rfl rfl (j := 52) rfl (rfl) ?_
        refine fd_u_ret (C := fd_c152) (b := true) (r' := some (fd_I (fd_dor M (x + (fd_sx w)) (y + (fd_sy w))))) rfl rfl rfl (rfl) ?_ ?_
        · rw [fd_see_hit (c := 10 + fd_dor M (x + (fd_sx w)) (y + (fd_sy w))) (by unfold fd_cvC; rw [if_pos h36, if_neg h50]) (by omega)]
          rw [show 10 + fd_dor M (x + (fd_sx w)) (y + (fd_sy w)) - 10 = fd_dor M (x + (fd_sx w)) (y + (fd_sy w)) by omega, fd_nb, if_neg (by omega)]
        · rfl
    · have h36 := fd_biF2  h36
      refine fd_u_blk 1 (C := fd_c152) (b := true) (L' := [fd_R 72, fd_I d, fd_I w, fd_I (x + (fd_sx w)), fd_I (y + (fd_sy w)), fd_I ((k : Nat) : Int), u]) (st' := [fd_I (-1)]) (M' := M) rfl rfl (j := 38) rfl (rfl) ?_
      refine fd_u_ret (C := fd_c152) (b := true) (r' := some (fd_I (-1))) rfl rfl rfl (rfl) ?_ ?_
      · first
        | rw [fd_see_end (c := -1) (by unfold fd_cvC; rw [if_neg h36]) (by omega)]; rfl
        | rw [fd_see_end (c := if M 14 5 / 2 ^ ((y + (fd_sy w)) * 7 + (x + (fd_sx w))).toNat % 2 = 1 then 3 else M 4 ((y + (fd_sy w)) * 7 + (x + (fd_sx w))).toNat) (by unfold fd_cvC; rw [if_pos h36, if_pos h50]) (by split <;> omega)]; rfl
      · rfl

theorem fd_s_wouldSee (M : fd_M) (hG : fd_CG M) (d : Nat) (hd : d < 6) (w : Int) (hw : 0 ≤ w ∧ w ≤ 3) : fd_call 4 152 [fd_R 72, fd_I ((d : Nat) : Int), fd_I w] M (some (fd_I (fd_nb (fd_wsee M d w)))) M := by
  refine fd_u_in (L := [fd_R 72, fd_I ((d : Nat) : Int), fd_I w, fd_R 1003, fd_R 1003, fd_R 1003, fd_R 1003]) rfl ?_
  obtain ⟨g0, g1, g2, g3, g4, g5⟩ := hG.1
  obtain ⟨s1, s2, s3, s4, s5, s6, s7, s8⟩ := hG.2
  have q1 := s1 d
  have q2 := s2 d
  simp only [Nat.reduceAdd] at q1 q2
  refine fd_u_blk 14 (C := fd_c152) (b := (fd_inb ((d : Nat) : Int) 6 && (fd_inb ((d : Nat) : Int) 6 && true))) (L' := [fd_R 72, fd_I ((d : Nat) : Int), fd_I w, fd_I (M 15 d), fd_I (M 16 d), fd_I 0, fd_R 1003]) (st' := []) (M' := M) rfl rfl (j := 14) rfl (fd_bA (fd_bI (by omega) (by omega)) (fd_bA (fd_bI (by omega) (by omega)) (rfl))) ?_
  exact fd_l_wouldSee M hG _ w hw (M 3 4).toNat 0 _ _ _ (by omega) q1 q2
end
section
theorem fd_nb_cases {r D : Int} (h : r = -9 ∨ (0 ≤ r ∧ r < D)) : (r = -9 ∧ fd_nb r = -1) ∨ (0 ≤ r ∧ r < D ∧ fd_nb r = r) := by
  unfold fd_nb
  rcases h with h | h
  · left; simp [h]
  · right; rw [if_neg (by omega)]; omega
theorem fd_s_wouldSeeI (M : fd_M) (hG : fd_CG M) (d : Int) (hd : 0 ≤ d ∧ d < 6) (w : Int) (hw : 0 ≤ w ∧ w ≤ 3) : fd_call 4 152 [fd_R 72, fd_I d, fd_I w] M (some (fd_I (fd_nb (fd_wsee M d.toNat w)))) M := by
  obtain ⟨n, rfl⟩ := Int.eq_ofNat_of_zero_le hd.1
  exact fd_s_wouldSee M hG n (by omega) w hw
theorem fd_dio_fog {M : fd_M} {d : Nat} (h : M 14 7 = 1) : fd_dio M d = 0 := by
  rw [fd_dio, fd_due, if_pos h, if_pos rfl]
theorem fd_dio_none {M : fd_M} {d : Nat} (h : ¬ M 14 7 = 1) (h2 : fd_wsee M d (M 17 d) = -9) : fd_dio M d = 0 := by
  rw [fd_dio, fd_due, if_neg h, if_pos h2]
theorem fd_dio_st {M : fd_M} {d : Nat} (h : ¬ M 14 7 = 1) (h2 : ¬ fd_wsee M d (M 17 d) = -9) (h3 : M 17 (fd_wsee M d (M 17 d)).toNat = (M 17 d + 2) % 4) : fd_dio M d = 2 * M 3 3 := by
  rw [fd_dio, fd_due, if_neg h, if_neg h2, if_pos h3]
theorem fd_dio_pl {M : fd_M} {d : Nat} (h : ¬ M 14 7 = 1) (h2 : ¬ fd_wsee M d (M 17 d) = -9) (h3 : ¬ M 17 (fd_wsee M d (M 17 d)).toNat = (M 17 d + 2) % 4) : fd_dio M d = M 3 3 := by
  rw [fd_dio, fd_due, if_neg h, if_neg h2, if_neg h3]
theorem fd_dueC_eq {M : fd_M} (hG : fd_CG M) (d : Nat) : fd_dueC M d = if M 14 4 / 2 ^ d % 2 = 1 then fd_dio M d else 0 := by
  unfold fd_dueC fd_dio fd_sw
  by_cases h : M 14 4 / 2 ^ d % 2 = 1
  · rw [if_pos h]
    by_cases h7 : M 14 7 = 1
    · rw [if_pos (Or.inl h7), if_pos h7]
    · rw [if_neg (by simp [h, h7]), if_neg h7]
  · rw [if_neg h, if_pos (Or.inr h), fd_due, if_pos rfl]
theorem fd_s_seesWhom (M : fd_M) (hG : fd_CG M) (d : Int) (hd : 0 ≤ d ∧ d < 6) : fd_call 5 153 [fd_R 72, fd_I d] M (some (fd_I (fd_nb (fd_sw M d.toNat)))) M := by
  refine fd_u_in (L := [fd_R 72, fd_I d]) rfl ?_
  obtain ⟨s1, s2, s3, s4, s5, s6, s7, s8⟩ := hG.2
  have q1 := s1 d.toNat
  have q2 := s2 d.toNat
  have q3 := s3 d.toNat
  have q4 := s4 d.toNat
  simp only [Nat.reduceAdd] at q1 q2 q3 q4
  refine fd_u_blk 3 (C := fd_c153) (b := true) (L' := [fd_R 72, fd_I d]) (st' := [fd_I (M 14 7)]) (M' := M) rfl rfl (j := 3) rfl (rfl) ?_
  refine fd_u_br (C := fd_c153) (t := 9) (e := 4) (st' := []) (c := ¬ (M 14 7) = 0) (b := (fd_rng (M 14 7))) rfl rfl rfl (fd_bR (by omega) (by omega)) (fun h3 => ?_) (fun h3 => ?_)
  · refine fd_u_blk 1 (C := fd_c153) (b := true) (L' := [fd_R 72, fd_I d]) (st' := [fd_I (-1)]) (M' := M) rfl rfl (j := 10) rfl (rfl) ?_
    refine fd_u_jmp (C := fd_c153) (j := 19) (st' := [fd_I (-1)]) rfl rfl (b := true) rfl rfl ?_
    refine fd_u_ret (C := fd_c153) (b := true) (r' := some (fd_I (-1))) rfl rfl rfl (rfl) ?_ ?_
    · rw [fd_sw, if_pos (by omega)]; rfl
    · rfl
  · refine fd_u_blk 3 (C := fd_c153) (b := true) (L' := [fd_R 72, fd_I d]) (st' := [fd_I d, fd_R 14]) (M' := M) rfl rfl (j := 7) rfl (rfl) ?_
    refine fd_u_call (C := fd_c153) (d0 := 1) (mid := 144) (np := 2) (args := [fd_R 14, fd_I d]) (r1 := some (fd_I (fd_bi (M 14 4 / 2 ^ (d).toNat % 2 = 1)))) (M1 := M) (st' := [fd_I (fd_bi (M 14 4 / 2 ^ (d).toNat % 2 = 1))]) rfl rfl rfl rfl rfl rfl (rfl) (fd_s_isOpen M hG d (by omega)) rfl (by omega) ?_
    refine fd_u_br (C := fd_c153) (t := 11) (e := 9) (st' := []) (c := ¬ (fd_bi (M 14 4 / 2 ^ (d).toNat % 2 = 1)) = 0) (b := (fd_rng (fd_bi (M 14 4 / 2 ^ (d).toNat % 2 = 1)))) rfl rfl rfl (fd_biR) (fun h8 => ?_) (fun h8 => ?_)
    · have h8 := fd_biT.mp h8
      refine fd_u_blk 7 (C := fd_c153) (b := (fd_inb d 6 && true)) (L' := [fd_R 72, fd_I d]) (st' := [fd_I (M 17 (d).toNat), fd_I d, fd_R 72]) (M' := M) rfl rfl (j := 18) rfl (fd_bA (fd_bI (by omega) (by omega)) (rfl)) ?_
      refine fd_u_call (C := fd_c153) (d0 := 4) (mid := 152) (np := 3) (args := [fd_R 72, fd_I d, fd_I (M 17 (d).toNat)]) (r1 := some (fd_I (fd_nb (fd_wsee M (d).toNat (M 17 (d).toNat))))) (M1 := M) (st' := [fd_I (fd_nb (fd_wsee M (d).toNat (M 17 (d).toNat)))]) rfl rfl rfl rfl rfl rfl (rfl) (fd_s_wouldSeeI M hG d (by omega) (M 17 (d).toNat) (by omega)) rfl (by omega) ?_
      have qn := fd_nb_cases (fd_wsee_rng hG (d).toNat (M 17 (d).toNat))
      refine fd_u_ret (C := fd_c153) (b := true) (r' := some (fd_I (fd_nb (fd_wsee M (d).toNat (M 17 (d).toNat))))) rfl rfl rfl (rfl) ?_ ?_
      · rw [fd_sw, if_neg (by omega)]
      · rfl
    · have h8 := fd_biF2  h8
      refine fd_u_blk 1 (C := fd_c153) (b := true) (L' := [fd_R 72, fd_I d]) (st' := [fd_I (-1)]) (M' := M) rfl rfl (j := 10) rfl (rfl) ?_
      refine fd_u_jmp (C := fd_c153) (j := 19) (st' := [fd_I (-1)]) rfl rfl (b := true) rfl rfl ?_
      refine fd_u_ret (C := fd_c153) (b := true) (r' := some (fd_I (-1))) rfl rfl rfl (rfl) ?_ ?_
      · rw [fd_sw, if_pos (by omega)]; rfl
      · rfl

theorem fd_s_dueIfOpen (M : fd_M) (hG : fd_CG M) (d : Int) (hd : 0 ≤ d ∧ d < 6) : fd_call 5 155 [fd_R 72, fd_I d] M (some (fd_I (fd_dio M d.toNat))) M := by
  refine fd_u_in (L := [fd_R 72, fd_I d, fd_R 1003, fd_R 1003]) rfl ?_
  obtain ⟨g0, g1, g2, g3, g4, g5⟩ := hG.1
  obtain ⟨s1, s2, s3, s4, s5, s6, s7, s8⟩ := hG.2
  have q1 := s1 d.toNat
  have q2 := s2 d.toNat
  have q3 := s3 d.toNat
  have q4 := s4 d.toNat
  simp only [Nat.reduceAdd] at q1 q2 q3 q4
  have q9 := s3 (fd_nb (fd_wsee M d.toNat (M 17 d.toNat))).toNat
  have q8 := s3 (-1 : Int).toNat
  simp only [Nat.reduceAdd] at q9 q8
  refine fd_u_blk 3 (C := fd_c155) (b := true) (L' := [fd_R 72, fd_I d, fd_R 1003, fd_R 1003]) (st' := [fd_I (M 14 7)]) (M' := M) rfl rfl (j := 3) rfl (rfl) ?_
  refine fd_u_br (C := fd_c155) (t := 6) (e := 4) (st' := []) (c := (M 14 7) = 0) (b := (fd_rng (M 14 7))) rfl rfl rfl (fd_bR (by omega) (by omega)) (fun h3 => ?_) (fun h3 => ?_)
  · refine fd_u_blk 7 (C := fd_c155) (b := (fd_inb d 6 && true)) (L' := [fd_R 72, fd_I d, fd_R 1003, fd_R 1003]) (st' := [fd_I (M 17 (d).toNat), fd_I d, fd_R 72]) (M' := M) rfl rfl (j := 13) rfl (fd_bA (fd_bI (by omega) (by omega)) (rfl)) ?_
    refine fd_u_call (C := fd_c155) (d0 := 4) (mid := 152) (np := 3) (args := [fd_R 72, fd_I d, fd_I (M 17 (d).toNat)]) (r1 := some (fd_I (fd_nb (fd_wsee M (d).toNat (M 17 (d).toNat))))) (M1 := M) (st' := [fd_I (fd_nb (fd_wsee M (d).toNat (M 17 (d).toNat)))]) rfl rfl rfl rfl rfl rfl (rfl) (fd_s_wouldSeeI M hG d (by omega) (M 17 (d).toNat) (by omega)) rfl (by omega) ?_
    have qn := fd_nb_cases (fd_wsee_rng hG (d).toNat (M 17 (d).toNat))
    refine fd_u_blk 3 (C := fd_c155) (b := true) (L' := [fd_R 72, fd_I d, fd_I (fd_nb (fd_wsee M (d).toNat (M 17 (d).toNat))), fd_R 1003]) (st' := [fd_I (-1), fd_I (fd_nb (fd_wsee M (d).toNat (M 17 (d).toNat)))]) (M' := M) rfl rfl (j := 17) rfl (rfl) ?_
    refine fd_u_br (C := fd_c155) (t := 20) (e := 18) (st' := []) (c := ¬ (fd_nb (fd_wsee M (d).toNat (M 17 (d).toNat))) = (-1)) (b := (fd_rng (fd_nb (fd_wsee M (d).toNat (M 17 (d).toNat))) && fd_rng (-1))) rfl rfl rfl (fd_bA (fd_bR (by omega) (by omega)) (fd_bR (by omega) (by omega))) (fun h17 => ?_) (fun h17 => ?_)
    · refine fd_u_blk 10 (C := fd_c155) (b := (fd_inb (fd_nb (fd_wsee M (d).toNat (M 17 (d).toNat))) 6 && (fd_inb d 6 && true))) (L' := [fd_R 72, fd_I d, fd_I (fd_nb (fd_wsee M (d).toNat (M 17 (d).toNat))), fd_R 1003]) (st' := [fd_I (M 17 (d).toNat), fd_I (M 17 (fd_nb (fd_wsee M (d).toNat (M 17 (d).toNat))).toNat)]) (M' := M) rfl rfl (j := 30) rfl (fd_bA (fd_bI (by omega) (by omega)) (fd_bA (fd_bI (by omega) (by omega)) (rfl))) ?_
      refine fd_u_call (C := fd_c155) (d0 := 0) (mid := 48) (np := 1) (args := [fd_I (M 17 (d).toNat)]) (r1 := some (fd_I (((M 17 (d).toNat) + 2) % 4))) (M1 := M) (st' := [fd_I (((M 17 (d).toNat) + 2) % 4), fd_I (M 17 (fd_nb (fd_wsee M (d).toNat (M 17 (d).toNat))).toNat)]) rfl rfl rfl rfl rfl rfl (rfl) (fd_s_wayBack M (M 17 (d).toNat) (by omega)) rfl (by omega) ?_
      refine fd_u_br (C := fd_c155) (t := 34) (e := 32) (st' := []) (c := ¬ (M 17 (fd_nb (fd_wsee M (d).toNat (M 17 (d).toNat))).toNat) = (((M 17 (d).toNat) + 2) % 4)) (b := (fd_rng (M 17 (fd_nb (fd_wsee M (d).toNat (M 17 (d).toNat))).toNat) && fd_rng (((M 17 (d).toNat) + 2) % 4))) rfl rfl rfl (fd_bA (fd_bR (by omega) (by omega)) (fd_bR (by omega) (by omega))) (fun h31 => ?_) (fun h31 => ?_)
      · refine fd_u_blk 3 (C := fd_c155) (b := true) (L' := [fd_R 72, fd_I d, fd_I (fd_nb (fd_wsee M (d).toNat (M 17 (d).toNat))), fd_I 0]) (st' := [fd_I 0]) (M' := M) rfl rfl (j := 37) rfl (rfl) ?_
        refine fd_u_br (C := fd_c155) (t := 44) (e := 38) (st' := []) (c := 0 = 0) (b := (fd_rng 0)) rfl rfl rfl (fd_bR (by omega) (by omega)) (fun h37 => ?_) (fun h37 => ?_)
        · refine fd_u_blk 3 (C := fd_c155) (b := true) (L' := [fd_R 72, fd_I d, fd_I (fd_nb (fd_wsee M (d).toNat (M 17 (d).toNat))), fd_I 0]) (st' := [fd_I (M 3 3)]) (M' := M) rfl rfl (j := 47) rfl (rfl) ?_
          refine fd_u_ret (C := fd_c155) (b := true) (r' := some (fd_I (M 3 3))) rfl rfl rfl (rfl) ?_ ?_
          · first
            | (exfalso; omega)
            | (have e9 : fd_nb (fd_wsee M d.toNat (M 17 d.toNat)) = fd_wsee M d.toNat (M 17 d.toNat) := (by omega); rw [e9] at h31; rw [fd_dio_pl (by omega) (by omega) (h31)])
          · rfl
        · refine fd_u_blk 5 (C := fd_c155) (b := true) (L' := [fd_R 72, fd_I d, fd_I (fd_nb (fd_wsee M (d).toNat (M 17 (d).toNat))), fd_I 0]) (st' := [fd_I (2 * (M 3 3))]) (M' := M) rfl rfl (j := 43) rfl (rfl) ?_
          refine fd_u_jmp (C := fd_c155) (j := 47) (st' := [fd_I (2 * (M 3 3))]) rfl rfl (b := true) rfl rfl ?_
          refine fd_u_ret (C := fd_c155) (b := true) (r' := some (fd_I (2 * (M 3 3)))) rfl rfl rfl (rfl) ?_ ?_
          · first
            | (exfalso; omega)
            | (have e9 : fd_nb (fd_wsee M d.toNat (M 17 d.toNat)) = fd_wsee M d.toNat (M 17 d.toNat) := (by omega); rw [e9] at h31; rw [fd_dio_st (by omega) (by omega) (Classical.not_not.mp h31)])
          · rfl
      · refine fd_u_blk 1 (C := fd_c155) (b := true) (L' := [fd_R 72, fd_I d, fd_I (fd_nb (fd_wsee M (d).toNat (M 17 (d).toNat))), fd_R 1003]) (st' := [fd_I 1]) (M' := M) rfl rfl (j := 33) rfl (rfl) ?_
        refine fd_u_jmp (C := fd_c155) (j := 35) (st' := [fd_I 1]) rfl rfl (b := true) rfl rfl ?_
        refine fd_u_blk 2 (C := fd_c155) (b := true) (L' := [fd_R 72, fd_I d, fd_I (fd_nb (fd_wsee M (d).toNat (M 17 (d).toNat))), fd_I 1]) (st' := [fd_I 1]) (M' := M) rfl rfl (j := 37) rfl (rfl) ?_
        refine fd_u_br (C := fd_c155) (t := 44) (e := 38) (st' := []) (c := 1 = 0) (b := (fd_rng 1)) rfl rfl rfl (fd_bR (by omega) (by omega)) (fun h37 => ?_) (fun h37 => ?_)
        · refine fd_u_blk 3 (C := fd_c155) (b := true) (L' := [fd_R 72, fd_I d, fd_I (fd_nb (fd_wsee M (d).toNat (M 17 (d).toNat))), fd_I 1]) (st' := [fd_I (M 3 3)]) (M' := M) rfl rfl (j := 47) rfl (rfl) ?_
          refine fd_u_ret (C := fd_c155) (b := true) (r' := some (fd_I (M 3 3))) rfl rfl rfl (rfl) ?_ ?_
          · first
            | (exfalso; omega)
            | (have e9 : fd_nb (fd_wsee M d.toNat (M 17 d.toNat)) = fd_wsee M d.toNat (M 17 d.toNat) := (by omega); rw [e9] at h31; rw [fd_dio_pl (by omega) (by omega) (h31)])
          · rfl
        · refine fd_u_blk 5 (C := fd_c155) (b := true) (L' := [fd_R 72, fd_I d, fd_I (fd_nb (fd_wsee M (d).toNat (M 17 (d).toNat))), fd_I 1]) (st' := [fd_I (2 * (M 3 3))]) (M' := M) rfl rfl (j := 43) rfl (rfl) ?_
          refine fd_u_jmp (C := fd_c155) (j := 47) (st' := [fd_I (2 * (M 3 3))]) rfl rfl (b := true) rfl rfl ?_
          refine fd_u_ret (C := fd_c155) (b := true) (r' := some (fd_I (2 * (M 3 3)))) rfl rfl rfl (rfl) ?_ ?_
          · first
            | (exfalso; omega)
            | (have e9 : fd_nb (fd_wsee M d.toNat (M 17 d.toNat)) = fd_wsee M d.toNat (M 17 d.toNat) := (by omega); rw [e9] at h31; rw [fd_dio_st (by omega) (by omega) (Classical.not_not.mp h31)])
          · rfl
    · refine fd_u_blk 1 (C := fd_c155) (b := true) (L' := [fd_R 72, fd_I d, fd_I (fd_nb (fd_wsee M (d).toNat (M 17 (d).toNat))), fd_R 1003]) (st' := [fd_I 0]) (M' := M) rfl rfl (j := 19) rfl (rfl) ?_
      refine fd_u_ret (C := fd_c155) (b := true) (r' := some (fd_I 0)) rfl rfl rfl (rfl) ?_ ?_
      · first | rw [fd_dio_fog (by omega)] | rw [fd_dio_none (by omega) (by omega)]
      · rfl
  · refine fd_u_blk 1 (C := fd_c155) (b := true) (L' := [fd_R 72, fd_I d, fd_R 1003, fd_R 1003]) (st' := [fd_I (-1)]) (M' := M) rfl rfl (j := 5) rfl (rfl) ?_
    refine fd_u_jmp (C := fd_c155) (j := 14) (st' := [fd_I (-1)]) rfl rfl (b := true) rfl rfl ?_
    refine fd_u_blk 3 (C := fd_c155) (b := true) (L' := [fd_R 72, fd_I d, fd_I (-1), fd_R 1003]) (st' := [fd_I (-1), fd_I (-1)]) (M' := M) rfl rfl (j := 17) rfl (rfl) ?_
    refine fd_u_br (C := fd_c155) (t := 20) (e := 18) (st' := []) (c := ¬ (-1) = (-1)) (b := (fd_rng (-1) && fd_rng (-1))) rfl rfl rfl (fd_bA (fd_bR (by omega) (by omega)) (fd_bR (by omega) (by omega))) (fun h17 => ?_) (fun h17 => ?_)
    · refine fd_u_blk 10 (C := fd_c155) (b := (fd_inb (-1) 6 && (fd_inb d 6 && true))) (L' := [fd_R 72, fd_I d, fd_I (-1), fd_R 1003]) (st' := [fd_I (M 17 (d).toNat), fd_I (M 17 ((-1 : Int).toNat))]) (M' := M) rfl rfl (j := 30) rfl (fd_bA (fd_bI (by omega) (by omega)) (fd_bA (fd_bI (by omega) (by omega)) (rfl))) ?_
      refine fd_u_call (C := fd_c155) (d0 := 0) (mid := 48) (np := 1) (args := [fd_I (M 17 (d).toNat)]) (r1 := some (fd_I (((M 17 (d).toNat) + 2) % 4))) (M1 := M) (st' := [fd_I (((M 17 (d).toNat) + 2) % 4), fd_I (M 17 ((-1 : Int).toNat))]) rfl rfl rfl rfl rfl rfl (rfl) (fd_s_wayBack M (M 17 (d).toNat) (by omega)) rfl (by omega) ?_
      refine fd_u_br (C := fd_c155) (t := 34) (e := 32) (st' := []) (c := ¬ (M 17 ((-1 : Int).toNat)) = (((M 17 (d).toNat) + 2) % 4)) (b := (fd_rng (M 17 ((-1 : Int).toNat)) && fd_rng (((M 17 (d).toNat) + 2) % 4))) rfl rfl rfl (fd_bA (fd_bR (by omega) (by omega)) (fd_bR (by omega) (by omega))) (fun h31 => ?_) (fun h31 => ?_)
      · refine fd_u_blk 3 (C := fd_c155) (b := true) (L' := [fd_R 72, fd_I d, fd_I (-1), fd_I 0]) (st' := [fd_I 0]) (M' := M) rfl rfl (j := 37) rfl (rfl) ?_
        refine fd_u_br (C := fd_c155) (t := 44) (e := 38) (st' := []) (c := 0 = 0) (b := (fd_rng 0)) rfl rfl rfl (fd_bR (by omega) (by omega)) (fun h37 => ?_) (fun h37 => ?_)
        · refine fd_u_blk 3 (C := fd_c155) (b := true) (L' := [fd_R 72, fd_I d, fd_I (-1), fd_I 0]) (st' := [fd_I (M 3 3)]) (M' := M) rfl rfl (j := 47) rfl (rfl) ?_
          refine fd_u_ret (C := fd_c155) (b := true) (r' := some (fd_I (M 3 3))) rfl rfl rfl (rfl) ?_ ?_
          · first
            | (exfalso; omega)
            | (have e9 : fd_nb (fd_wsee M d.toNat (M 17 d.toNat)) = fd_wsee M d.toNat (M 17 d.toNat) := (by omega); rw [e9] at h31; rw [fd_dio_pl (by omega) (by omega) (h31)])
          · rfl
        · refine fd_u_blk 5 (C := fd_c155) (b := true) (L' := [fd_R 72, fd_I d, fd_I (-1), fd_I 0]) (st' := [fd_I (2 * (M 3 3))]) (M' := M) rfl rfl (j := 43) rfl (rfl) ?_
          refine fd_u_jmp (C := fd_c155) (j := 47) (st' := [fd_I (2 * (M 3 3))]) rfl rfl (b := true) rfl rfl ?_
          refine fd_u_ret (C := fd_c155) (b := true) (r' := some (fd_I (2 * (M 3 3)))) rfl rfl rfl (rfl) ?_ ?_
          · first
            | (exfalso; omega)
            | (have e9 : fd_nb (fd_wsee M d.toNat (M 17 d.toNat)) = fd_wsee M d.toNat (M 17 d.toNat) := (by omega); rw [e9] at h31; rw [fd_dio_st (by omega) (by omega) (Classical.not_not.mp h31)])
          · rfl
      · refine fd_u_blk 1 (C := fd_c155) (b := true) (L' := [fd_R 72, fd_I d, fd_I (-1), fd_R 1003]) (st' := [fd_I 1]) (M' := M) rfl rfl (j := 33) rfl (rfl) ?_
        refine fd_u_jmp (C := fd_c155) (j := 35) (st' := [fd_I 1]) rfl rfl (b := true) rfl rfl ?_
        refine fd_u_blk 2 (C := fd_c155) (b := true) (L' := [fd_R 72, fd_I d, fd_I (-1), fd_I 1]) (st' := [fd_I 1]) (M' := M) rfl rfl (j := 37) rfl (rfl) ?_
        refine fd_u_br (C := fd_c155) (t := 44) (e := 38) (st' := []) (c := 1 = 0) (b := (fd_rng 1)) rfl rfl rfl (fd_bR (by omega) (by omega)) (fun h37 => ?_) (fun h37 => ?_)
        · refine fd_u_blk 3 (C := fd_c155) (b := true) (L' := [fd_R 72, fd_I d, fd_I (-1), fd_I 1]) (st' := [fd_I (M 3 3)]) (M' := M) rfl rfl (j := 47) rfl (rfl) ?_
          refine fd_u_ret (C := fd_c155) (b := true) (r' := some (fd_I (M 3 3))) rfl rfl rfl (rfl) ?_ ?_
          · first
            | (exfalso; omega)
            | (have e9 : fd_nb (fd_wsee M d.toNat (M 17 d.toNat)) = fd_wsee M d.toNat (M 17 d.toNat) := (by omega); rw [e9] at h31; rw [fd_dio_pl (by omega) (by omega) (h31)])
          · rfl
        · refine fd_u_blk 5 (C := fd_c155) (b := true) (L' := [fd_R 72, fd_I d, fd_I (-1), fd_I 1]) (st' := [fd_I (2 * (M 3 3))]) (M' := M) rfl rfl (j := 43) rfl (rfl) ?_
          refine fd_u_jmp (C := fd_c155) (j := 47) (st' := [fd_I (2 * (M 3 3))]) rfl rfl (b := true) rfl rfl ?_
          refine fd_u_ret (C := fd_c155) (b := true) (r' := some (fd_I (2 * (M 3 3)))) rfl rfl rfl (rfl) ?_ ?_
          · first
            | (exfalso; omega)
            | (have e9 : fd_nb (fd_wsee M d.toNat (M 17 d.toNat)) = fd_wsee M d.toNat (M 17 d.toNat) := (by omega); rw [e9] at h31; rw [fd_dio_st (by omega) (by omega) (Classical.not_not.mp h31)])
          · rfl
    · refine fd_u_blk 1 (C := fd_c155) (b := true) (L' := [fd_R 72, fd_I d, fd_I (-1), fd_R 1003]) (st' := [fd_I 0]) (M' := M) rfl rfl (j := 19) rfl (rfl) ?_
      refine fd_u_ret (C := fd_c155) (b := true) (r' := some (fd_I 0)) rfl rfl rfl (rfl) ?_ ?_
      · first | rw [fd_dio_fog (by omega)] | rw [fd_dio_none (by omega) (by omega)]
      · rfl

theorem fd_s_dueOf (M : fd_M) (hG : fd_CG M) (d : Int) (hd : 0 ≤ d ∧ d < 6) : fd_call 6 156 [fd_R 72, fd_I d] M (some (fd_I (fd_dueC M d.toNat))) M := by
  refine fd_u_in (L := [fd_R 72, fd_I d]) rfl ?_
  obtain ⟨s1, s2, s3, s4, s5, s6, s7, s8⟩ := hG.2
  have q1 := s1 d.toNat
  have q2 := s2 d.toNat
  have q3 := s3 d.toNat
  have q4 := s4 d.toNat
  simp only [Nat.reduceAdd] at q1 q2 q3 q4
  refine fd_u_blk 3 (C := fd_c156) (b := true) (L' := [fd_R 72, fd_I d]) (st' := [fd_I d, fd_R 14]) (M' := M) rfl rfl (j := 3) rfl (rfl) ?_
  refine fd_u_call (C := fd_c156) (d0 := 1) (mid := 144) (np := 2) (args := [fd_R 14, fd_I d]) (r1 := some (fd_I (fd_bi (M 14 4 / 2 ^ (d).toNat % 2 = 1)))) (M1 := M) (st' := [fd_I (fd_bi (M 14 4 / 2 ^ (d).toNat % 2 = 1))]) rfl rfl rfl rfl rfl rfl (rfl) (fd_s_isOpen M hG d (by omega)) rfl (by omega) ?_
  refine fd_u_br (C := fd_c156) (t := 9) (e := 5) (st' := []) (c := (fd_bi (M 14 4 / 2 ^ (d).toNat % 2 = 1)) = 0) (b := (fd_rng (fd_bi (M 14 4 / 2 ^ (d).toNat % 2 = 1)))) rfl rfl rfl (fd_biR) (fun h4 => ?_) (fun h4 => ?_)
  · have h4 := fd_biF.mp h4
    refine fd_u_blk 1 (C := fd_c156) (b := true) (L' := [fd_R 72, fd_I d]) (st' := [fd_I 0]) (M' := M) rfl rfl (j := 10) rfl (rfl) ?_
    refine fd_u_ret (C := fd_c156) (b := true) (r' := some (fd_I 0)) rfl rfl rfl (rfl) ?_ ?_
    · rw [fd_dueC_eq hG, if_neg h4]
    · rfl
  · have h4 := fd_biT.mp h4
    refine fd_u_blk 2 (C := fd_c156) (b := true) (L' := [fd_R 72, fd_I d]) (st' := [fd_I d, fd_R 72]) (M' := M) rfl rfl (j := 7) rfl (rfl) ?_
    refine fd_u_call (C := fd_c156) (d0 := 5) (mid := 155) (np := 2) (args := [fd_R 72, fd_I d]) (r1 := some (fd_I (fd_dio M (d).toNat))) (M1 := M) (st' := [fd_I (fd_dio M (d).toNat)]) rfl rfl rfl rfl rfl rfl (rfl) (fd_s_dueIfOpen M hG d (by omega)) rfl (by omega) ?_
    have qo := fd_due_rng (wy := M 17) hG.1.2.2.2.1 (if M 14 7 = 1 then -9 else fd_wsee M (d).toNat (M 17 (d).toNat)) (d).toNat
    refine fd_u_jmp (C := fd_c156) (j := 10) (st' := [fd_I (fd_dio M (d).toNat)]) rfl rfl (b := true) rfl rfl ?_
    refine fd_u_ret (C := fd_c156) (b := true) (r' := some (fd_I (fd_dio M (d).toNat))) rfl rfl rfl (rfl) ?_ ?_
    · rw [fd_dueC_eq hG, if_pos h4]
    · rfl

theorem fd_l_dueOfAll (M : fd_M) (hG : fd_CG M) : ∀ (n : Nat) (k : Nat) (hk : (k : Int) + n = M 3 2), fd_run 7 157 4 [fd_R 72, fd_I (fd_sum (fd_dueC M) k), fd_I ((k : Nat) : Int)] [] M (some (fd_I (fd_sum (fd_dueC M) (M 3 2).toNat))) M := by
  obtain ⟨g0, g1, g2, g3, g4, g5⟩ := hG.1
  intro n
  induction n with
  | zero =>
    intro k hk
    refine fd_u_blk 4 (C := fd_c157) (b := true) (L' := [fd_R 72, fd_I (fd_sum (fd_dueC M) k), fd_I ((k : Nat) : Int)]) (st' := [fd_I (M 3 2), fd_I ((k : Nat) : Int)]) (M' := M) rfl rfl (j := 8) rfl (rfl) ?_
    refine fd_u_br (C := fd_c157) (t := 17) (e := 9) (st' := []) (c := (M 3 2) ≤ ((k : Nat) : Int)) (b := (fd_rng ((k : Nat) : Int) && fd_rng (M 3 2))) rfl rfl rfl (fd_bA (fd_bR (by omega) (by omega)) (fd_bR (by omega) (by omega))) (fun h8 => ?_) (fun h8 => absurd h8 (by omega))
    refine fd_u_blk 1 (C := fd_c157) (b := true) (L' := [fd_R 72, fd_I (fd_sum (fd_dueC M) k), fd_I ((k : Nat) : Int)]) (st' := [fd_I (fd_sum (fd_dueC M) k)]) (M' := M) rfl rfl (j := 18) rfl (rfl) ?_
    refine fd_u_ret (C := fd_c157) (b := true) (r' := some (fd_I (fd_sum (fd_dueC M) k))) rfl rfl rfl (rfl) ?_ ?_
    · rw [show (M 3 2).toNat = k by omega]
    · rfl
  | succ n ih =>
    intro k hk
    refine fd_u_blk 4 (C := fd_c157) (b := true) (L' := [fd_R 72, fd_I (fd_sum (fd_dueC M) k), fd_I ((k : Nat) : Int)]) (st' := [fd_I (M 3 2), fd_I ((k : Nat) : Int)]) (M' := M) rfl rfl (j := 8) rfl (rfl) ?_
    refine fd_u_br (C := fd_c157) (t := 17) (e := 9) (st' := []) (c := (M 3 2) ≤ ((k : Nat) : Int)) (b := (fd_rng ((k : Nat) : Int) && fd_rng (M 3 2))) rfl rfl rfl (fd_bA (fd_bR (by omega) (by omega)) (fd_bR (by omega) (by omega))) (fun h8 => absurd h8 (by omega)) (fun h8 => ?_)
    refine fd_u_blk 3 (C := fd_c157) (b := true) (L' := [fd_R 72, fd_I (fd_sum (fd_dueC M) k), fd_I ((k : Nat) : Int)]) (st' := [fd_I ((k : Nat) : Int), fd_R 72, fd_I (fd_sum (fd_dueC M) k)]) (M' := M) rfl rfl (j := 12) rfl (rfl) ?_
    refine fd_u_call (C := fd_c157) (d0 := 6) (mid := 156) (np := 2) (args := [fd_R 72, fd_I ((k : Nat) : Int)]) (r1 := some (fd_I (fd_dueC M k))) (M1 := M) (st' := [fd_I (fd_dueC M k), fd_I (fd_sum (fd_dueC M) k)]) rfl rfl rfl rfl rfl rfl (rfl) (fd_s_dueOf M hG ((k : Nat) : Int) (by omega)) rfl (by omega) ?_
    have qo := fd_due_rng (wy := M 17) hG.1.2.2.2.1 (fd_sw M k) k
    refine fd_u_blk 3 (C := fd_c157) (b := true) (L' := [fd_R 72, fd_I ((fd_sum (fd_dueC M) k) + (fd_dueC M k)), fd_I (((k + 1) : Nat) : Int)]) (st' := []) (M' := M) rfl rfl (j := 16) rfl (rfl) ?_
    refine fd_u_jmp (C := fd_c157) (j := 4) (st' := []) rfl rfl (b := true) rfl rfl ?_
    exact ih (k + 1) (by omega)

theorem fd_s_dueOfAll (M : fd_M) (hG : fd_CG M) : fd_call 7 157 [fd_R 72] M (some (fd_I (fd_sum (fd_dueC M) (M 3 2).toNat))) M := by
  refine fd_u_in (L := [fd_R 72, fd_R 1003, fd_R 1003]) rfl ?_
  obtain ⟨g0, g1, g2, g3, g4, g5⟩ := hG.1
  refine fd_u_blk 4 (C := fd_c157) (b := true) (L' := [fd_R 72, fd_I 0, fd_I 0]) (st' := []) (M' := M) rfl rfl (j := 4) rfl (rfl) ?_
  exact fd_l_dueOfAll M hG (M 3 2).toNat 0 (by omega)

theorem fd_l_seenBy (M : fd_M) (hG : fd_CG M) (d : Int) (hd : 0 ≤ d ∧ d < 6) : ∀ (n : Nat) (k : Nat) (hk : (k : Int) + n = M 3 2), fd_run 6 154 4 [fd_R 72, fd_I d, fd_I (fd_bits (fun j => fd_nb (fd_sw M j) = d) k), fd_I ((k : Nat) : Int)] [] M (some (fd_I (fd_bits (fun j => fd_nb (fd_sw M j) = d) (M 3 2).toNat))) M := by
  obtain ⟨g0, g1, g2, g3, g4, g5⟩ := hG.1
  intro n
  induction n with
  | zero =>
    intro k hk
    refine fd_u_blk 4 (C := fd_c154) (b := true) (L' := [fd_R 72, fd_I d, fd_I (fd_bits (fun j => fd_nb (fd_sw M j) = d) k), fd_I ((k : Nat) : Int)]) (st' := [fd_I (M 3 2), fd_I ((k : Nat) : Int)]) (M' := M) rfl rfl (j := 8) rfl (rfl) ?_
    refine fd_u_br (C := fd_c154) (t := 21) (e := 9) (st' := []) (c := (M 3 2) ≤ ((k : Nat) : Int)) (b := (fd_rng ((k : Nat) : Int) && fd_rng (M 3 2))) rfl rfl rfl (fd_bA (fd_bR (by omega) (by omega)) (fd_bR (by omega) (by omega))) (fun h8 => ?_) (fun h8 => absurd h8 (by omega))
    refine fd_u_blk 1 (C := fd_c154) (b := true) (L' := [fd_R 72, fd_I d, fd_I (fd_bits (fun j => fd_nb (fd_sw M j) = d) k), fd_I ((k : Nat) : Int)]) (st' := [fd_I (fd_bits (fun j => fd_nb (fd_sw M j) = d) k)]) (M' := M) rfl rfl (j := 22) rfl (rfl) ?_
    refine fd_u_ret (C := fd_c154) (b := true) (r' := some (fd_I (fd_bits (fun j => fd_nb (fd_sw M j) = d) k))) rfl rfl rfl (rfl) ?_ ?_
    · rw [show (M 3 2).toNat = k by omega]
    · rfl
  | succ n ih =>
    intro k hk
    refine fd_u_blk 4 (C := fd_c154) (b := true) (L' := [fd_R 72, fd_I d, fd_I (fd_bits (fun j => fd_nb (fd_sw M j) = d) k), fd_I ((k : Nat) : Int)]) (st' := [fd_I (M 3 2), fd_I ((k : Nat) : Int)]) (M' := M) rfl rfl (j := 8) rfl (rfl) ?_
    refine fd_u_br (C := fd_c154) (t := 21) (e := 9) (st' := []) (c := (M 3 2) ≤ ((k : Nat) : Int)) (b := (fd_rng ((k : Nat) : Int) && fd_rng (M 3 2))) rfl rfl rfl (fd_bA (fd_bR (by omega) (by omega)) (fd_bR (by omega) (by omega))) (fun h8 => absurd h8 (by omega)) (fun h8 => ?_)
    refine fd_u_blk 2 (C := fd_c154) (b := true) (L' := [fd_R 72, fd_I d, fd_I (fd_bits (fun j => fd_nb (fd_sw M j) = d) k), fd_I ((k : Nat) : Int)]) (st' := [fd_I ((k : Nat) : Int), fd_R 72]) (M' := M) rfl rfl (j := 11) rfl (rfl) ?_
    refine fd_u_call (C := fd_c154) (d0 := 5) (mid := 153) (np := 2) (args := [fd_R 72, fd_I ((k : Nat) : Int)]) (r1 := some (fd_I (fd_nb (fd_sw M k)))) (M1 := M) (st' := [fd_I (fd_nb (fd_sw M k))]) rfl rfl rfl rfl rfl rfl (rfl) (fd_s_seesWhom M hG ((k : Nat) : Int) (by omega)) rfl (by omega) ?_
    have qn5 := fd_nb_cases (fd_sw_rng hG k)
    refine fd_u_blk 1 (C := fd_c154) (b := true) (L' := [fd_R 72, fd_I d, fd_I (fd_bits (fun j => fd_nb (fd_sw M j) = d) k), fd_I ((k : Nat) : Int)]) (st' := [fd_I d, fd_I (fd_nb (fd_sw M k))]) (M' := M) rfl rfl (j := 13) rfl (rfl) ?_
    refine fd_u_br (C := fd_c154) (t := 19) (e := 14) (st' := []) (c := ¬ (fd_nb (fd_sw M k)) = d) (b := (fd_rng (fd_nb (fd_sw M k)) && fd_rng d)) rfl rfl rfl (fd_bA (fd_bR (by omega) (by omega)) (fd_bR (by omega) (by omega))) (fun h13 => ?_) (fun h13 => ?_)
    · refine fd_u_blk 1 (C := fd_c154) (b := true) (L' := [fd_R 72, fd_I d, fd_I (fd_bits (fun j => fd_nb (fd_sw M j) = d) k), fd_I (((k + 1) : Nat) : Int)]) (st' := []) (M' := M) rfl rfl (j := 20) rfl (rfl) ?_
      refine fd_u_jmp (C := fd_c154) (j := 4) (st' := []) rfl rfl (b := true) rfl rfl ?_
      have qb := fd_bits_rng (fun j => fd_nb (fd_sw M j) = d) k
      have e5 : (fd_bits (fun j => fd_nb (fd_sw M j) = d) k) = (fd_bits (fun j => fd_nb (fd_sw M j) = d) (k + 1)) := by
        show _ = fd_bits (fun j => fd_nb (fd_sw M j) = d) k + (if fd_nb (fd_sw M k) = d then 2 ^ k else 0)
        rw [if_neg h13]; omega
      rw [e5]
      exact ih (k + 1) (by omega)
    · refine fd_u_blk 2 (C := fd_c154) (b := true) (L' := [fd_R 72, fd_I d, fd_I (fd_bits (fun j => fd_nb (fd_sw M j) = d) k), fd_I ((k : Nat) : Int)]) (st' := [fd_I ((k : Nat) : Int), fd_I (fd_bits (fun j => fd_nb (fd_sw M j) = d) k)]) (M' := M) rfl rfl (j := 16) rfl (rfl) ?_
      refine fd_u_call (C := fd_c154) (d0 := 0) (mid := 45) (np := 1) (args := [fd_I ((k : Nat) : Int)]) (r1 := some (fd_I (if ((k : Nat) : Int) = -1 then 0 else 2 ^ ((k : Nat) : Int).toNat))) (M1 := M) (st' := [fd_I (if ((k : Nat) : Int) = -1 then 0 else 2 ^ ((k : Nat) : Int).toNat), fd_I (fd_bits (fun j => fd_nb (fd_sw M j) = d) k)]) rfl rfl rfl rfl rfl rfl (rfl) (fd_s_bitOf M ((k : Nat) : Int) (by omega)) rfl (by omega) ?_
      refine fd_u_blk 3 (C := fd_c154) (b := true) (L' := [fd_R 72, fd_I d, fd_I (fd_or (fd_bits (fun j => fd_nb (fd_sw M j) = d) k) (if ((k : Nat) : Int) = -1 then 0 else 2 ^ ((k : Nat) : Int).toNat)), fd_I (((k + 1) : Nat) : Int)]) (st' := []) (M' := M) rfl rfl (j := 20) rfl (rfl) ?_
      refine fd_u_jmp (C := fd_c154) (j := 4) (st' := []) rfl rfl (b := true) rfl rfl ?_
      have qb := fd_bits_rng (fun j => fd_nb (fd_sw M j) = d) k
      have e5 : (fd_or (fd_bits (fun j => fd_nb (fd_sw M j) = d) k) (if ((k : Nat) : Int) = -1 then 0 else 2 ^ ((k : Nat) : Int).toNat)) = (fd_bits (fun j => fd_nb (fd_sw M j) = d) (k + 1)) := by
        rw [if_neg (by omega)]
        show fd_or _ (2 ^ k) = fd_bits (fun j => fd_nb (fd_sw M j) = d) k + (if fd_nb (fd_sw M k) = d then 2 ^ k else 0)
        rw [fd_orS (by omega) qb.1 qb.2, if_pos (Classical.not_not.mp h13)]
      rw [e5]
      exact ih (k + 1) (by omega)

theorem fd_s_seenBy (M : fd_M) (hG : fd_CG M) (d : Int) (hd : 0 ≤ d ∧ d < 6) : fd_call 6 154 [fd_R 72, fd_I d] M (some (fd_I (fd_bits (fun j => fd_nb (fd_sw M j) = d) (M 3 2).toNat))) M := by
  refine fd_u_in (L := [fd_R 72, fd_I d, fd_R 1003, fd_R 1003]) rfl ?_
  obtain ⟨g0, g1, g2, g3, g4, g5⟩ := hG.1
  refine fd_u_blk 4 (C := fd_c154) (b := true) (L' := [fd_R 72, fd_I d, fd_I 0, fd_I 0]) (st' := []) (M' := M) rfl rfl (j := 4) rfl (rfl) ?_
  exact fd_l_seenBy M hG d hd (M 3 2).toNat 0 (by omega)

theorem fd_l_pairs (M : fd_M) (hG : fd_CG M) : ∀ (n : Nat) (k : Nat) (u : fd_V) (hk : (k : Int) + n = M 3 2), fd_run 6 158 4 [fd_R 72, fd_I (fd_sum (fun j => if fd_nb (fd_sw M j) > j ∧ fd_nb (fd_sw M (fd_nb (fd_sw M j)).toNat) = j then 1 else 0) k), fd_I ((k : Nat) : Int), u] [] M (some (fd_I (fd_sum (fun j => if fd_nb (fd_sw M j) > j ∧ fd_nb (fd_sw M (fd_nb (fd_sw M j)).toNat) = j then 1 else 0) (M 3 2).toNat))) M := by
  obtain ⟨g0, g1, g2, g3, g4, g5⟩ := hG.1
  intro n
  induction n with
  | zero =>
    intro k u hk
    refine fd_u_blk 4 (C := fd_c158) (b := true) (L' := [fd_R 72, fd_I (fd_sum (fun j => if fd_nb (fd_sw M j) > j ∧ fd_nb (fd_sw M (fd_nb (fd_sw M j)).toNat) = j then 1 else 0) k), fd_I ((k : Nat) : Int), u]) (st' := [fd_I (M 3 2), fd_I ((k : Nat) : Int)]) (M' := M) rfl rfl (j := 8) rfl (rfl) ?_
    refine fd_u_br (C := fd_c158) (t := 24) (e := 9) (st' := []) (c := (M 3 2) ≤ ((k : Nat) : Int)) (b := (fd_rng ((k : Nat) : Int) && fd_rng (M 3 2))) rfl rfl rfl (fd_bA (fd_bR (by omega) (by omega)) (fd_bR (by omega) (by omega))) (fun h8 => ?_) (fun h8 => absurd h8 (by omega))
    refine fd_u_blk 1 (C := fd_c158) (b := true) (L' := [fd_R 72, fd_I (fd_sum (fun j => if fd_nb (fd_sw M j) > j ∧ fd_nb (fd_sw M (fd_nb (fd_sw M j)).toNat) = j then 1 else 0) k), fd_I ((k : Nat) : Int), u]) (st' := [fd_I (fd_sum (fun j => if fd_nb (fd_sw M j) > j ∧ fd_nb (fd_sw M (fd_nb (fd_sw M j)).toNat) = j then 1 else 0) k)]) (M' := M) rfl rfl (j := 25) rfl (rfl) ?_
    refine fd_u_ret (C := fd_c158) (b := true) (r' := some (fd_I (fd_sum (fun j => if fd_nb (fd_sw M j) > j ∧ fd_nb (fd_sw M (fd_nb (fd_sw M j)).toNat) = j then 1 else 0) k))) rfl rfl rfl (rfl) ?_ ?_
    · rw [show (M 3 2).toNat = k by omega]
    · rfl
  | succ n ih =>
    intro k u hk
    refine fd_u_blk 4 (C := fd_c158) (b := true) (L' := [fd_R 72, fd_I (fd_sum (fun j => if fd_nb (fd_sw M j) > j ∧ fd_nb (fd_sw M (fd_nb (fd_sw M j)).toNat) = j then 1 else 0) k), fd_I ((k : Nat) : Int), u]) (st' := [fd_I (M 3 2), fd_I ((k : Nat) : Int)]) (M' := M) rfl rfl (j := 8) rfl (rfl) ?_
    refine fd_u_br (C := fd_c158) (t := 24) (e := 9) (st' := []) (c := (M 3 2) ≤ ((k : Nat) : Int)) (b := (fd_rng ((k : Nat) : Int) && fd_rng (M 3 2))) rfl rfl rfl (fd_bA (fd_bR (by omega) (by omega)) (fd_bR (by omega) (by omega))) (fun h8 => absurd h8 (by omega)) (fun h8 => ?_)
    refine fd_u_blk 2 (C := fd_c158) (b := true) (L' := [fd_R 72, fd_I (fd_sum (fun j => if fd_nb (fd_sw M j) > j ∧ fd_nb (fd_sw M (fd_nb (fd_sw M j)).toNat) = j then 1 else 0) k), fd_I ((k : Nat) : Int), u]) (st' := [fd_I ((k : Nat) : Int), fd_R 72]) (M' := M) rfl rfl (j := 11) rfl (rfl) ?_
    refine fd_u_call (C := fd_c158) (d0 := 5) (mid := 153) (np := 2) (args := [fd_R 72, fd_I ((k : Nat) : Int)]) (r1 := some (fd_I (fd_nb (fd_sw M k)))) (M1 := M) (st' := [fd_I (fd_nb (fd_sw M k))]) rfl rfl rfl rfl rfl rfl (rfl) (fd_s_seesWhom M hG ((k : Nat) : Int) (by omega)) rfl (by omega) ?_
    have qn5 := fd_nb_cases (fd_sw_rng hG k)
    refine fd_u_blk 3 (C := fd_c158) (b := true) (L' := [fd_R 72, fd_I (fd_sum (fun j => if fd_nb (fd_sw M j) > j ∧ fd_nb (fd_sw M (fd_nb (fd_sw M j)).toNat) = j then 1 else 0) k), fd_I ((k : Nat) : Int), fd_I (fd_nb (fd_sw M k))]) (st' := [fd_I ((k : Nat) : Int), fd_I (fd_nb (fd_sw M k))]) (M' := M) rfl rfl (j := 15) rfl (rfl) ?_
    refine fd_u_br (C := fd_c158) (t := 22) (e := 16) (st' := []) (c := (fd_nb (fd_sw M k)) ≤ ((k : Nat) : Int)) (b := (fd_rng (fd_nb (fd_sw M k)) && fd_rng ((k : Nat) : Int))) rfl rfl rfl (fd_bA (fd_bR (by omega) (by omega)) (fd_bR (by omega) (by omega))) (fun h15 => ?_) (fun h15 => ?_)
    · refine fd_u_blk 1 (C := fd_c158) (b := true) (L' := [fd_R 72, fd_I (fd_sum (fun j => if fd_nb (fd_sw M j) > j ∧ fd_nb (fd_sw M (fd_nb (fd_sw M j)).toNat) = j then 1 else 0) k), fd_I (((k + 1) : Nat) : Int), fd_I (fd_nb (fd_sw M k))]) (st' := []) (M' := M) rfl rfl (j := 23) rfl (rfl) ?_
      refine fd_u_jmp (C := fd_c158) (j := 4) (st' := []) rfl rfl (b := true) rfl rfl ?_
      have e5 : (fd_sum (fun j => if fd_nb (fd_sw M j) > j ∧ fd_nb (fd_sw M (fd_nb (fd_sw M j)).toNat) = j then 1 else 0) k) = (fd_sum (fun j => if fd_nb (fd_sw M j) > j ∧ fd_nb (fd_sw M (fd_nb (fd_sw M j)).toNat) = j then 1 else 0) (k + 1)) := by
        show _ = fd_sum (fun j => if fd_nb (fd_sw M j) > j ∧ fd_nb (fd_sw M (fd_nb (fd_sw M j)).toNat) = j then 1 else 0) k + (if fd_nb (fd_sw M k) > (k : Int) ∧ _ then 1 else 0)
        rw [if_neg (fun z => by first | exact absurd z.1 (by omega) | exact h20 z.2)]; omega
      rw [e5]
      exact ih (k + 1) _ (by omega)
    · refine fd_u_blk 2 (C := fd_c158) (b := true) (L' := [fd_R 72, fd_I (fd_sum (fun j => if fd_nb (fd_sw M j) > j ∧ fd_nb (fd_sw M (fd_nb (fd_sw M j)).toNat) = j then 1 else 0) k), fd_I ((k : Nat) : Int), fd_I (fd_nb (fd_sw M k))]) (st' := [fd_I (fd_nb (fd_sw M k)), fd_R 72]) (M' := M) rfl rfl (j := 18) rfl (rfl) ?_
      refine fd_u_call (C := fd_c158) (d0 := 5) (mid := 153) (np := 2) (args := [fd_R 72, fd_I (fd_nb (fd_sw M k))]) (r1 := some (fd_I (fd_nb (fd_sw M (fd_nb (fd_sw M k)).toNat)))) (M1 := M) (st' := [fd_I (fd_nb (fd_sw M (fd_nb (fd_sw M k)).toNat))]) rfl rfl rfl rfl rfl rfl (rfl) (fd_s_seesWhom M hG (fd_nb (fd_sw M k)) (by omega)) rfl (by omega) ?_
      have qn12 := fd_nb_cases (fd_sw_rng hG (fd_nb (fd_sw M k)).toNat)
      refine fd_u_blk 1 (C := fd_c158) (b := true) (L' := [fd_R 72, fd_I (fd_sum (fun j => if fd_nb (fd_sw M j) > j ∧ fd_nb (fd_sw M (fd_nb (fd_sw M j)).toNat) = j then 1 else 0) k), fd_I ((k : Nat) : Int), fd_I (fd_nb (fd_sw M k))]) (st' := [fd_I ((k : Nat) : Int), fd_I (fd_nb (fd_sw M (fd_nb (fd_sw M k)).toNat))]) (M' := M) rfl rfl (j := 20) rfl (rfl) ?_
      refine fd_u_br (C := fd_c158) (t := 22) (e := 21) (st' := []) (c := ¬ (fd_nb (fd_sw M (fd_nb (fd_sw M k)).toNat)) = ((k : Nat) : Int)) (b := (fd_rng (fd_nb (fd_sw M (fd_nb (fd_sw M k)).toNat)) && fd_rng ((k : Nat) : Int))) rfl rfl rfl (fd_bA (fd_bR (by omega) (by omega)) (fd_bR (by omega) (by omega))) (fun h20 => ?_) (fun h20 => ?_)
      · refine fd_u_blk 1 (C := fd_c158) (b := true) (L' := [fd_R 72, fd_I (fd_sum (fun j => if fd_nb (fd_sw M j) > j ∧ fd_nb (fd_sw M (fd_nb (fd_sw M j)).toNat) = j then 1 else 0) k), fd_I (((k + 1) : Nat) : Int), fd_I (fd_nb (fd_sw M k))]) (st' := []) (M' := M) rfl rfl (j := 23) rfl (rfl) ?_
        refine fd_u_jmp (C := fd_c158) (j := 4) (st' := []) rfl rfl (b := true) rfl rfl ?_
        have e5 : (fd_sum (fun j => if fd_nb (fd_sw M j) > j ∧ fd_nb (fd_sw M (fd_nb (fd_sw M j)).toNat) = j then 1 else 0) k) = (fd_sum (fun j => if fd_nb (fd_sw M j) > j ∧ fd_nb (fd_sw M (fd_nb (fd_sw M j)).toNat) = j then 1 else 0) (k + 1)) := by
          show _ = fd_sum (fun j => if fd_nb (fd_sw M j) > j ∧ fd_nb (fd_sw M (fd_nb (fd_sw M j)).toNat) = j then 1 else 0) k + (if fd_nb (fd_sw M k) > (k : Int) ∧ _ then 1 else 0)
          rw [if_neg (fun z => by first | exact absurd z.1 (by omega) | exact h20 z.2)]; omega
        rw [e5]
        exact ih (k + 1) _ (by omega)
      · refine fd_u_blk 2 (C := fd_c158) (b := true) (L' := [fd_R 72, fd_I ((fd_sum (fun j => if fd_nb (fd_sw M j) > j ∧ fd_nb (fd_sw M (fd_nb (fd_sw M j)).toNat) = j then 1 else 0) k) + 1), fd_I (((k + 1) : Nat) : Int), fd_I (fd_nb (fd_sw M k))]) (st' := []) (M' := M) rfl rfl (j := 23) rfl (rfl) ?_
        refine fd_u_jmp (C := fd_c158) (j := 4) (st' := []) rfl rfl (b := true) rfl rfl ?_
        have e5 : ((fd_sum (fun j => if fd_nb (fd_sw M j) > j ∧ fd_nb (fd_sw M (fd_nb (fd_sw M j)).toNat) = j then 1 else 0) k) + 1) = (fd_sum (fun j => if fd_nb (fd_sw M j) > j ∧ fd_nb (fd_sw M (fd_nb (fd_sw M j)).toNat) = j then 1 else 0) (k + 1)) := by
          show _ = fd_sum (fun j => if fd_nb (fd_sw M j) > j ∧ fd_nb (fd_sw M (fd_nb (fd_sw M j)).toNat) = j then 1 else 0) k + (if fd_nb (fd_sw M k) > (k : Int) ∧ _ then 1 else 0)
          rw [if_pos ⟨by omega, Classical.not_not.mp h20⟩]
        rw [e5]
        exact ih (k + 1) _ (by omega)

theorem fd_s_pairs (M : fd_M) (hG : fd_CG M) : fd_call 6 158 [fd_R 72] M (some (fd_I (fd_sum (fun j => if fd_nb (fd_sw M j) > j ∧ fd_nb (fd_sw M (fd_nb (fd_sw M j)).toNat) = j then 1 else 0) (M 3 2).toNat))) M := by
  refine fd_u_in (L := [fd_R 72, fd_R 1003, fd_R 1003, fd_R 1003]) rfl ?_
  obtain ⟨g0, g1, g2, g3, g4, g5⟩ := hG.1
  refine fd_u_blk 4 (C := fd_c158) (b := true) (L' := [fd_R 72, fd_I 0, fd_I 0, fd_R 1003]) (st' := []) (M' := M) rfl rfl (j := 4) rfl (rfl) ?_
  exact fd_l_pairs M hG (M 3 2).toNat 0 _ (by omega)

theorem fd_s_hasWayIn (M : fd_M) (hG : fd_CG M) (d : Int) (hd : 0 ≤ d ∧ d < 6) (w : Int) (hw : 0 ≤ w ∧ w ≤ 3) : fd_call 4 159 [fd_R 72, fd_I d, fd_I w] M (some (fd_I (fd_bi (fd_cvC M (M 15 d.toNat + fd_sx w) (M 16 d.toNat + fd_sy w) = 0)))) M := by
  refine fd_u_in (L := [fd_R 72, fd_I d, fd_I w]) rfl ?_
  obtain ⟨s1, s2, s3, s4, s5, s6, s7, s8⟩ := hG.2
  have q1 := s1 d.toNat
  have q2 := s2 d.toNat
  have q3 := s3 d.toNat
  have q4 := s4 d.toNat
  simp only [Nat.reduceAdd] at q1 q2 q3 q4
  have qx := fd_sx_rng w
  have qy := fd_sy_rng w
  refine fd_u_blk 19 (C := fd_c159) (b := (fd_inb d 6 && (fd_inb w 4 && (fd_inb d 6 && (fd_inb w 4 && true))))) (L' := [fd_R 72, fd_I d, fd_I w]) (st' := [fd_I ((M 16 (d).toNat) + (fd_sy w)), fd_I ((M 15 (d).toNat) + (fd_sx w)), fd_R 72]) (M' := M) rfl rfl (j := 19) rfl (fd_bA (fd_bI (by omega) (by omega)) (fd_bA (fd_bI (by omega) (by omega)) (fd_bA (fd_bI (by omega) (by omega)) (fd_bA (fd_bI (by omega) (by omega)) (rfl))))) ?_
  refine fd_u_call (C := fd_c159) (d0 := 3) (mid := 150) (np := 3) (args := [fd_R 72, fd_I ((M 15 (d).toNat) + (fd_sx w)), fd_I ((M 16 (d).toNat) + (fd_sy w))]) (r1 := some (fd_I (fd_bi (fd_cvC M ((M 15 (d).toNat) + (fd_sx w)) ((M 16 (d).toNat) + (fd_sy w)) = 0)))) (M1 := M) (st' := [fd_I (fd_bi (fd_cvC M ((M 15 (d).toNat) + (fd_sx w)) ((M 16 (d).toNat) + (fd_sy w)) = 0))]) rfl rfl rfl rfl rfl rfl (rfl) (fd_s_isVacant M hG ((M 15 (d).toNat) + (fd_sx w)) ((M 16 (d).toNat) + (fd_sy w)) (by omega) (by omega)) rfl (by omega) ?_
  refine fd_u_ret (C := fd_c159) (b := (fd_inb (fd_bi (fd_cvC M ((M 15 (d).toNat) + (fd_sx w)) ((M 16 (d).toNat) + (fd_sy w)) = 0)) 2)) (r' := some (fd_I (fd_bi (fd_cvC M ((M 15 (d).toNat) + (fd_sx w)) ((M 16 (d).toNat) + (fd_sy w)) = 0)))) rfl rfl rfl (fd_biI) ?_ ?_
  · rfl
  · rfl
end
section
theorem fd_l_whoHasWayIn (M : fd_M) (hG : fd_CG M) : ∀ (n : Nat) (k : Nat) (hk : (k : Int) + n = M 3 2), fd_run 6 160 4 [fd_R 72, fd_I (fd_bits (fun j => fd_cvC M (M 15 j + fd_sx (M 17 j)) (M 16 j + fd_sy (M 17 j)) = 0) k), fd_I ((k : Nat) : Int)] [] M (some (fd_I (fd_bits (fun j => fd_cvC M (M 15 j + fd_sx (M 17 j)) (M 16 j + fd_sy (M 17 j)) = 0) (M 3 2).toNat))) M := by
  obtain ⟨g0, g1, g2, g3, g4, g5⟩ := hG.1
  obtain ⟨s1, s2, s3, s4, s5, s6, s7, s8⟩ := hG.2
  intro n
  induction n with
  | zero =>
    intro k hk
    have q3 := s3 k
    simp only [Nat.reduceAdd] at q3
    refine fd_u_blk 4 (C := fd_c160) (b := true) (L' := [fd_R 72, fd_I (fd_bits (fun j => fd_cvC M (M 15 j + fd_sx (M 17 j)) (M 16 j + fd_sy (M 17 j)) = 0) k), fd_I ((k : Nat) : Int)]) (st' := [fd_I (M 3 2), fd_I ((k : Nat) : Int)]) (M' := M) rfl rfl (j := 8) rfl (rfl) ?_
    refine fd_u_br (C := fd_c160) (t := 25) (e := 9) (st' := []) (c := (M 3 2) ≤ ((k : Nat) : Int)) (b := (fd_rng ((k : Nat) : Int) && fd_rng (M 3 2))) rfl rfl rfl (fd_bA (fd_bR (by omega) (by omega)) (fd_bR (by omega) (by omega))) (fun h8 => ?_) (fun h8 => absurd h8 (by omega))
    refine fd_u_blk 1 (C := fd_c160) (b := true) (L' := [fd_R 72, fd_I (fd_bits (fun j => fd_cvC M (M 15 j + fd_sx (M 17 j)) (M 16 j + fd_sy (M 17 j)) = 0) k), fd_I ((k : Nat) : Int)]) (st' := [fd_I (fd_bits (fun j => fd_cvC M (M 15 j + fd_sx (M 17 j)) (M 16 j + fd_sy (M 17 j)) = 0) k)]) (M' := M) rfl rfl (j := 26) rfl (rfl) ?_
    refine fd_u_ret (C := fd_c160) (b := true) (r' := some (fd_I (fd_bits (fun j => fd_cvC M (M 15 j + fd_sx (M 17 j)) (M 16 j + fd_sy (M 17 j)) = 0) k))) rfl rfl rfl (rfl) ?_ ?_
    · rw [show (M 3 2).toNat = k by omega]
    · rfl
  | succ n ih =>
    intro k hk
    have q3 := s3 k
    simp only [Nat.reduceAdd] at q3
    refine fd_u_blk 4 (C := fd_c160) (b := true) (L' := [fd_R 72, fd_I (fd_bits (fun j => fd_cvC M (M 15 j + fd_sx (M 17 j)) (M 16 j + fd_sy (M 17 j)) = 0) k), fd_I ((k : Nat) : Int)]) (st' := [fd_I (M 3 2), fd_I ((k : Nat) : Int)]) (M' := M) rfl rfl (j := 8) rfl (rfl) ?_
    refine fd_u_br (C := fd_c160) (t := 25) (e := 9) (st' := []) (c := (M 3 2) ≤ ((k : Nat) : Int)) (b := (fd_rng ((k : Nat) : Int) && fd_rng (M 3 2))) rfl rfl rfl (fd_bA (fd_bR (by omega) (by omega)) (fd_bR (by omega) (by omega))) (fun h8 => absurd h8 (by omega)) (fun h8 => ?_)
    refine fd_u_blk 7 (C := fd_c160) (b := (fd_inb ((k : Nat) : Int) 6 && true)) (L' := [fd_R 72, fd_I (fd_bits (fun j => fd_cvC M (M 15 j + fd_sx (M 17 j)) (M 16 j + fd_sy (M 17 j)) = 0) k), fd_I ((k : Nat) : Int)]) (st' := [fd_I (M 17 k), fd_I ((k : Nat) : Int), fd_R 72]) (M' := M) rfl rfl (j := 16) rfl (fd_bA (fd_bI (by omega) (by omega)) (rfl)) ?_
    refine fd_u_call (C := fd_c160) (d0 := 4) (mid := 159) (np := 3) (args := [fd_R 72, fd_I ((k : Nat) : Int), fd_I (M 17 k)]) (r1 := some (fd_I (fd_bi (fd_cvC M (M 15 k + fd_sx (M 17 k)) (M 16 k + fd_sy (M 17 k)) = 0)))) (M1 := M) (st' := [fd_I (fd_bi (fd_cvC M (M 15 k + fd_sx (M 17 k)) (M 16 k + fd_sy (M 17 k)) = 0))]) rfl rfl rfl rfl rfl rfl (rfl) (fd_s_hasWayIn M hG ((k : Nat) : Int) (by omega) (M 17 k) (by omega)) rfl (by omega) ?_
    refine fd_u_br (C := fd_c160) (t := 23) (e := 18) (st' := []) (c := (fd_bi (fd_cvC M (M 15 k + fd_sx (M 17 k)) (M 16 k + fd_sy (M 17 k)) = 0)) = 0) (b := (fd_rng (fd_bi (fd_cvC M (M 15 k + fd_sx (M 17 k)) (M 16 k + fd_sy (M 17 k)) = 0)))) rfl rfl rfl (fd_biR) (fun h17 => ?_) (fun h17 => ?_)
    · have h17 := fd_biF.mp h17
      refine fd_u_blk 1 (C := fd_c160) (b := true) (L' := [fd_R 72, fd_I (fd_bits (fun j => fd_cvC M (M 15 j + fd_sx (M 17 j)) (M 16 j + fd_sy (M 17 j)) = 0) k), fd_I (((k + 1) : Nat) : Int)]) (st' := []) (M' := M) rfl rfl (j := 24) rfl (rfl) ?_
      refine fd_u_jmp (C := fd_c160) (j := 4) (st' := []) rfl rfl (b := true) rfl rfl ?_
      have qb := fd_bits_rng (fun j => fd_cvC M (M 15 j + fd_sx (M 17 j)) (M 16 j + fd_sy (M 17 j)) = 0) k
      have e5 : (fd_bits (fun j => fd_cvC M (M 15 j + fd_sx (M 17 j)) (M 16 j + fd_sy (M 17 j)) = 0) k) = (fd_bits (fun j => fd_cvC M (M 15 j + fd_sx (M 17 j)) (M 16 j + fd_sy (M 17 j)) = 0) (k + 1)) := by
        show _ = fd_bits (fun j => fd_cvC M (M 15 j + fd_sx (M 17 j)) (M 16 j + fd_sy (M 17 j)) = 0) k + (if fd_cvC M (M 15 k + fd_sx (M 17 k)) (M 16 k + fd_sy (M 17 k)) = 0 then 2 ^ k else 0)
        rw [if_neg h17]; omega
      rw [e5]
      exact ih (k + 1) (by omega)
    · have h17 := fd_biT.mp h17
      refine fd_u_blk 2 (C := fd_c160) (b := true) (L' := [fd_R 72, fd_I (fd_bits (fun j => fd_cvC M (M 15 j + fd_sx (M 17 j)) (M 16 j + fd_sy (M 17 j)) = 0) k), fd_I ((k : Nat) : Int)]) (st' := [fd_I ((k : Nat) : Int), fd_I (fd_bits (fun j => fd_cvC M (M 15 j + fd_sx (M 17 j)) (M 16 j + fd_sy (M 17 j)) = 0) k)]) (M' := M) rfl rfl (j := 20) rfl (rfl) ?_
      refine fd_u_call (C := fd_c160) (d0 := 0) (mid := 45) (np := 1) (args := [fd_I ((k : Nat) : Int)]) (r1 := some (fd_I (if ((k : Nat) : Int) = -1 then 0 else 2 ^ ((k : Nat) : Int).toNat))) (M1 := M) (st' := [fd_I (if ((k : Nat) : Int) = -1 then 0 else 2 ^ ((k : Nat) : Int).toNat), fd_I (fd_bits (fun j => fd_cvC M (M 15 j + fd_sx (M 17 j)) (M 16 j + fd_sy (M 17 j)) = 0) k)]) rfl rfl rfl rfl rfl rfl (rfl) (fd_s_bitOf M ((k : Nat) : Int) (by omega)) rfl (by omega) ?_
      refine fd_u_blk 3 (C := fd_c160) (b := true) (L' := [fd_R 72, fd_I (fd_or (fd_bits (fun j => fd_cvC M (M 15 j + fd_sx (M 17 j)) (M 16 j + fd_sy (M 17 j)) = 0) k) (if ((k : Nat) : Int) = -1 then 0 else 2 ^ ((k : Nat) : Int).toNat)), fd_I (((k + 1) : Nat) : Int)]) (st' := []) (M' := M) rfl rfl (j := 24) rfl (rfl) ?_
      refine fd_u_jmp (C := fd_c160) (j := 4) (st' := []) rfl rfl (b := true) rfl rfl ?_
      have qb := fd_bits_rng (fun j => fd_cvC M (M 15 j + fd_sx (M 17 j)) (M 16 j + fd_sy (M 17 j)) = 0) k
      have e5 : (fd_or (fd_bits (fun j => fd_cvC M (M 15 j + fd_sx (M 17 j)) (M 16 j + fd_sy (M 17 j)) = 0) k) (if ((k : Nat) : Int) = -1 then 0 else 2 ^ ((k : Nat) : Int).toNat)) = (fd_bits (fun j => fd_cvC M (M 15 j + fd_sx (M 17 j)) (M 16 j + fd_sy (M 17 j)) = 0) (k + 1)) := by
        rw [if_neg (by omega)]
        show fd_or _ (2 ^ k) = fd_bits (fun j => fd_cvC M (M 15 j + fd_sx (M 17 j)) (M 16 j + fd_sy (M 17 j)) = 0) k + (if fd_cvC M (M 15 k + fd_sx (M 17 k)) (M 16 k + fd_sy (M 17 k)) = 0 then 2 ^ k else 0)
        rw [fd_orS (by omega) qb.1 qb.2, if_pos h17]
      rw [e5]
      exact ih (k + 1) (by omega)

theorem fd_s_whoHasWayIn (M : fd_M) (hG : fd_CG M) : fd_call 6 160 [fd_R 72] M (some (fd_I (fd_bits (fun j => fd_cvC M (M 15 j + fd_sx (M 17 j)) (M 16 j + fd_sy (M 17 j)) = 0) (M 3 2).toNat))) M := by
  refine fd_u_in (L := [fd_R 72, fd_R 1003, fd_R 1003]) rfl ?_
  obtain ⟨g0, g1, g2, g3, g4, g5⟩ := hG.1
  refine fd_u_blk 4 (C := fd_c160) (b := true) (L' := [fd_R 72, fd_I 0, fd_I 0]) (st' := []) (M' := M) rfl rfl (j := 4) rfl (rfl) ?_
  exact fd_l_whoHasWayIn M hG (M 3 2).toNat 0 (by omega)

theorem fd_l_owedByAll (M : fd_M) (hG : fd_CG M) : ∀ (n : Nat) (k : Nat) (hk : (k : Int) + n = M 3 2), fd_run 0 148 4 [fd_R 14, fd_I (M 3 2), fd_I (fd_sum (M 18) k), fd_I ((k : Nat) : Int)] [] M (some (fd_I (fd_sum (M 18) (M 3 2).toNat))) M := by
  obtain ⟨g0, g1, g2, g3, g4, g5⟩ := hG.1
  obtain ⟨s1, s2, s3, s4, s5, s6, s7, s8⟩ := hG.2
  intro n
  induction n with
  | zero =>
    intro k hk

    refine fd_u_blk 2 (C := fd_c148) (b := true) (L' := [fd_R 14, fd_I (M 3 2), fd_I (fd_sum (M 18) k), fd_I ((k : Nat) : Int)]) (st' := [fd_I (M 3 2), fd_I ((k : Nat) : Int)]) (M' := M) rfl rfl (j := 6) rfl (rfl) ?_
    refine fd_u_br (C := fd_c148) (t := 19) (e := 7) (st' := []) (c := (M 3 2) ≤ ((k : Nat) : Int)) (b := (fd_rng ((k : Nat) : Int) && fd_rng (M 3 2))) rfl rfl rfl (fd_bA (fd_bR (by omega) (by omega)) (fd_bR (by omega) (by omega))) (fun h6 => ?_) (fun h6 => absurd h6 (by omega))
    refine fd_u_blk 1 (C := fd_c148) (b := true) (L' := [fd_R 14, fd_I (M 3 2), fd_I (fd_sum (M 18) k), fd_I ((k : Nat) : Int)]) (st' := [fd_I (fd_sum (M 18) k)]) (M' := M) rfl rfl (j := 20) rfl (rfl) ?_
    refine fd_u_ret (C := fd_c148) (b := true) (r' := some (fd_I (fd_sum (M 18) k))) rfl rfl rfl (rfl) ?_ ?_
    · rw [show (M 3 2).toNat = k by omega]
    · rfl
  | succ n ih =>
    intro k hk

    refine fd_u_blk 2 (C := fd_c148) (b := true) (L' := [fd_R 14, fd_I (M 3 2), fd_I (fd_sum (M 18) k), fd_I ((k : Nat) : Int)]) (st' := [fd_I (M 3 2), fd_I ((k : Nat) : Int)]) (M' := M) rfl rfl (j := 6) rfl (rfl) ?_
    refine fd_u_br (C := fd_c148) (t := 19) (e := 7) (st' := []) (c := (M 3 2) ≤ ((k : Nat) : Int)) (b := (fd_rng ((k : Nat) : Int) && fd_rng (M 3 2))) rfl rfl rfl (fd_bA (fd_bR (by omega) (by omega)) (fd_bR (by omega) (by omega))) (fun h6 => absurd h6 (by omega)) (fun h6 => ?_)
    refine fd_u_blk 2 (C := fd_c148) (b := true) (L' := [fd_R 14, fd_I (M 3 2), fd_I (fd_sum (M 18) k), fd_I ((k : Nat) : Int)]) (st' := [fd_I 6, fd_I ((k : Nat) : Int)]) (M' := M) rfl rfl (j := 9) rfl (rfl) ?_
    refine fd_u_br (C := fd_c148) (t := 19) (e := 10) (st' := []) (c := 6 ≤ ((k : Nat) : Int)) (b := (fd_rng ((k : Nat) : Int) && fd_rng 6)) rfl rfl rfl (fd_bA (fd_bR (by omega) (by omega)) (fd_bR (by omega) (by omega))) (fun h9 => absurd h9 (by omega)) (fun h9 => ?_)
    refine fd_u_blk 8 (C := fd_c148) (b := (fd_inb ((k : Nat) : Int) 6 && true)) (L' := [fd_R 14, fd_I (M 3 2), fd_I ((fd_sum (M 18) k) + (M 18 k)), fd_I (((k + 1) : Nat) : Int)]) (st' := []) (M' := M) rfl rfl (j := 18) rfl (fd_bA (fd_bI (by omega) (by omega)) (rfl)) ?_
    refine fd_u_jmp (C := fd_c148) (j := 4) (st' := []) rfl rfl (b := true) rfl rfl ?_
    exact ih (k + 1) (by omega)

theorem fd_s_owedByAll (M : fd_M) (hG : fd_CG M) : fd_call 0 148 [fd_R 14, fd_I (M 3 2)] M (some (fd_I (fd_sum (M 18) (M 3 2).toNat))) M := by
  refine fd_u_in (L := [fd_R 14, fd_I (M 3 2), fd_R 1003, fd_R 1003]) rfl ?_
  obtain ⟨g0, g1, g2, g3, g4, g5⟩ := hG.1
  refine fd_u_blk 4 (C := fd_c148) (b := true) (L' := [fd_R 14, fd_I (M 3 2), fd_I 0, fd_I 0]) (st' := []) (M' := M) rfl rfl (j := 4) rfl (rfl) ?_
  exact fd_l_owedByAll M hG (M 3 2).toNat 0 (by omega)

theorem fd_x_cell (M : fd_M) (hG : fd_CG M) (x y : Int) (hx : -2147483648 ≤ x ∧ x < 2147483648) (hy : -2147483648 ≤ y ∧ y < 2147483648) : fd_call 4 4 [fd_R 0, fd_I x, fd_I y] M (some (fd_I (fd_cvC M x y))) M := by
  refine fd_u_in (L := [fd_R 0, fd_I x, fd_I y, fd_R 1003]) rfl ?_
  obtain ⟨g0, g1, g2, g3, g4, g5⟩ := hG.1
  refine fd_u_blk 4 (C := fd_c4) (b := true) (L' := [fd_R 0, fd_I x, fd_I y, fd_R 1003]) (st' := [fd_I y, fd_I x, fd_R 3]) (M' := M) rfl rfl (j := 4) rfl (rfl) ?_
  refine fd_u_call (C := fd_c4) (d0 := 0) (mid := 123) (np := 3) (args := [fd_R 3, fd_I x, fd_I y]) (r1 := some (fd_I (fd_bi (0 ≤ x ∧ x < M 3 0 ∧ 0 ≤ y ∧ y < M 3 1)))) (M1 := M) (st' := [fd_I (fd_bi (0 ≤ x ∧ x < M 3 0 ∧ 0 ≤ y ∧ y < M 3 1))]) rfl rfl rfl rfl rfl rfl (rfl) (fd_s_hasCell M x y (by omega) (by omega) (by omega) (by omega)) rfl (by omega) ?_
  refine fd_u_br (C := fd_c4) (t := 8) (e := 6) (st' := []) (c := ¬ (fd_bi (0 ≤ x ∧ x < M 3 0 ∧ 0 ≤ y ∧ y < M 3 1)) = 0) (b := (fd_rng (fd_bi (0 ≤ x ∧ x < M 3 0 ∧ 0 ≤ y ∧ y < M 3 1)))) rfl rfl rfl (fd_biR) (fun h5 => ?_) (fun h5 => ?_)
  · have h5 := fd_biT.mp h5
    refine fd_u_blk 7 (C := fd_c4) (b := true) (L' := [fd_R 0, fd_I x, fd_I y, fd_R 1003]) (st' := [fd_I (M 3 2), fd_I y, fd_I x, fd_R 14]) (M' := M) rfl rfl (j := 15) rfl (rfl) ?_
    refine fd_u_call (C := fd_c4) (d0 := 1) (mid := 147) (np := 4) (args := [fd_R 14, fd_I x, fd_I y, fd_I (M 3 2)]) (r1 := some (fd_I (fd_dor M x y))) (M1 := M) (st' := [fd_I (fd_dor M x y)]) rfl rfl rfl rfl rfl rfl (rfl) (fd_s_doorOn M hG x y (by omega) (by omega)) rfl (by omega) ?_
    have qd := fd_dor_rng (M := M) (by omega) x y
    refine fd_u_blk 3 (C := fd_c4) (b := true) (L' := [fd_R 0, fd_I x, fd_I y, fd_I (fd_dor M x y)]) (st' := [fd_I (-1), fd_I (fd_dor M x y)]) (M' := M) rfl rfl (j := 19) rfl (rfl) ?_
    refine fd_u_br (C := fd_c4) (t := 24) (e := 20) (st' := []) (c := (fd_dor M x y) = (-1)) (b := (fd_rng (fd_dor M x y) && fd_rng (-1))) rfl rfl rfl (fd_bA (fd_bR (by omega) (by omega)) (fd_bR (by omega) (by omega))) (fun h19 => ?_) (fun h19 => ?_)
    · refine fd_u_blk 4 (C := fd_c4) (b := true) (L' := [fd_R 0, fd_I x, fd_I y, fd_I (fd_dor M x y)]) (st' := [fd_I y, fd_I x, fd_R 14]) (M' := M) rfl rfl (j := 28) rfl (rfl) ?_
      refine fd_u_call (C := fd_c4) (d0 := 2) (mid := 145) (np := 3) (args := [fd_R 14, fd_I x, fd_I y]) (r1 := some (fd_I (fd_bi (M 14 5 / 2 ^ (y * 7 + x).toNat % 2 = 1)))) (M1 := M) (st' := [fd_I (fd_bi (M 14 5 / 2 ^ (y * 7 + x).toNat % 2 = 1))]) rfl rfl rfl rfl rfl rfl (rfl) (fd_s_hasCart M hG x y (by omega) (by omega)) rfl (by omega) ?_
      refine fd_u_br (C := fd_c4) (t := 32) (e := 30) (st' := []) (c := (fd_bi (M 14 5 / 2 ^ (y * 7 + x).toNat % 2 = 1)) = 0) (b := (fd_rng (fd_bi (M 14 5 / 2 ^ (y * 7 + x).toNat % 2 = 1)))) rfl rfl rfl (fd_biR) (fun h29 => ?_) (fun h29 => ?_)
      · have h29 := fd_biF.mp h29
        refine fd_u_blk 4 (C := fd_c4) (b := true) (L' := [fd_R 0, fd_I x, fd_I y, fd_I (fd_dor M x y)]) (st' := [fd_I y, fd_I x, fd_R 3]) (M' := M) rfl rfl (j := 36) rfl (rfl) ?_
        refine fd_u_call (C := fd_c4) (d0 := 1) (mid := 125) (np := 3) (args := [fd_R 3, fd_I x, fd_I y]) (r1 := some (fd_I (if 0 ≤ x ∧ x < M 3 0 ∧ 0 ≤ y ∧ y < M 3 1 then M 4 (y * 7 + x).toNat else 1))) (M1 := M) (st' := [fd_I (if 0 ≤ x ∧ x < M 3 0 ∧ 0 ≤ y ∧ y < M 3 1 then M 4 (y * 7 + x).toNat else 1)]) rfl rfl rfl rfl rfl rfl (rfl) (fd_s_groundAt M hG.1 x y (by omega) (by omega)) rfl (by omega) ?_
        refine fd_u_ret (C := fd_c4) (b := true) (r' := some (fd_I (if 0 ≤ x ∧ x < M 3 0 ∧ 0 ≤ y ∧ y < M 3 1 then M 4 (y * 7 + x).toNat else 1))) rfl rfl rfl (rfl) ?_ ?_
        · unfold fd_cvC
          first | rw [if_neg h5] | rw [if_pos h5, if_neg h19] | rw [if_pos h5, if_pos h19, if_pos h29] | rw [if_pos h5, if_pos h19, if_neg h29, if_pos h5]
        · rfl
      · have h29 := fd_biT.mp h29
        refine fd_u_blk 1 (C := fd_c4) (b := true) (L' := [fd_R 0, fd_I x, fd_I y, fd_I (fd_dor M x y)]) (st' := [fd_I 3]) (M' := M) rfl rfl (j := 31) rfl (rfl) ?_
        refine fd_u_jmp (C := fd_c4) (j := 37) (st' := [fd_I 3]) rfl rfl (b := true) rfl rfl ?_
        refine fd_u_ret (C := fd_c4) (b := true) (r' := some (fd_I 3)) rfl rfl rfl (rfl) ?_ ?_
        · unfold fd_cvC
          first | rw [if_neg h5] | rw [if_pos h5, if_neg h19] | rw [if_pos h5, if_pos h19, if_pos h29] | rw [if_pos h5, if_pos h19, if_neg h29, if_pos h5]
        · rfl
    · refine fd_u_blk 3 (C := fd_c4) (b := true) (L' := [fd_R 0, fd_I x, fd_I y, fd_I (fd_dor M x y)]) (st' := [fd_I (10 + (fd_dor M x y))]) (M' := M) rfl rfl (j := 23) rfl (rfl) ?_
      refine fd_u_ret (C := fd_c4) (b := true) (r' := some (fd_I (10 + (fd_dor M x y)))) rfl rfl rfl (rfl) ?_ ?_
      · unfold fd_cvC
        first | rw [if_neg h5] | rw [if_pos h5, if_neg h19] | rw [if_pos h5, if_pos h19, if_pos h29] | rw [if_pos h5, if_pos h19, if_neg h29, if_pos h5]
      · rfl
  · have h5 := fd_biF2  h5
    refine fd_u_blk 1 (C := fd_c4) (b := true) (L' := [fd_R 0, fd_I x, fd_I y, fd_R 1003]) (st' := [fd_I (-1)]) (M' := M) rfl rfl (j := 7) rfl (rfl) ?_
    refine fd_u_ret (C := fd_c4) (b := true) (r' := some (fd_I (-1))) rfl rfl rfl (rfl) ?_ ?_
    · unfold fd_cvC
      first | rw [if_neg h5] | rw [if_pos h5, if_neg h19] | rw [if_pos h5, if_pos h19, if_pos h29] | rw [if_pos h5, if_pos h19, if_neg h29, if_pos h5]
    · rfl

def fd_X_door (M : fd_M) (d w : Int) : Int := if ¬ (0 ≤ d ∧ d < M 3 2) then -1 else if w = 0 then M 15 d.toNat else if w = 1 then M 16 d.toNat else if w = 2 then M 17 d.toNat else if w = 3 then fd_bi (M 14 4 / 2 ^ d.toNat % 2 = 1) else if w = 4 then (if fd_nb (fd_sw M d.toNat) = -1 then 0 else 2 ^ (fd_nb (fd_sw M d.toNat)).toNat) else if w = 5 then fd_dueC M d.toNat else if w = 6 then fd_bi (fd_cvC M (M 15 d.toNat + fd_sx (M 17 d.toNat)) (M 16 d.toNat + fd_sy (M 17 d.toNat)) = 0) else if w = 7 then fd_bits (fun j => fd_nb (fd_sw M j) = d) (M 3 2).toNat else if w = 8 then M 18 d.toNat else -1
def fd_X_now (M : fd_M) (w : Int) : Int := if w = 0 then fd_sum (fd_dueC M) (M 3 2).toNat else if w = 1 then M 14 4 else if w = 2 then fd_bits (fun j => fd_cvC M (M 15 j + fd_sx (M 17 j)) (M 16 j + fd_sy (M 17 j)) = 0) (M 3 2).toNat else if w = 3 then fd_sum (fun j => if fd_nb (fd_sw M j) > j ∧ fd_nb (fd_sw M (fd_nb (fd_sw M j)).toNat) = j then 1 else 0) (M 3 2).toNat else if w = 4 then fd_lbc (M 14 5) else if w = 5 then M 14 6 else if w = 6 then M 14 7 else if w = 7 then fd_sum (M 18) (M 3 2).toNat else -1
def fd_X_count (M : fd_M) (w : Int) : Int := if w = 0 then M 3 0 else if w = 1 then M 3 1 else if w = 2 then M 3 2 else if w = 3 then M 3 3 else if w = 4 then M 3 4 else if w = 5 then M 78 2 else if w = 6 then M 19 1 else if w = 7 then M 1 1 else -1
theorem fd_x_door (M : fd_M) (hG : fd_CG M) (d : Int) (hd : -2147483648 ≤ d ∧ d < 2147483648) (w : Int) (hw : -2147483648 ≤ w ∧ w < 2147483648) : fd_call 7 5 [fd_R 0, fd_I d, fd_I w] M (some (fd_I (fd_X_door M d w))) M := by
  refine fd_u_in (L := [fd_R 0, fd_I d, fd_I w]) rfl ?_
  obtain ⟨g0, g1, g2, g3, g4, g5⟩ := hG.1
  obtain ⟨s1, s2, s3, s4, s5, s6, s7, s8⟩ := hG.2
  have q1 := s1 d.toNat
  have q2 := s2 d.toNat
  have q3 := s3 d.toNat
  have q4 := s4 d.toNat
  simp only [Nat.reduceAdd] at q1 q2 q3 q4
  refine fd_u_blk 3 (C := fd_c5) (b := true) (L' := [fd_R 0, fd_I d, fd_I w]) (st' := [fd_I d, fd_R 3]) (M' := M) rfl rfl (j := 3) rfl (rfl) ?_
  refine fd_u_call (C := fd_c5) (d0 := 0) (mid := 124) (np := 2) (args := [fd_R 3, fd_I d]) (r1 := some (fd_I (fd_bi (0 ≤ d ∧ d < M 3 2)))) (M1 := M) (st' := [fd_I (fd_bi (0 ≤ d ∧ d < M 3 2))]) rfl rfl rfl rfl rfl rfl (rfl) (fd_s_hasDoor M d (by omega) (by omega)) rfl (by omega) ?_
  refine fd_u_br (C := fd_c5) (t := 7) (e := 5) (st' := []) (c := ¬ (fd_bi (0 ≤ d ∧ d < M 3 2)) = 0) (b := (fd_rng (fd_bi (0 ≤ d ∧ d < M 3 2)))) rfl rfl rfl (fd_biR) (fun h4 => ?_) (fun h4 => ?_)
  · have h4 := fd_biT.mp h4
    refine fd_u_blk 1 (C := fd_c5) (b := true) (L' := [fd_R 0, fd_I d, fd_I w]) (st' := [fd_I w]) (M' := M) rfl rfl (j := 8) rfl (rfl) ?_
    by_cases h8_0 : w = 0
    · refine fd_u_jmp (C := fd_c5) (j := 9) (st' := []) rfl rfl (b := fd_rng w) (by rw [h8_0]; rfl) (fd_bR (by omega) (by omega)) ?_
      refine fd_u_blk 5 (C := fd_c5) (b := (fd_inb d 6 && true)) (L' := [fd_R 0, fd_I d, fd_I w]) (st' := [fd_I (M 15 (d).toNat)]) (M' := M) rfl rfl (j := 14) rfl (fd_bA (fd_bI (by omega) (by omega)) (rfl)) ?_
      refine fd_u_ret (C := fd_c5) (b := true) (r' := some (fd_I (M 15 (d).toNat))) rfl rfl rfl (rfl) ?_ ?_
      · first | rw [fd_X_door, if_neg (show ¬ ¬ (0 ≤ d ∧ d < M 3 2) by omega), if_pos h8_0] | rw [fd_X_door, if_neg (show ¬ ¬ (0 ≤ d ∧ d < M 3 2) by omega), if_neg h8_0, if_pos h8_1] | rw [fd_X_door, if_neg (show ¬ ¬ (0 ≤ d ∧ d < M 3 2) by omega), if_neg h8_0, if_neg h8_1, if_pos h8_2] | rw [fd_X_door, if_neg (show ¬ ¬ (0 ≤ d ∧ d < M 3 2) by omega), if_neg h8_0, if_neg h8_1, if_neg h8_2, if_pos h8_3] | rw [fd_X_door, if_neg (show ¬ ¬ (0 ≤ d ∧ d < M 3 2) by omega), if_neg h8_0, if_neg h8_1, if_neg h8_2, if_neg h8_3, if_pos h8_4] | rw [fd_X_door, if_neg (show ¬ ¬ (0 ≤ d ∧ d < M 3 2) by omega), if_neg h8_0, if_neg h8_1, if_neg h8_2, if_neg h8_3, if_neg h8_4, if_pos h8_5] | rw [fd_X_door, if_neg (show ¬ ¬ (0 ≤ d ∧ d < M 3 2) by omega), if_neg h8_0, if_neg h8_1, if_neg h8_2, if_neg h8_3, if_neg h8_4, if_neg h8_5, if_pos h8_6] | rw [fd_X_door, if_neg (show ¬ ¬ (0 ≤ d ∧ d < M 3 2) by omega), if_neg h8_0, if_neg h8_1, if_neg h8_2, if_neg h8_3, if_neg h8_4, if_neg h8_5, if_neg h8_6, if_pos h8_7] | rw [fd_X_door, if_neg (show ¬ ¬ (0 ≤ d ∧ d < M 3 2) by omega), if_neg h8_0, if_neg h8_1, if_neg h8_2, if_neg h8_3, if_neg h8_4, if_neg h8_5, if_neg h8_6, if_neg h8_7, if_pos h8_8] | rw [fd_X_door, if_neg (show ¬ ¬ (0 ≤ d ∧ d < M 3 2) by omega), if_neg h8_0, if_neg h8_1, if_neg h8_2, if_neg h8_3, if_neg h8_4, if_neg h8_5, if_neg h8_6, if_neg h8_7, if_neg h8_8] | rw [fd_X_door, if_pos (show ¬ (0 ≤ d ∧ d < M 3 2) by omega)]
      · rfl
    by_cases h8_1 : w = 1
    · refine fd_u_jmp (C := fd_c5) (j := 15) (st' := []) rfl rfl (b := fd_rng w) (by rw [h8_1]; rfl) (fd_bR (by omega) (by omega)) ?_
      refine fd_u_blk 5 (C := fd_c5) (b := (fd_inb d 6 && true)) (L' := [fd_R 0, fd_I d, fd_I w]) (st' := [fd_I (M 16 (d).toNat)]) (M' := M) rfl rfl (j := 20) rfl (fd_bA (fd_bI (by omega) (by omega)) (rfl)) ?_
      refine fd_u_ret (C := fd_c5) (b := true) (r' := some (fd_I (M 16 (d).toNat))) rfl rfl rfl (rfl) ?_ ?_
      · first | rw [fd_X_door, if_neg (show ¬ ¬ (0 ≤ d ∧ d < M 3 2) by omega), if_pos h8_0] | rw [fd_X_door, if_neg (show ¬ ¬ (0 ≤ d ∧ d < M 3 2) by omega), if_neg h8_0, if_pos h8_1] | rw [fd_X_door, if_neg (show ¬ ¬ (0 ≤ d ∧ d < M 3 2) by omega), if_neg h8_0, if_neg h8_1, if_pos h8_2] | rw [fd_X_door, if_neg (show ¬ ¬ (0 ≤ d ∧ d < M 3 2) by omega), if_neg h8_0, if_neg h8_1, if_neg h8_2, if_pos h8_3] | rw [fd_X_door, if_neg (show ¬ ¬ (0 ≤ d ∧ d < M 3 2) by omega), if_neg h8_0, if_neg h8_1, if_neg h8_2, if_neg h8_3, if_pos h8_4] | rw [fd_X_door, if_neg (show ¬ ¬ (0 ≤ d ∧ d < M 3 2) by omega), if_neg h8_0, if_neg h8_1, if_neg h8_2, if_neg h8_3, if_neg h8_4, if_pos h8_5] | rw [fd_X_door, if_neg (show ¬ ¬ (0 ≤ d ∧ d < M 3 2) by omega), if_neg h8_0, if_neg h8_1, if_neg h8_2, if_neg h8_3, if_neg h8_4, if_neg h8_5, if_pos h8_6] | rw [fd_X_door, if_neg (show ¬ ¬ (0 ≤ d ∧ d < M 3 2) by omega), if_neg h8_0, if_neg h8_1, if_neg h8_2, if_neg h8_3, if_neg h8_4, if_neg h8_5, if_neg h8_6, if_pos h8_7] | rw [fd_X_door, if_neg (show ¬ ¬ (0 ≤ d ∧ d < M 3 2) by omega), if_neg h8_0, if_neg h8_1, if_neg h8_2, if_neg h8_3, if_neg h8_4, if_neg h8_5, if_neg h8_6, if_neg h8_7, if_pos h8_8] | rw [fd_X_door, if_neg (show ¬ ¬ (0 ≤ d ∧ d < M 3 2) by omega), if_neg h8_0, if_neg h8_1, if_neg h8_2, if_neg h8_3, if_neg h8_4, if_neg h8_5, if_neg h8_6, if_neg h8_7, if_neg h8_8] | rw [fd_X_door, if_pos (show ¬ (0 ≤ d ∧ d < M 3 2) by omega)]
      · rfl
    by_cases h8_2 : w = 2
    · refine fd_u_jmp (C := fd_c5) (j := 21) (st' := []) rfl rfl (b := fd_rng w) (by rw [h8_2]; rfl) (fd_bR (by omega) (by omega)) ?_
      refine fd_u_blk 5 (C := fd_c5) (b := (fd_inb d 6 && true)) (L' := [fd_R 0, fd_I d, fd_I w]) (st' := [fd_I (M 17 (d).toNat)]) (M' := M) rfl rfl (j := 26) rfl (fd_bA (fd_bI (by omega) (by omega)) (rfl)) ?_
      refine fd_u_ret (C := fd_c5) (b := true) (r' := some (fd_I (M 17 (d).toNat))) rfl rfl rfl (rfl) ?_ ?_
      · first | rw [fd_X_door, if_neg (show ¬ ¬ (0 ≤ d ∧ d < M 3 2) by omega), if_pos h8_0] | rw [fd_X_door, if_neg (show ¬ ¬ (0 ≤ d ∧ d < M 3 2) by omega), if_neg h8_0, if_pos h8_1] | rw [fd_X_door, if_neg (show ¬ ¬ (0 ≤ d ∧ d < M 3 2) by omega), if_neg h8_0, if_neg h8_1, if_pos h8_2] | rw [fd_X_door, if_neg (show ¬ ¬ (0 ≤ d ∧ d < M 3 2) by omega), if_neg h8_0, if_neg h8_1, if_neg h8_2, if_pos h8_3] | rw [fd_X_door, if_neg (show ¬ ¬ (0 ≤ d ∧ d < M 3 2) by omega), if_neg h8_0, if_neg h8_1, if_neg h8_2, if_neg h8_3, if_pos h8_4] | rw [fd_X_door, if_neg (show ¬ ¬ (0 ≤ d ∧ d < M 3 2) by omega), if_neg h8_0, if_neg h8_1, if_neg h8_2, if_neg h8_3, if_neg h8_4, if_pos h8_5] | rw [fd_X_door, if_neg (show ¬ ¬ (0 ≤ d ∧ d < M 3 2) by omega), if_neg h8_0, if_neg h8_1, if_neg h8_2, if_neg h8_3, if_neg h8_4, if_neg h8_5, if_pos h8_6] | rw [fd_X_door, if_neg (show ¬ ¬ (0 ≤ d ∧ d < M 3 2) by omega), if_neg h8_0, if_neg h8_1, if_neg h8_2, if_neg h8_3, if_neg h8_4, if_neg h8_5, if_neg h8_6, if_pos h8_7] | rw [fd_X_door, if_neg (show ¬ ¬ (0 ≤ d ∧ d < M 3 2) by omega), if_neg h8_0, if_neg h8_1, if_neg h8_2, if_neg h8_3, if_neg h8_4, if_neg h8_5, if_neg h8_6, if_neg h8_7, if_pos h8_8] | rw [fd_X_door, if_neg (show ¬ ¬ (0 ≤ d ∧ d < M 3 2) by omega), if_neg h8_0, if_neg h8_1, if_neg h8_2, if_neg h8_3, if_neg h8_4, if_neg h8_5, if_neg h8_6, if_neg h8_7, if_neg h8_8] | rw [fd_X_door, if_pos (show ¬ (0 ≤ d ∧ d < M 3 2) by omega)]
      · rfl
    by_cases h8_3 : w = 3
    · refine fd_u_jmp (C := fd_c5) (j := 27) (st' := []) rfl rfl (b := fd_rng w) (by rw [h8_3]; rfl) (fd_bR (by omega) (by omega)) ?_
      refine fd_u_blk 3 (C := fd_c5) (b := true) (L' := [fd_R 0, fd_I d, fd_I w]) (st' := [fd_I d, fd_R 14]) (M' := M) rfl rfl (j := 30) rfl (rfl) ?_
      refine fd_u_call (C := fd_c5) (d0 := 1) (mid := 144) (np := 2) (args := [fd_R 14, fd_I d]) (r1 := some (fd_I (fd_bi (M 14 4 / 2 ^ (d).toNat % 2 = 1)))) (M1 := M) (st' := [fd_I (fd_bi (M 14 4 / 2 ^ (d).toNat % 2 = 1))]) rfl rfl rfl rfl rfl rfl (rfl) (fd_s_isOpen M hG d (by omega)) rfl (by omega) ?_
      refine fd_u_call (C := fd_c5) (d0 := 0) (mid := 43) (np := 1) (args := [fd_I (fd_bi (M 14 4 / 2 ^ (d).toNat % 2 = 1))]) (r1 := some (fd_I (fd_bi (M 14 4 / 2 ^ (d).toNat % 2 = 1)))) (M1 := M) (st' := [fd_I (fd_bi (M 14 4 / 2 ^ (d).toNat % 2 = 1))]) rfl rfl rfl rfl rfl rfl (rfl) (fd_s_flag M (fd_bi (M 14 4 / 2 ^ (d).toNat % 2 = 1)) (fd_bi_rng _)) rfl (by omega) ?_
      refine fd_u_ret (C := fd_c5) (b := true) (r' := some (fd_I (fd_bi (M 14 4 / 2 ^ (d).toNat % 2 = 1)))) rfl rfl rfl (rfl) ?_ ?_
      · first | rw [fd_X_door, if_neg (show ¬ ¬ (0 ≤ d ∧ d < M 3 2) by omega), if_pos h8_0] | rw [fd_X_door, if_neg (show ¬ ¬ (0 ≤ d ∧ d < M 3 2) by omega), if_neg h8_0, if_pos h8_1] | rw [fd_X_door, if_neg (show ¬ ¬ (0 ≤ d ∧ d < M 3 2) by omega), if_neg h8_0, if_neg h8_1, if_pos h8_2] | rw [fd_X_door, if_neg (show ¬ ¬ (0 ≤ d ∧ d < M 3 2) by omega), if_neg h8_0, if_neg h8_1, if_neg h8_2, if_pos h8_3] | rw [fd_X_door, if_neg (show ¬ ¬ (0 ≤ d ∧ d < M 3 2) by omega), if_neg h8_0, if_neg h8_1, if_neg h8_2, if_neg h8_3, if_pos h8_4] | rw [fd_X_door, if_neg (show ¬ ¬ (0 ≤ d ∧ d < M 3 2) by omega), if_neg h8_0, if_neg h8_1, if_neg h8_2, if_neg h8_3, if_neg h8_4, if_pos h8_5] | rw [fd_X_door, if_neg (show ¬ ¬ (0 ≤ d ∧ d < M 3 2) by omega), if_neg h8_0, if_neg h8_1, if_neg h8_2, if_neg h8_3, if_neg h8_4, if_neg h8_5, if_pos h8_6] | rw [fd_X_door, if_neg (show ¬ ¬ (0 ≤ d ∧ d < M 3 2) by omega), if_neg h8_0, if_neg h8_1, if_neg h8_2, if_neg h8_3, if_neg h8_4, if_neg h8_5, if_neg h8_6, if_pos h8_7] | rw [fd_X_door, if_neg (show ¬ ¬ (0 ≤ d ∧ d < M 3 2) by omega), if_neg h8_0, if_neg h8_1, if_neg h8_2, if_neg h8_3, if_neg h8_4, if_neg h8_5, if_neg h8_6, if_neg h8_7, if_pos h8_8] | rw [fd_X_door, if_neg (show ¬ ¬ (0 ≤ d ∧ d < M 3 2) by omega), if_neg h8_0, if_neg h8_1, if_neg h8_2, if_neg h8_3, if_neg h8_4, if_neg h8_5, if_neg h8_6, if_neg h8_7, if_neg h8_8] | rw [fd_X_door, if_pos (show ¬ (0 ≤ d ∧ d < M 3 2) by omega)]
      · rfl
    by_cases h8_4 : w = 4
    · refine fd_u_jmp (C := fd_c5) (j := 33) (st' := []) rfl rfl (b := fd_rng w) (by rw [h8_4]; rfl) (fd_bR (by omega) (by omega)) ?_
      refine fd_u_blk 3 (C := fd_c5) (b := true) (L' := [fd_R 0, fd_I d, fd_I w]) (st' := [fd_I d, fd_R 72]) (M' := M) rfl rfl (j := 36) rfl (rfl) ?_
      refine fd_u_call (C := fd_c5) (d0 := 5) (mid := 153) (np := 2) (args := [fd_R 72, fd_I d]) (r1 := some (fd_I (fd_nb (fd_sw M (d).toNat)))) (M1 := M) (st' := [fd_I (fd_nb (fd_sw M (d).toNat))]) rfl rfl rfl rfl rfl rfl (rfl) (fd_s_seesWhom M hG d (by omega)) rfl (by omega) ?_
      have qn19 := fd_nb_cases (fd_sw_rng hG (d).toNat)
      refine fd_u_call (C := fd_c5) (d0 := 0) (mid := 45) (np := 1) (args := [fd_I (fd_nb (fd_sw M (d).toNat))]) (r1 := some (fd_I (if (fd_nb (fd_sw M (d).toNat)) = -1 then 0 else 2 ^ (fd_nb (fd_sw M (d).toNat)).toNat))) (M1 := M) (st' := [fd_I (if (fd_nb (fd_sw M (d).toNat)) = -1 then 0 else 2 ^ (fd_nb (fd_sw M (d).toNat)).toNat)]) rfl rfl rfl rfl rfl rfl (rfl) (fd_s_bitOf M (fd_nb (fd_sw M (d).toNat)) (by omega)) rfl (by omega) ?_
      refine fd_u_ret (C := fd_c5) (b := true) (r' := some (fd_I (if (fd_nb (fd_sw M (d).toNat)) = -1 then 0 else 2 ^ (fd_nb (fd_sw M (d).toNat)).toNat))) rfl rfl rfl (rfl) ?_ ?_
      · first | rw [fd_X_door, if_neg (show ¬ ¬ (0 ≤ d ∧ d < M 3 2) by omega), if_pos h8_0] | rw [fd_X_door, if_neg (show ¬ ¬ (0 ≤ d ∧ d < M 3 2) by omega), if_neg h8_0, if_pos h8_1] | rw [fd_X_door, if_neg (show ¬ ¬ (0 ≤ d ∧ d < M 3 2) by omega), if_neg h8_0, if_neg h8_1, if_pos h8_2] | rw [fd_X_door, if_neg (show ¬ ¬ (0 ≤ d ∧ d < M 3 2) by omega), if_neg h8_0, if_neg h8_1, if_neg h8_2, if_pos h8_3] | rw [fd_X_door, if_neg (show ¬ ¬ (0 ≤ d ∧ d < M 3 2) by omega), if_neg h8_0, if_neg h8_1, if_neg h8_2, if_neg h8_3, if_pos h8_4] | rw [fd_X_door, if_neg (show ¬ ¬ (0 ≤ d ∧ d < M 3 2) by omega), if_neg h8_0, if_neg h8_1, if_neg h8_2, if_neg h8_3, if_neg h8_4, if_pos h8_5] | rw [fd_X_door, if_neg (show ¬ ¬ (0 ≤ d ∧ d < M 3 2) by omega), if_neg h8_0, if_neg h8_1, if_neg h8_2, if_neg h8_3, if_neg h8_4, if_neg h8_5, if_pos h8_6] | rw [fd_X_door, if_neg (show ¬ ¬ (0 ≤ d ∧ d < M 3 2) by omega), if_neg h8_0, if_neg h8_1, if_neg h8_2, if_neg h8_3, if_neg h8_4, if_neg h8_5, if_neg h8_6, if_pos h8_7] | rw [fd_X_door, if_neg (show ¬ ¬ (0 ≤ d ∧ d < M 3 2) by omega), if_neg h8_0, if_neg h8_1, if_neg h8_2, if_neg h8_3, if_neg h8_4, if_neg h8_5, if_neg h8_6, if_neg h8_7, if_pos h8_8] | rw [fd_X_door, if_neg (show ¬ ¬ (0 ≤ d ∧ d < M 3 2) by omega), if_neg h8_0, if_neg h8_1, if_neg h8_2, if_neg h8_3, if_neg h8_4, if_neg h8_5, if_neg h8_6, if_neg h8_7, if_neg h8_8] | rw [fd_X_door, if_pos (show ¬ (0 ≤ d ∧ d < M 3 2) by omega)]
      · rfl
    by_cases h8_5 : w = 5
    · refine fd_u_jmp (C := fd_c5) (j := 39) (st' := []) rfl rfl (b := fd_rng w) (by rw [h8_5]; rfl) (fd_bR (by omega) (by omega)) ?_
      refine fd_u_blk 3 (C := fd_c5) (b := true) (L' := [fd_R 0, fd_I d, fd_I w]) (st' := [fd_I d, fd_R 72]) (M' := M) rfl rfl (j := 42) rfl (rfl) ?_
      refine fd_u_call (C := fd_c5) (d0 := 6) (mid := 156) (np := 2) (args := [fd_R 72, fd_I d]) (r1 := some (fd_I (fd_dueC M (d).toNat))) (M1 := M) (st' := [fd_I (fd_dueC M (d).toNat)]) rfl rfl rfl rfl rfl rfl (rfl) (fd_s_dueOf M hG d (by omega)) rfl (by omega) ?_
      have qo := fd_due_rng (wy := M 17) hG.1.2.2.2.1 (fd_sw M (d).toNat) (d).toNat
      refine fd_u_ret (C := fd_c5) (b := true) (r' := some (fd_I (fd_dueC M (d).toNat))) rfl rfl rfl (rfl) ?_ ?_
      · first | rw [fd_X_door, if_neg (show ¬ ¬ (0 ≤ d ∧ d < M 3 2) by omega), if_pos h8_0] | rw [fd_X_door, if_neg (show ¬ ¬ (0 ≤ d ∧ d < M 3 2) by omega), if_neg h8_0, if_pos h8_1] | rw [fd_X_door, if_neg (show ¬ ¬ (0 ≤ d ∧ d < M 3 2) by omega), if_neg h8_0, if_neg h8_1, if_pos h8_2] | rw [fd_X_door, if_neg (show ¬ ¬ (0 ≤ d ∧ d < M 3 2) by omega), if_neg h8_0, if_neg h8_1, if_neg h8_2, if_pos h8_3] | rw [fd_X_door, if_neg (show ¬ ¬ (0 ≤ d ∧ d < M 3 2) by omega), if_neg h8_0, if_neg h8_1, if_neg h8_2, if_neg h8_3, if_pos h8_4] | rw [fd_X_door, if_neg (show ¬ ¬ (0 ≤ d ∧ d < M 3 2) by omega), if_neg h8_0, if_neg h8_1, if_neg h8_2, if_neg h8_3, if_neg h8_4, if_pos h8_5] | rw [fd_X_door, if_neg (show ¬ ¬ (0 ≤ d ∧ d < M 3 2) by omega), if_neg h8_0, if_neg h8_1, if_neg h8_2, if_neg h8_3, if_neg h8_4, if_neg h8_5, if_pos h8_6] | rw [fd_X_door, if_neg (show ¬ ¬ (0 ≤ d ∧ d < M 3 2) by omega), if_neg h8_0, if_neg h8_1, if_neg h8_2, if_neg h8_3, if_neg h8_4, if_neg h8_5, if_neg h8_6, if_pos h8_7] | rw [fd_X_door, if_neg (show ¬ ¬ (0 ≤ d ∧ d < M 3 2) by omega), if_neg h8_0, if_neg h8_1, if_neg h8_2, if_neg h8_3, if_neg h8_4, if_neg h8_5, if_neg h8_6, if_neg h8_7, if_pos h8_8] | rw [fd_X_door, if_neg (show ¬ ¬ (0 ≤ d ∧ d < M 3 2) by omega), if_neg h8_0, if_neg h8_1, if_neg h8_2, if_neg h8_3, if_neg h8_4, if_neg h8_5, if_neg h8_6, if_neg h8_7, if_neg h8_8] | rw [fd_X_door, if_pos (show ¬ (0 ≤ d ∧ d < M 3 2) by omega)]
      · rfl
    by_cases h8_6 : w = 6
    · refine fd_u_jmp (C := fd_c5) (j := 44) (st' := []) rfl rfl (b := fd_rng w) (by rw [h8_6]; rfl) (fd_bR (by omega) (by omega)) ?_
      refine fd_u_blk 8 (C := fd_c5) (b := (fd_inb d 6 && true)) (L' := [fd_R 0, fd_I d, fd_I w]) (st' := [fd_I (M 17 (d).toNat), fd_I d, fd_R 72]) (M' := M) rfl rfl (j := 52) rfl (fd_bA (fd_bI (by omega) (by omega)) (rfl)) ?_
      refine fd_u_call (C := fd_c5) (d0 := 4) (mid := 159) (np := 3) (args := [fd_R 72, fd_I d, fd_I (M 17 (d).toNat)]) (r1 := some (fd_I (fd_bi (fd_cvC M (M 15 (d).toNat + fd_sx (M 17 (d).toNat)) (M 16 (d).toNat + fd_sy (M 17 (d).toNat)) = 0)))) (M1 := M) (st' := [fd_I (fd_bi (fd_cvC M (M 15 (d).toNat + fd_sx (M 17 (d).toNat)) (M 16 (d).toNat + fd_sy (M 17 (d).toNat)) = 0))]) rfl rfl rfl rfl rfl rfl (rfl) (fd_s_hasWayIn M hG d (by omega) (M 17 (d).toNat) (by omega)) rfl (by omega) ?_
      refine fd_u_call (C := fd_c5) (d0 := 0) (mid := 43) (np := 1) (args := [fd_I (fd_bi (fd_cvC M (M 15 (d).toNat + fd_sx (M 17 (d).toNat)) (M 16 (d).toNat + fd_sy (M 17 (d).toNat)) = 0))]) (r1 := some (fd_I (fd_bi (fd_cvC M (M 15 (d).toNat + fd_sx (M 17 (d).toNat)) (M 16 (d).toNat + fd_sy (M 17 (d).toNat)) = 0)))) (M1 := M) (st' := [fd_I (fd_bi (fd_cvC M (M 15 (d).toNat + fd_sx (M 17 (d).toNat)) (M 16 (d).toNat + fd_sy (M 17 (d).toNat)) = 0))]) rfl rfl rfl rfl rfl rfl (rfl) (fd_s_flag M (fd_bi (fd_cvC M (M 15 (d).toNat + fd_sx (M 17 (d).toNat)) (M 16 (d).toNat + fd_sy (M 17 (d).toNat)) = 0)) (fd_bi_rng _)) rfl (by omega) ?_
      refine fd_u_ret (C := fd_c5) (b := true) (r' := some (fd_I (fd_bi (fd_cvC M (M 15 (d).toNat + fd_sx (M 17 (d).toNat)) (M 16 (d).toNat + fd_sy (M 17 (d).toNat)) = 0)))) rfl rfl rfl (rfl) ?_ ?_
      · first | rw [fd_X_door, if_neg (show ¬ ¬ (0 ≤ d ∧ d < M 3 2) by omega), if_pos h8_0] | rw [fd_X_door, if_neg (show ¬ ¬ (0 ≤ d ∧ d < M 3 2) by omega), if_neg h8_0, if_pos h8_1] | rw [fd_X_door, if_neg (show ¬ ¬ (0 ≤ d ∧ d < M 3 2) by omega), if_neg h8_0, if_neg h8_1, if_pos h8_2] | rw [fd_X_door, if_neg (show ¬ ¬ (0 ≤ d ∧ d < M 3 2) by omega), if_neg h8_0, if_neg h8_1, if_neg h8_2, if_pos h8_3] | rw [fd_X_door, if_neg (show ¬ ¬ (0 ≤ d ∧ d < M 3 2) by omega), if_neg h8_0, if_neg h8_1, if_neg h8_2, if_neg h8_3, if_pos h8_4] | rw [fd_X_door, if_neg (show ¬ ¬ (0 ≤ d ∧ d < M 3 2) by omega), if_neg h8_0, if_neg h8_1, if_neg h8_2, if_neg h8_3, if_neg h8_4, if_pos h8_5] | rw [fd_X_door, if_neg (show ¬ ¬ (0 ≤ d ∧ d < M 3 2) by omega), if_neg h8_0, if_neg h8_1, if_neg h8_2, if_neg h8_3, if_neg h8_4, if_neg h8_5, if_pos h8_6] | rw [fd_X_door, if_neg (show ¬ ¬ (0 ≤ d ∧ d < M 3 2) by omega), if_neg h8_0, if_neg h8_1, if_neg h8_2, if_neg h8_3, if_neg h8_4, if_neg h8_5, if_neg h8_6, if_pos h8_7] | rw [fd_X_door, if_neg (show ¬ ¬ (0 ≤ d ∧ d < M 3 2) by omega), if_neg h8_0, if_neg h8_1, if_neg h8_2, if_neg h8_3, if_neg h8_4, if_neg h8_5, if_neg h8_6, if_neg h8_7, if_pos h8_8] | rw [fd_X_door, if_neg (show ¬ ¬ (0 ≤ d ∧ d < M 3 2) by omega), if_neg h8_0, if_neg h8_1, if_neg h8_2, if_neg h8_3, if_neg h8_4, if_neg h8_5, if_neg h8_6, if_neg h8_7, if_neg h8_8] | rw [fd_X_door, if_pos (show ¬ (0 ≤ d ∧ d < M 3 2) by omega)]
      · rfl
    by_cases h8_7 : w = 7
    · refine fd_u_jmp (C := fd_c5) (j := 55) (st' := []) rfl rfl (b := fd_rng w) (by rw [h8_7]; rfl) (fd_bR (by omega) (by omega)) ?_
      refine fd_u_blk 3 (C := fd_c5) (b := true) (L' := [fd_R 0, fd_I d, fd_I w]) (st' := [fd_I d, fd_R 72]) (M' := M) rfl rfl (j := 58) rfl (rfl) ?_
      refine fd_u_call (C := fd_c5) (d0 := 6) (mid := 154) (np := 2) (args := [fd_R 72, fd_I d]) (r1 := some (fd_I (fd_bits (fun j => fd_nb (fd_sw M j) = d) (M 3 2).toNat))) (M1 := M) (st' := [fd_I (fd_bits (fun j => fd_nb (fd_sw M j) = d) (M 3 2).toNat)]) rfl rfl rfl rfl rfl rfl (rfl) (fd_s_seenBy M hG d (by omega)) rfl (by omega) ?_
      refine fd_u_ret (C := fd_c5) (b := true) (r' := some (fd_I (fd_bits (fun j => fd_nb (fd_sw M j) = d) (M 3 2).toNat))) rfl rfl rfl (rfl) ?_ ?_
      · first | rw [fd_X_door, if_neg (show ¬ ¬ (0 ≤ d ∧ d < M 3 2) by omega), if_pos h8_0] | rw [fd_X_door, if_neg (show ¬ ¬ (0 ≤ d ∧ d < M 3 2) by omega), if_neg h8_0, if_pos h8_1] | rw [fd_X_door, if_neg (show ¬ ¬ (0 ≤ d ∧ d < M 3 2) by omega), if_neg h8_0, if_neg h8_1, if_pos h8_2] | rw [fd_X_door, if_neg (show ¬ ¬ (0 ≤ d ∧ d < M 3 2) by omega), if_neg h8_0, if_neg h8_1, if_neg h8_2, if_pos h8_3] | rw [fd_X_door, if_neg (show ¬ ¬ (0 ≤ d ∧ d < M 3 2) by omega), if_neg h8_0, if_neg h8_1, if_neg h8_2, if_neg h8_3, if_pos h8_4] | rw [fd_X_door, if_neg (show ¬ ¬ (0 ≤ d ∧ d < M 3 2) by omega), if_neg h8_0, if_neg h8_1, if_neg h8_2, if_neg h8_3, if_neg h8_4, if_pos h8_5] | rw [fd_X_door, if_neg (show ¬ ¬ (0 ≤ d ∧ d < M 3 2) by omega), if_neg h8_0, if_neg h8_1, if_neg h8_2, if_neg h8_3, if_neg h8_4, if_neg h8_5, if_pos h8_6] | rw [fd_X_door, if_neg (show ¬ ¬ (0 ≤ d ∧ d < M 3 2) by omega), if_neg h8_0, if_neg h8_1, if_neg h8_2, if_neg h8_3, if_neg h8_4, if_neg h8_5, if_neg h8_6, if_pos h8_7] | rw [fd_X_door, if_neg (show ¬ ¬ (0 ≤ d ∧ d < M 3 2) by omega), if_neg h8_0, if_neg h8_1, if_neg h8_2, if_neg h8_3, if_neg h8_4, if_neg h8_5, if_neg h8_6, if_neg h8_7, if_pos h8_8] | rw [fd_X_door, if_neg (show ¬ ¬ (0 ≤ d ∧ d < M 3 2) by omega), if_neg h8_0, if_neg h8_1, if_neg h8_2, if_neg h8_3, if_neg h8_4, if_neg h8_5, if_neg h8_6, if_neg h8_7, if_neg h8_8] | rw [fd_X_door, if_pos (show ¬ (0 ≤ d ∧ d < M 3 2) by omega)]
      · rfl
    by_cases h8_8 : w = 8
    · refine fd_u_jmp (C := fd_c5) (j := 60) (st' := []) rfl rfl (b := fd_rng w) (by rw [h8_8]; rfl) (fd_bR (by omega) (by omega)) ?_
      refine fd_u_blk 5 (C := fd_c5) (b := (fd_inb d 6 && true)) (L' := [fd_R 0, fd_I d, fd_I w]) (st' := [fd_I (M 18 (d).toNat)]) (M' := M) rfl rfl (j := 65) rfl (fd_bA (fd_bI (by omega) (by omega)) (rfl)) ?_
      refine fd_u_ret (C := fd_c5) (b := true) (r' := some (fd_I (M 18 (d).toNat))) rfl rfl rfl (rfl) ?_ ?_
      · first | rw [fd_X_door, if_neg (show ¬ ¬ (0 ≤ d ∧ d < M 3 2) by omega), if_pos h8_0] | rw [fd_X_door, if_neg (show ¬ ¬ (0 ≤ d ∧ d < M 3 2) by omega), if_neg h8_0, if_pos h8_1] | rw [fd_X_door, if_neg (show ¬ ¬ (0 ≤ d ∧ d < M 3 2) by omega), if_neg h8_0, if_neg h8_1, if_pos h8_2] | rw [fd_X_door, if_neg (show ¬ ¬ (0 ≤ d ∧ d < M 3 2) by omega), if_neg h8_0, if_neg h8_1, if_neg h8_2, if_pos h8_3] | rw [fd_X_door, if_neg (show ¬ ¬ (0 ≤ d ∧ d < M 3 2) by omega), if_neg h8_0, if_neg h8_1, if_neg h8_2, if_neg h8_3, if_pos h8_4] | rw [fd_X_door, if_neg (show ¬ ¬ (0 ≤ d ∧ d < M 3 2) by omega), if_neg h8_0, if_neg h8_1, if_neg h8_2, if_neg h8_3, if_neg h8_4, if_pos h8_5] | rw [fd_X_door, if_neg (show ¬ ¬ (0 ≤ d ∧ d < M 3 2) by omega), if_neg h8_0, if_neg h8_1, if_neg h8_2, if_neg h8_3, if_neg h8_4, if_neg h8_5, if_pos h8_6] | rw [fd_X_door, if_neg (show ¬ ¬ (0 ≤ d ∧ d < M 3 2) by omega), if_neg h8_0, if_neg h8_1, if_neg h8_2, if_neg h8_3, if_neg h8_4, if_neg h8_5, if_neg h8_6, if_pos h8_7] | rw [fd_X_door, if_neg (show ¬ ¬ (0 ≤ d ∧ d < M 3 2) by omega), if_neg h8_0, if_neg h8_1, if_neg h8_2, if_neg h8_3, if_neg h8_4, if_neg h8_5, if_neg h8_6, if_neg h8_7, if_pos h8_8] | rw [fd_X_door, if_neg (show ¬ ¬ (0 ≤ d ∧ d < M 3 2) by omega), if_neg h8_0, if_neg h8_1, if_neg h8_2, if_neg h8_3, if_neg h8_4, if_neg h8_5, if_neg h8_6, if_neg h8_7, if_neg h8_8] | rw [fd_X_door, if_pos (show ¬ (0 ≤ d ∧ d < M 3 2) by omega)]
      · rfl
    refine fd_u_jmp (C := fd_c5) (j := 66) (st' := []) rfl rfl (b := fd_rng w) (fd_sw_out (by simp only [fd_a, List.getD_cons_succ, List.getD_cons_zero, List.length_cons, List.length_nil]; omega)) (fd_bR (by omega) (by omega)) ?_
    refine fd_u_blk 1 (C := fd_c5) (b := true) (L' := [fd_R 0, fd_I d, fd_I w]) (st' := [fd_I (-1)]) (M' := M) rfl rfl (j := 67) rfl (rfl) ?_
    refine fd_u_ret (C := fd_c5) (b := true) (r' := some (fd_I (-1))) rfl rfl rfl (rfl) ?_ ?_
    · first | rw [fd_X_door, if_neg (show ¬ ¬ (0 ≤ d ∧ d < M 3 2) by omega), if_pos h8_0] | rw [fd_X_door, if_neg (show ¬ ¬ (0 ≤ d ∧ d < M 3 2) by omega), if_neg h8_0, if_pos h8_1] | rw [fd_X_door, if_neg (show ¬ ¬ (0 ≤ d ∧ d < M 3 2) by omega), if_neg h8_0, if_neg h8_1, if_pos h8_2] | rw [fd_X_door, if_neg (show ¬ ¬ (0 ≤ d ∧ d < M 3 2) by omega), if_neg h8_0, if_neg h8_1, if_neg h8_2, if_pos h8_3] | rw [fd_X_door, if_neg (show ¬ ¬ (0 ≤ d ∧ d < M 3 2) by omega), if_neg h8_0, if_neg h8_1, if_neg h8_2, if_neg h8_3, if_pos h8_4] | rw [fd_X_door, if_neg (show ¬ ¬ (0 ≤ d ∧ d < M 3 2) by omega), if_neg h8_0, if_neg h8_1, if_neg h8_2, if_neg h8_3, if_neg h8_4, if_pos h8_5] | rw [fd_X_door, if_neg (show ¬ ¬ (0 ≤ d ∧ d < M 3 2) by omega), if_neg h8_0, if_neg h8_1, if_neg h8_2, if_neg h8_3, if_neg h8_4, if_neg h8_5, if_pos h8_6] | rw [fd_X_door, if_neg (show ¬ ¬ (0 ≤ d ∧ d < M 3 2) by omega), if_neg h8_0, if_neg h8_1, if_neg h8_2, if_neg h8_3, if_neg h8_4, if_neg h8_5, if_neg h8_6, if_pos h8_7] | rw [fd_X_door, if_neg (show ¬ ¬ (0 ≤ d ∧ d < M 3 2) by omega), if_neg h8_0, if_neg h8_1, if_neg h8_2, if_neg h8_3, if_neg h8_4, if_neg h8_5, if_neg h8_6, if_neg h8_7, if_pos h8_8] | rw [fd_X_door, if_neg (show ¬ ¬ (0 ≤ d ∧ d < M 3 2) by omega), if_neg h8_0, if_neg h8_1, if_neg h8_2, if_neg h8_3, if_neg h8_4, if_neg h8_5, if_neg h8_6, if_neg h8_7, if_neg h8_8] | rw [fd_X_door, if_pos (show ¬ (0 ≤ d ∧ d < M 3 2) by omega)]
    · rfl
  · have h4 := fd_biF2  h4
    refine fd_u_blk 1 (C := fd_c5) (b := true) (L' := [fd_R 0, fd_I d, fd_I w]) (st' := [fd_I (-1)]) (M' := M) rfl rfl (j := 6) rfl (rfl) ?_
    refine fd_u_ret (C := fd_c5) (b := true) (r' := some (fd_I (-1))) rfl rfl rfl (rfl) ?_ ?_
    · first | rw [fd_X_door, if_neg (show ¬ ¬ (0 ≤ d ∧ d < M 3 2) by omega), if_pos h8_0] | rw [fd_X_door, if_neg (show ¬ ¬ (0 ≤ d ∧ d < M 3 2) by omega), if_neg h8_0, if_pos h8_1] | rw [fd_X_door, if_neg (show ¬ ¬ (0 ≤ d ∧ d < M 3 2) by omega), if_neg h8_0, if_neg h8_1, if_pos h8_2] | rw [fd_X_door, if_neg (show ¬ ¬ (0 ≤ d ∧ d < M 3 2) by omega), if_neg h8_0, if_neg h8_1, if_neg h8_2, if_pos h8_3] | rw [fd_X_door, if_neg (show ¬ ¬ (0 ≤ d ∧ d < M 3 2) by omega), if_neg h8_0, if_neg h8_1, if_neg h8_2, if_neg h8_3, if_pos h8_4] | rw [fd_X_door, if_neg (show ¬ ¬ (0 ≤ d ∧ d < M 3 2) by omega), if_neg h8_0, if_neg h8_1, if_neg h8_2, if_neg h8_3, if_neg h8_4, if_pos h8_5] | rw [fd_X_door, if_neg (show ¬ ¬ (0 ≤ d ∧ d < M 3 2) by omega), if_neg h8_0, if_neg h8_1, if_neg h8_2, if_neg h8_3, if_neg h8_4, if_neg h8_5, if_pos h8_6] | rw [fd_X_door, if_neg (show ¬ ¬ (0 ≤ d ∧ d < M 3 2) by omega), if_neg h8_0, if_neg h8_1, if_neg h8_2, if_neg h8_3, if_neg h8_4, if_neg h8_5, if_neg h8_6, if_pos h8_7] | rw [fd_X_door, if_neg (show ¬ ¬ (0 ≤ d ∧ d < M 3 2) by omega), if_neg h8_0, if_neg h8_1, if_neg h8_2, if_neg h8_3, if_neg h8_4, if_neg h8_5, if_neg h8_6, if_neg h8_7, if_pos h8_8] | rw [fd_X_door, if_neg (show ¬ ¬ (0 ≤ d ∧ d < M 3 2) by omega), if_neg h8_0, if_neg h8_1, if_neg h8_2, if_neg h8_3, if_neg h8_4, if_neg h8_5, if_neg h8_6, if_neg h8_7, if_neg h8_8] | rw [fd_X_door, if_pos (show ¬ (0 ≤ d ∧ d < M 3 2) by omega)]
    · rfl

theorem fd_x_now (M : fd_M) (hG : fd_CG M) (w : Int) (hw : -2147483648 ≤ w ∧ w < 2147483648) : fd_call 8 14 [fd_R 0, fd_I w] M (some (fd_I (fd_X_now M w))) M := by
  refine fd_u_in (L := [fd_R 0, fd_I w]) rfl ?_
  obtain ⟨g0, g1, g2, g3, g4, g5⟩ := hG.1
  obtain ⟨s1, s2, s3, s4, s5, s6, s7, s8⟩ := hG.2
  refine fd_u_blk 1 (C := fd_c14) (b := true) (L' := [fd_R 0, fd_I w]) (st' := [fd_I w]) (M' := M) rfl rfl (j := 1) rfl (rfl) ?_
  by_cases h1_0 : w = 0
  · refine fd_u_jmp (C := fd_c14) (j := 2) (st' := []) rfl rfl (b := fd_rng w) (by rw [h1_0]; rfl) (fd_bR (by omega) (by omega)) ?_
    refine fd_u_blk 2 (C := fd_c14) (b := true) (L' := [fd_R 0, fd_I w]) (st' := [fd_R 72]) (M' := M) rfl rfl (j := 4) rfl (rfl) ?_
    refine fd_u_call (C := fd_c14) (d0 := 7) (mid := 157) (np := 1) (args := [fd_R 72]) (r1 := some (fd_I (fd_sum (fd_dueC M) (M 3 2).toNat))) (M1 := M) (st' := [fd_I (fd_sum (fd_dueC M) (M 3 2).toNat)]) rfl rfl rfl rfl rfl rfl (rfl) (fd_s_dueOfAll M hG) rfl (by omega) ?_
    refine fd_u_ret (C := fd_c14) (b := true) (r' := some (fd_I (fd_sum (fd_dueC M) (M 3 2).toNat))) rfl rfl rfl (rfl) ?_ ?_
    · first | rw [fd_X_now, if_pos h1_0] | rw [fd_X_now, if_neg h1_0, if_pos h1_1] | rw [fd_X_now, if_neg h1_0, if_neg h1_1, if_pos h1_2] | rw [fd_X_now, if_neg h1_0, if_neg h1_1, if_neg h1_2, if_pos h1_3] | rw [fd_X_now, if_neg h1_0, if_neg h1_1, if_neg h1_2, if_neg h1_3, if_pos h1_4] | rw [fd_X_now, if_neg h1_0, if_neg h1_1, if_neg h1_2, if_neg h1_3, if_neg h1_4, if_pos h1_5] | rw [fd_X_now, if_neg h1_0, if_neg h1_1, if_neg h1_2, if_neg h1_3, if_neg h1_4, if_neg h1_5, if_pos h1_6] | rw [fd_X_now, if_neg h1_0, if_neg h1_1, if_neg h1_2, if_neg h1_3, if_neg h1_4, if_neg h1_5, if_neg h1_6, if_pos h1_7] | rw [fd_X_now, if_neg h1_0, if_neg h1_1, if_neg h1_2, if_neg h1_3, if_neg h1_4, if_neg h1_5, if_neg h1_6, if_neg h1_7]
    · rfl
  by_cases h1_1 : w = 1
  · refine fd_u_jmp (C := fd_c14) (j := 6) (st' := []) rfl rfl (b := fd_rng w) (by rw [h1_1]; rfl) (fd_bR (by omega) (by omega)) ?_
    refine fd_u_blk 3 (C := fd_c14) (b := true) (L' := [fd_R 0, fd_I w]) (st' := [fd_I (M 14 4)]) (M' := M) rfl rfl (j := 9) rfl (rfl) ?_
    refine fd_u_ret (C := fd_c14) (b := true) (r' := some (fd_I (M 14 4))) rfl rfl rfl (rfl) ?_ ?_
    · first | rw [fd_X_now, if_pos h1_0] | rw [fd_X_now, if_neg h1_0, if_pos h1_1] | rw [fd_X_now, if_neg h1_0, if_neg h1_1, if_pos h1_2] | rw [fd_X_now, if_neg h1_0, if_neg h1_1, if_neg h1_2, if_pos h1_3] | rw [fd_X_now, if_neg h1_0, if_neg h1_1, if_neg h1_2, if_neg h1_3, if_pos h1_4] | rw [fd_X_now, if_neg h1_0, if_neg h1_1, if_neg h1_2, if_neg h1_3, if_neg h1_4, if_pos h1_5] | rw [fd_X_now, if_neg h1_0, if_neg h1_1, if_neg h1_2, if_neg h1_3, if_neg h1_4, if_neg h1_5, if_pos h1_6] | rw [fd_X_now, if_neg h1_0, if_neg h1_1, if_neg h1_2, if_neg h1_3, if_neg h1_4, if_neg h1_5, if_neg h1_6, if_pos h1_7] | rw [fd_X_now, if_neg h1_0, if_neg h1_1, if_neg h1_2, if_neg h1_3, if_neg h1_4, if_neg h1_5, if_neg h1_6, if_neg h1_7]
    · rfl
  by_cases h1_2 : w = 2
  · refine fd_u_jmp (C := fd_c14) (j := 10) (st' := []) rfl rfl (b := fd_rng w) (by rw [h1_2]; rfl) (fd_bR (by omega) (by omega)) ?_
    refine fd_u_blk 2 (C := fd_c14) (b := true) (L' := [fd_R 0, fd_I w]) (st' := [fd_R 72]) (M' := M) rfl rfl (j := 12) rfl (rfl) ?_
    refine fd_u_call (C := fd_c14) (d0 := 6) (mid := 160) (np := 1) (args := [fd_R 72]) (r1 := some (fd_I (fd_bits (fun j => fd_cvC M (M 15 j + fd_sx (M 17 j)) (M 16 j + fd_sy (M 17 j)) = 0) (M 3 2).toNat))) (M1 := M) (st' := [fd_I (fd_bits (fun j => fd_cvC M (M 15 j + fd_sx (M 17 j)) (M 16 j + fd_sy (M 17 j)) = 0) (M 3 2).toNat)]) rfl rfl rfl rfl rfl rfl (rfl) (fd_s_whoHasWayIn M hG) rfl (by omega) ?_
    refine fd_u_ret (C := fd_c14) (b := true) (r' := some (fd_I (fd_bits (fun j => fd_cvC M (M 15 j + fd_sx (M 17 j)) (M 16 j + fd_sy (M 17 j)) = 0) (M 3 2).toNat))) rfl rfl rfl (rfl) ?_ ?_
    · first | rw [fd_X_now, if_pos h1_0] | rw [fd_X_now, if_neg h1_0, if_pos h1_1] | rw [fd_X_now, if_neg h1_0, if_neg h1_1, if_pos h1_2] | rw [fd_X_now, if_neg h1_0, if_neg h1_1, if_neg h1_2, if_pos h1_3] | rw [fd_X_now, if_neg h1_0, if_neg h1_1, if_neg h1_2, if_neg h1_3, if_pos h1_4] | rw [fd_X_now, if_neg h1_0, if_neg h1_1, if_neg h1_2, if_neg h1_3, if_neg h1_4, if_pos h1_5] | rw [fd_X_now, if_neg h1_0, if_neg h1_1, if_neg h1_2, if_neg h1_3, if_neg h1_4, if_neg h1_5, if_pos h1_6] | rw [fd_X_now, if_neg h1_0, if_neg h1_1, if_neg h1_2, if_neg h1_3, if_neg h1_4, if_neg h1_5, if_neg h1_6, if_pos h1_7] | rw [fd_X_now, if_neg h1_0, if_neg h1_1, if_neg h1_2, if_neg h1_3, if_neg h1_4, if_neg h1_5, if_neg h1_6, if_neg h1_7]
    · rfl
  by_cases h1_3 : w = 3
  · refine fd_u_jmp (C := fd_c14) (j := 14) (st' := []) rfl rfl (b := fd_rng w) (by rw [h1_3]; rfl) (fd_bR (by omega) (by omega)) ?_
    refine fd_u_blk 2 (C := fd_c14) (b := true) (L' := [fd_R 0, fd_I w]) (st' := [fd_R 72]) (M' := M) rfl rfl (j := 16) rfl (rfl) ?_
    refine fd_u_call (C := fd_c14) (d0 := 6) (mid := 158) (np := 1) (args := [fd_R 72]) (r1 := some (fd_I (fd_sum (fun j => if fd_nb (fd_sw M j) > j ∧ fd_nb (fd_sw M (fd_nb (fd_sw M j)).toNat) = j then 1 else 0) (M 3 2).toNat))) (M1 := M) (st' := [fd_I (fd_sum (fun j => if fd_nb (fd_sw M j) > j ∧ fd_nb (fd_sw M (fd_nb (fd_sw M j)).toNat) = j then 1 else 0) (M 3 2).toNat)]) rfl rfl rfl rfl rfl rfl (rfl) (fd_s_pairs M hG) rfl (by omega) ?_
    refine fd_u_ret (C := fd_c14) (b := true) (r' := some (fd_I (fd_sum (fun j => if fd_nb (fd_sw M j) > j ∧ fd_nb (fd_sw M (fd_nb (fd_sw M j)).toNat) = j then 1 else 0) (M 3 2).toNat))) rfl rfl rfl (rfl) ?_ ?_
    · first | rw [fd_X_now, if_pos h1_0] | rw [fd_X_now, if_neg h1_0, if_pos h1_1] | rw [fd_X_now, if_neg h1_0, if_neg h1_1, if_pos h1_2] | rw [fd_X_now, if_neg h1_0, if_neg h1_1, if_neg h1_2, if_pos h1_3] | rw [fd_X_now, if_neg h1_0, if_neg h1_1, if_neg h1_2, if_neg h1_3, if_pos h1_4] | rw [fd_X_now, if_neg h1_0, if_neg h1_1, if_neg h1_2, if_neg h1_3, if_neg h1_4, if_pos h1_5] | rw [fd_X_now, if_neg h1_0, if_neg h1_1, if_neg h1_2, if_neg h1_3, if_neg h1_4, if_neg h1_5, if_pos h1_6] | rw [fd_X_now, if_neg h1_0, if_neg h1_1, if_neg h1_2, if_neg h1_3, if_neg h1_4, if_neg h1_5, if_neg h1_6, if_pos h1_7] | rw [fd_X_now, if_neg h1_0, if_neg h1_1, if_neg h1_2, if_neg h1_3, if_neg h1_4, if_neg h1_5, if_neg h1_6, if_neg h1_7]
    · rfl
  by_cases h1_4 : w = 4
  · refine fd_u_jmp (C := fd_c14) (j := 18) (st' := []) rfl rfl (b := fd_rng w) (by rw [h1_4]; rfl) (fd_bR (by omega) (by omega)) ?_
    refine fd_u_blk 4 (C := fd_c14) (b := true) (L' := [fd_R 0, fd_I w]) (st' := [fd_I (fd_lbc (M 14 5))]) (M' := M) rfl rfl (j := 22) rfl (rfl) ?_
    refine fd_u_ret (C := fd_c14) (b := true) (r' := some (fd_I (fd_lbc (M 14 5)))) rfl rfl rfl (rfl) ?_ ?_
    · first | rw [fd_X_now, if_pos h1_0] | rw [fd_X_now, if_neg h1_0, if_pos h1_1] | rw [fd_X_now, if_neg h1_0, if_neg h1_1, if_pos h1_2] | rw [fd_X_now, if_neg h1_0, if_neg h1_1, if_neg h1_2, if_pos h1_3] | rw [fd_X_now, if_neg h1_0, if_neg h1_1, if_neg h1_2, if_neg h1_3, if_pos h1_4] | rw [fd_X_now, if_neg h1_0, if_neg h1_1, if_neg h1_2, if_neg h1_3, if_neg h1_4, if_pos h1_5] | rw [fd_X_now, if_neg h1_0, if_neg h1_1, if_neg h1_2, if_neg h1_3, if_neg h1_4, if_neg h1_5, if_pos h1_6] | rw [fd_X_now, if_neg h1_0, if_neg h1_1, if_neg h1_2, if_neg h1_3, if_neg h1_4, if_neg h1_5, if_neg h1_6, if_pos h1_7] | rw [fd_X_now, if_neg h1_0, if_neg h1_1, if_neg h1_2, if_neg h1_3, if_neg h1_4, if_neg h1_5, if_neg h1_6, if_neg h1_7]
    · rfl
  by_cases h1_5 : w = 5
  · refine fd_u_jmp (C := fd_c14) (j := 23) (st' := []) rfl rfl (b := fd_rng w) (by rw [h1_5]; rfl) (fd_bR (by omega) (by omega)) ?_
    refine fd_u_blk 3 (C := fd_c14) (b := true) (L' := [fd_R 0, fd_I w]) (st' := [fd_I (M 14 6)]) (M' := M) rfl rfl (j := 26) rfl (rfl) ?_
    refine fd_u_call (C := fd_c14) (d0 := 0) (mid := 43) (np := 1) (args := [fd_I (M 14 6)]) (r1 := some (fd_I (M 14 6))) (M1 := M) (st' := [fd_I (M 14 6)]) rfl rfl rfl rfl rfl rfl (rfl) (fd_s_flag M (M 14 6) (by omega)) rfl (by omega) ?_
    refine fd_u_ret (C := fd_c14) (b := true) (r' := some (fd_I (M 14 6))) rfl rfl rfl (rfl) ?_ ?_
    · first | rw [fd_X_now, if_pos h1_0] | rw [fd_X_now, if_neg h1_0, if_pos h1_1] | rw [fd_X_now, if_neg h1_0, if_neg h1_1, if_pos h1_2] | rw [fd_X_now, if_neg h1_0, if_neg h1_1, if_neg h1_2, if_pos h1_3] | rw [fd_X_now, if_neg h1_0, if_neg h1_1, if_neg h1_2, if_neg h1_3, if_pos h1_4] | rw [fd_X_now, if_neg h1_0, if_neg h1_1, if_neg h1_2, if_neg h1_3, if_neg h1_4, if_pos h1_5] | rw [fd_X_now, if_neg h1_0, if_neg h1_1, if_neg h1_2, if_neg h1_3, if_neg h1_4, if_neg h1_5, if_pos h1_6] | rw [fd_X_now, if_neg h1_0, if_neg h1_1, if_neg h1_2, if_neg h1_3, if_neg h1_4, if_neg h1_5, if_neg h1_6, if_pos h1_7] | rw [fd_X_now, if_neg h1_0, if_neg h1_1, if_neg h1_2, if_neg h1_3, if_neg h1_4, if_neg h1_5, if_neg h1_6, if_neg h1_7]
    · rfl
  by_cases h1_6 : w = 6
  · refine fd_u_jmp (C := fd_c14) (j := 28) (st' := []) rfl rfl (b := fd_rng w) (by rw [h1_6]; rfl) (fd_bR (by omega) (by omega)) ?_
    refine fd_u_blk 3 (C := fd_c14) (b := true) (L' := [fd_R 0, fd_I w]) (st' := [fd_I (M 14 7)]) (M' := M) rfl rfl (j := 31) rfl (rfl) ?_
    refine fd_u_call (C := fd_c14) (d0 := 0) (mid := 43) (np := 1) (args := [fd_I (M 14 7)]) (r1 := some (fd_I (M 14 7))) (M1 := M) (st' := [fd_I (M 14 7)]) rfl rfl rfl rfl rfl rfl (rfl) (fd_s_flag M (M 14 7) (by omega)) rfl (by omega) ?_
    refine fd_u_ret (C := fd_c14) (b := true) (r' := some (fd_I (M 14 7))) rfl rfl rfl (rfl) ?_ ?_
    · first | rw [fd_X_now, if_pos h1_0] | rw [fd_X_now, if_neg h1_0, if_pos h1_1] | rw [fd_X_now, if_neg h1_0, if_neg h1_1, if_pos h1_2] | rw [fd_X_now, if_neg h1_0, if_neg h1_1, if_neg h1_2, if_pos h1_3] | rw [fd_X_now, if_neg h1_0, if_neg h1_1, if_neg h1_2, if_neg h1_3, if_pos h1_4] | rw [fd_X_now, if_neg h1_0, if_neg h1_1, if_neg h1_2, if_neg h1_3, if_neg h1_4, if_pos h1_5] | rw [fd_X_now, if_neg h1_0, if_neg h1_1, if_neg h1_2, if_neg h1_3, if_neg h1_4, if_neg h1_5, if_pos h1_6] | rw [fd_X_now, if_neg h1_0, if_neg h1_1, if_neg h1_2, if_neg h1_3, if_neg h1_4, if_neg h1_5, if_neg h1_6, if_pos h1_7] | rw [fd_X_now, if_neg h1_0, if_neg h1_1, if_neg h1_2, if_neg h1_3, if_neg h1_4, if_neg h1_5, if_neg h1_6, if_neg h1_7]
    · rfl
  by_cases h1_7 : w = 7
  · refine fd_u_jmp (C := fd_c14) (j := 33) (st' := []) rfl rfl (b := fd_rng w) (by rw [h1_7]; rfl) (fd_bR (by omega) (by omega)) ?_
    refine fd_u_blk 5 (C := fd_c14) (b := true) (L' := [fd_R 0, fd_I w]) (st' := [fd_I (M 3 2), fd_R 14]) (M' := M) rfl rfl (j := 38) rfl (rfl) ?_
    refine fd_u_call (C := fd_c14) (d0 := 0) (mid := 148) (np := 2) (args := [fd_R 14, fd_I (M 3 2)]) (r1 := some (fd_I (fd_sum (M 18) (M 3 2).toNat))) (M1 := M) (st' := [fd_I (fd_sum (M 18) (M 3 2).toNat)]) rfl rfl rfl rfl rfl rfl (rfl) (fd_s_owedByAll M hG) rfl (by omega) ?_
    refine fd_u_ret (C := fd_c14) (b := true) (r' := some (fd_I (fd_sum (M 18) (M 3 2).toNat))) rfl rfl rfl (rfl) ?_ ?_
    · first | rw [fd_X_now, if_pos h1_0] | rw [fd_X_now, if_neg h1_0, if_pos h1_1] | rw [fd_X_now, if_neg h1_0, if_neg h1_1, if_pos h1_2] | rw [fd_X_now, if_neg h1_0, if_neg h1_1, if_neg h1_2, if_pos h1_3] | rw [fd_X_now, if_neg h1_0, if_neg h1_1, if_neg h1_2, if_neg h1_3, if_pos h1_4] | rw [fd_X_now, if_neg h1_0, if_neg h1_1, if_neg h1_2, if_neg h1_3, if_neg h1_4, if_pos h1_5] | rw [fd_X_now, if_neg h1_0, if_neg h1_1, if_neg h1_2, if_neg h1_3, if_neg h1_4, if_neg h1_5, if_pos h1_6] | rw [fd_X_now, if_neg h1_0, if_neg h1_1, if_neg h1_2, if_neg h1_3, if_neg h1_4, if_neg h1_5, if_neg h1_6, if_pos h1_7] | rw [fd_X_now, if_neg h1_0, if_neg h1_1, if_neg h1_2, if_neg h1_3, if_neg h1_4, if_neg h1_5, if_neg h1_6, if_neg h1_7]
    · rfl
  refine fd_u_jmp (C := fd_c14) (j := 40) (st' := []) rfl rfl (b := fd_rng w) (fd_sw_out (by simp only [fd_a, List.getD_cons_succ, List.getD_cons_zero, List.length_cons, List.length_nil]; omega)) (fd_bR (by omega) (by omega)) ?_
  refine fd_u_blk 1 (C := fd_c14) (b := true) (L' := [fd_R 0, fd_I w]) (st' := [fd_I (-1)]) (M' := M) rfl rfl (j := 41) rfl (rfl) ?_
  refine fd_u_ret (C := fd_c14) (b := true) (r' := some (fd_I (-1))) rfl rfl rfl (rfl) ?_ ?_
  · first | rw [fd_X_now, if_pos h1_0] | rw [fd_X_now, if_neg h1_0, if_pos h1_1] | rw [fd_X_now, if_neg h1_0, if_neg h1_1, if_pos h1_2] | rw [fd_X_now, if_neg h1_0, if_neg h1_1, if_neg h1_2, if_pos h1_3] | rw [fd_X_now, if_neg h1_0, if_neg h1_1, if_neg h1_2, if_neg h1_3, if_pos h1_4] | rw [fd_X_now, if_neg h1_0, if_neg h1_1, if_neg h1_2, if_neg h1_3, if_neg h1_4, if_pos h1_5] | rw [fd_X_now, if_neg h1_0, if_neg h1_1, if_neg h1_2, if_neg h1_3, if_neg h1_4, if_neg h1_5, if_pos h1_6] | rw [fd_X_now, if_neg h1_0, if_neg h1_1, if_neg h1_2, if_neg h1_3, if_neg h1_4, if_neg h1_5, if_neg h1_6, if_pos h1_7] | rw [fd_X_now, if_neg h1_0, if_neg h1_1, if_neg h1_2, if_neg h1_3, if_neg h1_4, if_neg h1_5, if_neg h1_6, if_neg h1_7]
  · rfl

theorem fd_x_count (M : fd_M) (hG : fd_CG M) (w : Int) (hw : -2147483648 ≤ w ∧ w < 2147483648) : fd_call 0 26 [fd_R 0, fd_I w] M (some (fd_I (fd_X_count M w))) M := by
  refine fd_u_in (L := [fd_R 0, fd_I w]) rfl ?_
  obtain ⟨g0, g1, g2, g3, g4, g5⟩ := hG.1
  refine fd_u_blk 1 (C := fd_c26) (b := true) (L' := [fd_R 0, fd_I w]) (st' := [fd_I w]) (M' := M) rfl rfl (j := 1) rfl (rfl) ?_
  by_cases h1_0 : w = 0
  · refine fd_u_jmp (C := fd_c26) (j := 2) (st' := []) rfl rfl (b := fd_rng w) (by rw [h1_0]; rfl) (fd_bR (by omega) (by omega)) ?_
    refine fd_u_blk 3 (C := fd_c26) (b := true) (L' := [fd_R 0, fd_I w]) (st' := [fd_I (M 3 0)]) (M' := M) rfl rfl (j := 5) rfl (rfl) ?_
    refine fd_u_ret (C := fd_c26) (b := true) (r' := some (fd_I (M 3 0))) rfl rfl rfl (rfl) ?_ ?_
    · first | rw [fd_X_count, if_pos h1_0] | rw [fd_X_count, if_neg h1_0, if_pos h1_1] | rw [fd_X_count, if_neg h1_0, if_neg h1_1, if_pos h1_2] | rw [fd_X_count, if_neg h1_0, if_neg h1_1, if_neg h1_2, if_pos h1_3] | rw [fd_X_count, if_neg h1_0, if_neg h1_1, if_neg h1_2, if_neg h1_3, if_pos h1_4] | rw [fd_X_count, if_neg h1_0, if_neg h1_1, if_neg h1_2, if_neg h1_3, if_neg h1_4, if_pos h1_5] | rw [fd_X_count, if_neg h1_0, if_neg h1_1, if_neg h1_2, if_neg h1_3, if_neg h1_4, if_neg h1_5, if_pos h1_6] | rw [fd_X_count, if_neg h1_0, if_neg h1_1, if_neg h1_2, if_neg h1_3, if_neg h1_4, if_neg h1_5, if_neg h1_6, if_pos h1_7] | rw [fd_X_count, if_neg h1_0, if_neg h1_1, if_neg h1_2, if_neg h1_3, if_neg h1_4, if_neg h1_5, if_neg h1_6, if_neg h1_7]
    · rfl
  by_cases h1_1 : w = 1
  · refine fd_u_jmp (C := fd_c26) (j := 6) (st' := []) rfl rfl (b := fd_rng w) (by rw [h1_1]; rfl) (fd_bR (by omega) (by omega)) ?_
    refine fd_u_blk 3 (C := fd_c26) (b := true) (L' := [fd_R 0, fd_I w]) (st' := [fd_I (M 3 1)]) (M' := M) rfl rfl (j := 9) rfl (rfl) ?_
    refine fd_u_ret (C := fd_c26) (b := true) (r' := some (fd_I (M 3 1))) rfl rfl rfl (rfl) ?_ ?_
    · first | rw [fd_X_count, if_pos h1_0] | rw [fd_X_count, if_neg h1_0, if_pos h1_1] | rw [fd_X_count, if_neg h1_0, if_neg h1_1, if_pos h1_2] | rw [fd_X_count, if_neg h1_0, if_neg h1_1, if_neg h1_2, if_pos h1_3] | rw [fd_X_count, if_neg h1_0, if_neg h1_1, if_neg h1_2, if_neg h1_3, if_pos h1_4] | rw [fd_X_count, if_neg h1_0, if_neg h1_1, if_neg h1_2, if_neg h1_3, if_neg h1_4, if_pos h1_5] | rw [fd_X_count, if_neg h1_0, if_neg h1_1, if_neg h1_2, if_neg h1_3, if_neg h1_4, if_neg h1_5, if_pos h1_6] | rw [fd_X_count, if_neg h1_0, if_neg h1_1, if_neg h1_2, if_neg h1_3, if_neg h1_4, if_neg h1_5, if_neg h1_6, if_pos h1_7] | rw [fd_X_count, if_neg h1_0, if_neg h1_1, if_neg h1_2, if_neg h1_3, if_neg h1_4, if_neg h1_5, if_neg h1_6, if_neg h1_7]
    · rfl
  by_cases h1_2 : w = 2
  · refine fd_u_jmp (C := fd_c26) (j := 10) (st' := []) rfl rfl (b := fd_rng w) (by rw [h1_2]; rfl) (fd_bR (by omega) (by omega)) ?_
    refine fd_u_blk 3 (C := fd_c26) (b := true) (L' := [fd_R 0, fd_I w]) (st' := [fd_I (M 3 2)]) (M' := M) rfl rfl (j := 13) rfl (rfl) ?_
    refine fd_u_ret (C := fd_c26) (b := true) (r' := some (fd_I (M 3 2))) rfl rfl rfl (rfl) ?_ ?_
    · first | rw [fd_X_count, if_pos h1_0] | rw [fd_X_count, if_neg h1_0, if_pos h1_1] | rw [fd_X_count, if_neg h1_0, if_neg h1_1, if_pos h1_2] | rw [fd_X_count, if_neg h1_0, if_neg h1_1, if_neg h1_2, if_pos h1_3] | rw [fd_X_count, if_neg h1_0, if_neg h1_1, if_neg h1_2, if_neg h1_3, if_pos h1_4] | rw [fd_X_count, if_neg h1_0, if_neg h1_1, if_neg h1_2, if_neg h1_3, if_neg h1_4, if_pos h1_5] | rw [fd_X_count, if_neg h1_0, if_neg h1_1, if_neg h1_2, if_neg h1_3, if_neg h1_4, if_neg h1_5, if_pos h1_6] | rw [fd_X_count, if_neg h1_0, if_neg h1_1, if_neg h1_2, if_neg h1_3, if_neg h1_4, if_neg h1_5, if_neg h1_6, if_pos h1_7] | rw [fd_X_count, if_neg h1_0, if_neg h1_1, if_neg h1_2, if_neg h1_3, if_neg h1_4, if_neg h1_5, if_neg h1_6, if_neg h1_7]
    · rfl
  by_cases h1_3 : w = 3
  · refine fd_u_jmp (C := fd_c26) (j := 14) (st' := []) rfl rfl (b := fd_rng w) (by rw [h1_3]; rfl) (fd_bR (by omega) (by omega)) ?_
    refine fd_u_blk 3 (C := fd_c26) (b := true) (L' := [fd_R 0, fd_I w]) (st' := [fd_I (M 3 3)]) (M' := M) rfl rfl (j := 17) rfl (rfl) ?_
    refine fd_u_ret (C := fd_c26) (b := true) (r' := some (fd_I (M 3 3))) rfl rfl rfl (rfl) ?_ ?_
    · first | rw [fd_X_count, if_pos h1_0] | rw [fd_X_count, if_neg h1_0, if_pos h1_1] | rw [fd_X_count, if_neg h1_0, if_neg h1_1, if_pos h1_2] | rw [fd_X_count, if_neg h1_0, if_neg h1_1, if_neg h1_2, if_pos h1_3] | rw [fd_X_count, if_neg h1_0, if_neg h1_1, if_neg h1_2, if_neg h1_3, if_pos h1_4] | rw [fd_X_count, if_neg h1_0, if_neg h1_1, if_neg h1_2, if_neg h1_3, if_neg h1_4, if_pos h1_5] | rw [fd_X_count, if_neg h1_0, if_neg h1_1, if_neg h1_2, if_neg h1_3, if_neg h1_4, if_neg h1_5, if_pos h1_6] | rw [fd_X_count, if_neg h1_0, if_neg h1_1, if_neg h1_2, if_neg h1_3, if_neg h1_4, if_neg h1_5, if_neg h1_6, if_pos h1_7] | rw [fd_X_count, if_neg h1_0, if_neg h1_1, if_neg h1_2, if_neg h1_3, if_neg h1_4, if_neg h1_5, if_neg h1_6, if_neg h1_7]
    · rfl
  by_cases h1_4 : w = 4
  · refine fd_u_jmp (C := fd_c26) (j := 18) (st' := []) rfl rfl (b := fd_rng w) (by rw [h1_4]; rfl) (fd_bR (by omega) (by omega)) ?_
    refine fd_u_blk 3 (C := fd_c26) (b := true) (L' := [fd_R 0, fd_I w]) (st' := [fd_I (M 3 4)]) (M' := M) rfl rfl (j := 21) rfl (rfl) ?_
    refine fd_u_ret (C := fd_c26) (b := true) (r' := some (fd_I (M 3 4))) rfl rfl rfl (rfl) ?_ ?_
    · first | rw [fd_X_count, if_pos h1_0] | rw [fd_X_count, if_neg h1_0, if_pos h1_1] | rw [fd_X_count, if_neg h1_0, if_neg h1_1, if_pos h1_2] | rw [fd_X_count, if_neg h1_0, if_neg h1_1, if_neg h1_2, if_pos h1_3] | rw [fd_X_count, if_neg h1_0, if_neg h1_1, if_neg h1_2, if_neg h1_3, if_pos h1_4] | rw [fd_X_count, if_neg h1_0, if_neg h1_1, if_neg h1_2, if_neg h1_3, if_neg h1_4, if_pos h1_5] | rw [fd_X_count, if_neg h1_0, if_neg h1_1, if_neg h1_2, if_neg h1_3, if_neg h1_4, if_neg h1_5, if_pos h1_6] | rw [fd_X_count, if_neg h1_0, if_neg h1_1, if_neg h1_2, if_neg h1_3, if_neg h1_4, if_neg h1_5, if_neg h1_6, if_pos h1_7] | rw [fd_X_count, if_neg h1_0, if_neg h1_1, if_neg h1_2, if_neg h1_3, if_neg h1_4, if_neg h1_5, if_neg h1_6, if_neg h1_7]
    · rfl
  by_cases h1_5 : w = 5
  · refine fd_u_jmp (C := fd_c26) (j := 22) (st' := []) rfl rfl (b := fd_rng w) (by rw [h1_5]; rfl) (fd_bR (by omega) (by omega)) ?_
    refine fd_u_blk 3 (C := fd_c26) (b := true) (L' := [fd_R 0, fd_I w]) (st' := [fd_I (M 78 2)]) (M' := M) rfl rfl (j := 25) rfl (rfl) ?_
    refine fd_u_ret (C := fd_c26) (b := true) (r' := some (fd_I (M 78 2))) rfl rfl rfl (rfl) ?_ ?_
    · first | rw [fd_X_count, if_pos h1_0] | rw [fd_X_count, if_neg h1_0, if_pos h1_1] | rw [fd_X_count, if_neg h1_0, if_neg h1_1, if_pos h1_2] | rw [fd_X_count, if_neg h1_0, if_neg h1_1, if_neg h1_2, if_pos h1_3] | rw [fd_X_count, if_neg h1_0, if_neg h1_1, if_neg h1_2, if_neg h1_3, if_pos h1_4] | rw [fd_X_count, if_neg h1_0, if_neg h1_1, if_neg h1_2, if_neg h1_3, if_neg h1_4, if_pos h1_5] | rw [fd_X_count, if_neg h1_0, if_neg h1_1, if_neg h1_2, if_neg h1_3, if_neg h1_4, if_neg h1_5, if_pos h1_6] | rw [fd_X_count, if_neg h1_0, if_neg h1_1, if_neg h1_2, if_neg h1_3, if_neg h1_4, if_neg h1_5, if_neg h1_6, if_pos h1_7] | rw [fd_X_count, if_neg h1_0, if_neg h1_1, if_neg h1_2, if_neg h1_3, if_neg h1_4, if_neg h1_5, if_neg h1_6, if_neg h1_7]
    · rfl
  by_cases h1_6 : w = 6
  · refine fd_u_jmp (C := fd_c26) (j := 26) (st' := []) rfl rfl (b := fd_rng w) (by rw [h1_6]; rfl) (fd_bR (by omega) (by omega)) ?_
    refine fd_u_blk 3 (C := fd_c26) (b := true) (L' := [fd_R 0, fd_I w]) (st' := [fd_I (M 19 1)]) (M' := M) rfl rfl (j := 29) rfl (rfl) ?_
    refine fd_u_ret (C := fd_c26) (b := true) (r' := some (fd_I (M 19 1))) rfl rfl rfl (rfl) ?_ ?_
    · first | rw [fd_X_count, if_pos h1_0] | rw [fd_X_count, if_neg h1_0, if_pos h1_1] | rw [fd_X_count, if_neg h1_0, if_neg h1_1, if_pos h1_2] | rw [fd_X_count, if_neg h1_0, if_neg h1_1, if_neg h1_2, if_pos h1_3] | rw [fd_X_count, if_neg h1_0, if_neg h1_1, if_neg h1_2, if_neg h1_3, if_pos h1_4] | rw [fd_X_count, if_neg h1_0, if_neg h1_1, if_neg h1_2, if_neg h1_3, if_neg h1_4, if_pos h1_5] | rw [fd_X_count, if_neg h1_0, if_neg h1_1, if_neg h1_2, if_neg h1_3, if_neg h1_4, if_neg h1_5, if_pos h1_6] | rw [fd_X_count, if_neg h1_0, if_neg h1_1, if_neg h1_2, if_neg h1_3, if_neg h1_4, if_neg h1_5, if_neg h1_6, if_pos h1_7] | rw [fd_X_count, if_neg h1_0, if_neg h1_1, if_neg h1_2, if_neg h1_3, if_neg h1_4, if_neg h1_5, if_neg h1_6, if_neg h1_7]
    · rfl
  by_cases h1_7 : w = 7
  · refine fd_u_jmp (C := fd_c26) (j := 30) (st' := []) rfl rfl (b := fd_rng w) (by rw [h1_7]; rfl) (fd_bR (by omega) (by omega)) ?_
    refine fd_u_blk 3 (C := fd_c26) (b := true) (L' := [fd_R 0, fd_I w]) (st' := [fd_I (M 1 1)]) (M' := M) rfl rfl (j := 33) rfl (rfl) ?_
    refine fd_u_ret (C := fd_c26) (b := true) (r' := some (fd_I (M 1 1))) rfl rfl rfl (rfl) ?_ ?_
    · first | rw [fd_X_count, if_pos h1_0] | rw [fd_X_count, if_neg h1_0, if_pos h1_1] | rw [fd_X_count, if_neg h1_0, if_neg h1_1, if_pos h1_2] | rw [fd_X_count, if_neg h1_0, if_neg h1_1, if_neg h1_2, if_pos h1_3] | rw [fd_X_count, if_neg h1_0, if_neg h1_1, if_neg h1_2, if_neg h1_3, if_pos h1_4] | rw [fd_X_count, if_neg h1_0, if_neg h1_1, if_neg h1_2, if_neg h1_3, if_neg h1_4, if_pos h1_5] | rw [fd_X_count, if_neg h1_0, if_neg h1_1, if_neg h1_2, if_neg h1_3, if_neg h1_4, if_neg h1_5, if_pos h1_6] | rw [fd_X_count, if_neg h1_0, if_neg h1_1, if_neg h1_2, if_neg h1_3, if_neg h1_4, if_neg h1_5, if_neg h1_6, if_pos h1_7] | rw [fd_X_count, if_neg h1_0, if_neg h1_1, if_neg h1_2, if_neg h1_3, if_neg h1_4, if_neg h1_5, if_neg h1_6, if_neg h1_7]
    · rfl
  refine fd_u_jmp (C := fd_c26) (j := 34) (st' := []) rfl rfl (b := fd_rng w) (fd_sw_out (by simp only [fd_a, List.getD_cons_succ, List.getD_cons_zero, List.length_cons, List.length_nil]; omega)) (fd_bR (by omega) (by omega)) ?_
  refine fd_u_blk 1 (C := fd_c26) (b := true) (L' := [fd_R 0, fd_I w]) (st' := [fd_I (-1)]) (M' := M) rfl rfl (j := 35) rfl (rfl) ?_
  refine fd_u_ret (C := fd_c26) (b := true) (r' := some (fd_I (-1))) rfl rfl rfl (rfl) ?_ ?_
  · first | rw [fd_X_count, if_pos h1_0] | rw [fd_X_count, if_neg h1_0, if_pos h1_1] | rw [fd_X_count, if_neg h1_0, if_neg h1_1, if_pos h1_2] | rw [fd_X_count, if_neg h1_0, if_neg h1_1, if_neg h1_2, if_pos h1_3] | rw [fd_X_count, if_neg h1_0, if_neg h1_1, if_neg h1_2, if_neg h1_3, if_pos h1_4] | rw [fd_X_count, if_neg h1_0, if_neg h1_1, if_neg h1_2, if_neg h1_3, if_neg h1_4, if_pos h1_5] | rw [fd_X_count, if_neg h1_0, if_neg h1_1, if_neg h1_2, if_neg h1_3, if_neg h1_4, if_neg h1_5, if_pos h1_6] | rw [fd_X_count, if_neg h1_0, if_neg h1_1, if_neg h1_2, if_neg h1_3, if_neg h1_4, if_neg h1_5, if_neg h1_6, if_pos h1_7] | rw [fd_X_count, if_neg h1_0, if_neg h1_1, if_neg h1_2, if_neg h1_3, if_neg h1_4, if_neg h1_5, if_neg h1_6, if_neg h1_7]
  · rfl

theorem fd_x_trace (M : fd_M) : fd_call 0 27 [fd_R 0] M (some (fd_J (M 0 12))) M := by
  refine fd_u_in (L := [fd_R 0]) rfl ?_
  refine fd_u_blk 2 (C := fd_c27) (b := true) (L' := [fd_R 0]) (st' := [fd_J (M 0 12)]) (M' := M) rfl rfl (j := 2) rfl (rfl) ?_
  refine fd_u_ret (C := fd_c27) (b := true) (r' := some (fd_J (M 0 12))) rfl rfl rfl (rfl) ?_ ?_
  · rfl
  · rfl

theorem fd_x_clear (M : fd_M) : fd_call 0 2 [fd_R 0] M (some (fd_I (M 1 1))) (fd_up M 1 1 0) := by
  refine fd_u_in (L := [fd_R 0, fd_R 1003]) rfl ?_
  refine fd_u_blk 9 (C := fd_c2) (b := true) (L' := [fd_R 0, fd_I (M 1 1)]) (st' := [fd_I (M 1 1)]) (M' := (fd_up M 1 1 0)) rfl rfl (j := 9) rfl (rfl) ?_
  refine fd_u_ret (C := fd_c2) (b := true) (r' := some (fd_I (M 1 1))) rfl rfl rfl (rfl) ?_ ?_
  · rfl
  · rfl

theorem fd_x_forget (M : fd_M) : fd_call 0 19 [fd_R 0] M (some (fd_I (M 78 2))) (fd_up M 78 2 0) := by
  refine fd_u_in (L := [fd_R 0, fd_R 1003]) rfl ?_
  refine fd_u_blk 9 (C := fd_c19) (b := true) (L' := [fd_R 0, fd_I (M 78 2)]) (st' := [fd_I (M 78 2)]) (M' := (fd_up M 78 2 0)) rfl rfl (j := 9) rfl (rfl) ?_
  refine fd_u_ret (C := fd_c19) (b := true) (r' := some (fd_I (M 78 2))) rfl rfl rfl (rfl) ?_ ?_
  · rfl
  · rfl

theorem fd_s_append (M : fd_M) (c : Int) (h : 0 ≤ M 1 1 ∧ M 1 1 < 150) : fd_call 0 164 [fd_R 1, fd_I c] M (none) (fd_up (fd_up M 2 (M 1 1).toNat c) 1 1 (M 1 1 + 1)) := by
  refine fd_u_in (L := [fd_R 1, fd_I c]) rfl ?_
  refine fd_u_blk 5 (C := fd_c164) (b := true) (L' := [fd_R 1, fd_I c]) (st' := [fd_I 150, fd_I (M 1 1)]) (M' := M) rfl rfl (j := 5) rfl (rfl) ?_
  refine fd_u_br (C := fd_c164) (t := 18) (e := 6) (st' := []) (c := 150 ≤ (M 1 1)) (b := (fd_rng (M 1 1) && fd_rng 150)) rfl rfl rfl (fd_bA (fd_bR (by omega) (by omega)) (fd_bR (by omega) (by omega))) (fun h5 => absurd h5 (by omega)) (fun h5 => ?_)
  refine fd_u_blk 12 (C := fd_c164) (b := (fd_inb (M 1 1) 150 && true)) (L' := [fd_R 1, fd_I c]) (st' := []) (M' := (fd_up (fd_up M 2 (M 1 1).toNat c) 1 1 ((M 1 1) + 1))) rfl rfl (j := 18) rfl (fd_bA (fd_bI (by omega) (by omega)) (rfl)) ?_
  refine fd_u_ret (C := fd_c164) (b := true) (r' := none) rfl rfl rfl (rfl) ?_ ?_
  · rfl
  · rfl

def fd_X_type (M : fd_M) (c : Int) : Int := if ¬ (0 ≤ c ∧ c ≤ 255) then -1 else if M 1 1 = 150 then -3 else M 1 1 + 1
def fd_Y_type (M : fd_M) (c : Int) : fd_M := if 0 ≤ c ∧ c ≤ 255 ∧ M 1 1 < 150 then fd_up (fd_up M 2 (M 1 1).toNat c) 1 1 (M 1 1 + 1) else M
theorem fd_x_type (M : fd_M) (c : Int) (hc : -2147483648 ≤ c ∧ c < 2147483648) (h : 0 ≤ M 1 1 ∧ M 1 1 ≤ 150) : fd_call 1 1 [fd_R 0, fd_I c] M (some (fd_I (fd_X_type M c))) (fd_Y_type M c) := by
  refine fd_u_in (L := [fd_R 0, fd_I c]) rfl ?_
  refine fd_u_blk 1 (C := fd_c1) (b := true) (L' := [fd_R 0, fd_I c]) (st' := [fd_I c]) (M' := M) rfl rfl (j := 1) rfl (rfl) ?_
  refine fd_u_br (C := fd_c1) (t := 5) (e := 2) (st' := []) (c := c < 0) (b := (fd_rng c)) rfl rfl rfl (fd_bR (by omega) (by omega)) (fun h1 => ?_) (fun h1 => ?_)
  · refine fd_u_blk 1 (C := fd_c1) (b := true) (L' := [fd_R 0, fd_I c]) (st' := [fd_I (-1)]) (M' := M) rfl rfl (j := 6) rfl (rfl) ?_
    refine fd_u_ret (C := fd_c1) (b := true) (r' := some (fd_I (-1))) rfl rfl rfl (rfl) ?_ ?_
    · first | rw [fd_X_type, if_pos (show ¬ (0 ≤ c ∧ c ≤ 255) by omega)] | rw [fd_X_type, if_neg (show ¬ ¬ (0 ≤ c ∧ c ≤ 255) by omega), if_pos (by omega)] | (rw [fd_X_type, if_neg (show ¬ ¬ (0 ≤ c ∧ c ≤ 255) by omega), if_neg (by omega)]; rfl)
    · first | rw [fd_Y_type, if_neg (by omega)] | rw [fd_Y_type, if_pos (by omega)]
  · refine fd_u_blk 2 (C := fd_c1) (b := true) (L' := [fd_R 0, fd_I c]) (st' := [fd_I 255, fd_I c]) (M' := M) rfl rfl (j := 4) rfl (rfl) ?_
    refine fd_u_br (C := fd_c1) (t := 7) (e := 5) (st' := []) (c := c ≤ 255) (b := (fd_rng c && fd_rng 255)) rfl rfl rfl (fd_bA (fd_bR (by omega) (by omega)) (fd_bR (by omega) (by omega))) (fun h4 => ?_) (fun h4 => ?_)
    · refine fd_u_blk 4 (C := fd_c1) (b := true) (L' := [fd_R 0, fd_I c]) (st' := [fd_I 150, fd_I (M 1 1)]) (M' := M) rfl rfl (j := 11) rfl (rfl) ?_
      refine fd_u_br (C := fd_c1) (t := 14) (e := 12) (st' := []) (c := (M 1 1) < 150) (b := (fd_rng (M 1 1) && fd_rng 150)) rfl rfl rfl (fd_bA (fd_bR (by omega) (by omega)) (fd_bR (by omega) (by omega))) (fun h11 => ?_) (fun h11 => ?_)
      · refine fd_u_blk 3 (C := fd_c1) (b := true) (L' := [fd_R 0, fd_I c]) (st' := [fd_I c, fd_R 1]) (M' := M) rfl rfl (j := 17) rfl (rfl) ?_
        refine fd_u_call (C := fd_c1) (d0 := 0) (mid := 164) (np := 2) (args := [fd_R 1, fd_I c]) (r1 := none) (M1 := (fd_up (fd_up M 2 (M 1 1).toNat c) 1 1 (M 1 1 + 1))) (st' := []) rfl rfl rfl rfl rfl rfl (rfl) (fd_s_append M c (by omega)) rfl (by omega) ?_
        refine fd_u_blk 3 (C := fd_c1) (b := true) (L' := [fd_R 0, fd_I c]) (st' := [fd_I ((fd_up (fd_up M 2 (M 1 1).toNat c) 1 1 (M 1 1 + 1)) 1 1)]) (M' := (fd_up (fd_up M 2 (M 1 1).toNat c) 1 1 (M 1 1 + 1))) rfl rfl (j := 21) rfl (rfl) ?_
        refine fd_u_ret (C := fd_c1) (b := true) (r' := some (fd_I ((fd_up (fd_up M 2 (M 1 1).toNat c) 1 1 (M 1 1 + 1)) 1 1))) rfl rfl rfl (rfl) ?_ ?_
        · first | rw [fd_X_type, if_pos (show ¬ (0 ≤ c ∧ c ≤ 255) by omega)] | rw [fd_X_type, if_neg (show ¬ ¬ (0 ≤ c ∧ c ≤ 255) by omega), if_pos (by omega)] | (rw [fd_X_type, if_neg (show ¬ ¬ (0 ≤ c ∧ c ≤ 255) by omega), if_neg (by omega)]; rfl)
        · first | rw [fd_Y_type, if_neg (by omega)] | rw [fd_Y_type, if_pos (by omega)]
      · refine fd_u_blk 1 (C := fd_c1) (b := true) (L' := [fd_R 0, fd_I c]) (st' := [fd_I (-3)]) (M' := M) rfl rfl (j := 13) rfl (rfl) ?_
        refine fd_u_ret (C := fd_c1) (b := true) (r' := some (fd_I (-3))) rfl rfl rfl (rfl) ?_ ?_
        · first | rw [fd_X_type, if_pos (show ¬ (0 ≤ c ∧ c ≤ 255) by omega)] | rw [fd_X_type, if_neg (show ¬ ¬ (0 ≤ c ∧ c ≤ 255) by omega), if_pos (by omega)] | (rw [fd_X_type, if_neg (show ¬ ¬ (0 ≤ c ∧ c ≤ 255) by omega), if_neg (by omega)]; rfl)
        · first | rw [fd_Y_type, if_neg (by omega)] | rw [fd_Y_type, if_pos (by omega)]
    · refine fd_u_blk 1 (C := fd_c1) (b := true) (L' := [fd_R 0, fd_I c]) (st' := [fd_I (-1)]) (M' := M) rfl rfl (j := 6) rfl (rfl) ?_
      refine fd_u_ret (C := fd_c1) (b := true) (r' := some (fd_I (-1))) rfl rfl rfl (rfl) ?_ ?_
      · first | rw [fd_X_type, if_pos (show ¬ (0 ≤ c ∧ c ≤ 255) by omega)] | rw [fd_X_type, if_neg (show ¬ ¬ (0 ≤ c ∧ c ≤ 255) by omega), if_pos (by omega)] | (rw [fd_X_type, if_neg (show ¬ ¬ (0 ≤ c ∧ c ≤ 255) by omega), if_neg (by omega)]; rfl)
      · first | rw [fd_Y_type, if_neg (by omega)] | rw [fd_Y_type, if_pos (by omega)]
end
section
/-! scenes copied, kept, undone -/
abbrev fd_scn (a : Nat) : Prop := fd_SH a = (5, 8) ∧ fd_SH (a + 1) = (20, 6) ∧ fd_SH (a + 2) = (20, 6) ∧ fd_SH (a + 3) = (20, 6) ∧ fd_SH (a + 4) = (20, 6) ∧ a < 900
theorem fd_b_sc {a k t : Nat} {r0 : List Int} {is : List fd_Ins} {L st : List fd_V} {M : fd_M} (h : fd_SH a = (5, 8)) (hk : Nat.ble 4 k = false) (ht : a + 1 + k = t) : fd_bl 1 ((27, 5 :: (k : Int) :: 2 :: r0) :: is) L (fd_R a :: st) M = some (fd_isO true M a 5 && true, L, fd_R t :: st, M) := by
  have e : fd_rf true M a k = t := by
    unfold fd_rf fd_RF
    rw [h]
    simp [hk, ht]
  show some (fd_isO true M a 5 && true, L, fd_R (fd_rf true M a k) :: st, M) = _
  rw [e]
def fd_cps (M : fd_M) (a b : Nat) : fd_M := fun c k => if c = a ∧ 4 ≤ k ∧ k ≤ 7 then M b k else if a < c ∧ c ≤ a + 4 ∧ k < 6 then M (b + (c - a)) k else M c k
theorem fd_cps_eq (M : fd_M) (a b : Nat) (hab : a + 5 ≤ b ∨ b + 5 ≤ a) : fd_up (fd_up (fd_up (fd_up (fd_cp (fd_cp (fd_cp (fd_cp M (b + 1) 0 (a + 1) 0 6) (b + 2) 0 (a + 2) 0 6) (b + 3) 0 (a + 3) 0 6) (b + 4) 0 (a + 4) 0 6) a 4 (M b 4)) a 5 (M b 5)) a 6 (M b 6)) a 7 (M b 7) = fd_cps M a b := by
  funext c k
  by_cases h0 : c = a
  · subst h0
    simp only [fd_up, fd_cp, fd_cps, true_and]
    by_cases h7 : k = 7
    · subst h7; simp
    · by_cases h6 : k = 6
      · subst h6; simp
      · by_cases h5 : k = 5
        · subst h5; simp
        · by_cases h4 : k = 4
          · subst h4; simp
          · simp [h4, h5, h6, h7, show ¬ (4 ≤ k ∧ k ≤ 7) by omega]
  · have n : ¬ (c = a ∧ 4 ≤ k ∧ k ≤ 7) := fun q => h0 q.1
    simp only [fd_up, fd_cps, if_neg n, show ∀ j, ¬ (c = a ∧ k = j) from fun j q => h0 q.1, if_false]
    simp only [fd_cp, Nat.zero_add, Nat.sub_zero, Nat.zero_le, true_and]
    by_cases hk : k < 6
    · by_cases h1 : c = a + 1
      · subst h1
        simp [hk, show a < a + 1 by omega]
      · by_cases h2 : c = a + 2
        · subst h2
          have z1 : ¬ b + 2 = a + 1 := by omega
          simp [hk, z1, show a < a + 2 by omega, show a + 2 - a = 2 by omega]
        · by_cases h3 : c = a + 3
          · subst h3
            have z1 : ¬ b + 3 = a + 1 := by omega
            have z2 : ¬ b + 3 = a + 2 := by omega
            simp [hk, z1, z2, show a < a + 3 by omega, show a + 3 - a = 3 by omega]
          · by_cases h4 : c = a + 4
            · subst h4
              have z1 : ¬ b + 4 = a + 1 := by omega
              have z2 : ¬ b + 4 = a + 2 := by omega
              have z3 : ¬ b + 4 = a + 3 := by omega
              simp [hk, z1, z2, z3, show a < a + 4 by omega, show a + 4 - a = 4 by omega]
            · simp [h1, h2, h3, h4, show ¬ (a < c ∧ c ≤ a + 4) by omega]
              intro q1 q2
              omega
    · simp [hk]
set_option maxRecDepth 4000 in
theorem fd_s_copyFrom (M : fd_M) (a b : Nat) (ha : fd_scn a) (hb : fd_scn b) (hab : a + 5 ≤ b ∨ b + 5 ≤ a) (h6 : 0 ≤ M b 6 ∧ M b 6 ≤ 1) (h7 : 0 ≤ M b 7 ∧ M b 7 ≤ 1) : fd_call 0 143 [fd_R (a), fd_R (b)] M (none) (fd_cps M a b) := by
  refine fd_u_in (L := [fd_R (a), fd_R (b)]) rfl ?_
  have n0 : ¬ b = a := by omega
  have n1 : ¬ b = a + 1 := by omega
  have n2 : ¬ b = a + 2 := by omega
  have n3 : ¬ b = a + 3 := by omega
  have n4 : ¬ b = a + 4 := by omega
  refine fd_u_blk 1 (C := fd_c143) (L' := [fd_R (a), fd_R (b)]) (st' := [fd_R (b)]) (M' := M) rfl rfl (j := 1) rfl (by have e0 := hb.2.2.2.2.2; have e1 := ha.2.2.2.2.2; simp [fd_a, fd_n, fd_isO, fd_al, ha.1, hb.1, ha.2.1, ha.2.2.1, ha.2.2.2.1, ha.2.2.2.2.1, hb.2.1, hb.2.2.1, hb.2.2.2.1, hb.2.2.2.2.1, fd_inb, Nat.blt_eq, fd_up, fd_cp, n0, n1, n2, n3, n4] <;> omega) ?_
  refine fd_u_blk 1 (C := fd_c143) (L' := [fd_R (a), fd_R (b)]) (st' := [fd_R ((b + 1))]) (M' := M) rfl (fd_b_sc hb.1 rfl rfl) (j := 2) rfl (by have e0 := hb.2.2.2.2.2; have e1 := ha.2.2.2.2.2; simp [fd_a, fd_n, fd_isO, fd_al, ha.1, hb.1, ha.2.1, ha.2.2.1, ha.2.2.2.1, ha.2.2.2.2.1, hb.2.1, hb.2.2.1, hb.2.2.2.1, hb.2.2.2.2.1, fd_inb, Nat.blt_eq, fd_up, fd_cp, n0, n1, n2, n3, n4] <;> omega) ?_
  refine fd_u_blk 2 (C := fd_c143) (L' := [fd_R (a), fd_R (b)]) (st' := [fd_R (a), fd_I 0, fd_R ((b + 1))]) (M' := M) rfl rfl (j := 4) rfl (by have e0 := hb.2.2.2.2.2; have e1 := ha.2.2.2.2.2; simp [fd_a, fd_n, fd_isO, fd_al, ha.1, hb.1, ha.2.1, ha.2.2.1, ha.2.2.2.1, ha.2.2.2.2.1, hb.2.1, hb.2.2.1, hb.2.2.2.1, hb.2.2.2.2.1, fd_inb, Nat.blt_eq, fd_up, fd_cp, n0, n1, n2, n3, n4] <;> omega) ?_
  refine fd_u_blk 1 (C := fd_c143) (L' := [fd_R (a), fd_R (b)]) (st' := [fd_R ((a + 1)), fd_I 0, fd_R ((b + 1))]) (M' := M) rfl (fd_b_sc ha.1 rfl rfl) (j := 5) rfl (by have e0 := hb.2.2.2.2.2; have e1 := ha.2.2.2.2.2; simp [fd_a, fd_n, fd_isO, fd_al, ha.1, hb.1, ha.2.1, ha.2.2.1, ha.2.2.2.1, ha.2.2.2.2.1, hb.2.1, hb.2.2.1, hb.2.2.2.1, hb.2.2.2.2.1, fd_inb, Nat.blt_eq, fd_up, fd_cp, n0, n1, n2, n3, n4] <;> omega) ?_
  refine fd_u_blk 4 (C := fd_c143) (L' := [fd_R (a), fd_R (b)]) (st' := [fd_R (b)]) (M' := (fd_cp M (b + 1) 0 (a + 1) 0 6)) rfl rfl (j := 9) rfl (by have e0 := hb.2.2.2.2.2; have e1 := ha.2.2.2.2.2; simp [fd_a, fd_n, fd_isO, fd_al, ha.1, hb.1, ha.2.1, ha.2.2.1, ha.2.2.2.1, ha.2.2.2.2.1, hb.2.1, hb.2.2.1, hb.2.2.2.1, hb.2.2.2.2.1, fd_inb, Nat.blt_eq, fd_up, fd_cp, n0, n1, n2, n3, n4] <;> omega) ?_
  refine fd_u_blk 1 (C := fd_c143) (L' := [fd_R (a), fd_R (b)]) (st' := [fd_R ((b + 2))]) (M' := (fd_cp M (b + 1) 0 (a + 1) 0 6)) rfl (fd_b_sc hb.1 rfl rfl) (j := 10) rfl (by have e0 := hb.2.2.2.2.2; have e1 := ha.2.2.2.2.2; simp [fd_a, fd_n, fd_isO, fd_al, ha.1, hb.1, ha.2.1, ha.2.2.1, ha.2.2.2.1, ha.2.2.2.2.1, hb.2.1, hb.2.2.1, hb.2.2.2.1, hb.2.2.2.2.1, fd_inb, Nat.blt_eq, fd_up, fd_cp, n0, n1, n2, n3, n4] <;> omega) ?_
  refine fd_u_blk 2 (C := fd_c143) (L' := [fd_R (a), fd_R (b)]) (st' := [fd_R (a), fd_I 0, fd_R ((b + 2))]) (M' := (fd_cp M (b + 1) 0 (a + 1) 0 6)) rfl rfl (j := 12) rfl (by have e0 := hb.2.2.2.2.2; have e1 := ha.2.2.2.2.2; simp [fd_a, fd_n, fd_isO, fd_al, ha.1, hb.1, ha.2.1, ha.2.2.1, ha.2.2.2.1, ha.2.2.2.2.1, hb.2.1, hb.2.2.1, hb.2.2.2.1, hb.2.2.2.2.1, fd_inb, Nat.blt_eq, fd_up, fd_cp, n0, n1, n2, n3, n4] <;> omega) ?_
  refine fd_u_blk 1 (C := fd_c143) (L' := [fd_R (a), fd_R (b)]) (st' := [fd_R ((a + 2)), fd_I 0, fd_R ((b + 2))]) (M' := (fd_cp M (b + 1) 0 (a + 1) 0 6)) rfl (fd_b_sc ha.1 rfl rfl) (j := 13) rfl (by have e0 := hb.2.2.2.2.2; have e1 := ha.2.2.2.2.2; simp [fd_a, fd_n, fd_isO, fd_al, ha.1, hb.1, ha.2.1, ha.2.2.1, ha.2.2.2.1, ha.2.2.2.2.1, hb.2.1, hb.2.2.1, hb.2.2.2.1, hb.2.2.2.2.1, fd_inb, Nat.blt_eq, fd_up, fd_cp, n0, n1, n2, n3, n4] <;> omega) ?_
  refine fd_u_blk 4 (C := fd_c143) (L' := [fd_R (a), fd_R (b)]) (st' := [fd_R (b)]) (M' := (fd_cp (fd_cp M (b + 1) 0 (a + 1) 0 6) (b + 2) 0 (a + 2) 0 6)) rfl rfl (j := 17) rfl (by have e0 := hb.2.2.2.2.2; have e1 := ha.2.2.2.2.2; simp [fd_a, fd_n, fd_isO, fd_al, ha.1, hb.1, ha.2.1, ha.2.2.1, ha.2.2.2.1, ha.2.2.2.2.1, hb.2.1, hb.2.2.1, hb.2.2.2.1, hb.2.2.2.2.1, fd_inb, Nat.blt_eq, fd_up, fd_cp, n0, n1, n2, n3, n4] <;> omega) ?_
  refine fd_u_blk 1 (C := fd_c143) (L' := [fd_R (a), fd_R (b)]) (st' := [fd_R ((b + 3))]) (M' := (fd_cp (fd_cp M (b + 1) 0 (a + 1) 0 6) (b + 2) 0 (a + 2) 0 6)) rfl (fd_b_sc hb.1 rfl rfl) (j := 18) rfl (by have e0 := hb.2.2.2.2.2; have e1 := ha.2.2.2.2.2; simp [fd_a, fd_n, fd_isO, fd_al, ha.1, hb.1, ha.2.1, ha.2.2.1, ha.2.2.2.1, ha.2.2.2.2.1, hb.2.1, hb.2.2.1, hb.2.2.2.1, hb.2.2.2.2.1, fd_inb, Nat.blt_eq, fd_up, fd_cp, n0, n1, n2, n3, n4] <;> omega) ?_
  refine fd_u_blk 2 (C := fd_c143) (L' := [fd_R (a), fd_R (b)]) (st' := [fd_R (a), fd_I 0, fd_R ((b + 3))]) (M' := (fd_cp (fd_cp M (b + 1) 0 (a + 1) 0 6) (b + 2) 0 (a + 2) 0 6)) rfl rfl (j := 20) rfl (by have e0 := hb.2.2.2.2.2; have e1 := ha.2.2.2.2.2; simp [fd_a, fd_n, fd_isO, fd_al, ha.1, hb.1, ha.2.1, ha.2.2.1, ha.2.2.2.1, ha.2.2.2.2.1, hb.2.1, hb.2.2.1, hb.2.2.2.1, hb.2.2.2.2.1, fd_inb, Nat.blt_eq, fd_up, fd_cp, n0, n1, n2, n3, n4] <;> omega) ?_
  refine fd_u_blk 1 (C := fd_c143) (L' := [fd_R (a), fd_R (b)]) (st' := [fd_R ((a + 3)), fd_I 0, fd_R ((b + 3))]) (M' := (fd_cp (fd_cp M (b + 1) 0 (a + 1) 0 6) (b + 2) 0 (a + 2) 0 6)) rfl (fd_b_sc ha.1 rfl rfl) (j := 21) rfl (by have e0 := hb.2.2.2.2.2; have e1 := ha.2.2.2.2.2; simp [fd_a, fd_n, fd_isO, fd_al, ha.1, hb.1, ha.2.1, ha.2.2.1, ha.2.2.2.1, ha.2.2.2.2.1, hb.2.1, hb.2.2.1, hb.2.2.2.1, hb.2.2.2.2.1, fd_inb, Nat.blt_eq, fd_up, fd_cp, n0, n1, n2, n3, n4] <;> omega) ?_
  refine fd_u_blk 4 (C := fd_c143) (L' := [fd_R (a), fd_R (b)]) (st' := [fd_R (b)]) (M' := (fd_cp (fd_cp (fd_cp M (b + 1) 0 (a + 1) 0 6) (b + 2) 0 (a + 2) 0 6) (b + 3) 0 (a + 3) 0 6)) rfl rfl (j := 25) rfl (by have e0 := hb.2.2.2.2.2; have e1 := ha.2.2.2.2.2; simp [fd_a, fd_n, fd_isO, fd_al, ha.1, hb.1, ha.2.1, ha.2.2.1, ha.2.2.2.1, ha.2.2.2.2.1, hb.2.1, hb.2.2.1, hb.2.2.2.1, hb.2.2.2.2.1, fd_inb, Nat.blt_eq, fd_up, fd_cp, n0, n1, n2, n3, n4] <;> omega) ?_
  refine fd_u_blk 1 (C := fd_c143) (L' := [fd_R (a), fd_R (b)]) (st' := [fd_R ((b + 4))]) (M' := (fd_cp (fd_cp (fd_cp M (b + 1) 0 (a + 1) 0 6) (b + 2) 0 (a + 2) 0 6) (b + 3) 0 (a + 3) 0 6)) rfl (fd_b_sc hb.1 rfl rfl) (j := 26) rfl (by have e0 := hb.2.2.2.2.2; have e1 := ha.2.2.2.2.2; simp [fd_a, fd_n, fd_isO, fd_al, ha.1, hb.1, ha.2.1, ha.2.2.1, ha.2.2.2.1, ha.2.2.2.2.1, hb.2.1, hb.2.2.1, hb.2.2.2.1, hb.2.2.2.2.1, fd_inb, Nat.blt_eq, fd_up, fd_cp, n0, n1, n2, n3, n4] <;> omega) ?_
  refine fd_u_blk 2 (C := fd_c143) (L' := [fd_R (a), fd_R (b)]) (st' := [fd_R (a), fd_I 0, fd_R ((b + 4))]) (M' := (fd_cp (fd_cp (fd_cp M (b + 1) 0 (a + 1) 0 6) (b + 2) 0 (a + 2) 0 6) (b + 3) 0 (a + 3) 0 6)) rfl rfl (j := 28) rfl (by have e0 := hb.2.2.2.2.2; have e1 := ha.2.2.2.2.2; simp [fd_a, fd_n, fd_isO, fd_al, ha.1, hb.1, ha.2.1, ha.2.2.1, ha.2.2.2.1, ha.2.2.2.2.1, hb.2.1, hb.2.2.1, hb.2.2.2.1, hb.2.2.2.2.1, fd_inb, Nat.blt_eq, fd_up, fd_cp, n0, n1, n2, n3, n4] <;> omega) ?_
  refine fd_u_blk 1 (C := fd_c143) (L' := [fd_R (a), fd_R (b)]) (st' := [fd_R ((a + 4)), fd_I 0, fd_R ((b + 4))]) (M' := (fd_cp (fd_cp (fd_cp M (b + 1) 0 (a + 1) 0 6) (b + 2) 0 (a + 2) 0 6) (b + 3) 0 (a + 3) 0 6)) rfl (fd_b_sc ha.1 rfl rfl) (j := 29) rfl (by have e0 := hb.2.2.2.2.2; have e1 := ha.2.2.2.2.2; simp [fd_a, fd_n, fd_isO, fd_al, ha.1, hb.1, ha.2.1, ha.2.2.1, ha.2.2.2.1, ha.2.2.2.2.1, hb.2.1, hb.2.2.1, hb.2.2.2.1, hb.2.2.2.2.1, fd_inb, Nat.blt_eq, fd_up, fd_cp, n0, n1, n2, n3, n4] <;> omega) ?_
  refine fd_u_blk 19 (C := fd_c143) (L' := [fd_R (a), fd_R (b)]) (st' := []) (M' := (fd_up (fd_up (fd_up (fd_up (fd_cp (fd_cp (fd_cp (fd_cp M (b + 1) 0 (a + 1) 0 6) (b + 2) 0 (a + 2) 0 6) (b + 3) 0 (a + 3) 0 6) (b + 4) 0 (a + 4) 0 6) a 4 ((fd_cp (fd_cp (fd_cp (fd_cp M (b + 1) 0 (a + 1) 0 6) (b + 2) 0 (a + 2) 0 6) (b + 3) 0 (a + 3) 0 6) (b + 4) 0 (a + 4) 0 6) b 4)) a 5 ((fd_up (fd_cp (fd_cp (fd_cp (fd_cp M (b + 1) 0 (a + 1) 0 6) (b + 2) 0 (a + 2) 0 6) (b + 3) 0 (a + 3) 0 6) (b + 4) 0 (a + 4) 0 6) a 4 ((fd_cp (fd_cp (fd_cp (fd_cp M (b + 1) 0 (a + 1) 0 6) (b + 2) 0 (a + 2) 0 6) (b + 3) 0 (a + 3) 0 6) (b + 4) 0 (a + 4) 0 6) b 4)) b 5)) a 6 ((fd_up (fd_up (fd_cp (fd_cp (fd_cp (fd_cp M (b + 1) 0 (a + 1) 0 6) (b + 2) 0 (a + 2) 0 6) (b + 3) 0 (a + 3) 0 6) (b + 4) 0 (a + 4) 0 6) a 4 ((fd_cp (fd_cp (fd_cp (fd_cp M (b + 1) 0 (a + 1) 0 6) (b + 2) 0 (a + 2) 0 6) (b + 3) 0 (a + 3) 0 6) (b + 4) 0 (a + 4) 0 6) b 4)) a 5 ((fd_up (fd_cp (fd_cp (fd_cp (fd_cp M (b + 1) 0 (a + 1) 0 6) (b + 2) 0 (a + 2) 0 6) (b + 3) 0 (a + 3) 0 6) (b + 4) 0 (a + 4) 0 6) a 4 ((fd_cp (fd_cp (fd_cp (fd_cp M (b + 1) 0 (a + 1) 0 6) (b + 2) 0 (a + 2) 0 6) (b + 3) 0 (a + 3) 0 6) (b + 4) 0 (a + 4) 0 6) b 4)) b 5)) b 6)) a 7 ((fd_up (fd_up (fd_up (fd_cp (fd_cp (fd_cp (fd_cp M (b + 1) 0 (a + 1) 0 6) (b + 2) 0 (a + 2) 0 6) (b + 3) 0 (a + 3) 0 6) (b + 4) 0 (a + 4) 0 6) a 4 ((fd_cp (fd_cp (fd_cp (fd_cp M (b + 1) 0 (a + 1) 0 6) (b + 2) 0 (a + 2) 0 6) (b + 3) 0 (a + 3) 0 6) (b + 4) 0 (a + 4) 0 6) b 4)) a 5 ((fd_up (fd_cp (fd_cp (fd_cp (fd_cp M (b + 1) 0 (a + 1) 0 6) (b + 2) 0 (a + 2) 0 6) (b + 3) 0 (a + 3) 0 6) (b + 4) 0 (a + 4) 0 6) a 4 ((fd_cp (fd_cp (fd_cp (fd_cp M (b + 1) 0 (a + 1) 0 6) (b + 2) 0 (a + 2) 0 6) (b + 3) 0 (a + 3) 0 6) (b + 4) 0 (a + 4) 0 6) b 4)) b 5)) a 6 ((fd_up (fd_up (fd_cp (fd_cp (fd_cp (fd_cp M (b + 1) 0 (a + 1) 0 6) (b + 2) 0 (a + 2) 0 6) (b + 3) 0 (a + 3) 0 6) (b + 4) 0 (a + 4) 0 6) a 4 ((fd_cp (fd_cp (fd_cp (fd_cp M (b + 1) 0 (a + 1) 0 6) (b + 2) 0 (a + 2) 0 6) (b + 3) 0 (a + 3) 0 6) (b + 4) 0 (a + 4) 0 6) b 4)) a 5 ((fd_up (fd_cp (fd_cp (fd_cp (fd_cp M (b + 1) 0 (a + 1) 0 6) (b + 2) 0 (a + 2) 0 6) (b + 3) 0 (a + 3) 0 6) (b + 4) 0 (a + 4) 0 6) a 4 ((fd_cp (fd_cp (fd_cp (fd_cp M (b + 1) 0 (a + 1) 0 6) (b + 2) 0 (a + 2) 0 6) (b + 3) 0 (a + 3) 0 6) (b + 4) 0 (a + 4) 0 6) b 4)) b 5)) b 6)) b 7))) rfl rfl (j := 48) rfl (by have e0 := hb.2.2.2.2.2; have e1 := ha.2.2.2.2.2; simp [fd_a, fd_n, fd_isO, fd_al, ha.1, hb.1, ha.2.1, ha.2.2.1, ha.2.2.2.1, ha.2.2.2.2.1, hb.2.1, hb.2.2.1, hb.2.2.2.1, hb.2.2.2.2.1, fd_inb, Nat.blt_eq, fd_up, fd_cp, n0, n1, n2, n3, n4] <;> omega) ?_
  refine fd_u_ret (C := fd_c143) (b := true) (r' := none) rfl rfl rfl (rfl) ?_ ?_
  · rfl
  · rw [← fd_cps_eq M a b hab]
    simp [fd_up, fd_cp, n0, n1, n2, n3, n4]

theorem fd_scn_h : ∀ j, j < 10 → fd_scn (21 + 5 * j) := by decide +kernel
theorem fd_scn_i : ∀ j, j < 10 → fd_scn (91 + 5 * j) ∧ fd_scn (149 + 5 * j) := by decide +kernel
theorem fd_scn_n : fd_scn 14 ∧ fd_scn 84 ∧ fd_scn 142 := by decide +kernel
def fd_HS (M : fd_M) : Prop := ∀ i : Nat, i < 10 → ∃ j : Nat, j < 10 ∧ M 20 i = ((21 + 5 * j : Nat) : Int)
def fd_ls (M : fd_M) (i : Nat) : fd_M := fun c k => if c = 20 ∧ k + 1 < i then M 20 (k + 1) else M c k
def fd_lose (M : fd_M) : fd_M := fun c k => if c = 20 ∧ k < 9 then M 20 (k + 1) else if c = 20 ∧ k = 9 then M 20 0 else if c = 19 ∧ k = 1 then 9 else M c k
theorem fd_ls_step (M : fd_M) (i : Nat) (h1 : 1 ≤ i) (hv : 0 ≤ M 20 i) : fd_up (fd_ls M i) 20 ((i : Int) - 1).toNat (((fd_ls M i 20 i).toNat : Nat) : Int) = fd_ls M (i + 1) := by
  have e : fd_ls M i 20 i = M 20 i := by
    show (if 20 = 20 ∧ i + 1 < i then M 20 (i + 1) else M 20 i) = M 20 i
    rw [if_neg (by omega)]
  rw [e, Int.toNat_of_nonneg hv]
  funext c k
  simp only [fd_up, fd_ls]
  have ek : ((i : Int) - 1).toNat = i - 1 := by omega
  rw [ek]
  by_cases hc : c = 20
  · subst hc
    by_cases hk : k = i - 1
    · rw [if_pos ⟨rfl, hk⟩, if_pos ⟨rfl, by omega⟩]
      rw [show k + 1 = i by omega]
    · rw [if_neg (fun q => hk q.2)]
      by_cases hk2 : k + 1 < i
      · rw [if_pos ⟨rfl, hk2⟩, if_pos ⟨rfl, by omega⟩]
      · rw [if_neg (fun q => hk2 q.2), if_neg (fun q => by omega)]
  · simp [hc]
theorem fd_lose_eq (M : fd_M) (hv : 0 ≤ M 20 0) : fd_up (fd_up (fd_ls M 10) 20 9 (((M 20 0).toNat : Nat) : Int)) 19 1 9 = fd_lose M := by
  rw [Int.toNat_of_nonneg hv]
  funext c k
  simp only [fd_up, fd_ls, fd_lose]
  by_cases hc : c = 20
  · subst hc
    by_cases hk : k = 9
    · subst hk; simp
    · by_cases hk2 : k < 9
      · simp [hk, hk2, show k + 1 < 10 by omega]
      · simp [hk, hk2, show ¬ k + 1 < 10 by omega]
  · simp [hc]
theorem fd_l_lose (M : fd_M) (hs : fd_HS M) : ∀ (n : Nat) (i : Nat) (hi : i + n = 10) (h1 : 1 ≤ i), fd_run 0 114 7 [fd_R 19, fd_R ((M 20 0).toNat), fd_I ((i : Nat) : Int)] [] (fd_ls M i) (none) (fd_lose M) := by
  obtain ⟨j0, hj0, ej0⟩ := hs 0 (by omega)
  have hx0 := (fd_scn_h j0 hj0).1
  intro n
  induction n with
  | zero =>
    intro i hi h1
    have ex := ej0
    have hx := hx0
    have hx9 : fd_SH (M 20 0).toNat = (5, 8) := by rw [ej0]; exact hx0
    have hx9L : (M 20 0).toNat < 1000 := by omega
    have hxT := hx9
    have hxL := hx9L
    refine fd_u_blk 4 (C := fd_c114) (b := true) (L' := [fd_R 19, fd_R ((M 20 0).toNat), fd_I ((i : Nat) : Int)]) (st' := [fd_I 10, fd_I ((i : Nat) : Int)]) (M' := (fd_ls M i)) rfl rfl (j := 11) rfl (rfl) ?_
    refine fd_u_br (C := fd_c114) (t := 24) (e := 12) (st' := []) (c := 10 ≤ ((i : Nat) : Int)) (b := (fd_rng ((i : Nat) : Int) && fd_rng 10)) rfl rfl rfl (fd_bA (fd_bR (by omega) (by omega)) (fd_bR (by omega) (by omega))) (fun h11 => ?_) (fun h11 => absurd h11 (by omega))
    refine fd_u_blk 12 (C := fd_c114) (L' := [fd_R 19, fd_R ((M 20 0).toNat), fd_I ((i : Nat) : Int)]) (st' := []) (M' := (fd_up (fd_up (fd_ls M i) 20 9 (((M 20 0).toNat : Nat) : Int)) 19 1 9)) rfl rfl (j := 36) rfl (by simp [fd_a, fd_n, fd_isA, fd_isO, fd_al, fd_tt, fd_inb, Nat.blt_eq, hxT, hxL, hx9L, hx9, show fd_SH 20 = (23, 10) from rfl, show fd_SH 19 = (1, 2) from rfl, show ∀ Mx : fd_M, fd_rf true Mx 19 0 = 20 from fun _ => rfl, fd_gf] <;> omega) ?_
    refine fd_u_ret (C := fd_c114) (b := true) (r' := none) rfl rfl rfl (rfl) ?_ ?_
    · rfl
    · have e9 := fd_lose_eq M (by omega)
      have ei : i = 10 := by omega
      subst ei
      exact e9
  | succ n ih =>
    intro i hi h1
    obtain ⟨j, hj, ej⟩ := hs i (by omega)
    have ex : fd_ls M i 20 i = ((21 + 5 * j : Nat) : Int) := by rw [← ej]; show (if 20 = 20 ∧ i + 1 < i then M 20 (i + 1) else M 20 i) = M 20 i; rw [if_neg (by omega)]
    have hx := (fd_scn_h j hj).1
    have hx9 : fd_SH (M 20 0).toNat = (5, 8) := by rw [ej0]; exact hx0
    have hx9L : (M 20 0).toNat < 1000 := by omega
    have hxT : fd_SH (fd_ls M i 20 i).toNat = (5, 8) := by rw [ex]; exact hx
    have hxL : (fd_ls M i 20 i).toNat < 1000 := by omega
    refine fd_u_blk 4 (C := fd_c114) (b := true) (L' := [fd_R 19, fd_R ((M 20 0).toNat), fd_I ((i : Nat) : Int)]) (st' := [fd_I 10, fd_I ((i : Nat) : Int)]) (M' := (fd_ls M i)) rfl rfl (j := 11) rfl (rfl) ?_
    refine fd_u_br (C := fd_c114) (t := 24) (e := 12) (st' := []) (c := 10 ≤ ((i : Nat) : Int)) (b := (fd_rng ((i : Nat) : Int) && fd_rng 10)) rfl rfl rfl (fd_bA (fd_bR (by omega) (by omega)) (fd_bR (by omega) (by omega))) (fun h11 => absurd h11 (by omega)) (fun h11 => ?_)
    refine fd_u_blk 11 (C := fd_c114) (L' := [fd_R 19, fd_R ((M 20 0).toNat), fd_I (((i + 1) : Nat) : Int)]) (st' := []) (M' := (fd_up (fd_ls M i) 20 (((i : Nat) : Int) - 1).toNat ((((fd_ls M i) 20 i).toNat : Nat) : Int))) rfl rfl (j := 23) rfl (by simp [fd_a, fd_n, fd_isA, fd_isO, fd_al, fd_tt, fd_inb, Nat.blt_eq, hxT, hxL, hx9L, hx9, show fd_SH 20 = (23, 10) from rfl, show fd_SH 19 = (1, 2) from rfl, show ∀ Mx : fd_M, fd_rf true Mx 19 0 = 20 from fun _ => rfl, fd_gf] <;> omega) ?_
    refine fd_u_jmp (C := fd_c114) (j := 7) (st' := []) rfl rfl (b := true) rfl rfl ?_
    rw [fd_ls_step M i h1 (by omega)]
    exact ih (i + 1) (by omega) (by omega)

theorem fd_s_loseOldest (M : fd_M) (hs : fd_HS M) : fd_call 0 114 [fd_R 19] M (none) (fd_lose M) := by
  refine fd_u_in (L := [fd_R 19, fd_R 1003, fd_R 1003]) rfl ?_
  obtain ⟨j0, hj0, ej0⟩ := hs 0 (by omega)
  refine fd_u_blk 7 (C := fd_c114) (L' := [fd_R 19, fd_R ((M 20 0).toNat), fd_I 1]) (st' := []) (M' := M) rfl rfl (j := 7) rfl (by simp [fd_a, fd_n, fd_isA, fd_isO, fd_al, fd_inb, Nat.blt_eq, ej0, show fd_SH 20 = (23, 10) from rfl, show fd_SH 19 = (1, 2) from rfl, show ∀ Mx : fd_M, fd_rf true Mx 19 0 = 20 from fun _ => rfl, fd_gf] <;> omega) ?_
  have e9 : fd_ls M 1 = M := by
    funext c k
    simp [fd_ls]
  have k9 := fd_l_lose M hs 9 1 (by omega) (by omega)
  rw [e9] at k9
  exact k9

def fd_psh (M : fd_M) : fd_M := fd_up (fd_cps M (M 20 (M 19 1).toNat).toNat 14) 19 1 (fd_cps M (M 20 (M 19 1).toNat).toNat 14 19 1 + 1)
def fd_push (M : fd_M) : fd_M := if M 19 1 = 10 then fd_psh (fd_lose M) else fd_psh M
theorem fd_HS_lose {M : fd_M} (h : fd_HS M) : fd_HS (fd_lose M) := by
  intro i hi
  by_cases h9 : i < 9
  · obtain ⟨j, hj, e⟩ := h (i + 1) (by omega)
    exact ⟨j, hj, by show (if 20 = 20 ∧ i < 9 then M 20 (i + 1) else _) = _; rw [if_pos ⟨rfl, h9⟩]; exact e⟩
  · obtain ⟨j, hj, e⟩ := h 0 (by omega)
    refine ⟨j, hj, ?_⟩
    show (if 20 = 20 ∧ i < 9 then M 20 (i + 1) else if 20 = 20 ∧ i = 9 then M 20 0 else _) = _
    rw [if_neg (fun q => h9 q.2), if_pos ⟨rfl, by omega⟩]
    exact e
theorem fd_f_push (M : fd_M) (hs : fd_HS M) (h19 : 0 ≤ M 19 1 ∧ M 19 1 ≤ 9) (h6 : 0 ≤ M 14 6 ∧ M 14 6 ≤ 1) (h7 : 0 ≤ M 14 7 ∧ M 14 7 ≤ 1) : fd_run 2 113 6 [fd_R 19, fd_R 14] [] M (none) (fd_psh M) := by
  obtain ⟨j, hj, ej⟩ := hs (M 19 1).toNat (by omega)
  have hsc : fd_scn (M 20 (M 19 1).toNat).toNat := by rw [ej]; exact fd_scn_h j hj
  refine fd_u_blk 6 (C := fd_c113) (b := (((fd_inb (M 19 1) 10 || fd_isA true M 20 24 (M 19 1)) && Nat.blt (M 20 (M 19 1).toNat).toNat 1000) && true)) (L' := [fd_R 19, fd_R 14]) (st' := [fd_R 14, fd_R ((M 20 (M 19 1).toNat).toNat)]) (M' := M) rfl rfl (j := 12) rfl (fd_bA (fd_bA (by rw [fd_bI (i := (M 19 1)) (n := 10) (by omega) (by omega)]; rfl) (by rw [Nat.blt_eq]; omega)) (rfl)) ?_
  refine fd_u_call (C := fd_c113) (d0 := 0) (mid := 143) (np := 2) (args := [fd_R ((M 20 (M 19 1).toNat).toNat), fd_R 14]) (r1 := none) (M1 := (fd_cps M (M 20 (M 19 1).toNat).toNat 14)) (st' := []) rfl rfl rfl rfl rfl rfl (by simp [fd_inv, fd_n1, fd_cw, fd_isO, fd_al, hsc.1, Nat.blt_eq, show fd_mc 143 = 5 from rfl]; omega) (fd_s_copyFrom M (M 20 (M 19 1).toNat).toNat 14 hsc fd_scn_n.1 (by omega) h6 h7) rfl (by omega) ?_
  refine fd_u_blk 6 (C := fd_c113) (b := true) (L' := [fd_R 19, fd_R 14]) (st' := []) (M' := (fd_up (fd_cps M (M 20 (M 19 1).toNat).toNat 14) 19 1 (((fd_cps M (M 20 (M 19 1).toNat).toNat 14) 19 1) + 1))) rfl rfl (j := 19) rfl (rfl) ?_
  refine fd_u_ret (C := fd_c113) (b := true) (r' := none) rfl rfl rfl (rfl) ?_ ?_
  · rfl
  · rfl

theorem fd_s_push (M : fd_M) (hs : fd_HS M) (h19 : 0 ≤ M 19 1 ∧ M 19 1 ≤ 10) (h6 : 0 ≤ M 14 6 ∧ M 14 6 ≤ 1) (h7 : 0 ≤ M 14 7 ∧ M 14 7 ≤ 1) : fd_call 2 113 [fd_R 19, fd_R 14] M (none) (fd_push M) := by
  refine fd_u_in (L := [fd_R 19, fd_R 14]) rfl ?_
  refine fd_u_blk 3 (C := fd_c113) (b := true) (L' := [fd_R 19, fd_R 14]) (st' := [fd_I 10, fd_I (M 19 1)]) (M' := M) rfl rfl (j := 3) rfl (rfl) ?_
  refine fd_u_br (C := fd_c113) (t := 6) (e := 4) (st' := []) (c := (M 19 1) < 10) (b := (fd_rng (M 19 1) && fd_rng 10)) rfl rfl rfl (fd_bA (fd_bR (by omega) (by omega)) (fd_bR (by omega) (by omega))) (fun h3 => ?_) (fun h3 => ?_)
  · rw [fd_push, if_neg (by omega)]
    exact fd_f_push M hs (by omega) h6 h7
  · refine fd_u_blk 1 (C := fd_c113) (b := true) (L' := [fd_R 19, fd_R 14]) (st' := [fd_R 19]) (M' := M) rfl rfl (j := 5) rfl (rfl) ?_
    refine fd_u_call (C := fd_c113) (d0 := 0) (mid := 114) (np := 1) (args := [fd_R 19]) (r1 := none) (M1 := (fd_lose M)) (st' := []) rfl rfl rfl rfl rfl rfl (rfl) (fd_s_loseOldest M hs) rfl (by omega) ?_
    rw [fd_push, if_pos (by omega)]
    exact fd_f_push (fd_lose M) (fd_HS_lose hs) (by simp [fd_lose]) (by simpa [fd_lose] using h6) (by simpa [fd_lose] using h7)

def fd_pop (M : fd_M) : fd_M := fd_cps (fd_up M 19 1 (M 19 1 - 1)) 14 (M 20 (M 19 1 - 1).toNat).toNat
theorem fd_s_pop (M : fd_M) (hs : fd_HS M) (h19 : 1 ≤ M 19 1 ∧ M 19 1 ≤ 10) (h6 : 0 ≤ M (M 20 (M 19 1 - 1).toNat).toNat 6 ∧ M (M 20 (M 19 1 - 1).toNat).toNat 6 ≤ 1) (h7 : 0 ≤ M (M 20 (M 19 1 - 1).toNat).toNat 7 ∧ M (M 20 (M 19 1 - 1).toNat).toNat 7 ≤ 1) : fd_call 2 115 [fd_R 19, fd_R 14] M (none) (fd_pop M) := by
  refine fd_u_in (L := [fd_R 19, fd_R 14]) rfl ?_
  obtain ⟨j, hj, ej⟩ := hs (M 19 1 - 1).toNat (by omega)
  have hsc : fd_scn (M 20 (M 19 1 - 1).toNat).toNat := by rw [ej]; exact fd_scn_h j hj
  have hb6 : (fd_up M 19 1 (M 19 1 - 1)) (M 20 (M 19 1 - 1).toNat).toNat 6 = M (M 20 (M 19 1 - 1).toNat).toNat 6 := by rw [fd_up_ne (by omega)]
  have hb7 : (fd_up M 19 1 (M 19 1 - 1)) (M 20 (M 19 1 - 1).toNat).toNat 7 = M (M 20 (M 19 1 - 1).toNat).toNat 7 := by rw [fd_up_ne (by omega)]
  refine fd_u_blk 2 (C := fd_c115) (b := true) (L' := [fd_R 19, fd_R 14]) (st' := [fd_I (M 19 1)]) (M' := M) rfl rfl (j := 2) rfl (rfl) ?_
  refine fd_u_br (C := fd_c115) (t := 16) (e := 3) (st' := []) (c := (M 19 1) ≤ 0) (b := (fd_rng (M 19 1))) rfl rfl rfl (fd_bR (by omega) (by omega)) (fun h2 => absurd h2 (by omega)) (fun h2 => ?_)
  refine fd_u_blk 12 (C := fd_c115) (b := (((fd_inb ((M 19 1) - 1) 10 || fd_isA true (fd_up M 19 1 ((M 19 1) - 1)) 20 24 ((M 19 1) - 1)) && Nat.blt (M 20 ((M 19 1) - 1).toNat).toNat 1000) && true)) (L' := [fd_R 19, fd_R 14]) (st' := [fd_R ((M 20 ((M 19 1) - 1).toNat).toNat), fd_R 14]) (M' := (fd_up M 19 1 ((M 19 1) - 1))) rfl rfl (j := 15) rfl (fd_bA (fd_bA (by rw [fd_bI (i := ((M 19 1) - 1)) (n := 10) (by omega) (by omega)]; rfl) (by rw [Nat.blt_eq]; omega)) (rfl)) ?_
  refine fd_u_call (C := fd_c115) (d0 := 0) (mid := 143) (np := 2) (args := [fd_R 14, fd_R ((M 20 ((M 19 1) - 1).toNat).toNat)]) (r1 := none) (M1 := (fd_cps (fd_up M 19 1 ((M 19 1) - 1)) 14 (M 20 ((M 19 1) - 1).toNat).toNat)) (st' := []) rfl rfl rfl rfl rfl rfl (by have e1 := hsc.2.2.2.2.2; simp only [fd_inv, fd_n1, fd_cw, fd_isO, fd_al, List.take_succ_cons, List.take_zero, List.drop_succ_cons, List.drop_zero, List.all_cons, List.all_nil, List.reverse_cons, List.reverse_nil, List.nil_append, List.singleton_append, List.length_cons, List.length_nil, List.map_nil, List.sum_nil, show Nat.blt (M 20 ((M 19 1) - 1).toNat).toNat 1000 = true by rw [Nat.blt_eq]; omega]; rfl) (fd_s_copyFrom (fd_up M 19 1 ((M 19 1) - 1)) 14 (M 20 ((M 19 1) - 1).toNat).toNat fd_scn_n.1 hsc (by omega) (by rw [hb6]; exact h6) (by rw [hb7]; exact h7)) rfl (by omega) ?_
  refine fd_u_ret (C := fd_c115) (b := true) (r' := none) rfl rfl rfl (rfl) ?_ ?_
  · rfl
  · rfl
end
section
/-! what is done: the class -/
theorem fd_psh_fr {M : fd_M} (hs : fd_HS M) (h19 : 0 ≤ M 19 1 ∧ M 19 1 ≤ 9) {c : Nat} (hc : c < 19 ∨ 71 ≤ c) : fd_psh M c = M c := by
  obtain ⟨j, hj, ej⟩ := hs (M 19 1).toNat (by omega)
  funext k
  unfold fd_psh
  rw [fd_up_ne (by omega), ej]
  unfold fd_cps
  rw [if_neg (by omega), if_neg (by omega)]
theorem fd_lose_fr {M : fd_M} {c : Nat} (hc : c < 19 ∨ 21 ≤ c) : fd_lose M c = M c := by
  funext k
  unfold fd_lose
  rw [if_neg (by omega), if_neg (by omega), if_neg (by omega)]
theorem fd_push_fr {M : fd_M} (hs : fd_HS M) (h19 : 0 ≤ M 19 1 ∧ M 19 1 ≤ 10) {c : Nat} (hc : c < 19 ∨ 71 ≤ c) : fd_push M c = M c := by
  unfold fd_push
  by_cases h : M 19 1 = 10
  · rw [if_pos h, fd_psh_fr (fd_HS_lose hs) (by simp [fd_lose]) hc, fd_lose_fr (by omega)]
  · rw [if_neg h, fd_psh_fr hs (by omega) hc]
theorem fd_push_sz {M : fd_M} (hs : fd_HS M) (h19 : 0 ≤ M 19 1 ∧ M 19 1 ≤ 10) : fd_push M 19 1 = if M 19 1 = 10 then 10 else M 19 1 + 1 := by
  unfold fd_push
  by_cases h : M 19 1 = 10
  · rw [if_pos h, if_pos h]
    obtain ⟨j, hj, ej⟩ := fd_HS_lose hs 9 (by omega)
    unfold fd_psh
    rw [show fd_lose M 19 1 = 9 by simp [fd_lose], show (9 : Int).toNat = 9 from rfl, ej, fd_up_at, if_pos rfl]
    unfold fd_cps
    rw [if_neg (by omega), if_neg (by omega)]
    simp [fd_lose]
  · rw [if_neg h, if_neg h]
    obtain ⟨j, hj, ej⟩ := hs (M 19 1).toNat (by omega)
    unfold fd_psh
    rw [fd_up_at, if_pos rfl, ej]
    unfold fd_cps
    rw [if_neg (by omega), if_neg (by omega)]
theorem fd_CG_of {M N : fd_M} (hG : fd_CG M) (h3 : N 3 = M 3) (h4 : N 4 = M 4) (h14 : N 14 = M 14) (h15 : N 15 = M 15) (h16 : N 16 = M 16) (h17 : N 17 = M 17) (h18 : N 18 = M 18) : fd_CG N := by
  unfold fd_CG fd_PG fd_SG at hG ⊢
  simp only [Nat.reduceAdd] at hG ⊢
  rw [h3, h4, h14, h15, h16, h17, h18]
  exact hG
theorem fd_CG_push {M : fd_M} (hG : fd_CG M) (hs : fd_HS M) (h19 : 0 ≤ M 19 1 ∧ M 19 1 ≤ 10) : fd_CG (fd_push M) :=
  fd_CG_of hG (fd_push_fr hs h19 (by omega)) (fd_push_fr hs h19 (by omega)) (fd_push_fr hs h19 (by omega)) (fd_push_fr hs h19 (by omega)) (fd_push_fr hs h19 (by omega)) (fd_push_fr hs h19 (by omega)) (fd_push_fr hs h19 (by omega))
theorem fd_up_all {P : Int → Prop} {M : fd_M} {c k : Nat} {v : Int} (h : ∀ d : Nat, P (M c d)) (hv : P v) : ∀ d : Nat, P (fd_up M c k v c d) := by
  intro d
  rw [fd_up_at]
  by_cases q : d = k
  · rw [if_pos q]; exact hv
  · rw [if_neg q]; exact h d
theorem fd_CG_x {M : fd_M} (hG : fd_CG M) (k : Nat) {v : Int} (hv : 0 ≤ v ∧ v ≤ 6) : fd_CG (fd_up M 15 k v) :=
  ⟨hG.1, fd_up_all (P := fun z => 0 ≤ z ∧ z ≤ 6) hG.2.1 hv, hG.2.2⟩
theorem fd_CG_y {M : fd_M} (hG : fd_CG M) (k : Nat) {v : Int} (hv : 0 ≤ v ∧ v ≤ 6) : fd_CG (fd_up M 16 k v) :=
  ⟨hG.1, hG.2.1, fd_up_all (P := fun z => 0 ≤ z ∧ z ≤ 6) hG.2.2.1 hv, hG.2.2.2⟩
theorem fd_CG_w {M : fd_M} (hG : fd_CG M) (k : Nat) {v : Int} (hv : 0 ≤ v ∧ v ≤ 3) : fd_CG (fd_up M 17 k v) :=
  ⟨hG.1, hG.2.1, hG.2.2.1, fd_up_all (P := fun z => 0 ≤ z ∧ z ≤ 3) hG.2.2.2.1 hv, hG.2.2.2.2⟩
theorem fd_CG_o {M : fd_M} (hG : fd_CG M) (k : Nat) {v : Int} (hv : 0 ≤ v ∧ v ≤ 9999) : fd_CG (fd_up M 18 k v) :=
  ⟨hG.1, hG.2.1, hG.2.2.1, hG.2.2.2.1, fd_up_all (P := fun z => 0 ≤ z ∧ z ≤ 9999) hG.2.2.2.2.1 hv, hG.2.2.2.2.2⟩
theorem fd_CG_4 {M : fd_M} (hG : fd_CG M) {v : Int} (hv : 0 ≤ v ∧ v < 64) : fd_CG (fd_up M 14 4 v) :=
  ⟨hG.1, hG.2.1, hG.2.2.1, hG.2.2.2.1, hG.2.2.2.2.1, hv, hG.2.2.2.2.2.2⟩
theorem fd_CG_5 {M : fd_M} (hG : fd_CG M) {v : Int} (hv : 0 ≤ v ∧ v < 562949953421312) : fd_CG (fd_up M 14 5 v) :=
  ⟨hG.1, hG.2.1, hG.2.2.1, hG.2.2.2.1, hG.2.2.2.2.1, hG.2.2.2.2.2.1, hv, hG.2.2.2.2.2.2.2⟩
theorem fd_CG_6 {M : fd_M} (hG : fd_CG M) {v : Int} (hv : 0 ≤ v ∧ v ≤ 1) : fd_CG (fd_up M 14 6 v) :=
  ⟨hG.1, hG.2.1, hG.2.2.1, hG.2.2.2.1, hG.2.2.2.2.1, hG.2.2.2.2.2.1, hG.2.2.2.2.2.2.1, hv, hG.2.2.2.2.2.2.2.2⟩
theorem fd_CG_7 {M : fd_M} (hG : fd_CG M) {v : Int} (hv : 0 ≤ v ∧ v ≤ 1) : fd_CG (fd_up M 14 7 v) :=
  ⟨hG.1, hG.2.1, hG.2.2.1, hG.2.2.2.1, hG.2.2.2.2.1, hG.2.2.2.2.2.1, hG.2.2.2.2.2.2.1, hG.2.2.2.2.2.2.2.1, hv⟩
theorem fd_xor_rng {a : Int} (h : 0 ≤ a ∧ a < 64) {k : Nat} (hk : k < 6) : 0 ≤ fd_xor a (2 ^ k) ∧ fd_xor a (2 ^ k) < 64 := by
  obtain ⟨n, rfl⟩ := Int.eq_ofNat_of_zero_le h.1
  have key : ∀ n : Fin 64, ∀ k : Fin 6, 0 ≤ fd_xor (n.val : Int) (2 ^ k.val) ∧ fd_xor (n.val : Int) (2 ^ k.val) < 64 := by decide +kernel
  exact key ⟨n, by omega⟩ ⟨k, hk⟩
theorem fd_lxorN (n m : Nat) (hn : n < 2 ^ 63) (hm : m < 2 ^ 63) : fd_lxor (n : Int) (m : Int) = ((n ^^^ m : Nat) : Int) := by
  unfold fd_lxor
  have e1 : Int64.ofInt (n : Int) = lN n := Int64.ofInt_eq_ofNat
  have e2 : Int64.ofInt (m : Int) = lN m := Int64.ofInt_eq_ofNat
  have e3 : lN n ^^^ lN m = lN (n ^^^ m) := by
    apply Int64.toBitVec.inj
    show BitVec.ofNat 64 n ^^^ BitVec.ofNat 64 m = BitVec.ofNat 64 (n ^^^ m)
    apply BitVec.eq_of_toNat_eq
    simp [BitVec.toNat_xor, BitVec.toNat_ofNat, Nat.xor_mod_two_pow]
  rw [e1, e2, e3]
  exact Int64.toInt_ofNat_of_lt (Nat.xor_lt_two_pow hn hm)
theorem fd_lxor_rng {a : Int} (h : 0 ≤ a ∧ a < 562949953421312) {k : Nat} (hk : k < 49) : 0 ≤ fd_lxor a (2 ^ k) ∧ fd_lxor a (2 ^ k) < 562949953421312 := by
  obtain ⟨n, rfl⟩ := Int.eq_ofNat_of_zero_le h.1
  have hp : 2 ^ k < 2 ^ 49 := Nat.pow_lt_pow_right (by decide) hk
  rw [show (2 : Int) ^ k = ((2 ^ k : Nat) : Int) by simp, fd_lxorN n (2 ^ k) (by omega) (by omega)]
  have := Nat.xor_lt_two_pow (x := n) (y := 2 ^ k) (n := 49) (by omega) hp
  omega
def fd_X_hinges (M : fd_M) (d w : Int) : Int := if ¬ (0 ≤ d ∧ d < M 3 2 ∧ 0 ≤ w ∧ w < 4) then -1 else if M 17 d.toNat = w then -2 else M 17 d.toNat
def fd_Y_hinges (M : fd_M) (d w : Int) : fd_M := if ¬ (0 ≤ d ∧ d < M 3 2 ∧ 0 ≤ w ∧ w < 4) then M else if M 17 d.toNat = w then M else fd_up (fd_push M) 17 d.toNat w
theorem fd_x_hinges (M : fd_M) (hG : fd_CG M) (hs : fd_HS M) (h19 : 0 ≤ M 19 1 ∧ M 19 1 ≤ 10) (d : Int) (hd : -2147483648 ≤ d ∧ d < 2147483648) (w : Int) (hw : -2147483648 ≤ w ∧ w < 2147483648) : fd_call 3 6 [fd_R 0, fd_I d, fd_I w] M (some (fd_I (fd_X_hinges M d w))) (fd_Y_hinges M d w) := by
  refine fd_u_in (L := [fd_R 0, fd_I d, fd_I w, fd_R 1003]) rfl ?_
  obtain ⟨g0, g1, g2, g3, g4, g5⟩ := hG.1
  obtain ⟨s1, s2, s3, s4, s5, s6, s7, s8⟩ := hG.2
  have q1 := s1 d.toNat
  have q2 := s2 d.toNat
  have q3 := s3 d.toNat
  have q4 := s4 d.toNat
  simp only [Nat.reduceAdd] at q1 q2 q3 q4
  have hp6 : 0 ≤ M 14 6 ∧ M 14 6 ≤ 1 := hG.2.2.2.2.2.2.2.1
  have hp7 : 0 ≤ M 14 7 ∧ M 14 7 ≤ 1 := hG.2.2.2.2.2.2.2.2
  have hP := fd_CG_push hG hs h19
  refine fd_u_blk 3 (C := fd_c6) (b := true) (L' := [fd_R 0, fd_I d, fd_I w, fd_R 1003]) (st' := [fd_I d, fd_R 3]) (M' := M) rfl rfl (j := 3) rfl (rfl) ?_
  refine fd_u_call (C := fd_c6) (d0 := 0) (mid := 124) (np := 2) (args := [fd_R 3, fd_I d]) (r1 := some (fd_I (fd_bi (0 ≤ d ∧ d < M 3 2)))) (M1 := M) (st' := [fd_I (fd_bi (0 ≤ d ∧ d < M 3 2))]) rfl rfl rfl rfl rfl rfl (rfl) (fd_s_hasDoor M d (by omega) (by omega)) rfl (by omega) ?_
  refine fd_u_br (C := fd_c6) (t := 8) (e := 5) (st' := []) (c := (fd_bi (0 ≤ d ∧ d < M 3 2)) = 0) (b := (fd_rng (fd_bi (0 ≤ d ∧ d < M 3 2)))) rfl rfl rfl (fd_biR) (fun h4 => ?_) (fun h4 => ?_)
  · have h4 := fd_biF.mp h4
    refine fd_u_blk 1 (C := fd_c6) (b := true) (L' := [fd_R 0, fd_I d, fd_I w, fd_R 1003]) (st' := [fd_I (-1)]) (M' := M) rfl rfl (j := 9) rfl (rfl) ?_
    refine fd_u_ret (C := fd_c6) (b := true) (r' := some (fd_I (-1))) rfl rfl rfl (rfl) ?_ ?_
    · rw [fd_X_hinges, if_pos (show ¬ (0 ≤ d ∧ d < M 3 2 ∧ 0 ≤ w ∧ w < 4) by omega)]
    · rw [fd_Y_hinges, if_pos (show ¬ (0 ≤ d ∧ d < M 3 2 ∧ 0 ≤ w ∧ w < 4) by omega)]
  · have h4 := fd_biT.mp h4
    refine fd_u_blk 1 (C := fd_c6) (b := true) (L' := [fd_R 0, fd_I d, fd_I w, fd_R 1003]) (st' := [fd_I w]) (M' := M) rfl rfl (j := 6) rfl (rfl) ?_
    refine fd_u_call (C := fd_c6) (d0 := 0) (mid := 38) (np := 1) (args := [fd_I w]) (r1 := some (fd_I (fd_bi (0 ≤ w ∧ w < 4)))) (M1 := M) (st' := [fd_I (fd_bi (0 ≤ w ∧ w < 4))]) rfl rfl rfl rfl rfl rfl (rfl) (fd_s_isWay M w (by omega)) rfl (by omega) ?_
    refine fd_u_br (C := fd_c6) (t := 10) (e := 8) (st' := []) (c := ¬ (fd_bi (0 ≤ w ∧ w < 4)) = 0) (b := (fd_rng (fd_bi (0 ≤ w ∧ w < 4)))) rfl rfl rfl (fd_biR) (fun h7 => ?_) (fun h7 => ?_)
    · have h7 := fd_biT.mp h7
      refine fd_u_blk 8 (C := fd_c6) (b := (fd_inb d 6 && true)) (L' := [fd_R 0, fd_I d, fd_I w, fd_I (M 17 (d).toNat)]) (st' := [fd_I w, fd_I (M 17 (d).toNat)]) (M' := M) rfl rfl (j := 18) rfl (fd_bA (fd_bI (by omega) (by omega)) (rfl)) ?_
      refine fd_u_br (C := fd_c6) (t := 21) (e := 19) (st' := []) (c := ¬ (M 17 (d).toNat) = w) (b := (fd_rng (M 17 (d).toNat) && fd_rng w)) rfl rfl rfl (fd_bA (fd_bR (by omega) (by omega)) (fd_bR (by omega) (by omega))) (fun h18 => ?_) (fun h18 => ?_)
      · refine fd_u_blk 4 (C := fd_c6) (b := true) (L' := [fd_R 0, fd_I d, fd_I w, fd_I (M 17 (d).toNat)]) (st' := [fd_R 14, fd_R 19]) (M' := M) rfl rfl (j := 25) rfl (rfl) ?_
        refine fd_u_call (C := fd_c6) (d0 := 2) (mid := 113) (np := 2) (args := [fd_R 19, fd_R 14]) (r1 := none) (M1 := (fd_push M)) (st' := []) rfl rfl rfl rfl rfl rfl (rfl) (fd_s_push M hs h19 hp6 hp7) rfl (by omega) ?_
        refine fd_u_blk 7 (C := fd_c6) (b := (fd_inb d 6 && true)) (L' := [fd_R 0, fd_I d, fd_I w, fd_I (M 17 (d).toNat)]) (st' := [fd_I (M 17 (d).toNat)]) (M' := (fd_up (fd_push M) 17 (d).toNat w)) rfl rfl (j := 33) rfl (fd_bA (fd_bI (by omega) (by omega)) (rfl)) ?_
        refine fd_u_ret (C := fd_c6) (b := true) (r' := some (fd_I (M 17 (d).toNat))) rfl rfl rfl (rfl) ?_ ?_
        · rw [fd_X_hinges, if_neg (show ¬ ¬ (0 ≤ d ∧ d < M 3 2 ∧ 0 ≤ w ∧ w < 4) by omega), if_neg (show ¬ (M 17 d.toNat = w) by omega)]
        · rw [fd_Y_hinges, if_neg (show ¬ ¬ (0 ≤ d ∧ d < M 3 2 ∧ 0 ≤ w ∧ w < 4) by omega), if_neg (show ¬ (M 17 d.toNat = w) by omega)]
      · refine fd_u_blk 1 (C := fd_c6) (b := true) (L' := [fd_R 0, fd_I d, fd_I w, fd_I (M 17 (d).toNat)]) (st' := [fd_I (-2)]) (M' := M) rfl rfl (j := 20) rfl (rfl) ?_
        refine fd_u_ret (C := fd_c6) (b := true) (r' := some (fd_I (-2))) rfl rfl rfl (rfl) ?_ ?_
        · rw [fd_X_hinges, if_neg (show ¬ ¬ (0 ≤ d ∧ d < M 3 2 ∧ 0 ≤ w ∧ w < 4) by omega), if_pos (show M 17 d.toNat = w by omega)]
        · rw [fd_Y_hinges, if_neg (show ¬ ¬ (0 ≤ d ∧ d < M 3 2 ∧ 0 ≤ w ∧ w < 4) by omega), if_pos (show M 17 d.toNat = w by omega)]
    · have h7 := fd_biF2  h7
      refine fd_u_blk 1 (C := fd_c6) (b := true) (L' := [fd_R 0, fd_I d, fd_I w, fd_R 1003]) (st' := [fd_I (-1)]) (M' := M) rfl rfl (j := 9) rfl (rfl) ?_
      refine fd_u_ret (C := fd_c6) (b := true) (r' := some (fd_I (-1))) rfl rfl rfl (rfl) ?_ ?_
      · rw [fd_X_hinges, if_pos (show ¬ (0 ≤ d ∧ d < M 3 2 ∧ 0 ≤ w ∧ w < 4) by omega)]
      · rw [fd_Y_hinges, if_pos (show ¬ (0 ≤ d ∧ d < M 3 2 ∧ 0 ≤ w ∧ w < 4) by omega)]

def fd_X_moves (M : fd_M) (d w : Int) : Int := if ¬ (0 ≤ d ∧ d < M 3 2 ∧ 0 ≤ w ∧ w < 4) then -1 else if ¬ fd_cvC M (M 15 d.toNat + fd_sx w) (M 16 d.toNat + fd_sy w) = 0 then -2 else fd_push M 19 1
def fd_Y_moves (M : fd_M) (d w : Int) : fd_M := if ¬ (0 ≤ d ∧ d < M 3 2 ∧ 0 ≤ w ∧ w < 4) then M else if ¬ fd_cvC M (M 15 d.toNat + fd_sx w) (M 16 d.toNat + fd_sy w) = 0 then M else (fd_up (fd_up (fd_push M) 15 d.toNat (M 15 d.toNat + fd_sx w)) 16 d.toNat (M 16 d.toNat + fd_sy w))
theorem fd_x_moves (M : fd_M) (hG : fd_CG M) (hs : fd_HS M) (h19 : 0 ≤ M 19 1 ∧ M 19 1 ≤ 10) (d : Int) (hd : -2147483648 ≤ d ∧ d < 2147483648) (w : Int) (hw : -2147483648 ≤ w ∧ w < 2147483648) : fd_call 4 7 [fd_R 0, fd_I d, fd_I w] M (some (fd_I (fd_X_moves M d w))) (fd_Y_moves M d w) := by
  refine fd_u_in (L := [fd_R 0, fd_I d, fd_I w, fd_R 1003, fd_R 1003]) rfl ?_
  obtain ⟨g0, g1, g2, g3, g4, g5⟩ := hG.1
  obtain ⟨s1, s2, s3, s4, s5, s6, s7, s8⟩ := hG.2
  have q1 := s1 d.toNat
  have q2 := s2 d.toNat
  have q3 := s3 d.toNat
  have q4 := s4 d.toNat
  simp only [Nat.reduceAdd] at q1 q2 q3 q4
  have hp6 : 0 ≤ M 14 6 ∧ M 14 6 ≤ 1 := hG.2.2.2.2.2.2.2.1
  have hp7 : 0 ≤ M 14 7 ∧ M 14 7 ≤ 1 := hG.2.2.2.2.2.2.2.2
  have hP := fd_CG_push hG hs h19
  have qx := fd_sx_rng w
  have qy := fd_sy_rng w
  have hz := fd_push_sz hs h19
  refine fd_u_blk 3 (C := fd_c7) (b := true) (L' := [fd_R 0, fd_I d, fd_I w, fd_R 1003, fd_R 1003]) (st' := [fd_I d, fd_R 3]) (M' := M) rfl rfl (j := 3) rfl (rfl) ?_
  refine fd_u_call (C := fd_c7) (d0 := 0) (mid := 124) (np := 2) (args := [fd_R 3, fd_I d]) (r1 := some (fd_I (fd_bi (0 ≤ d ∧ d < M 3 2)))) (M1 := M) (st' := [fd_I (fd_bi (0 ≤ d ∧ d < M 3 2))]) rfl rfl rfl rfl rfl rfl (rfl) (fd_s_hasDoor M d (by omega) (by omega)) rfl (by omega) ?_
  refine fd_u_br (C := fd_c7) (t := 8) (e := 5) (st' := []) (c := (fd_bi (0 ≤ d ∧ d < M 3 2)) = 0) (b := (fd_rng (fd_bi (0 ≤ d ∧ d < M 3 2)))) rfl rfl rfl (fd_biR) (fun h4 => ?_) (fun h4 => ?_)
  · have h4 := fd_biF.mp h4
    refine fd_u_blk 1 (C := fd_c7) (b := true) (L' := [fd_R 0, fd_I d, fd_I w, fd_R 1003, fd_R 1003]) (st' := [fd_I (-1)]) (M' := M) rfl rfl (j := 9) rfl (rfl) ?_
    refine fd_u_ret (C := fd_c7) (b := true) (r' := some (fd_I (-1))) rfl rfl rfl (rfl) ?_ ?_
    · rw [fd_X_moves, if_pos (show ¬ (0 ≤ d ∧ d < M 3 2 ∧ 0 ≤ w ∧ w < 4) by omega)]
    · rw [fd_Y_moves, if_pos (show ¬ (0 ≤ d ∧ d < M 3 2 ∧ 0 ≤ w ∧ w < 4) by omega)]
  · have h4 := fd_biT.mp h4
    refine fd_u_blk 1 (C := fd_c7) (b := true) (L' := [fd_R 0, fd_I d, fd_I w, fd_R 1003, fd_R 1003]) (st' := [fd_I w]) (M' := M) rfl rfl (j := 6) rfl (rfl) ?_
    refine fd_u_call (C := fd_c7) (d0 := 0) (mid := 38) (np := 1) (args := [fd_I w]) (r1 := some (fd_I (fd_bi (0 ≤ w ∧ w < 4)))) (M1 := M) (st' := [fd_I (fd_bi (0 ≤ w ∧ w < 4))]) rfl rfl rfl rfl rfl rfl (rfl) (fd_s_isWay M w (by omega)) rfl (by omega) ?_
    refine fd_u_br (C := fd_c7) (t := 10) (e := 8) (st' := []) (c := ¬ (fd_bi (0 ≤ w ∧ w < 4)) = 0) (b := (fd_rng (fd_bi (0 ≤ w ∧ w < 4)))) rfl rfl rfl (fd_biR) (fun h7 => ?_) (fun h7 => ?_)
    · have h7 := fd_biT.mp h7
      refine fd_u_blk 24 (C := fd_c7) (b := (fd_inb d 6 && (fd_inb w 4 && (fd_inb d 6 && (fd_inb w 4 && true))))) (L' := [fd_R 0, fd_I d, fd_I w, fd_I ((M 15 (d).toNat) + (fd_sx w)), fd_I ((M 16 (d).toNat) + (fd_sy w))]) (st' := [fd_I ((M 16 (d).toNat) + (fd_sy w)), fd_I ((M 15 (d).toNat) + (fd_sx w)), fd_R 72]) (M' := M) rfl rfl (j := 34) rfl (fd_bA (fd_bI (by omega) (by omega)) (fd_bA (fd_bI (by omega) (by omega)) (fd_bA (fd_bI (by omega) (by omega)) (fd_bA (fd_bI (by omega) (by omega)) (rfl))))) ?_
      refine fd_u_call (C := fd_c7) (d0 := 3) (mid := 150) (np := 3) (args := [fd_R 72, fd_I ((M 15 (d).toNat) + (fd_sx w)), fd_I ((M 16 (d).toNat) + (fd_sy w))]) (r1 := some (fd_I (fd_bi (fd_cvC M ((M 15 (d).toNat) + (fd_sx w)) ((M 16 (d).toNat) + (fd_sy w)) = 0)))) (M1 := M) (st' := [fd_I (fd_bi (fd_cvC M ((M 15 (d).toNat) + (fd_sx w)) ((M 16 (d).toNat) + (fd_sy w)) = 0))]) rfl rfl rfl rfl rfl rfl (rfl) (fd_s_isVacant M hG ((M 15 (d).toNat) + (fd_sx w)) ((M 16 (d).toNat) + (fd_sy w)) (by omega) (by omega)) rfl (by omega) ?_
      refine fd_u_br (C := fd_c7) (t := 38) (e := 36) (st' := []) (c := ¬ (fd_bi (fd_cvC M ((M 15 (d).toNat) + (fd_sx w)) ((M 16 (d).toNat) + (fd_sy w)) = 0)) = 0) (b := (fd_rng (fd_bi (fd_cvC M ((M 15 (d).toNat) + (fd_sx w)) ((M 16 (d).toNat) + (fd_sy w)) = 0)))) rfl rfl rfl (fd_biR) (fun h35 => ?_) (fun h35 => ?_)
      · have h35 := fd_biT.mp h35
        refine fd_u_blk 4 (C := fd_c7) (b := true) (L' := [fd_R 0, fd_I d, fd_I w, fd_I ((M 15 (d).toNat) + (fd_sx w)), fd_I ((M 16 (d).toNat) + (fd_sy w))]) (st' := [fd_R 14, fd_R 19]) (M' := M) rfl rfl (j := 42) rfl (rfl) ?_
        refine fd_u_call (C := fd_c7) (d0 := 2) (mid := 113) (np := 2) (args := [fd_R 19, fd_R 14]) (r1 := none) (M1 := (fd_push M)) (st' := []) rfl rfl rfl rfl rfl rfl (rfl) (fd_s_push M hs h19 hp6 hp7) rfl (by omega) ?_
        refine fd_u_blk 15 (C := fd_c7) (b := (fd_inb d 6 && (fd_inb d 6 && true))) (L' := [fd_R 0, fd_I d, fd_I w, fd_I ((M 15 (d).toNat) + (fd_sx w)), fd_I ((M 16 (d).toNat) + (fd_sy w))]) (st' := [fd_I ((fd_push M) 19 1)]) (M' := (fd_up (fd_up (fd_push M) 15 (d).toNat ((M 15 (d).toNat) + (fd_sx w))) 16 (d).toNat ((M 16 (d).toNat) + (fd_sy w)))) rfl rfl (j := 58) rfl (fd_bA (fd_bI (by omega) (by omega)) (fd_bA (fd_bI (by omega) (by omega)) (rfl))) ?_
        refine fd_u_ret (C := fd_c7) (b := true) (r' := some (fd_I ((fd_push M) 19 1))) rfl rfl rfl (rfl) ?_ ?_
        · rw [fd_X_moves, if_neg (show ¬ ¬ (0 ≤ d ∧ d < M 3 2 ∧ 0 ≤ w ∧ w < 4) by omega), if_neg (show ¬ (¬ fd_cvC M (M 15 d.toNat + fd_sx w) (M 16 d.toNat + fd_sy w) = 0) by omega)]
        · rw [fd_Y_moves, if_neg (show ¬ ¬ (0 ≤ d ∧ d < M 3 2 ∧ 0 ≤ w ∧ w < 4) by omega), if_neg (show ¬ (¬ fd_cvC M (M 15 d.toNat + fd_sx w) (M 16 d.toNat + fd_sy w) = 0) by omega)]
      · have h35 := fd_biF2  h35
        refine fd_u_blk 1 (C := fd_c7) (b := true) (L' := [fd_R 0, fd_I d, fd_I w, fd_I ((M 15 (d).toNat) + (fd_sx w)), fd_I ((M 16 (d).toNat) + (fd_sy w))]) (st' := [fd_I (-2)]) (M' := M) rfl rfl (j := 37) rfl (rfl) ?_
        refine fd_u_ret (C := fd_c7) (b := true) (r' := some (fd_I (-2))) rfl rfl rfl (rfl) ?_ ?_
        · rw [fd_X_moves, if_neg (show ¬ ¬ (0 ≤ d ∧ d < M 3 2 ∧ 0 ≤ w ∧ w < 4) by omega), if_pos (show ¬ fd_cvC M (M 15 d.toNat + fd_sx w) (M 16 d.toNat + fd_sy w) = 0 by omega)]
        · rw [fd_Y_moves, if_neg (show ¬ ¬ (0 ≤ d ∧ d < M 3 2 ∧ 0 ≤ w ∧ w < 4) by omega), if_pos (show ¬ fd_cvC M (M 15 d.toNat + fd_sx w) (M 16 d.toNat + fd_sy w) = 0 by omega)]
    · have h7 := fd_biF2  h7
      refine fd_u_blk 1 (C := fd_c7) (b := true) (L' := [fd_R 0, fd_I d, fd_I w, fd_R 1003, fd_R 1003]) (st' := [fd_I (-1)]) (M' := M) rfl rfl (j := 9) rfl (rfl) ?_
      refine fd_u_ret (C := fd_c7) (b := true) (r' := some (fd_I (-1))) rfl rfl rfl (rfl) ?_ ?_
      · rw [fd_X_moves, if_pos (show ¬ (0 ≤ d ∧ d < M 3 2 ∧ 0 ≤ w ∧ w < 4) by omega)]
      · rw [fd_Y_moves, if_pos (show ¬ (0 ≤ d ∧ d < M 3 2 ∧ 0 ≤ w ∧ w < 4) by omega)]

def fd_X_opens (M : fd_M) (d w : Int) : Int := if ¬ (0 ≤ d ∧ d < M 3 2 ∧ (w = 0 ∨ w = 1)) then -1 else if fd_bi (M 14 4 / 2 ^ d.toNat % 2 = 1) = w then -2 else fd_dueC (fd_up (fd_push M) 14 4 (fd_xor (M 14 4) (2 ^ d.toNat))) d.toNat
def fd_Y_opens (M : fd_M) (d w : Int) : fd_M := if ¬ (0 ≤ d ∧ d < M 3 2 ∧ (w = 0 ∨ w = 1)) then M else if fd_bi (M 14 4 / 2 ^ d.toNat % 2 = 1) = w then M else (fd_up (fd_push M) 14 4 (fd_xor (M 14 4) (2 ^ d.toNat)))
theorem fd_f_opens (M : fd_M) (hG : fd_CG M) (d : Int) (hd : 0 ≤ d ∧ d < 6) (u : fd_V) : fd_run 7 8 32 [fd_R 0, fd_I d, u] [] M (some (fd_I (fd_dueC M d.toNat))) M := by
  refine fd_u_blk 3 (C := fd_c8) (b := true) (L' := [fd_R 0, fd_I d, u]) (st' := [fd_I d, fd_R 72]) (M' := M) rfl rfl (j := 35) rfl (rfl) ?_
  refine fd_u_call (C := fd_c8) (d0 := 6) (mid := 156) (np := 2) (args := [fd_R 72, fd_I d]) (r1 := some (fd_I (fd_dueC M (d).toNat))) (M1 := M) (st' := [fd_I (fd_dueC M (d).toNat)]) rfl rfl rfl rfl rfl rfl (rfl) (fd_s_dueOf M hG d (by omega)) rfl (by omega) ?_
  have qo := fd_due_rng (wy := M 17) hG.1.2.2.2.1 (fd_sw M (d).toNat) (d).toNat
  refine fd_u_ret (C := fd_c8) (b := true) (r' := some (fd_I (fd_dueC M (d).toNat))) rfl rfl rfl (rfl) ?_ ?_
  · rfl
  · rfl

theorem fd_x_opens (M : fd_M) (hG : fd_CG M) (hs : fd_HS M) (h19 : 0 ≤ M 19 1 ∧ M 19 1 ≤ 10) (d : Int) (hd : -2147483648 ≤ d ∧ d < 2147483648) (w : Int) (hw : -2147483648 ≤ w ∧ w < 2147483648) : fd_call 7 8 [fd_R 0, fd_I d, fd_I w] M (some (fd_I (fd_X_opens M d w))) (fd_Y_opens M d w) := by
  refine fd_u_in (L := [fd_R 0, fd_I d, fd_I w]) rfl ?_
  obtain ⟨g0, g1, g2, g3, g4, g5⟩ := hG.1
  obtain ⟨s1, s2, s3, s4, s5, s6, s7, s8⟩ := hG.2
  have q1 := s1 d.toNat
  have q2 := s2 d.toNat
  have q3 := s3 d.toNat
  have q4 := s4 d.toNat
  simp only [Nat.reduceAdd] at q1 q2 q3 q4
  have hp6 : 0 ≤ M 14 6 ∧ M 14 6 ≤ 1 := hG.2.2.2.2.2.2.2.1
  have hp7 : 0 ≤ M 14 7 ∧ M 14 7 ≤ 1 := hG.2.2.2.2.2.2.2.2
  have hP := fd_CG_push hG hs h19
  have f14 : fd_push M 14 = M 14 := fd_push_fr hs h19 (by omega)
  have qb := fd_bi_rng (M 14 4 / 2 ^ d.toNat % 2 = 1)
  refine fd_u_blk 3 (C := fd_c8) (b := true) (L' := [fd_R 0, fd_I d, fd_I w]) (st' := [fd_I d, fd_R 3]) (M' := M) rfl rfl (j := 3) rfl (rfl) ?_
  refine fd_u_call (C := fd_c8) (d0 := 0) (mid := 124) (np := 2) (args := [fd_R 3, fd_I d]) (r1 := some (fd_I (fd_bi (0 ≤ d ∧ d < M 3 2)))) (M1 := M) (st' := [fd_I (fd_bi (0 ≤ d ∧ d < M 3 2))]) rfl rfl rfl rfl rfl rfl (rfl) (fd_s_hasDoor M d (by omega) (by omega)) rfl (by omega) ?_
  refine fd_u_br (C := fd_c8) (t := 8) (e := 5) (st' := []) (c := (fd_bi (0 ≤ d ∧ d < M 3 2)) = 0) (b := (fd_rng (fd_bi (0 ≤ d ∧ d < M 3 2)))) rfl rfl rfl (fd_biR) (fun h4 => ?_) (fun h4 => ?_)
  · have h4 := fd_biF.mp h4
    refine fd_u_blk 1 (C := fd_c8) (b := true) (L' := [fd_R 0, fd_I d, fd_I w]) (st' := [fd_I (-1)]) (M' := M) rfl rfl (j := 9) rfl (rfl) ?_
    refine fd_u_ret (C := fd_c8) (b := true) (r' := some (fd_I (-1))) rfl rfl rfl (rfl) ?_ ?_
    · rw [fd_X_opens, if_pos (show ¬ (0 ≤ d ∧ d < M 3 2 ∧ (w = 0 ∨ w = 1)) by omega)]
    · rw [fd_Y_opens, if_pos (show ¬ (0 ≤ d ∧ d < M 3 2 ∧ (w = 0 ∨ w = 1)) by omega)]
  · have h4 := fd_biT.mp h4
    refine fd_u_blk 1 (C := fd_c8) (b := true) (L' := [fd_R 0, fd_I d, fd_I w]) (st' := [fd_I w]) (M' := M) rfl rfl (j := 6) rfl (rfl) ?_
    refine fd_u_call (C := fd_c8) (d0 := 0) (mid := 39) (np := 1) (args := [fd_I w]) (r1 := some (fd_I (fd_bi (w = 0 ∨ w = 1)))) (M1 := M) (st' := [fd_I (fd_bi (w = 0 ∨ w = 1))]) rfl rfl rfl rfl rfl rfl (rfl) (fd_s_isFlag M w (by omega)) rfl (by omega) ?_
    refine fd_u_br (C := fd_c8) (t := 10) (e := 8) (st' := []) (c := ¬ (fd_bi (w = 0 ∨ w = 1)) = 0) (b := (fd_rng (fd_bi (w = 0 ∨ w = 1)))) rfl rfl rfl (fd_biR) (fun h7 => ?_) (fun h7 => ?_)
    · have h7 := fd_biT.mp h7
      refine fd_u_blk 3 (C := fd_c8) (b := true) (L' := [fd_R 0, fd_I d, fd_I w]) (st' := [fd_I d, fd_R 14]) (M' := M) rfl rfl (j := 13) rfl (rfl) ?_
      refine fd_u_call (C := fd_c8) (d0 := 1) (mid := 144) (np := 2) (args := [fd_R 14, fd_I d]) (r1 := some (fd_I (fd_bi (M 14 4 / 2 ^ (d).toNat % 2 = 1)))) (M1 := M) (st' := [fd_I (fd_bi (M 14 4 / 2 ^ (d).toNat % 2 = 1))]) rfl rfl rfl rfl rfl rfl (rfl) (fd_s_isOpen M hG d (by omega)) rfl (by omega) ?_
      refine fd_u_call (C := fd_c8) (d0 := 0) (mid := 43) (np := 1) (args := [fd_I (fd_bi (M 14 4 / 2 ^ (d).toNat % 2 = 1))]) (r1 := some (fd_I (fd_bi (M 14 4 / 2 ^ (d).toNat % 2 = 1)))) (M1 := M) (st' := [fd_I (fd_bi (M 14 4 / 2 ^ (d).toNat % 2 = 1))]) rfl rfl rfl rfl rfl rfl (rfl) (fd_s_flag M (fd_bi (M 14 4 / 2 ^ (d).toNat % 2 = 1)) (fd_bi_rng _)) rfl (by omega) ?_
      refine fd_u_blk 1 (C := fd_c8) (b := true) (L' := [fd_R 0, fd_I d, fd_I w]) (st' := [fd_I w, fd_I (fd_bi (M 14 4 / 2 ^ (d).toNat % 2 = 1))]) (M' := M) rfl rfl (j := 16) rfl (rfl) ?_
      refine fd_u_br (C := fd_c8) (t := 19) (e := 17) (st' := []) (c := ¬ (fd_bi (M 14 4 / 2 ^ (d).toNat % 2 = 1)) = w) (b := (fd_rng (fd_bi (M 14 4 / 2 ^ (d).toNat % 2 = 1)) && fd_rng w)) rfl rfl rfl (fd_bA (fd_biR) (fd_bR (by omega) (by omega))) (fun h16 => ?_) (fun h16 => ?_)
      · refine fd_u_blk 4 (C := fd_c8) (b := true) (L' := [fd_R 0, fd_I d, fd_I w]) (st' := [fd_R 14, fd_R 19]) (M' := M) rfl rfl (j := 23) rfl (rfl) ?_
        refine fd_u_call (C := fd_c8) (d0 := 2) (mid := 113) (np := 2) (args := [fd_R 19, fd_R 14]) (r1 := none) (M1 := (fd_push M)) (st' := []) rfl rfl rfl rfl rfl rfl (rfl) (fd_s_push M hs h19 hp6 hp7) rfl (by omega) ?_
        refine fd_u_blk 5 (C := fd_c8) (b := true) (L' := [fd_R 0, fd_I d, fd_I w]) (st' := [fd_I d, fd_I ((fd_push M) 14 4), fd_R 14]) (M' := (fd_push M)) rfl rfl (j := 29) rfl (rfl) ?_
        refine fd_u_call (C := fd_c8) (d0 := 0) (mid := 45) (np := 1) (args := [fd_I d]) (r1 := some (fd_I (if d = -1 then 0 else 2 ^ (d).toNat))) (M1 := (fd_push M)) (st' := [fd_I (if d = -1 then 0 else 2 ^ (d).toNat), fd_I ((fd_push M) 14 4), fd_R 14]) rfl rfl rfl rfl rfl rfl (rfl) (fd_s_bitOf (fd_push M) d (by omega)) rfl (by omega) ?_
        refine fd_u_blk 2 (C := fd_c8) (b := true) (L' := [fd_R 0, fd_I d, fd_I w]) (st' := []) (M' := (fd_up (fd_push M) 14 4 (fd_xor ((fd_push M) 14 4) (if d = -1 then 0 else 2 ^ (d).toNat)))) rfl rfl (j := 32) rfl (rfl) ?_
        rw [fd_X_opens, fd_Y_opens, if_neg (show ¬ ¬ (0 ≤ d ∧ d < M 3 2 ∧ (w = 0 ∨ w = 1)) by omega), if_neg (show ¬ (fd_bi (M 14 4 / 2 ^ d.toNat % 2 = 1) = w) by omega), if_neg (show ¬ ¬ (0 ≤ d ∧ d < M 3 2 ∧ (w = 0 ∨ w = 1)) by omega), if_neg (show ¬ (fd_bi (M 14 4 / 2 ^ d.toNat % 2 = 1) = w) by omega)]
        rw [if_neg (show ¬ d = -1 by omega), f14]
        exact fd_f_opens _ (fd_CG_4 hP (fd_xor_rng (by omega) (by omega))) d (by omega) _
      · refine fd_u_blk 1 (C := fd_c8) (b := true) (L' := [fd_R 0, fd_I d, fd_I w]) (st' := [fd_I (-2)]) (M' := M) rfl rfl (j := 18) rfl (rfl) ?_
        refine fd_u_ret (C := fd_c8) (b := true) (r' := some (fd_I (-2))) rfl rfl rfl (rfl) ?_ ?_
        · rw [fd_X_opens, if_neg (show ¬ ¬ (0 ≤ d ∧ d < M 3 2 ∧ (w = 0 ∨ w = 1)) by omega), if_pos (show fd_bi (M 14 4 / 2 ^ d.toNat % 2 = 1) = w by omega)]
        · rw [fd_Y_opens, if_neg (show ¬ ¬ (0 ≤ d ∧ d < M 3 2 ∧ (w = 0 ∨ w = 1)) by omega), if_pos (show fd_bi (M 14 4 / 2 ^ d.toNat % 2 = 1) = w by omega)]
    · have h7 := fd_biF2  h7
      refine fd_u_blk 1 (C := fd_c8) (b := true) (L' := [fd_R 0, fd_I d, fd_I w]) (st' := [fd_I (-1)]) (M' := M) rfl rfl (j := 9) rfl (rfl) ?_
      refine fd_u_ret (C := fd_c8) (b := true) (r' := some (fd_I (-1))) rfl rfl rfl (rfl) ?_ ?_
      · rw [fd_X_opens, if_pos (show ¬ (0 ≤ d ∧ d < M 3 2 ∧ (w = 0 ∨ w = 1)) by omega)]
      · rw [fd_Y_opens, if_pos (show ¬ (0 ≤ d ∧ d < M 3 2 ∧ (w = 0 ∨ w = 1)) by omega)]

def fd_X_leaf (M : fd_M) (w : Int) : Int := if ¬ (w = 0 ∨ w = 1) then -1 else if M 14 6 = w then -2 else fd_sum (fd_dueC (fd_up (fd_push M) 14 6 w)) (M 3 2).toNat
def fd_Y_leaf (M : fd_M) (w : Int) : fd_M := if ¬ (w = 0 ∨ w = 1) then M else if M 14 6 = w then M else (fd_up (fd_push M) 14 6 w)
theorem fd_f_leaf (M : fd_M) (hG : fd_CG M) (u : fd_V) : fd_run 8 10 27 [fd_R 0, u] [] M (some (fd_I (fd_sum (fd_dueC M) (M 3 2).toNat))) M := by
  refine fd_u_blk 2 (C := fd_c10) (b := true) (L' := [fd_R 0, u]) (st' := [fd_R 72]) (M' := M) rfl rfl (j := 29) rfl (rfl) ?_
  refine fd_u_call (C := fd_c10) (d0 := 7) (mid := 157) (np := 1) (args := [fd_R 72]) (r1 := some (fd_I (fd_sum (fd_dueC M) (M 3 2).toNat))) (M1 := M) (st' := [fd_I (fd_sum (fd_dueC M) (M 3 2).toNat)]) rfl rfl rfl rfl rfl rfl (rfl) (fd_s_dueOfAll M hG) rfl (by omega) ?_
  refine fd_u_ret (C := fd_c10) (b := true) (r' := some (fd_I (fd_sum (fd_dueC M) (M 3 2).toNat))) rfl rfl rfl (rfl) ?_ ?_
  · rfl
  · rfl

theorem fd_x_leaf (M : fd_M) (hG : fd_CG M) (hs : fd_HS M) (h19 : 0 ≤ M 19 1 ∧ M 19 1 ≤ 10) (w : Int) (hw : -2147483648 ≤ w ∧ w < 2147483648) : fd_call 8 10 [fd_R 0, fd_I w] M (some (fd_I (fd_X_leaf M w))) (fd_Y_leaf M w) := by
  refine fd_u_in (L := [fd_R 0, fd_I w]) rfl ?_
  obtain ⟨g0, g1, g2, g3, g4, g5⟩ := hG.1
  obtain ⟨s1, s2, s3, s4, s5, s6, s7, s8⟩ := hG.2
  have hp6 : 0 ≤ M 14 6 ∧ M 14 6 ≤ 1 := hG.2.2.2.2.2.2.2.1
  have hp7 : 0 ≤ M 14 7 ∧ M 14 7 ≤ 1 := hG.2.2.2.2.2.2.2.2
  have hP := fd_CG_push hG hs h19
  have f3 : fd_push M 3 = M 3 := fd_push_fr hs h19 (by omega)
  refine fd_u_blk 1 (C := fd_c10) (b := true) (L' := [fd_R 0, fd_I w]) (st' := [fd_I w]) (M' := M) rfl rfl (j := 1) rfl (rfl) ?_
  refine fd_u_call (C := fd_c10) (d0 := 0) (mid := 39) (np := 1) (args := [fd_I w]) (r1 := some (fd_I (fd_bi (w = 0 ∨ w = 1)))) (M1 := M) (st' := [fd_I (fd_bi (w = 0 ∨ w = 1))]) rfl rfl rfl rfl rfl rfl (rfl) (fd_s_isFlag M w (by omega)) rfl (by omega) ?_
  refine fd_u_br (C := fd_c10) (t := 5) (e := 3) (st' := []) (c := ¬ (fd_bi (w = 0 ∨ w = 1)) = 0) (b := (fd_rng (fd_bi (w = 0 ∨ w = 1)))) rfl rfl rfl (fd_biR) (fun h2 => ?_) (fun h2 => ?_)
  · have h2 := fd_biT.mp h2
    refine fd_u_blk 3 (C := fd_c10) (b := true) (L' := [fd_R 0, fd_I w]) (st' := [fd_I (M 14 6)]) (M' := M) rfl rfl (j := 8) rfl (rfl) ?_
    refine fd_u_call (C := fd_c10) (d0 := 0) (mid := 43) (np := 1) (args := [fd_I (M 14 6)]) (r1 := some (fd_I (M 14 6))) (M1 := M) (st' := [fd_I (M 14 6)]) rfl rfl rfl rfl rfl rfl (rfl) (fd_s_flag M (M 14 6) (by omega)) rfl (by omega) ?_
    refine fd_u_blk 1 (C := fd_c10) (b := true) (L' := [fd_R 0, fd_I w]) (st' := [fd_I w, fd_I (M 14 6)]) (M' := M) rfl rfl (j := 10) rfl (rfl) ?_
    refine fd_u_br (C := fd_c10) (t := 13) (e := 11) (st' := []) (c := ¬ (M 14 6) = w) (b := (fd_rng (M 14 6) && fd_rng w)) rfl rfl rfl (fd_bA (fd_bR (by omega) (by omega)) (fd_bR (by omega) (by omega))) (fun h10 => ?_) (fun h10 => ?_)
    · refine fd_u_blk 4 (C := fd_c10) (b := true) (L' := [fd_R 0, fd_I w]) (st' := [fd_R 14, fd_R 19]) (M' := M) rfl rfl (j := 17) rfl (rfl) ?_
      refine fd_u_call (C := fd_c10) (d0 := 2) (mid := 113) (np := 2) (args := [fd_R 19, fd_R 14]) (r1 := none) (M1 := (fd_push M)) (st' := []) rfl rfl rfl rfl rfl rfl (rfl) (fd_s_push M hs h19 hp6 hp7) rfl (by omega) ?_
      refine fd_u_blk 4 (C := fd_c10) (b := true) (L' := [fd_R 0, fd_I w]) (st' := [fd_I 1, fd_I w, fd_R 14]) (M' := (fd_push M)) rfl rfl (j := 22) rfl (rfl) ?_
      refine fd_u_br (C := fd_c10) (t := 25) (e := 23) (st' := [fd_R 14]) (c := ¬ w = 1) (b := (fd_rng w && fd_rng 1)) rfl rfl rfl (fd_bA (fd_bR (by omega) (by omega)) (fd_bR (by omega) (by omega))) (fun h22 => ?_) (fun h22 => ?_)
      · refine fd_u_blk 2 (C := fd_c10) (b := true) (L' := [fd_R 0, fd_I w]) (st' := []) (M' := (fd_up (fd_push M) 14 6 0)) rfl rfl (j := 27) rfl (rfl) ?_
        have ew : 0 = w := by omega
        rw [fd_X_leaf, fd_Y_leaf, if_neg (show ¬ ¬ (w = 0 ∨ w = 1) by omega), if_neg (show ¬ (M 14 6 = w) by omega), if_neg (show ¬ ¬ (w = 0 ∨ w = 1) by omega), if_neg (show ¬ (M 14 6 = w) by omega), ← ew]
        have z := fd_f_leaf (fd_up (fd_push M) 14 6 0) (fd_CG_6 hP (by omega)) (fd_I w)
        rw [fd_up_ne (c' := 3) (by omega), f3, ← ew] at z
        exact z
      · refine fd_u_blk 1 (C := fd_c10) (b := true) (L' := [fd_R 0, fd_I w]) (st' := [fd_I 1, fd_R 14]) (M' := (fd_push M)) rfl rfl (j := 24) rfl (rfl) ?_
        refine fd_u_jmp (C := fd_c10) (j := 26) (st' := [fd_I 1, fd_R 14]) rfl rfl (b := true) rfl rfl ?_
        refine fd_u_blk 1 (C := fd_c10) (b := true) (L' := [fd_R 0, fd_I w]) (st' := []) (M' := (fd_up (fd_push M) 14 6 1)) rfl rfl (j := 27) rfl (rfl) ?_
        have ew : 1 = w := by omega
        rw [fd_X_leaf, fd_Y_leaf, if_neg (show ¬ ¬ (w = 0 ∨ w = 1) by omega), if_neg (show ¬ (M 14 6 = w) by omega), if_neg (show ¬ ¬ (w = 0 ∨ w = 1) by omega), if_neg (show ¬ (M 14 6 = w) by omega), ← ew]
        have z := fd_f_leaf (fd_up (fd_push M) 14 6 1) (fd_CG_6 hP (by omega)) (fd_I w)
        rw [fd_up_ne (c' := 3) (by omega), f3, ← ew] at z
        exact z
    · refine fd_u_blk 1 (C := fd_c10) (b := true) (L' := [fd_R 0, fd_I w]) (st' := [fd_I (-2)]) (M' := M) rfl rfl (j := 12) rfl (rfl) ?_
      refine fd_u_ret (C := fd_c10) (b := true) (r' := some (fd_I (-2))) rfl rfl rfl (rfl) ?_ ?_
      · rw [fd_X_leaf, if_neg (show ¬ ¬ (w = 0 ∨ w = 1) by omega), if_pos (show M 14 6 = w by omega)]
      · rw [fd_Y_leaf, if_neg (show ¬ ¬ (w = 0 ∨ w = 1) by omega), if_pos (show M 14 6 = w by omega)]
  · have h2 := fd_biF2  h2
    refine fd_u_blk 1 (C := fd_c10) (b := true) (L' := [fd_R 0, fd_I w]) (st' := [fd_I (-1)]) (M' := M) rfl rfl (j := 4) rfl (rfl) ?_
    refine fd_u_ret (C := fd_c10) (b := true) (r' := some (fd_I (-1))) rfl rfl rfl (rfl) ?_ ?_
    · rw [fd_X_leaf, if_pos (show ¬ (w = 0 ∨ w = 1) by omega)]
    · rw [fd_Y_leaf, if_pos (show ¬ (w = 0 ∨ w = 1) by omega)]

def fd_X_fog (M : fd_M) (w : Int) : Int := if ¬ (w = 0 ∨ w = 1) then -1 else if M 14 7 = w then -2 else fd_sum (fd_dueC (fd_up (fd_push M) 14 7 w)) (M 3 2).toNat
def fd_Y_fog (M : fd_M) (w : Int) : fd_M := if ¬ (w = 0 ∨ w = 1) then M else if M 14 7 = w then M else (fd_up (fd_push M) 14 7 w)
theorem fd_f_fog (M : fd_M) (hG : fd_CG M) (u : fd_V) : fd_run 8 11 27 [fd_R 0, u] [] M (some (fd_I (fd_sum (fd_dueC M) (M 3 2).toNat))) M := by
  refine fd_u_blk 2 (C := fd_c11) (b := true) (L' := [fd_R 0, u]) (st' := [fd_R 72]) (M' := M) rfl rfl (j := 29) rfl (rfl) ?_
  refine fd_u_call (C := fd_c11) (d0 := 7) (mid := 157) (np := 1) (args := [fd_R 72]) (r1 := some (fd_I (fd_sum (fd_dueC M) (M 3 2).toNat))) (M1 := M) (st' := [fd_I (fd_sum (fd_dueC M) (M 3 2).toNat)]) rfl rfl rfl rfl rfl rfl (rfl) (fd_s_dueOfAll M hG) rfl (by omega) ?_
  refine fd_u_ret (C := fd_c11) (b := true) (r' := some (fd_I (fd_sum (fd_dueC M) (M 3 2).toNat))) rfl rfl rfl (rfl) ?_ ?_
  · rfl
  · rfl

theorem fd_x_fog (M : fd_M) (hG : fd_CG M) (hs : fd_HS M) (h19 : 0 ≤ M 19 1 ∧ M 19 1 ≤ 10) (w : Int) (hw : -2147483648 ≤ w ∧ w < 2147483648) : fd_call 8 11 [fd_R 0, fd_I w] M (some (fd_I (fd_X_fog M w))) (fd_Y_fog M w) := by
  refine fd_u_in (L := [fd_R 0, fd_I w]) rfl ?_
  obtain ⟨g0, g1, g2, g3, g4, g5⟩ := hG.1
  obtain ⟨s1, s2, s3, s4, s5, s6, s7, s8⟩ := hG.2
  have hp6 : 0 ≤ M 14 6 ∧ M 14 6 ≤ 1 := hG.2.2.2.2.2.2.2.1
  have hp7 : 0 ≤ M 14 7 ∧ M 14 7 ≤ 1 := hG.2.2.2.2.2.2.2.2
  have hP := fd_CG_push hG hs h19
  have f3 : fd_push M 3 = M 3 := fd_push_fr hs h19 (by omega)
  refine fd_u_blk 1 (C := fd_c11) (b := true) (L' := [fd_R 0, fd_I w]) (st' := [fd_I w]) (M' := M) rfl rfl (j := 1) rfl (rfl) ?_
  refine fd_u_call (C := fd_c11) (d0 := 0) (mid := 39) (np := 1) (args := [fd_I w]) (r1 := some (fd_I (fd_bi (w = 0 ∨ w = 1)))) (M1 := M) (st' := [fd_I (fd_bi (w = 0 ∨ w = 1))]) rfl rfl rfl rfl rfl rfl (rfl) (fd_s_isFlag M w (by omega)) rfl (by omega) ?_
  refine fd_u_br (C := fd_c11) (t := 5) (e := 3) (st' := []) (c := ¬ (fd_bi (w = 0 ∨ w = 1)) = 0) (b := (fd_rng (fd_bi (w = 0 ∨ w = 1)))) rfl rfl rfl (fd_biR) (fun h2 => ?_) (fun h2 => ?_)
  · have h2 := fd_biT.mp h2
    refine fd_u_blk 3 (C := fd_c11) (b := true) (L' := [fd_R 0, fd_I w]) (st' := [fd_I (M 14 7)]) (M' := M) rfl rfl (j := 8) rfl (rfl) ?_
    refine fd_u_call (C := fd_c11) (d0 := 0) (mid := 43) (np := 1) (args := [fd_I (M 14 7)]) (r1 := some (fd_I (M 14 7))) (M1 := M) (st' := [fd_I (M 14 7)]) rfl rfl rfl rfl rfl rfl (rfl) (fd_s_flag M (M 14 7) (by omega)) rfl (by omega) ?_
    refine fd_u_blk 1 (C := fd_c11) (b := true) (L' := [fd_R 0, fd_I w]) (st' := [fd_I w, fd_I (M 14 7)]) (M' := M) rfl rfl (j := 10) rfl (rfl) ?_
    refine fd_u_br (C := fd_c11) (t := 13) (e := 11) (st' := []) (c := ¬ (M 14 7) = w) (b := (fd_rng (M 14 7) && fd_rng w)) rfl rfl rfl (fd_bA (fd_bR (by omega) (by omega)) (fd_bR (by omega) (by omega))) (fun h10 => ?_) (fun h10 => ?_)
    · refine fd_u_blk 4 (C := fd_c11) (b := true) (L' := [fd_R 0, fd_I w]) (st' := [fd_R 14, fd_R 19]) (M' := M) rfl rfl (j := 17) rfl (rfl) ?_
      refine fd_u_call (C := fd_c11) (d0 := 2) (mid := 113) (np := 2) (args := [fd_R 19, fd_R 14]) (r1 := none) (M1 := (fd_push M)) (st' := []) rfl rfl rfl rfl rfl rfl (rfl) (fd_s_push M hs h19 hp6 hp7) rfl (by omega) ?_
      refine fd_u_blk 4 (C := fd_c11) (b := true) (L' := [fd_R 0, fd_I w]) (st' := [fd_I 1, fd_I w, fd_R 14]) (M' := (fd_push M)) rfl rfl (j := 22) rfl (rfl) ?_
      refine fd_u_br (C := fd_c11) (t := 25) (e := 23) (st' := [fd_R 14]) (c := ¬ w = 1) (b := (fd_rng w && fd_rng 1)) rfl rfl rfl (fd_bA (fd_bR (by omega) (by omega)) (fd_bR (by omega) (by omega))) (fun h22 => ?_) (fun h22 => ?_)
      · refine fd_u_blk 2 (C := fd_c11) (b := true) (L' := [fd_R 0, fd_I w]) (st' := []) (M' := (fd_up (fd_push M) 14 7 0)) rfl rfl (j := 27) rfl (rfl) ?_
        have ew : 0 = w := by omega
        rw [fd_X_fog, fd_Y_fog, if_neg (show ¬ ¬ (w = 0 ∨ w = 1) by omega), if_neg (show ¬ (M 14 7 = w) by omega), if_neg (show ¬ ¬ (w = 0 ∨ w = 1) by omega), if_neg (show ¬ (M 14 7 = w) by omega), ← ew]
        have z := fd_f_fog (fd_up (fd_push M) 14 7 0) (fd_CG_7 hP (by omega)) (fd_I w)
        rw [fd_up_ne (c' := 3) (by omega), f3, ← ew] at z
        exact z
      · refine fd_u_blk 1 (C := fd_c11) (b := true) (L' := [fd_R 0, fd_I w]) (st' := [fd_I 1, fd_R 14]) (M' := (fd_push M)) rfl rfl (j := 24) rfl (rfl) ?_
        refine fd_u_jmp (C := fd_c11) (j := 26) (st' := [fd_I 1, fd_R 14]) rfl rfl (b := true) rfl rfl ?_
        refine fd_u_blk 1 (C := fd_c11) (b := true) (L' := [fd_R 0, fd_I w]) (st' := []) (M' := (fd_up (fd_push M) 14 7 1)) rfl rfl (j := 27) rfl (rfl) ?_
        have ew : 1 = w := by omega
        rw [fd_X_fog, fd_Y_fog, if_neg (show ¬ ¬ (w = 0 ∨ w = 1) by omega), if_neg (show ¬ (M 14 7 = w) by omega), if_neg (show ¬ ¬ (w = 0 ∨ w = 1) by omega), if_neg (show ¬ (M 14 7 = w) by omega), ← ew]
        have z := fd_f_fog (fd_up (fd_push M) 14 7 1) (fd_CG_7 hP (by omega)) (fd_I w)
        rw [fd_up_ne (c' := 3) (by omega), f3, ← ew] at z
        exact z
    · refine fd_u_blk 1 (C := fd_c11) (b := true) (L' := [fd_R 0, fd_I w]) (st' := [fd_I (-2)]) (M' := M) rfl rfl (j := 12) rfl (rfl) ?_
      refine fd_u_ret (C := fd_c11) (b := true) (r' := some (fd_I (-2))) rfl rfl rfl (rfl) ?_ ?_
      · rw [fd_X_fog, if_neg (show ¬ ¬ (w = 0 ∨ w = 1) by omega), if_pos (show M 14 7 = w by omega)]
      · rw [fd_Y_fog, if_neg (show ¬ ¬ (w = 0 ∨ w = 1) by omega), if_pos (show M 14 7 = w by omega)]
  · have h2 := fd_biF2  h2
    refine fd_u_blk 1 (C := fd_c11) (b := true) (L' := [fd_R 0, fd_I w]) (st' := [fd_I (-1)]) (M' := M) rfl rfl (j := 4) rfl (rfl) ?_
    refine fd_u_ret (C := fd_c11) (b := true) (r' := some (fd_I (-1))) rfl rfl rfl (rfl) ?_ ?_
    · rw [fd_X_fog, if_pos (show ¬ (w = 0 ∨ w = 1) by omega)]
    · rw [fd_Y_fog, if_pos (show ¬ (w = 0 ∨ w = 1) by omega)]

def fd_X_cart (M : fd_M) (x y w : Int) : Int := if ¬ ((0 ≤ x ∧ x < M 3 0 ∧ 0 ≤ y ∧ y < M 3 1) ∧ (w = 0 ∨ w = 1)) then -1 else if ¬ (if w = 1 then fd_cvC M x y = 0 else M 14 5 / 2 ^ (y * 7 + x).toNat % 2 = 1) then -2 else fd_lbc (fd_lxor (M 14 5) (2 ^ (y * 7 + x).toNat))
def fd_Y_cart (M : fd_M) (x y w : Int) : fd_M := if ¬ ((0 ≤ x ∧ x < M 3 0 ∧ 0 ≤ y ∧ y < M 3 1) ∧ (w = 0 ∨ w = 1)) then M else if ¬ (if w = 1 then fd_cvC M x y = 0 else M 14 5 / 2 ^ (y * 7 + x).toNat % 2 = 1) then M else (fd_up (fd_push M) 14 5 (fd_lxor (M 14 5) (2 ^ (y * 7 + x).toNat)))
theorem fd_x_cart (M : fd_M) (hG : fd_CG M) (hs : fd_HS M) (h19 : 0 ≤ M 19 1 ∧ M 19 1 ≤ 10) (x y : Int) (hx : -2147483648 ≤ x ∧ x < 2147483648) (hy : -2147483648 ≤ y ∧ y < 2147483648) (w : Int) (hw : -2147483648 ≤ w ∧ w < 2147483648) : fd_call 5 9 [fd_R 0, fd_I x, fd_I y, fd_I w] M (some (fd_I (fd_X_cart M x y w))) (fd_Y_cart M x y w) := by
  refine fd_u_in (L := [fd_R 0, fd_I x, fd_I y, fd_I w, fd_R 1003]) rfl ?_
  obtain ⟨g0, g1, g2, g3, g4, g5⟩ := hG.1
  obtain ⟨s1, s2, s3, s4, s5, s6, s7, s8⟩ := hG.2
  have hp6 : 0 ≤ M 14 6 ∧ M 14 6 ≤ 1 := hG.2.2.2.2.2.2.2.1
  have hp7 : 0 ≤ M 14 7 ∧ M 14 7 ≤ 1 := hG.2.2.2.2.2.2.2.2
  have hP := fd_CG_push hG hs h19
  have f14 : fd_push M 14 = M 14 := fd_push_fr hs h19 (by omega)
  refine fd_u_blk 4 (C := fd_c9) (b := true) (L' := [fd_R 0, fd_I x, fd_I y, fd_I w, fd_R 1003]) (st' := [fd_I y, fd_I x, fd_R 3]) (M' := M) rfl rfl (j := 4) rfl (rfl) ?_
  refine fd_u_call (C := fd_c9) (d0 := 0) (mid := 123) (np := 3) (args := [fd_R 3, fd_I x, fd_I y]) (r1 := some (fd_I (fd_bi (0 ≤ x ∧ x < M 3 0 ∧ 0 ≤ y ∧ y < M 3 1)))) (M1 := M) (st' := [fd_I (fd_bi (0 ≤ x ∧ x < M 3 0 ∧ 0 ≤ y ∧ y < M 3 1))]) rfl rfl rfl rfl rfl rfl (rfl) (fd_s_hasCell M x y (by omega) (by omega) (by omega) (by omega)) rfl (by omega) ?_
  refine fd_u_br (C := fd_c9) (t := 9) (e := 6) (st' := []) (c := (fd_bi (0 ≤ x ∧ x < M 3 0 ∧ 0 ≤ y ∧ y < M 3 1)) = 0) (b := (fd_rng (fd_bi (0 ≤ x ∧ x < M 3 0 ∧ 0 ≤ y ∧ y < M 3 1)))) rfl rfl rfl (fd_biR) (fun h5 => ?_) (fun h5 => ?_)
  · have h5 := fd_biF.mp h5
    refine fd_u_blk 1 (C := fd_c9) (b := true) (L' := [fd_R 0, fd_I x, fd_I y, fd_I w, fd_R 1003]) (st' := [fd_I (-1)]) (M' := M) rfl rfl (j := 10) rfl (rfl) ?_
    refine fd_u_ret (C := fd_c9) (b := true) (r' := some (fd_I (-1))) rfl rfl rfl (rfl) ?_ ?_
    · rw [fd_X_cart, if_pos (show ¬ ((0 ≤ x ∧ x < M 3 0 ∧ 0 ≤ y ∧ y < M 3 1) ∧ (w = 0 ∨ w = 1)) by omega)]
    · rw [fd_Y_cart, if_pos (show ¬ ((0 ≤ x ∧ x < M 3 0 ∧ 0 ≤ y ∧ y < M 3 1) ∧ (w = 0 ∨ w = 1)) by omega)]
  · have h5 := fd_biT.mp h5
    refine fd_u_blk 1 (C := fd_c9) (b := true) (L' := [fd_R 0, fd_I x, fd_I y, fd_I w, fd_R 1003]) (st' := [fd_I w]) (M' := M) rfl rfl (j := 7) rfl (rfl) ?_
    refine fd_u_call (C := fd_c9) (d0 := 0) (mid := 39) (np := 1) (args := [fd_I w]) (r1 := some (fd_I (fd_bi (w = 0 ∨ w = 1)))) (M1 := M) (st' := [fd_I (fd_bi (w = 0 ∨ w = 1))]) rfl rfl rfl rfl rfl rfl (rfl) (fd_s_isFlag M w (by omega)) rfl (by omega) ?_
    refine fd_u_br (C := fd_c9) (t := 11) (e := 9) (st' := []) (c := ¬ (fd_bi (w = 0 ∨ w = 1)) = 0) (b := (fd_rng (fd_bi (w = 0 ∨ w = 1)))) rfl rfl rfl (fd_biR) (fun h8 => ?_) (fun h8 => ?_)
    · have h8 := fd_biT.mp h8
      refine fd_u_blk 2 (C := fd_c9) (b := true) (L' := [fd_R 0, fd_I x, fd_I y, fd_I w, fd_R 1003]) (st' := [fd_I 1, fd_I w]) (M' := M) rfl rfl (j := 13) rfl (rfl) ?_
      refine fd_u_br (C := fd_c9) (t := 20) (e := 14) (st' := []) (c := ¬ w = 1) (b := (fd_rng w && fd_rng 1)) rfl rfl rfl (fd_bA (fd_bR (by omega) (by omega)) (fd_bR (by omega) (by omega))) (fun h13 => ?_) (fun h13 => ?_)
      · refine fd_u_blk 4 (C := fd_c9) (b := true) (L' := [fd_R 0, fd_I x, fd_I y, fd_I w, fd_R 1003]) (st' := [fd_I y, fd_I x, fd_R 14]) (M' := M) rfl rfl (j := 24) rfl (rfl) ?_
        refine fd_u_call (C := fd_c9) (d0 := 2) (mid := 145) (np := 3) (args := [fd_R 14, fd_I x, fd_I y]) (r1 := some (fd_I (fd_bi (M 14 5 / 2 ^ (y * 7 + x).toNat % 2 = 1)))) (M1 := M) (st' := [fd_I (fd_bi (M 14 5 / 2 ^ (y * 7 + x).toNat % 2 = 1))]) rfl rfl rfl rfl rfl rfl (rfl) (fd_s_hasCart M hG x y (by omega) (by omega)) rfl (by omega) ?_
        refine fd_u_blk 2 (C := fd_c9) (b := true) (L' := [fd_R 0, fd_I x, fd_I y, fd_I w, fd_I (fd_bi (M 14 5 / 2 ^ (y * 7 + x).toNat % 2 = 1))]) (st' := [fd_I (fd_bi (M 14 5 / 2 ^ (y * 7 + x).toNat % 2 = 1))]) (M' := M) rfl rfl (j := 27) rfl (rfl) ?_
        refine fd_u_br (C := fd_c9) (t := 30) (e := 28) (st' := []) (c := ¬ (fd_bi (M 14 5 / 2 ^ (y * 7 + x).toNat % 2 = 1)) = 0) (b := (fd_rng (fd_bi (M 14 5 / 2 ^ (y * 7 + x).toNat % 2 = 1)))) rfl rfl rfl (fd_biR) (fun h27 => ?_) (fun h27 => ?_)
        · have h27 := fd_biT.mp h27
          refine fd_u_blk 4 (C := fd_c9) (b := true) (L' := [fd_R 0, fd_I x, fd_I y, fd_I w, fd_I (fd_bi (M 14 5 / 2 ^ (y * 7 + x).toNat % 2 = 1))]) (st' := [fd_R 14, fd_R 19]) (M' := M) rfl rfl (j := 34) rfl (rfl) ?_
          refine fd_u_call (C := fd_c9) (d0 := 2) (mid := 113) (np := 2) (args := [fd_R 19, fd_R 14]) (r1 := none) (M1 := (fd_push M)) (st' := []) rfl rfl rfl rfl rfl rfl (rfl) (fd_s_push M hs h19 hp6 hp7) rfl (by omega) ?_
          refine fd_u_blk 6 (C := fd_c9) (b := true) (L' := [fd_R 0, fd_I x, fd_I y, fd_I w, fd_I (fd_bi (M 14 5 / 2 ^ (y * 7 + x).toNat % 2 = 1))]) (st' := [fd_I y, fd_I x, fd_J ((fd_push M) 14 5), fd_R 14]) (M' := (fd_push M)) rfl rfl (j := 41) rfl (rfl) ?_
          refine fd_u_call (C := fd_c9) (d0 := 1) (mid := 47) (np := 2) (args := [fd_I x, fd_I y]) (r1 := some (fd_J (2 ^ (y * 7 + x).toNat))) (M1 := (fd_push M)) (st' := [fd_J (2 ^ (y * 7 + x).toNat), fd_J ((fd_push M) 14 5), fd_R 14]) rfl rfl rfl rfl rfl rfl (rfl) (fd_s_cartBit (fd_push M) x y (by omega) (by omega)) rfl (by omega) ?_
          refine fd_u_blk 6 (C := fd_c9) (b := true) (L' := [fd_R 0, fd_I x, fd_I y, fd_I w, fd_I (fd_bi (M 14 5 / 2 ^ (y * 7 + x).toNat % 2 = 1))]) (st' := [fd_I (fd_lbc (fd_lxor ((fd_push M) 14 5) (2 ^ (y * 7 + x).toNat)))]) (M' := (fd_up (fd_push M) 14 5 (fd_lxor ((fd_push M) 14 5) (2 ^ (y * 7 + x).toNat)))) rfl rfl (j := 48) rfl (rfl) ?_
          refine fd_u_ret (C := fd_c9) (b := true) (r' := some (fd_I (fd_lbc (fd_lxor ((fd_push M) 14 5) (2 ^ (y * 7 + x).toNat))))) rfl rfl rfl (rfl) ?_ ?_
          · rw [fd_X_cart, if_neg (show ¬ ¬ ((0 ≤ x ∧ x < M 3 0 ∧ 0 ≤ y ∧ y < M 3 1) ∧ (w = 0 ∨ w = 1)) by omega), if_neg (show ¬ ¬ (if w = 1 then fd_cvC M x y = 0 else M 14 5 / 2 ^ (y * 7 + x).toNat % 2 = 1) from by first | rw [if_pos (by omega)]; exact fun q => q h27 | rw [if_neg (by omega)]; exact fun q => q h27), ← f14]
          · rw [fd_Y_cart, if_neg (show ¬ ¬ ((0 ≤ x ∧ x < M 3 0 ∧ 0 ≤ y ∧ y < M 3 1) ∧ (w = 0 ∨ w = 1)) by omega), if_neg (show ¬ ¬ (if w = 1 then fd_cvC M x y = 0 else M 14 5 / 2 ^ (y * 7 + x).toNat % 2 = 1) from by first | rw [if_pos (by omega)]; exact fun q => q h27 | rw [if_neg (by omega)]; exact fun q => q h27), ← f14]
        · have h27 := fd_biF2  h27
          refine fd_u_blk 1 (C := fd_c9) (b := true) (L' := [fd_R 0, fd_I x, fd_I y, fd_I w, fd_I (fd_bi (M 14 5 / 2 ^ (y * 7 + x).toNat % 2 = 1))]) (st' := [fd_I (-2)]) (M' := M) rfl rfl (j := 29) rfl (rfl) ?_
          refine fd_u_ret (C := fd_c9) (b := true) (r' := some (fd_I (-2))) rfl rfl rfl (rfl) ?_ ?_
          · rw [fd_X_cart, if_neg (show ¬ ¬ ((0 ≤ x ∧ x < M 3 0 ∧ 0 ≤ y ∧ y < M 3 1) ∧ (w = 0 ∨ w = 1)) by omega), if_pos (show ¬ (if w = 1 then fd_cvC M x y = 0 else M 14 5 / 2 ^ (y * 7 + x).toNat % 2 = 1) from by first | rw [if_pos (by omega)]; exact h27 | rw [if_neg (by omega)]; exact h27)]
          · rw [fd_Y_cart, if_neg (show ¬ ¬ ((0 ≤ x ∧ x < M 3 0 ∧ 0 ≤ y ∧ y < M 3 1) ∧ (w = 0 ∨ w = 1)) by omega), if_pos (show ¬ (if w = 1 then fd_cvC M x y = 0 else M 14 5 / 2 ^ (y * 7 + x).toNat % 2 = 1) from by first | rw [if_pos (by omega)]; exact h27 | rw [if_neg (by omega)]; exact h27)]
      · refine fd_u_blk 4 (C := fd_c9) (b := true) (L' := [fd_R 0, fd_I x, fd_I y, fd_I w, fd_R 1003]) (st' := [fd_I y, fd_I x, fd_R 72]) (M' := M) rfl rfl (j := 18) rfl (rfl) ?_
        refine fd_u_call (C := fd_c9) (d0 := 3) (mid := 150) (np := 3) (args := [fd_R 72, fd_I x, fd_I y]) (r1 := some (fd_I (fd_bi (fd_cvC M x y = 0)))) (M1 := M) (st' := [fd_I (fd_bi (fd_cvC M x y = 0))]) rfl rfl rfl rfl rfl rfl (rfl) (fd_s_isVacant M hG x y (by omega) (by omega)) rfl (by omega) ?_
        refine fd_u_jmp (C := fd_c9) (j := 25) (st' := [fd_I (fd_bi (fd_cvC M x y = 0))]) rfl rfl (b := true) rfl rfl ?_
        refine fd_u_blk 2 (C := fd_c9) (b := true) (L' := [fd_R 0, fd_I x, fd_I y, fd_I w, fd_I (fd_bi (fd_cvC M x y = 0))]) (st' := [fd_I (fd_bi (fd_cvC M x y = 0))]) (M' := M) rfl rfl (j := 27) rfl (rfl) ?_
        refine fd_u_br (C := fd_c9) (t := 30) (e := 28) (st' := []) (c := ¬ (fd_bi (fd_cvC M x y = 0)) = 0) (b := (fd_rng (fd_bi (fd_cvC M x y = 0)))) rfl rfl rfl (fd_biR) (fun h27 => ?_) (fun h27 => ?_)
        · have h27 := fd_biT.mp h27
          refine fd_u_blk 4 (C := fd_c9) (b := true) (L' := [fd_R 0, fd_I x, fd_I y, fd_I w, fd_I (fd_bi (fd_cvC M x y = 0))]) (st' := [fd_R 14, fd_R 19]) (M' := M) rfl rfl (j := 34) rfl (rfl) ?_
          refine fd_u_call (C := fd_c9) (d0 := 2) (mid := 113) (np := 2) (args := [fd_R 19, fd_R 14]) (r1 := none) (M1 := (fd_push M)) (st' := []) rfl rfl rfl rfl rfl rfl (rfl) (fd_s_push M hs h19 hp6 hp7) rfl (by omega) ?_
          refine fd_u_blk 6 (C := fd_c9) (b := true) (L' := [fd_R 0, fd_I x, fd_I y, fd_I w, fd_I (fd_bi (fd_cvC M x y = 0))]) (st' := [fd_I y, fd_I x, fd_J ((fd_push M) 14 5), fd_R 14]) (M' := (fd_push M)) rfl rfl (j := 41) rfl (rfl) ?_
          refine fd_u_call (C := fd_c9) (d0 := 1) (mid := 47) (np := 2) (args := [fd_I x, fd_I y]) (r1 := some (fd_J (2 ^ (y * 7 + x).toNat))) (M1 := (fd_push M)) (st' := [fd_J (2 ^ (y * 7 + x).toNat), fd_J ((fd_push M) 14 5), fd_R 14]) rfl rfl rfl rfl rfl rfl (rfl) (fd_s_cartBit (fd_push M) x y (by omega) (by omega)) rfl (by omega) ?_
          refine fd_u_blk 6 (C := fd_c9) (b := true) (L' := [fd_R 0, fd_I x, fd_I y, fd_I w, fd_I (fd_bi (fd_cvC M x y = 0))]) (st' := [fd_I (fd_lbc (fd_lxor ((fd_push M) 14 5) (2 ^ (y * 7 + x).toNat)))]) (M' := (fd_up (fd_push M) 14 5 (fd_lxor ((fd_push M) 14 5) (2 ^ (y * 7 + x).toNat)))) rfl rfl (j := 48) rfl (rfl) ?_
          refine fd_u_ret (C := fd_c9) (b := true) (r' := some (fd_I (fd_lbc (fd_lxor ((fd_push M) 14 5) (2 ^ (y * 7 + x).toNat))))) rfl rfl rfl (rfl) ?_ ?_
          · rw [fd_X_cart, if_neg (show ¬ ¬ ((0 ≤ x ∧ x < M 3 0 ∧ 0 ≤ y ∧ y < M 3 1) ∧ (w = 0 ∨ w = 1)) by omega), if_neg (show ¬ ¬ (if w = 1 then fd_cvC M x y = 0 else M 14 5 / 2 ^ (y * 7 + x).toNat % 2 = 1) from by first | rw [if_pos (by omega)]; exact fun q => q h27 | rw [if_neg (by omega)]; exact fun q => q h27), ← f14]
          · rw [fd_Y_cart, if_neg (show ¬ ¬ ((0 ≤ x ∧ x < M 3 0 ∧ 0 ≤ y ∧ y < M 3 1) ∧ (w = 0 ∨ w = 1)) by omega), if_neg (show ¬ ¬ (if w = 1 then fd_cvC M x y = 0 else M 14 5 / 2 ^ (y * 7 + x).toNat % 2 = 1) from by first | rw [if_pos (by omega)]; exact fun q => q h27 | rw [if_neg (by omega)]; exact fun q => q h27), ← f14]
        · have h27 := fd_biF2  h27
          refine fd_u_blk 1 (C := fd_c9) (b := true) (L' := [fd_R 0, fd_I x, fd_I y, fd_I w, fd_I (fd_bi (fd_cvC M x y = 0))]) (st' := [fd_I (-2)]) (M' := M) rfl rfl (j := 29) rfl (rfl) ?_
          refine fd_u_ret (C := fd_c9) (b := true) (r' := some (fd_I (-2))) rfl rfl rfl (rfl) ?_ ?_
          · rw [fd_X_cart, if_neg (show ¬ ¬ ((0 ≤ x ∧ x < M 3 0 ∧ 0 ≤ y ∧ y < M 3 1) ∧ (w = 0 ∨ w = 1)) by omega), if_pos (show ¬ (if w = 1 then fd_cvC M x y = 0 else M 14 5 / 2 ^ (y * 7 + x).toNat % 2 = 1) from by first | rw [if_pos (by omega)]; exact h27 | rw [if_neg (by omega)]; exact h27)]
          · rw [fd_Y_cart, if_neg (show ¬ ¬ ((0 ≤ x ∧ x < M 3 0 ∧ 0 ≤ y ∧ y < M 3 1) ∧ (w = 0 ∨ w = 1)) by omega), if_pos (show ¬ (if w = 1 then fd_cvC M x y = 0 else M 14 5 / 2 ^ (y * 7 + x).toNat % 2 = 1) from by first | rw [if_pos (by omega)]; exact h27 | rw [if_neg (by omega)]; exact h27)]
    · have h8 := fd_biF2  h8
      refine fd_u_blk 1 (C := fd_c9) (b := true) (L' := [fd_R 0, fd_I x, fd_I y, fd_I w, fd_R 1003]) (st' := [fd_I (-1)]) (M' := M) rfl rfl (j := 10) rfl (rfl) ?_
      refine fd_u_ret (C := fd_c9) (b := true) (r' := some (fd_I (-1))) rfl rfl rfl (rfl) ?_ ?_
      · rw [fd_X_cart, if_pos (show ¬ ((0 ≤ x ∧ x < M 3 0 ∧ 0 ≤ y ∧ y < M 3 1) ∧ (w = 0 ∨ w = 1)) by omega)]
      · rw [fd_Y_cart, if_pos (show ¬ ((0 ≤ x ∧ x < M 3 0 ∧ 0 ≤ y ∧ y < M 3 1) ∧ (w = 0 ∨ w = 1)) by omega)]

def fd_X_undo (M : fd_M) : Int := if M 19 1 ≤ 0 then -2 else fd_pop M 19 1
def fd_Y_undo (M : fd_M) : fd_M := if M 19 1 ≤ 0 then M else fd_pop M
theorem fd_pop_sz (M : fd_M) (hs : fd_HS M) (h19 : 1 ≤ M 19 1 ∧ M 19 1 ≤ 10) : fd_pop M 19 1 = M 19 1 - 1 := by
  unfold fd_pop fd_cps
  rw [if_neg (by omega), if_neg (by omega), fd_up_at, if_pos rfl]
theorem fd_x_undo (M : fd_M) (hs : fd_HS M) (h19 : 0 ≤ M 19 1 ∧ M 19 1 ≤ 10) (h67 : 1 ≤ M 19 1 → (0 ≤ M (M 20 (M 19 1 - 1).toNat).toNat 6 ∧ M (M 20 (M 19 1 - 1).toNat).toNat 6 ≤ 1) ∧ (0 ≤ M (M 20 (M 19 1 - 1).toNat).toNat 7 ∧ M (M 20 (M 19 1 - 1).toNat).toNat 7 ≤ 1)) : fd_call 3 13 [fd_R 0] M (some (fd_I (fd_X_undo M))) (fd_Y_undo M) := by
  refine fd_u_in (L := [fd_R 0]) rfl ?_
  refine fd_u_blk 3 (C := fd_c13) (b := true) (L' := [fd_R 0]) (st' := [fd_I (M 19 1)]) (M' := M) rfl rfl (j := 3) rfl (rfl) ?_
  refine fd_u_br (C := fd_c13) (t := 6) (e := 4) (st' := []) (c := 0 < (M 19 1)) (b := (fd_rng (M 19 1))) rfl rfl rfl (fd_bR (by omega) (by omega)) (fun h3 => ?_) (fun h3 => ?_)
  · refine fd_u_blk 4 (C := fd_c13) (b := true) (L' := [fd_R 0]) (st' := [fd_R 14, fd_R 19]) (M' := M) rfl rfl (j := 10) rfl (rfl) ?_
    refine fd_u_call (C := fd_c13) (d0 := 2) (mid := 115) (np := 2) (args := [fd_R 19, fd_R 14]) (r1 := none) (M1 := (fd_pop M)) (st' := []) rfl rfl rfl rfl rfl rfl (rfl) (fd_s_pop M hs (by omega) (h67 (by omega)).1 (h67 (by omega)).2) rfl (by omega) ?_
    refine fd_u_blk 3 (C := fd_c13) (b := true) (L' := [fd_R 0]) (st' := [fd_I ((fd_pop M) 19 1)]) (M' := (fd_pop M)) rfl rfl (j := 14) rfl (rfl) ?_
    refine fd_u_ret (C := fd_c13) (b := true) (r' := some (fd_I ((fd_pop M) 19 1))) rfl rfl rfl (rfl) ?_ ?_
    · rw [fd_X_undo, if_neg (by omega)]
    · rw [fd_Y_undo, if_neg (by omega)]
  · refine fd_u_blk 1 (C := fd_c13) (b := true) (L' := [fd_R 0]) (st' := [fd_I (-2)]) (M' := M) rfl rfl (j := 5) rfl (rfl) ?_
    refine fd_u_ret (C := fd_c13) (b := true) (r' := some (fd_I (-2))) rfl rfl rfl (rfl) ?_ ?_
    · rw [fd_X_undo, if_pos (by omega)]
    · rw [fd_Y_undo, if_pos (by omega)]

def fd_X_tells (M : fd_M) (d w : Int) : Int := if ¬ (0 ≤ d ∧ d < M 3 2 ∧ 0 ≤ w ∧ w ≤ 99) then -1 else if 6 ≤ M 78 2 then -3 else M 78 2 + 1
def fd_Y_tells (M : fd_M) (d w : Int) : fd_M := if ¬ (0 ≤ d ∧ d < M 3 2 ∧ 0 ≤ w ∧ w ≤ 99) then M else if 6 ≤ M 78 2 then M else fd_up (fd_up (fd_up M 79 (M 78 2).toNat d) 80 (M 78 2).toNat w) 78 2 (M 78 2 + 1)
theorem fd_s_toldAdd (M : fd_M) (d w : Int) (h : 0 ≤ M 78 2 ∧ M 78 2 < 6) : fd_call 0 167 [fd_R 78, fd_I d, fd_I w] M (none) (fd_up (fd_up (fd_up M 79 (M 78 2).toNat d) 80 (M 78 2).toNat w) 78 2 (M 78 2 + 1)) := by
  refine fd_u_in (L := [fd_R 78, fd_I d, fd_I w]) rfl ?_
  refine fd_u_blk 3 (C := fd_c167) (b := true) (L' := [fd_R 78, fd_I d, fd_I w]) (st' := [fd_I 6, fd_I (M 78 2)]) (M' := M) rfl rfl (j := 3) rfl (rfl) ?_
  refine fd_u_br (C := fd_c167) (t := 22) (e := 4) (st' := []) (c := 6 ≤ (M 78 2)) (b := (fd_rng (M 78 2) && fd_rng 6)) rfl rfl rfl (fd_bA (fd_bR (by omega) (by omega)) (fd_bR (by omega) (by omega))) (fun h3 => absurd h3 (by omega)) (fun h3 => ?_)
  refine fd_u_blk 18 (C := fd_c167) (b := (fd_inb (M 78 2) 6 && (fd_inb (M 78 2) 6 && true))) (L' := [fd_R 78, fd_I d, fd_I w]) (st' := []) (M' := (fd_up (fd_up (fd_up M 79 (M 78 2).toNat d) 80 (M 78 2).toNat w) 78 2 ((M 78 2) + 1))) rfl rfl (j := 22) rfl (fd_bA (fd_bI (by omega) (by omega)) (fd_bA (fd_bI (by omega) (by omega)) (rfl))) ?_
  refine fd_u_ret (C := fd_c167) (b := true) (r' := none) rfl rfl rfl (rfl) ?_ ?_
  · rfl
  · rfl

theorem fd_x_tells (M : fd_M) (hG : fd_CG M) (h78 : 0 ≤ M 78 2 ∧ M 78 2 ≤ 6) (d : Int) (hd : -2147483648 ≤ d ∧ d < 2147483648) (w : Int) (hw : -2147483648 ≤ w ∧ w < 2147483648) : fd_call 1 18 [fd_R 0, fd_I d, fd_I w] M (some (fd_I (fd_X_tells M d w))) (fd_Y_tells M d w) := by
  refine fd_u_in (L := [fd_R 0, fd_I d, fd_I w]) rfl ?_
  obtain ⟨g0, g1, g2, g3, g4, g5⟩ := hG.1
  refine fd_u_blk 3 (C := fd_c18) (b := true) (L' := [fd_R 0, fd_I d, fd_I w]) (st' := [fd_I d, fd_R 3]) (M' := M) rfl rfl (j := 3) rfl (rfl) ?_
  refine fd_u_call (C := fd_c18) (d0 := 0) (mid := 124) (np := 2) (args := [fd_R 3, fd_I d]) (r1 := some (fd_I (fd_bi (0 ≤ d ∧ d < M 3 2)))) (M1 := M) (st' := [fd_I (fd_bi (0 ≤ d ∧ d < M 3 2))]) rfl rfl rfl rfl rfl rfl (rfl) (fd_s_hasDoor M d (by omega) (by omega)) rfl (by omega) ?_
  refine fd_u_br (C := fd_c18) (t := 8) (e := 5) (st' := []) (c := (fd_bi (0 ≤ d ∧ d < M 3 2)) = 0) (b := (fd_rng (fd_bi (0 ≤ d ∧ d < M 3 2)))) rfl rfl rfl (fd_biR) (fun h4 => ?_) (fun h4 => ?_)
  · have h4 := fd_biF.mp h4
    refine fd_u_blk 1 (C := fd_c18) (b := true) (L' := [fd_R 0, fd_I d, fd_I w]) (st' := [fd_I (-1)]) (M' := M) rfl rfl (j := 9) rfl (rfl) ?_
    refine fd_u_ret (C := fd_c18) (b := true) (r' := some (fd_I (-1))) rfl rfl rfl (rfl) ?_ ?_
    · rw [fd_X_tells, if_pos (show ¬ (0 ≤ d ∧ d < M 3 2 ∧ 0 ≤ w ∧ w ≤ 99) by omega)]
    · rw [fd_Y_tells, if_pos (show ¬ (0 ≤ d ∧ d < M 3 2 ∧ 0 ≤ w ∧ w ≤ 99) by omega)]
  · have h4 := fd_biT.mp h4
    refine fd_u_blk 1 (C := fd_c18) (b := true) (L' := [fd_R 0, fd_I d, fd_I w]) (st' := [fd_I w]) (M' := M) rfl rfl (j := 6) rfl (rfl) ?_
    refine fd_u_call (C := fd_c18) (d0 := 0) (mid := 41) (np := 1) (args := [fd_I w]) (r1 := some (fd_I (fd_bi (0 ≤ w ∧ w ≤ 99)))) (M1 := M) (st' := [fd_I (fd_bi (0 ≤ w ∧ w ≤ 99))]) rfl rfl rfl rfl rfl rfl (rfl) (fd_s_isDueTold M w (by omega)) rfl (by omega) ?_
    refine fd_u_br (C := fd_c18) (t := 10) (e := 8) (st' := []) (c := ¬ (fd_bi (0 ≤ w ∧ w ≤ 99)) = 0) (b := (fd_rng (fd_bi (0 ≤ w ∧ w ≤ 99)))) rfl rfl rfl (fd_biR) (fun h7 => ?_) (fun h7 => ?_)
    · have h7 := fd_biT.mp h7
      refine fd_u_blk 4 (C := fd_c18) (b := true) (L' := [fd_R 0, fd_I d, fd_I w]) (st' := [fd_I 6, fd_I (M 78 2)]) (M' := M) rfl rfl (j := 14) rfl (rfl) ?_
      refine fd_u_br (C := fd_c18) (t := 17) (e := 15) (st' := []) (c := (M 78 2) < 6) (b := (fd_rng (M 78 2) && fd_rng 6)) rfl rfl rfl (fd_bA (fd_bR (by omega) (by omega)) (fd_bR (by omega) (by omega))) (fun h14 => ?_) (fun h14 => ?_)
      · refine fd_u_blk 4 (C := fd_c18) (b := true) (L' := [fd_R 0, fd_I d, fd_I w]) (st' := [fd_I w, fd_I d, fd_R 78]) (M' := M) rfl rfl (j := 21) rfl (rfl) ?_
        refine fd_u_call (C := fd_c18) (d0 := 0) (mid := 167) (np := 3) (args := [fd_R 78, fd_I d, fd_I w]) (r1 := none) (M1 := (fd_up (fd_up (fd_up M 79 (M 78 2).toNat d) 80 (M 78 2).toNat w) 78 2 (M 78 2 + 1))) (st' := []) rfl rfl rfl rfl rfl rfl (rfl) (fd_s_toldAdd M d w (by omega)) rfl (by omega) ?_
        refine fd_u_blk 3 (C := fd_c18) (b := true) (L' := [fd_R 0, fd_I d, fd_I w]) (st' := [fd_I (M 78 2 + 1)]) (M' := (fd_up (fd_up (fd_up M 79 (M 78 2).toNat d) 80 (M 78 2).toNat w) 78 2 (M 78 2 + 1))) rfl rfl (j := 25) rfl (rfl) ?_
        refine fd_u_ret (C := fd_c18) (b := true) (r' := some (fd_I (M 78 2 + 1))) rfl rfl rfl (rfl) ?_ ?_
        · rw [fd_X_tells, if_neg (show ¬ ¬ (0 ≤ d ∧ d < M 3 2 ∧ 0 ≤ w ∧ w ≤ 99) by omega), if_neg (show ¬ (6 ≤ M 78 2) by omega)]
        · rw [fd_Y_tells, if_neg (show ¬ ¬ (0 ≤ d ∧ d < M 3 2 ∧ 0 ≤ w ∧ w ≤ 99) by omega), if_neg (show ¬ (6 ≤ M 78 2) by omega)]
      · refine fd_u_blk 1 (C := fd_c18) (b := true) (L' := [fd_R 0, fd_I d, fd_I w]) (st' := [fd_I (-3)]) (M' := M) rfl rfl (j := 16) rfl (rfl) ?_
        refine fd_u_ret (C := fd_c18) (b := true) (r' := some (fd_I (-3))) rfl rfl rfl (rfl) ?_ ?_
        · rw [fd_X_tells, if_neg (show ¬ ¬ (0 ≤ d ∧ d < M 3 2 ∧ 0 ≤ w ∧ w ≤ 99) by omega), if_pos (show 6 ≤ M 78 2 by omega)]
        · rw [fd_Y_tells, if_neg (show ¬ ¬ (0 ≤ d ∧ d < M 3 2 ∧ 0 ≤ w ∧ w ≤ 99) by omega), if_pos (show 6 ≤ M 78 2 by omega)]
    · have h7 := fd_biF2  h7
      refine fd_u_blk 1 (C := fd_c18) (b := true) (L' := [fd_R 0, fd_I d, fd_I w]) (st' := [fd_I (-1)]) (M' := M) rfl rfl (j := 9) rfl (rfl) ?_
      refine fd_u_ret (C := fd_c18) (b := true) (r' := some (fd_I (-1))) rfl rfl rfl (rfl) ?_ ?_
      · rw [fd_X_tells, if_pos (show ¬ (0 ≤ d ∧ d < M 3 2 ∧ 0 ≤ w ∧ w ≤ 99) by omega)]
      · rw [fd_Y_tells, if_pos (show ¬ (0 ≤ d ∧ d < M 3 2 ∧ 0 ≤ w ∧ w ≤ 99) by omega)]
end
section
/-! bills and marks: the class -/
theorem fd_dor_of {M N : fd_M} (h3 : N 3 = M 3) (h15 : N 15 = M 15) (h16 : N 16 = M 16) : fd_dor N = fd_dor M := by
  funext x y
  unfold fd_dor
  rw [h3, h15, h16]
theorem fd_cvC_of {M N : fd_M} (h3 : N 3 = M 3) (h4 : N 4 = M 4) (h14 : N 14 5 = M 14 5) (h15 : N 15 = M 15) (h16 : N 16 = M 16) : fd_cvC N = fd_cvC M := by
  funext x y
  unfold fd_cvC
  rw [fd_dor_of h3 h15 h16, h3, h4, h14]
theorem fd_wsee_of {M N : fd_M} (h3 : N 3 = M 3) (h4 : N 4 = M 4) (h14 : N 14 = M 14) (h15 : N 15 = M 15) (h16 : N 16 = M 16) : fd_wsee N = fd_wsee M := by
  funext d w
  unfold fd_wsee
  rw [fd_cvC_of h3 h4 (by rw [h14]) h15 h16, h3, h14, h15, h16]
theorem fd_sw_of {M N : fd_M} (h3 : N 3 = M 3) (h4 : N 4 = M 4) (h14 : N 14 = M 14) (h15 : N 15 = M 15) (h16 : N 16 = M 16) (h17 : N 17 = M 17) : fd_sw N = fd_sw M := by
  funext d
  unfold fd_sw
  rw [fd_wsee_of h3 h4 h14 h15 h16, h14, h17]
theorem fd_dueC_of {M N : fd_M} (h3 : N 3 = M 3) (h4 : N 4 = M 4) (h14 : N 14 = M 14) (h15 : N 15 = M 15) (h16 : N 16 = M 16) (h17 : N 17 = M 17) : fd_dueC N = fd_dueC M := by
  funext d
  unfold fd_dueC
  rw [fd_sw_of h3 h4 h14 h15 h16 h17, h3, h17]
theorem fd_dio_of {M N : fd_M} (h3 : N 3 = M 3) (h4 : N 4 = M 4) (h14 : N 14 = M 14) (h15 : N 15 = M 15) (h16 : N 16 = M 16) (h17 : N 17 = M 17) : fd_dio N = fd_dio M := by
  funext d
  unfold fd_dio
  rw [fd_wsee_of h3 h4 h14 h15 h16, h3, h14, h17]
def fd_bil (M : fd_M) (k : Nat) : fd_M := fun c j => if c = 18 ∧ j < k then (if M 18 j + fd_dueC M j < 9999 then M 18 j + fd_dueC M j else 9999) else M c j
theorem fd_bil_fr {M : fd_M} {k c : Nat} (h : c ≠ 18) : fd_bil M k c = M c := by
  funext j
  unfold fd_bil
  rw [if_neg (fun q => h q.1)]
theorem fd_bil_0 (M : fd_M) : fd_bil M 0 = M := by
  funext c j
  unfold fd_bil
  rw [if_neg (by omega)]
theorem fd_bil_S (M : fd_M) (k : Nat) : fd_up (fd_bil M k) 18 k (if M 18 k + fd_dueC M k < 9999 then M 18 k + fd_dueC M k else 9999) = fd_bil M (k + 1) := by
  funext c j
  unfold fd_up fd_bil
  by_cases h : c = 18 ∧ j = k
  · obtain ⟨rfl, rfl⟩ := h
    rw [if_pos (show 18 = 18 ∧ j = j from ⟨rfl, rfl⟩), if_pos (show 18 = 18 ∧ j < j + 1 from ⟨rfl, by omega⟩)]
  · rw [if_neg h]
    by_cases h2 : c = 18 ∧ j < k
    · rw [if_pos h2, if_pos (show c = 18 ∧ j < k + 1 by omega)]
    · rw [if_neg h2, if_neg (show ¬ (c = 18 ∧ j < k + 1) by omega)]
theorem fd_bil_k (M : fd_M) (k : Nat) : fd_bil M k 18 k = M 18 k := by
  unfold fd_bil
  rw [if_neg (by omega)]
theorem fd_CG_bil {M : fd_M} (hG : fd_CG M) (k : Nat) : fd_CG (fd_bil M k) := by
  have q := hG.2.2.2.2.1
  have g3 := hG.1.2.2.2.1
  refine ⟨hG.1, hG.2.1, hG.2.2.1, hG.2.2.2.1, ?_, hG.2.2.2.2.2⟩
  intro d
  have qd := q d
  have qe := fd_due_rng (wy := M 17) g3 (fd_sw M d) d
  show 0 ≤ fd_bil M k 18 d ∧ fd_bil M k 18 d ≤ 9999
  unfold fd_bil fd_dueC
  simp only [Nat.reduceAdd] at qd
  split
  · split <;> omega
  · exact qd
theorem fd_dueC_bil (M : fd_M) (k : Nat) : fd_dueC (fd_bil M k) = fd_dueC M := fd_dueC_of (fd_bil_fr (by decide)) (fd_bil_fr (by decide)) (fd_bil_fr (by decide)) (fd_bil_fr (by decide)) (fd_bil_fr (by decide)) (fd_bil_fr (by decide))
theorem fd_s_dueOf_bil (M : fd_M) (hG : fd_CG M) (k : Nat) (hk : k < 6) : fd_call 6 156 [fd_R 72, fd_I (k : Int)] (fd_bil M k) (some (fd_I (fd_dueC M k))) (fd_bil M k) := by
  have z := fd_s_dueOf (fd_bil M k) (fd_CG_bil hG k) (k : Int) (by omega)
  rw [fd_dueC_bil] at z
  exact z
theorem fd_l_bills (M : fd_M) (hG : fd_CG M) : ∀ (n : Nat) (k : Nat) (u : fd_V) (hk : (k : Int) + n = M 3 2), fd_run 7 12 9 [fd_R 0, fd_I (fd_sum (fd_dueC M) k), fd_I ((k : Nat) : Int), u] [] (fd_bil M k) (some (fd_I (fd_sum (fd_dueC M) (M 3 2).toNat))) (fd_bil M (M 3 2).toNat) := by
  obtain ⟨g0, g1, g2, g3, g4, g5⟩ := hG.1
  obtain ⟨s1, s2, s3, s4, s5, s6, s7, s8⟩ := hG.2
  intro n
  induction n with
  | zero =>
    intro k u hk
    have e3 : fd_bil M k 3 2 = M 3 2 := rfl
    refine fd_u_blk 4 (C := fd_c12) (b := true) (L' := [fd_R 0, fd_I (fd_sum (fd_dueC M) k), fd_I ((k : Nat) : Int), u]) (st' := [fd_I ((fd_bil M k) 3 2), fd_I ((k : Nat) : Int)]) (M' := (fd_bil M k)) rfl rfl (j := 13) rfl (rfl) ?_
    refine fd_u_br (C := fd_c12) (t := 39) (e := 14) (st' := []) (c := ((fd_bil M k) 3 2) ≤ ((k : Nat) : Int)) (b := (fd_rng ((k : Nat) : Int) && fd_rng ((fd_bil M k) 3 2))) rfl rfl rfl (fd_bA (fd_bR (by omega) (by omega)) (fd_bR (by omega) (by omega))) (fun h13 => ?_) (fun h13 => absurd h13 (by omega))
    refine fd_u_blk 1 (C := fd_c12) (b := true) (L' := [fd_R 0, fd_I (fd_sum (fd_dueC M) k), fd_I ((k : Nat) : Int), u]) (st' := [fd_I (fd_sum (fd_dueC M) k)]) (M' := (fd_bil M k)) rfl rfl (j := 40) rfl (rfl) ?_
    refine fd_u_ret (C := fd_c12) (b := true) (r' := some (fd_I (fd_sum (fd_dueC M) k))) rfl rfl rfl (rfl) ?_ ?_
    · rw [show (M 3 2).toNat = k by omega]
    · rw [show (M 3 2).toNat = k by omega]
  | succ n ih =>
    intro k u hk
    have e3 : fd_bil M k 3 2 = M 3 2 := rfl
    refine fd_u_blk 4 (C := fd_c12) (b := true) (L' := [fd_R 0, fd_I (fd_sum (fd_dueC M) k), fd_I ((k : Nat) : Int), u]) (st' := [fd_I ((fd_bil M k) 3 2), fd_I ((k : Nat) : Int)]) (M' := (fd_bil M k)) rfl rfl (j := 13) rfl (rfl) ?_
    refine fd_u_br (C := fd_c12) (t := 39) (e := 14) (st' := []) (c := ((fd_bil M k) 3 2) ≤ ((k : Nat) : Int)) (b := (fd_rng ((k : Nat) : Int) && fd_rng ((fd_bil M k) 3 2))) rfl rfl rfl (fd_bA (fd_bR (by omega) (by omega)) (fd_bR (by omega) (by omega))) (fun h13 => absurd h13 (by omega)) (fun h13 => ?_)
    refine fd_u_blk 3 (C := fd_c12) (b := true) (L' := [fd_R 0, fd_I (fd_sum (fd_dueC M) k), fd_I ((k : Nat) : Int), u]) (st' := [fd_I ((k : Nat) : Int), fd_R 72]) (M' := (fd_bil M k)) rfl rfl (j := 17) rfl (rfl) ?_
    refine fd_u_call (C := fd_c12) (d0 := 6) (mid := 156) (np := 2) (args := [fd_R 72, fd_I ((k : Nat) : Int)]) (r1 := some (fd_I (fd_dueC M k))) (M1 := (fd_bil M k)) (st' := [fd_I (fd_dueC M k)]) rfl rfl rfl rfl rfl rfl (rfl) (fd_s_dueOf_bil M hG k (by omega)) rfl (by omega) ?_
    have qo := fd_due_rng (wy := M 17) hG.1.2.2.2.1 (fd_sw M k) k
    have qd : 0 ≤ fd_dueC M k ∧ fd_dueC M k ≤ 18 := qo
    have e3 : fd_bil M k 3 2 = M 3 2 := rfl
    have e18 := fd_bil_k M k
    have q4 := s4 k
    simp only [Nat.reduceAdd] at q4
    refine fd_u_blk 20 (C := fd_c12) (b := (fd_inb ((k : Nat) : Int) 6 && ((fd_rng 9999 && (fd_rng (((fd_bil M k) 18 k) + (fd_dueC M k)) && true)) && (fd_inb ((k : Nat) : Int) 6 && true)))) (L' := [fd_R 0, fd_I ((fd_sum (fd_dueC M) k) + (fd_dueC M k)), fd_I (((k + 1) : Nat) : Int), fd_I (fd_dueC M k)]) (st' := []) (M' := (fd_up (fd_bil M k) 18 k (if (((fd_bil M k) 18 k) + (fd_dueC M k)) < 9999 then (((fd_bil M k) 18 k) + (fd_dueC M k)) else 9999))) rfl rfl (j := 38) rfl (fd_bA (fd_bI (by omega) (by omega)) (fd_bA (fd_bA (fd_bR (by omega) (by omega)) (fd_bA (fd_bR (by omega) (by omega)) rfl)) (fd_bA (fd_bI (by omega) (by omega)) (rfl)))) ?_
    refine fd_u_jmp (C := fd_c12) (j := 9) (st' := []) rfl rfl (b := true) rfl rfl ?_
    rw [e18, fd_bil_S M k]
    exact ih (k + 1) _ (by omega)

def fd_Y_bills (M : fd_M) : fd_M := fd_bil (fd_push M) (M 3 2).toNat
theorem fd_x_bills (M : fd_M) (hG : fd_CG M) (hs : fd_HS M) (h19 : 0 ≤ M 19 1 ∧ M 19 1 ≤ 10) : fd_call 7 12 [fd_R 0] M (some (fd_I (fd_sum (fd_dueC M) (M 3 2).toNat))) (fd_Y_bills M) := by
  refine fd_u_in (L := [fd_R 0, fd_R 1003, fd_R 1003, fd_R 1003]) rfl ?_
  obtain ⟨g0, g1, g2, g3, g4, g5⟩ := hG.1
  have hp6 : 0 ≤ M 14 6 ∧ M 14 6 ≤ 1 := hG.2.2.2.2.2.2.2.1
  have hp7 : 0 ≤ M 14 7 ∧ M 14 7 ≤ 1 := hG.2.2.2.2.2.2.2.2
  have hP := fd_CG_push hG hs h19
  have f3 : fd_push M 3 = M 3 := fd_push_fr hs h19 (by omega)
  have f4 : fd_push M 4 = M 4 := fd_push_fr hs h19 (by omega)
  have f14 : fd_push M 14 = M 14 := fd_push_fr hs h19 (by omega)
  have f15 : fd_push M 15 = M 15 := fd_push_fr hs h19 (by omega)
  have f16 : fd_push M 16 = M 16 := fd_push_fr hs h19 (by omega)
  have f17 : fd_push M 17 = M 17 := fd_push_fr hs h19 (by omega)
  refine fd_u_blk 4 (C := fd_c12) (b := true) (L' := [fd_R 0, fd_R 1003, fd_R 1003, fd_R 1003]) (st' := [fd_R 14, fd_R 19]) (M' := M) rfl rfl (j := 4) rfl (rfl) ?_
  refine fd_u_call (C := fd_c12) (d0 := 2) (mid := 113) (np := 2) (args := [fd_R 19, fd_R 14]) (r1 := none) (M1 := (fd_push M)) (st' := []) rfl rfl rfl rfl rfl rfl (rfl) (fd_s_push M hs h19 hp6 hp7) rfl (by omega) ?_
  refine fd_u_blk 4 (C := fd_c12) (b := true) (L' := [fd_R 0, fd_I 0, fd_I 0, fd_R 1003]) (st' := []) (M' := (fd_push M)) rfl rfl (j := 9) rfl (rfl) ?_
  have z := fd_l_bills (fd_push M) hP (M 3 2).toNat 0 (fd_R 1003) (by rw [f3]; omega)
  rw [fd_dueC_of f3 f4 f14 f15 f16 f17, f3, fd_bil_0] at z
  exact z

theorem fd_up_up (M : fd_M) (c k : Nat) (v w : Int) : fd_up (fd_up M c k v) c k w = fd_up M c k w := by
  funext a b
  unfold fd_up
  by_cases h : a = c ∧ b = k
  · rw [if_pos h, if_pos h]
  · rw [if_neg h, if_neg h, if_neg h]
theorem fd_up_self (M : fd_M) (c k : Nat) : fd_up M c k (M c k) = M := by
  funext a b
  unfold fd_up
  by_cases h : a = c ∧ b = k
  · rw [if_pos h, h.1, h.2]
  · rw [if_neg h]
def fd_many (n : Int) : Int := fd_sum (fun k => n / 2 ^ k % 2) 7
theorem fd_T_CG {M : fd_M} (hG : fd_CG M) (t : Int) : fd_CG (fd_up M 0 12 t) := hG
theorem fd_T_dueOf (M : fd_M) (hG : fd_CG M) (d : Int) (hd : 0 ≤ d ∧ d < 6) (t : Int) : fd_call 6 156 [fd_R 72, fd_I d] (fd_up M 0 12 t) (some (fd_I (fd_dueC M d.toNat))) (fd_up M 0 12 t) := by
  have z := fd_s_dueOf (fd_up M 0 12 t) (fd_T_CG hG t) d hd
  rw [fd_dueC_of (M := M) (fd_up_ne (by decide)) (fd_up_ne (by decide)) (fd_up_ne (by decide)) (fd_up_ne (by decide)) (fd_up_ne (by decide)) (fd_up_ne (by decide))] at z
  exact z
theorem fd_T_seenBy (M : fd_M) (hG : fd_CG M) (d : Int) (hd : 0 ≤ d ∧ d < 6) (t : Int) : fd_call 6 154 [fd_R 72, fd_I d] (fd_up M 0 12 t) (some (fd_I (fd_bits (fun j => fd_nb (fd_sw M j) = d) (M 3 2).toNat))) (fd_up M 0 12 t) := by
  have z := fd_s_seenBy (fd_up M 0 12 t) (fd_T_CG hG t) d hd
  simp only [fd_sw_of (N := fd_up M 0 12 t) (M := M) (fd_up_ne (by decide)) (fd_up_ne (by decide)) (fd_up_ne (by decide)) (fd_up_ne (by decide)) (fd_up_ne (by decide)) (fd_up_ne (by decide))] at z
  exact z
theorem fd_T_isOpen (M : fd_M) (hG : fd_CG M) (d : Int) (hd : 0 ≤ d ∧ d < 6) (t : Int) : fd_call 1 144 [fd_R 14, fd_I d] (fd_up M 0 12 t) (some (fd_I (fd_bi (M 14 4 / 2 ^ d.toNat % 2 = 1)))) (fd_up M 0 12 t) := fd_s_isOpen (fd_up M 0 12 t) (fd_T_CG hG t) d hd
def fd_bt1 (n : Nat) : Nat := ([0, 1, 1, 2, 4, 5, 5, 6, 4, 5, 5, 6, 8, 9, 9, 10, 16, 17, 17, 18, 20, 21, 21, 22, 20, 21, 21, 22, 24, 25, 25, 26, 16, 17, 17, 18, 20, 21, 21, 22, 20, 21, 21, 22, 24, 25, 25, 26, 32, 33, 33, 34, 36, 37, 37, 38, 36, 37, 37, 38, 40, 41, 41, 42] : List Nat).getD n 0
def fd_bt2 (n : Nat) : Nat := ([0, 1, 1, 2, 1, 2, 2, 3, 1, 2, 2, 3, 2, 3, 3, 4, 16, 17, 17, 18, 17, 18, 18, 19, 17, 18, 18, 19, 18, 19, 19, 20, 16, 17, 17, 18, 17, 18, 18, 19, 17, 18, 18, 19, 18, 19, 19, 20, 32, 33, 33, 34, 33, 34, 34, 35, 33, 34, 34, 35, 34, 35, 35, 36] : List Nat).getD n 0
def fd_bt3 (n : Nat) : Nat := ([0, 1, 1, 2, 1, 2, 2, 3, 1, 2, 2, 3, 2, 3, 3, 4, 1, 2, 2, 3, 2, 3, 3, 4, 2, 3, 3, 4, 3, 4, 4, 5, 1, 2, 2, 3, 2, 3, 3, 4, 2, 3, 3, 4, 3, 4, 4, 5, 2, 3, 3, 4, 3, 4, 4, 5, 3, 4, 4, 5, 4, 5, 5, 6] : List Nat).getD n 0
def fd_bt4 (n : Nat) : Nat := ([0, 1, 1, 2, 1, 2, 2, 3, 1, 2, 2, 3, 2, 3, 3, 4, 1, 2, 2, 3, 2, 3, 3, 4, 2, 3, 3, 4, 3, 4, 4, 5, 1, 2, 2, 3, 2, 3, 3, 4, 2, 3, 3, 4, 3, 4, 4, 5, 2, 3, 3, 4, 3, 4, 4, 5, 3, 4, 4, 5, 4, 5, 5, 6] : List Nat).getD n 0
def fd_bt5 (n : Nat) : Nat := ([0, 1, 1, 2, 1, 2, 2, 3, 1, 2, 2, 3, 2, 3, 3, 4, 1, 2, 2, 3, 2, 3, 3, 4, 2, 3, 3, 4, 3, 4, 4, 5, 1, 2, 2, 3, 2, 3, 3, 4, 2, 3, 3, 4, 3, 4, 4, 5, 2, 3, 3, 4, 3, 4, 4, 5, 3, 4, 4, 5, 4, 5, 5, 6] : List Nat).getD n 0
theorem fd_bs1 : ∀ n : Fin 64, (n.val : Int) - (fd_and ((n.val : Int) / 2 ^ 1) 1431655765) = ((fd_bt1 n.val : Nat) : Int) := by decide +kernel
theorem fd_bs2 : ∀ n : Fin 64, (fd_and ((fd_bt1 n.val : Nat) : Int) 858993459) + (fd_and (((fd_bt1 n.val : Nat) : Int) / 2 ^ 2) 858993459) = ((fd_bt2 n.val : Nat) : Int) := by decide +kernel
theorem fd_bs3 : ∀ n : Fin 64, fd_and (((fd_bt2 n.val : Nat) : Int) + (((fd_bt2 n.val : Nat) : Int) / 2 ^ 4)) 252645135 = ((fd_bt3 n.val : Nat) : Int) := by decide +kernel
theorem fd_bs4 : ∀ n : Fin 64, ((fd_bt3 n.val : Nat) : Int) + (((fd_bt3 n.val : Nat) : Int) / 2 ^ 8) = ((fd_bt4 n.val : Nat) : Int) := by decide +kernel
theorem fd_bs5 : ∀ n : Fin 64, ((fd_bt4 n.val : Nat) : Int) + (((fd_bt4 n.val : Nat) : Int) / 2 ^ 16) = ((fd_bt5 n.val : Nat) : Int) := by decide +kernel
theorem fd_bs6 : ∀ n : Fin 64, fd_and ((fd_bt5 n.val : Nat) : Int) 63 = fd_many (n.val : Int) := by decide +kernel
theorem fd_btr : ∀ n : Fin 64, fd_bt1 n.val < 100 ∧ fd_bt2 n.val < 100 ∧ fd_bt3 n.val < 100 ∧ fd_bt4 n.val < 100 ∧ fd_bt5 n.val < 100 := by decide +kernel
theorem fd_s_bitCountN (M : fd_M) (n : Nat) (hv : n < 64) : fd_call 0 176 [fd_I (n : Int)] M (some (fd_I (fd_many (n : Int)))) M := by
  refine fd_u_in (L := [fd_I (n : Int)]) rfl ?_
  have b1 := fd_bs1 ⟨n, by omega⟩
  have b2 := fd_bs2 ⟨n, by omega⟩
  have b3 := fd_bs3 ⟨n, by omega⟩
  have b4 := fd_bs4 ⟨n, by omega⟩
  have b5 := fd_bs5 ⟨n, by omega⟩
  have b6 := fd_bs6 ⟨n, by omega⟩
  have bt := fd_btr ⟨n, by omega⟩
  dsimp only at b1 b2 b3 b4 b5 b6 bt
  refine fd_u_blk 1 (C := fd_c176) (b := true) (L' := [fd_I (n : Int)]) (st' := [fd_I (n : Int)]) (M' := M) rfl rfl (j := 1) rfl (rfl) ?_
  refine fd_u_blk 1 (C := fd_c176) (b := true) (L' := [fd_I (n : Int)]) (st' := [fd_I (n : Int), fd_I (n : Int)]) (M' := M) rfl rfl (j := 2) rfl (rfl) ?_
  refine fd_u_blk 1 (C := fd_c176) (b := true) (L' := [fd_I (n : Int)]) (st' := [fd_I 1, fd_I (n : Int), fd_I (n : Int)]) (M' := M) rfl rfl (j := 3) rfl (rfl) ?_
  refine fd_u_blk 1 (C := fd_c176) (b := ((fd_inb (n : Int) 2147483648 && fd_inb 1 32) && true)) (L' := [fd_I (n : Int)]) (st' := [fd_I ((n : Int) / 2 ^ 1), fd_I (n : Int)]) (M' := M) rfl rfl (j := 4) rfl (fd_bA (fd_bA (fd_bI (by omega) (by omega)) (fd_bI (by omega) (by omega))) (rfl)) ?_
  refine fd_u_blk 1 (C := fd_c176) (b := true) (L' := [fd_I (n : Int)]) (st' := [fd_I 1431655765, fd_I ((n : Int) / 2 ^ 1), fd_I (n : Int)]) (M' := M) rfl rfl (j := 5) rfl (rfl) ?_
  refine fd_u_blk 1 (C := fd_c176) (b := true) (L' := [fd_I (n : Int)]) (st' := [fd_I (fd_and ((n : Int) / 2 ^ 1) 1431655765), fd_I (n : Int)]) (M' := M) rfl rfl (j := 6) rfl (rfl) ?_
  refine fd_u_blk 1 (C := fd_c176) (b := true) (L' := [fd_I (n : Int)]) (st' := [fd_I ((n : Int) - (fd_and ((n : Int) / 2 ^ 1) 1431655765))]) (M' := M) rfl rfl (j := 7) rfl (rfl) ?_
  refine fd_u_blk 1 (C := fd_c176) (b := true) (L' := [fd_I ((n : Int) - (fd_and ((n : Int) / 2 ^ 1) 1431655765))]) (st' := []) (M' := M) rfl rfl (j := 8) rfl (rfl) ?_
  rw [b1]
  generalize fd_bt1 n = m1 at *
  refine fd_u_blk 1 (C := fd_c176) (b := true) (L' := [fd_I ((m1 : Nat) : Int)]) (st' := [fd_I ((m1 : Nat) : Int)]) (M' := M) rfl rfl (j := 9) rfl (rfl) ?_
  refine fd_u_blk 1 (C := fd_c176) (b := true) (L' := [fd_I ((m1 : Nat) : Int)]) (st' := [fd_I 858993459, fd_I ((m1 : Nat) : Int)]) (M' := M) rfl rfl (j := 10) rfl (rfl) ?_
  refine fd_u_blk 1 (C := fd_c176) (b := true) (L' := [fd_I ((m1 : Nat) : Int)]) (st' := [fd_I (fd_and ((m1 : Nat) : Int) 858993459)]) (M' := M) rfl rfl (j := 11) rfl (rfl) ?_
  refine fd_u_blk 1 (C := fd_c176) (b := true) (L' := [fd_I ((m1 : Nat) : Int)]) (st' := [fd_I ((m1 : Nat) : Int), fd_I (fd_and ((m1 : Nat) : Int) 858993459)]) (M' := M) rfl rfl (j := 12) rfl (rfl) ?_
  refine fd_u_blk 1 (C := fd_c176) (b := true) (L' := [fd_I ((m1 : Nat) : Int)]) (st' := [fd_I 2, fd_I ((m1 : Nat) : Int), fd_I (fd_and ((m1 : Nat) : Int) 858993459)]) (M' := M) rfl rfl (j := 13) rfl (rfl) ?_
  refine fd_u_blk 1 (C := fd_c176) (b := ((fd_inb ((m1 : Nat) : Int) 2147483648 && fd_inb 2 32) && true)) (L' := [fd_I ((m1 : Nat) : Int)]) (st' := [fd_I (((m1 : Nat) : Int) / 2 ^ 2), fd_I (fd_and ((m1 : Nat) : Int) 858993459)]) (M' := M) rfl rfl (j := 14) rfl (fd_bA (fd_bA (fd_bI (by omega) (by omega)) (fd_bI (by omega) (by omega))) (rfl)) ?_
  refine fd_u_blk 1 (C := fd_c176) (b := true) (L' := [fd_I ((m1 : Nat) : Int)]) (st' := [fd_I 858993459, fd_I (((m1 : Nat) : Int) / 2 ^ 2), fd_I (fd_and ((m1 : Nat) : Int) 858993459)]) (M' := M) rfl rfl (j := 15) rfl (rfl) ?_
  refine fd_u_blk 1 (C := fd_c176) (b := true) (L' := [fd_I ((m1 : Nat) : Int)]) (st' := [fd_I (fd_and (((m1 : Nat) : Int) / 2 ^ 2) 858993459), fd_I (fd_and ((m1 : Nat) : Int) 858993459)]) (M' := M) rfl rfl (j := 16) rfl (rfl) ?_
  refine fd_u_blk 1 (C := fd_c176) (b := true) (L' := [fd_I ((m1 : Nat) : Int)]) (st' := [fd_I ((fd_and ((m1 : Nat) : Int) 858993459) + (fd_and (((m1 : Nat) : Int) / 2 ^ 2) 858993459))]) (M' := M) rfl rfl (j := 17) rfl (rfl) ?_
  refine fd_u_blk 1 (C := fd_c176) (b := true) (L' := [fd_I ((fd_and ((m1 : Nat) : Int) 858993459) + (fd_and (((m1 : Nat) : Int) / 2 ^ 2) 858993459))]) (st' := []) (M' := M) rfl rfl (j := 18) rfl (rfl) ?_
  rw [b2]
  generalize fd_bt2 n = m2 at *
  refine fd_u_blk 1 (C := fd_c176) (b := true) (L' := [fd_I ((m2 : Nat) : Int)]) (st' := [fd_I ((m2 : Nat) : Int)]) (M' := M) rfl rfl (j := 19) rfl (rfl) ?_
  refine fd_u_blk 1 (C := fd_c176) (b := true) (L' := [fd_I ((m2 : Nat) : Int)]) (st' := [fd_I ((m2 : Nat) : Int), fd_I ((m2 : Nat) : Int)]) (M' := M) rfl rfl (j := 20) rfl (rfl) ?_
  refine fd_u_blk 1 (C := fd_c176) (b := true) (L' := [fd_I ((m2 : Nat) : Int)]) (st' := [fd_I 4, fd_I ((m2 : Nat) : Int), fd_I ((m2 : Nat) : Int)]) (M' := M) rfl rfl (j := 21) rfl (rfl) ?_
  refine fd_u_blk 1 (C := fd_c176) (b := ((fd_inb ((m2 : Nat) : Int) 2147483648 && fd_inb 4 32) && true)) (L' := [fd_I ((m2 : Nat) : Int)]) (st' := [fd_I (((m2 : Nat) : Int) / 2 ^ 4), fd_I ((m2 : Nat) : Int)]) (M' := M) rfl rfl (j := 22) rfl (fd_bA (fd_bA (fd_bI (by omega) (by omega)) (fd_bI (by omega) (by omega))) (rfl)) ?_
  refine fd_u_blk 1 (C := fd_c176) (b := true) (L' := [fd_I ((m2 : Nat) : Int)]) (st' := [fd_I (((m2 : Nat) : Int) + (((m2 : Nat) : Int) / 2 ^ 4))]) (M' := M) rfl rfl (j := 23) rfl (rfl) ?_
  refine fd_u_blk 1 (C := fd_c176) (b := true) (L' := [fd_I ((m2 : Nat) : Int)]) (st' := [fd_I 252645135, fd_I (((m2 : Nat) : Int) + (((m2 : Nat) : Int) / 2 ^ 4))]) (M' := M) rfl rfl (j := 24) rfl (rfl) ?_
  refine fd_u_blk 1 (C := fd_c176) (b := true) (L' := [fd_I ((m2 : Nat) : Int)]) (st' := [fd_I (fd_and (((m2 : Nat) : Int) + (((m2 : Nat) : Int) / 2 ^ 4)) 252645135)]) (M' := M) rfl rfl (j := 25) rfl (rfl) ?_
  refine fd_u_blk 1 (C := fd_c176) (b := true) (L' := [fd_I (fd_and (((m2 : Nat) : Int) + (((m2 : Nat) : Int) / 2 ^ 4)) 252645135)]) (st' := []) (M' := M) rfl rfl (j := 26) rfl (rfl) ?_
  rw [b3]
  generalize fd_bt3 n = m3 at *
  refine fd_u_blk 1 (C := fd_c176) (b := true) (L' := [fd_I ((m3 : Nat) : Int)]) (st' := [fd_I ((m3 : Nat) : Int)]) (M' := M) rfl rfl (j := 27) rfl (rfl) ?_
  refine fd_u_blk 1 (C := fd_c176) (b := true) (L' := [fd_I ((m3 : Nat) : Int)]) (st' := [fd_I ((m3 : Nat) : Int), fd_I ((m3 : Nat) : Int)]) (M' := M) rfl rfl (j := 28) rfl (rfl) ?_
  refine fd_u_blk 1 (C := fd_c176) (b := true) (L' := [fd_I ((m3 : Nat) : Int)]) (st' := [fd_I 8, fd_I ((m3 : Nat) : Int), fd_I ((m3 : Nat) : Int)]) (M' := M) rfl rfl (j := 29) rfl (rfl) ?_
  refine fd_u_blk 1 (C := fd_c176) (b := ((fd_inb ((m3 : Nat) : Int) 2147483648 && fd_inb 8 32) && true)) (L' := [fd_I ((m3 : Nat) : Int)]) (st' := [fd_I (((m3 : Nat) : Int) / 2 ^ 8), fd_I ((m3 : Nat) : Int)]) (M' := M) rfl rfl (j := 30) rfl (fd_bA (fd_bA (fd_bI (by omega) (by omega)) (fd_bI (by omega) (by omega))) (rfl)) ?_
  refine fd_u_blk 1 (C := fd_c176) (b := true) (L' := [fd_I ((m3 : Nat) : Int)]) (st' := [fd_I (((m3 : Nat) : Int) + (((m3 : Nat) : Int) / 2 ^ 8))]) (M' := M) rfl rfl (j := 31) rfl (rfl) ?_
  refine fd_u_blk 1 (C := fd_c176) (b := true) (L' := [fd_I (((m3 : Nat) : Int) + (((m3 : Nat) : Int) / 2 ^ 8))]) (st' := []) (M' := M) rfl rfl (j := 32) rfl (rfl) ?_
  rw [b4]
  generalize fd_bt4 n = m4 at *
  refine fd_u_blk 1 (C := fd_c176) (b := true) (L' := [fd_I ((m4 : Nat) : Int)]) (st' := [fd_I ((m4 : Nat) : Int)]) (M' := M) rfl rfl (j := 33) rfl (rfl) ?_
  refine fd_u_blk 1 (C := fd_c176) (b := true) (L' := [fd_I ((m4 : Nat) : Int)]) (st' := [fd_I ((m4 : Nat) : Int), fd_I ((m4 : Nat) : Int)]) (M' := M) rfl rfl (j := 34) rfl (rfl) ?_
  refine fd_u_blk 1 (C := fd_c176) (b := true) (L' := [fd_I ((m4 : Nat) : Int)]) (st' := [fd_I 16, fd_I ((m4 : Nat) : Int), fd_I ((m4 : Nat) : Int)]) (M' := M) rfl rfl (j := 35) rfl (rfl) ?_
  refine fd_u_blk 1 (C := fd_c176) (b := ((fd_inb ((m4 : Nat) : Int) 2147483648 && fd_inb 16 32) && true)) (L' := [fd_I ((m4 : Nat) : Int)]) (st' := [fd_I (((m4 : Nat) : Int) / 2 ^ 16), fd_I ((m4 : Nat) : Int)]) (M' := M) rfl rfl (j := 36) rfl (fd_bA (fd_bA (fd_bI (by omega) (by omega)) (fd_bI (by omega) (by omega))) (rfl)) ?_
  refine fd_u_blk 1 (C := fd_c176) (b := true) (L' := [fd_I ((m4 : Nat) : Int)]) (st' := [fd_I (((m4 : Nat) : Int) + (((m4 : Nat) : Int) / 2 ^ 16))]) (M' := M) rfl rfl (j := 37) rfl (rfl) ?_
  refine fd_u_blk 1 (C := fd_c176) (b := true) (L' := [fd_I (((m4 : Nat) : Int) + (((m4 : Nat) : Int) / 2 ^ 16))]) (st' := []) (M' := M) rfl rfl (j := 38) rfl (rfl) ?_
  rw [b5]
  generalize fd_bt5 n = m5 at *
  refine fd_u_blk 1 (C := fd_c176) (b := true) (L' := [fd_I ((m5 : Nat) : Int)]) (st' := [fd_I ((m5 : Nat) : Int)]) (M' := M) rfl rfl (j := 39) rfl (rfl) ?_
  refine fd_u_blk 1 (C := fd_c176) (b := true) (L' := [fd_I ((m5 : Nat) : Int)]) (st' := [fd_I 63, fd_I ((m5 : Nat) : Int)]) (M' := M) rfl rfl (j := 40) rfl (rfl) ?_
  refine fd_u_blk 1 (C := fd_c176) (b := true) (L' := [fd_I ((m5 : Nat) : Int)]) (st' := [fd_I (fd_and ((m5 : Nat) : Int) 63)]) (M' := M) rfl rfl (j := 41) rfl (rfl) ?_
  refine fd_u_ret (C := fd_c176) (b := true) (r' := some (fd_I (fd_and ((m5 : Nat) : Int) 63))) rfl rfl rfl (rfl) ?_ ?_
  · rw [b6]
  · rfl

theorem fd_s_bitCount (M : fd_M) (v : Int) (hv : 0 ≤ v ∧ v < 64) : fd_call 0 176 [fd_I v] M (some (fd_I (fd_many v))) M := by
  obtain ⟨n, rfl⟩ := Int.eq_ofNat_of_zero_le hv.1
  exact fd_s_bitCountN M n (by omega)
theorem fd_s_doorMark (M : fd_M) (hG : fd_CG M) (d : Int) (hd : 0 ≤ d ∧ d < 6) (t : Int) : fd_call 7 28 [fd_R 0, fd_I d] (fd_up M 0 12 t) (some (fd_I (fd_dueC M d.toNat))) (fd_up M 0 12 (t + 1)) := by
  refine fd_u_in (L := [fd_R 0, fd_I d]) rfl ?_
  obtain ⟨g0, g1, g2, g3, g4, g5⟩ := hG.1
  obtain ⟨s1, s2, s3, s4, s5, s6, s7, s8⟩ := hG.2
  have q1 := s1 d.toNat
  have q2 := s2 d.toNat
  have q3 := s3 d.toNat
  have q4 := s4 d.toNat
  simp only [Nat.reduceAdd] at q1 q2 q3 q4
  refine fd_u_blk 6 (C := fd_c28) (b := true) (L' := [fd_R 0, fd_I d]) (st' := []) (M' := (fd_up (fd_up M 0 12 t) 0 12 (t + 1))) rfl rfl (j := 6) rfl (rfl) ?_
  rw [fd_up_up]
  refine fd_u_blk 3 (C := fd_c28) (b := true) (L' := [fd_R 0, fd_I d]) (st' := [fd_I d, fd_R 72]) (M' := (fd_up M 0 12 (t + 1))) rfl rfl (j := 9) rfl (rfl) ?_
  refine fd_u_call (C := fd_c28) (d0 := 6) (mid := 156) (np := 2) (args := [fd_R 72, fd_I d]) (r1 := some (fd_I (fd_dueC M d.toNat))) (M1 := (fd_up M 0 12 (t + 1))) (st' := [fd_I (fd_dueC M d.toNat)]) rfl rfl rfl rfl rfl rfl (rfl) (fd_T_dueOf M hG d hd (t + 1)) rfl (by omega) ?_
  refine fd_u_ret (C := fd_c28) (b := true) (r' := some (fd_I (fd_dueC M d.toNat))) rfl rfl rfl (rfl) ?_ ?_
  · rfl
  · rfl

theorem fd_s_porchMark (M : fd_M) (hG : fd_CG M) (d : Int) (hd : 0 ≤ d ∧ d < 6) (t : Int) : fd_call 8 29 [fd_R 0, fd_I d] (fd_up M 0 12 t) (some (fd_I (fd_dueC M d.toNat + fd_many (fd_bits (fun j => fd_nb (fd_sw M j) = d) (M 3 2).toNat)))) (fd_up M 0 12 (t + 11)) := by
  refine fd_u_in (L := [fd_R 0, fd_I d]) rfl ?_
  obtain ⟨g0, g1, g2, g3, g4, g5⟩ := hG.1
  obtain ⟨s1, s2, s3, s4, s5, s6, s7, s8⟩ := hG.2
  have q1 := s1 d.toNat
  have q2 := s2 d.toNat
  have q3 := s3 d.toNat
  have q4 := s4 d.toNat
  simp only [Nat.reduceAdd] at q1 q2 q3 q4
  have qb := fd_bits_rng (fun j => fd_nb (fd_sw M j) = d) (M 3 2).toNat
  have qc : (2 : Int) ^ (M 3 2).toNat ≤ 64 := by
    have : (2 : Nat) ^ (M 3 2).toNat ≤ 2 ^ 6 := Nat.pow_le_pow_right (by decide) (by omega)
    have e : ((2 ^ (M 3 2).toNat : Nat) : Int) = (2 : Int) ^ (M 3 2).toNat := by simp
    omega
  refine fd_u_blk 6 (C := fd_c29) (b := true) (L' := [fd_R 0, fd_I d]) (st' := []) (M' := (fd_up (fd_up M 0 12 t) 0 12 (t + 10))) rfl rfl (j := 6) rfl (rfl) ?_
  rw [fd_up_up]
  refine fd_u_blk 2 (C := fd_c29) (b := true) (L' := [fd_R 0, fd_I d]) (st' := [fd_I d, fd_R 0]) (M' := (fd_up M 0 12 (t + 10))) rfl rfl (j := 8) rfl (rfl) ?_
  refine fd_u_call (C := fd_c29) (d0 := 7) (mid := 28) (np := 2) (args := [fd_R 0, fd_I d]) (r1 := some (fd_I (fd_dueC M d.toNat))) (M1 := (fd_up M 0 12 ((t + 10) + 1))) (st' := [fd_I (fd_dueC M d.toNat)]) rfl rfl rfl rfl rfl rfl (rfl) (fd_s_doorMark M hG d (by omega) (t + 10)) rfl (by omega) ?_
  refine fd_u_blk 3 (C := fd_c29) (b := true) (L' := [fd_R 0, fd_I d]) (st' := [fd_I d, fd_R 72, fd_I (fd_dueC M d.toNat)]) (M' := (fd_up M 0 12 ((t + 10) + 1))) rfl rfl (j := 12) rfl (rfl) ?_
  refine fd_u_call (C := fd_c29) (d0 := 6) (mid := 154) (np := 2) (args := [fd_R 72, fd_I d]) (r1 := some (fd_I (fd_bits (fun j => fd_nb (fd_sw M j) = d) (M 3 2).toNat))) (M1 := (fd_up M 0 12 ((t + 10) + 1))) (st' := [fd_I (fd_bits (fun j => fd_nb (fd_sw M j) = d) (M 3 2).toNat), fd_I (fd_dueC M d.toNat)]) rfl rfl rfl rfl rfl rfl (rfl) (fd_T_seenBy M hG d hd ((t + 10) + 1)) rfl (by omega) ?_
  refine fd_u_call (C := fd_c29) (d0 := 0) (mid := 176) (np := 1) (args := [fd_I (fd_bits (fun j => fd_nb (fd_sw M j) = d) (M 3 2).toNat)]) (r1 := some (fd_I (fd_many (fd_bits (fun j => fd_nb (fd_sw M j) = d) (M 3 2).toNat)))) (M1 := (fd_up M 0 12 ((t + 10) + 1))) (st' := [fd_I (fd_many (fd_bits (fun j => fd_nb (fd_sw M j) = d) (M 3 2).toNat)), fd_I (fd_dueC M d.toNat)]) rfl rfl rfl rfl rfl rfl (rfl) (fd_s_bitCount (fd_up M 0 12 ((t + 10) + 1)) (fd_bits (fun j => fd_nb (fd_sw M j) = d) (M 3 2).toNat) (by omega)) rfl (by omega) ?_
  refine fd_u_blk 1 (C := fd_c29) (b := true) (L' := [fd_R 0, fd_I d]) (st' := [fd_I ((fd_dueC M d.toNat) + (fd_many (fd_bits (fun j => fd_nb (fd_sw M j) = d) (M 3 2).toNat)))]) (M' := (fd_up M 0 12 ((t + 10) + 1))) rfl rfl (j := 15) rfl (rfl) ?_
  refine fd_u_ret (C := fd_c29) (b := true) (r' := some (fd_I ((fd_dueC M d.toNat) + (fd_many (fd_bits (fun j => fd_nb (fd_sw M j) = d) (M 3 2).toNat))))) rfl rfl rfl (rfl) ?_ ?_
  · rfl
  · rw [show ((t + 10) + 1) = t + 11 by omega]

theorem fd_s_gateMark (M : fd_M) (hG : fd_CG M) (d : Int) (hd : 0 ≤ d ∧ d < 6) (t : Int) : fd_call 8 30 [fd_R 0, fd_I d] (fd_up M 0 12 t) (some (fd_I (fd_dueC M d.toNat - M 17 d.toNat))) (fd_up M 0 12 (t + 101)) := by
  refine fd_u_in (L := [fd_R 0, fd_I d]) rfl ?_
  obtain ⟨g0, g1, g2, g3, g4, g5⟩ := hG.1
  obtain ⟨s1, s2, s3, s4, s5, s6, s7, s8⟩ := hG.2
  have q1 := s1 d.toNat
  have q2 := s2 d.toNat
  have q3 := s3 d.toNat
  have q4 := s4 d.toNat
  simp only [Nat.reduceAdd] at q1 q2 q3 q4
  refine fd_u_blk 6 (C := fd_c30) (b := true) (L' := [fd_R 0, fd_I d]) (st' := []) (M' := (fd_up (fd_up M 0 12 t) 0 12 (t + 100))) rfl rfl (j := 6) rfl (rfl) ?_
  rw [fd_up_up]
  refine fd_u_blk 2 (C := fd_c30) (b := true) (L' := [fd_R 0, fd_I d]) (st' := [fd_I d, fd_R 0]) (M' := (fd_up M 0 12 (t + 100))) rfl rfl (j := 8) rfl (rfl) ?_
  refine fd_u_call (C := fd_c30) (d0 := 7) (mid := 28) (np := 2) (args := [fd_R 0, fd_I d]) (r1 := some (fd_I (fd_dueC M d.toNat))) (M1 := (fd_up M 0 12 ((t + 100) + 1))) (st' := [fd_I (fd_dueC M d.toNat)]) rfl rfl rfl rfl rfl rfl (rfl) (fd_s_doorMark M hG d (by omega) (t + 100)) rfl (by omega) ?_
  refine fd_u_blk 6 (C := fd_c30) (b := (fd_inb d 6 && true)) (L' := [fd_R 0, fd_I d]) (st' := [fd_I ((fd_dueC M d.toNat) - (M 17 (d).toNat))]) (M' := (fd_up M 0 12 ((t + 100) + 1))) rfl rfl (j := 15) rfl (fd_bA (fd_bI (by omega) (by omega)) (rfl)) ?_
  refine fd_u_ret (C := fd_c30) (b := true) (r' := some (fd_I ((fd_dueC M d.toNat) - (M 17 (d).toNat)))) rfl rfl rfl (rfl) ?_ ?_
  · rfl
  · rw [show ((t + 100) + 1) = t + 101 by omega]

theorem fd_s_bayMark (M : fd_M) (hG : fd_CG M) (d : Int) (hd : 0 ≤ d ∧ d < 6) (t : Int) : fd_call 9 31 [fd_R 0, fd_I d] (fd_up M 0 12 t) (some (fd_I ((fd_dueC M d.toNat + fd_many (fd_bits (fun j => fd_nb (fd_sw M j) = d) (M 3 2).toNat)) * 2))) (fd_up M 0 12 (t + 1011)) := by
  refine fd_u_in (L := [fd_R 0, fd_I d]) rfl ?_
  obtain ⟨g0, g1, g2, g3, g4, g5⟩ := hG.1
  obtain ⟨s1, s2, s3, s4, s5, s6, s7, s8⟩ := hG.2
  have q1 := s1 d.toNat
  have q2 := s2 d.toNat
  have q3 := s3 d.toNat
  have q4 := s4 d.toNat
  simp only [Nat.reduceAdd] at q1 q2 q3 q4
  refine fd_u_blk 6 (C := fd_c31) (b := true) (L' := [fd_R 0, fd_I d]) (st' := []) (M' := (fd_up (fd_up M 0 12 t) 0 12 (t + 1000))) rfl rfl (j := 6) rfl (rfl) ?_
  rw [fd_up_up]
  refine fd_u_blk 2 (C := fd_c31) (b := true) (L' := [fd_R 0, fd_I d]) (st' := [fd_I d, fd_R 0]) (M' := (fd_up M 0 12 (t + 1000))) rfl rfl (j := 8) rfl (rfl) ?_
  refine fd_u_call (C := fd_c31) (d0 := 8) (mid := 29) (np := 2) (args := [fd_R 0, fd_I d]) (r1 := some (fd_I (fd_dueC M d.toNat + fd_many (fd_bits (fun j => fd_nb (fd_sw M j) = d) (M 3 2).toNat)))) (M1 := (fd_up M 0 12 ((t + 1000) + 11))) (st' := [fd_I (fd_dueC M d.toNat + fd_many (fd_bits (fun j => fd_nb (fd_sw M j) = d) (M 3 2).toNat))]) rfl rfl rfl rfl rfl rfl (rfl) (fd_s_porchMark M hG d (by omega) (t + 1000)) rfl (by omega) ?_
  refine fd_u_blk 2 (C := fd_c31) (b := true) (L' := [fd_R 0, fd_I d]) (st' := [fd_I ((fd_dueC M d.toNat + fd_many (fd_bits (fun j => fd_nb (fd_sw M j) = d) (M 3 2).toNat)) * 2)]) (M' := (fd_up M 0 12 ((t + 1000) + 11))) rfl rfl (j := 11) rfl (rfl) ?_
  refine fd_u_ret (C := fd_c31) (b := true) (r' := some (fd_I ((fd_dueC M d.toNat + fd_many (fd_bits (fun j => fd_nb (fd_sw M j) = d) (M 3 2).toNat)) * 2))) rfl rfl rfl (rfl) ?_ ?_
  · rfl
  · rw [show ((t + 1000) + 11) = t + 1011 by omega]

theorem fd_s_schoolMark (M : fd_M) (hG : fd_CG M) (d : Int) (hd : 0 ≤ d ∧ d < 6) (t : Int) : fd_call 9 32 [fd_R 0, fd_I d] (fd_up M 0 12 t) (some (fd_I (fd_dueC M d.toNat - M 17 d.toNat + (if M 14 4 / 2 ^ d.toNat % 2 = 1 then 7 else 0)))) (fd_up M 0 12 (t + 10101)) := by
  refine fd_u_in (L := [fd_R 0, fd_I d]) rfl ?_
  obtain ⟨g0, g1, g2, g3, g4, g5⟩ := hG.1
  obtain ⟨s1, s2, s3, s4, s5, s6, s7, s8⟩ := hG.2
  have q1 := s1 d.toNat
  have q2 := s2 d.toNat
  have q3 := s3 d.toNat
  have q4 := s4 d.toNat
  simp only [Nat.reduceAdd] at q1 q2 q3 q4
  refine fd_u_blk 6 (C := fd_c32) (b := true) (L' := [fd_R 0, fd_I d]) (st' := []) (M' := (fd_up (fd_up M 0 12 t) 0 12 (t + 10000))) rfl rfl (j := 6) rfl (rfl) ?_
  rw [fd_up_up]
  refine fd_u_blk 2 (C := fd_c32) (b := true) (L' := [fd_R 0, fd_I d]) (st' := [fd_I d, fd_R 0]) (M' := (fd_up M 0 12 (t + 10000))) rfl rfl (j := 8) rfl (rfl) ?_
  refine fd_u_call (C := fd_c32) (d0 := 8) (mid := 30) (np := 2) (args := [fd_R 0, fd_I d]) (r1 := some (fd_I (fd_dueC M d.toNat - M 17 d.toNat))) (M1 := (fd_up M 0 12 ((t + 10000) + 101))) (st' := [fd_I (fd_dueC M d.toNat - M 17 d.toNat)]) rfl rfl rfl rfl rfl rfl (rfl) (fd_s_gateMark M hG d (by omega) (t + 10000)) rfl (by omega) ?_
  refine fd_u_blk 3 (C := fd_c32) (b := true) (L' := [fd_R 0, fd_I d]) (st' := [fd_I d, fd_R 14, fd_I (fd_dueC M d.toNat - M 17 d.toNat)]) (M' := (fd_up M 0 12 ((t + 10000) + 101))) rfl rfl (j := 12) rfl (rfl) ?_
  refine fd_u_call (C := fd_c32) (d0 := 1) (mid := 144) (np := 2) (args := [fd_R 14, fd_I d]) (r1 := some (fd_I (fd_bi (M 14 4 / 2 ^ d.toNat % 2 = 1)))) (M1 := (fd_up M 0 12 ((t + 10000) + 101))) (st' := [fd_I (fd_bi (M 14 4 / 2 ^ d.toNat % 2 = 1)), fd_I (fd_dueC M d.toNat - M 17 d.toNat)]) rfl rfl rfl rfl rfl rfl (rfl) (fd_T_isOpen M hG d hd ((t + 10000) + 101)) rfl (by omega) ?_
  refine fd_u_br (C := fd_c32) (t := 16) (e := 14) (st' := [fd_I (fd_dueC M d.toNat - M 17 d.toNat)]) (c := (fd_bi (M 14 4 / 2 ^ d.toNat % 2 = 1)) = 0) (b := (fd_rng (fd_bi (M 14 4 / 2 ^ d.toNat % 2 = 1)))) rfl rfl rfl (fd_biR) (fun h13 => ?_) (fun h13 => ?_)
  · have h13 := fd_biF.mp h13
    refine fd_u_blk 2 (C := fd_c32) (b := true) (L' := [fd_R 0, fd_I d]) (st' := [fd_I ((fd_dueC M d.toNat - M 17 d.toNat) + 0)]) (M' := (fd_up M 0 12 ((t + 10000) + 101))) rfl rfl (j := 18) rfl (rfl) ?_
    refine fd_u_ret (C := fd_c32) (b := true) (r' := some (fd_I ((fd_dueC M d.toNat - M 17 d.toNat) + 0))) rfl rfl rfl (rfl) ?_ ?_
    · rw [if_neg h13]
    · rw [show ((t + 10000) + 101) = t + 10101 by omega]
  · have h13 := fd_biT.mp h13
    refine fd_u_blk 1 (C := fd_c32) (b := true) (L' := [fd_R 0, fd_I d]) (st' := [fd_I 7, fd_I (fd_dueC M d.toNat - M 17 d.toNat)]) (M' := (fd_up M 0 12 ((t + 10000) + 101))) rfl rfl (j := 15) rfl (rfl) ?_
    refine fd_u_jmp (C := fd_c32) (j := 17) (st' := [fd_I 7, fd_I (fd_dueC M d.toNat - M 17 d.toNat)]) rfl rfl (b := true) rfl rfl ?_
    refine fd_u_blk 1 (C := fd_c32) (b := true) (L' := [fd_R 0, fd_I d]) (st' := [fd_I ((fd_dueC M d.toNat - M 17 d.toNat) + 7)]) (M' := (fd_up M 0 12 ((t + 10000) + 101))) rfl rfl (j := 18) rfl (rfl) ?_
    refine fd_u_ret (C := fd_c32) (b := true) (r' := some (fd_I ((fd_dueC M d.toNat - M 17 d.toNat) + 7))) rfl rfl rfl (rfl) ?_ ?_
    · rw [if_pos h13]
    · rw [show ((t + 10000) + 101) = t + 10101 by omega]

theorem fd_s_hatchMark (M : fd_M) (hG : fd_CG M) (d : Int) (hd : 0 ≤ d ∧ d < 6) (t : Int) : fd_call 8 33 [fd_R 0, fd_I d] (fd_up M 0 12 t) (some (fd_I (fd_dueC M d.toNat + M 18 d.toNat))) (fd_up M 0 12 (t + 100001)) := by
  refine fd_u_in (L := [fd_R 0, fd_I d]) rfl ?_
  obtain ⟨g0, g1, g2, g3, g4, g5⟩ := hG.1
  obtain ⟨s1, s2, s3, s4, s5, s6, s7, s8⟩ := hG.2
  have q1 := s1 d.toNat
  have q2 := s2 d.toNat
  have q3 := s3 d.toNat
  have q4 := s4 d.toNat
  simp only [Nat.reduceAdd] at q1 q2 q3 q4
  refine fd_u_blk 6 (C := fd_c33) (b := true) (L' := [fd_R 0, fd_I d]) (st' := []) (M' := (fd_up (fd_up M 0 12 t) 0 12 (t + 100000))) rfl rfl (j := 6) rfl (rfl) ?_
  rw [fd_up_up]
  refine fd_u_blk 2 (C := fd_c33) (b := true) (L' := [fd_R 0, fd_I d]) (st' := [fd_I d, fd_R 0]) (M' := (fd_up M 0 12 (t + 100000))) rfl rfl (j := 8) rfl (rfl) ?_
  refine fd_u_call (C := fd_c33) (d0 := 7) (mid := 28) (np := 2) (args := [fd_R 0, fd_I d]) (r1 := some (fd_I (fd_dueC M d.toNat))) (M1 := (fd_up M 0 12 ((t + 100000) + 1))) (st' := [fd_I (fd_dueC M d.toNat)]) rfl rfl rfl rfl rfl rfl (rfl) (fd_s_doorMark M hG d (by omega) (t + 100000)) rfl (by omega) ?_
  refine fd_u_blk 6 (C := fd_c33) (b := (fd_inb d 6 && true)) (L' := [fd_R 0, fd_I d]) (st' := [fd_I ((fd_dueC M d.toNat) + (M 18 (d).toNat))]) (M' := (fd_up M 0 12 ((t + 100000) + 1))) rfl rfl (j := 15) rfl (fd_bA (fd_bI (by omega) (by omega)) (rfl)) ?_
  refine fd_u_ret (C := fd_c33) (b := true) (r' := some (fd_I ((fd_dueC M d.toNat) + (M 18 (d).toNat)))) rfl rfl rfl (rfl) ?_ ?_
  · rfl
  · rw [show ((t + 100000) + 1) = t + 100001 by omega]

def fd_X_mark (M : fd_M) (k d : Int) : Int := if ¬ (0 ≤ d ∧ d < M 3 2) then -1000000 else if k = 0 then fd_dueC M d.toNat else if k = 1 then fd_dueC M d.toNat + fd_many (fd_bits (fun j => fd_nb (fd_sw M j) = d) (M 3 2).toNat) else if k = 2 then fd_dueC M d.toNat - M 17 d.toNat else if k = 3 then (fd_dueC M d.toNat + fd_many (fd_bits (fun j => fd_nb (fd_sw M j) = d) (M 3 2).toNat)) * 2 else if k = 4 then fd_dueC M d.toNat - M 17 d.toNat + (if M 14 4 / 2 ^ d.toNat % 2 = 1 then 7 else 0) else if k = 5 then fd_dueC M d.toNat + M 18 d.toNat else -1000000
def fd_Z_mark (M : fd_M) (k d : Int) : Int := if ¬ (0 ≤ d ∧ d < M 3 2) then 0 else if k = 0 then 1 else if k = 1 then 11 else if k = 2 then 101 else if k = 3 then 1011 else if k = 4 then 10101 else if k = 5 then 100001 else 0
theorem fd_upz (M : fd_M) : fd_up M 0 12 (M 0 12 + 0) = M := by rw [Int.add_zero, fd_up_self]
theorem fd_x_markT (M : fd_M) (hG : fd_CG M) (k : Int) (hk : -2147483648 ≤ k ∧ k < 2147483648) (d : Int) (hd : -2147483648 ≤ d ∧ d < 2147483648) : fd_call 10 23 [fd_R 0, fd_I k, fd_I d] (fd_up M 0 12 (M 0 12)) (some (fd_I (fd_X_mark M k d))) (fd_up M 0 12 (M 0 12 + fd_Z_mark M k d)) := by
  refine fd_u_in (L := [fd_R 0, fd_I k, fd_I d]) rfl ?_
  obtain ⟨g0, g1, g2, g3, g4, g5⟩ := hG.1
  refine fd_u_blk 3 (C := fd_c23) (b := true) (L' := [fd_R 0, fd_I k, fd_I d]) (st' := [fd_I d, fd_R 3]) (M' := (fd_up M 0 12 (M 0 12))) rfl rfl (j := 3) rfl (rfl) ?_
  refine fd_u_call (C := fd_c23) (d0 := 0) (mid := 124) (np := 2) (args := [fd_R 3, fd_I d]) (r1 := some (fd_I (fd_bi (0 ≤ d ∧ d < M 3 2)))) (M1 := (fd_up M 0 12 (M 0 12))) (st' := [fd_I (fd_bi (0 ≤ d ∧ d < M 3 2))]) rfl rfl rfl rfl rfl rfl (rfl) (fd_s_hasDoor (fd_up M 0 12 (M 0 12)) d (by omega) (show 0 ≤ M 3 2 ∧ M 3 2 ≤ 6 by omega)) rfl (by omega) ?_
  refine fd_u_br (C := fd_c23) (t := 7) (e := 5) (st' := []) (c := ¬ (fd_bi (0 ≤ d ∧ d < M 3 2)) = 0) (b := (fd_rng (fd_bi (0 ≤ d ∧ d < M 3 2)))) rfl rfl rfl (fd_biR) (fun h4 => ?_) (fun h4 => ?_)
  · have h4 := fd_biT.mp h4
    refine fd_u_blk 1 (C := fd_c23) (b := true) (L' := [fd_R 0, fd_I k, fd_I d]) (st' := [fd_I k]) (M' := (fd_up M 0 12 (M 0 12))) rfl rfl (j := 8) rfl (rfl) ?_
    by_cases h8_0 : k = 0
    · refine fd_u_jmp (C := fd_c23) (j := 9) (st' := []) rfl rfl (b := fd_rng k) (by rw [h8_0]; rfl) (fd_bR (by omega) (by omega)) ?_
      refine fd_u_blk 2 (C := fd_c23) (b := true) (L' := [fd_R 0, fd_I k, fd_I d]) (st' := [fd_I d, fd_R 0]) (M' := (fd_up M 0 12 (M 0 12))) rfl rfl (j := 11) rfl (rfl) ?_
      refine fd_u_call (C := fd_c23) (d0 := 7) (mid := 28) (np := 2) (args := [fd_R 0, fd_I d]) (r1 := some (fd_I (fd_dueC M d.toNat))) (M1 := (fd_up M 0 12 ((M 0 12) + 1))) (st' := [fd_I (fd_dueC M d.toNat)]) rfl rfl rfl rfl rfl rfl (rfl) (fd_s_doorMark M hG d (by omega) (M 0 12)) rfl (by omega) ?_
      refine fd_u_ret (C := fd_c23) (b := true) (r' := some (fd_I (fd_dueC M d.toNat))) rfl rfl rfl (rfl) ?_ ?_
      · first | rw [fd_X_mark, if_neg (show ¬ ¬ (0 ≤ d ∧ d < M 3 2) by omega), if_pos h8_0] | rw [fd_X_mark, if_neg (show ¬ ¬ (0 ≤ d ∧ d < M 3 2) by omega), if_neg h8_0, if_pos h8_1] | rw [fd_X_mark, if_neg (show ¬ ¬ (0 ≤ d ∧ d < M 3 2) by omega), if_neg h8_0, if_neg h8_1, if_pos h8_2] | rw [fd_X_mark, if_neg (show ¬ ¬ (0 ≤ d ∧ d < M 3 2) by omega), if_neg h8_0, if_neg h8_1, if_neg h8_2, if_pos h8_3] | rw [fd_X_mark, if_neg (show ¬ ¬ (0 ≤ d ∧ d < M 3 2) by omega), if_neg h8_0, if_neg h8_1, if_neg h8_2, if_neg h8_3, if_pos h8_4] | rw [fd_X_mark, if_neg (show ¬ ¬ (0 ≤ d ∧ d < M 3 2) by omega), if_neg h8_0, if_neg h8_1, if_neg h8_2, if_neg h8_3, if_neg h8_4, if_pos h8_5] | rw [fd_X_mark, if_neg (show ¬ ¬ (0 ≤ d ∧ d < M 3 2) by omega), if_neg h8_0, if_neg h8_1, if_neg h8_2, if_neg h8_3, if_neg h8_4, if_neg h8_5] | rw [fd_X_mark, if_pos (show ¬ (0 ≤ d ∧ d < M 3 2) by omega)]
      · first | (rw [fd_Z_mark, if_neg (show ¬ ¬ (0 ≤ d ∧ d < M 3 2) by omega), if_pos h8_0]; done) | (rw [fd_Z_mark, if_neg (show ¬ ¬ (0 ≤ d ∧ d < M 3 2) by omega), if_neg h8_0, if_pos h8_1]; done) | (rw [fd_Z_mark, if_neg (show ¬ ¬ (0 ≤ d ∧ d < M 3 2) by omega), if_neg h8_0, if_neg h8_1, if_pos h8_2]; done) | (rw [fd_Z_mark, if_neg (show ¬ ¬ (0 ≤ d ∧ d < M 3 2) by omega), if_neg h8_0, if_neg h8_1, if_neg h8_2, if_pos h8_3]; done) | (rw [fd_Z_mark, if_neg (show ¬ ¬ (0 ≤ d ∧ d < M 3 2) by omega), if_neg h8_0, if_neg h8_1, if_neg h8_2, if_neg h8_3, if_pos h8_4]; done) | (rw [fd_Z_mark, if_neg (show ¬ ¬ (0 ≤ d ∧ d < M 3 2) by omega), if_neg h8_0, if_neg h8_1, if_neg h8_2, if_neg h8_3, if_neg h8_4, if_pos h8_5]; done) | (rw [fd_Z_mark, if_neg (show ¬ ¬ (0 ≤ d ∧ d < M 3 2) by omega), if_neg h8_0, if_neg h8_1, if_neg h8_2, if_neg h8_3, if_neg h8_4, if_neg h8_5]; first | rfl | exact (fd_upz M).symm | (rw [Int.add_zero]; done)) | (rw [fd_Z_mark, if_pos (show ¬ (0 ≤ d ∧ d < M 3 2) by omega)]; first | rfl | exact (fd_upz M).symm | (rw [Int.add_zero]; done))
    by_cases h8_1 : k = 1
    · refine fd_u_jmp (C := fd_c23) (j := 13) (st' := []) rfl rfl (b := fd_rng k) (by rw [h8_1]; rfl) (fd_bR (by omega) (by omega)) ?_
      refine fd_u_blk 2 (C := fd_c23) (b := true) (L' := [fd_R 0, fd_I k, fd_I d]) (st' := [fd_I d, fd_R 0]) (M' := (fd_up M 0 12 (M 0 12))) rfl rfl (j := 15) rfl (rfl) ?_
      refine fd_u_call (C := fd_c23) (d0 := 8) (mid := 29) (np := 2) (args := [fd_R 0, fd_I d]) (r1 := some (fd_I (fd_dueC M d.toNat + fd_many (fd_bits (fun j => fd_nb (fd_sw M j) = d) (M 3 2).toNat)))) (M1 := (fd_up M 0 12 ((M 0 12) + 11))) (st' := [fd_I (fd_dueC M d.toNat + fd_many (fd_bits (fun j => fd_nb (fd_sw M j) = d) (M 3 2).toNat))]) rfl rfl rfl rfl rfl rfl (rfl) (fd_s_porchMark M hG d (by omega) (M 0 12)) rfl (by omega) ?_
      refine fd_u_ret (C := fd_c23) (b := true) (r' := some (fd_I (fd_dueC M d.toNat + fd_many (fd_bits (fun j => fd_nb (fd_sw M j) = d) (M 3 2).toNat)))) rfl rfl rfl (rfl) ?_ ?_
      · first | rw [fd_X_mark, if_neg (show ¬ ¬ (0 ≤ d ∧ d < M 3 2) by omega), if_pos h8_0] | rw [fd_X_mark, if_neg (show ¬ ¬ (0 ≤ d ∧ d < M 3 2) by omega), if_neg h8_0, if_pos h8_1] | rw [fd_X_mark, if_neg (show ¬ ¬ (0 ≤ d ∧ d < M 3 2) by omega), if_neg h8_0, if_neg h8_1, if_pos h8_2] | rw [fd_X_mark, if_neg (show ¬ ¬ (0 ≤ d ∧ d < M 3 2) by omega), if_neg h8_0, if_neg h8_1, if_neg h8_2, if_pos h8_3] | rw [fd_X_mark, if_neg (show ¬ ¬ (0 ≤ d ∧ d < M 3 2) by omega), if_neg h8_0, if_neg h8_1, if_neg h8_2, if_neg h8_3, if_pos h8_4] | rw [fd_X_mark, if_neg (show ¬ ¬ (0 ≤ d ∧ d < M 3 2) by omega), if_neg h8_0, if_neg h8_1, if_neg h8_2, if_neg h8_3, if_neg h8_4, if_pos h8_5] | rw [fd_X_mark, if_neg (show ¬ ¬ (0 ≤ d ∧ d < M 3 2) by omega), if_neg h8_0, if_neg h8_1, if_neg h8_2, if_neg h8_3, if_neg h8_4, if_neg h8_5] | rw [fd_X_mark, if_pos (show ¬ (0 ≤ d ∧ d < M 3 2) by omega)]
      · first | (rw [fd_Z_mark, if_neg (show ¬ ¬ (0 ≤ d ∧ d < M 3 2) by omega), if_pos h8_0]; done) | (rw [fd_Z_mark, if_neg (show ¬ ¬ (0 ≤ d ∧ d < M 3 2) by omega), if_neg h8_0, if_pos h8_1]; done) | (rw [fd_Z_mark, if_neg (show ¬ ¬ (0 ≤ d ∧ d < M 3 2) by omega), if_neg h8_0, if_neg h8_1, if_pos h8_2]; done) | (rw [fd_Z_mark, if_neg (show ¬ ¬ (0 ≤ d ∧ d < M 3 2) by omega), if_neg h8_0, if_neg h8_1, if_neg h8_2, if_pos h8_3]; done) | (rw [fd_Z_mark, if_neg (show ¬ ¬ (0 ≤ d ∧ d < M 3 2) by omega), if_neg h8_0, if_neg h8_1, if_neg h8_2, if_neg h8_3, if_pos h8_4]; done) | (rw [fd_Z_mark, if_neg (show ¬ ¬ (0 ≤ d ∧ d < M 3 2) by omega), if_neg h8_0, if_neg h8_1, if_neg h8_2, if_neg h8_3, if_neg h8_4, if_pos h8_5]; done) | (rw [fd_Z_mark, if_neg (show ¬ ¬ (0 ≤ d ∧ d < M 3 2) by omega), if_neg h8_0, if_neg h8_1, if_neg h8_2, if_neg h8_3, if_neg h8_4, if_neg h8_5]; first | rfl | exact (fd_upz M).symm | (rw [Int.add_zero]; done)) | (rw [fd_Z_mark, if_pos (show ¬ (0 ≤ d ∧ d < M 3 2) by omega)]; first | rfl | exact (fd_upz M).symm | (rw [Int.add_zero]; done))
    by_cases h8_2 : k = 2
    · refine fd_u_jmp (C := fd_c23) (j := 17) (st' := []) rfl rfl (b := fd_rng k) (by rw [h8_2]; rfl) (fd_bR (by omega) (by omega)) ?_
      refine fd_u_blk 2 (C := fd_c23) (b := true) (L' := [fd_R 0, fd_I k, fd_I d]) (st' := [fd_I d, fd_R 0]) (M' := (fd_up M 0 12 (M 0 12))) rfl rfl (j := 19) rfl (rfl) ?_
      refine fd_u_call (C := fd_c23) (d0 := 8) (mid := 30) (np := 2) (args := [fd_R 0, fd_I d]) (r1 := some (fd_I (fd_dueC M d.toNat - M 17 d.toNat))) (M1 := (fd_up M 0 12 ((M 0 12) + 101))) (st' := [fd_I (fd_dueC M d.toNat - M 17 d.toNat)]) rfl rfl rfl rfl rfl rfl (rfl) (fd_s_gateMark M hG d (by omega) (M 0 12)) rfl (by omega) ?_
      refine fd_u_ret (C := fd_c23) (b := true) (r' := some (fd_I (fd_dueC M d.toNat - M 17 d.toNat))) rfl rfl rfl (rfl) ?_ ?_
      · first | rw [fd_X_mark, if_neg (show ¬ ¬ (0 ≤ d ∧ d < M 3 2) by omega), if_pos h8_0] | rw [fd_X_mark, if_neg (show ¬ ¬ (0 ≤ d ∧ d < M 3 2) by omega), if_neg h8_0, if_pos h8_1] | rw [fd_X_mark, if_neg (show ¬ ¬ (0 ≤ d ∧ d < M 3 2) by omega), if_neg h8_0, if_neg h8_1, if_pos h8_2] | rw [fd_X_mark, if_neg (show ¬ ¬ (0 ≤ d ∧ d < M 3 2) by omega), if_neg h8_0, if_neg h8_1, if_neg h8_2, if_pos h8_3] | rw [fd_X_mark, if_neg (show ¬ ¬ (0 ≤ d ∧ d < M 3 2) by omega), if_neg h8_0, if_neg h8_1, if_neg h8_2, if_neg h8_3, if_pos h8_4] | rw [fd_X_mark, if_neg (show ¬ ¬ (0 ≤ d ∧ d < M 3 2) by omega), if_neg h8_0, if_neg h8_1, if_neg h8_2, if_neg h8_3, if_neg h8_4, if_pos h8_5] | rw [fd_X_mark, if_neg (show ¬ ¬ (0 ≤ d ∧ d < M 3 2) by omega), if_neg h8_0, if_neg h8_1, if_neg h8_2, if_neg h8_3, if_neg h8_4, if_neg h8_5] | rw [fd_X_mark, if_pos (show ¬ (0 ≤ d ∧ d < M 3 2) by omega)]
      · first | (rw [fd_Z_mark, if_neg (show ¬ ¬ (0 ≤ d ∧ d < M 3 2) by omega), if_pos h8_0]; done) | (rw [fd_Z_mark, if_neg (show ¬ ¬ (0 ≤ d ∧ d < M 3 2) by omega), if_neg h8_0, if_pos h8_1]; done) | (rw [fd_Z_mark, if_neg (show ¬ ¬ (0 ≤ d ∧ d < M 3 2) by omega), if_neg h8_0, if_neg h8_1, if_pos h8_2]; done) | (rw [fd_Z_mark, if_neg (show ¬ ¬ (0 ≤ d ∧ d < M 3 2) by omega), if_neg h8_0, if_neg h8_1, if_neg h8_2, if_pos h8_3]; done) | (rw [fd_Z_mark, if_neg (show ¬ ¬ (0 ≤ d ∧ d < M 3 2) by omega), if_neg h8_0, if_neg h8_1, if_neg h8_2, if_neg h8_3, if_pos h8_4]; done) | (rw [fd_Z_mark, if_neg (show ¬ ¬ (0 ≤ d ∧ d < M 3 2) by omega), if_neg h8_0, if_neg h8_1, if_neg h8_2, if_neg h8_3, if_neg h8_4, if_pos h8_5]; done) | (rw [fd_Z_mark, if_neg (show ¬ ¬ (0 ≤ d ∧ d < M 3 2) by omega), if_neg h8_0, if_neg h8_1, if_neg h8_2, if_neg h8_3, if_neg h8_4, if_neg h8_5]; first | rfl | exact (fd_upz M).symm | (rw [Int.add_zero]; done)) | (rw [fd_Z_mark, if_pos (show ¬ (0 ≤ d ∧ d < M 3 2) by omega)]; first | rfl | exact (fd_upz M).symm | (rw [Int.add_zero]; done))
    by_cases h8_3 : k = 3
    · refine fd_u_jmp (C := fd_c23) (j := 21) (st' := []) rfl rfl (b := fd_rng k) (by rw [h8_3]; rfl) (fd_bR (by omega) (by omega)) ?_
      refine fd_u_blk 2 (C := fd_c23) (b := true) (L' := [fd_R 0, fd_I k, fd_I d]) (st' := [fd_I d, fd_R 0]) (M' := (fd_up M 0 12 (M 0 12))) rfl rfl (j := 23) rfl (rfl) ?_
      refine fd_u_call (C := fd_c23) (d0 := 9) (mid := 31) (np := 2) (args := [fd_R 0, fd_I d]) (r1 := some (fd_I ((fd_dueC M d.toNat + fd_many (fd_bits (fun j => fd_nb (fd_sw M j) = d) (M 3 2).toNat)) * 2))) (M1 := (fd_up M 0 12 ((M 0 12) + 1011))) (st' := [fd_I ((fd_dueC M d.toNat + fd_many (fd_bits (fun j => fd_nb (fd_sw M j) = d) (M 3 2).toNat)) * 2)]) rfl rfl rfl rfl rfl rfl (rfl) (fd_s_bayMark M hG d (by omega) (M 0 12)) rfl (by omega) ?_
      refine fd_u_ret (C := fd_c23) (b := true) (r' := some (fd_I ((fd_dueC M d.toNat + fd_many (fd_bits (fun j => fd_nb (fd_sw M j) = d) (M 3 2).toNat)) * 2))) rfl rfl rfl (rfl) ?_ ?_
      · first | rw [fd_X_mark, if_neg (show ¬ ¬ (0 ≤ d ∧ d < M 3 2) by omega), if_pos h8_0] | rw [fd_X_mark, if_neg (show ¬ ¬ (0 ≤ d ∧ d < M 3 2) by omega), if_neg h8_0, if_pos h8_1] | rw [fd_X_mark, if_neg (show ¬ ¬ (0 ≤ d ∧ d < M 3 2) by omega), if_neg h8_0, if_neg h8_1, if_pos h8_2] | rw [fd_X_mark, if_neg (show ¬ ¬ (0 ≤ d ∧ d < M 3 2) by omega), if_neg h8_0, if_neg h8_1, if_neg h8_2, if_pos h8_3] | rw [fd_X_mark, if_neg (show ¬ ¬ (0 ≤ d ∧ d < M 3 2) by omega), if_neg h8_0, if_neg h8_1, if_neg h8_2, if_neg h8_3, if_pos h8_4] | rw [fd_X_mark, if_neg (show ¬ ¬ (0 ≤ d ∧ d < M 3 2) by omega), if_neg h8_0, if_neg h8_1, if_neg h8_2, if_neg h8_3, if_neg h8_4, if_pos h8_5] | rw [fd_X_mark, if_neg (show ¬ ¬ (0 ≤ d ∧ d < M 3 2) by omega), if_neg h8_0, if_neg h8_1, if_neg h8_2, if_neg h8_3, if_neg h8_4, if_neg h8_5] | rw [fd_X_mark, if_pos (show ¬ (0 ≤ d ∧ d < M 3 2) by omega)]
      · first | (rw [fd_Z_mark, if_neg (show ¬ ¬ (0 ≤ d ∧ d < M 3 2) by omega), if_pos h8_0]; done) | (rw [fd_Z_mark, if_neg (show ¬ ¬ (0 ≤ d ∧ d < M 3 2) by omega), if_neg h8_0, if_pos h8_1]; done) | (rw [fd_Z_mark, if_neg (show ¬ ¬ (0 ≤ d ∧ d < M 3 2) by omega), if_neg h8_0, if_neg h8_1, if_pos h8_2]; done) | (rw [fd_Z_mark, if_neg (show ¬ ¬ (0 ≤ d ∧ d < M 3 2) by omega), if_neg h8_0, if_neg h8_1, if_neg h8_2, if_pos h8_3]; done) | (rw [fd_Z_mark, if_neg (show ¬ ¬ (0 ≤ d ∧ d < M 3 2) by omega), if_neg h8_0, if_neg h8_1, if_neg h8_2, if_neg h8_3, if_pos h8_4]; done) | (rw [fd_Z_mark, if_neg (show ¬ ¬ (0 ≤ d ∧ d < M 3 2) by omega), if_neg h8_0, if_neg h8_1, if_neg h8_2, if_neg h8_3, if_neg h8_4, if_pos h8_5]; done) | (rw [fd_Z_mark, if_neg (show ¬ ¬ (0 ≤ d ∧ d < M 3 2) by omega), if_neg h8_0, if_neg h8_1, if_neg h8_2, if_neg h8_3, if_neg h8_4, if_neg h8_5]; first | rfl | exact (fd_upz M).symm | (rw [Int.add_zero]; done)) | (rw [fd_Z_mark, if_pos (show ¬ (0 ≤ d ∧ d < M 3 2) by omega)]; first | rfl | exact (fd_upz M).symm | (rw [Int.add_zero]; done))
    by_cases h8_4 : k = 4
    · refine fd_u_jmp (C := fd_c23) (j := 25) (st' := []) rfl rfl (b := fd_rng k) (by rw [h8_4]; rfl) (fd_bR (by omega) (by omega)) ?_
      refine fd_u_blk 2 (C := fd_c23) (b := true) (L' := [fd_R 0, fd_I k, fd_I d]) (st' := [fd_I d, fd_R 0]) (M' := (fd_up M 0 12 (M 0 12))) rfl rfl (j := 27) rfl (rfl) ?_
      refine fd_u_call (C := fd_c23) (d0 := 9) (mid := 32) (np := 2) (args := [fd_R 0, fd_I d]) (r1 := some (fd_I (fd_dueC M d.toNat - M 17 d.toNat + (if M 14 4 / 2 ^ d.toNat % 2 = 1 then 7 else 0)))) (M1 := (fd_up M 0 12 ((M 0 12) + 10101))) (st' := [fd_I (fd_dueC M d.toNat - M 17 d.toNat + (if M 14 4 / 2 ^ d.toNat % 2 = 1 then 7 else 0))]) rfl rfl rfl rfl rfl rfl (rfl) (fd_s_schoolMark M hG d (by omega) (M 0 12)) rfl (by omega) ?_
      refine fd_u_ret (C := fd_c23) (b := true) (r' := some (fd_I (fd_dueC M d.toNat - M 17 d.toNat + (if M 14 4 / 2 ^ d.toNat % 2 = 1 then 7 else 0)))) rfl rfl rfl (rfl) ?_ ?_
      · first | rw [fd_X_mark, if_neg (show ¬ ¬ (0 ≤ d ∧ d < M 3 2) by omega), if_pos h8_0] | rw [fd_X_mark, if_neg (show ¬ ¬ (0 ≤ d ∧ d < M 3 2) by omega), if_neg h8_0, if_pos h8_1] | rw [fd_X_mark, if_neg (show ¬ ¬ (0 ≤ d ∧ d < M 3 2) by omega), if_neg h8_0, if_neg h8_1, if_pos h8_2] | rw [fd_X_mark, if_neg (show ¬ ¬ (0 ≤ d ∧ d < M 3 2) by omega), if_neg h8_0, if_neg h8_1, if_neg h8_2, if_pos h8_3] | rw [fd_X_mark, if_neg (show ¬ ¬ (0 ≤ d ∧ d < M 3 2) by omega), if_neg h8_0, if_neg h8_1, if_neg h8_2, if_neg h8_3, if_pos h8_4] | rw [fd_X_mark, if_neg (show ¬ ¬ (0 ≤ d ∧ d < M 3 2) by omega), if_neg h8_0, if_neg h8_1, if_neg h8_2, if_neg h8_3, if_neg h8_4, if_pos h8_5] | rw [fd_X_mark, if_neg (show ¬ ¬ (0 ≤ d ∧ d < M 3 2) by omega), if_neg h8_0, if_neg h8_1, if_neg h8_2, if_neg h8_3, if_neg h8_4, if_neg h8_5] | rw [fd_X_mark, if_pos (show ¬ (0 ≤ d ∧ d < M 3 2) by omega)]
      · first | (rw [fd_Z_mark, if_neg (show ¬ ¬ (0 ≤ d ∧ d < M 3 2) by omega), if_pos h8_0]; done) | (rw [fd_Z_mark, if_neg (show ¬ ¬ (0 ≤ d ∧ d < M 3 2) by omega), if_neg h8_0, if_pos h8_1]; done) | (rw [fd_Z_mark, if_neg (show ¬ ¬ (0 ≤ d ∧ d < M 3 2) by omega), if_neg h8_0, if_neg h8_1, if_pos h8_2]; done) | (rw [fd_Z_mark, if_neg (show ¬ ¬ (0 ≤ d ∧ d < M 3 2) by omega), if_neg h8_0, if_neg h8_1, if_neg h8_2, if_pos h8_3]; done) | (rw [fd_Z_mark, if_neg (show ¬ ¬ (0 ≤ d ∧ d < M 3 2) by omega), if_neg h8_0, if_neg h8_1, if_neg h8_2, if_neg h8_3, if_pos h8_4]; done) | (rw [fd_Z_mark, if_neg (show ¬ ¬ (0 ≤ d ∧ d < M 3 2) by omega), if_neg h8_0, if_neg h8_1, if_neg h8_2, if_neg h8_3, if_neg h8_4, if_pos h8_5]; done) | (rw [fd_Z_mark, if_neg (show ¬ ¬ (0 ≤ d ∧ d < M 3 2) by omega), if_neg h8_0, if_neg h8_1, if_neg h8_2, if_neg h8_3, if_neg h8_4, if_neg h8_5]; first | rfl | exact (fd_upz M).symm | (rw [Int.add_zero]; done)) | (rw [fd_Z_mark, if_pos (show ¬ (0 ≤ d ∧ d < M 3 2) by omega)]; first | rfl | exact (fd_upz M).symm | (rw [Int.add_zero]; done))
    by_cases h8_5 : k = 5
    · refine fd_u_jmp (C := fd_c23) (j := 29) (st' := []) rfl rfl (b := fd_rng k) (by rw [h8_5]; rfl) (fd_bR (by omega) (by omega)) ?_
      refine fd_u_blk 2 (C := fd_c23) (b := true) (L' := [fd_R 0, fd_I k, fd_I d]) (st' := [fd_I d, fd_R 0]) (M' := (fd_up M 0 12 (M 0 12))) rfl rfl (j := 31) rfl (rfl) ?_
      refine fd_u_call (C := fd_c23) (d0 := 8) (mid := 33) (np := 2) (args := [fd_R 0, fd_I d]) (r1 := some (fd_I (fd_dueC M d.toNat + M 18 d.toNat))) (M1 := (fd_up M 0 12 ((M 0 12) + 100001))) (st' := [fd_I (fd_dueC M d.toNat + M 18 d.toNat)]) rfl rfl rfl rfl rfl rfl (rfl) (fd_s_hatchMark M hG d (by omega) (M 0 12)) rfl (by omega) ?_
      refine fd_u_ret (C := fd_c23) (b := true) (r' := some (fd_I (fd_dueC M d.toNat + M 18 d.toNat))) rfl rfl rfl (rfl) ?_ ?_
      · first | rw [fd_X_mark, if_neg (show ¬ ¬ (0 ≤ d ∧ d < M 3 2) by omega), if_pos h8_0] | rw [fd_X_mark, if_neg (show ¬ ¬ (0 ≤ d ∧ d < M 3 2) by omega), if_neg h8_0, if_pos h8_1] | rw [fd_X_mark, if_neg (show ¬ ¬ (0 ≤ d ∧ d < M 3 2) by omega), if_neg h8_0, if_neg h8_1, if_pos h8_2] | rw [fd_X_mark, if_neg (show ¬ ¬ (0 ≤ d ∧ d < M 3 2) by omega), if_neg h8_0, if_neg h8_1, if_neg h8_2, if_pos h8_3] | rw [fd_X_mark, if_neg (show ¬ ¬ (0 ≤ d ∧ d < M 3 2) by omega), if_neg h8_0, if_neg h8_1, if_neg h8_2, if_neg h8_3, if_pos h8_4] | rw [fd_X_mark, if_neg (show ¬ ¬ (0 ≤ d ∧ d < M 3 2) by omega), if_neg h8_0, if_neg h8_1, if_neg h8_2, if_neg h8_3, if_neg h8_4, if_pos h8_5] | rw [fd_X_mark, if_neg (show ¬ ¬ (0 ≤ d ∧ d < M 3 2) by omega), if_neg h8_0, if_neg h8_1, if_neg h8_2, if_neg h8_3, if_neg h8_4, if_neg h8_5] | rw [fd_X_mark, if_pos (show ¬ (0 ≤ d ∧ d < M 3 2) by omega)]
      · first | (rw [fd_Z_mark, if_neg (show ¬ ¬ (0 ≤ d ∧ d < M 3 2) by omega), if_pos h8_0]; done) | (rw [fd_Z_mark, if_neg (show ¬ ¬ (0 ≤ d ∧ d < M 3 2) by omega), if_neg h8_0, if_pos h8_1]; done) | (rw [fd_Z_mark, if_neg (show ¬ ¬ (0 ≤ d ∧ d < M 3 2) by omega), if_neg h8_0, if_neg h8_1, if_pos h8_2]; done) | (rw [fd_Z_mark, if_neg (show ¬ ¬ (0 ≤ d ∧ d < M 3 2) by omega), if_neg h8_0, if_neg h8_1, if_neg h8_2, if_pos h8_3]; done) | (rw [fd_Z_mark, if_neg (show ¬ ¬ (0 ≤ d ∧ d < M 3 2) by omega), if_neg h8_0, if_neg h8_1, if_neg h8_2, if_neg h8_3, if_pos h8_4]; done) | (rw [fd_Z_mark, if_neg (show ¬ ¬ (0 ≤ d ∧ d < M 3 2) by omega), if_neg h8_0, if_neg h8_1, if_neg h8_2, if_neg h8_3, if_neg h8_4, if_pos h8_5]; done) | (rw [fd_Z_mark, if_neg (show ¬ ¬ (0 ≤ d ∧ d < M 3 2) by omega), if_neg h8_0, if_neg h8_1, if_neg h8_2, if_neg h8_3, if_neg h8_4, if_neg h8_5]; first | rfl | exact (fd_upz M).symm | (rw [Int.add_zero]; done)) | (rw [fd_Z_mark, if_pos (show ¬ (0 ≤ d ∧ d < M 3 2) by omega)]; first | rfl | exact (fd_upz M).symm | (rw [Int.add_zero]; done))
    refine fd_u_jmp (C := fd_c23) (j := 33) (st' := []) rfl rfl (b := fd_rng k) (fd_sw_out (by simp only [fd_a, List.getD_cons_succ, List.getD_cons_zero, List.length_cons, List.length_nil]; omega)) (fd_bR (by omega) (by omega)) ?_
    refine fd_u_blk 1 (C := fd_c23) (b := true) (L' := [fd_R 0, fd_I k, fd_I d]) (st' := [fd_I (-1000000)]) (M' := (fd_up M 0 12 (M 0 12))) rfl rfl (j := 34) rfl (rfl) ?_
    refine fd_u_ret (C := fd_c23) (b := true) (r' := some (fd_I (-1000000))) rfl rfl rfl (rfl) ?_ ?_
    · first | rw [fd_X_mark, if_neg (show ¬ ¬ (0 ≤ d ∧ d < M 3 2) by omega), if_pos h8_0] | rw [fd_X_mark, if_neg (show ¬ ¬ (0 ≤ d ∧ d < M 3 2) by omega), if_neg h8_0, if_pos h8_1] | rw [fd_X_mark, if_neg (show ¬ ¬ (0 ≤ d ∧ d < M 3 2) by omega), if_neg h8_0, if_neg h8_1, if_pos h8_2] | rw [fd_X_mark, if_neg (show ¬ ¬ (0 ≤ d ∧ d < M 3 2) by omega), if_neg h8_0, if_neg h8_1, if_neg h8_2, if_pos h8_3] | rw [fd_X_mark, if_neg (show ¬ ¬ (0 ≤ d ∧ d < M 3 2) by omega), if_neg h8_0, if_neg h8_1, if_neg h8_2, if_neg h8_3, if_pos h8_4] | rw [fd_X_mark, if_neg (show ¬ ¬ (0 ≤ d ∧ d < M 3 2) by omega), if_neg h8_0, if_neg h8_1, if_neg h8_2, if_neg h8_3, if_neg h8_4, if_pos h8_5] | rw [fd_X_mark, if_neg (show ¬ ¬ (0 ≤ d ∧ d < M 3 2) by omega), if_neg h8_0, if_neg h8_1, if_neg h8_2, if_neg h8_3, if_neg h8_4, if_neg h8_5] | rw [fd_X_mark, if_pos (show ¬ (0 ≤ d ∧ d < M 3 2) by omega)]
    · first | (rw [fd_Z_mark, if_neg (show ¬ ¬ (0 ≤ d ∧ d < M 3 2) by omega), if_pos h8_0]; done) | (rw [fd_Z_mark, if_neg (show ¬ ¬ (0 ≤ d ∧ d < M 3 2) by omega), if_neg h8_0, if_pos h8_1]; done) | (rw [fd_Z_mark, if_neg (show ¬ ¬ (0 ≤ d ∧ d < M 3 2) by omega), if_neg h8_0, if_neg h8_1, if_pos h8_2]; done) | (rw [fd_Z_mark, if_neg (show ¬ ¬ (0 ≤ d ∧ d < M 3 2) by omega), if_neg h8_0, if_neg h8_1, if_neg h8_2, if_pos h8_3]; done) | (rw [fd_Z_mark, if_neg (show ¬ ¬ (0 ≤ d ∧ d < M 3 2) by omega), if_neg h8_0, if_neg h8_1, if_neg h8_2, if_neg h8_3, if_pos h8_4]; done) | (rw [fd_Z_mark, if_neg (show ¬ ¬ (0 ≤ d ∧ d < M 3 2) by omega), if_neg h8_0, if_neg h8_1, if_neg h8_2, if_neg h8_3, if_neg h8_4, if_pos h8_5]; done) | (rw [fd_Z_mark, if_neg (show ¬ ¬ (0 ≤ d ∧ d < M 3 2) by omega), if_neg h8_0, if_neg h8_1, if_neg h8_2, if_neg h8_3, if_neg h8_4, if_neg h8_5]; first | rfl | exact (fd_upz M).symm | (rw [Int.add_zero]; done)) | (rw [fd_Z_mark, if_pos (show ¬ (0 ≤ d ∧ d < M 3 2) by omega)]; first | rfl | exact (fd_upz M).symm | (rw [Int.add_zero]; done))
  · have h4 := fd_biF2  h4
    refine fd_u_blk 1 (C := fd_c23) (b := true) (L' := [fd_R 0, fd_I k, fd_I d]) (st' := [fd_I (-1000000)]) (M' := (fd_up M 0 12 (M 0 12))) rfl rfl (j := 6) rfl (rfl) ?_
    refine fd_u_ret (C := fd_c23) (b := true) (r' := some (fd_I (-1000000))) rfl rfl rfl (rfl) ?_ ?_
    · first | rw [fd_X_mark, if_neg (show ¬ ¬ (0 ≤ d ∧ d < M 3 2) by omega), if_pos h8_0] | rw [fd_X_mark, if_neg (show ¬ ¬ (0 ≤ d ∧ d < M 3 2) by omega), if_neg h8_0, if_pos h8_1] | rw [fd_X_mark, if_neg (show ¬ ¬ (0 ≤ d ∧ d < M 3 2) by omega), if_neg h8_0, if_neg h8_1, if_pos h8_2] | rw [fd_X_mark, if_neg (show ¬ ¬ (0 ≤ d ∧ d < M 3 2) by omega), if_neg h8_0, if_neg h8_1, if_neg h8_2, if_pos h8_3] | rw [fd_X_mark, if_neg (show ¬ ¬ (0 ≤ d ∧ d < M 3 2) by omega), if_neg h8_0, if_neg h8_1, if_neg h8_2, if_neg h8_3, if_pos h8_4] | rw [fd_X_mark, if_neg (show ¬ ¬ (0 ≤ d ∧ d < M 3 2) by omega), if_neg h8_0, if_neg h8_1, if_neg h8_2, if_neg h8_3, if_neg h8_4, if_pos h8_5] | rw [fd_X_mark, if_neg (show ¬ ¬ (0 ≤ d ∧ d < M 3 2) by omega), if_neg h8_0, if_neg h8_1, if_neg h8_2, if_neg h8_3, if_neg h8_4, if_neg h8_5] | rw [fd_X_mark, if_pos (show ¬ (0 ≤ d ∧ d < M 3 2) by omega)]
    · first | (rw [fd_Z_mark, if_neg (show ¬ ¬ (0 ≤ d ∧ d < M 3 2) by omega), if_pos h8_0]; done) | (rw [fd_Z_mark, if_neg (show ¬ ¬ (0 ≤ d ∧ d < M 3 2) by omega), if_neg h8_0, if_pos h8_1]; done) | (rw [fd_Z_mark, if_neg (show ¬ ¬ (0 ≤ d ∧ d < M 3 2) by omega), if_neg h8_0, if_neg h8_1, if_pos h8_2]; done) | (rw [fd_Z_mark, if_neg (show ¬ ¬ (0 ≤ d ∧ d < M 3 2) by omega), if_neg h8_0, if_neg h8_1, if_neg h8_2, if_pos h8_3]; done) | (rw [fd_Z_mark, if_neg (show ¬ ¬ (0 ≤ d ∧ d < M 3 2) by omega), if_neg h8_0, if_neg h8_1, if_neg h8_2, if_neg h8_3, if_pos h8_4]; done) | (rw [fd_Z_mark, if_neg (show ¬ ¬ (0 ≤ d ∧ d < M 3 2) by omega), if_neg h8_0, if_neg h8_1, if_neg h8_2, if_neg h8_3, if_neg h8_4, if_pos h8_5]; done) | (rw [fd_Z_mark, if_neg (show ¬ ¬ (0 ≤ d ∧ d < M 3 2) by omega), if_neg h8_0, if_neg h8_1, if_neg h8_2, if_neg h8_3, if_neg h8_4, if_neg h8_5]; first | rfl | exact (fd_upz M).symm | (rw [Int.add_zero]; done)) | (rw [fd_Z_mark, if_pos (show ¬ (0 ≤ d ∧ d < M 3 2) by omega)]; first | rfl | exact (fd_upz M).symm | (rw [Int.add_zero]; done))

theorem fd_x_mark (M : fd_M) (hG : fd_CG M) (k : Int) (hk : -2147483648 ≤ k ∧ k < 2147483648) (d : Int) (hd : -2147483648 ≤ d ∧ d < 2147483648) : fd_call 10 23 [fd_R 0, fd_I k, fd_I d] M (some (fd_I (fd_X_mark M k d))) (fd_up M 0 12 (M 0 12 + fd_Z_mark M k d)) := by
  have z := fd_x_markT M hG k hk d hd
  rw [fd_up_self] at z
  exact z
end
section
/-! images: the class -/
def fd_hcp (M : fd_M) (r1 r2 : Nat) : Nat → fd_M
  | 0 => M
  | k + 1 => fd_cps (fd_hcp M r1 r2 k) (M r1 k).toNat (M r2 k).toNat
def fd_HR (M : fd_M) (r B : Nat) : Prop := ∀ i : Nat, i < 10 → ∃ j : Nat, j < 10 ∧ M r i = ((B + 5 * j : Nat) : Int)
theorem fd_cps_fr {M : fd_M} {a b c : Nat} (h : c < a ∨ a + 5 ≤ c) : fd_cps M a b c = M c := by
  funext k
  unfold fd_cps
  rw [if_neg (by omega), if_neg (by omega)]
theorem fd_hcp_fr {M : fd_M} {r1 r2 B : Nat} (h1 : fd_HR M r1 B) {c : Nat} (hc : c < B ∨ B + 50 ≤ c) : ∀ k : Nat, k ≤ 10 → fd_hcp M r1 r2 k c = M c
  | 0, _ => rfl
  | k + 1, hk => by
    obtain ⟨j, hj, ej⟩ := h1 k (by omega)
    show fd_cps (fd_hcp M r1 r2 k) (M r1 k).toNat (M r2 k).toNat c = M c
    rw [ej, fd_cps_fr (by omega), fd_hcp_fr h1 hc k (by omega)]
theorem fd_scn_all : (∀ j, j < 10 → fd_scn (21 + 5 * j)) ∧ (∀ j, j < 10 → fd_scn (91 + 5 * j)) ∧ (∀ j, j < 10 → fd_scn (149 + 5 * j)) := ⟨fd_scn_h, fun j h => (fd_scn_i j h).1, fun j h => (fd_scn_i j h).2⟩
theorem fd_SG_cps {M : fd_M} {a b : Nat} (hab : a + 5 ≤ b ∨ b + 5 ≤ a) (ha : fd_SG M a) (hb : fd_SG M b) : fd_SG (fd_cps M a b) a := by
  obtain ⟨a1, a2, a3, a4, a5, a6, a7, a8⟩ := ha
  obtain ⟨b1, b2, b3, b4, b5, b6, b7, b8⟩ := hb
  have key : ∀ (i : Nat) (P : Int → Prop), 1 ≤ i → i ≤ 4 → (∀ d : Nat, P (M (a + i) d)) → (∀ d : Nat, P (M (b + i) d)) → ∀ d : Nat, P (fd_cps M a b (a + i) d) := by
    intro i P h1 h4 p q d
    unfold fd_cps
    rw [if_neg (by omega)]
    by_cases h : d < 6
    · rw [if_pos (by omega), show a + i - a = i by omega]; exact q d
    · rw [if_neg (by omega)]; exact p d
  have k2 : ∀ j : Nat, 4 ≤ j → j ≤ 7 → fd_cps M a b a j = M b j := by
    intro j h1 h2
    unfold fd_cps
    rw [if_pos ⟨rfl, h1, h2⟩]
  refine ⟨key 1 (fun z => 0 ≤ z ∧ z ≤ 6) (by omega) (by omega) a1 b1, key 2 (fun z => 0 ≤ z ∧ z ≤ 6) (by omega) (by omega) a2 b2, key 3 (fun z => 0 ≤ z ∧ z ≤ 3) (by omega) (by omega) a3 b3, key 4 (fun z => 0 ≤ z ∧ z ≤ 9999) (by omega) (by omega) a4 b4, ?_, ?_, ?_, ?_⟩
  · rw [k2 4 (by omega) (by omega)]; exact b5
  · rw [k2 5 (by omega) (by omega)]; exact b6
  · rw [k2 6 (by omega) (by omega)]; exact b7
  · rw [k2 7 (by omega) (by omega)]; exact b8
theorem fd_l_hc89_19 (M : fd_M) (p1 : fd_HR M 90 91) (p2 : fd_HR M 20 21) (hz : 0 ≤ M 89 1 ∧ M 89 1 ≤ 10) (h67 : ∀ i : Nat, i < 10 → (0 ≤ M (M 20 i).toNat 6 ∧ M (M 20 i).toNat 6 ≤ 1) ∧ (0 ≤ M (M 20 i).toNat 7 ∧ M (M 20 i).toNat 7 ≤ 1)) : ∀ (n : Nat) (k : Nat) (hk : (k : Int) + n = M 89 1), fd_run 1 116 6 [fd_R 89, fd_R 19, fd_I ((k : Nat) : Int)] [] (fd_hcp M 90 20 k) (none) (fd_hcp M 90 20 (M 89 1).toNat) := by
  intro n
  induction n with
  | zero =>
    intro k hk
    have e1 : (fd_hcp M 90 20 k) 89 1 = M 89 1 := by rw [fd_hcp_fr p1 (by omega) k (by omega)]
    refine fd_u_blk 3 (C := fd_c116) (b := true) (L' := [fd_R 89, fd_R 19, fd_I ((k : Nat) : Int)]) (st' := [fd_I ((fd_hcp M 90 20 k) 89 1), fd_I ((k : Nat) : Int)]) (M' := (fd_hcp M 90 20 k)) rfl rfl (j := 9) rfl (rfl) ?_
    refine fd_u_br (C := fd_c116) (t := 21) (e := 10) (st' := []) (c := ((fd_hcp M 90 20 k) 89 1) ≤ ((k : Nat) : Int)) (b := (fd_rng ((k : Nat) : Int) && fd_rng ((fd_hcp M 90 20 k) 89 1))) rfl rfl rfl (fd_bA (fd_bR (by omega) (by omega)) (fd_bR (by omega) (by omega))) (fun h9 => ?_) (fun h9 => absurd h9 (by omega))
    refine fd_u_ret (C := fd_c116) (b := true) (r' := none) rfl rfl rfl (rfl) ?_ ?_
    · rfl
    · rw [show (M 89 1).toNat = k by omega]
  | succ n ih =>
    intro k hk
    have e1 : (fd_hcp M 90 20 k) 89 1 = M 89 1 := by rw [fd_hcp_fr p1 (by omega) k (by omega)]
    obtain ⟨j1, hj1, ej1⟩ := p1 k (by omega)
    obtain ⟨j2, hj2, ej2⟩ := p2 k (by omega)
    have er1 : (fd_hcp M 90 20 k) 90 k = M 90 k := by rw [fd_hcp_fr p1 (by omega) k (by omega)]
    have er2 : (fd_hcp M 90 20 k) 20 k = M 20 k := by rw [fd_hcp_fr p1 (by omega) k (by omega)]
    have ha : fd_scn ((fd_hcp M 90 20 k) 90 k).toNat := by rw [er1, ej1]; exact fd_scn_all.2.1 j1 hj1
    have hb : fd_scn ((fd_hcp M 90 20 k) 20 k).toNat := by rw [er2, ej2]; exact fd_scn_all.1 j2 hj2
    have hf : (fd_hcp M 90 20 k) ((fd_hcp M 90 20 k) 20 k).toNat = M (M 20 k).toNat := by rw [er2, fd_hcp_fr p1 (by omega) k (by omega)]
    refine fd_u_blk 3 (C := fd_c116) (b := true) (L' := [fd_R 89, fd_R 19, fd_I ((k : Nat) : Int)]) (st' := [fd_I ((fd_hcp M 90 20 k) 89 1), fd_I ((k : Nat) : Int)]) (M' := (fd_hcp M 90 20 k)) rfl rfl (j := 9) rfl (rfl) ?_
    refine fd_u_br (C := fd_c116) (t := 21) (e := 10) (st' := []) (c := ((fd_hcp M 90 20 k) 89 1) ≤ ((k : Nat) : Int)) (b := (fd_rng ((k : Nat) : Int) && fd_rng ((fd_hcp M 90 20 k) 89 1))) rfl rfl rfl (fd_bA (fd_bR (by omega) (by omega)) (fd_bR (by omega) (by omega))) (fun h9 => absurd h9 (by omega)) (fun h9 => ?_)
    refine fd_u_blk 8 (C := fd_c116) (b := (((fd_inb ((k : Nat) : Int) 10 || fd_isA true (fd_hcp M 90 20 k) 90 24 ((k : Nat) : Int)) && Nat.blt ((fd_hcp M 90 20 k) 90 k).toNat 1000) && (((fd_inb ((k : Nat) : Int) 10 || fd_isA true (fd_hcp M 90 20 k) 20 24 ((k : Nat) : Int)) && Nat.blt ((fd_hcp M 90 20 k) 20 k).toNat 1000) && true))) (L' := [fd_R 89, fd_R 19, fd_I ((k : Nat) : Int)]) (st' := [fd_R (((fd_hcp M 90 20 k) 20 k).toNat), fd_R (((fd_hcp M 90 20 k) 90 k).toNat)]) (M' := (fd_hcp M 90 20 k)) rfl rfl (j := 18) rfl (fd_bA (fd_bA (by rw [fd_bI (i := ((k : Nat) : Int)) (n := 10) (by omega) (by omega)]; rfl) (by rw [Nat.blt_eq]; omega)) (fd_bA (fd_bA (by rw [fd_bI (i := ((k : Nat) : Int)) (n := 10) (by omega) (by omega)]; rfl) (by rw [Nat.blt_eq]; omega)) (rfl))) ?_
    refine fd_u_call (C := fd_c116) (d0 := 0) (mid := 143) (np := 2) (args := [fd_R (((fd_hcp M 90 20 k) 90 k).toNat), fd_R (((fd_hcp M 90 20 k) 20 k).toNat)]) (r1 := none) (M1 := (fd_cps (fd_hcp M 90 20 k) ((fd_hcp M 90 20 k) 90 k).toNat ((fd_hcp M 90 20 k) 20 k).toNat)) (st' := []) rfl rfl rfl rfl rfl rfl (by have q1 := ha.2.2.2.2.2; have q2 := hb.2.2.2.2.2; simp [fd_inv, fd_n1, fd_cw, fd_isO, fd_al, ha.1, hb.1, Nat.blt_eq, show fd_mc 143 = 5 from rfl]; omega) (fd_s_copyFrom (fd_hcp M 90 20 k) ((fd_hcp M 90 20 k) 90 k).toNat ((fd_hcp M 90 20 k) 20 k).toNat ha hb (by omega) (by rw [hf]; exact (h67 k (by omega)).1) (by rw [hf]; exact (h67 k (by omega)).2)) rfl (by omega) ?_
    refine fd_u_blk 1 (C := fd_c116) (b := true) (L' := [fd_R 89, fd_R 19, fd_I (((k + 1) : Nat) : Int)]) (st' := []) (M' := (fd_cps (fd_hcp M 90 20 k) ((fd_hcp M 90 20 k) 90 k).toNat ((fd_hcp M 90 20 k) 20 k).toNat)) rfl rfl (j := 20) rfl (rfl) ?_
    refine fd_u_jmp (C := fd_c116) (j := 6) (st' := []) rfl rfl (b := true) rfl rfl ?_
    rw [er1, er2]
    exact ih (k + 1) (by omega)

theorem fd_s_hc89_19 (M : fd_M) (p1 : fd_HR M 90 91) (p2 : fd_HR M 20 21) (hz : 0 ≤ M 19 1 ∧ M 19 1 ≤ 10) (h67 : ∀ i : Nat, i < 10 → (0 ≤ M (M 20 i).toNat 6 ∧ M (M 20 i).toNat 6 ≤ 1) ∧ (0 ≤ M (M 20 i).toNat 7 ∧ M (M 20 i).toNat 7 ≤ 1)) : fd_call 1 116 [fd_R 89, fd_R 19] M (none) (fd_hcp (fd_up M 89 1 (M 19 1)) 90 20 (M 19 1).toNat) := by
  refine fd_u_in (L := [fd_R 89, fd_R 19, fd_R 1003]) rfl ?_
  refine fd_u_blk 6 (C := fd_c116) (b := true) (L' := [fd_R 89, fd_R 19, fd_I 0]) (st' := []) (M' := (fd_up M 89 1 (M 19 1))) rfl rfl (j := 6) rfl (rfl) ?_
  have zz : ∀ i : Nat, i < 10 → (0 ≤ fd_up M 89 1 (M 19 1) (fd_up M 89 1 (M 19 1) 20 i).toNat 6 ∧ fd_up M 89 1 (M 19 1) (fd_up M 89 1 (M 19 1) 20 i).toNat 6 ≤ 1) ∧ (0 ≤ fd_up M 89 1 (M 19 1) (fd_up M 89 1 (M 19 1) 20 i).toNat 7 ∧ fd_up M 89 1 (M 19 1) (fd_up M 89 1 (M 19 1) 20 i).toNat 7 ≤ 1) := by
    intro i hi
    obtain ⟨j, hj, ej⟩ := p2 i hi
    have q := h67 i hi
    rw [show fd_up M 89 1 (M 19 1) 20 = M 20 from fd_up_ne (by decide)]
    rw [ej] at q ⊢
    rw [fd_up_ne (by omega)]
    exact q
  have z := fd_l_hc89_19 (fd_up M 89 1 (M 19 1)) p1 p2 (by rw [fd_up_at, if_pos rfl]; exact hz) zz (M 19 1).toNat 0 (by rw [fd_up_at, if_pos rfl]; omega)
  rw [fd_up_at, if_pos rfl] at z
  exact z

theorem fd_l_hc147_19 (M : fd_M) (p1 : fd_HR M 148 149) (p2 : fd_HR M 20 21) (hz : 0 ≤ M 147 1 ∧ M 147 1 ≤ 10) (h67 : ∀ i : Nat, i < 10 → (0 ≤ M (M 20 i).toNat 6 ∧ M (M 20 i).toNat 6 ≤ 1) ∧ (0 ≤ M (M 20 i).toNat 7 ∧ M (M 20 i).toNat 7 ≤ 1)) : ∀ (n : Nat) (k : Nat) (hk : (k : Int) + n = M 147 1), fd_run 1 116 6 [fd_R 147, fd_R 19, fd_I ((k : Nat) : Int)] [] (fd_hcp M 148 20 k) (none) (fd_hcp M 148 20 (M 147 1).toNat) := by
  intro n
  induction n with
  | zero =>
    intro k hk
    have e1 : (fd_hcp M 148 20 k) 147 1 = M 147 1 := by rw [fd_hcp_fr p1 (by omega) k (by omega)]
    refine fd_u_blk 3 (C := fd_c116) (b := true) (L' := [fd_R 147, fd_R 19, fd_I ((k : Nat) : Int)]) (st' := [fd_I ((fd_hcp M 148 20 k) 147 1), fd_I ((k : Nat) : Int)]) (M' := (fd_hcp M 148 20 k)) rfl rfl (j := 9) rfl (rfl) ?_
    refine fd_u_br (C := fd_c116) (t := 21) (e := 10) (st' := []) (c := ((fd_hcp M 148 20 k) 147 1) ≤ ((k : Nat) : Int)) (b := (fd_rng ((k : Nat) : Int) && fd_rng ((fd_hcp M 148 20 k) 147 1))) rfl rfl rfl (fd_bA (fd_bR (by omega) (by omega)) (fd_bR (by omega) (by omega))) (fun h9 => ?_) (fun h9 => absurd h9 (by omega))
    refine fd_u_ret (C := fd_c116) (b := true) (r' := none) rfl rfl rfl (rfl) ?_ ?_
    · rfl
    · rw [show (M 147 1).toNat = k by omega]
  | succ n ih =>
    intro k hk
    have e1 : (fd_hcp M 148 20 k) 147 1 = M 147 1 := by rw [fd_hcp_fr p1 (by omega) k (by omega)]
    obtain ⟨j1, hj1, ej1⟩ := p1 k (by omega)
    obtain ⟨j2, hj2, ej2⟩ := p2 k (by omega)
    have er1 : (fd_hcp M 148 20 k) 148 k = M 148 k := by rw [fd_hcp_fr p1 (by omega) k (by omega)]
    have er2 : (fd_hcp M 148 20 k) 20 k = M 20 k := by rw [fd_hcp_fr p1 (by omega) k (by omega)]
    have ha : fd_scn ((fd_hcp M 148 20 k) 148 k).toNat := by rw [er1, ej1]; exact fd_scn_all.2.2 j1 hj1
    have hb : fd_scn ((fd_hcp M 148 20 k) 20 k).toNat := by rw [er2, ej2]; exact fd_scn_all.1 j2 hj2
    have hf : (fd_hcp M 148 20 k) ((fd_hcp M 148 20 k) 20 k).toNat = M (M 20 k).toNat := by rw [er2, fd_hcp_fr p1 (by omega) k (by omega)]
    refine fd_u_blk 3 (C := fd_c116) (b := true) (L' := [fd_R 147, fd_R 19, fd_I ((k : Nat) : Int)]) (st' := [fd_I ((fd_hcp M 148 20 k) 147 1), fd_I ((k : Nat) : Int)]) (M' := (fd_hcp M 148 20 k)) rfl rfl (j := 9) rfl (rfl) ?_
    refine fd_u_br (C := fd_c116) (t := 21) (e := 10) (st' := []) (c := ((fd_hcp M 148 20 k) 147 1) ≤ ((k : Nat) : Int)) (b := (fd_rng ((k : Nat) : Int) && fd_rng ((fd_hcp M 148 20 k) 147 1))) rfl rfl rfl (fd_bA (fd_bR (by omega) (by omega)) (fd_bR (by omega) (by omega))) (fun h9 => absurd h9 (by omega)) (fun h9 => ?_)
    refine fd_u_blk 8 (C := fd_c116) (b := (((fd_inb ((k : Nat) : Int) 10 || fd_isA true (fd_hcp M 148 20 k) 148 24 ((k : Nat) : Int)) && Nat.blt ((fd_hcp M 148 20 k) 148 k).toNat 1000) && (((fd_inb ((k : Nat) : Int) 10 || fd_isA true (fd_hcp M 148 20 k) 20 24 ((k : Nat) : Int)) && Nat.blt ((fd_hcp M 148 20 k) 20 k).toNat 1000) && true))) (L' := [fd_R 147, fd_R 19, fd_I ((k : Nat) : Int)]) (st' := [fd_R (((fd_hcp M 148 20 k) 20 k).toNat), fd_R (((fd_hcp M 148 20 k) 148 k).toNat)]) (M' := (fd_hcp M 148 20 k)) rfl rfl (j := 18) rfl (fd_bA (fd_bA (by rw [fd_bI (i := ((k : Nat) : Int)) (n := 10) (by omega) (by omega)]; rfl) (by rw [Nat.blt_eq]; omega)) (fd_bA (fd_bA (by rw [fd_bI (i := ((k : Nat) : Int)) (n := 10) (by omega) (by omega)]; rfl) (by rw [Nat.blt_eq]; omega)) (rfl))) ?_
    refine fd_u_call (C := fd_c116) (d0 := 0) (mid := 143) (np := 2) (args := [fd_R (((fd_hcp M 148 20 k) 148 k).toNat), fd_R (((fd_hcp M 148 20 k) 20 k).toNat)]) (r1 := none) (M1 := (fd_cps (fd_hcp M 148 20 k) ((fd_hcp M 148 20 k) 148 k).toNat ((fd_hcp M 148 20 k) 20 k).toNat)) (st' := []) rfl rfl rfl rfl rfl rfl (by have q1 := ha.2.2.2.2.2; have q2 := hb.2.2.2.2.2; simp [fd_inv, fd_n1, fd_cw, fd_isO, fd_al, ha.1, hb.1, Nat.blt_eq, show fd_mc 143 = 5 from rfl]; omega) (fd_s_copyFrom (fd_hcp M 148 20 k) ((fd_hcp M 148 20 k) 148 k).toNat ((fd_hcp M 148 20 k) 20 k).toNat ha hb (by omega) (by rw [hf]; exact (h67 k (by omega)).1) (by rw [hf]; exact (h67 k (by omega)).2)) rfl (by omega) ?_
    refine fd_u_blk 1 (C := fd_c116) (b := true) (L' := [fd_R 147, fd_R 19, fd_I (((k + 1) : Nat) : Int)]) (st' := []) (M' := (fd_cps (fd_hcp M 148 20 k) ((fd_hcp M 148 20 k) 148 k).toNat ((fd_hcp M 148 20 k) 20 k).toNat)) rfl rfl (j := 20) rfl (rfl) ?_
    refine fd_u_jmp (C := fd_c116) (j := 6) (st' := []) rfl rfl (b := true) rfl rfl ?_
    rw [er1, er2]
    exact ih (k + 1) (by omega)

theorem fd_s_hc147_19 (M : fd_M) (p1 : fd_HR M 148 149) (p2 : fd_HR M 20 21) (hz : 0 ≤ M 19 1 ∧ M 19 1 ≤ 10) (h67 : ∀ i : Nat, i < 10 → (0 ≤ M (M 20 i).toNat 6 ∧ M (M 20 i).toNat 6 ≤ 1) ∧ (0 ≤ M (M 20 i).toNat 7 ∧ M (M 20 i).toNat 7 ≤ 1)) : fd_call 1 116 [fd_R 147, fd_R 19] M (none) (fd_hcp (fd_up M 147 1 (M 19 1)) 148 20 (M 19 1).toNat) := by
  refine fd_u_in (L := [fd_R 147, fd_R 19, fd_R 1003]) rfl ?_
  refine fd_u_blk 6 (C := fd_c116) (b := true) (L' := [fd_R 147, fd_R 19, fd_I 0]) (st' := []) (M' := (fd_up M 147 1 (M 19 1))) rfl rfl (j := 6) rfl (rfl) ?_
  have zz : ∀ i : Nat, i < 10 → (0 ≤ fd_up M 147 1 (M 19 1) (fd_up M 147 1 (M 19 1) 20 i).toNat 6 ∧ fd_up M 147 1 (M 19 1) (fd_up M 147 1 (M 19 1) 20 i).toNat 6 ≤ 1) ∧ (0 ≤ fd_up M 147 1 (M 19 1) (fd_up M 147 1 (M 19 1) 20 i).toNat 7 ∧ fd_up M 147 1 (M 19 1) (fd_up M 147 1 (M 19 1) 20 i).toNat 7 ≤ 1) := by
    intro i hi
    obtain ⟨j, hj, ej⟩ := p2 i hi
    have q := h67 i hi
    rw [show fd_up M 147 1 (M 19 1) 20 = M 20 from fd_up_ne (by decide)]
    rw [ej] at q ⊢
    rw [fd_up_ne (by omega)]
    exact q
  have z := fd_l_hc147_19 (fd_up M 147 1 (M 19 1)) p1 p2 (by rw [fd_up_at, if_pos rfl]; exact hz) zz (M 19 1).toNat 0 (by rw [fd_up_at, if_pos rfl]; omega)
  rw [fd_up_at, if_pos rfl] at z
  exact z

theorem fd_l_hc19_89 (M : fd_M) (p1 : fd_HR M 20 21) (p2 : fd_HR M 90 91) (hz : 0 ≤ M 19 1 ∧ M 19 1 ≤ 10) (h67 : ∀ i : Nat, i < 10 → (0 ≤ M (M 90 i).toNat 6 ∧ M (M 90 i).toNat 6 ≤ 1) ∧ (0 ≤ M (M 90 i).toNat 7 ∧ M (M 90 i).toNat 7 ≤ 1)) : ∀ (n : Nat) (k : Nat) (hk : (k : Int) + n = M 19 1), fd_run 1 116 6 [fd_R 19, fd_R 89, fd_I ((k : Nat) : Int)] [] (fd_hcp M 20 90 k) (none) (fd_hcp M 20 90 (M 19 1).toNat) := by
  intro n
  induction n with
  | zero =>
    intro k hk
    have e1 : (fd_hcp M 20 90 k) 19 1 = M 19 1 := by rw [fd_hcp_fr p1 (by omega) k (by omega)]
    refine fd_u_blk 3 (C := fd_c116) (b := true) (L' := [fd_R 19, fd_R 89, fd_I ((k : Nat) : Int)]) (st' := [fd_I ((fd_hcp M 20 90 k) 19 1), fd_I ((k : Nat) : Int)]) (M' := (fd_hcp M 20 90 k)) rfl rfl (j := 9) rfl (rfl) ?_
    refine fd_u_br (C := fd_c116) (t := 21) (e := 10) (st' := []) (c := ((fd_hcp M 20 90 k) 19 1) ≤ ((k : Nat) : Int)) (b := (fd_rng ((k : Nat) : Int) && fd_rng ((fd_hcp M 20 90 k) 19 1))) rfl rfl rfl (fd_bA (fd_bR (by omega) (by omega)) (fd_bR (by omega) (by omega))) (fun h9 => ?_) (fun h9 => absurd h9 (by omega))
    refine fd_u_ret (C := fd_c116) (b := true) (r' := none) rfl rfl rfl (rfl) ?_ ?_
    · rfl
    · rw [show (M 19 1).toNat = k by omega]
  | succ n ih =>
    intro k hk
    have e1 : (fd_hcp M 20 90 k) 19 1 = M 19 1 := by rw [fd_hcp_fr p1 (by omega) k (by omega)]
    obtain ⟨j1, hj1, ej1⟩ := p1 k (by omega)
    obtain ⟨j2, hj2, ej2⟩ := p2 k (by omega)
    have er1 : (fd_hcp M 20 90 k) 20 k = M 20 k := by rw [fd_hcp_fr p1 (by omega) k (by omega)]
    have er2 : (fd_hcp M 20 90 k) 90 k = M 90 k := by rw [fd_hcp_fr p1 (by omega) k (by omega)]
    have ha : fd_scn ((fd_hcp M 20 90 k) 20 k).toNat := by rw [er1, ej1]; exact fd_scn_all.1 j1 hj1
    have hb : fd_scn ((fd_hcp M 20 90 k) 90 k).toNat := by rw [er2, ej2]; exact fd_scn_all.2.1 j2 hj2
    have hf : (fd_hcp M 20 90 k) ((fd_hcp M 20 90 k) 90 k).toNat = M (M 90 k).toNat := by rw [er2, fd_hcp_fr p1 (by omega) k (by omega)]
    refine fd_u_blk 3 (C := fd_c116) (b := true) (L' := [fd_R 19, fd_R 89, fd_I ((k : Nat) : Int)]) (st' := [fd_I ((fd_hcp M 20 90 k) 19 1), fd_I ((k : Nat) : Int)]) (M' := (fd_hcp M 20 90 k)) rfl rfl (j := 9) rfl (rfl) ?_
    refine fd_u_br (C := fd_c116) (t := 21) (e := 10) (st' := []) (c := ((fd_hcp M 20 90 k) 19 1) ≤ ((k : Nat) : Int)) (b := (fd_rng ((k : Nat) : Int) && fd_rng ((fd_hcp M 20 90 k) 19 1))) rfl rfl rfl (fd_bA (fd_bR (by omega) (by omega)) (fd_bR (by omega) (by omega))) (fun h9 => absurd h9 (by omega)) (fun h9 => ?_)
    refine fd_u_blk 8 (C := fd_c116) (b := (((fd_inb ((k : Nat) : Int) 10 || fd_isA true (fd_hcp M 20 90 k) 20 24 ((k : Nat) : Int)) && Nat.blt ((fd_hcp M 20 90 k) 20 k).toNat 1000) && (((fd_inb ((k : Nat) : Int) 10 || fd_isA true (fd_hcp M 20 90 k) 90 24 ((k : Nat) : Int)) && Nat.blt ((fd_hcp M 20 90 k) 90 k).toNat 1000) && true))) (L' := [fd_R 19, fd_R 89, fd_I ((k : Nat) : Int)]) (st' := [fd_R (((fd_hcp M 20 90 k) 90 k).toNat), fd_R (((fd_hcp M 20 90 k) 20 k).toNat)]) (M' := (fd_hcp M 20 90 k)) rfl rfl (j := 18) rfl (fd_bA (fd_bA (by rw [fd_bI (i := ((k : Nat) : Int)) (n := 10) (by omega) (by omega)]; rfl) (by rw [Nat.blt_eq]; omega)) (fd_bA (fd_bA (by rw [fd_bI (i := ((k : Nat) : Int)) (n := 10) (by omega) (by omega)]; rfl) (by rw [Nat.blt_eq]; omega)) (rfl))) ?_
    refine fd_u_call (C := fd_c116) (d0 := 0) (mid := 143) (np := 2) (args := [fd_R (((fd_hcp M 20 90 k) 20 k).toNat), fd_R (((fd_hcp M 20 90 k) 90 k).toNat)]) (r1 := none) (M1 := (fd_cps (fd_hcp M 20 90 k) ((fd_hcp M 20 90 k) 20 k).toNat ((fd_hcp M 20 90 k) 90 k).toNat)) (st' := []) rfl rfl rfl rfl rfl rfl (by have q1 := ha.2.2.2.2.2; have q2 := hb.2.2.2.2.2; simp [fd_inv, fd_n1, fd_cw, fd_isO, fd_al, ha.1, hb.1, Nat.blt_eq, show fd_mc 143 = 5 from rfl]; omega) (fd_s_copyFrom (fd_hcp M 20 90 k) ((fd_hcp M 20 90 k) 20 k).toNat ((fd_hcp M 20 90 k) 90 k).toNat ha hb (by omega) (by rw [hf]; exact (h67 k (by omega)).1) (by rw [hf]; exact (h67 k (by omega)).2)) rfl (by omega) ?_
    refine fd_u_blk 1 (C := fd_c116) (b := true) (L' := [fd_R 19, fd_R 89, fd_I (((k + 1) : Nat) : Int)]) (st' := []) (M' := (fd_cps (fd_hcp M 20 90 k) ((fd_hcp M 20 90 k) 20 k).toNat ((fd_hcp M 20 90 k) 90 k).toNat)) rfl rfl (j := 20) rfl (rfl) ?_
    refine fd_u_jmp (C := fd_c116) (j := 6) (st' := []) rfl rfl (b := true) rfl rfl ?_
    rw [er1, er2]
    exact ih (k + 1) (by omega)

theorem fd_s_hc19_89 (M : fd_M) (p1 : fd_HR M 20 21) (p2 : fd_HR M 90 91) (hz : 0 ≤ M 89 1 ∧ M 89 1 ≤ 10) (h67 : ∀ i : Nat, i < 10 → (0 ≤ M (M 90 i).toNat 6 ∧ M (M 90 i).toNat 6 ≤ 1) ∧ (0 ≤ M (M 90 i).toNat 7 ∧ M (M 90 i).toNat 7 ≤ 1)) : fd_call 1 116 [fd_R 19, fd_R 89] M (none) (fd_hcp (fd_up M 19 1 (M 89 1)) 20 90 (M 89 1).toNat) := by
  refine fd_u_in (L := [fd_R 19, fd_R 89, fd_R 1003]) rfl ?_
  refine fd_u_blk 6 (C := fd_c116) (b := true) (L' := [fd_R 19, fd_R 89, fd_I 0]) (st' := []) (M' := (fd_up M 19 1 (M 89 1))) rfl rfl (j := 6) rfl (rfl) ?_
  have zz : ∀ i : Nat, i < 10 → (0 ≤ fd_up M 19 1 (M 89 1) (fd_up M 19 1 (M 89 1) 90 i).toNat 6 ∧ fd_up M 19 1 (M 89 1) (fd_up M 19 1 (M 89 1) 90 i).toNat 6 ≤ 1) ∧ (0 ≤ fd_up M 19 1 (M 89 1) (fd_up M 19 1 (M 89 1) 90 i).toNat 7 ∧ fd_up M 19 1 (M 89 1) (fd_up M 19 1 (M 89 1) 90 i).toNat 7 ≤ 1) := by
    intro i hi
    obtain ⟨j, hj, ej⟩ := p2 i hi
    have q := h67 i hi
    rw [show fd_up M 19 1 (M 89 1) 90 = M 90 from fd_up_ne (by decide)]
    rw [ej] at q ⊢
    rw [fd_up_ne (by omega)]
    exact q
  have z := fd_l_hc19_89 (fd_up M 19 1 (M 89 1)) p1 p2 (by rw [fd_up_at, if_pos rfl]; exact hz) zz (M 89 1).toNat 0 (by rw [fd_up_at, if_pos rfl]; omega)
  rw [fd_up_at, if_pos rfl] at z
  exact z

theorem fd_l_hc19_147 (M : fd_M) (p1 : fd_HR M 20 21) (p2 : fd_HR M 148 149) (hz : 0 ≤ M 19 1 ∧ M 19 1 ≤ 10) (h67 : ∀ i : Nat, i < 10 → (0 ≤ M (M 148 i).toNat 6 ∧ M (M 148 i).toNat 6 ≤ 1) ∧ (0 ≤ M (M 148 i).toNat 7 ∧ M (M 148 i).toNat 7 ≤ 1)) : ∀ (n : Nat) (k : Nat) (hk : (k : Int) + n = M 19 1), fd_run 1 116 6 [fd_R 19, fd_R 147, fd_I ((k : Nat) : Int)] [] (fd_hcp M 20 148 k) (none) (fd_hcp M 20 148 (M 19 1).toNat) := by
  intro n
  induction n with
  | zero =>
    intro k hk
    have e1 : (fd_hcp M 20 148 k) 19 1 = M 19 1 := by rw [fd_hcp_fr p1 (by omega) k (by omega)]
    refine fd_u_blk 3 (C := fd_c116) (b := true) (L' := [fd_R 19, fd_R 147, fd_I ((k : Nat) : Int)]) (st' := [fd_I ((fd_hcp M 20 148 k) 19 1), fd_I ((k : Nat) : Int)]) (M' := (fd_hcp M 20 148 k)) rfl rfl (j := 9) rfl (rfl) ?_
    refine fd_u_br (C := fd_c116) (t := 21) (e := 10) (st' := []) (c := ((fd_hcp M 20 148 k) 19 1) ≤ ((k : Nat) : Int)) (b := (fd_rng ((k : Nat) : Int) && fd_rng ((fd_hcp M 20 148 k) 19 1))) rfl rfl rfl (fd_bA (fd_bR (by omega) (by omega)) (fd_bR (by omega) (by omega))) (fun h9 => ?_) (fun h9 => absurd h9 (by omega))
    refine fd_u_ret (C := fd_c116) (b := true) (r' := none) rfl rfl rfl (rfl) ?_ ?_
    · rfl
    · rw [show (M 19 1).toNat = k by omega]
  | succ n ih =>
    intro k hk
    have e1 : (fd_hcp M 20 148 k) 19 1 = M 19 1 := by rw [fd_hcp_fr p1 (by omega) k (by omega)]
    obtain ⟨j1, hj1, ej1⟩ := p1 k (by omega)
    obtain ⟨j2, hj2, ej2⟩ := p2 k (by omega)
    have er1 : (fd_hcp M 20 148 k) 20 k = M 20 k := by rw [fd_hcp_fr p1 (by omega) k (by omega)]
    have er2 : (fd_hcp M 20 148 k) 148 k = M 148 k := by rw [fd_hcp_fr p1 (by omega) k (by omega)]
    have ha : fd_scn ((fd_hcp M 20 148 k) 20 k).toNat := by rw [er1, ej1]; exact fd_scn_all.1 j1 hj1
    have hb : fd_scn ((fd_hcp M 20 148 k) 148 k).toNat := by rw [er2, ej2]; exact fd_scn_all.2.2 j2 hj2
    have hf : (fd_hcp M 20 148 k) ((fd_hcp M 20 148 k) 148 k).toNat = M (M 148 k).toNat := by rw [er2, fd_hcp_fr p1 (by omega) k (by omega)]
    refine fd_u_blk 3 (C := fd_c116) (b := true) (L' := [fd_R 19, fd_R 147, fd_I ((k : Nat) : Int)]) (st' := [fd_I ((fd_hcp M 20 148 k) 19 1), fd_I ((k : Nat) : Int)]) (M' := (fd_hcp M 20 148 k)) rfl rfl (j := 9) rfl (rfl) ?_
    refine fd_u_br (C := fd_c116) (t := 21) (e := 10) (st' := []) (c := ((fd_hcp M 20 148 k) 19 1) ≤ ((k : Nat) : Int)) (b := (fd_rng ((k : Nat) : Int) && fd_rng ((fd_hcp M 20 148 k) 19 1))) rfl rfl rfl (fd_bA (fd_bR (by omega) (by omega)) (fd_bR (by omega) (by omega))) (fun h9 => absurd h9 (by omega)) (fun h9 => ?_)
    refine fd_u_blk 8 (C := fd_c116) (b := (((fd_inb ((k : Nat) : Int) 10 || fd_isA true (fd_hcp M 20 148 k) 20 24 ((k : Nat) : Int)) && Nat.blt ((fd_hcp M 20 148 k) 20 k).toNat 1000) && (((fd_inb ((k : Nat) : Int) 10 || fd_isA true (fd_hcp M 20 148 k) 148 24 ((k : Nat) : Int)) && Nat.blt ((fd_hcp M 20 148 k) 148 k).toNat 1000) && true))) (L' := [fd_R 19, fd_R 147, fd_I ((k : Nat) : Int)]) (st' := [fd_R (((fd_hcp M 20 148 k) 148 k).toNat), fd_R (((fd_hcp M 20 148 k) 20 k).toNat)]) (M' := (fd_hcp M 20 148 k)) rfl rfl (j := 18) rfl (fd_bA (fd_bA (by rw [fd_bI (i := ((k : Nat) : Int)) (n := 10) (by omega) (by omega)]; rfl) (by rw [Nat.blt_eq]; omega)) (fd_bA (fd_bA (by rw [fd_bI (i := ((k : Nat) : Int)) (n := 10) (by omega) (by omega)]; rfl) (by rw [Nat.blt_eq]; omega)) (rfl))) ?_
    refine fd_u_call (C := fd_c116) (d0 := 0) (mid := 143) (np := 2) (args := [fd_R (((fd_hcp M 20 148 k) 20 k).toNat), fd_R (((fd_hcp M 20 148 k) 148 k).toNat)]) (r1 := none) (M1 := (fd_cps (fd_hcp M 20 148 k) ((fd_hcp M 20 148 k) 20 k).toNat ((fd_hcp M 20 148 k) 148 k).toNat)) (st' := []) rfl rfl rfl rfl rfl rfl (by have q1 := ha.2.2.2.2.2; have q2 := hb.2.2.2.2.2; simp [fd_inv, fd_n1, fd_cw, fd_isO, fd_al, ha.1, hb.1, Nat.blt_eq, show fd_mc 143 = 5 from rfl]; omega) (fd_s_copyFrom (fd_hcp M 20 148 k) ((fd_hcp M 20 148 k) 20 k).toNat ((fd_hcp M 20 148 k) 148 k).toNat ha hb (by omega) (by rw [hf]; exact (h67 k (by omega)).1) (by rw [hf]; exact (h67 k (by omega)).2)) rfl (by omega) ?_
    refine fd_u_blk 1 (C := fd_c116) (b := true) (L' := [fd_R 19, fd_R 147, fd_I (((k + 1) : Nat) : Int)]) (st' := []) (M' := (fd_cps (fd_hcp M 20 148 k) ((fd_hcp M 20 148 k) 20 k).toNat ((fd_hcp M 20 148 k) 148 k).toNat)) rfl rfl (j := 20) rfl (rfl) ?_
    refine fd_u_jmp (C := fd_c116) (j := 6) (st' := []) rfl rfl (b := true) rfl rfl ?_
    rw [er1, er2]
    exact ih (k + 1) (by omega)

theorem fd_s_hc19_147 (M : fd_M) (p1 : fd_HR M 20 21) (p2 : fd_HR M 148 149) (hz : 0 ≤ M 147 1 ∧ M 147 1 ≤ 10) (h67 : ∀ i : Nat, i < 10 → (0 ≤ M (M 148 i).toNat 6 ∧ M (M 148 i).toNat 6 ≤ 1) ∧ (0 ≤ M (M 148 i).toNat 7 ∧ M (M 148 i).toNat 7 ≤ 1)) : fd_call 1 116 [fd_R 19, fd_R 147] M (none) (fd_hcp (fd_up M 19 1 (M 147 1)) 20 148 (M 147 1).toNat) := by
  refine fd_u_in (L := [fd_R 19, fd_R 147, fd_R 1003]) rfl ?_
  refine fd_u_blk 6 (C := fd_c116) (b := true) (L' := [fd_R 19, fd_R 147, fd_I 0]) (st' := []) (M' := (fd_up M 19 1 (M 147 1))) rfl rfl (j := 6) rfl (rfl) ?_
  have zz : ∀ i : Nat, i < 10 → (0 ≤ fd_up M 19 1 (M 147 1) (fd_up M 19 1 (M 147 1) 148 i).toNat 6 ∧ fd_up M 19 1 (M 147 1) (fd_up M 19 1 (M 147 1) 148 i).toNat 6 ≤ 1) ∧ (0 ≤ fd_up M 19 1 (M 147 1) (fd_up M 19 1 (M 147 1) 148 i).toNat 7 ∧ fd_up M 19 1 (M 147 1) (fd_up M 19 1 (M 147 1) 148 i).toNat 7 ≤ 1) := by
    intro i hi
    obtain ⟨j, hj, ej⟩ := p2 i hi
    have q := h67 i hi
    rw [show fd_up M 19 1 (M 147 1) 148 = M 148 from fd_up_ne (by decide)]
    rw [ej] at q ⊢
    rw [fd_up_ne (by omega)]
    exact q
  have z := fd_l_hc19_147 (fd_up M 19 1 (M 147 1)) p1 p2 (by rw [fd_up_at, if_pos rfl]; exact hz) zz (M 147 1).toNat 0 (by rw [fd_up_at, if_pos rfl]; omega)
  rw [fd_up_at, if_pos rfl] at z
  exact z

def fd_take0 (M : fd_M) : fd_M := fd_up (fd_hcp (fd_up (fd_cps M 84 14) 89 1 (M 19 1)) 90 20 (M 19 1).toNat) 83 2 1
def fd_give0 (M : fd_M) : fd_M := fd_hcp (fd_up (fd_cps M 14 84) 19 1 (M 89 1)) 20 90 (M 89 1).toNat
theorem fd_s_take0 (M : fd_M) (p1 : fd_HR M 90 91) (p2 : fd_HR M 20 21) (hz : 0 ≤ M 19 1 ∧ M 19 1 ≤ 10) (h6 : 0 ≤ M 14 6 ∧ M 14 6 ≤ 1) (h7 : 0 ≤ M 14 7 ∧ M 14 7 ≤ 1) (h67 : ∀ i : Nat, i < 10 → (0 ≤ M (M 20 i).toNat 6 ∧ M (M 20 i).toNat 6 ≤ 1) ∧ (0 ≤ M (M 20 i).toNat 7 ∧ M (M 20 i).toNat 7 ≤ 1)) : fd_call 2 118 [fd_R 83, fd_R 14, fd_R 19] M (none) (fd_take0 M) := by
  refine fd_u_in (L := [fd_R 83, fd_R 14, fd_R 19]) rfl ?_
  have zz : ∀ i : Nat, i < 10 → (0 ≤ fd_cps M 84 14 (M 20 i).toNat 6 ∧ fd_cps M 84 14 (M 20 i).toNat 6 ≤ 1) ∧ (0 ≤ fd_cps M 84 14 (M 20 i).toNat 7 ∧ fd_cps M 84 14 (M 20 i).toNat 7 ≤ 1) := by
    intro i hi
    obtain ⟨j, hj, ej⟩ := p2 i hi
    have q := h67 i hi
    rw [ej] at q ⊢
    rw [fd_cps_fr (by omega)]
    exact q
  refine fd_u_blk 3 (C := fd_c118) (b := true) (L' := [fd_R 83, fd_R 14, fd_R 19]) (st' := [fd_R 14, fd_R 84]) (M' := M) rfl rfl (j := 3) rfl (rfl) ?_
  refine fd_u_call (C := fd_c118) (d0 := 0) (mid := 143) (np := 2) (args := [fd_R 84, fd_R 14]) (r1 := none) (M1 := (fd_cps M 84 14)) (st' := []) rfl rfl rfl rfl rfl rfl (rfl) (fd_s_copyFrom M 84 14 fd_scn_n.2.1 fd_scn_n.1 (by omega) h6 h7) rfl (by omega) ?_
  refine fd_u_blk 3 (C := fd_c118) (b := true) (L' := [fd_R 83, fd_R 14, fd_R 19]) (st' := [fd_R 19, fd_R 89]) (M' := (fd_cps M 84 14)) rfl rfl (j := 7) rfl (rfl) ?_
  refine fd_u_call (C := fd_c118) (d0 := 1) (mid := 116) (np := 2) (args := [fd_R 89, fd_R 19]) (r1 := none) (M1 := (fd_hcp (fd_up (fd_cps M 84 14) 89 1 (M 19 1)) 90 20 (M 19 1).toNat)) (st' := []) rfl rfl rfl rfl rfl rfl (rfl) (fd_s_hc89_19 (fd_cps M 84 14) p1 p2 hz zz) rfl (by omega) ?_
  refine fd_u_blk 3 (C := fd_c118) (b := true) (L' := [fd_R 83, fd_R 14, fd_R 19]) (st' := []) (M' := (fd_up (fd_hcp (fd_up (fd_cps M 84 14) 89 1 (M 19 1)) 90 20 (M 19 1).toNat) 83 2 1)) rfl rfl (j := 11) rfl (rfl) ?_
  refine fd_u_ret (C := fd_c118) (b := true) (r' := none) rfl rfl rfl (rfl) ?_ ?_
  · rfl
  · rfl

theorem fd_s_give0 (M : fd_M) (p1 : fd_HR M 20 21) (p2 : fd_HR M 90 91) (hz : 0 ≤ M 89 1 ∧ M 89 1 ≤ 10) (h6 : 0 ≤ M 84 6 ∧ M 84 6 ≤ 1) (h7 : 0 ≤ M 84 7 ∧ M 84 7 ≤ 1) (h67 : ∀ i : Nat, i < 10 → (0 ≤ M (M 90 i).toNat 6 ∧ M (M 90 i).toNat 6 ≤ 1) ∧ (0 ≤ M (M 90 i).toNat 7 ∧ M (M 90 i).toNat 7 ≤ 1)) : fd_call 2 119 [fd_R 83, fd_R 14, fd_R 19] M (none) (fd_give0 M) := by
  refine fd_u_in (L := [fd_R 83, fd_R 14, fd_R 19]) rfl ?_
  have zz : ∀ i : Nat, i < 10 → (0 ≤ fd_cps M 14 84 (M 90 i).toNat 6 ∧ fd_cps M 14 84 (M 90 i).toNat 6 ≤ 1) ∧ (0 ≤ fd_cps M 14 84 (M 90 i).toNat 7 ∧ fd_cps M 14 84 (M 90 i).toNat 7 ≤ 1) := by
    intro i hi
    obtain ⟨j, hj, ej⟩ := p2 i hi
    have q := h67 i hi
    rw [ej] at q ⊢
    rw [fd_cps_fr (by omega)]
    exact q
  refine fd_u_blk 3 (C := fd_c119) (b := true) (L' := [fd_R 83, fd_R 14, fd_R 19]) (st' := [fd_R 84, fd_R 14]) (M' := M) rfl rfl (j := 3) rfl (rfl) ?_
  refine fd_u_call (C := fd_c119) (d0 := 0) (mid := 143) (np := 2) (args := [fd_R 14, fd_R 84]) (r1 := none) (M1 := (fd_cps M 14 84)) (st' := []) rfl rfl rfl rfl rfl rfl (rfl) (fd_s_copyFrom M 14 84 fd_scn_n.1 fd_scn_n.2.1 (by omega) h6 h7) rfl (by omega) ?_
  refine fd_u_blk 3 (C := fd_c119) (b := true) (L' := [fd_R 83, fd_R 14, fd_R 19]) (st' := [fd_R 89, fd_R 19]) (M' := (fd_cps M 14 84)) rfl rfl (j := 7) rfl (rfl) ?_
  refine fd_u_call (C := fd_c119) (d0 := 1) (mid := 116) (np := 2) (args := [fd_R 19, fd_R 89]) (r1 := none) (M1 := (fd_hcp (fd_up (fd_cps M 14 84) 19 1 (M 89 1)) 20 90 (M 89 1).toNat)) (st' := []) rfl rfl rfl rfl rfl rfl (rfl) (fd_s_hc19_89 (fd_cps M 14 84) p1 p2 hz zz) rfl (by omega) ?_
  refine fd_u_ret (C := fd_c119) (b := true) (r' := none) rfl rfl rfl (rfl) ?_ ?_
  · rfl
  · rfl

def fd_take1 (M : fd_M) : fd_M := fd_up (fd_hcp (fd_up (fd_cps M 142 14) 147 1 (M 19 1)) 148 20 (M 19 1).toNat) 141 2 1
def fd_give1 (M : fd_M) : fd_M := fd_hcp (fd_up (fd_cps M 14 142) 19 1 (M 147 1)) 20 148 (M 147 1).toNat
theorem fd_s_take1 (M : fd_M) (p1 : fd_HR M 148 149) (p2 : fd_HR M 20 21) (hz : 0 ≤ M 19 1 ∧ M 19 1 ≤ 10) (h6 : 0 ≤ M 14 6 ∧ M 14 6 ≤ 1) (h7 : 0 ≤ M 14 7 ∧ M 14 7 ≤ 1) (h67 : ∀ i : Nat, i < 10 → (0 ≤ M (M 20 i).toNat 6 ∧ M (M 20 i).toNat 6 ≤ 1) ∧ (0 ≤ M (M 20 i).toNat 7 ∧ M (M 20 i).toNat 7 ≤ 1)) : fd_call 2 118 [fd_R 141, fd_R 14, fd_R 19] M (none) (fd_take1 M) := by
  refine fd_u_in (L := [fd_R 141, fd_R 14, fd_R 19]) rfl ?_
  have zz : ∀ i : Nat, i < 10 → (0 ≤ fd_cps M 142 14 (M 20 i).toNat 6 ∧ fd_cps M 142 14 (M 20 i).toNat 6 ≤ 1) ∧ (0 ≤ fd_cps M 142 14 (M 20 i).toNat 7 ∧ fd_cps M 142 14 (M 20 i).toNat 7 ≤ 1) := by
    intro i hi
    obtain ⟨j, hj, ej⟩ := p2 i hi
    have q := h67 i hi
    rw [ej] at q ⊢
    rw [fd_cps_fr (by omega)]
    exact q
  refine fd_u_blk 3 (C := fd_c118) (b := true) (L' := [fd_R 141, fd_R 14, fd_R 19]) (st' := [fd_R 14, fd_R 142]) (M' := M) rfl rfl (j := 3) rfl (rfl) ?_
  refine fd_u_call (C := fd_c118) (d0 := 0) (mid := 143) (np := 2) (args := [fd_R 142, fd_R 14]) (r1 := none) (M1 := (fd_cps M 142 14)) (st' := []) rfl rfl rfl rfl rfl rfl (rfl) (fd_s_copyFrom M 142 14 fd_scn_n.2.2 fd_scn_n.1 (by omega) h6 h7) rfl (by omega) ?_
  refine fd_u_blk 3 (C := fd_c118) (b := true) (L' := [fd_R 141, fd_R 14, fd_R 19]) (st' := [fd_R 19, fd_R 147]) (M' := (fd_cps M 142 14)) rfl rfl (j := 7) rfl (rfl) ?_
  refine fd_u_call (C := fd_c118) (d0 := 1) (mid := 116) (np := 2) (args := [fd_R 147, fd_R 19]) (r1 := none) (M1 := (fd_hcp (fd_up (fd_cps M 142 14) 147 1 (M 19 1)) 148 20 (M 19 1).toNat)) (st' := []) rfl rfl rfl rfl rfl rfl (rfl) (fd_s_hc147_19 (fd_cps M 142 14) p1 p2 hz zz) rfl (by omega) ?_
  refine fd_u_blk 3 (C := fd_c118) (b := true) (L' := [fd_R 141, fd_R 14, fd_R 19]) (st' := []) (M' := (fd_up (fd_hcp (fd_up (fd_cps M 142 14) 147 1 (M 19 1)) 148 20 (M 19 1).toNat) 141 2 1)) rfl rfl (j := 11) rfl (rfl) ?_
  refine fd_u_ret (C := fd_c118) (b := true) (r' := none) rfl rfl rfl (rfl) ?_ ?_
  · rfl
  · rfl

theorem fd_s_give1 (M : fd_M) (p1 : fd_HR M 20 21) (p2 : fd_HR M 148 149) (hz : 0 ≤ M 147 1 ∧ M 147 1 ≤ 10) (h6 : 0 ≤ M 142 6 ∧ M 142 6 ≤ 1) (h7 : 0 ≤ M 142 7 ∧ M 142 7 ≤ 1) (h67 : ∀ i : Nat, i < 10 → (0 ≤ M (M 148 i).toNat 6 ∧ M (M 148 i).toNat 6 ≤ 1) ∧ (0 ≤ M (M 148 i).toNat 7 ∧ M (M 148 i).toNat 7 ≤ 1)) : fd_call 2 119 [fd_R 141, fd_R 14, fd_R 19] M (none) (fd_give1 M) := by
  refine fd_u_in (L := [fd_R 141, fd_R 14, fd_R 19]) rfl ?_
  have zz : ∀ i : Nat, i < 10 → (0 ≤ fd_cps M 14 142 (M 148 i).toNat 6 ∧ fd_cps M 14 142 (M 148 i).toNat 6 ≤ 1) ∧ (0 ≤ fd_cps M 14 142 (M 148 i).toNat 7 ∧ fd_cps M 14 142 (M 148 i).toNat 7 ≤ 1) := by
    intro i hi
    obtain ⟨j, hj, ej⟩ := p2 i hi
    have q := h67 i hi
    rw [ej] at q ⊢
    rw [fd_cps_fr (by omega)]
    exact q
  refine fd_u_blk 3 (C := fd_c119) (b := true) (L' := [fd_R 141, fd_R 14, fd_R 19]) (st' := [fd_R 142, fd_R 14]) (M' := M) rfl rfl (j := 3) rfl (rfl) ?_
  refine fd_u_call (C := fd_c119) (d0 := 0) (mid := 143) (np := 2) (args := [fd_R 14, fd_R 142]) (r1 := none) (M1 := (fd_cps M 14 142)) (st' := []) rfl rfl rfl rfl rfl rfl (rfl) (fd_s_copyFrom M 14 142 fd_scn_n.1 fd_scn_n.2.2 (by omega) h6 h7) rfl (by omega) ?_
  refine fd_u_blk 3 (C := fd_c119) (b := true) (L' := [fd_R 141, fd_R 14, fd_R 19]) (st' := [fd_R 147, fd_R 19]) (M' := (fd_cps M 14 142)) rfl rfl (j := 7) rfl (rfl) ?_
  refine fd_u_call (C := fd_c119) (d0 := 1) (mid := 116) (np := 2) (args := [fd_R 19, fd_R 147]) (r1 := none) (M1 := (fd_hcp (fd_up (fd_cps M 14 142) 19 1 (M 147 1)) 20 148 (M 147 1).toNat)) (st' := []) rfl rfl rfl rfl rfl rfl (rfl) (fd_s_hc19_147 (fd_cps M 14 142) p1 p2 hz zz) rfl (by omega) ?_
  refine fd_u_ret (C := fd_c119) (b := true) (r' := none) rfl rfl rfl (rfl) ?_ ?_
  · rfl
  · rfl

def fd_IM (M : fd_M) : Prop := M 71 0 = 83 ∧ M 71 1 = 141 ∧ (∀ i : Nat, i < 10 → M 90 i = ((91 + 5 * i : Nat) : Int)) ∧ (∀ i : Nat, i < 10 → M 148 i = ((149 + 5 * i : Nat) : Int))
theorem fd_HR90 {M : fd_M} (h : fd_IM M) : fd_HR M 90 91 := fun i hi => ⟨i, hi, h.2.2.1 i hi⟩
theorem fd_HR148 {M : fd_M} (h : fd_IM M) : fd_HR M 148 149 := fun i hi => ⟨i, hi, h.2.2.2 i hi⟩
def fd_S67 (M : fd_M) (r : Nat) : Prop := ∀ i : Nat, i < 10 → (0 ≤ M (M r i).toNat 6 ∧ M (M r i).toNat 6 ≤ 1) ∧ (0 ≤ M (M r i).toNat 7 ∧ M (M r i).toNat 7 ≤ 1)
theorem fd_take0_fr {M : fd_M} (h : fd_IM M) (hz : 0 ≤ M 19 1 ∧ M 19 1 ≤ 10) {c : Nat} (hc : c < 83 ∨ 141 ≤ c) : fd_take0 M c = M c := by
  unfold fd_take0
  rw [fd_up_ne (by omega), fd_hcp_fr (M := fd_up (fd_cps M 84 14) 89 1 (M 19 1)) (B := 91) (r1 := 90) (fd_HR90 h) (by omega) _ (by omega), fd_up_ne (by omega), fd_cps_fr (by omega)]
theorem fd_take1_fr {M : fd_M} (h : fd_IM M) (hz : 0 ≤ M 19 1 ∧ M 19 1 ≤ 10) {c : Nat} (hc : c < 141 ∨ 199 ≤ c) : fd_take1 M c = M c := by
  unfold fd_take1
  rw [fd_up_ne (by omega), fd_hcp_fr (M := fd_up (fd_cps M 142 14) 147 1 (M 19 1)) (B := 149) (r1 := 148) (fd_HR148 h) (by omega) _ (by omega), fd_up_ne (by omega), fd_cps_fr (by omega)]
theorem fd_give0_fr {M : fd_M} (h : fd_HR M 20 21) (hz : 0 ≤ M 89 1 ∧ M 89 1 ≤ 10) {c : Nat} (hc : c < 14 ∨ 71 ≤ c ∨ c = 20) : fd_give0 M c = M c := by
  unfold fd_give0
  rw [fd_hcp_fr (M := fd_up (fd_cps M 14 84) 19 1 (M 89 1)) (B := 21) (r1 := 20) h (by omega) _ (by omega), fd_up_ne (by omega), fd_cps_fr (by omega)]
theorem fd_give1_fr {M : fd_M} (h : fd_HR M 20 21) (hz : 0 ≤ M 147 1 ∧ M 147 1 ≤ 10) {c : Nat} (hc : c < 14 ∨ 71 ≤ c ∨ c = 20) : fd_give1 M c = M c := by
  unfold fd_give1
  rw [fd_hcp_fr (M := fd_up (fd_cps M 14 142) 19 1 (M 147 1)) (B := 21) (r1 := 20) h (by omega) _ (by omega), fd_up_ne (by omega), fd_cps_fr (by omega)]
theorem fd_give0_sc {M : fd_M} (h : fd_HR M 20 21) (hz : 0 ≤ M 89 1 ∧ M 89 1 ≤ 10) {c : Nat} (hc : 14 ≤ c ∧ c < 19) : fd_give0 M c = fd_cps M 14 84 c := by
  unfold fd_give0
  rw [fd_hcp_fr (M := fd_up (fd_cps M 14 84) 19 1 (M 89 1)) (B := 21) (r1 := 20) h (by omega) _ (by omega), fd_up_ne (by omega)]
theorem fd_give1_sc {M : fd_M} (h : fd_HR M 20 21) (hz : 0 ≤ M 147 1 ∧ M 147 1 ≤ 10) {c : Nat} (hc : 14 ≤ c ∧ c < 19) : fd_give1 M c = fd_cps M 14 142 c := by
  unfold fd_give1
  rw [fd_hcp_fr (M := fd_up (fd_cps M 14 142) 19 1 (M 147 1)) (B := 21) (r1 := 20) h (by omega) _ (by omega), fd_up_ne (by omega)]
theorem fd_CG_cps {M : fd_M} {b : Nat} (hb : 19 ≤ b) (hG : fd_CG M) (h : fd_SG M b) : fd_CG (fd_cps M 14 b) := by
  refine ⟨?_, fd_SG_cps (by omega) hG.2 h⟩
  unfold fd_PG
  rw [fd_cps_fr (c := 3) (by omega), fd_cps_fr (c := 4) (by omega)]
  exact hG.1
def fd_X_keep (M : fd_M) (w : Int) : Int := if ¬ (0 ≤ w ∧ w < 2) then -1 else fd_sum (fd_dueC M) (M 3 2).toNat
def fd_Y_keep (M : fd_M) (w : Int) : fd_M := if ¬ (0 ≤ w ∧ w < 2) then M else if w = 0 then fd_take0 M else fd_take1 M
def fd_X_back (M : fd_M) (w : Int) : Int := if ¬ (0 ≤ w ∧ w < 2) then -1 else if w = 0 then (if M 83 2 = 0 then -2 else fd_sum (fd_dueC (fd_give0 M)) (M 3 2).toNat) else (if M 141 2 = 0 then -2 else fd_sum (fd_dueC (fd_give1 M)) (M 3 2).toNat)
def fd_Y_back (M : fd_M) (w : Int) : fd_M := if ¬ (0 ≤ w ∧ w < 2) then M else if w = 0 then (if M 83 2 = 0 then M else fd_give0 M) else (if M 141 2 = 0 then M else fd_give1 M)
theorem fd_f_keep0 (M : fd_M) (hG : fd_CG M) (hI : fd_IM M) (hH : fd_HR M 20 21) (hz : 0 ≤ M 19 1 ∧ M 19 1 ≤ 10) (h67 : fd_S67 M 20) : fd_run 8 24 5 [fd_R 0, fd_I 0] [] M (some (fd_I (fd_sum (fd_dueC M) (M 3 2).toNat))) (fd_take0 M) := by
  have h6 : 0 ≤ M 14 6 ∧ M 14 6 ≤ 1 := hG.2.2.2.2.2.2.2.1
  have h7 : 0 ≤ M 14 7 ∧ M 14 7 ≤ 1 := hG.2.2.2.2.2.2.2.2
  have zD : fd_call 7 157 [fd_R 72] (fd_take0 M) (some (fd_I (fd_sum (fd_dueC M) (M 3 2).toNat))) (fd_take0 M) := by
    have z := fd_s_dueOfAll (fd_take0 M) (fd_CG_of hG (fd_take0_fr hI hz (c := 3) (by omega)) (fd_take0_fr hI hz (c := 4) (by omega)) (fd_take0_fr hI hz (c := 14) (by omega)) (fd_take0_fr hI hz (c := 15) (by omega)) (fd_take0_fr hI hz (c := 16) (by omega)) (fd_take0_fr hI hz (c := 17) (by omega)) (fd_take0_fr hI hz (c := 18) (by omega)))
    rw [fd_dueC_of (fd_take0_fr hI hz (c := 3) (by omega)) (fd_take0_fr hI hz (c := 4) (by omega)) (fd_take0_fr hI hz (c := 14) (by omega)) (fd_take0_fr hI hz (c := 15) (by omega)) (fd_take0_fr hI hz (c := 16) (by omega)) (fd_take0_fr hI hz (c := 17) (by omega)), fd_take0_fr hI hz (c := 3) (by omega)] at z
    exact z
  have m0 := hI.1
  have m1 := hI.2.1
  refine fd_u_blk 4 (C := fd_c24) (b := (((false || fd_inb 0 2) && Nat.blt (M 71 0).toNat 1000) && true)) (L' := [fd_R 0, fd_I 0]) (st' := [fd_R ((M 71 0).toNat)]) (M' := M) rfl rfl (j := 9) rfl (fd_bA (fd_bA (by rw [fd_bI (i := 0) (n := 2) (by omega) (by omega)]; rfl) (by rw [Nat.blt_eq]; omega)) (rfl)) ?_
  rw [show (M 71 0).toNat = 83 by omega]
  refine fd_u_blk 4 (C := fd_c24) (b := true) (L' := [fd_R 0, fd_I 0]) (st' := [fd_R 19, fd_R 14, fd_R 83]) (M' := M) rfl rfl (j := 13) rfl (rfl) ?_
  refine fd_u_call (C := fd_c24) (d0 := 2) (mid := 118) (np := 3) (args := [fd_R 83, fd_R 14, fd_R 19]) (r1 := none) (M1 := (fd_take0 M)) (st' := []) rfl rfl rfl rfl rfl rfl (rfl) (fd_s_take0 M (fd_HR90 hI) hH hz h6 h7 h67) rfl (by omega) ?_
  refine fd_u_blk 2 (C := fd_c24) (b := true) (L' := [fd_R 0, fd_I 0]) (st' := [fd_R 72]) (M' := (fd_take0 M)) rfl rfl (j := 16) rfl (rfl) ?_
  refine fd_u_call (C := fd_c24) (d0 := 7) (mid := 157) (np := 1) (args := [fd_R 72]) (r1 := some (fd_I (fd_sum (fd_dueC M) (M 3 2).toNat))) (M1 := (fd_take0 M)) (st' := [fd_I (fd_sum (fd_dueC M) (M 3 2).toNat)]) rfl rfl rfl rfl rfl rfl (rfl) (zD) rfl (by omega) ?_
  refine fd_u_ret (C := fd_c24) (b := true) (r' := some (fd_I (fd_sum (fd_dueC M) (M 3 2).toNat))) rfl rfl rfl (rfl) ?_ ?_
  · rfl
  · rfl

theorem fd_f_back0 (M : fd_M) (hG : fd_CG M) (hI : fd_IM M) (hH : fd_HR M 20 21) (k0 : 0 ≤ M 83 2 ∧ M 83 2 ≤ 1) (k1 : 0 ≤ M 141 2 ∧ M 141 2 ≤ 1) (z0 : 0 ≤ M 89 1 ∧ M 89 1 ≤ 10) (z1 : 0 ≤ M 147 1 ∧ M 147 1 ≤ 10) (i0 : fd_SG M 84) (i1 : fd_SG M 142) (j0 : fd_S67 M 90) (j1 : fd_S67 M 148) : fd_run 8 25 5 [fd_R 0, fd_I 0] [] M (some (fd_I (if M 83 2 = 0 then -2 else fd_sum (fd_dueC (fd_give0 M)) (M 3 2).toNat))) (if M 83 2 = 0 then M else fd_give0 M) := by
  have h6 : 0 ≤ M 84 6 ∧ M 84 6 ≤ 1 := i0.2.2.2.2.2.2.1
  have h7 : 0 ≤ M 84 7 ∧ M 84 7 ≤ 1 := i0.2.2.2.2.2.2.2
  have zG : fd_CG (fd_give0 M) := fd_CG_of (fd_CG_cps (b := 84) (by omega) hG i0) ((fd_give0_fr hH z0 (c := 3) (by omega)).trans (fd_cps_fr (by omega)).symm) ((fd_give0_fr hH z0 (c := 4) (by omega)).trans (fd_cps_fr (by omega)).symm) (fd_give0_sc hH z0 (c := 14) (by omega)) (fd_give0_sc hH z0 (c := 15) (by omega)) (fd_give0_sc hH z0 (c := 16) (by omega)) (fd_give0_sc hH z0 (c := 17) (by omega)) (fd_give0_sc hH z0 (c := 18) (by omega))
  have zD : fd_call 7 157 [fd_R 72] (fd_give0 M) (some (fd_I (fd_sum (fd_dueC (fd_give0 M)) (M 3 2).toNat))) (fd_give0 M) := by
    have z := fd_s_dueOfAll (fd_give0 M) zG
    rw [fd_give0_fr hH z0 (c := 3) (by omega)] at z
    exact z
  have m0 := hI.1
  have m1 := hI.2.1
  refine fd_u_blk 4 (C := fd_c25) (b := (((false || fd_inb 0 2) && Nat.blt (M 71 0).toNat 1000) && true)) (L' := [fd_R 0, fd_I 0]) (st' := [fd_R ((M 71 0).toNat)]) (M' := M) rfl rfl (j := 9) rfl (fd_bA (fd_bA (by rw [fd_bI (i := 0) (n := 2) (by omega) (by omega)]; rfl) (by rw [Nat.blt_eq]; omega)) (rfl)) ?_
  rw [show (M 71 0).toNat = 83 by omega]
  refine fd_u_blk 1 (C := fd_c25) (b := true) (L' := [fd_R 0, fd_I 0]) (st' := [fd_I (M 83 2)]) (M' := M) rfl rfl (j := 10) rfl (rfl) ?_
  refine fd_u_br (C := fd_c25) (t := 13) (e := 11) (st' := []) (c := ¬ (M 83 2) = 0) (b := (fd_rng (M 83 2))) rfl rfl rfl (fd_bR (by omega) (by omega)) (fun h10 => ?_) (fun h10 => ?_)
  · refine fd_u_blk 4 (C := fd_c25) (b := (((false || fd_inb 0 2) && Nat.blt (M 71 0).toNat 1000) && true)) (L' := [fd_R 0, fd_I 0]) (st' := [fd_R ((M 71 0).toNat)]) (M' := M) rfl rfl (j := 17) rfl (fd_bA (fd_bA (by rw [fd_bI (i := 0) (n := 2) (by omega) (by omega)]; rfl) (by rw [Nat.blt_eq]; omega)) (rfl)) ?_
    rw [show (M 71 0).toNat = 83 by omega]
    refine fd_u_blk 4 (C := fd_c25) (b := true) (L' := [fd_R 0, fd_I 0]) (st' := [fd_R 19, fd_R 14, fd_R 83]) (M' := M) rfl rfl (j := 21) rfl (rfl) ?_
    refine fd_u_call (C := fd_c25) (d0 := 2) (mid := 119) (np := 3) (args := [fd_R 83, fd_R 14, fd_R 19]) (r1 := none) (M1 := (fd_give0 M)) (st' := []) rfl rfl rfl rfl rfl rfl (rfl) (fd_s_give0 M hH (fd_HR90 hI) z0 h6 h7 j0) rfl (by omega) ?_
    refine fd_u_blk 2 (C := fd_c25) (b := true) (L' := [fd_R 0, fd_I 0]) (st' := [fd_R 72]) (M' := (fd_give0 M)) rfl rfl (j := 24) rfl (rfl) ?_
    refine fd_u_call (C := fd_c25) (d0 := 7) (mid := 157) (np := 1) (args := [fd_R 72]) (r1 := some (fd_I (fd_sum (fd_dueC (fd_give0 M)) (M 3 2).toNat))) (M1 := (fd_give0 M)) (st' := [fd_I (fd_sum (fd_dueC (fd_give0 M)) (M 3 2).toNat)]) rfl rfl rfl rfl rfl rfl (rfl) (zD) rfl (by omega) ?_
    refine fd_u_ret (C := fd_c25) (b := true) (r' := some (fd_I (fd_sum (fd_dueC (fd_give0 M)) (M 3 2).toNat))) rfl rfl rfl (rfl) ?_ ?_
    · rw [if_neg (by omega)]
    · rw [if_neg (by omega)]
  · refine fd_u_blk 1 (C := fd_c25) (b := true) (L' := [fd_R 0, fd_I 0]) (st' := [fd_I (-2)]) (M' := M) rfl rfl (j := 12) rfl (rfl) ?_
    refine fd_u_ret (C := fd_c25) (b := true) (r' := some (fd_I (-2))) rfl rfl rfl (rfl) ?_ ?_
    · rw [if_pos (by omega)]
    · rw [if_pos (by omega)]

theorem fd_f_keep1 (M : fd_M) (hG : fd_CG M) (hI : fd_IM M) (hH : fd_HR M 20 21) (hz : 0 ≤ M 19 1 ∧ M 19 1 ≤ 10) (h67 : fd_S67 M 20) : fd_run 8 24 5 [fd_R 0, fd_I 1] [] M (some (fd_I (fd_sum (fd_dueC M) (M 3 2).toNat))) (fd_take1 M) := by
  have h6 : 0 ≤ M 14 6 ∧ M 14 6 ≤ 1 := hG.2.2.2.2.2.2.2.1
  have h7 : 0 ≤ M 14 7 ∧ M 14 7 ≤ 1 := hG.2.2.2.2.2.2.2.2
  have zD : fd_call 7 157 [fd_R 72] (fd_take1 M) (some (fd_I (fd_sum (fd_dueC M) (M 3 2).toNat))) (fd_take1 M) := by
    have z := fd_s_dueOfAll (fd_take1 M) (fd_CG_of hG (fd_take1_fr hI hz (c := 3) (by omega)) (fd_take1_fr hI hz (c := 4) (by omega)) (fd_take1_fr hI hz (c := 14) (by omega)) (fd_take1_fr hI hz (c := 15) (by omega)) (fd_take1_fr hI hz (c := 16) (by omega)) (fd_take1_fr hI hz (c := 17) (by omega)) (fd_take1_fr hI hz (c := 18) (by omega)))
    rw [fd_dueC_of (fd_take1_fr hI hz (c := 3) (by omega)) (fd_take1_fr hI hz (c := 4) (by omega)) (fd_take1_fr hI hz (c := 14) (by omega)) (fd_take1_fr hI hz (c := 15) (by omega)) (fd_take1_fr hI hz (c := 16) (by omega)) (fd_take1_fr hI hz (c := 17) (by omega)), fd_take1_fr hI hz (c := 3) (by omega)] at z
    exact z
  have m0 := hI.1
  have m1 := hI.2.1
  refine fd_u_blk 4 (C := fd_c24) (b := (((false || fd_inb 1 2) && Nat.blt (M 71 1).toNat 1000) && true)) (L' := [fd_R 0, fd_I 1]) (st' := [fd_R ((M 71 1).toNat)]) (M' := M) rfl rfl (j := 9) rfl (fd_bA (fd_bA (by rw [fd_bI (i := 1) (n := 2) (by omega) (by omega)]; rfl) (by rw [Nat.blt_eq]; omega)) (rfl)) ?_
  rw [show (M 71 1).toNat = 141 by omega]
  refine fd_u_blk 4 (C := fd_c24) (b := true) (L' := [fd_R 0, fd_I 1]) (st' := [fd_R 19, fd_R 14, fd_R 141]) (M' := M) rfl rfl (j := 13) rfl (rfl) ?_
  refine fd_u_call (C := fd_c24) (d0 := 2) (mid := 118) (np := 3) (args := [fd_R 141, fd_R 14, fd_R 19]) (r1 := none) (M1 := (fd_take1 M)) (st' := []) rfl rfl rfl rfl rfl rfl (rfl) (fd_s_take1 M (fd_HR148 hI) hH hz h6 h7 h67) rfl (by omega) ?_
  refine fd_u_blk 2 (C := fd_c24) (b := true) (L' := [fd_R 0, fd_I 1]) (st' := [fd_R 72]) (M' := (fd_take1 M)) rfl rfl (j := 16) rfl (rfl) ?_
  refine fd_u_call (C := fd_c24) (d0 := 7) (mid := 157) (np := 1) (args := [fd_R 72]) (r1 := some (fd_I (fd_sum (fd_dueC M) (M 3 2).toNat))) (M1 := (fd_take1 M)) (st' := [fd_I (fd_sum (fd_dueC M) (M 3 2).toNat)]) rfl rfl rfl rfl rfl rfl (rfl) (zD) rfl (by omega) ?_
  refine fd_u_ret (C := fd_c24) (b := true) (r' := some (fd_I (fd_sum (fd_dueC M) (M 3 2).toNat))) rfl rfl rfl (rfl) ?_ ?_
  · rfl
  · rfl

theorem fd_f_back1 (M : fd_M) (hG : fd_CG M) (hI : fd_IM M) (hH : fd_HR M 20 21) (k0 : 0 ≤ M 83 2 ∧ M 83 2 ≤ 1) (k1 : 0 ≤ M 141 2 ∧ M 141 2 ≤ 1) (z0 : 0 ≤ M 89 1 ∧ M 89 1 ≤ 10) (z1 : 0 ≤ M 147 1 ∧ M 147 1 ≤ 10) (i0 : fd_SG M 84) (i1 : fd_SG M 142) (j0 : fd_S67 M 90) (j1 : fd_S67 M 148) : fd_run 8 25 5 [fd_R 0, fd_I 1] [] M (some (fd_I (if M 141 2 = 0 then -2 else fd_sum (fd_dueC (fd_give1 M)) (M 3 2).toNat))) (if M 141 2 = 0 then M else fd_give1 M) := by
  have h6 : 0 ≤ M 142 6 ∧ M 142 6 ≤ 1 := i1.2.2.2.2.2.2.1
  have h7 : 0 ≤ M 142 7 ∧ M 142 7 ≤ 1 := i1.2.2.2.2.2.2.2
  have zG : fd_CG (fd_give1 M) := fd_CG_of (fd_CG_cps (b := 142) (by omega) hG i1) ((fd_give1_fr hH z1 (c := 3) (by omega)).trans (fd_cps_fr (by omega)).symm) ((fd_give1_fr hH z1 (c := 4) (by omega)).trans (fd_cps_fr (by omega)).symm) (fd_give1_sc hH z1 (c := 14) (by omega)) (fd_give1_sc hH z1 (c := 15) (by omega)) (fd_give1_sc hH z1 (c := 16) (by omega)) (fd_give1_sc hH z1 (c := 17) (by omega)) (fd_give1_sc hH z1 (c := 18) (by omega))
  have zD : fd_call 7 157 [fd_R 72] (fd_give1 M) (some (fd_I (fd_sum (fd_dueC (fd_give1 M)) (M 3 2).toNat))) (fd_give1 M) := by
    have z := fd_s_dueOfAll (fd_give1 M) zG
    rw [fd_give1_fr hH z1 (c := 3) (by omega)] at z
    exact z
  have m0 := hI.1
  have m1 := hI.2.1
  refine fd_u_blk 4 (C := fd_c25) (b := (((false || fd_inb 1 2) && Nat.blt (M 71 1).toNat 1000) && true)) (L' := [fd_R 0, fd_I 1]) (st' := [fd_R ((M 71 1).toNat)]) (M' := M) rfl rfl (j := 9) rfl (fd_bA (fd_bA (by rw [fd_bI (i := 1) (n := 2) (by omega) (by omega)]; rfl) (by rw [Nat.blt_eq]; omega)) (rfl)) ?_
  rw [show (M 71 1).toNat = 141 by omega]
  refine fd_u_blk 1 (C := fd_c25) (b := true) (L' := [fd_R 0, fd_I 1]) (st' := [fd_I (M 141 2)]) (M' := M) rfl rfl (j := 10) rfl (rfl) ?_
  refine fd_u_br (C := fd_c25) (t := 13) (e := 11) (st' := []) (c := ¬ (M 141 2) = 0) (b := (fd_rng (M 141 2))) rfl rfl rfl (fd_bR (by omega) (by omega)) (fun h10 => ?_) (fun h10 => ?_)
  · refine fd_u_blk 4 (C := fd_c25) (b := (((false || fd_inb 1 2) && Nat.blt (M 71 1).toNat 1000) && true)) (L' := [fd_R 0, fd_I 1]) (st' := [fd_R ((M 71 1).toNat)]) (M' := M) rfl rfl (j := 17) rfl (fd_bA (fd_bA (by rw [fd_bI (i := 1) (n := 2) (by omega) (by omega)]; rfl) (by rw [Nat.blt_eq]; omega)) (rfl)) ?_
    rw [show (M 71 1).toNat = 141 by omega]
    refine fd_u_blk 4 (C := fd_c25) (b := true) (L' := [fd_R 0, fd_I 1]) (st' := [fd_R 19, fd_R 14, fd_R 141]) (M' := M) rfl rfl (j := 21) rfl (rfl) ?_
    refine fd_u_call (C := fd_c25) (d0 := 2) (mid := 119) (np := 3) (args := [fd_R 141, fd_R 14, fd_R 19]) (r1 := none) (M1 := (fd_give1 M)) (st' := []) rfl rfl rfl rfl rfl rfl (rfl) (fd_s_give1 M hH (fd_HR148 hI) z1 h6 h7 j1) rfl (by omega) ?_
    refine fd_u_blk 2 (C := fd_c25) (b := true) (L' := [fd_R 0, fd_I 1]) (st' := [fd_R 72]) (M' := (fd_give1 M)) rfl rfl (j := 24) rfl (rfl) ?_
    refine fd_u_call (C := fd_c25) (d0 := 7) (mid := 157) (np := 1) (args := [fd_R 72]) (r1 := some (fd_I (fd_sum (fd_dueC (fd_give1 M)) (M 3 2).toNat))) (M1 := (fd_give1 M)) (st' := [fd_I (fd_sum (fd_dueC (fd_give1 M)) (M 3 2).toNat)]) rfl rfl rfl rfl rfl rfl (rfl) (zD) rfl (by omega) ?_
    refine fd_u_ret (C := fd_c25) (b := true) (r' := some (fd_I (fd_sum (fd_dueC (fd_give1 M)) (M 3 2).toNat))) rfl rfl rfl (rfl) ?_ ?_
    · rw [if_neg (by omega)]
    · rw [if_neg (by omega)]
  · refine fd_u_blk 1 (C := fd_c25) (b := true) (L' := [fd_R 0, fd_I 1]) (st' := [fd_I (-2)]) (M' := M) rfl rfl (j := 12) rfl (rfl) ?_
    refine fd_u_ret (C := fd_c25) (b := true) (r' := some (fd_I (-2))) rfl rfl rfl (rfl) ?_ ?_
    · rw [if_pos (by omega)]
    · rw [if_pos (by omega)]

theorem fd_x_keep (M : fd_M) (hG : fd_CG M) (hI : fd_IM M) (hH : fd_HR M 20 21) (hz : 0 ≤ M 19 1 ∧ M 19 1 ≤ 10) (h67 : fd_S67 M 20) (w : Int) (hw : -2147483648 ≤ w ∧ w < 2147483648) : fd_call 8 24 [fd_R 0, fd_I w] M (some (fd_I (fd_X_keep M w))) (fd_Y_keep M w) := by
  refine fd_u_in (L := [fd_R 0, fd_I w]) rfl ?_
  refine fd_u_blk 1 (C := fd_c24) (b := true) (L' := [fd_R 0, fd_I w]) (st' := [fd_I w]) (M' := M) rfl rfl (j := 1) rfl (rfl) ?_
  refine fd_u_call (C := fd_c24) (d0 := 0) (mid := 42) (np := 1) (args := [fd_I w]) (r1 := some (fd_I (fd_bi (0 ≤ w ∧ w < 2)))) (M1 := M) (st' := [fd_I (fd_bi (0 ≤ w ∧ w < 2))]) rfl rfl rfl rfl rfl rfl (rfl) (fd_s_isImage M w (by omega)) rfl (by omega) ?_
  refine fd_u_br (C := fd_c24) (t := 5) (e := 3) (st' := []) (c := ¬ (fd_bi (0 ≤ w ∧ w < 2)) = 0) (b := (fd_rng (fd_bi (0 ≤ w ∧ w < 2)))) rfl rfl rfl (fd_biR) (fun h2 => ?_) (fun h2 => ?_)
  · have h2 := fd_biT.mp h2
    rw [fd_X_keep, fd_Y_keep, if_neg (show ¬ ¬ (0 ≤ w ∧ w < 2) by omega), if_neg (show ¬ ¬ (0 ≤ w ∧ w < 2) by omega)]
    rcases (show w = 0 ∨ w = 1 by omega) with e | e
    · rw [e]
      exact fd_f_keep0 M hG hI hH hz h67
    · rw [e]
      exact fd_f_keep1 M hG hI hH hz h67
  · have h2 := fd_biF2  h2
    refine fd_u_blk 1 (C := fd_c24) (b := true) (L' := [fd_R 0, fd_I w]) (st' := [fd_I (-1)]) (M' := M) rfl rfl (j := 4) rfl (rfl) ?_
    refine fd_u_ret (C := fd_c24) (b := true) (r' := some (fd_I (-1))) rfl rfl rfl (rfl) ?_ ?_
    · rw [fd_X_keep, if_pos (show ¬ (0 ≤ w ∧ w < 2) by omega)]
    · rw [fd_Y_keep, if_pos (show ¬ (0 ≤ w ∧ w < 2) by omega)]

theorem fd_x_back (M : fd_M) (hG : fd_CG M) (hI : fd_IM M) (hH : fd_HR M 20 21) (k0 : 0 ≤ M 83 2 ∧ M 83 2 ≤ 1) (k1 : 0 ≤ M 141 2 ∧ M 141 2 ≤ 1) (z0 : 0 ≤ M 89 1 ∧ M 89 1 ≤ 10) (z1 : 0 ≤ M 147 1 ∧ M 147 1 ≤ 10) (i0 : fd_SG M 84) (i1 : fd_SG M 142) (j0 : fd_S67 M 90) (j1 : fd_S67 M 148) (w : Int) (hw : -2147483648 ≤ w ∧ w < 2147483648) : fd_call 8 25 [fd_R 0, fd_I w] M (some (fd_I (fd_X_back M w))) (fd_Y_back M w) := by
  refine fd_u_in (L := [fd_R 0, fd_I w]) rfl ?_
  refine fd_u_blk 1 (C := fd_c25) (b := true) (L' := [fd_R 0, fd_I w]) (st' := [fd_I w]) (M' := M) rfl rfl (j := 1) rfl (rfl) ?_
  refine fd_u_call (C := fd_c25) (d0 := 0) (mid := 42) (np := 1) (args := [fd_I w]) (r1 := some (fd_I (fd_bi (0 ≤ w ∧ w < 2)))) (M1 := M) (st' := [fd_I (fd_bi (0 ≤ w ∧ w < 2))]) rfl rfl rfl rfl rfl rfl (rfl) (fd_s_isImage M w (by omega)) rfl (by omega) ?_
  refine fd_u_br (C := fd_c25) (t := 5) (e := 3) (st' := []) (c := ¬ (fd_bi (0 ≤ w ∧ w < 2)) = 0) (b := (fd_rng (fd_bi (0 ≤ w ∧ w < 2)))) rfl rfl rfl (fd_biR) (fun h2 => ?_) (fun h2 => ?_)
  · have h2 := fd_biT.mp h2
    rw [fd_X_back, fd_Y_back, if_neg (show ¬ ¬ (0 ≤ w ∧ w < 2) by omega), if_neg (show ¬ ¬ (0 ≤ w ∧ w < 2) by omega)]
    rcases (show w = 0 ∨ w = 1 by omega) with e | e
    · rw [e]
      exact fd_f_back0 M hG hI hH k0 k1 z0 z1 i0 i1 j0 j1
    · rw [e]
      exact fd_f_back1 M hG hI hH k0 k1 z0 z1 i0 i1 j0 j1
  · have h2 := fd_biF2  h2
    refine fd_u_blk 1 (C := fd_c25) (b := true) (L' := [fd_R 0, fd_I w]) (st' := [fd_I (-1)]) (M' := M) rfl rfl (j := 4) rfl (rfl) ?_
    refine fd_u_ret (C := fd_c25) (b := true) (r' := some (fd_I (-1))) rfl rfl rfl (rfl) ?_ ?_
    · rw [fd_X_back, if_pos (show ¬ (0 ≤ w ∧ w < 2) by omega)]
    · rw [fd_Y_back, if_pos (show ¬ (0 ≤ w ∧ w < 2) by omega)]
end
